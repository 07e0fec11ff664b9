section
-- ===== PART A: goes FIRST, ahead of the names: the tables' words, and 'selects' of the private methods out of them =====
/-- a private method of a class that the tables say can be made, by its rows of tables_1 -/
def lw_okq (q : MethodName × Nat) : Prop := (q.1.cls ≠ "java/lang/invoke/MethodHandle" ∧ q.1.cls ≠ "java/lang/invoke/VarHandle") ∧ Cond.instantiable q.1.cls q.2 ∈ tables_1 ∧ Cond.privateMethod q.1 ∈ tables_1 ∧ Cond.instanceMethod q.1 ∈ tables_1
theorem lw_p0 : lw_okq (⟨"Board", "setAllAsAtFirst", "()V"⟩, 13) := ⟨⟨by decide +kernel, by decide +kernel⟩, List.mem_of_getElem? (i := 13) (by decide +kernel), List.mem_of_getElem? (i := 21) (by decide +kernel), List.mem_of_getElem? (i := 22) (by decide +kernel)⟩
theorem lw_p1 : lw_okq (⟨"Board", "forgetMoves", "()V"⟩, 13) := ⟨⟨by decide +kernel, by decide +kernel⟩, List.mem_of_getElem? (i := 13) (by decide +kernel), List.mem_of_getElem? (i := 25) (by decide +kernel), List.mem_of_getElem? (i := 26) (by decide +kernel)⟩
theorem lw_p2 : lw_okq (⟨"Board", "goes", "(II)Z"⟩, 13) := ⟨⟨by decide +kernel, by decide +kernel⟩, List.mem_of_getElem? (i := 13) (by decide +kernel), List.mem_of_getElem? (i := 111) (by decide +kernel), List.mem_of_getElem? (i := 112) (by decide +kernel)⟩
theorem lw_p3 : lw_okq (⟨"Board", "pawnSteps", "(II)Z"⟩, 13) := ⟨⟨by decide +kernel, by decide +kernel⟩, List.mem_of_getElem? (i := 13) (by decide +kernel), List.mem_of_getElem? (i := 115) (by decide +kernel), List.mem_of_getElem? (i := 116) (by decide +kernel)⟩
theorem lw_p4 : lw_okq (⟨"Board", "isFree", "(I)Z"⟩, 13) := ⟨⟨by decide +kernel, by decide +kernel⟩, List.mem_of_getElem? (i := 13) (by decide +kernel), List.mem_of_getElem? (i := 122) (by decide +kernel), List.mem_of_getElem? (i := 123) (by decide +kernel)⟩
theorem lw_p5 : lw_okq (⟨"Board", "pawnTakes", "(II)Z"⟩, 13) := ⟨⟨by decide +kernel, by decide +kernel⟩, List.mem_of_getElem? (i := 13) (by decide +kernel), List.mem_of_getElem? (i := 132) (by decide +kernel), List.mem_of_getElem? (i := 133) (by decide +kernel)⟩
theorem lw_p6 : lw_okq (⟨"Board", "canBeTakenInPassing", "(I)Z"⟩, 13) := ⟨⟨by decide +kernel, by decide +kernel⟩, List.mem_of_getElem? (i := 13) (by decide +kernel), List.mem_of_getElem? (i := 148) (by decide +kernel), List.mem_of_getElem? (i := 149) (by decide +kernel)⟩
theorem lw_p7 : lw_okq (⟨"Board", "squareBehind", "(I)I"⟩, 13) := ⟨⟨by decide +kernel, by decide +kernel⟩, List.mem_of_getElem? (i := 13) (by decide +kernel), List.mem_of_getElem? (i := 152) (by decide +kernel), List.mem_of_getElem? (i := 153) (by decide +kernel)⟩
theorem lw_p8 : lw_okq (⟨"Board", "holds", "(II)Z"⟩, 13) := ⟨⟨by decide +kernel, by decide +kernel⟩, List.mem_of_getElem? (i := 13) (by decide +kernel), List.mem_of_getElem? (i := 156) (by decide +kernel), List.mem_of_getElem? (i := 157) (by decide +kernel)⟩
theorem lw_p9 : lw_okq (⟨"Board", "attacks", "(II)Z"⟩, 13) := ⟨⟨by decide +kernel, by decide +kernel⟩, List.mem_of_getElem? (i := 13) (by decide +kernel), List.mem_of_getElem? (i := 160) (by decide +kernel), List.mem_of_getElem? (i := 161) (by decide +kernel)⟩
theorem lw_p10 : lw_okq (⟨"Board", "isOpen", "(II)Z"⟩, 13) := ⟨⟨by decide +kernel, by decide +kernel⟩, List.mem_of_getElem? (i := 13) (by decide +kernel), List.mem_of_getElem? (i := 164) (by decide +kernel), List.mem_of_getElem? (i := 165) (by decide +kernel)⟩
theorem lw_p11 : lw_okq (⟨"Board", "castles", "(II)Z"⟩, 13) := ⟨⟨by decide +kernel, by decide +kernel⟩, List.mem_of_getElem? (i := 13) (by decide +kernel), List.mem_of_getElem? (i := 174) (by decide +kernel), List.mem_of_getElem? (i := 175) (by decide +kernel)⟩
theorem lw_p12 : lw_okq (⟨"java/lang/Throwable", "fillInStackTrace", "(I)Ljava/lang/Throwable;"⟩, 6) := ⟨⟨by decide +kernel, by decide +kernel⟩, List.mem_of_getElem? (i := 243) (by decide +kernel), List.mem_of_getElem? (i := 241) (by decide +kernel), List.mem_of_getElem? (i := 242) (by decide +kernel)⟩
theorem lw_p13 : lw_okq (⟨"Board", "piecesOnBoard", "()I"⟩, 13) := ⟨⟨by decide +kernel, by decide +kernel⟩, List.mem_of_getElem? (i := 13) (by decide +kernel), List.mem_of_getElem? (i := 308) (by decide +kernel), List.mem_of_getElem? (i := 309) (by decide +kernel)⟩
theorem lw_p14 : lw_okq (⟨"Board", "material", "(I)I"⟩, 13) := ⟨⟨by decide +kernel, by decide +kernel⟩, List.mem_of_getElem? (i := 13) (by decide +kernel), List.mem_of_getElem? (i := 319) (by decide +kernel), List.mem_of_getElem? (i := 320) (by decide +kernel)⟩
theorem lw_p15 : lw_okq (⟨"Board", "squareTaken", "(II)I"⟩, 13) := ⟨⟨by decide +kernel, by decide +kernel⟩, List.mem_of_getElem? (i := 13) (by decide +kernel), List.mem_of_getElem? (i := 381) (by decide +kernel), List.mem_of_getElem? (i := 382) (by decide +kernel)⟩
def lw_privs_1 : List (MethodName × Nat) := [(⟨"Board", "setAllAsAtFirst", "()V"⟩, 13), (⟨"Board", "forgetMoves", "()V"⟩, 13), (⟨"Board", "goes", "(II)Z"⟩, 13), (⟨"Board", "pawnSteps", "(II)Z"⟩, 13), (⟨"Board", "isFree", "(I)Z"⟩, 13), (⟨"Board", "pawnTakes", "(II)Z"⟩, 13), (⟨"Board", "canBeTakenInPassing", "(I)Z"⟩, 13), (⟨"Board", "squareBehind", "(I)I"⟩, 13), (⟨"Board", "holds", "(II)Z"⟩, 13), (⟨"Board", "attacks", "(II)Z"⟩, 13), (⟨"Board", "isOpen", "(II)Z"⟩, 13), (⟨"Board", "castles", "(II)Z"⟩, 13), (⟨"java/lang/Throwable", "fillInStackTrace", "(I)Ljava/lang/Throwable;"⟩, 6), (⟨"Board", "piecesOnBoard", "()I"⟩, 13), (⟨"Board", "material", "(I)I"⟩, 13), (⟨"Board", "squareTaken", "(II)I"⟩, 13)]
theorem lw_r1 : ∀ q ∈ lw_privs_1, lw_okq q := List.forall_mem_cons.mpr ⟨lw_p0, List.forall_mem_cons.mpr ⟨lw_p1, List.forall_mem_cons.mpr ⟨lw_p2, List.forall_mem_cons.mpr ⟨lw_p3, List.forall_mem_cons.mpr ⟨lw_p4, List.forall_mem_cons.mpr ⟨lw_p5, List.forall_mem_cons.mpr ⟨lw_p6, List.forall_mem_cons.mpr ⟨lw_p7, List.forall_mem_cons.mpr ⟨lw_p8, List.forall_mem_cons.mpr ⟨lw_p9, List.forall_mem_cons.mpr ⟨lw_p10, List.forall_mem_cons.mpr ⟨lw_p11, List.forall_mem_cons.mpr ⟨lw_p12, List.forall_mem_cons.mpr ⟨lw_p13, List.forall_mem_cons.mpr ⟨lw_p14, List.forall_mem_cons.mpr ⟨lw_p15, fun _ h => absurd h List.not_mem_nil⟩⟩⟩⟩⟩⟩⟩⟩⟩⟩⟩⟩⟩⟩⟩⟩
theorem lw_p16 : lw_okq (⟨"Board", "remember", "(III)V"⟩, 13) := ⟨⟨by decide +kernel, by decide +kernel⟩, List.mem_of_getElem? (i := 13) (by decide +kernel), List.mem_of_getElem? (i := 385) (by decide +kernel), List.mem_of_getElem? (i := 386) (by decide +kernel)⟩
theorem lw_p17 : lw_okq (⟨"Board", "carryOver", "(II)V"⟩, 13) := ⟨⟨by decide +kernel, by decide +kernel⟩, List.mem_of_getElem? (i := 13) (by decide +kernel), List.mem_of_getElem? (i := 389) (by decide +kernel), List.mem_of_getElem? (i := 390) (by decide +kernel)⟩
theorem lw_p18 : lw_okq (⟨"Board", "shift", "(II)V"⟩, 13) := ⟨⟨by decide +kernel, by decide +kernel⟩, List.mem_of_getElem? (i := 13) (by decide +kernel), List.mem_of_getElem? (i := 396) (by decide +kernel), List.mem_of_getElem? (i := 397) (by decide +kernel)⟩
theorem lw_p19 : lw_okq (⟨"Board", "passingBehind", "(II)I"⟩, 13) := ⟨⟨by decide +kernel, by decide +kernel⟩, List.mem_of_getElem? (i := 13) (by decide +kernel), List.mem_of_getElem? (i := 403) (by decide +kernel), List.mem_of_getElem? (i := 404) (by decide +kernel)⟩
theorem lw_p20 : lw_okq (⟨"Board", "carryBack", "(III)V"⟩, 13) := ⟨⟨by decide +kernel, by decide +kernel⟩, List.mem_of_getElem? (i := 13) (by decide +kernel), List.mem_of_getElem? (i := 415) (by decide +kernel), List.mem_of_getElem? (i := 416) (by decide +kernel)⟩
theorem lw_p21 : lw_okq (⟨"BoardModel", "pieces", "()I"⟩, 11) := ⟨⟨by decide +kernel, by decide +kernel⟩, List.mem_of_getElem? (i := 430) (by decide +kernel), List.mem_of_getElem? (i := 494) (by decide +kernel), List.mem_of_getElem? (i := 495) (by decide +kernel)⟩
theorem lw_p22 : lw_okq (⟨"BoardModel", "attacks", "(II)Z"⟩, 11) := ⟨⟨by decide +kernel, by decide +kernel⟩, List.mem_of_getElem? (i := 430) (by decide +kernel), List.mem_of_getElem? (i := 513) (by decide +kernel), List.mem_of_getElem? (i := 514) (by decide +kernel)⟩
theorem lw_p23 : lw_okq (⟨"BoardModel", "isFree", "(II)Z"⟩, 11) := ⟨⟨by decide +kernel, by decide +kernel⟩, List.mem_of_getElem? (i := 430) (by decide +kernel), List.mem_of_getElem? (i := 523) (by decide +kernel), List.mem_of_getElem? (i := 524) (by decide +kernel)⟩
theorem lw_p24 : lw_okq (⟨"BoardModel", "isAttacked", "(II)Z"⟩, 11) := ⟨⟨by decide +kernel, by decide +kernel⟩, List.mem_of_getElem? (i := 430) (by decide +kernel), List.mem_of_getElem? (i := 531) (by decide +kernel), List.mem_of_getElem? (i := 532) (by decide +kernel)⟩
theorem lw_p25 : lw_okq (⟨"BoardModel", "isMove", "(I)Z"⟩, 11) := ⟨⟨by decide +kernel, by decide +kernel⟩, List.mem_of_getElem? (i := 430) (by decide +kernel), List.mem_of_getElem? (i := 539) (by decide +kernel), List.mem_of_getElem? (i := 540) (by decide +kernel)⟩
theorem lw_p26 : lw_okq (⟨"BoardModel", "pawnGoes", "(II)Z"⟩, 11) := ⟨⟨by decide +kernel, by decide +kernel⟩, List.mem_of_getElem? (i := 430) (by decide +kernel), List.mem_of_getElem? (i := 543) (by decide +kernel), List.mem_of_getElem? (i := 544) (by decide +kernel)⟩
theorem lw_p27 : lw_okq (⟨"BoardModel", "takesPassing", "(II)Z"⟩, 11) := ⟨⟨by decide +kernel, by decide +kernel⟩, List.mem_of_getElem? (i := 430) (by decide +kernel), List.mem_of_getElem? (i := 547) (by decide +kernel), List.mem_of_getElem? (i := 548) (by decide +kernel)⟩
theorem lw_p28 : lw_okq (⟨"BoardModel", "castles", "(II)Z"⟩, 11) := ⟨⟨by decide +kernel, by decide +kernel⟩, List.mem_of_getElem? (i := 430) (by decide +kernel), List.mem_of_getElem? (i := 551) (by decide +kernel), List.mem_of_getElem? (i := 552) (by decide +kernel)⟩
theorem lw_p29 : lw_okq (⟨"BoardModel", "keep", "(I)V"⟩, 11) := ⟨⟨by decide +kernel, by decide +kernel⟩, List.mem_of_getElem? (i := 430) (by decide +kernel), List.mem_of_getElem? (i := 559) (by decide +kernel), List.mem_of_getElem? (i := 560) (by decide +kernel)⟩
theorem lw_p30 : lw_okq (⟨"BoardModel", "pawnAttacks", "(II)Z"⟩, 11) := ⟨⟨by decide +kernel, by decide +kernel⟩, List.mem_of_getElem? (i := 430) (by decide +kernel), List.mem_of_getElem? (i := 566) (by decide +kernel), List.mem_of_getElem? (i := 567) (by decide +kernel)⟩
theorem lw_p31 : lw_okq (⟨"BoardModel", "material", "(I)I"⟩, 11) := ⟨⟨by decide +kernel, by decide +kernel⟩, List.mem_of_getElem? (i := 430) (by decide +kernel), List.mem_of_getElem? (i := 604) (by decide +kernel), List.mem_of_getElem? (i := 605) (by decide +kernel)⟩
def lw_privs_2 : List (MethodName × Nat) := [(⟨"Board", "remember", "(III)V"⟩, 13), (⟨"Board", "carryOver", "(II)V"⟩, 13), (⟨"Board", "shift", "(II)V"⟩, 13), (⟨"Board", "passingBehind", "(II)I"⟩, 13), (⟨"Board", "carryBack", "(III)V"⟩, 13), (⟨"BoardModel", "pieces", "()I"⟩, 11), (⟨"BoardModel", "attacks", "(II)Z"⟩, 11), (⟨"BoardModel", "isFree", "(II)Z"⟩, 11), (⟨"BoardModel", "isAttacked", "(II)Z"⟩, 11), (⟨"BoardModel", "isMove", "(I)Z"⟩, 11), (⟨"BoardModel", "pawnGoes", "(II)Z"⟩, 11), (⟨"BoardModel", "takesPassing", "(II)Z"⟩, 11), (⟨"BoardModel", "castles", "(II)Z"⟩, 11), (⟨"BoardModel", "keep", "(I)V"⟩, 11), (⟨"BoardModel", "pawnAttacks", "(II)Z"⟩, 11), (⟨"BoardModel", "material", "(I)I"⟩, 11)]
theorem lw_r2 : ∀ q ∈ lw_privs_2, lw_okq q := List.forall_mem_cons.mpr ⟨lw_p16, List.forall_mem_cons.mpr ⟨lw_p17, List.forall_mem_cons.mpr ⟨lw_p18, List.forall_mem_cons.mpr ⟨lw_p19, List.forall_mem_cons.mpr ⟨lw_p20, List.forall_mem_cons.mpr ⟨lw_p21, List.forall_mem_cons.mpr ⟨lw_p22, List.forall_mem_cons.mpr ⟨lw_p23, List.forall_mem_cons.mpr ⟨lw_p24, List.forall_mem_cons.mpr ⟨lw_p25, List.forall_mem_cons.mpr ⟨lw_p26, List.forall_mem_cons.mpr ⟨lw_p27, List.forall_mem_cons.mpr ⟨lw_p28, List.forall_mem_cons.mpr ⟨lw_p29, List.forall_mem_cons.mpr ⟨lw_p30, List.forall_mem_cons.mpr ⟨lw_p31, fun _ h => absurd h List.not_mem_nil⟩⟩⟩⟩⟩⟩⟩⟩⟩⟩⟩⟩⟩⟩⟩⟩
def lw_privs : List (MethodName × Nat) := lw_privs_1 ++ (lw_privs_2)
def lw_tbl : List Cond := k2_sels lw_privs ++ tables_1
theorem lw_privs_ok : ∀ q ∈ lw_privs, lw_okq q := by
  show ∀ q ∈ lw_privs_1 ++ (lw_privs_2), lw_okq q
  exact List.forall_mem_append.mpr ⟨lw_r1, lw_r2⟩
end
section
/-! ===== BEGIN words of one list among another's, by their places ===== -/
theorem goodIn_r {big : List Cond} (ws : List Cond) (ps : List Nat) (hp : ws = ps.filterMap (fun i => big[i]?)) (h : ws.all goodWord = true) : GoodIn big ws := by
  intro w hw
  have h1 := List.all_eq_true.mp h w hw
  rw [hp] at hw
  obtain ⟨i, -, hi⟩ := List.mem_filterMap.mp hw
  have hm : w ∈ big := by first | exact List.mem_of_getElem? hi | exact List.getElem?_mem hi
  exact ⟨hm, good_of_word h1⟩
theorem goodIn_app {big a b : List Cond} (ha : GoodIn big a) (hb : GoodIn big b) : GoodIn big (a ++ b) := fun w h => (List.mem_append.mp h).elim (ha w) (hb w)
theorem goodIn_ca {big a b : List Cond} {c : Cond} (ha : GoodIn big (c :: a)) (hb : GoodIn big b) : GoodIn big (c :: (a ++ b)) := fun w h => (List.mem_cons.mp h).elim (fun e => ha w (List.mem_cons.mpr (Or.inl e))) (fun h => (List.mem_append.mp h).elim (fun h => ha w (List.mem_cons.mpr (Or.inr h))) (hb w))
theorem goodIn_sub {big ws : List Cond} (hm : ∀ w ∈ ws, w ∈ big) (h : ws.all goodWord = true) : GoodIn big ws := fun w hw => ⟨hm w hw, good_of_word (List.all_eq_true.mp h w hw)⟩
/-! ===== END ===== -/

/-! ===== BEGIN exceptions that leave a method, and their catching by the caller (launches without stack traces) ===== -/
section VXA
/-! The laws vx_back, vx_callV, vx_callS, vx_callSW, vx_throw0, vx_throwS follow proofs of the library, with one case more: JvmDerived/Free/Laws.lean (Back.of_free), Shelf42/LK1.lean (callV, callS), Shelf/KitTraced.lean (throwNew0V, throwNewS). -/
/-- where a method has thrown q: the class by its name, the cell, what was written, the world -/
def vx_T (XC : String → State → State → Prop) (st : State) (q : Addr) (t : State) (mc ms : Nat) (free : Addr → Prop) : Prop :=
  ∃ (E : String) (ce : Cell) (L : List Loc), XC E st t ∧ t.heap[q]? = some ce ∧ ce.vm = .none ∧ st.vm.findClass E = some ce.cls ∧ st.WarmedH t.vm ∧ st.sameButNew ({ t with vm := st.vm } : State) L mc ms ∧ ∀ z ∈ L, free z.base
def vx_Q (Qc : Array Value → State → Outcome → State → Prop) (XC : String → State → State → Prop) (mc ms : Nat) (free : Addr → Prop) : Array Value → State → Outcome → State → Prop := fun a st o t =>
  (Qc a st o t ∧ ∃ L, FrameEnd st o t L mc ms ∧ ∀ q ∈ L, free q.base) ∨ ∃ q, o = .threw q ∧ vx_T XC st q t mc ms free
/-- a callee that returns or throws -/
def vx_Met (l : Launch) (y : MethodName) (ws : List Cond) (rm : Room) (Pc : Array Value → State → Prop) (Qc : Array Value → State → Outcome → State → Prop) (XC : String → State → State → Prop) (mc ms : Nat) (free : Addr → Prop) : Prop :=
  MetFree l y (headSpec ws rm) Pc (fun _ _ _ _ _ => True) (vx_Q Qc XC mc ms free)
def vx_Post (XC : String → State → State → Prop) (mc ms : Nat) (free : Addr → Prop) : Pt → Array Value → Addr → Pt → Prop := fun A a q B =>
  ∃ (g : JFrame) (mk : MethodId) (t : State) (L : List Loc) (E : String) (ce : Cell), B.U.heap = t.heap ∧ B.U.vm = t.vm ∧ XC E (A.U.calling g mk a) t ∧ t.heap[q]? = some ce ∧ ce.vm = .none ∧ A.U.vm.findClass E = some ce.cls ∧ B.locs = A.locs ++ L ∧ (∀ z ∈ L, free z.base) ∧ B.cells = A.cells + mc ∧ B.slots = A.slots + ms
def vx_Back (l : Launch) (R : Room) (p : Program) (e : Env) (below : List Frame) (s : State) (sargs : Array Value) (y : MethodName) (len W9 : Nat)
    (Pre : Pt → Array Value → Prop) (Post : Pt → Array Value → Option Value → Pt → Prop) (PostX : Pt → Array Value → Addr → Pt → Prop) : Prop :=
  ∀ (m : MethodId) (meth : Method) (c : Code) (A : Pt) (g : JFrame) (ig : Instr) (mk : MethodId) (a : Array Value),
    Stand p l e R s m sargs below meth c A.U A.locs A.cells A.slots → g.method = m → g.locals.size = c.maxLocals → decode c.code g.pc = .ok (ig, len) →
    2 * g.monitorRoom + (g.stack.map fun v => v.category).sum ≤ W9 → A.U.methodNamed? y = some mk → Pre A a →
    (∃ (v : Option Value) (B : Pt), Stand p l e R s m sargs below meth c B.U B.locs B.cells B.slots ∧ Post A a v B ∧
      Steps p.tables e below (doInvoke e (A.U.setTop g) [] mk a).1 (B.U.setTop { g with pc := g.pc + len, stack := v.toList ++ g.stack })) ∨
    (∃ (q : Addr) (B : Pt), Stand p l e R s m sargs below meth c B.U B.locs B.cells B.slots ∧ PostX A a q B ∧
      Steps p.tables e below (doInvoke e (A.U.setTop g) [] mk a).1 ((B.U.setTop g).pushFrame (.throwing q)))
section Payer
variable {l : Launch} {R : Room} {p : Program} {e : Env} {below : List Frame} {s : State} {sargs : Array Value} {y : MethodName} {len W9 : Nat}
theorem vx_back {ws : List Cond} {rm : Room} {Pc : Array Value → State → Prop} {Qc : Array Value → State → Outcome → State → Prop} {XC : String → State → State → Prop} {mc ms : Nat} {free : Addr → Prop} {bytes : ByteArray} {maxL : Nat} {ret : Option FieldType}
    (hM : vx_Met l y ws rm Pc Qc XC mc ms free) (hblind : FrameBlind Pc) (hrc : rm.cells = mc) (hrs : rm.slots = ms)
    (hframes : rm.frames + 1 ≤ R.frames) (hlocals : W9 + (maxL + 11) + rm.locals ≤ R.locals)
    (hws : ∀ w ∈ ws, ∀ a' U, s.WarmedH U.vm → w.before a' U = true) (hcode : Cond.code y bytes maxL ret ∈ ws) (hinit : ∀ a' U, s.WarmedH U.vm → (Cond.initialized y.cls).before a' U = true) :
    vx_Back l R p e below s sargs y len W9 (PreOf R mc ms Pc) (PostOf Qc mc ms free) (vx_Post XC mc ms free) := by
  intro m meth c A g ig mk a X hg hsize hdg hW hn hp
  have h1 : (headSpec ws rm).pre.before a A.U = true := atoms_intro fun w hw => hws w hw _ _ X.warmed
  have h2 : (Cond.code y bytes maxL ret).before a A.U = true := hws _ hcode _ _ X.warmed
  have h3 : (Cond.initialized y.cls).before a A.U = true := hinit _ _ X.warmed
  have h4 : A.cells + (headSpec ws rm).room.cells ≤ R.cells := by rw [show (headSpec ws rm).room.cells = mc from hrc]; exact hp.1
  have h5 : A.slots + (headSpec ws rm).room.slots ≤ R.slots := by rw [show (headSpec ws rm).room.slots = ms from hrs]; exact hp.2.1
  have hPc : Pc a (A.U.calling g mk a) := hblind _ _ _ _ hp.2.2
  obtain ⟨U, Ls, c0, s0⟩ := A
  dsimp only [Pt.U, Pt.locs, Pt.cells, Pt.slots] at h1 h2 h3 h4 h5 X hn hPc ⊢
  obtain ⟨methY, cY, hmY, hcY, -, hlY, -, -, -, -⟩ := Cond.code_spec hn h2
  obtain ⟨kY, hkY, -⟩ := className_of_methodNamed hn
  have hinitY : kY.init = .initialized := Cond.initialized_spec (findClass_of_methodNamed hn) hkY h3
  have h : At U g.method c below := by rw [hg]; exact X.here
  have hlocals9 : W9 + (maxL + 11) + (headSpec ws rm).room.locals ≤ R.locals := hlocals
  have happ : (headSpec ws rm).appliesLoose y e.platform (U.calling g mk a) = true :=
    Spec.appliesLoose_calling (g := g) h hdg hn hkY hinitY
      (X.room_calling (g := g) (R' := (headSpec ws rm).room) hsize hmY hcY hframes (by rw [hlY]; omega) h4 h5) h1
  obtain ⟨mid, hmid⟩ := h.above
  have hfr : (U.setTop g).frames = (.java g :: mid) ++ below := by rw [State.frames_setTop' g h.top, hmid]; rfl
  obtain ⟨o, s₂, hsteps, -, hend, hq⟩ := Steps.callFree hM p X.admits X.cas X.clock (acts := []) hfr happ hPc trivial
  have hq' : vx_Q Qc XC mc ms free a (U.calling g mk a) o s₂ := hq
  rw [State.frames_setTop' g h.top] at hend
  obtain ⟨g₀, hg0⟩ := Option.isSome_iff_exists.mp h.top
  obtain ⟨r, hr⟩ := State.topJava?_eq_some.mp hg0
  have hr' : (({ U with heap := s₂.heap, slotsUsed := s₂.slotsUsed } : State).setVm s₂.vm).frames = .java g₀ :: r := hr
  rcases hq' with ⟨hqc, L, hfe, hL⟩ | ⟨q, rfl, E, ce, L, hx, hce, hcv, hcl, hW₂, hsm, hL⟩
  · obtain ⟨⟨v, rfl⟩, hW₂, e2, q2, q3, q4, q5, q6⟩ := id hfe
    have e3 : s₂ = ({ (U.calling g mk a).setFrames s₂.frames with heap := s₂.heap, slotsUsed := s₂.slotsUsed } : State).setVm s₂.vm := by
      have : s₂ = ({ s₂ with vm := (U.calling g mk a).vm } : State).setVm s₂.vm := rfl
      rw [e2] at this
      exact this
    obtain ⟨c₂, i₂, len₂, hc₂, hd₂, hf₂⟩ := hend
    have hW' : U.WarmedH s₂.vm := hW₂
    have hcc : c₂ = c := by
      have h1 : s₂.code? g.method = U.code? g.method := by
        rw [State.code?_eq, State.code?_eq, hW'.alike.method?]
      exact Option.some.inj (hc₂.symm.trans (h1.trans h.code))
    subst hcc
    have hlen : len₂ = len := by rw [hdg] at hd₂; cases hd₂; rfl
    subst hlen
    have hs₂ : s₂ = (({ U with heap := s₂.heap, slotsUsed := s₂.slotsUsed } : State).setVm s₂.vm).setTop { g with pc := g.pc + len₂, stack := v.toList ++ g.stack } := by
      refine e3.trans ?_
      rw [hf₂, State.calling_eq h.top, State.setFrames_setFrames, State.setTop_of_frames _ hr', hr]
      rfl
    have hsame : U.sameButNew ({ U with heap := s₂.heap, slotsUsed := s₂.slotsUsed } : State) L mc ms := by
      refine ⟨?_, q2, q3, q4, q5, q6⟩
      obtain ⟨t, ht, -⟩ := State.frames_cons hr
      show ({ U with heap := s₂.heap, slotsUsed := s₂.slotsUsed } : State) = { U.setFrames U.frames with heap := s₂.heap, slotsUsed := s₂.slotsUsed }
      rw [State.setFrames_self ht]
    subst hg
    refine Or.inl ⟨v, ⟨(({ U with heap := s₂.heap, slotsUsed := s₂.slotsUsed } : State).setVm s₂.vm), Ls ++ L, c0 + mc, s0 + ms⟩,
      ⟨X.admits, X.cas, X.clock, X.frames, X.room, X.hears, X.method, X.code, (X.here.setHeapUsed s₂.heap s₂.slotsUsed).setVm hW'.alike, X.tail, State.WarmedH.trans X.warmed hW', X.limits, X.bytes, X.same.trans (hsame.setVm s.vm)⟩,
      ⟨g, mk, s₂, L, rfl, rfl, hqc, rfl, hL, rfl, rfl⟩, ?_⟩
    show Steps p.tables e below _ ((({ U with heap := s₂.heap, slotsUsed := s₂.slotsUsed } : State).setVm s₂.vm).setTop { g with pc := g.pc + len₂, stack := v.toList ++ g.stack })
    rw [← hs₂]
    exact hsteps
  · obtain ⟨e2, q2, q3, q4, q5, q6⟩ := id hsm
    have e3 : s₂ = ({ (U.calling g mk a).setFrames s₂.frames with heap := s₂.heap, slotsUsed := s₂.slotsUsed } : State).setVm s₂.vm := by
      have : s₂ = ({ s₂ with vm := (U.calling g mk a).vm } : State).setVm s₂.vm := rfl
      rw [e2] at this
      exact this
    have hf₂ : s₂.frames = .throwing q :: .java g :: U.frames.tail := hend
    have hW' : U.WarmedH s₂.vm := hW₂
    have hs₂ : s₂ = ((({ U with heap := s₂.heap, slotsUsed := s₂.slotsUsed } : State).setVm s₂.vm).setTop g).pushFrame (.throwing q) := by
      refine e3.trans ?_
      rw [hf₂, State.calling_eq h.top, State.setFrames_setFrames, State.pushFrame, State.frames_setTop _ hr', State.setTop_of_frames _ hr', State.setFrames_setFrames, hr]
      rfl
    have hsame : U.sameButNew ({ U with heap := s₂.heap, slotsUsed := s₂.slotsUsed } : State) L mc ms := by
      refine ⟨?_, q2, q3, q4, q5, q6⟩
      obtain ⟨t, ht, -⟩ := State.frames_cons hr
      show ({ U with heap := s₂.heap, slotsUsed := s₂.slotsUsed } : State) = { U.setFrames U.frames with heap := s₂.heap, slotsUsed := s₂.slotsUsed }
      rw [State.setFrames_self ht]
    subst hg
    refine Or.inr ⟨q, ⟨(({ U with heap := s₂.heap, slotsUsed := s₂.slotsUsed } : State).setVm s₂.vm), Ls ++ L, c0 + mc, s0 + ms⟩,
      ⟨X.admits, X.cas, X.clock, X.frames, X.room, X.hears, X.method, X.code, (X.here.setHeapUsed s₂.heap s₂.slotsUsed).setVm hW'.alike, X.tail, State.WarmedH.trans X.warmed hW', X.limits, X.bytes, X.same.trans (hsame.setVm s.vm)⟩,
      ⟨g, mk, s₂, L, E, ce, rfl, rfl, hx, hce, hcv, hcl, rfl, hL, rfl, rfl⟩, ?_⟩
    show Steps p.tables e below _ (((({ U with heap := s₂.heap, slotsUsed := s₂.slotsUsed } : State).setVm s₂.vm).setTop g).pushFrame (.throwing q))
    rw [← hs₂]
    exact hsteps
end Payer
section Calls
variable {p : Program} {l : Launch} {e : Env} {R : Room} {s : State} {m : MethodId} {args : Array Value} {below : List Frame} {meth : Method} {c : Code} {T : State} {locs : List Loc} {cells slots : Nat}
theorem vx_callV (X : Stand p l e R s m args below meth c T locs cells slots) (hexec : p.tables.exec = Jvm.exec) {own C : String} {index : Nat} {y : MethodName} {bytes : ByteArray} {maxL : Nat} {ret : Option FieldType}
    (hown : s.vm.findClass own = some m.cls) (hlink : (Cond.methodLink own index y).before args s = true) (hinst : (Cond.instanceMethod y).before args s = true) (hsel : (Cond.selects C y y).before args s = true)
    (hcode : (Cond.code y bytes maxL ret).before args s = true) (hy : y.cls ≠ "java/lang/invoke/MethodHandle" ∧ y.cls ≠ "java/lang/invoke/VarHandle")
    {W9 : Nat} {Pre : Pt → Array Value → Prop} {Post : Pt → Array Value → Option Value → Pt → Prop} {PostX : Pt → Array Value → Addr → Pt → Prop} (hK : vx_Back l R p e below s args y 3 W9 Pre Post PostX)
    {b : Addr} {cellB : Cell} (hcell : T.heap[b]? = some cellB) (hobj : cellB.vm.isStatics = false) (hcls : s.vm.findClass C = some cellB.cls)
    {g : JFrame} (hg : g.method = m) (hsize : g.locals.size = c.maxLocals) {argsL rest : List Value} (hlen : ∀ sig, parseMethodDescriptor y.desc = some sig → argsL.length = sig.parameters.length)
    (hstack : g.stack = argsL.reverse ++ .ref b :: rest) (hW : 2 * g.monitorRoom + (rest.map fun v => v.category).sum ≤ W9) (hdg : decode c.code g.pc = .ok (.invokevirtual index, 3))
    (hpre : ∀ vm₁, s.WarmedH vm₁ → Pre ⟨T.setVm vm₁, locs, cells, slots⟩ (Value.ref b :: argsL).toArray) :
    (∃ (v : Option Value) (vm₁ : Vm) (B : Pt), s.WarmedH vm₁ ∧ Stand p l e R s m args below meth c B.U B.locs B.cells B.slots ∧ Post ⟨T.setVm vm₁, locs, cells, slots⟩ (Value.ref b :: argsL).toArray v B ∧
      ∀ target, Steps p.tables e below (B.U.setTop { g with pc := g.pc + 3, stack := v.toList ++ rest }) target → Steps p.tables e below (T.setTop g) target) ∨
    (∃ (q : Addr) (vm₁ : Vm) (B : Pt), s.WarmedH vm₁ ∧ Stand p l e R s m args below meth c B.U B.locs B.cells B.slots ∧ PostX ⟨T.setVm vm₁, locs, cells, slots⟩ (Value.ref b :: argsL).toArray q B ∧
      Steps p.tables e below (T.setTop g) ((B.U.setTop { g with stack := rest }).pushFrame (.throwing q))) := by
  obtain ⟨mk, methM, hnamed, hmethM, hstM, habM⟩ := Cond.instanceMethod_spec hinst
  obtain ⟨methM', cM, hmethM', -, -, -, -, -, -, hsigM⟩ := Cond.code_spec hnamed hcode
  cases hmethM.symm.trans hmethM'
  obtain ⟨c2, r2, m2, q1, q2, q3, q4, kP, hkP, hkPi⟩ := Cond.selects_spec hsel
  cases hcls.symm.trans q1
  cases (State.methodFound?_of_named hnamed hy).symm.trans q2
  cases hnamed.symm.trans q3
  have hselP : selectMethod e.platform s.vm cellB.cls mk = .method mk := by rw [Launch.admits_selectMethod X.admits]; exact q4
  obtain ⟨vm₁, X₁, hstep₁⟩ := X.invokevirtual hexec hown hlink hnamed hmethM hstM hkP hkPi hy (a := b) (cell := cellB) hcell
    (fun z h => by rw [h] at hobj; cases hobj) hselP hmethM habM hkP hkPi (g := g) hg (argsL := argsL) (rest := rest) (hlen _ hsigM) hstack hdg
  rcases hK m meth c ⟨T.setVm vm₁, locs, cells, slots⟩ { g with stack := rest } (.invokevirtual index) mk (Value.ref b :: argsL).toArray X₁ hg hsize hdg hW (X₁.named hnamed) (hpre vm₁ X₁.warmed) with ⟨v, B, X', hpost, hsteps⟩ | ⟨q, B, X', hpost, hsteps⟩
  · exact Or.inl ⟨v, vm₁, B, X₁.warmed, X', hpost, fun target h => hstep₁ _ fun acts => by rw [doInvoke_state]; exact hsteps.trans h⟩
  · exact Or.inr ⟨q, vm₁, B, X₁.warmed, X', hpost, hstep₁ _ fun acts => by rw [doInvoke_state]; exact hsteps⟩
theorem vx_callS (X : Stand p l e R s m args below meth c T locs cells slots) (hexec : p.tables.exec = Jvm.exec) {own : String} {index : Nat} {y : MethodName} {bytes : ByteArray} {maxL : Nat} {ret : Option FieldType}
    (hown : s.vm.findClass own = some m.cls) (hlink : (Cond.methodLink own index y).before args s = true) (hstat : (Cond.static y).before args s = true) (hinit : (Cond.initialized y.cls).before args s = true)
    (hcode : (Cond.code y bytes maxL ret).before args s = true) (hy : y.cls ≠ "java/lang/invoke/MethodHandle" ∧ y.cls ≠ "java/lang/invoke/VarHandle")
    {W9 : Nat} {Pre : Pt → Array Value → Prop} {Post : Pt → Array Value → Option Value → Pt → Prop} {PostX : Pt → Array Value → Addr → Pt → Prop} (hK : vx_Back l R p e below s args y 3 W9 Pre Post PostX)
    {g : JFrame} (hg : g.method = m) (hsize : g.locals.size = c.maxLocals) {argsL rest : List Value} (hlen : ∀ sig, parseMethodDescriptor y.desc = some sig → argsL.length = sig.parameters.length)
    (hstack : g.stack = argsL.reverse ++ rest) (hW : 2 * g.monitorRoom + (rest.map fun v => v.category).sum ≤ W9) (hdg : decode c.code g.pc = .ok (.invokestatic index, 3))
    (hpre : ∀ vm₁, s.WarmedH vm₁ → Pre ⟨T.setVm vm₁, locs, cells, slots⟩ argsL.toArray) :
    (∃ (v : Option Value) (vm₁ : Vm) (B : Pt), s.WarmedH vm₁ ∧ Stand p l e R s m args below meth c B.U B.locs B.cells B.slots ∧ Post ⟨T.setVm vm₁, locs, cells, slots⟩ argsL.toArray v B ∧
      ∀ target, Steps p.tables e below (B.U.setTop { g with pc := g.pc + 3, stack := v.toList ++ rest }) target → Steps p.tables e below (T.setTop g) target) ∨
    (∃ (q : Addr) (vm₁ : Vm) (B : Pt), s.WarmedH vm₁ ∧ Stand p l e R s m args below meth c B.U B.locs B.cells B.slots ∧ PostX ⟨T.setVm vm₁, locs, cells, slots⟩ argsL.toArray q B ∧
      Steps p.tables e below (T.setTop g) ((B.U.setTop { g with stack := rest }).pushFrame (.throwing q))) := by
  obtain ⟨mk, hnamed⟩ := Cond.code_named hcode
  obtain ⟨methM, cM, hmethM, -, -, -, -, -, -, hsigM⟩ := Cond.code_spec hnamed hcode
  have hstatic : methM.isStatic = true := Cond.static_spec hnamed hmethM hstat
  obtain ⟨kP, hkP, -⟩ := className_of_methodNamed hnamed
  have hinitP : kP.init = .initialized := Cond.initialized_spec (findClass_of_methodNamed hnamed) hkP hinit
  obtain ⟨vm₁, X₁, hstep₁⟩ := X.invokestatic hexec hown hlink hnamed hmethM hstatic hkP hinitP hy (g := g) hg (argsL := argsL) (rest := rest) (hlen _ hsigM) hstack hdg
  rcases hK m meth c ⟨T.setVm vm₁, locs, cells, slots⟩ { g with stack := rest } (.invokestatic index) mk argsL.toArray X₁ hg hsize hdg hW (X₁.named hnamed) (hpre vm₁ X₁.warmed) with ⟨v, B, X', hpost, hsteps⟩ | ⟨q, B, X', hpost, hsteps⟩
  · exact Or.inl ⟨v, vm₁, B, X₁.warmed, X', hpost, fun target h => hstep₁ _ fun acts => by rw [doInvoke_state]; exact hsteps.trans h⟩
  · exact Or.inr ⟨q, vm₁, B, X₁.warmed, X', hpost, hstep₁ _ fun acts => by rw [doInvoke_state]; exact hsteps⟩
end Calls
theorem vx_cls {s : State} {T : State} {vm₁ : Vm} {E : String} {k : ClassId} (hW : s.WarmedH vm₁) (h : (T.setVm vm₁).vm.findClass E = some k) : s.vm.findClass E = some k := by
  have h1 : vm₁.findClass E = some k := h
  rw [hW.alike.findClass] at h1
  exact h1
/-- the method's frame g, with q thrown over it -/
def vx_W (p : Program) (l : Launch) (e : Env) (R : Room) (s : State) (m : MethodId) (args : Array Value) (below : List Frame) (meth : Method) (c : Code) (H : Heap) (locs : List Loc) (cells slots : Nat) (Q : State → Prop) (g : JFrame) (q : Addr) : Prop :=
  ∀ T : State, T.heap = H → Stand p l e R s m args below meth c T locs cells slots → ∃ t, Steps p.tables e below ((T.setTop g).pushFrame (.throwing q)) t ∧ Q t
def vx_Run (p : Program) (l : Launch) (e : Env) (R : Room) (s : State) (m : MethodId) (args : Array Value) (below : List Frame) (meth : Method) (c : Code) (H : Heap) (locs : List Loc) (cells slots mc ms : Nat) (g : JFrame) (rest : List Value) (Qa : State → Outcome → State → Prop) (XC : String → State → State → Prop) (free : Addr → Prop) : Prop :=
  ∀ T : State, T.heap = H → Stand p l e R s m args below meth c T locs cells slots →
    (∃ (v : Option Value) (st₀ t T' : State) (L : List Loc), st₀.heap = H ∧ Stand p l e R s m args below meth c T' (locs ++ L) (cells + mc) (slots + ms) ∧ (∀ q ∈ L, free q.base) ∧ T'.heap = t.heap ∧ T'.vm = t.vm ∧ Qa st₀ (.returned v) t ∧
      Goes p e below T g T' { g with pc := g.pc + 3, stack := v.toList ++ rest }) ∨
    (∃ (q : Addr) (st₀ t T' : State) (L : List Loc) (E : String) (ce : Cell), st₀.heap = H ∧ Stand p l e R s m args below meth c T' (locs ++ L) (cells + mc) (slots + ms) ∧ (∀ z ∈ L, free z.base) ∧ T'.heap = t.heap ∧ T'.vm = t.vm ∧ XC E st₀ t ∧ t.heap[q]? = some ce ∧ ce.vm = .none ∧ s.vm.findClass E = some ce.cls ∧
      Steps p.tables e below (T.setTop g) ((T'.setTop { g with stack := rest }).pushFrame (.throwing q)))
def vx_X {S : Type} (px : S → Prop) (B : String → S → State → Prop) (A : Nat → Prop) : String → State → State → Prop := fun E st t => ∃ u : S, px u ∧ B E u t ∧ va_F A st t
section Runs
variable {p : Program} {l : Launch} {e : Env} {R : Room} {s : State} {m : MethodId} {args : Array Value} {below : List Frame} {meth : Method} {c : Code} {H : Heap} {locs : List Loc} {cells slots : Nat}
variable {y : MethodName} {bytes cc : ByteArray} {maxL nL mc ms n index : Nat} {ret : Option FieldType} {ws : List Cond} {rm : Room} {Pc : Array Value → State → Prop} {Qc : Array Value → State → Outcome → State → Prop} {XC : String → State → State → Prop} {free : Addr → Prop} {Ts : List Cond} {own C : String} {b : Addr} {As rest : List Value} {g : JFrame}
theorem vx_callBack (cb : CallB R s args own index y bytes maxL ret ws rm mc ms n) (hM : vx_Met l y ws rm Pc Qc XC mc ms free) (hbl : FrameBlind Pc) : vx_Back l R p e below s args y 3 8 (PreOf R mc ms Pc) (PostOf Qc mc ms free) (vx_Post XC mc ms free) := by
  obtain ⟨hrc, hrs, hfr, hlo, hws, hcw, -, hini, -⟩ := cb
  exact vx_back (bytes := bytes) (maxL := maxL) (ret := ret) hM hbl hrc hrs hfr hlo hws hcw (fun a' U hW => word_at hW (Or.inl (by first | rfl | simp [Cond.onTables, Cond.keeps, Cond.steady])) hini)
theorem vx_runV (S : CallFix p m c cc nL s args Ts own) (hM : vx_Met l y ws rm Pc Qc XC mc ms free) (cw : CallW R s args own C index y bytes maxL ret ws rm mc ms n) (hp : PreV s H C b Pc As)
    (hg : g.method = m) (hn : As.length = n) (hsize : g.locals.size = nL) (hstack : g.stack = As.reverse ++ .ref b :: rest) (hW : 2 * g.monitorRoom + (rest.map fun v => v.category).sum ≤ 8) (hdg : decode cc g.pc = .ok (.invokevirtual index, 3)) (hf : cells + mc ≤ R.cells ∧ slots + ms ≤ R.slots) :
    vx_Run p l e R s m args below meth c H locs cells slots mc ms g rest (Qc (Value.ref b :: As).toArray) XC free := by
  have hK : vx_Back l R p e below s args y 3 8 (PreOf R mc ms Pc) (PostOf Qc mc ms free) (vx_Post XC mc ms free) := vx_callBack cw.1 hM hp.1
  obtain ⟨⟨-, -, -, -, -, -, hcode, -, hy, hlen, hl⟩, hin, hse⟩ := cw
  obtain ⟨hx, hb, hml, ho, -⟩ := S
  obtain ⟨-, ⟨cellB, hcB, hoB, hclB⟩, hPc⟩ := hp
  intro T hT X
  rcases vx_callV X hx (C := C) (bytes := bytes) (maxL := maxL) (ret := ret) ho hl hin hse hcode hy hK (by rw [hT]; exact hcB) hoB hclB hg (hsize.trans hml.symm) (argsL := As) (rest := rest) (fun sig h => hn.trans (hlen sig h)) hstack hW (by rw [hb]; exact hdg)
    (fun vm₁ hW₁ => ⟨hf.1, hf.2, hPc (T.setVm vm₁) hT hW₁⟩) with ⟨v, vm₁, ⟨U', l2, c2, s2⟩, hW₁, X', ⟨g', mk, t, L, e1, e2, hq, h1, hL, h2, h3⟩, st⟩ | ⟨q, vm₁, ⟨U', l2, c2, s2⟩, hW₁, X', ⟨g', mk, t, L, E, ce, e1, e2, hq, hce, hcv, hcl, h1, hL, h2, h3⟩, st⟩
  · dsimp only [Pt.U, Pt.locs, Pt.cells, Pt.slots] at X' e1 e2 h1 h2 h3 st
    subst h1; subst h2; subst h3
    exact Or.inl ⟨v, (T.setVm vm₁).calling g' mk (Value.ref b :: As).toArray, t, U', L, hT, X', hL, e1, e2, hq, st⟩
  · dsimp only [Pt.U, Pt.locs, Pt.cells, Pt.slots] at X' e1 e2 h1 h2 h3 st hcl
    subst h1; subst h2; subst h3
    exact Or.inr ⟨q, (T.setVm vm₁).calling g' mk (Value.ref b :: As).toArray, t, U', L, E, ce, hT, X', hL, e1, e2, hq, hce, hcv, vx_cls hW₁ hcl, st⟩
theorem vx_runS (S : CallFix p m c cc nL s args Ts own) (hM : vx_Met l y ws rm Pc Qc XC mc ms free) (cw : CallB R s args own index y bytes maxL ret ws rm mc ms n ∧ (Cond.static y).before args s = true) (hp : PreS s H Pc As)
    (hg : g.method = m) (hn : As.length = n) (hsize : g.locals.size = nL) (hstack : g.stack = As.reverse ++ rest) (hW : 2 * g.monitorRoom + (rest.map fun v => v.category).sum ≤ 8) (hdg : decode cc g.pc = .ok (.invokestatic index, 3)) (hf : cells + mc ≤ R.cells ∧ slots + ms ≤ R.slots) :
    vx_Run p l e R s m args below meth c H locs cells slots mc ms g rest (Qc As.toArray) XC free := by
  have hK : vx_Back l R p e below s args y 3 8 (PreOf R mc ms Pc) (PostOf Qc mc ms free) (vx_Post XC mc ms free) := vx_callBack cw.1 hM hp.1
  obtain ⟨⟨-, -, -, -, -, -, hcode, hini, hy, hlen, hl⟩, hstt⟩ := cw
  obtain ⟨hx, hb, hml, ho, -⟩ := S
  intro T hT X
  rcases vx_callS X hx (bytes := bytes) (maxL := maxL) (ret := ret) ho hl hstt hini hcode hy hK hg (hsize.trans hml.symm) (argsL := As) (rest := rest) (fun sig h => hn.trans (hlen sig h)) hstack hW (by rw [hb]; exact hdg)
    (fun vm₁ hW₁ => ⟨hf.1, hf.2, hp.2 (T.setVm vm₁) hT hW₁⟩) with ⟨v, vm₁, ⟨U', l2, c2, s2⟩, hW₁, X', ⟨g', mk, t, L, e1, e2, hq, h1, hL, h2, h3⟩, st⟩ | ⟨q, vm₁, ⟨U', l2, c2, s2⟩, hW₁, X', ⟨g', mk, t, L, E, ce, e1, e2, hq, hce, hcv, hcl, h1, hL, h2, h3⟩, st⟩
  · dsimp only [Pt.U, Pt.locs, Pt.cells, Pt.slots] at X' e1 e2 h1 h2 h3 st
    subst h1; subst h2; subst h3
    exact Or.inl ⟨v, (T.setVm vm₁).calling g' mk As.toArray, t, U', L, hT, X', hL, e1, e2, hq, st⟩
  · dsimp only [Pt.U, Pt.locs, Pt.cells, Pt.slots] at X' e1 e2 h1 h2 h3 st hcl
    subst h1; subst h2; subst h3
    exact Or.inr ⟨q, (T.setVm vm₁).calling g' mk As.toArray, t, U', L, E, ce, hT, X', hL, e1, e2, hq, hce, hcv, vx_cls hW₁ hcl, st⟩
end Runs
section Rows
variable {p : Program} {l : Launch} {e : Env} {R : Room} {s : State} {m : MethodId} {args : Array Value} {below : List Frame} {meth : Method} {c : Code} {H : Heap} {locs : List Loc} {cells slots : Nat} {Q : State → Prop}
variable {mc ms : Nat} {free : Addr → Prop} {A0 A1 : Nat → Prop} {H0 : Heap} {a : Array Value} {pc : Nat} {ls : Array Slot} {st0 rest : List Value}
theorem vx_keep {st₀ t T' : State} {L : List Loc} (h0 : st₀.heap = H) (e1 : T'.heap = t.heap) (hS : va_S A0 H0 H locs) (hA : ∀ q, q < H.size → A1 q → A0 q) (hf : ∀ q, free q → A0 q) (hL : ∀ q ∈ L, free q.base) (hF : va_F A1 st₀ t) :
    H.size ≤ T'.heap.size ∧ (∀ q : Nat, q < H.size → ¬ A1 q → T'.heap[q]? = H[q]?) ∧ va_S A0 H0 T'.heap (locs ++ L) := by
  obtain ⟨hz, hk⟩ := hF
  rw [h0] at hz hk
  exact ⟨by rw [e1]; exact hz, fun q h1 h2 => by rw [e1]; exact hk q h1 h2,
    ⟨Nat.le_trans hS.1 (by rw [e1]; exact hz), fun q h1 h2 => by rw [e1, hk q (Nat.lt_of_lt_of_le h1 hS.1) (fun z => h2 (hA q (Nat.lt_of_lt_of_le h1 hS.1) z))]; exact hS.2.1 q h1 h2, fun q hq => by
      rcases List.mem_append.mp hq with h | h
      · exact hS.2.2 q h
      · exact hf _ (hL q h)⟩⟩
theorem vx_calli {S SX : Type} {post : Int32 → S → Prop} {px : SX → Prop} {B : S → State → Prop} {BX : String → SX → State → Prop} {AX : Nat → Prop} (hr : vx_Run p l e R s m args below meth c H locs cells slots mc ms (F0 m pc ls st0) rest (va_Qi post B A1 a) (vx_X px BX AX) free) (hS : va_S A0 H0 H locs) (hA : ∀ q, q < H.size → A1 q → A0 q) (hf : ∀ q, free q → A0 q) (hAX : ∀ q, q < H.size → AX q → A0 q)
    (kx : ∀ (E : String) (ce : Cell) (q9 : Addr) (u : SX) (t : State) (H1 : Heap) (locs1 : List Loc), t.heap = H1 → s.vm.Alike t.vm → px u → BX E u t → H.size ≤ H1.size → (∀ q : Nat, q < H.size → ¬ AX q → H1[q]? = H[q]?) → va_S A0 H0 H1 locs1 → H1[q9]? = some ce → ce.vm = .none → s.vm.findClass E = some ce.cls → vx_W p l e R s m args below meth c H1 locs1 (cells + mc) (slots + ms) Q (F0 m pc ls rest) q9)
    (kk : ∀ (r : Int32) (u : S) (t : State) (H1 : Heap) (locs1 : List Loc), t.heap = H1 → s.vm.Alike t.vm → post r u → B u t → H.size ≤ H1.size → (∀ q : Nat, q < H.size → ¬ A1 q → H1[q]? = H[q]?) → va_S A0 H0 H1 locs1 → W p l e R s m args below meth c H1 locs1 (cells + mc) (slots + ms) Q (F0 m (pc + 3) ls (.int r :: rest))) : W p l e R s m args below meth c H locs cells slots Q (F0 m pc ls st0) := by
  intro T hT X
  rcases hr T hT X with ⟨v, st₀, t, T', L, h0, X', hL, e1, e2, ⟨⟨r, u, hv, hp, hb⟩, hF⟩, st⟩ | ⟨q, st₀, t, T', L, E, ce, h0, X', hL, e1, e2, ⟨u, hp, hb, hF⟩, hce, hcv, hcl, st⟩
  · cases hv
    obtain ⟨k1, k2, k3⟩ := vx_keep h0 e1 hS hA hf hL hF
    obtain ⟨t2, a1, b1⟩ := kk r u t T'.heap (locs ++ L) e1.symm (by rw [← e2]; exact X'.warmed.alike) hp hb k1 k2 k3 T' rfl X'
    exact ⟨t2, st t2 a1, b1⟩
  · obtain ⟨k1, k2, k3⟩ := vx_keep h0 e1 hS hAX hf hL hF
    obtain ⟨t2, a1, b1⟩ := kx E ce q u t T'.heap (locs ++ L) e1.symm (by rw [← e2]; exact X'.warmed.alike) hp hb k1 k2 k3 (by rw [e1]; exact hce) hcv hcl T' rfl X'
    exact ⟨t2, st.trans a1, b1⟩
theorem vx_calll {S SX : Type} {post : Int64 → S → Prop} {px : SX → Prop} {B : S → State → Prop} {BX : String → SX → State → Prop} {AX : Nat → Prop} (hr : vx_Run p l e R s m args below meth c H locs cells slots mc ms (F0 m pc ls st0) rest (va_Ql post B A1 a) (vx_X px BX AX) free) (hS : va_S A0 H0 H locs) (hA : ∀ q, q < H.size → A1 q → A0 q) (hf : ∀ q, free q → A0 q) (hAX : ∀ q, q < H.size → AX q → A0 q)
    (kx : ∀ (E : String) (ce : Cell) (q9 : Addr) (u : SX) (t : State) (H1 : Heap) (locs1 : List Loc), t.heap = H1 → s.vm.Alike t.vm → px u → BX E u t → H.size ≤ H1.size → (∀ q : Nat, q < H.size → ¬ AX q → H1[q]? = H[q]?) → va_S A0 H0 H1 locs1 → H1[q9]? = some ce → ce.vm = .none → s.vm.findClass E = some ce.cls → vx_W p l e R s m args below meth c H1 locs1 (cells + mc) (slots + ms) Q (F0 m pc ls rest) q9)
    (kk : ∀ (r : Int64) (u : S) (t : State) (H1 : Heap) (locs1 : List Loc), t.heap = H1 → s.vm.Alike t.vm → post r u → B u t → H.size ≤ H1.size → (∀ q : Nat, q < H.size → ¬ A1 q → H1[q]? = H[q]?) → va_S A0 H0 H1 locs1 → W p l e R s m args below meth c H1 locs1 (cells + mc) (slots + ms) Q (F0 m (pc + 3) ls (.long r :: rest))) : W p l e R s m args below meth c H locs cells slots Q (F0 m pc ls st0) := by
  intro T hT X
  rcases hr T hT X with ⟨v, st₀, t, T', L, h0, X', hL, e1, e2, ⟨⟨r, u, hv, hp, hb⟩, hF⟩, st⟩ | ⟨q, st₀, t, T', L, E, ce, h0, X', hL, e1, e2, ⟨u, hp, hb, hF⟩, hce, hcv, hcl, st⟩
  · cases hv
    obtain ⟨k1, k2, k3⟩ := vx_keep h0 e1 hS hA hf hL hF
    obtain ⟨t2, a1, b1⟩ := kk r u t T'.heap (locs ++ L) e1.symm (by rw [← e2]; exact X'.warmed.alike) hp hb k1 k2 k3 T' rfl X'
    exact ⟨t2, st t2 a1, b1⟩
  · obtain ⟨k1, k2, k3⟩ := vx_keep h0 e1 hS hAX hf hL hF
    obtain ⟨t2, a1, b1⟩ := kx E ce q u t T'.heap (locs ++ L) e1.symm (by rw [← e2]; exact X'.warmed.alike) hp hb k1 k2 k3 (by rw [e1]; exact hce) hcv hcl T' rfl X'
    exact ⟨t2, st.trans a1, b1⟩
theorem vx_callf {S SX : Type} {post : UInt32 → S → Prop} {px : SX → Prop} {B : S → State → Prop} {BX : String → SX → State → Prop} {AX : Nat → Prop} (hr : vx_Run p l e R s m args below meth c H locs cells slots mc ms (F0 m pc ls st0) rest (va_Qf post B A1 a) (vx_X px BX AX) free) (hS : va_S A0 H0 H locs) (hA : ∀ q, q < H.size → A1 q → A0 q) (hf : ∀ q, free q → A0 q) (hAX : ∀ q, q < H.size → AX q → A0 q)
    (kx : ∀ (E : String) (ce : Cell) (q9 : Addr) (u : SX) (t : State) (H1 : Heap) (locs1 : List Loc), t.heap = H1 → s.vm.Alike t.vm → px u → BX E u t → H.size ≤ H1.size → (∀ q : Nat, q < H.size → ¬ AX q → H1[q]? = H[q]?) → va_S A0 H0 H1 locs1 → H1[q9]? = some ce → ce.vm = .none → s.vm.findClass E = some ce.cls → vx_W p l e R s m args below meth c H1 locs1 (cells + mc) (slots + ms) Q (F0 m pc ls rest) q9)
    (kk : ∀ (r : UInt32) (u : S) (t : State) (H1 : Heap) (locs1 : List Loc), t.heap = H1 → s.vm.Alike t.vm → post r u → B u t → H.size ≤ H1.size → (∀ q : Nat, q < H.size → ¬ A1 q → H1[q]? = H[q]?) → va_S A0 H0 H1 locs1 → W p l e R s m args below meth c H1 locs1 (cells + mc) (slots + ms) Q (F0 m (pc + 3) ls (.float r :: rest))) : W p l e R s m args below meth c H locs cells slots Q (F0 m pc ls st0) := by
  intro T hT X
  rcases hr T hT X with ⟨v, st₀, t, T', L, h0, X', hL, e1, e2, ⟨⟨r, u, hv, hp, hb⟩, hF⟩, st⟩ | ⟨q, st₀, t, T', L, E, ce, h0, X', hL, e1, e2, ⟨u, hp, hb, hF⟩, hce, hcv, hcl, st⟩
  · cases hv
    obtain ⟨k1, k2, k3⟩ := vx_keep h0 e1 hS hA hf hL hF
    obtain ⟨t2, a1, b1⟩ := kk r u t T'.heap (locs ++ L) e1.symm (by rw [← e2]; exact X'.warmed.alike) hp hb k1 k2 k3 T' rfl X'
    exact ⟨t2, st t2 a1, b1⟩
  · obtain ⟨k1, k2, k3⟩ := vx_keep h0 e1 hS hAX hf hL hF
    obtain ⟨t2, a1, b1⟩ := kx E ce q u t T'.heap (locs ++ L) e1.symm (by rw [← e2]; exact X'.warmed.alike) hp hb k1 k2 k3 (by rw [e1]; exact hce) hcv hcl T' rfl X'
    exact ⟨t2, st.trans a1, b1⟩
theorem vx_calld {S SX : Type} {post : UInt64 → S → Prop} {px : SX → Prop} {B : S → State → Prop} {BX : String → SX → State → Prop} {AX : Nat → Prop} (hr : vx_Run p l e R s m args below meth c H locs cells slots mc ms (F0 m pc ls st0) rest (va_Qd post B A1 a) (vx_X px BX AX) free) (hS : va_S A0 H0 H locs) (hA : ∀ q, q < H.size → A1 q → A0 q) (hf : ∀ q, free q → A0 q) (hAX : ∀ q, q < H.size → AX q → A0 q)
    (kx : ∀ (E : String) (ce : Cell) (q9 : Addr) (u : SX) (t : State) (H1 : Heap) (locs1 : List Loc), t.heap = H1 → s.vm.Alike t.vm → px u → BX E u t → H.size ≤ H1.size → (∀ q : Nat, q < H.size → ¬ AX q → H1[q]? = H[q]?) → va_S A0 H0 H1 locs1 → H1[q9]? = some ce → ce.vm = .none → s.vm.findClass E = some ce.cls → vx_W p l e R s m args below meth c H1 locs1 (cells + mc) (slots + ms) Q (F0 m pc ls rest) q9)
    (kk : ∀ (r : UInt64) (u : S) (t : State) (H1 : Heap) (locs1 : List Loc), t.heap = H1 → s.vm.Alike t.vm → post r u → B u t → H.size ≤ H1.size → (∀ q : Nat, q < H.size → ¬ A1 q → H1[q]? = H[q]?) → va_S A0 H0 H1 locs1 → W p l e R s m args below meth c H1 locs1 (cells + mc) (slots + ms) Q (F0 m (pc + 3) ls (.double r :: rest))) : W p l e R s m args below meth c H locs cells slots Q (F0 m pc ls st0) := by
  intro T hT X
  rcases hr T hT X with ⟨v, st₀, t, T', L, h0, X', hL, e1, e2, ⟨⟨r, u, hv, hp, hb⟩, hF⟩, st⟩ | ⟨q, st₀, t, T', L, E, ce, h0, X', hL, e1, e2, ⟨u, hp, hb, hF⟩, hce, hcv, hcl, st⟩
  · cases hv
    obtain ⟨k1, k2, k3⟩ := vx_keep h0 e1 hS hA hf hL hF
    obtain ⟨t2, a1, b1⟩ := kk r u t T'.heap (locs ++ L) e1.symm (by rw [← e2]; exact X'.warmed.alike) hp hb k1 k2 k3 T' rfl X'
    exact ⟨t2, st t2 a1, b1⟩
  · obtain ⟨k1, k2, k3⟩ := vx_keep h0 e1 hS hAX hf hL hF
    obtain ⟨t2, a1, b1⟩ := kx E ce q u t T'.heap (locs ++ L) e1.symm (by rw [← e2]; exact X'.warmed.alike) hp hb k1 k2 k3 (by rw [e1]; exact hce) hcv hcl T' rfl X'
    exact ⟨t2, st.trans a1, b1⟩
theorem vx_callv {S SX : Type} {post : S → Prop} {px : SX → Prop} {B : S → State → Prop} {BX : String → SX → State → Prop} {AX : Nat → Prop} (hr : vx_Run p l e R s m args below meth c H locs cells slots mc ms (F0 m pc ls st0) rest (va_Qv post B A1 a) (vx_X px BX AX) free) (hS : va_S A0 H0 H locs) (hA : ∀ q, q < H.size → A1 q → A0 q) (hf : ∀ q, free q → A0 q) (hAX : ∀ q, q < H.size → AX q → A0 q)
    (kx : ∀ (E : String) (ce : Cell) (q9 : Addr) (u : SX) (t : State) (H1 : Heap) (locs1 : List Loc), t.heap = H1 → s.vm.Alike t.vm → px u → BX E u t → H.size ≤ H1.size → (∀ q : Nat, q < H.size → ¬ AX q → H1[q]? = H[q]?) → va_S A0 H0 H1 locs1 → H1[q9]? = some ce → ce.vm = .none → s.vm.findClass E = some ce.cls → vx_W p l e R s m args below meth c H1 locs1 (cells + mc) (slots + ms) Q (F0 m pc ls rest) q9)
    (kk : ∀ (u : S) (t : State) (H1 : Heap) (locs1 : List Loc), t.heap = H1 → s.vm.Alike t.vm → post u → B u t → H.size ≤ H1.size → (∀ q : Nat, q < H.size → ¬ A1 q → H1[q]? = H[q]?) → va_S A0 H0 H1 locs1 → W p l e R s m args below meth c H1 locs1 (cells + mc) (slots + ms) Q (F0 m (pc + 3) ls (rest))) : W p l e R s m args below meth c H locs cells slots Q (F0 m pc ls st0) := by
  intro T hT X
  rcases hr T hT X with ⟨v, st₀, t, T', L, h0, X', hL, e1, e2, ⟨⟨u, hv, hp, hb⟩, hF⟩, st⟩ | ⟨q, st₀, t, T', L, E, ce, h0, X', hL, e1, e2, ⟨u, hp, hb, hF⟩, hce, hcv, hcl, st⟩
  · cases hv
    obtain ⟨k1, k2, k3⟩ := vx_keep h0 e1 hS hA hf hL hF
    obtain ⟨t2, a1, b1⟩ := kk u t T'.heap (locs ++ L) e1.symm (by rw [← e2]; exact X'.warmed.alike) hp hb k1 k2 k3 T' rfl X'
    exact ⟨t2, st t2 a1, b1⟩
  · obtain ⟨k1, k2, k3⟩ := vx_keep h0 e1 hS hAX hf hL hF
    obtain ⟨t2, a1, b1⟩ := kx E ce q u t T'.heap (locs ++ L) e1.symm (by rw [← e2]; exact X'.warmed.alike) hp hb k1 k2 k3 (by rw [e1]; exact hce) hcv hcl T' rfl X'
    exact ⟨t2, st.trans a1, b1⟩
end Rows
section Ends
variable {p : Program} {l : Launch} {e : Env} {R : Room} {s : State} {m : MethodId} {args : Array Value} {below : List Frame} {meth : Method} {c : Code} {H : Heap} {locs : List Loc} {cells slots : Nat} {Q : State → Prop}
variable {mc ms : Nat} {free : Addr → Prop} {A0 A1 : Nat → Prop} {H0 : Heap} {a : Array Value} {ls : Array Slot} {st0 rest : List Value}
variable {Qc : Array Value → State → Outcome → State → Prop} {XC : String → State → State → Prop}
/-- what a body that may throw owes at its end -/
def vx_MQ (below : List Frame) (Qc : Array Value → State → Outcome → State → Prop) (XC : String → State → State → Prop) (a : Array Value) (s : State) (mc ms : Nat) (free : Addr → Prop) : State → Prop := fun t =>
  ∃ o, t.status = .running ∧ Ended t below o ∧ vx_Q Qc XC mc ms free a s o t
theorem vx_ret {g : JFrame} {mc ms : Nat} (k : W p l e R s m args below meth c H locs cells slots (MQ below Qc args s mc ms free) g) : W p l e R s m args below meth c H locs cells slots (vx_MQ below Qc XC args s mc ms free) g := by
  intro T hT X
  obtain ⟨t, a1, o, b1, b2, b3, b4⟩ := k T hT X
  exact ⟨t, a1, o, b1, b2, Or.inl ⟨b3, b4⟩⟩
/-- not caught here: it goes on to the caller -/
theorem vx_widen {g : JFrame} {q : Addr} {k n : Nat} (h1 : cells ≤ k) (h2 : slots ≤ n) (kk : vx_W p l e R s m args below meth c H locs k n Q g q) : vx_W p l e R s m args below meth c H locs cells slots Q g q := fun T hT X => kk T hT (stand_widen X h1 h2)
theorem vx_out {pc : Nat} {E : String} {ce : Cell} {q : Addr} {mc ms : Nat} (hout : ∀ x ∈ c.exceptionTable.toList, covers x pc = false) (hlocks : meth.locks = false) (hcell : H[q]? = some ce) (hv : ce.vm = .none) (hcl : s.vm.findClass E = some ce.cls)
    (hx : ∀ t : State, t.heap = H → s.vm.Alike t.vm → XC E s t) (hf : ∀ z ∈ locs, free z.base) (hc : cells ≤ mc) (hs : slots ≤ ms) :
    vx_W p l e R s m args below meth c H locs cells slots (vx_MQ below Qc XC args s mc ms free) (F0 m pc ls rest) q := by
  intro T hT X
  obtain ⟨st1, hrun, hend, hW, hsm⟩ := X.leaveThrown q (g := F0 m pc ls rest) rfl rfl rfl hout hlocks
  have hcell9 : (T.setFrames (.throwing q :: below)).heap[q]? = some ce := by
    show T.heap[q]? = some ce
    rw [hT]; exact hcell
  exact ⟨_, st1, .threw q, hrun, hend, Or.inr ⟨q, rfl, E, ce, locs, hx _ hT hW.alike, hcell9, hv, hcl, hW, hsm.mono hc hs, hf⟩⟩
theorem vx_frame {U : State} {k n : Nat} (h : s.sameButNew ({ U with vm := s.vm } : State) locs k n) : s.heap.size ≤ U.heap.size ∧ ∀ q : Nat, q < s.heap.size → (∀ z ∈ locs, z.base ≠ q) → U.heap[q]? = s.heap[q]? := by
  obtain ⟨-, h2, -, -, -, h6⟩ := h
  refine ⟨h2, fun q hq hz => ?_⟩
  obtain ⟨c9, e1, e2, e3, e4⟩ := h6 q _ (Array.getElem?_eq_getElem hq)
  have hs : c9.slots = (s.heap[q]).slots := Array.ext_getElem? fun i => e4 i fun hm => hz _ hm rfl
  have h9 : c9 = s.heap[q] := by
    rw [hs] at e2
    exact e2
  have e5 : U.heap[q]? = some c9 := e1
  rw [e5, h9, Array.getElem?_eq_getElem hq]
/-- the words of a throw but the four that speak of the heap -/
def vx_no (w : Cond) : Bool := decide (w ≠ .isRef (.static Bundle.tN "UNASSIGNED_STACK" Bundle.steD)) && decide (w ≠ .isRef (.static Bundle.tN "SUPPRESSED_SENTINEL" Bundle.listD)) && decide (w ≠ .laysStatic Bundle.tN "UNASSIGNED_STACK" Bundle.steD) && decide (w ≠ .laysStatic Bundle.tN "SUPPRESSED_SENTINEL" Bundle.listD)
def vx_at0 (own : String) (ic : Nat) (X : String) (names : List String) : List Cond := (Bundle.ownAtoms0 own ic X names).filter vx_no
def vx_atS (own : String) (ic : Nat) (X : String) (names : List String) : List Cond := (Bundle.ownAtoms own ic X names).filter vx_no
/-- a word that the tables alone decide, or a good one -/
def vx_ot (w : Cond) : Bool := w.onTables || goodWord w
theorem vx_ot_at {args a' : Array Value} {s U : State} {w : Cond} (hW : s.WarmedH U.vm) (hvm : s.vm = U.vm) (hg : vx_ot w = true) (h : w.before args s = true) : w.before a' U = true := by
  simp only [vx_ot, Bool.or_eq_true] at hg
  rcases hg with hg | hg
  · exact va_tabs hg hvm h
  · exact word_at hW (good_of_word hg) h
/-- a list's words: the good ones out of the method's own list, the others by premises of their own -/
theorem vx_hat {args : Array Value} {s : State} {L B : List Cond} (h1 : ∀ w ∈ L.filter goodWord, w.before args s = true) (h2 : ∀ w ∈ L.filter (fun w => !goodWord w), w ∈ B) (h3 : ∀ w ∈ B, w.before args s = true) : ∀ w ∈ L, w.before args s = true := by
  intro w hw
  by_cases g : goodWord w = true
  · exact h1 w (List.mem_filter.mpr ⟨hw, g⟩)
  · refine h3 w (h2 w (List.mem_filter.mpr ⟨hw, ?_⟩))
    show (!goodWord w) = true
    cases hgw : goodWord w
    · rfl
    · exact absurd hgw g
theorem vx_c {args : Array Value} {s : State} {w : Cond} {B : List Cond} (h : w.before args s = true) (t : ∀ w ∈ B, w.before args s = true) : ∀ w' ∈ w :: B, w'.before args s = true := fun w' h' => (List.mem_cons.mp h').elim (fun e => by rw [e]; exact h) (t w')
theorem vx_n {args : Array Value} {s : State} : ∀ w ∈ ([] : List Cond), w.before args s = true := fun _ h => nomatch h
theorem vx_own {args : Array Value} {s : State} {L : List Cond} (h1 : ∀ w ∈ L.filter vx_no, w.before args s = true)
    (hU : (Cond.isRef (.static Bundle.tN "UNASSIGNED_STACK" Bundle.steD)).before args s = true) (hN : (Cond.isRef (.static Bundle.tN "SUPPRESSED_SENTINEL" Bundle.listD)).before args s = true)
    (lU : (Cond.laysStatic Bundle.tN "UNASSIGNED_STACK" Bundle.steD).before args s = true) (lN : (Cond.laysStatic Bundle.tN "SUPPRESSED_SENTINEL" Bundle.listD).before args s = true) : ∀ w ∈ L, w.before args s = true := by
  intro w hw
  by_cases e1 : w = .isRef (.static Bundle.tN "UNASSIGNED_STACK" Bundle.steD)
  · rw [e1]; exact hU
  · by_cases e2 : w = .isRef (.static Bundle.tN "SUPPRESSED_SENTINEL" Bundle.listD)
    · rw [e2]; exact hN
    · by_cases e3 : w = .laysStatic Bundle.tN "UNASSIGNED_STACK" Bundle.steD
      · rw [e3]; exact lU
      · by_cases e4 : w = .laysStatic Bundle.tN "SUPPRESSED_SENTINEL" Bundle.listD
        · rw [e4]; exact lN
        · exact h1 w (List.mem_filter.mpr ⟨hw, by unfold vx_no; rw [decide_eq_true e1, decide_eq_true e2, decide_eq_true e3, decide_eq_true e4]; rfl⟩)
/-- where a static field lies, its class's statics cell in H -/
def vx_L (C n d : String) (A : Nat → Prop) (U : State) (H : Heap) : Prop := ∃ (c : ClassId) (k : Class) (i : Nat) (f : Field) (a : Nat) (cell : Cell), U.vm.findClass C = some c ∧ U.fieldFound? C n d = some (c, k, i, f) ∧ f.isStatic = true ∧ k.statics = some a ∧ H[a]? = some cell ∧ cell.vm.isStatics = true ∧ cell.cls = c ∧ f.slot < cell.slots.size ∧ k.staticTypes[f.slot]? = some f.type ∧ ¬ A a
theorem vx_L.moved {C n d : String} {A : Nat → Prop} {u U : State} {H : Heap} (hvm : u.vm.Alike U.vm) (h : vx_L C n d A u H) : vx_L C n d A U H := by
  obtain ⟨c, k, i, f, a, cell, h1, h2, h3, h4, h5, h6, h7, h8, h9, h10⟩ := h
  obtain ⟨k', hi', he⟩ := State.fieldFound?_setVm hvm h2
  exact ⟨c, k', i, f, a, cell, by rw [hvm.findClass]; exact h1, hi', h3, by rw [he]; exact h4, h5, h6, h7, h8, by rw [he]; exact h9, h10⟩
theorem vx_L.kept {C n d : String} {A : Nat → Prop} {U : State} {H H1 : Heap} (h : vx_L C n d A U H) (hq : ∀ a : Nat, a < H.size → ¬ A a → H1[a]? = H[a]?) : vx_L C n d A U H1 := by
  obtain ⟨c, k, i, f, a, cell, h1, h2, h3, h4, h5, h6, h7, h8, h9, h10⟩ := h
  exact ⟨c, k, i, f, a, cell, h1, h2, h3, h4, by rw [hq a (Array.getElem?_eq_some_iff.mp h5).1 h10]; exact h5, h6, h7, h8, h9, h10⟩
theorem vx_L.narrow {C n d : String} {A B : Nat → Prop} {U : State} {H : Heap} (h : vx_L C n d A U H) (hAB : ∀ q, B q → A q) : vx_L C n d B U H := by
  obtain ⟨c, k, i, f, a, cell, h1, h2, h3, h4, h5, h6, h7, h8, h9, h10⟩ := h
  exact ⟨c, k, i, f, a, cell, h1, h2, h3, h4, h5, h6, h7, h8, h9, fun z => h10 (hAB _ z)⟩
theorem vx_L.word {C n d : String} {A : Nat → Prop} {s : State} {args : Array Value} (h : vx_L C n d A s s.heap) : (Cond.laysStatic C n d).before args s = true := by
  obtain ⟨c, k, i, f, a, cell, h1, h2, h3, h4, h5, h6, h7, h8, h9, -⟩ := h
  show (Cond.laysStatic C n d).holds args s none s [] = true
  exact Cond.laysStatic_of h1 h2 h3 h4 h5 h6 h7 h8 h9
/-- .. and what it holds: null or some reference -/
def vx_Zq (C n d : String) (A : Nat → Prop) (U : State) (H : Heap) : Prop := va_Zq C n d A U H ∧ vx_L C n d A U H
theorem vx_Zq.moved {C n d : String} {A : Nat → Prop} {u U : State} {H : Heap} (hvm : u.vm.Alike U.vm) (h : vx_Zq C n d A u H) : vx_Zq C n d A U H := ⟨va_Zq.moved hvm h.1, vx_L.moved hvm h.2⟩
theorem vx_Zq.kept {C n d : String} {A : Nat → Prop} {U : State} {H H1 : Heap} (h : vx_Zq C n d A U H) (hq : ∀ a : Nat, a < H.size → ¬ A a → H1[a]? = H[a]?) : vx_Zq C n d A U H1 := ⟨va_Zq.kept h.1 hq, vx_L.kept h.2 hq⟩
theorem vx_Zq.narrow {C n d : String} {A B : Nat → Prop} {U : State} {H : Heap} (h : vx_Zq C n d A U H) (hAB : ∀ q, B q → A q) : vx_Zq C n d B U H := ⟨va_Zq.narrow h.1 hAB, vx_L.narrow h.2 hAB⟩
theorem vx_Zqof {args : Array Value} {s : State} {C n d : String} {A : Nat → Prop} (hl : (Cond.laysStatic C n d).before args s = true) (hini : (Cond.initialized C).before args s = true) (h : (Cond.isRef (.static C n d)).before args s = true) (hA : ∀ a : Nat, a < s.heap.size → ¬ A a) : vx_Zq C n d A s s.heap := by
  refine ⟨va_Zqof hl hini h hA, ?_⟩
  obtain ⟨c, k, i, f, a, cell, h1, h2, h3, h4, h5, h6, h7, h8, h9⟩ := Cond.laysStatic_spec hl
  exact ⟨c, k, i, f, a, cell, h1, h2, h3, h4, h5, h6, h7, h8, h9, hA a (Array.getElem?_eq_some_iff.mp h5).1⟩
theorem vx_isRef {C n d : String} {v : Value} {A : Nat → Prop} {s : State} {args : Array Value} (h : va_Z C n d v A s s.heap) (hv : v.isRef = true) : (Cond.isRef (.static C n d)).before args s = true := by
  obtain ⟨cf, kf, fi, f, a, cell, h1, h2, h3, h4, h5, h6, h7, -⟩ := h
  have he : (Term.static C n d).eval args s none [] s = some v := by
    simp [Term.eval, State.fieldNamed?, h1, h2, h4, h5, h6, h7]
  simp only [Cond.before, Cond.holds, Cond.value, he]
  cases v <;> simp_all [Value.isRef]
theorem vx_isRefq {C n d : String} {A : Nat → Prop} {s : State} {args : Array Value} (h : va_Zq C n d A s s.heap) : (Cond.isRef (.static C n d)).before args s = true := by
  rcases h with h | ⟨t, h⟩
  · exact vx_isRef h rfl
  · exact vx_isRef h rfl
/-- the same frame, seen from here: as if the method were called anew in this heap -/
theorem vx_rebase {T : State} (X : Stand p l e R s m args below meth c T locs cells slots) {R' : Room} (hf : R'.frames ≤ R.frames) (hl : R'.locals ≤ R.locals) (hc : cells + R'.cells ≤ R.cells) (hs : slots + R'.slots ≤ R.slots) :
    Stand p l e R' ((T.setVm s.vm).setFrames (.invoking m args :: below)) m args below meth c T [] 0 0 := by
  have htop : (T.setVm s.vm).topJava?.isSome := X.here.top
  have hF : ((T.setVm s.vm).setFrames (.invoking m args :: below)).frames = .invoking m args :: below := State.frames_setFrames _ (State.cur_lt_of_top htop)
  obtain ⟨g₀, hg0⟩ := Option.isSome_iff_exists.mp htop
  obtain ⟨r, hr⟩ := State.topJava?_eq_some.mp hg0
  have hl9 : e.platform.stackLimits (T.setVm s.vm).me = e.platform.stackLimits s.me := X.limits
  have hb9 : (T.setVm s.vm).me.stackBytes = s.me.stackBytes := X.bytes
  refine ⟨X.admits, X.cas, X.clock, hF, ?_, X.hears, X.method, X.code, X.here, X.tail, X.warmed, ?_, ?_, ?_⟩
  · have h := X.room
    have hU : ((T.setVm s.vm).setFrames (.invoking m args :: below)).localsInUse = s.localsInUse := by
      rw [State.localsInUse_invoking hF (meth := meth) (c := c) X.method X.code, State.localsInUse_invoking X.frames X.method X.code]
    simp only [State.hasRoom, Bool.and_eq_true, decide_eq_true_eq] at h ⊢
    obtain ⟨⟨⟨⟨h1, h2, h3, h4, h5, h6⟩, h7⟩, h8⟩, h9⟩ := h
    rw [X.frames, List.length_cons] at h2 h3
    have q1 := X.heapSize
    have q2 := X.used
    simp only [hF, hU, List.length_cons, State.stackLimits_setFrames, State.stackBytes_setFrames, hl9, hb9]
    refine ⟨⟨⟨⟨by omega, by omega, by omega, by omega, by omega, h6⟩, ?_⟩, ?_⟩, X.book⟩
    · show T.heap.size + R'.cells ≤ e.platform.maxCells
      omega
    · show T.slotsUsed + R'.slots ≤ e.platform.maxSlots
      omega
  · rw [State.stackLimits_setFrames]; rfl
  · rw [State.stackBytes_setFrames]; rfl
  · refine ⟨?_, Nat.le_refl _, Nat.le_refl _, ?_, ?_, fun a c9 h9 => ⟨c9, h9, rfl, rfl, fun _ _ => rfl⟩⟩
    · obtain ⟨t, ht, -⟩ := State.frames_cons hr
      show T.setVm s.vm = { ((T.setVm s.vm).setFrames (.invoking m args :: below)).setFrames (T.setVm s.vm).frames with heap := T.heap, slotsUsed := T.slotsUsed }
      rw [State.setFrames_setFrames, State.setFrames_self ht]
      rfl
    · show T.slotsUsed = T.slotsUsed + ((T.heap.toList.drop T.heap.size).map (·.slots.size)).sum
      rw [List.drop_eq_nil_of_le (Nat.le_of_eq Array.length_toList)]
      rfl
    · show ((T.heap.toList.drop T.heap.size).map (·.slots.size)).sum ≤ 0
      rw [List.drop_eq_nil_of_le (Nat.le_of_eq Array.length_toList)]
      exact Nat.le_refl _
/-- 'throw new E()': new; dup; invokespecial; athrow -/
theorem vx_throw0 {cc : ByteArray} {pc : Nat} (hexec : p.tables.exec = Jvm.exec) (hb : c.code = cc) (hl : l.stackTraces = false) {own cls : String} {names : List String} {ik ic mc ms : Nat} {A : Nat → Prop}
    (hown : s.vm.findClass own = some m.cls) (hcls : Bundle.fit cls = true) (hnames : ∀ n ∈ names, Bundle.fit n = true)
    (hk : (Cond.classLink own ik cls).before args s = true) (hini : (Cond.initialized cls).before args s = true) (hat : ∀ w ∈ vx_at0 own ic cls names, w.before args s = true)
    (hgood : ∀ w ∈ Cond.classLink own ik cls :: Cond.initialized cls :: vx_at0 own ic cls names, vx_ot w = true)
    (hU : vx_Zq Bundle.tN "UNASSIGNED_STACK" Bundle.steD A s s.heap) (hN : vx_Zq Bundle.tN "SUPPRESSED_SENTINEL" Bundle.listD A s s.heap) (hS : va_S A s.heap H locs) (hsize : ls.size = c.maxLocals)
    (d0 : decode cc pc = .ok (.new ik, 3)) (d3 : decode cc (pc + 3) = .ok (.dup, 1)) (d4 : decode cc (pc + 4) = .ok (.invokespecial ic, 3)) (d7 : decode cc (pc + 7) = .ok (.athrow, 1))
    (hout : ∀ x ∈ c.exceptionTable.toList, covers x (pc + 7) = false)
    (hRframes : names.length + 3 < R.frames) (hRlocals : (rest.map fun v => v.category).sum + (13 * (names.length + 1) + 42) ≤ R.locals) (hRcells : cells + 1 ≤ R.cells) (hRslots : slots + 6 ≤ R.slots) (hlocks : meth.locks = false)
    (hx : ∀ t : State, s.vm.Alike t.vm → H.size ≤ t.heap.size → (∀ q : Nat, q < H.size → t.heap[q]? = H[q]?) → XC cls s t)
    (hf : ∀ z ∈ locs, free z.base) (hc : cells + 1 ≤ mc) (hs : slots + 6 ≤ ms) :
    W p l e R s m args below meth c H locs cells slots (vx_MQ below Qc XC args s mc ms free) (F0 m pc ls rest) := by
  intro T hT X
  have htr : e.platform.stackTraces = false := (show e.platform.stackTraces = l.stackTraces by rw [X.admits.platform]).trans hl
  have Y := vx_rebase X (R' := { frames := R.frames, locals := R.locals, cells := 1, slots := 6 }) (Nat.le_refl _) (Nat.le_refl _) hRcells hRslots
  obtain ⟨s', hA⟩ : ∃ z, z = (T.setVm s.vm).setFrames (.invoking m args :: below) := ⟨_, rfl⟩
  rw [← hA] at Y
  have hvm : s'.vm = s.vm := by rw [hA]; rfl
  have hhp : s'.heap = H := by rw [hA]; exact hT
  have hW0 : s.WarmedH s'.vm := by rw [hvm]; exact State.WarmedH.refl s
  have hat' : ∀ w ∈ vx_at0 own ic cls names, w.before args s' = true := fun w hw => vx_ot_at hW0 hvm.symm (hgood w (List.mem_cons_of_mem _ (List.mem_cons_of_mem _ hw))) (hat w hw)
  have hk' : (Cond.classLink own ik cls).before args s' = true := vx_ot_at hW0 hvm.symm (hgood _ List.mem_cons_self) hk
  have hini' : (Cond.initialized cls).before args s' = true := vx_ot_at hW0 hvm.symm (hgood _ (List.mem_cons_of_mem _ List.mem_cons_self)) hini
  have hU' : vx_Zq Bundle.tN "UNASSIGNED_STACK" Bundle.steD A s' s'.heap := by rw [hhp]; exact vx_Zq.moved hW0.alike (hU.kept hS.2.1)
  have hN' : vx_Zq Bundle.tN "SUPPRESSED_SENTINEL" Bundle.listD A s' s'.heap := by rw [hhp]; exact vx_Zq.moved hW0.alike (hN.kept hS.2.1)
  have h : ∀ w ∈ Bundle.ownAtoms0 own ic cls names, w.before args s' = true := vx_own hat' (vx_isRefq hU'.1) (vx_isRefq hN'.1) hU'.2.word hN'.2.word
  have hown' : s'.vm.findClass own = some m.cls := by rw [hvm]; exact hown
  have hins : (Cond.instantiable cls 6).before args s' = true := h _ (by simp [Bundle.ownAtoms0])
  obtain ⟨vm₁, cX, kX, hfX, hkX, -, -, X₁, st1⟩ := Y.newCold hexec (own := own) (C := cls) (index := ik) (n := 6) hown' hk' hins hini'
    (g := F0 m pc ls rest) rfl (by rw [hb]; exact d0) (Nat.le_refl _) (Nat.le_refl _)
  generalize hT1 : (T.setVm vm₁).pushCell { cls := cX, slots := kX.instanceTypes.map defaultValue, vm := .none } = T1 at X₁ st1
  have hcat : (Value.ref T.heap.size).category = 1 := rfl
  have hcellA : T1.heap[T.heap.size]? = some (freshCell cX kX) := by rw [← hT1]; exact State.heap_pushCell_size _ _
  have d3' : decode c.code (pc + 3) = .ok (.dup, 1) := by rw [hb]; exact d3
  obtain ⟨U, hsteps, hrun, hend, hW, hsame, ce, hce, hO⟩ := X₁.ctorThrow0 hexec htr (own := own) (cls := cls) (names := names) (ic := ic) hown' hcls hnames h (fun x hx => nomatch hx) hfX hkX hcellA (by rw [hhp, hT]; exact Nat.le_refl _)
    (g := { method := m, pc := pc + 4, locals := ls, stack := .ref T.heap.size :: .ref T.heap.size :: rest, locked := none }) rfl hsize rfl rfl (rest := rest) rfl
    (by rw [hb]; exact d4) (by rw [hb]; exact d7) hout hRframes (by simp only [List.map_cons, List.sum_cons, hcat]; omega) hlocks
  obtain ⟨f1, f2⟩ := vx_frame hsame
  rw [hhp] at f1 f2
  have hWs : s.WarmedH U.vm := State.WarmedH.trans hW0 hW
  have hcl : s.vm.findClass cls = some ce.cls := by
    have h9 := hO.cls
    rw [hvm] at h9
    exact h9
  have hall : s.sameButNew ({ U with vm := s.vm } : State) locs mc ms := by
    subst hA
    obtain ⟨e1, e2⟩ := hsame
    rw [State.setFrames_setFrames] at e1
    have h2 : (T.setVm s.vm).sameButNew ({ U with vm := s.vm } : State) [] (0 + 1) (0 + 6) := ⟨e1, e2⟩
    have h3 := X.same.trans h2
    rw [List.append_nil] at h3
    exact h3.mono hc hs
  refine ⟨U, ?_, .threw T.heap.size, hrun, hend, Or.inr ⟨T.heap.size, rfl, cls, ce, locs, hx U hWs.alike f1 (fun q hq => f2 q hq (fun z hz => nomatch hz)), hce, hO.vm, hcl, hWs, hall, hf⟩⟩
  refine st1 _ ?_
  show Steps p.tables e below (T1.setTop { method := m, pc := pc + 3, locals := ls, stack := .ref T.heap.size :: rest, locked := none }) _
  jvm_step X₁.here [X₁.here.top, hexec, d3', Value.category]
  exact hsteps
/-- 'throw new E("text")': new; dup; ldc; invokespecial; athrow -/
theorem vx_throwS {cc : ByteArray} {pc : Nat} (hexec : p.tables.exec = Jvm.exec) (hb : c.code = cc) (hl : l.stackTraces = false) {own cls text : String} {names : List String} {ik is ic mc ms sa : Nat} {A : Nat → Prop}
    (hown : s.vm.findClass own = some m.cls) (hcls : Bundle.fit cls = true) (hnames : ∀ n ∈ names, Bundle.fit n = true)
    (hk : (Cond.classLink own ik cls).before args s = true) (hini : (Cond.initialized cls).before args s = true) (hstr : vk_R own is text sa s) (hat : ∀ w ∈ vx_atS own ic cls names, w.before args s = true)
    (hgood : ∀ w ∈ Cond.classLink own ik cls :: Cond.initialized cls :: vx_atS own ic cls names, vx_ot w = true)
    (hU : vx_Zq Bundle.tN "UNASSIGNED_STACK" Bundle.steD A s s.heap) (hN : vx_Zq Bundle.tN "SUPPRESSED_SENTINEL" Bundle.listD A s s.heap) (hS : va_S A s.heap H locs) (hsize : ls.size = c.maxLocals)
    (d0 : decode cc pc = .ok (.new ik, 3)) (d3 : decode cc (pc + 3) = .ok (.dup, 1)) (d4 : decode cc (pc + 4) = .ok (.ldc is, 2)) (d6 : decode cc (pc + 6) = .ok (.invokespecial ic, 3)) (d9 : decode cc (pc + 9) = .ok (.athrow, 1))
    (hout : ∀ x ∈ c.exceptionTable.toList, covers x (pc + 9) = false)
    (hRframes : names.length + 3 < R.frames) (hRlocals : (rest.map fun v => v.category).sum + (13 * (names.length + 1) + 43) ≤ R.locals) (hRcells : cells + 1 ≤ R.cells) (hRslots : slots + 6 ≤ R.slots) (hlocks : meth.locks = false)
    (hx : ∀ t : State, s.vm.Alike t.vm → H.size ≤ t.heap.size → (∀ q : Nat, q < H.size → t.heap[q]? = H[q]?) → XC cls s t)
    (hf : ∀ z ∈ locs, free z.base) (hc : cells + 1 ≤ mc) (hs : slots + 6 ≤ ms) :
    W p l e R s m args below meth c H locs cells slots (vx_MQ below Qc XC args s mc ms free) (F0 m pc ls rest) := by
  intro T hT X
  have htr : e.platform.stackTraces = false := (show e.platform.stackTraces = l.stackTraces by rw [X.admits.platform]).trans hl
  have Y := vx_rebase X (R' := { frames := R.frames, locals := R.locals, cells := 1, slots := 6 }) (Nat.le_refl _) (Nat.le_refl _) hRcells hRslots
  obtain ⟨s', hA⟩ : ∃ z, z = (T.setVm s.vm).setFrames (.invoking m args :: below) := ⟨_, rfl⟩
  rw [← hA] at Y
  have hvm : s'.vm = s.vm := by rw [hA]; rfl
  have hhp : s'.heap = H := by rw [hA]; exact hT
  have hW0 : s.WarmedH s'.vm := by rw [hvm]; exact State.WarmedH.refl s
  have hat' : ∀ w ∈ vx_atS own ic cls names, w.before args s' = true := fun w hw => vx_ot_at hW0 hvm.symm (hgood w (List.mem_cons_of_mem _ (List.mem_cons_of_mem _ hw))) (hat w hw)
  have hk' : (Cond.classLink own ik cls).before args s' = true := vx_ot_at hW0 hvm.symm (hgood _ List.mem_cons_self) hk
  have hini' : (Cond.initialized cls).before args s' = true := vx_ot_at hW0 hvm.symm (hgood _ (List.mem_cons_of_mem _ List.mem_cons_self)) hini
  have hU' : vx_Zq Bundle.tN "UNASSIGNED_STACK" Bundle.steD A s' s'.heap := by rw [hhp]; exact vx_Zq.moved hW0.alike (hU.kept hS.2.1)
  have hN' : vx_Zq Bundle.tN "SUPPRESSED_SENTINEL" Bundle.listD A s' s'.heap := by rw [hhp]; exact vx_Zq.moved hW0.alike (hN.kept hS.2.1)
  have h : ∀ w ∈ Bundle.ownAtoms own ic cls names, w.before args s' = true := vx_own hat' (vx_isRefq hU'.1) (vx_isRefq hN'.1) hU'.2.word hN'.2.word
  have hown' : s'.vm.findClass own = some m.cls := by rw [hvm]; exact hown
  have hins : (Cond.instantiable cls 6).before args s' = true := h _ (by simp [Bundle.ownAtoms])
  obtain ⟨vm₁, cX, kX, hfX, hkX, -, -, X₁, st1⟩ := Y.newCold hexec (own := own) (C := cls) (index := ik) (n := 6) hown' hk' hins hini'
    (g := F0 m pc ls rest) rfl (by rw [hb]; exact d0) (Nat.le_refl _) (Nat.le_refl _)
  generalize hT1 : (T.setVm vm₁).pushCell { cls := cX, slots := kX.instanceTypes.map defaultValue, vm := .none } = T1 at X₁ st1
  have hcat : (Value.ref T.heap.size).category = 1 := rfl
  have hcellA : T1.heap[T.heap.size]? = some (freshCell cX kX) := by rw [← hT1]; exact State.heap_pushCell_size _ _
  have d3' : decode c.code (pc + 3) = .ok (.dup, 1) := by rw [hb]; exact d3
  have d4' : decode c.code (pc + 4) = .ok (.ldc is, 2) := by rw [hb]; exact d4
  have hstr' : vk_R own is text sa s' := vk_R.warm hW0 hstr
  obtain ⟨U, hsteps, hrun, hend, hW, hsame, ce, hce, hO⟩ := X₁.ctorThrowS hexec htr (own := own) (cls := cls) (names := names) (ic := ic) hown' hcls hnames h (fun x hx => nomatch hx) hfX hkX hcellA (by rw [hhp, hT]; exact Nat.le_refl _) (msg := .ref sa) rfl
    (g := { method := m, pc := pc + 6, locals := ls, stack := .ref sa :: .ref T.heap.size :: .ref T.heap.size :: rest, locked := none }) rfl hsize rfl rfl (rest := rest) rfl
    (by rw [hb]; exact d6) (by rw [hb]; exact d9) hout hRframes (by simp only [List.map_cons, List.sum_cons, hcat]; omega) hlocks
  obtain ⟨f1, f2⟩ := vx_frame hsame
  rw [hhp] at f1 f2
  have hWs : s.WarmedH U.vm := State.WarmedH.trans hW0 hW
  have hcl : s.vm.findClass cls = some ce.cls := by
    have h9 := hO.cls
    rw [hvm] at h9
    exact h9
  have hall : s.sameButNew ({ U with vm := s.vm } : State) locs mc ms := by
    subst hA
    obtain ⟨e1, e2⟩ := hsame
    rw [State.setFrames_setFrames] at e1
    have h2 : (T.setVm s.vm).sameButNew ({ U with vm := s.vm } : State) [] (0 + 1) (0 + 6) := ⟨e1, e2⟩
    have h3 := X.same.trans h2
    rw [List.append_nil] at h3
    exact h3.mono hc hs
  refine ⟨U, ?_, .threw T.heap.size, hrun, hend, Or.inr ⟨T.heap.size, rfl, cls, ce, locs, hx U hWs.alike f1 (fun q hq => f2 q hq (fun z hz => nomatch hz)), hce, hO.vm, hcl, hWs, hall, hf⟩⟩
  refine st1 _ ?_
  show Steps p.tables e below (T1.setTop { method := m, pc := pc + 3, locals := ls, stack := .ref T.heap.size :: rest, locked := none }) _
  jvm_step X₁.here [X₁.here.top, hexec, d3', Value.category]
  exact X₁.ldcString hexec (own := own) (text := text) (index := is) (a := sa) hown' hstr'.1 hstr'.2
    (g := { method := m, pc := pc + 4, locals := ls, stack := .ref T.heap.size :: .ref T.heap.size :: rest, locked := none }) rfl d4' _ hsteps
/-- 'throw new E("text")', the text by a wide index -/
theorem vx_throwSW {cc : ByteArray} {pc : Nat} (hexec : p.tables.exec = Jvm.exec) (hb : c.code = cc) (hl : l.stackTraces = false) {own cls text : String} {names : List String} {ik is ic mc ms sa : Nat} {A : Nat → Prop}
    (hown : s.vm.findClass own = some m.cls) (hcls : Bundle.fit cls = true) (hnames : ∀ n ∈ names, Bundle.fit n = true)
    (hk : (Cond.classLink own ik cls).before args s = true) (hini : (Cond.initialized cls).before args s = true) (hstr : vk_R own is text sa s) (hat : ∀ w ∈ vx_atS own ic cls names, w.before args s = true)
    (hgood : ∀ w ∈ Cond.classLink own ik cls :: Cond.initialized cls :: vx_atS own ic cls names, vx_ot w = true)
    (hU : vx_Zq Bundle.tN "UNASSIGNED_STACK" Bundle.steD A s s.heap) (hN : vx_Zq Bundle.tN "SUPPRESSED_SENTINEL" Bundle.listD A s s.heap) (hS : va_S A s.heap H locs) (hsize : ls.size = c.maxLocals)
    (d0 : decode cc pc = .ok (.new ik, 3)) (d3 : decode cc (pc + 3) = .ok (.dup, 1)) (d4 : decode cc (pc + 4) = .ok (.ldc_w is, 3)) (d7 : decode cc (pc + 7) = .ok (.invokespecial ic, 3)) (d10 : decode cc (pc + 10) = .ok (.athrow, 1))
    (hout : ∀ x ∈ c.exceptionTable.toList, covers x (pc + 10) = false)
    (hRframes : names.length + 3 < R.frames) (hRlocals : (rest.map fun v => v.category).sum + (13 * (names.length + 1) + 43) ≤ R.locals) (hRcells : cells + 1 ≤ R.cells) (hRslots : slots + 6 ≤ R.slots) (hlocks : meth.locks = false)
    (hx : ∀ t : State, s.vm.Alike t.vm → H.size ≤ t.heap.size → (∀ q : Nat, q < H.size → t.heap[q]? = H[q]?) → XC cls s t)
    (hf : ∀ z ∈ locs, free z.base) (hc : cells + 1 ≤ mc) (hs : slots + 6 ≤ ms) :
    W p l e R s m args below meth c H locs cells slots (vx_MQ below Qc XC args s mc ms free) (F0 m pc ls rest) := by
  intro T hT X
  have htr : e.platform.stackTraces = false := (show e.platform.stackTraces = l.stackTraces by rw [X.admits.platform]).trans hl
  have Y := vx_rebase X (R' := { frames := R.frames, locals := R.locals, cells := 1, slots := 6 }) (Nat.le_refl _) (Nat.le_refl _) hRcells hRslots
  obtain ⟨s', hA⟩ : ∃ z, z = (T.setVm s.vm).setFrames (.invoking m args :: below) := ⟨_, rfl⟩
  rw [← hA] at Y
  have hvm : s'.vm = s.vm := by rw [hA]; rfl
  have hhp : s'.heap = H := by rw [hA]; exact hT
  have hW0 : s.WarmedH s'.vm := by rw [hvm]; exact State.WarmedH.refl s
  have hat' : ∀ w ∈ vx_atS own ic cls names, w.before args s' = true := fun w hw => vx_ot_at hW0 hvm.symm (hgood w (List.mem_cons_of_mem _ (List.mem_cons_of_mem _ hw))) (hat w hw)
  have hk' : (Cond.classLink own ik cls).before args s' = true := vx_ot_at hW0 hvm.symm (hgood _ List.mem_cons_self) hk
  have hini' : (Cond.initialized cls).before args s' = true := vx_ot_at hW0 hvm.symm (hgood _ (List.mem_cons_of_mem _ List.mem_cons_self)) hini
  have hU' : vx_Zq Bundle.tN "UNASSIGNED_STACK" Bundle.steD A s' s'.heap := by rw [hhp]; exact vx_Zq.moved hW0.alike (hU.kept hS.2.1)
  have hN' : vx_Zq Bundle.tN "SUPPRESSED_SENTINEL" Bundle.listD A s' s'.heap := by rw [hhp]; exact vx_Zq.moved hW0.alike (hN.kept hS.2.1)
  have h : ∀ w ∈ Bundle.ownAtoms own ic cls names, w.before args s' = true := vx_own hat' (vx_isRefq hU'.1) (vx_isRefq hN'.1) hU'.2.word hN'.2.word
  have hown' : s'.vm.findClass own = some m.cls := by rw [hvm]; exact hown
  have hins : (Cond.instantiable cls 6).before args s' = true := h _ (by simp [Bundle.ownAtoms])
  obtain ⟨vm₁, cX, kX, hfX, hkX, -, -, X₁, st1⟩ := Y.newCold hexec (own := own) (C := cls) (index := ik) (n := 6) hown' hk' hins hini'
    (g := F0 m pc ls rest) rfl (by rw [hb]; exact d0) (Nat.le_refl _) (Nat.le_refl _)
  generalize hT1 : (T.setVm vm₁).pushCell { cls := cX, slots := kX.instanceTypes.map defaultValue, vm := .none } = T1 at X₁ st1
  have hcat : (Value.ref T.heap.size).category = 1 := rfl
  have hcellA : T1.heap[T.heap.size]? = some (freshCell cX kX) := by rw [← hT1]; exact State.heap_pushCell_size _ _
  have d3' : decode c.code (pc + 3) = .ok (.dup, 1) := by rw [hb]; exact d3
  have d4' : decode c.code (pc + 4) = .ok (.ldc_w is, 3) := by rw [hb]; exact d4
  have hstr' : vk_R own is text sa s' := vk_R.warm hW0 hstr
  obtain ⟨U, hsteps, hrun, hend, hW, hsame, ce, hce, hO⟩ := X₁.ctorThrowS hexec htr (own := own) (cls := cls) (names := names) (ic := ic) hown' hcls hnames h (fun x hx => nomatch hx) hfX hkX hcellA (by rw [hhp, hT]; exact Nat.le_refl _) (msg := .ref sa) rfl
    (g := { method := m, pc := pc + 7, locals := ls, stack := .ref sa :: .ref T.heap.size :: .ref T.heap.size :: rest, locked := none }) rfl hsize rfl rfl (rest := rest) rfl
    (by rw [hb]; exact d7) (by rw [hb]; exact d10) hout hRframes (by simp only [List.map_cons, List.sum_cons, hcat]; omega) hlocks
  obtain ⟨f1, f2⟩ := vx_frame hsame
  rw [hhp] at f1 f2
  have hWs : s.WarmedH U.vm := State.WarmedH.trans hW0 hW
  have hcl : s.vm.findClass cls = some ce.cls := by
    have h9 := hO.cls
    rw [hvm] at h9
    exact h9
  have hall : s.sameButNew ({ U with vm := s.vm } : State) locs mc ms := by
    subst hA
    obtain ⟨e1, e2⟩ := hsame
    rw [State.setFrames_setFrames] at e1
    have h2 : (T.setVm s.vm).sameButNew ({ U with vm := s.vm } : State) [] (0 + 1) (0 + 6) := ⟨e1, e2⟩
    have h3 := X.same.trans h2
    rw [List.append_nil] at h3
    exact h3.mono hc hs
  refine ⟨U, ?_, .threw T.heap.size, hrun, hend, Or.inr ⟨T.heap.size, rfl, cls, ce, locs, hx U hWs.alike f1 (fun q hq => f2 q hq (fun z hz => nomatch hz)), hce, hO.vm, hcl, hWs, hall, hf⟩⟩
  refine st1 _ ?_
  show Steps p.tables e below (T1.setTop { method := m, pc := pc + 3, locals := ls, stack := .ref T.heap.size :: rest, locked := none }) _
  jvm_step X₁.here [X₁.here.top, hexec, d3', Value.category]
  exact X₁.ldcStringW hexec (own := own) (text := text) (index := is) (a := sa) hown' hstr'.1 hstr'.2
    (g := { method := m, pc := pc + 4, locals := ls, stack := .ref T.heap.size :: .ref T.heap.size :: rest, locked := none }) rfl d4' _ hsteps
end Ends
section Bodies
variable {l : Launch}
theorem vx_ofW {y : MethodName} {ws ws' : List Cond} {rm : Room} {Pc : Array Value → State → Prop} {Qc : Array Value → State → Outcome → State → Prop} {XC : String → State → State → Prop} {mc ms : Nat} {free : Addr → Prop} {cc : ByteArray} {maxL : Nat} {ret : Option FieldType}
    (hy : plainName y.cls = true) (hw : ws = Cond.code y cc maxL ret :: ws')
    (body : ∀ p e s m args below meth c s₁, BodyLoose p l y (headSpec ws rm) cc maxL ret e s m args below meth c s₁ → c.maxLocals = maxL → (∀ x ∈ c.exceptionTable.toList, False) → Pc args s →
      W p l e (headSpec ws rm).room s m args below meth c s.heap [] 0 0 (vx_MQ below Qc XC args s mc ms free) (entryFrame m args maxL)) : vx_Met l y ws rm Pc Qc XC mc ms free := by
  refine MetFree.of_bodyS (code := cc) (maxLocals := maxL) (ret := ret) hy ?_ ?_
  · intro args s m h hn
    obtain ⟨meth, c, h1, h2, h3, h4, h5, h6, -, -⟩ := Cond.code_spec hn (atoms_spec (ws := ws) h _ (by rw [hw]; exact List.mem_cons_self))
    exact ⟨meth, c, h1, h2, h3, h4, h5, h6⟩
  · intro p e s m args below meth c s₁ B hml hP _
    have hh0 : s₁.heap = s.heap := by rw [B.state]; rfl
    have ht : ∀ x ∈ c.exceptionTable.toList, False := by
      obtain ⟨meth9, c9, h1, h2, -, -, -, -, h7, -⟩ := Cond.code_spec B.named (atoms_spec (ws := ws) B.pre _ (by rw [hw]; exact List.mem_cons_self))
      cases Option.some.inj (h1.symm.trans B.method)
      cases Option.some.inj (h2.symm.trans (Stand.of_body B).code)
      intro x hx
      rw [Array.isEmpty_iff.mp h7] at hx
      cases hx
    obtain ⟨t, a1, o, b1, b2, b3⟩ := body p e s m args below meth c s₁ B hml ht hP s₁ hh0 (Stand.of_body B)
    exact ⟨t, o, a1, b1, b2, b3⟩
/-- the table of a body with handlers -/
theorem vx_table {p : Program} {x y : MethodName} {S : Spec} {cc bytes : ByteArray} {maxL maxL' : Nat} {ret ret' : Option FieldType} {e : Env} {s s₁ : State} {m : MethodId} {args : Array Value} {below : List Frame} {meth : Method} {c : Code} {hh : List (Nat × Nat × Nat × Nat)}
    (B : BodyLoose p l y S cc maxL ret e s m args below meth c s₁) (h : (Cond.codeWith y bytes maxL' ret' hh).before args s = true) : c.exceptionTable.toList = tableOf hh := by
  obtain ⟨m9, meth9, c9, hn9, h1, h2, -, -, h6, -⟩ := Cond.codeWith_spec h
  cases Option.some.inj (hn9.symm.trans B.named)
  cases Option.some.inj (h1.symm.trans B.method)
  cases Option.some.inj (h2.symm.trans (Stand.of_body B).code)
  rw [← h6, table_eq]
end Bodies
end VXA
/-! ===== END ===== -/
/-! ===== BEGIN a static call of a method with an exception table ===== -/
section VXS
variable {p : Program} {l : Launch} {e : Env} {R : Room} {s : State} {m : MethodId} {args : Array Value} {below : List Frame} {meth : Method} {c : Code} {T : State} {H : Heap} {locs : List Loc} {cells slots : Nat}
abbrev vx_CSW (R : Room) (s : State) (args : Array Value) (own : String) (index : Nat) (y : MethodName) (bytes : ByteArray) (maxL : Nat) (ret : Option FieldType) (hh : List (Nat × Nat × Nat × Nat)) (ws : List Cond) (rm : Room) (mc ms n : Nat) : Prop :=
  (rm.cells = mc ∧ rm.slots = ms ∧ rm.frames + 1 ≤ R.frames ∧ 8 + (maxL + 11) + rm.locals ≤ R.locals ∧ (∀ w ∈ ws, ∀ (a' : Array Value) (U : State), s.WarmedH U.vm → w.before a' U = true) ∧ Cond.codeWith y bytes maxL ret hh ∈ ws) ∧
  (Cond.codeWith y bytes maxL ret hh).before args s = true ∧ (Cond.initialized y.cls).before args s = true ∧ (y.cls ≠ "java/lang/invoke/MethodHandle" ∧ y.cls ≠ "java/lang/invoke/VarHandle") ∧
  (∀ sig, parseMethodDescriptor y.desc = some sig → n = sig.parameters.length) ∧ (Cond.methodLink own index y).before args s = true ∧ (Cond.static y).before args s = true
theorem vx_cwSW {own : String} {index maxL mc ms : Nat} {y : MethodName} {bytes : ByteArray} {ret : Option FieldType} {hh : List (Nat × Nat × Nat × Nat)} {Ts ws ws' : List Cond} {rm : Room} (n : Nat) (ht : ∀ w ∈ Ts, w.before args s = true) (hT : GoodIn Ts (va_wsS own index y ws)) (hw : ws = Cond.codeWith y bytes maxL ret hh :: ws') (hrc : rm.cells = mc) (hrs : rm.slots = ms)
    (hd : y.cls ≠ "java/lang/invoke/MethodHandle" ∧ y.cls ≠ "java/lang/invoke/VarHandle" ∧ (parseMethodDescriptor y.desc).map (fun d => d.parameters.length) = some n) (hR : rm.frames + 1 ≤ R.frames ∧ 8 + (maxL + 11) + rm.locals ≤ R.locals) :
    vx_CSW R s args own index y bytes maxL ret hh ws rm mc ms n := by
  have ok : ∀ w ∈ va_wsS own index y ws, w.before args s = true := fun w h => ht w (hT w h).1
  have hG : GoodIn Ts ws := fun w h => hT w (by unfold va_wsS; exact List.mem_append_right _ h)
  have hc : Cond.codeWith y bytes maxL ret hh ∈ ws := by rw [hw]; exact List.mem_cons_self
  refine ⟨⟨hrc, hrs, hR.1, hR.2, pay_in ht hG, hc⟩, ht _ (hG _ hc).1, ok _ (by simp [va_wsS]), ⟨hd.1, hd.2.1⟩, fun sig h => ?_, ok _ (by simp [va_wsS]), ok _ (by simp [va_wsS])⟩
  have h2 := hd.2.2
  rw [h] at h2
  exact (Option.some.inj h2).symm
theorem vx_callSW (X : Stand p l e R s m args below meth c T locs cells slots) (hexec : p.tables.exec = Jvm.exec) {own : String} {index : Nat} {y : MethodName} {bytes : ByteArray} {maxL : Nat} {ret : Option FieldType} {hh : List (Nat × Nat × Nat × Nat)}
    (hown : s.vm.findClass own = some m.cls) (hlink : (Cond.methodLink own index y).before args s = true) (hstat : (Cond.static y).before args s = true) (hinit : (Cond.initialized y.cls).before args s = true)
    (hcode : (Cond.codeWith y bytes maxL ret hh).before args s = true) (hy : y.cls ≠ "java/lang/invoke/MethodHandle" ∧ y.cls ≠ "java/lang/invoke/VarHandle")
    {W9 : Nat} {Pre : Pt → Array Value → Prop} {Post : Pt → Array Value → Option Value → Pt → Prop} (hK : Back l R p e below s args y 3 W9 Pre Post)
    {g : JFrame} (hg : g.method = m) (hsize : g.locals.size = c.maxLocals) {argsL rest : List Value} (hlen : ∀ sig, parseMethodDescriptor y.desc = some sig → argsL.length = sig.parameters.length)
    (hstack : g.stack = argsL.reverse ++ rest) (hW : 2 * g.monitorRoom + (rest.map fun v => v.category).sum ≤ W9) (hdg : decode c.code g.pc = .ok (.invokestatic index, 3))
    (hpre : ∀ vm₁, s.WarmedH vm₁ → Pre ⟨T.setVm vm₁, locs, cells, slots⟩ argsL.toArray) :
    ∃ (v : Option Value) (vm₁ : Vm) (B : Pt), s.WarmedH vm₁ ∧ Stand p l e R s m args below meth c B.U B.locs B.cells B.slots ∧ Post ⟨T.setVm vm₁, locs, cells, slots⟩ argsL.toArray v B ∧
      ∀ target, Steps p.tables e below (B.U.setTop { g with pc := g.pc + 3, stack := v.toList ++ rest }) target → Steps p.tables e below (T.setTop g) target := by
  obtain ⟨mk, methM, cM, hnamed, hmethM, -, -, -, -, -, -, hsigM⟩ := Cond.codeWith_spec hcode
  have hstatic : methM.isStatic = true := Cond.static_spec hnamed hmethM hstat
  obtain ⟨kP, hkP, -⟩ := className_of_methodNamed hnamed
  have hinitP : kP.init = .initialized := Cond.initialized_spec (findClass_of_methodNamed hnamed) hkP hinit
  obtain ⟨vm₁, X₁, hstep₁⟩ := X.invokestatic hexec hown hlink hnamed hmethM hstatic hkP hinitP hy (g := g) hg (argsL := argsL) (rest := rest) (hlen _ hsigM) hstack hdg
  obtain ⟨v, B, X', hpost, hsteps⟩ := hK m meth c ⟨T.setVm vm₁, locs, cells, slots⟩ { g with stack := rest } (.invokestatic index) mk argsL.toArray X₁ hg hsize hdg hW (X₁.named hnamed) (hpre vm₁ X₁.warmed)
  exact ⟨v, vm₁, B, X₁.warmed, X', hpost, fun target h => hstep₁ _ fun acts => by rw [doInvoke_state]; exact hsteps.trans h⟩
theorem vx_runSW {y : MethodName} {bytes cc : ByteArray} {maxL nL mc ms n index : Nat} {ret : Option FieldType} {hh : List (Nat × Nat × Nat × Nat)} {ws : List Cond} {rm : Room} {Pc : Array Value → State → Prop} {Qc : Array Value → State → Outcome → State → Prop} {free : Addr → Prop} {Ts : List Cond} {own : String} {As rest : List Value} {g : JFrame}
    (S : CallFix p m c cc nL s args Ts own) (hM : Met l y ws rm Pc Qc mc ms free) (cw : vx_CSW R s args own index y bytes maxL ret hh ws rm mc ms n) (hp : PreS s H Pc As)
    (hg : g.method = m) (hn : As.length = n) (hsize : g.locals.size = nL) (hstack : g.stack = As.reverse ++ rest) (hW : 2 * g.monitorRoom + (rest.map fun v => v.category).sum ≤ 8) (hdg : decode cc g.pc = .ok (.invokestatic index, 3)) (hf : cells + mc ≤ R.cells ∧ slots + ms ≤ R.slots) :
    va_Run p l e R s m args below meth c H locs cells slots mc ms g rest (Qc As.toArray) (free) := by
  obtain ⟨⟨hrc, hrs, hfr, hlo, hws, hcw⟩, hcode, hini, hy, hlen, hl, hstt⟩ := cw
  have hK : Back l R p e below s args y 3 8 (PreOf R mc ms Pc) (PostOf Qc mc ms free) := va_backW (hh := hh) (bytes := bytes) (maxL := maxL) (ret := ret) hM hp.1 hrc hrs hfr hlo hws hcw (fun a' U hW => word_at hW (Or.inl (by first | rfl | simp [Cond.onTables, Cond.keeps, Cond.steady])) hini)
  obtain ⟨hx, hb, hml, ho, -⟩ := S
  intro T hT X
  obtain ⟨v, vm₁, ⟨U', l2, c2, s2⟩, hW₁, X', ⟨g', mk, t, L, e1, e2, hq, h1, hL, h2, h3⟩, st⟩ := vx_callSW X hx (hh := hh) (bytes := bytes) (maxL := maxL) (ret := ret) ho hl hstt hini hcode hy hK hg (hsize.trans hml.symm) (argsL := As) (rest := rest) (fun sig h => hn.trans (hlen sig h)) hstack hW (by rw [hb]; exact hdg)
    (fun vm₁ hW₁ => ⟨hf.1, hf.2, hp.2 (T.setVm vm₁) hT hW₁⟩)
  dsimp only [Pt.U, Pt.locs, Pt.cells, Pt.slots] at X' e1 e2 h1 h2 h3 st
  subst h1; subst h2; subst h3
  exact ⟨v, (T.setVm vm₁).calling g' mk As.toArray, t, U', L, hT, X', hL, e1, e2, hq, st⟩
/-- a thing of a world lies in the heap -/
theorem vx_lt {D : va_G} {cl : List vw_C} {ws : va_W} {H1 : Heap} (h : va_P D cl ws H1) {k : Nat} {q : Nat × va_E} (hk : ws[k]? = some q) : q.1 < H1.size := (h k q hk).lt
end VXS
/-! ===== END ===== -/
/-! ===== BEGIN methods with a table of their own: called by a name, returning or throwing ===== -/
section VXH
/-! vx_backW, vx_callVX, vx_callSX, vx_callVW, vx_runVW, vx_runVX, vx_runSX, vx_ofWH follow the same proofs as their sisters above (Free/Laws.lean, Shelf42/LK1.lean); vx_outP calls Shelf42/NT130.lean (outThrough). -/
section
variable {l : Launch} {R : Room} {p : Program} {e : Env} {below : List Frame} {s : State} {sargs : Array Value} {y : MethodName} {len W9 : Nat}
theorem vx_backW {ws : List Cond} {rm : Room} {Pc : Array Value → State → Prop} {Qc : Array Value → State → Outcome → State → Prop} {XC : String → State → State → Prop} {mc ms : Nat} {free : Addr → Prop} {bytes : ByteArray} {maxL : Nat} {ret : Option FieldType} {hh : List (Nat × Nat × Nat × Nat)}
    (hM : vx_Met l y ws rm Pc Qc XC mc ms free) (hblind : FrameBlind Pc) (hrc : rm.cells = mc) (hrs : rm.slots = ms)
    (hframes : rm.frames + 1 ≤ R.frames) (hlocals : W9 + (maxL + 11) + rm.locals ≤ R.locals)
    (hws : ∀ w ∈ ws, ∀ a' U, s.WarmedH U.vm → w.before a' U = true) (hcode : Cond.codeWith y bytes maxL ret hh ∈ ws) (hinit : ∀ a' U, s.WarmedH U.vm → (Cond.initialized y.cls).before a' U = true) :
    vx_Back l R p e below s sargs y len W9 (PreOf R mc ms Pc) (PostOf Qc mc ms free) (vx_Post XC mc ms free) := by
  intro m meth c A g ig mk a X hg hsize hdg hW hn hp
  have h1 : (headSpec ws rm).pre.before a A.U = true := atoms_intro fun w hw => hws w hw _ _ X.warmed
  have h2 : (Cond.codeWith y bytes maxL ret hh).before a A.U = true := hws _ hcode _ _ X.warmed
  have h3 : (Cond.initialized y.cls).before a A.U = true := hinit _ _ X.warmed
  have h4 : A.cells + (headSpec ws rm).room.cells ≤ R.cells := by rw [show (headSpec ws rm).room.cells = mc from hrc]; exact hp.1
  have h5 : A.slots + (headSpec ws rm).room.slots ≤ R.slots := by rw [show (headSpec ws rm).room.slots = ms from hrs]; exact hp.2.1
  have hPc : Pc a (A.U.calling g mk a) := hblind _ _ _ _ hp.2.2
  obtain ⟨U, Ls, c0, s0⟩ := A
  dsimp only [Pt.U, Pt.locs, Pt.cells, Pt.slots] at h1 h2 h3 h4 h5 X hn hPc ⊢
  obtain ⟨m9, methY, cY, hn9, hmY, hcY, -, hlY, -⟩ := Cond.codeWith_spec h2
  cases Option.some.inj (hn9.symm.trans hn)
  obtain ⟨kY, hkY, -⟩ := className_of_methodNamed hn
  have hinitY : kY.init = .initialized := Cond.initialized_spec (findClass_of_methodNamed hn) hkY h3
  have h : At U g.method c below := by rw [hg]; exact X.here
  have hlocals9 : W9 + (maxL + 11) + (headSpec ws rm).room.locals ≤ R.locals := hlocals
  have happ : (headSpec ws rm).appliesLoose y e.platform (U.calling g mk a) = true :=
    Spec.appliesLoose_calling (g := g) h hdg hn hkY hinitY
      (X.room_calling (g := g) (R' := (headSpec ws rm).room) hsize hmY hcY hframes (by rw [hlY]; omega) h4 h5) h1
  obtain ⟨mid, hmid⟩ := h.above
  have hfr : (U.setTop g).frames = (.java g :: mid) ++ below := by rw [State.frames_setTop' g h.top, hmid]; rfl
  obtain ⟨o, s₂, hsteps, -, hend, hq⟩ := Steps.callFree hM p X.admits X.cas X.clock (acts := []) hfr happ hPc trivial
  have hq' : vx_Q Qc XC mc ms free a (U.calling g mk a) o s₂ := hq
  rw [State.frames_setTop' g h.top] at hend
  obtain ⟨g₀, hg0⟩ := Option.isSome_iff_exists.mp h.top
  obtain ⟨r, hr⟩ := State.topJava?_eq_some.mp hg0
  have hr' : (({ U with heap := s₂.heap, slotsUsed := s₂.slotsUsed } : State).setVm s₂.vm).frames = .java g₀ :: r := hr
  rcases hq' with ⟨hqc, L, hfe, hL⟩ | ⟨q, rfl, E, ce, L, hx, hce, hcv, hcl, hW₂, hsm, hL⟩
  · obtain ⟨⟨v, rfl⟩, hW₂, e2, q2, q3, q4, q5, q6⟩ := id hfe
    have e3 : s₂ = ({ (U.calling g mk a).setFrames s₂.frames with heap := s₂.heap, slotsUsed := s₂.slotsUsed } : State).setVm s₂.vm := by
      have : s₂ = ({ s₂ with vm := (U.calling g mk a).vm } : State).setVm s₂.vm := rfl
      rw [e2] at this
      exact this
    obtain ⟨c₂, i₂, len₂, hc₂, hd₂, hf₂⟩ := hend
    have hW' : U.WarmedH s₂.vm := hW₂
    have hcc : c₂ = c := by
      have h1 : s₂.code? g.method = U.code? g.method := by
        rw [State.code?_eq, State.code?_eq, hW'.alike.method?]
      exact Option.some.inj (hc₂.symm.trans (h1.trans h.code))
    subst hcc
    have hlen : len₂ = len := by rw [hdg] at hd₂; cases hd₂; rfl
    subst hlen
    have hs₂ : s₂ = (({ U with heap := s₂.heap, slotsUsed := s₂.slotsUsed } : State).setVm s₂.vm).setTop { g with pc := g.pc + len₂, stack := v.toList ++ g.stack } := by
      refine e3.trans ?_
      rw [hf₂, State.calling_eq h.top, State.setFrames_setFrames, State.setTop_of_frames _ hr', hr]
      rfl
    have hsame : U.sameButNew ({ U with heap := s₂.heap, slotsUsed := s₂.slotsUsed } : State) L mc ms := by
      refine ⟨?_, q2, q3, q4, q5, q6⟩
      obtain ⟨t, ht, -⟩ := State.frames_cons hr
      show ({ U with heap := s₂.heap, slotsUsed := s₂.slotsUsed } : State) = { U.setFrames U.frames with heap := s₂.heap, slotsUsed := s₂.slotsUsed }
      rw [State.setFrames_self ht]
    subst hg
    refine Or.inl ⟨v, ⟨(({ U with heap := s₂.heap, slotsUsed := s₂.slotsUsed } : State).setVm s₂.vm), Ls ++ L, c0 + mc, s0 + ms⟩,
      ⟨X.admits, X.cas, X.clock, X.frames, X.room, X.hears, X.method, X.code, (X.here.setHeapUsed s₂.heap s₂.slotsUsed).setVm hW'.alike, X.tail, State.WarmedH.trans X.warmed hW', X.limits, X.bytes, X.same.trans (hsame.setVm s.vm)⟩,
      ⟨g, mk, s₂, L, rfl, rfl, hqc, rfl, hL, rfl, rfl⟩, ?_⟩
    show Steps p.tables e below _ ((({ U with heap := s₂.heap, slotsUsed := s₂.slotsUsed } : State).setVm s₂.vm).setTop { g with pc := g.pc + len₂, stack := v.toList ++ g.stack })
    rw [← hs₂]
    exact hsteps
  · obtain ⟨e2, q2, q3, q4, q5, q6⟩ := id hsm
    have e3 : s₂ = ({ (U.calling g mk a).setFrames s₂.frames with heap := s₂.heap, slotsUsed := s₂.slotsUsed } : State).setVm s₂.vm := by
      have : s₂ = ({ s₂ with vm := (U.calling g mk a).vm } : State).setVm s₂.vm := rfl
      rw [e2] at this
      exact this
    have hf₂ : s₂.frames = .throwing q :: .java g :: U.frames.tail := hend
    have hW' : U.WarmedH s₂.vm := hW₂
    have hs₂ : s₂ = ((({ U with heap := s₂.heap, slotsUsed := s₂.slotsUsed } : State).setVm s₂.vm).setTop g).pushFrame (.throwing q) := by
      refine e3.trans ?_
      rw [hf₂, State.calling_eq h.top, State.setFrames_setFrames, State.pushFrame, State.frames_setTop _ hr', State.setTop_of_frames _ hr', State.setFrames_setFrames, hr]
      rfl
    have hsame : U.sameButNew ({ U with heap := s₂.heap, slotsUsed := s₂.slotsUsed } : State) L mc ms := by
      refine ⟨?_, q2, q3, q4, q5, q6⟩
      obtain ⟨t, ht, -⟩ := State.frames_cons hr
      show ({ U with heap := s₂.heap, slotsUsed := s₂.slotsUsed } : State) = { U.setFrames U.frames with heap := s₂.heap, slotsUsed := s₂.slotsUsed }
      rw [State.setFrames_self ht]
    subst hg
    refine Or.inr ⟨q, ⟨(({ U with heap := s₂.heap, slotsUsed := s₂.slotsUsed } : State).setVm s₂.vm), Ls ++ L, c0 + mc, s0 + ms⟩,
      ⟨X.admits, X.cas, X.clock, X.frames, X.room, X.hears, X.method, X.code, (X.here.setHeapUsed s₂.heap s₂.slotsUsed).setVm hW'.alike, X.tail, State.WarmedH.trans X.warmed hW', X.limits, X.bytes, X.same.trans (hsame.setVm s.vm)⟩,
      ⟨g, mk, s₂, L, E, ce, rfl, rfl, hx, hce, hcv, hcl, rfl, hL, rfl, rfl⟩, ?_⟩
    show Steps p.tables e below _ (((({ U with heap := s₂.heap, slotsUsed := s₂.slotsUsed } : State).setVm s₂.vm).setTop g).pushFrame (.throwing q))
    rw [← hs₂]
    exact hsteps
end
variable {p : Program} {l : Launch} {e : Env} {R : Room} {s : State} {m : MethodId} {args : Array Value} {below : List Frame} {meth : Method} {c : Code} {T : State} {H : Heap} {locs : List Loc} {cells slots : Nat}
theorem vx_callVX (X : Stand p l e R s m args below meth c T locs cells slots) (hexec : p.tables.exec = Jvm.exec) {own C : String} {index : Nat} {y : MethodName} {bytes : ByteArray} {maxL : Nat} {ret : Option FieldType} {hh : List (Nat × Nat × Nat × Nat)}
    (hown : s.vm.findClass own = some m.cls) (hlink : (Cond.methodLink own index y).before args s = true) (hinst : (Cond.instanceMethod y).before args s = true) (hsel : (Cond.selects C y y).before args s = true)
    (hcode : (Cond.codeWith y bytes maxL ret hh).before args s = true) (hy : y.cls ≠ "java/lang/invoke/MethodHandle" ∧ y.cls ≠ "java/lang/invoke/VarHandle")
    {W9 : Nat} {Pre : Pt → Array Value → Prop} {Post : Pt → Array Value → Option Value → Pt → Prop} {PostX : Pt → Array Value → Addr → Pt → Prop} (hK : vx_Back l R p e below s args y 3 W9 Pre Post PostX)
    {b : Addr} {cellB : Cell} (hcell : T.heap[b]? = some cellB) (hobj : cellB.vm.isStatics = false) (hcls : s.vm.findClass C = some cellB.cls)
    {g : JFrame} (hg : g.method = m) (hsize : g.locals.size = c.maxLocals) {argsL rest : List Value} (hlen : ∀ sig, parseMethodDescriptor y.desc = some sig → argsL.length = sig.parameters.length)
    (hstack : g.stack = argsL.reverse ++ .ref b :: rest) (hW : 2 * g.monitorRoom + (rest.map fun v => v.category).sum ≤ W9) (hdg : decode c.code g.pc = .ok (.invokevirtual index, 3))
    (hpre : ∀ vm₁, s.WarmedH vm₁ → Pre ⟨T.setVm vm₁, locs, cells, slots⟩ (Value.ref b :: argsL).toArray) :
    (∃ (v : Option Value) (vm₁ : Vm) (B : Pt), s.WarmedH vm₁ ∧ Stand p l e R s m args below meth c B.U B.locs B.cells B.slots ∧ Post ⟨T.setVm vm₁, locs, cells, slots⟩ (Value.ref b :: argsL).toArray v B ∧
      ∀ target, Steps p.tables e below (B.U.setTop { g with pc := g.pc + 3, stack := v.toList ++ rest }) target → Steps p.tables e below (T.setTop g) target) ∨
    (∃ (q : Addr) (vm₁ : Vm) (B : Pt), s.WarmedH vm₁ ∧ Stand p l e R s m args below meth c B.U B.locs B.cells B.slots ∧ PostX ⟨T.setVm vm₁, locs, cells, slots⟩ (Value.ref b :: argsL).toArray q B ∧
      Steps p.tables e below (T.setTop g) ((B.U.setTop { g with stack := rest }).pushFrame (.throwing q))) := by
  obtain ⟨mk, methM, hnamed, hmethM, hstM, habM⟩ := Cond.instanceMethod_spec hinst
  obtain ⟨m8, methM', cM, hn8, hmethM', -, -, -, -, -, -, hsigM⟩ := Cond.codeWith_spec hcode
  cases Option.some.inj (hn8.symm.trans hnamed)
  cases hmethM.symm.trans hmethM'
  obtain ⟨c2, r2, m2, q1, q2, q3, q4, kP, hkP, hkPi⟩ := Cond.selects_spec hsel
  cases hcls.symm.trans q1
  cases (State.methodFound?_of_named hnamed hy).symm.trans q2
  cases hnamed.symm.trans q3
  have hselP : selectMethod e.platform s.vm cellB.cls mk = .method mk := by rw [Launch.admits_selectMethod X.admits]; exact q4
  obtain ⟨vm₁, X₁, hstep₁⟩ := X.invokevirtual hexec hown hlink hnamed hmethM hstM hkP hkPi hy (a := b) (cell := cellB) hcell
    (fun z h => by rw [h] at hobj; cases hobj) hselP hmethM habM hkP hkPi (g := g) hg (argsL := argsL) (rest := rest) (hlen _ hsigM) hstack hdg
  rcases hK m meth c ⟨T.setVm vm₁, locs, cells, slots⟩ { g with stack := rest } (.invokevirtual index) mk (Value.ref b :: argsL).toArray X₁ hg hsize hdg hW (X₁.named hnamed) (hpre vm₁ X₁.warmed) with ⟨v, B, X', hpost, hsteps⟩ | ⟨q, B, X', hpost, hsteps⟩
  · exact Or.inl ⟨v, vm₁, B, X₁.warmed, X', hpost, fun target h => hstep₁ _ fun acts => by rw [doInvoke_state]; exact hsteps.trans h⟩
  · exact Or.inr ⟨q, vm₁, B, X₁.warmed, X', hpost, hstep₁ _ fun acts => by rw [doInvoke_state]; exact hsteps⟩
theorem vx_callSX (X : Stand p l e R s m args below meth c T locs cells slots) (hexec : p.tables.exec = Jvm.exec) {own : String} {index : Nat} {y : MethodName} {bytes : ByteArray} {maxL : Nat} {ret : Option FieldType} {hh : List (Nat × Nat × Nat × Nat)}
    (hown : s.vm.findClass own = some m.cls) (hlink : (Cond.methodLink own index y).before args s = true) (hstat : (Cond.static y).before args s = true) (hinit : (Cond.initialized y.cls).before args s = true)
    (hcode : (Cond.codeWith y bytes maxL ret hh).before args s = true) (hy : y.cls ≠ "java/lang/invoke/MethodHandle" ∧ y.cls ≠ "java/lang/invoke/VarHandle")
    {W9 : Nat} {Pre : Pt → Array Value → Prop} {Post : Pt → Array Value → Option Value → Pt → Prop} {PostX : Pt → Array Value → Addr → Pt → Prop} (hK : vx_Back l R p e below s args y 3 W9 Pre Post PostX)
    {g : JFrame} (hg : g.method = m) (hsize : g.locals.size = c.maxLocals) {argsL rest : List Value} (hlen : ∀ sig, parseMethodDescriptor y.desc = some sig → argsL.length = sig.parameters.length)
    (hstack : g.stack = argsL.reverse ++ rest) (hW : 2 * g.monitorRoom + (rest.map fun v => v.category).sum ≤ W9) (hdg : decode c.code g.pc = .ok (.invokestatic index, 3))
    (hpre : ∀ vm₁, s.WarmedH vm₁ → Pre ⟨T.setVm vm₁, locs, cells, slots⟩ argsL.toArray) :
    (∃ (v : Option Value) (vm₁ : Vm) (B : Pt), s.WarmedH vm₁ ∧ Stand p l e R s m args below meth c B.U B.locs B.cells B.slots ∧ Post ⟨T.setVm vm₁, locs, cells, slots⟩ argsL.toArray v B ∧
      ∀ target, Steps p.tables e below (B.U.setTop { g with pc := g.pc + 3, stack := v.toList ++ rest }) target → Steps p.tables e below (T.setTop g) target) ∨
    (∃ (q : Addr) (vm₁ : Vm) (B : Pt), s.WarmedH vm₁ ∧ Stand p l e R s m args below meth c B.U B.locs B.cells B.slots ∧ PostX ⟨T.setVm vm₁, locs, cells, slots⟩ argsL.toArray q B ∧
      Steps p.tables e below (T.setTop g) ((B.U.setTop { g with stack := rest }).pushFrame (.throwing q))) := by
  obtain ⟨mk, methM, cM, hnamed, hmethM, -, -, -, -, -, -, hsigM⟩ := Cond.codeWith_spec hcode
  have hstatic : methM.isStatic = true := Cond.static_spec hnamed hmethM hstat
  obtain ⟨kP, hkP, -⟩ := className_of_methodNamed hnamed
  have hinitP : kP.init = .initialized := Cond.initialized_spec (findClass_of_methodNamed hnamed) hkP hinit
  obtain ⟨vm₁, X₁, hstep₁⟩ := X.invokestatic hexec hown hlink hnamed hmethM hstatic hkP hinitP hy (g := g) hg (argsL := argsL) (rest := rest) (hlen _ hsigM) hstack hdg
  rcases hK m meth c ⟨T.setVm vm₁, locs, cells, slots⟩ { g with stack := rest } (.invokestatic index) mk argsL.toArray X₁ hg hsize hdg hW (X₁.named hnamed) (hpre vm₁ X₁.warmed) with ⟨v, B, X', hpost, hsteps⟩ | ⟨q, B, X', hpost, hsteps⟩
  · exact Or.inl ⟨v, vm₁, B, X₁.warmed, X', hpost, fun target h => hstep₁ _ fun acts => by rw [doInvoke_state]; exact hsteps.trans h⟩
  · exact Or.inr ⟨q, vm₁, B, X₁.warmed, X', hpost, hstep₁ _ fun acts => by rw [doInvoke_state]; exact hsteps⟩
theorem vx_callVW (X : Stand p l e R s m args below meth c T locs cells slots) (hexec : p.tables.exec = Jvm.exec) {own C : String} {index : Nat} {y : MethodName} {bytes : ByteArray} {maxL : Nat} {ret : Option FieldType} {hh : List (Nat × Nat × Nat × Nat)}
    (hown : s.vm.findClass own = some m.cls) (hlink : (Cond.methodLink own index y).before args s = true) (hinst : (Cond.instanceMethod y).before args s = true) (hsel : (Cond.selects C y y).before args s = true)
    (hcode : (Cond.codeWith y bytes maxL ret hh).before args s = true) (hy : y.cls ≠ "java/lang/invoke/MethodHandle" ∧ y.cls ≠ "java/lang/invoke/VarHandle")
    {W9 : Nat} {Pre : Pt → Array Value → Prop} {Post : Pt → Array Value → Option Value → Pt → Prop} (hK : Back l R p e below s args y 3 W9 Pre Post)
    {b : Addr} {cellB : Cell} (hcell : T.heap[b]? = some cellB) (hobj : cellB.vm.isStatics = false) (hcls : s.vm.findClass C = some cellB.cls)
    {g : JFrame} (hg : g.method = m) (hsize : g.locals.size = c.maxLocals) {argsL rest : List Value} (hlen : ∀ sig, parseMethodDescriptor y.desc = some sig → argsL.length = sig.parameters.length)
    (hstack : g.stack = argsL.reverse ++ .ref b :: rest) (hW : 2 * g.monitorRoom + (rest.map fun v => v.category).sum ≤ W9) (hdg : decode c.code g.pc = .ok (.invokevirtual index, 3))
    (hpre : ∀ vm₁, s.WarmedH vm₁ → Pre ⟨T.setVm vm₁, locs, cells, slots⟩ (Value.ref b :: argsL).toArray) :
    ∃ (v : Option Value) (vm₁ : Vm) (B : Pt), s.WarmedH vm₁ ∧ Stand p l e R s m args below meth c B.U B.locs B.cells B.slots ∧ Post ⟨T.setVm vm₁, locs, cells, slots⟩ (Value.ref b :: argsL).toArray v B ∧
      ∀ target, Steps p.tables e below (B.U.setTop { g with pc := g.pc + 3, stack := v.toList ++ rest }) target → Steps p.tables e below (T.setTop g) target := by
  obtain ⟨mk, methM, hnamed, hmethM, hstM, habM⟩ := Cond.instanceMethod_spec hinst
  obtain ⟨m8, methM', cM, hn8, hmethM', -, -, -, -, -, -, hsigM⟩ := Cond.codeWith_spec hcode
  cases Option.some.inj (hn8.symm.trans hnamed)
  cases hmethM.symm.trans hmethM'
  obtain ⟨c2, r2, m2, q1, q2, q3, q4, kP, hkP, hkPi⟩ := Cond.selects_spec hsel
  cases hcls.symm.trans q1
  cases (State.methodFound?_of_named hnamed hy).symm.trans q2
  cases hnamed.symm.trans q3
  have hselP : selectMethod e.platform s.vm cellB.cls mk = .method mk := by rw [Launch.admits_selectMethod X.admits]; exact q4
  obtain ⟨vm₁, X₁, hstep₁⟩ := X.invokevirtual hexec hown hlink hnamed hmethM hstM hkP hkPi hy (a := b) (cell := cellB) hcell
    (fun z h => by rw [h] at hobj; cases hobj) hselP hmethM habM hkP hkPi (g := g) hg (argsL := argsL) (rest := rest) (hlen _ hsigM) hstack hdg
  obtain ⟨v, B, X', hpost, hsteps⟩ := hK m meth c ⟨T.setVm vm₁, locs, cells, slots⟩ { g with stack := rest } (.invokevirtual index) mk (Value.ref b :: argsL).toArray X₁ hg hsize hdg hW (X₁.named hnamed) (hpre vm₁ X₁.warmed)
  exact ⟨v, vm₁, B, X₁.warmed, X', hpost, fun target h => hstep₁ _ fun acts => by rw [doInvoke_state]; exact hsteps.trans h⟩
abbrev vx_CVW (R : Room) (s : State) (args : Array Value) (own C : String) (index : Nat) (y : MethodName) (bytes : ByteArray) (maxL : Nat) (ret : Option FieldType) (hh : List (Nat × Nat × Nat × Nat)) (ws : List Cond) (rm : Room) (mc ms n : Nat) : Prop :=
  (rm.cells = mc ∧ rm.slots = ms ∧ rm.frames + 1 ≤ R.frames ∧ 8 + (maxL + 11) + rm.locals ≤ R.locals ∧ (∀ w ∈ ws, ∀ (a' : Array Value) (U : State), s.WarmedH U.vm → w.before a' U = true) ∧ Cond.codeWith y bytes maxL ret hh ∈ ws) ∧
  (Cond.codeWith y bytes maxL ret hh).before args s = true ∧ (Cond.initialized y.cls).before args s = true ∧ (y.cls ≠ "java/lang/invoke/MethodHandle" ∧ y.cls ≠ "java/lang/invoke/VarHandle") ∧
  (∀ sig, parseMethodDescriptor y.desc = some sig → n = sig.parameters.length) ∧ (Cond.methodLink own index y).before args s = true ∧ (Cond.instanceMethod y).before args s = true ∧ (Cond.selects C y y).before args s = true
theorem vx_cwVW {own C : String} {index maxL mc ms : Nat} {y : MethodName} {bytes : ByteArray} {ret : Option FieldType} {hh : List (Nat × Nat × Nat × Nat)} {Ts ws ws' : List Cond} {rm : Room} (n : Nat) (ht : ∀ w ∈ Ts, w.before args s = true) (hT : GoodIn Ts (wsV own index C y ws)) (hw : ws = Cond.codeWith y bytes maxL ret hh :: ws') (hrc : rm.cells = mc) (hrs : rm.slots = ms)
    (hd : y.cls = C ∧ y.cls ≠ "java/lang/invoke/MethodHandle" ∧ y.cls ≠ "java/lang/invoke/VarHandle" ∧ (parseMethodDescriptor y.desc).map (fun d => d.parameters.length) = some n) (hR : rm.frames + 1 ≤ R.frames ∧ 8 + (maxL + 11) + rm.locals ≤ R.locals) :
    vx_CVW R s args own C index y bytes maxL ret hh ws rm mc ms n := by
  obtain ⟨hC, hd⟩ := hd
  subst hC
  have ok : ∀ w ∈ wsV own index y.cls y ws, w.before args s = true := fun w h => ht w (hT w h).1
  have hG : GoodIn Ts ws := fun w h => hT w (by unfold wsV; exact List.mem_append_right _ h)
  have hc : Cond.codeWith y bytes maxL ret hh ∈ ws := by rw [hw]; exact List.mem_cons_self
  refine ⟨⟨hrc, hrs, hR.1, hR.2, pay_in ht hG, hc⟩, ht _ (hG _ hc).1, ok _ (by simp [wsV]), ⟨hd.1, hd.2.1⟩, fun sig h => ?_, ok _ (by simp [wsV]), ok _ (by simp [wsV]), ok _ (by simp [wsV])⟩
  have h2 := hd.2.2
  rw [h] at h2
  exact (Option.some.inj h2).symm
theorem vx_runVW {y : MethodName} {bytes cc : ByteArray} {maxL nL mc ms n index : Nat} {ret : Option FieldType} {hh : List (Nat × Nat × Nat × Nat)} {ws : List Cond} {rm : Room} {Pc : Array Value → State → Prop} {Qc : Array Value → State → Outcome → State → Prop} {free : Addr → Prop} {Ts : List Cond} {own C : String} {b : Addr} {As rest : List Value} {g : JFrame}
    (S : CallFix p m c cc nL s args Ts own) (hM : Met l y ws rm Pc Qc mc ms free) (cw : vx_CVW R s args own C index y bytes maxL ret hh ws rm mc ms n) (hp : PreV s H C b Pc As)
    (hg : g.method = m) (hn : As.length = n) (hsize : g.locals.size = nL) (hstack : g.stack = As.reverse ++ .ref b :: rest) (hW : 2 * g.monitorRoom + (rest.map fun v => v.category).sum ≤ 8) (hdg : decode cc g.pc = .ok (.invokevirtual index, 3)) (hf : cells + mc ≤ R.cells ∧ slots + ms ≤ R.slots) :
    va_Run p l e R s m args below meth c H locs cells slots mc ms g rest (Qc (Value.ref b :: As).toArray) free := by
  obtain ⟨⟨hrc, hrs, hfr, hlo, hws, hcw⟩, hcode, hini, hy, hlen, hl, hin, hse⟩ := cw
  have hK : Back l R p e below s args y 3 8 (PreOf R mc ms Pc) (PostOf Qc mc ms free) := va_backW (hh := hh) (bytes := bytes) (maxL := maxL) (ret := ret) hM hp.1 hrc hrs hfr hlo hws hcw (fun a' U hW => word_at hW (Or.inl (by first | rfl | simp [Cond.onTables, Cond.keeps, Cond.steady])) hini)
  obtain ⟨hx, hb, hml, ho, -⟩ := S
  obtain ⟨-, ⟨cellB, hcB, hoB, hclB⟩, hPc⟩ := hp
  intro T hT X
  obtain ⟨v, vm₁, ⟨U', l2, c2, s2⟩, hW₁, X', ⟨g', mk, t, L, e1, e2, hq, h1, hL, h2, h3⟩, st⟩ := vx_callVW X hx (C := C) (hh := hh) (bytes := bytes) (maxL := maxL) (ret := ret) ho hl hin hse hcode hy hK (by rw [hT]; exact hcB) hoB hclB hg (hsize.trans hml.symm) (argsL := As) (rest := rest) (fun sig h => hn.trans (hlen sig h)) hstack hW (by rw [hb]; exact hdg)
    (fun vm₁ hW₁ => ⟨hf.1, hf.2, hPc (T.setVm vm₁) hT hW₁⟩)
  dsimp only [Pt.U, Pt.locs, Pt.cells, Pt.slots] at X' e1 e2 h1 h2 h3 st
  subst h1; subst h2; subst h3
  exact ⟨v, (T.setVm vm₁).calling g' mk (Value.ref b :: As).toArray, t, U', L, hT, X', hL, e1, e2, hq, st⟩
section
variable {y : MethodName} {bytes cc : ByteArray} {maxL nL mc ms n index : Nat} {ret : Option FieldType} {ws : List Cond} {rm : Room} {Pc : Array Value → State → Prop} {Qc : Array Value → State → Outcome → State → Prop} {XC : String → State → State → Prop} {free : Addr → Prop} {Ts : List Cond} {own C : String} {b : Addr} {As rest : List Value} {g : JFrame}
theorem vx_runVX {hh : List (Nat × Nat × Nat × Nat)} (S : CallFix p m c cc nL s args Ts own) (hM : vx_Met l y ws rm Pc Qc XC mc ms free) (cw : vx_CVW R s args own C index y bytes maxL ret hh ws rm mc ms n) (hp : PreV s H C b Pc As)
    (hg : g.method = m) (hn : As.length = n) (hsize : g.locals.size = nL) (hstack : g.stack = As.reverse ++ .ref b :: rest) (hW : 2 * g.monitorRoom + (rest.map fun v => v.category).sum ≤ 8) (hdg : decode cc g.pc = .ok (.invokevirtual index, 3)) (hf : cells + mc ≤ R.cells ∧ slots + ms ≤ R.slots) :
    vx_Run p l e R s m args below meth c H locs cells slots mc ms g rest (Qc (Value.ref b :: As).toArray) XC free := by
  obtain ⟨⟨hrc, hrs, hfr, hlo, hws, hcw⟩, hcode, hini, hy, hlen, hl, hin, hse⟩ := cw
  have hK : vx_Back l R p e below s args y 3 8 (PreOf R mc ms Pc) (PostOf Qc mc ms free) (vx_Post XC mc ms free) := vx_backW (hh := hh) (bytes := bytes) (maxL := maxL) (ret := ret) hM hp.1 hrc hrs hfr hlo hws hcw (fun a' U hW => word_at hW (Or.inl (by first | rfl | simp [Cond.onTables, Cond.keeps, Cond.steady])) hini)
  obtain ⟨hx, hb, hml, ho, -⟩ := S
  obtain ⟨-, ⟨cellB, hcB, hoB, hclB⟩, hPc⟩ := hp
  intro T hT X
  rcases vx_callVX X hx (C := C) (hh := hh) (bytes := bytes) (maxL := maxL) (ret := ret) ho hl hin hse hcode hy hK (by rw [hT]; exact hcB) hoB hclB hg (hsize.trans hml.symm) (argsL := As) (rest := rest) (fun sig h => hn.trans (hlen sig h)) hstack hW (by rw [hb]; exact hdg)
    (fun vm₁ hW₁ => ⟨hf.1, hf.2, hPc (T.setVm vm₁) hT hW₁⟩) with ⟨v, vm₁, ⟨U', l2, c2, s2⟩, hW₁, X', ⟨g', mk, t, L, e1, e2, hq, h1, hL, h2, h3⟩, st⟩ | ⟨q, vm₁, ⟨U', l2, c2, s2⟩, hW₁, X', ⟨g', mk, t, L, E, ce, e1, e2, hq, hce, hcv, hcl, h1, hL, h2, h3⟩, st⟩
  · dsimp only [Pt.U, Pt.locs, Pt.cells, Pt.slots] at X' e1 e2 h1 h2 h3 st
    subst h1; subst h2; subst h3
    exact Or.inl ⟨v, (T.setVm vm₁).calling g' mk (Value.ref b :: As).toArray, t, U', L, hT, X', hL, e1, e2, hq, st⟩
  · dsimp only [Pt.U, Pt.locs, Pt.cells, Pt.slots] at X' e1 e2 h1 h2 h3 st hcl
    subst h1; subst h2; subst h3
    exact Or.inr ⟨q, (T.setVm vm₁).calling g' mk (Value.ref b :: As).toArray, t, U', L, E, ce, hT, X', hL, e1, e2, hq, hce, hcv, vx_cls hW₁ hcl, st⟩
theorem vx_runSX {hh : List (Nat × Nat × Nat × Nat)} (S : CallFix p m c cc nL s args Ts own) (hM : vx_Met l y ws rm Pc Qc XC mc ms free) (cw : vx_CSW R s args own index y bytes maxL ret hh ws rm mc ms n) (hp : PreS s H Pc As)
    (hg : g.method = m) (hn : As.length = n) (hsize : g.locals.size = nL) (hstack : g.stack = As.reverse ++ rest) (hW : 2 * g.monitorRoom + (rest.map fun v => v.category).sum ≤ 8) (hdg : decode cc g.pc = .ok (.invokestatic index, 3)) (hf : cells + mc ≤ R.cells ∧ slots + ms ≤ R.slots) :
    vx_Run p l e R s m args below meth c H locs cells slots mc ms g rest (Qc As.toArray) XC free := by
  obtain ⟨⟨hrc, hrs, hfr, hlo, hws, hcw⟩, hcode, hini, hy, hlen, hl, hstt⟩ := cw
  have hK : vx_Back l R p e below s args y 3 8 (PreOf R mc ms Pc) (PostOf Qc mc ms free) (vx_Post XC mc ms free) := vx_backW (hh := hh) (bytes := bytes) (maxL := maxL) (ret := ret) hM hp.1 hrc hrs hfr hlo hws hcw (fun a' U hW => word_at hW (Or.inl (by first | rfl | simp [Cond.onTables, Cond.keeps, Cond.steady])) hini)
  obtain ⟨hx, hb, hml, ho, -⟩ := S
  intro T hT X
  rcases vx_callSX X hx (hh := hh) (bytes := bytes) (maxL := maxL) (ret := ret) ho hl hstt hini hcode hy hK hg (hsize.trans hml.symm) (argsL := As) (rest := rest) (fun sig h => hn.trans (hlen sig h)) hstack hW (by rw [hb]; exact hdg)
    (fun vm₁ hW₁ => ⟨hf.1, hf.2, hp.2 (T.setVm vm₁) hT hW₁⟩) with ⟨v, vm₁, ⟨U', l2, c2, s2⟩, hW₁, X', ⟨g', mk, t, L, e1, e2, hq, h1, hL, h2, h3⟩, st⟩ | ⟨q, vm₁, ⟨U', l2, c2, s2⟩, hW₁, X', ⟨g', mk, t, L, E, ce, e1, e2, hq, hce, hcv, hcl, h1, hL, h2, h3⟩, st⟩
  · dsimp only [Pt.U, Pt.locs, Pt.cells, Pt.slots] at X' e1 e2 h1 h2 h3 st
    subst h1; subst h2; subst h3
    exact Or.inl ⟨v, (T.setVm vm₁).calling g' mk As.toArray, t, U', L, hT, X', hL, e1, e2, hq, st⟩
  · dsimp only [Pt.U, Pt.locs, Pt.cells, Pt.slots] at X' e1 e2 h1 h2 h3 st hcl
    subst h1; subst h2; subst h3
    exact Or.inr ⟨q, (T.setVm vm₁).calling g' mk As.toArray, t, U', L, E, ce, hT, X', hL, e1, e2, hq, hce, hcv, vx_cls hW₁ hcl, st⟩
end
end VXH
theorem vx_ofWH {l : Launch} {y : MethodName} {ws ws' : List Cond} {rm : Room} {Pc : Array Value → State → Prop} {Qc : Array Value → State → Outcome → State → Prop} {XC : String → State → State → Prop} {mc ms : Nat} {free : Addr → Prop} {cc : ByteArray} {maxL : Nat} {ret : Option FieldType} {hh : List (Nat × Nat × Nat × Nat)}
    (hy : plainName y.cls = true) (hw : ws = Cond.codeWith y cc maxL ret hh :: ws')
    (body : ∀ p e s m args below meth c s₁, BodyLoose p l y (headSpec ws rm) cc maxL ret e s m args below meth c s₁ → c.maxLocals = maxL → Pc args s →
      W p l e (headSpec ws rm).room s m args below meth c s.heap [] 0 0 (vx_MQ below Qc XC args s mc ms free) (entryFrame m args maxL)) : vx_Met l y ws rm Pc Qc XC mc ms free := by
  refine MetFree.of_bodyS (code := cc) (maxLocals := maxL) (ret := ret) hy ?_ ?_
  · intro args s m h hn
    obtain ⟨m9, meth, c, hn9, h1, h2, h3, h4, -, h5, h6, -⟩ := Cond.codeWith_spec (atoms_spec (ws := ws) h _ (by rw [hw]; exact List.mem_cons_self))
    cases hn.symm.trans hn9
    exact ⟨meth, c, h1, h2, h3, h4, h5, h6⟩
  · intro p e s m args below meth c s₁ B hml hP _
    have hh0 : s₁.heap = s.heap := by rw [B.state]; rfl
    obtain ⟨t, a1, o, b1, b2, b3⟩ := body p e s m args below meth c s₁ B hml hP s₁ hh0 (Stand.of_body B)
    exact ⟨t, o, a1, b1, b2, b3⟩
/-! ===== END ===== -/
end
section
/-! ===== BEGIN printed: names, fields, word lists, decode rows ===== -/
def RX0 : String := "Board"
def TX0 : u_T := fun k => match k with
  | 0 => ("Board", "board", "[I", true)
  | 1 => ("Board", "side", "I", false)
  | 2 => ("Board", "rights", "I", false)
  | 3 => ("Board", "passing", "I", false)
  | 4 => ("Board", "half", "I", false)
  | 5 => ("Board", "full", "I", false)
  | 6 => ("Board", "made", "I", false)
  | 7 => ("Board", "moves", "[I", true)
  | 8 => ("Board", "takenPieces", "[I", true)
  | 9 => ("Board", "takenSquares", "[I", true)
  | 10 => ("Board", "rightsBefore", "[I", true)
  | 11 => ("Board", "passingBefore", "[I", true)
  | _ => ("Board", "halfBefore", "[I", true)
def tyX0 : Nat → FieldType := fun k => match k with
  | 0 => .array .int
  | 1 => .int
  | 2 => .int
  | 3 => .int
  | 4 => .int
  | 5 => .int
  | 6 => .int
  | 7 => .array .int
  | 8 => .array .int
  | 9 => .array .int
  | 10 => .array .int
  | 11 => .array .int
  | _ => .array .int
abbrev wsX00 : List Cond := u_ws RX0 TX0 13
theorem nmX0 : ∀ a, a < 13 → ∀ b, b < 13 → a ≠ b → (TX0 a).2.1 ≠ (TX0 b).2.1 := by decide +kernel
theorem tyX0_ok : ∀ k, k < 13 → parseFieldDescriptor (TX0 k).2.2.1 = some (tyX0 k) := by decide +kernel
abbrev cX0_init : ByteArray := prog_1_method_1_code
def yX0_init : MethodName := ⟨RX0, "<init>", "()V"⟩
abbrev cX0_clear : ByteArray := prog_1_method_2_code
def yX0_clear : MethodName := ⟨RX0, "clear", "()V"⟩
abbrev cX0_begin : ByteArray := prog_1_method_3_code
def yX0_begin : MethodName := ⟨RX0, "begin", "()V"⟩
abbrev cX0_put : ByteArray := prog_1_method_4_code
def yX0_put : MethodName := ⟨RX0, "put", "(II)V"⟩
abbrev cX0_state : ByteArray := prog_1_method_5_code
def yX0_state : MethodName := ⟨RX0, "state", "(III)V"⟩
abbrev cX0_clocks : ByteArray := prog_1_method_6_code
def yX0_clocks : MethodName := ⟨RX0, "clocks", "(II)V"⟩
abbrev cX0_fits : ByteArray := prog_1_method_7_code
def yX0_fits : MethodName := ⟨RX0, "fits", "(I)Z"⟩
abbrev cX0_make : ByteArray := prog_1_method_8_code
def yX0_make : MethodName := ⟨RX0, "make", "(I)I"⟩
abbrev cX0_unmake : ByteArray := prog_1_method_9_code
def yX0_unmake : MethodName := ⟨RX0, "unmake", "()I"⟩
abbrev cX0_at : ByteArray := prog_1_method_10_code
def yX0_at : MethodName := ⟨RX0, "at", "(I)I"⟩
abbrev cX0_where : ByteArray := prog_1_method_11_code
def yX0_where : MethodName := ⟨RX0, "where", "(I)J"⟩
abbrev cX0_attackers : ByteArray := prog_1_method_12_code
def yX0_attackers : MethodName := ⟨RX0, "attackers", "(II)J"⟩
abbrev cX0_check : ByteArray := prog_1_method_13_code
def yX0_check : MethodName := ⟨RX0, "check", "(I)Z"⟩
abbrev cX0_key : ByteArray := prog_1_method_14_code
def yX0_key : MethodName := ⟨RX0, "key", "()J"⟩
abbrev cX0_move : ByteArray := prog_1_method_15_code
def yX0_move : MethodName := ⟨RX0, "move", "(I)I"⟩
abbrev cX0_look : ByteArray := prog_1_method_16_code
def yX0_look : MethodName := ⟨RX0, "look", "(I)I"⟩
abbrev cX0_setAllAsAtFirst : ByteArray := prog_1_method_17_code
def yX0_setAllAsAtFirst : MethodName := ⟨RX0, "setAllAsAtFirst", "()V"⟩
abbrev cX0_forgetMoves : ByteArray := prog_1_method_18_code
def yX0_forgetMoves : MethodName := ⟨RX0, "forgetMoves", "()V"⟩
abbrev cX0_piecesOnBoard : ByteArray := prog_1_method_19_code
def yX0_piecesOnBoard : MethodName := ⟨RX0, "piecesOnBoard", "()I"⟩
abbrev cX0_material : ByteArray := prog_1_method_20_code
def yX0_material : MethodName := ⟨RX0, "material", "(I)I"⟩
abbrev cX0_becomesWhatItMay : ByteArray := prog_1_method_21_code
def yX0_becomesWhatItMay : MethodName := ⟨RX0, "becomesWhatItMay", "(III)Z"⟩
abbrev cX0_goes : ByteArray := prog_1_method_22_code
def yX0_goes : MethodName := ⟨RX0, "goes", "(II)Z"⟩
abbrev cX0_pawnSteps : ByteArray := prog_1_method_23_code
def yX0_pawnSteps : MethodName := ⟨RX0, "pawnSteps", "(II)Z"⟩
abbrev cX0_pawnTakes : ByteArray := prog_1_method_24_code
def yX0_pawnTakes : MethodName := ⟨RX0, "pawnTakes", "(II)Z"⟩
abbrev cX0_canBeTakenInPassing : ByteArray := prog_1_method_25_code
def yX0_canBeTakenInPassing : MethodName := ⟨RX0, "canBeTakenInPassing", "(I)Z"⟩
abbrev cX0_squareBehind : ByteArray := prog_1_method_26_code
def yX0_squareBehind : MethodName := ⟨RX0, "squareBehind", "(I)I"⟩
abbrev cX0_castles : ByteArray := prog_1_method_27_code
def yX0_castles : MethodName := ⟨RX0, "castles", "(II)Z"⟩
abbrev cX0_attacks : ByteArray := prog_1_method_28_code
def yX0_attacks : MethodName := ⟨RX0, "attacks", "(II)Z"⟩
abbrev cX0_pawnAttacks : ByteArray := prog_1_method_29_code
def yX0_pawnAttacks : MethodName := ⟨RX0, "pawnAttacks", "(III)Z"⟩
abbrev cX0_isOpen : ByteArray := prog_1_method_30_code
def yX0_isOpen : MethodName := ⟨RX0, "isOpen", "(II)Z"⟩
abbrev cX0_squareTaken : ByteArray := prog_1_method_31_code
def yX0_squareTaken : MethodName := ⟨RX0, "squareTaken", "(II)I"⟩
abbrev cX0_remember : ByteArray := prog_1_method_32_code
def yX0_remember : MethodName := ⟨RX0, "remember", "(III)V"⟩
abbrev cX0_carryOver : ByteArray := prog_1_method_33_code
def yX0_carryOver : MethodName := ⟨RX0, "carryOver", "(II)V"⟩
abbrev cX0_carryBack : ByteArray := prog_1_method_34_code
def yX0_carryBack : MethodName := ⟨RX0, "carryBack", "(III)V"⟩
abbrev cX0_shift : ByteArray := prog_1_method_35_code
def yX0_shift : MethodName := ⟨RX0, "shift", "(II)V"⟩
abbrev cX0_isCastling : ByteArray := prog_1_method_36_code
def yX0_isCastling : MethodName := ⟨RX0, "isCastling", "(III)Z"⟩
abbrev cX0_passingBehind : ByteArray := prog_1_method_37_code
def yX0_passingBehind : MethodName := ⟨RX0, "passingBehind", "(II)I"⟩
abbrev cX0_isFree : ByteArray := prog_1_method_38_code
def yX0_isFree : MethodName := ⟨RX0, "isFree", "(I)Z"⟩
abbrev cX0_holds : ByteArray := prog_1_method_39_code
def yX0_holds : MethodName := ⟨RX0, "holds", "(II)Z"⟩
abbrev cX0_isSquare : ByteArray := prog_1_method_40_code
def yX0_isSquare : MethodName := ⟨RX0, "isSquare", "(I)Z"⟩
abbrev cX0_fileOf : ByteArray := prog_1_method_41_code
def yX0_fileOf : MethodName := ⟨RX0, "fileOf", "(I)I"⟩
abbrev cX0_rankOf : ByteArray := prog_1_method_42_code
def yX0_rankOf : MethodName := ⟨RX0, "rankOf", "(I)I"⟩
abbrev cX0_isTwoFilesAway : ByteArray := prog_1_method_43_code
def yX0_isTwoFilesAway : MethodName := ⟨RX0, "isTwoFilesAway", "(II)Z"⟩
abbrev cX0_cornerBeyond : ByteArray := prog_1_method_44_code
def yX0_cornerBeyond : MethodName := ⟨RX0, "cornerBeyond", "(II)I"⟩
abbrev cX0_rightOfCorner : ByteArray := prog_1_method_45_code
def yX0_rightOfCorner : MethodName := ⟨RX0, "rightOfCorner", "(I)I"⟩
abbrev cX0_isSide : ByteArray := prog_1_method_46_code
def yX0_isSide : MethodName := ⟨RX0, "isSide", "(I)Z"⟩
abbrev cX0_otherThan : ByteArray := prog_1_method_47_code
def yX0_otherThan : MethodName := ⟨RX0, "otherThan", "(I)I"⟩
abbrev cX0_onward : ByteArray := prog_1_method_48_code
def yX0_onward : MethodName := ⟨RX0, "onward", "(I)I"⟩
abbrev cX0_secondRankOf : ByteArray := prog_1_method_49_code
def yX0_secondRankOf : MethodName := ⟨RX0, "secondRankOf", "(I)I"⟩
abbrev cX0_lastRankOf : ByteArray := prog_1_method_50_code
def yX0_lastRankOf : MethodName := ⟨RX0, "lastRankOf", "(I)I"⟩
abbrev cX0_homeOfKing : ByteArray := prog_1_method_51_code
def yX0_homeOfKing : MethodName := ⟨RX0, "homeOfKing", "(I)I"⟩
abbrev cX0_pieceOf : ByteArray := prog_1_method_52_code
def yX0_pieceOf : MethodName := ⟨RX0, "pieceOf", "(II)I"⟩
abbrev cX0_typeOf : ByteArray := prog_1_method_53_code
def yX0_typeOf : MethodName := ⟨RX0, "typeOf", "(I)I"⟩
abbrev cX0_sideOf : ByteArray := prog_1_method_54_code
def yX0_sideOf : MethodName := ⟨RX0, "sideOf", "(I)I"⟩
abbrev cX0_worthOf : ByteArray := prog_1_method_55_code
def yX0_worthOf : MethodName := ⟨RX0, "worthOf", "(I)I"⟩
abbrev cX0_rightsOfKing : ByteArray := prog_1_method_56_code
def yX0_rightsOfKing : MethodName := ⟨RX0, "rightsOfKing", "(I)I"⟩
abbrev cX0_fromOf : ByteArray := prog_1_method_57_code
def yX0_fromOf : MethodName := ⟨RX0, "fromOf", "(I)I"⟩
abbrev cX0_toOf : ByteArray := prog_1_method_58_code
def yX0_toOf : MethodName := ⟨RX0, "toOf", "(I)I"⟩
abbrev cX0_kindOf : ByteArray := prog_1_method_59_code
def yX0_kindOf : MethodName := ⟨RX0, "kindOf", "(I)I"⟩
abbrev cX0_mixed : ByteArray := prog_1_method_60_code
def yX0_mixed : MethodName := ⟨RX0, "mixed", "(J)J"⟩
def RX1 : String := "BoardModel"
def TX1 : u_T := fun k => match k with
  | 0 => ("BoardModel", "thrown", "I", false)
  | 1 => ("BoardModel", "squares", "[I", true)
  | 2 => ("BoardModel", "side", "I", false)
  | 3 => ("BoardModel", "rights", "I", false)
  | 4 => ("BoardModel", "passing", "I", false)
  | 5 => ("BoardModel", "half", "I", false)
  | 6 => ("BoardModel", "full", "I", false)
  | 7 => ("BoardModel", "made", "I", false)
  | 8 => ("BoardModel", "moves", "[I", true)
  | 9 => ("BoardModel", "kept", "[B", true)
  | _ => ("BoardModel", "states", "[I", true)
def tyX1 : Nat → FieldType := fun k => match k with
  | 0 => .int
  | 1 => .array .int
  | 2 => .int
  | 3 => .int
  | 4 => .int
  | 5 => .int
  | 6 => .int
  | 7 => .int
  | 8 => .array .int
  | 9 => .array .byte
  | _ => .array .int
abbrev wsX10 : List Cond := u_ws RX1 TX1 11
theorem nmX1 : ∀ a, a < 11 → ∀ b, b < 11 → a ≠ b → (TX1 a).2.1 ≠ (TX1 b).2.1 := by decide +kernel
theorem tyX1_ok : ∀ k, k < 11 → parseFieldDescriptor (TX1 k).2.2.1 = some (tyX1 k) := by decide +kernel
abbrev cX1_init : ByteArray := prog_3_method_1_code
def yX1_init : MethodName := ⟨RX1, "<init>", "()V"⟩
abbrev cX1_thrown : ByteArray := prog_3_method_2_code
def yX1_thrown : MethodName := ⟨RX1, "thrown", "()I"⟩
abbrev cX1_isSquare : ByteArray := prog_3_method_3_code
def yX1_isSquare : MethodName := ⟨RX1, "isSquare", "(I)Z"⟩
abbrev cX1_sideOf : ByteArray := prog_3_method_4_code
def yX1_sideOf : MethodName := ⟨RX1, "sideOf", "(I)I"⟩
abbrev cX1_kindOf : ByteArray := prog_3_method_5_code
def yX1_kindOf : MethodName := ⟨RX1, "kindOf", "(I)I"⟩
abbrev cX1_apart : ByteArray := prog_3_method_6_code
def yX1_apart : MethodName := ⟨RX1, "apart", "(II)I"⟩
abbrev cX1_clear : ByteArray := prog_3_method_7_code
def yX1_clear : MethodName := ⟨RX1, "clear", "()V"⟩
abbrev cX1_home : ByteArray := prog_3_method_8_code
def yX1_home : MethodName := ⟨RX1, "home", "(I)I"⟩
abbrev cX1_begin : ByteArray := prog_3_method_9_code
def yX1_begin : MethodName := ⟨RX1, "begin", "()V"⟩
abbrev cX1_pieces : ByteArray := prog_3_method_10_code
def yX1_pieces : MethodName := ⟨RX1, "pieces", "()I"⟩
abbrev cX1_put : ByteArray := prog_3_method_11_code
def yX1_put : MethodName := ⟨RX1, "put", "(II)V"⟩
abbrev cX1_state : ByteArray := prog_3_method_12_code
def yX1_state : MethodName := ⟨RX1, "state", "(III)V"⟩
abbrev cX1_clocks : ByteArray := prog_3_method_13_code
def yX1_clocks : MethodName := ⟨RX1, "clocks", "(II)V"⟩
abbrev cX1_isFree : ByteArray := prog_3_method_14_code
def yX1_isFree : MethodName := ⟨RX1, "isFree", "(II)Z"⟩
abbrev cX1_attacks : ByteArray := prog_3_method_15_code
def yX1_attacks : MethodName := ⟨RX1, "attacks", "(II)Z"⟩
abbrev cX1_isAttacked : ByteArray := prog_3_method_16_code
def yX1_isAttacked : MethodName := ⟨RX1, "isAttacked", "(II)Z"⟩
abbrev cX1_attackers : ByteArray := prog_3_method_17_code
def yX1_attackers : MethodName := ⟨RX1, "attackers", "(II)J"⟩
abbrev cX1_check : ByteArray := prog_3_method_18_code
def yX1_check : MethodName := ⟨RX1, "check", "(I)Z"⟩
abbrev cX1_castles : ByteArray := prog_3_method_19_code
def yX1_castles : MethodName := ⟨RX1, "castles", "(II)Z"⟩
abbrev cX1_takesPassing : ByteArray := prog_3_method_20_code
def yX1_takesPassing : MethodName := ⟨RX1, "takesPassing", "(II)Z"⟩
abbrev cX1_pawnGoes : ByteArray := prog_3_method_21_code
def yX1_pawnGoes : MethodName := ⟨RX1, "pawnGoes", "(II)Z"⟩
abbrev cX1_isMove : ByteArray := prog_3_method_22_code
def yX1_isMove : MethodName := ⟨RX1, "isMove", "(I)Z"⟩
abbrev cX1_fits : ByteArray := prog_3_method_23_code
def yX1_fits : MethodName := ⟨RX1, "fits", "(I)Z"⟩
abbrev cX1_keep : ByteArray := prog_3_method_24_code
def yX1_keep : MethodName := ⟨RX1, "keep", "(I)V"⟩
abbrev cX1_corner : ByteArray := prog_3_method_25_code
def yX1_corner : MethodName := ⟨RX1, "corner", "(I)I"⟩
abbrev cX1_make : ByteArray := prog_3_method_26_code
def yX1_make : MethodName := ⟨RX1, "make", "(I)I"⟩
abbrev cX1_pawnAttacks : ByteArray := prog_3_method_27_code
def yX1_pawnAttacks : MethodName := ⟨RX1, "pawnAttacks", "(II)Z"⟩
abbrev cX1_unmake : ByteArray := prog_3_method_28_code
def yX1_unmake : MethodName := ⟨RX1, "unmake", "()I"⟩
abbrev cX1_at : ByteArray := prog_3_method_29_code
def yX1_at : MethodName := ⟨RX1, "at", "(I)I"⟩
abbrev cX1_where : ByteArray := prog_3_method_30_code
def yX1_where : MethodName := ⟨RX1, "where", "(I)J"⟩
abbrev cX1_mixed : ByteArray := prog_3_method_31_code
def yX1_mixed : MethodName := ⟨RX1, "mixed", "(J)J"⟩
abbrev cX1_key : ByteArray := prog_3_method_32_code
def yX1_key : MethodName := ⟨RX1, "key", "()J"⟩
abbrev cX1_move : ByteArray := prog_3_method_33_code
def yX1_move : MethodName := ⟨RX1, "move", "(I)I"⟩
abbrev cX1_material : ByteArray := prog_3_method_34_code
def yX1_material : MethodName := ⟨RX1, "material", "(I)I"⟩
abbrev cX1_look : ByteArray := prog_3_method_35_code
def yX1_look : MethodName := ⟨RX1, "look", "(I)I"⟩
def RJ6 : String := "java/lang/Integer"
def TJ6 : u_T := fun k => match k with
  | _ => ("", "", "", false)
def tyJ6 : Nat → FieldType := fun k => match k with
  | _ => .int
abbrev wsJ60 : List Cond := u_ws RJ6 TJ6 0
theorem nmJ6 : ∀ a, a < 0 → ∀ b, b < 0 → a ≠ b → (TJ6 a).2.1 ≠ (TJ6 b).2.1 := by decide +kernel
theorem tyJ6_ok : ∀ k, k < 0 → parseFieldDescriptor (TJ6 k).2.2.1 = some (tyJ6 k) := by decide +kernel
abbrev cJ6_compare_7cf53 : ByteArray := prog_8_method_40_code
def yJ6_compare_7cf53 : MethodName := ⟨RJ6, "compare", "(II)I"⟩
def RJ13 : String := "java/lang/Long"
def TJ13 : u_T := fun k => match k with
  | _ => ("", "", "", false)
def tyJ13 : Nat → FieldType := fun k => match k with
  | _ => .int
abbrev wsJ130 : List Cond := u_ws RJ13 TJ13 0
theorem nmJ13 : ∀ a, a < 0 → ∀ b, b < 0 → a ≠ b → (TJ13 a).2.1 ≠ (TJ13 b).2.1 := by decide +kernel
theorem tyJ13_ok : ∀ k, k < 0 → parseFieldDescriptor (TJ13 k).2.2.1 = some (tyJ13 k) := by decide +kernel
abbrev cJ13_bitCount_95d88 : ByteArray := prog_9_method_50_code
def yJ13_bitCount_95d88 : MethodName := ⟨RJ13, "bitCount", "(J)I"⟩
def RJ9 : String := "java/lang/Math"
def TJ9 : u_T := fun k => match k with
  | _ => ("", "", "", false)
def tyJ9 : Nat → FieldType := fun k => match k with
  | _ => .int
abbrev wsJ90 : List Cond := u_ws RJ9 TJ9 0
theorem nmJ9 : ∀ a, a < 0 → ∀ b, b < 0 → a ≠ b → (TJ9 a).2.1 ≠ (TJ9 b).2.1 := by decide +kernel
theorem tyJ9_ok : ∀ k, k < 0 → parseFieldDescriptor (TJ9 k).2.2.1 = some (tyJ9 k) := by decide +kernel
abbrev cJ9_abs_0f7a4 : ByteArray := prog_10_method_59_code
def yJ9_abs_0f7a4 : MethodName := ⟨RJ9, "abs", "(I)I"⟩
abbrev cJ9_max_7cf53 : ByteArray := prog_10_method_65_code
def yJ9_max_7cf53 : MethodName := ⟨RJ9, "max", "(II)I"⟩
def RJ0 : String := "java/lang/String"
def TJ0 : u_T := fun k => match k with
  | _ => ("", "", "", false)
def tyJ0 : Nat → FieldType := fun k => match k with
  | _ => .int
abbrev wsJ00 : List Cond := u_ws RJ0 TJ0 0
theorem nmJ0 : ∀ a, a < 0 → ∀ b, b < 0 → a ≠ b → (TJ0 a).2.1 ≠ (TJ0 b).2.1 := by decide +kernel
theorem tyJ0_ok : ∀ k, k < 0 → parseFieldDescriptor (TJ0 k).2.2.1 = some (tyJ0 k) := by decide +kernel
def RL : String := "BoardLaw"
abbrev cL_put : ByteArray := method_3_code
def yL_put : MethodName := ⟨RL, "put", "(LBoard;II)I"⟩
abbrev cL_state : ByteArray := method_4_code
def yL_state : MethodName := ⟨RL, "state", "(LBoard;III)I"⟩
abbrev cL_clocks : ByteArray := method_5_code
def yL_clocks : MethodName := ⟨RL, "clocks", "(LBoard;II)I"⟩
abbrev cL_make : ByteArray := method_6_code
def yL_make : MethodName := ⟨RL, "make", "(LBoard;I[J)I"⟩
abbrev cL_unmake : ByteArray := method_7_code
def yL_unmake : MethodName := ⟨RL, "unmake", "(LBoard;[J)I"⟩
abbrev cL_at : ByteArray := method_8_code
def yL_at : MethodName := ⟨RL, "at", "(LBoard;I[J)I"⟩
abbrev cL_attackers : ByteArray := method_9_code
def yL_attackers : MethodName := ⟨RL, "attackers", "(LBoard;II[J)I"⟩
abbrev cL_law : ByteArray := code
def yL_law : MethodName := ⟨RL, "law", "([I)Z"⟩
def wsX0_forgetMoves : List Cond := .code yX0_forgetMoves cX0_forgetMoves 1 none :: ([.fieldLink RX0 127 "Board" "made" "I"] ++ wsX00)
def wsX0_setAllAsAtFirst : List Cond := .code yX0_setAllAsAtFirst cX0_setAllAsAtFirst 2 none :: ([.fieldLink RX0 9 "Board" "board" "[I", .fieldLink RX0 82 "Board" "side" "I", .fieldLink RX0 41 "Board" "rights" "I", .fieldLink RX0 85 "Board" "passing" "I", .fieldLink RX0 92 "Board" "half" "I", .fieldLink RX0 95 "Board" "full" "I", .methodLink RX0 70 yX0_forgetMoves, .instanceMethod yX0_forgetMoves, .selects RX0 yX0_forgetMoves yX0_forgetMoves, .initialized RX0, .code yX0_forgetMoves cX0_forgetMoves 1 none, .fieldLink RX0 127 "Board" "made" "I"] ++ wsX00)
def wsX0_init_r1 : List Cond := [Cond.methodLink RX0 1 objectInit, Cond.instanceMethod objectInit, Cond.code objectInit ⟨#[0xb1]⟩ 1 none, Cond.arrayClass .int, Cond.fieldLink RX0 9 "Board" "board" "[I", Cond.fieldLink RX0 13 "Board" "moves" "[I", Cond.fieldLink RX0 16 "Board" "takenPieces" "[I", Cond.fieldLink RX0 19 "Board" "takenSquares" "[I", Cond.fieldLink RX0 22 "Board" "rightsBefore" "[I", Cond.fieldLink RX0 25 "Board" "passingBefore" "[I", Cond.fieldLink RX0 28 "Board" "halfBefore" "[I", Cond.methodLink RX0 31 yX0_setAllAsAtFirst, Cond.instanceMethod yX0_setAllAsAtFirst, Cond.selects RX0 yX0_setAllAsAtFirst yX0_setAllAsAtFirst, Cond.initialized RX0, Cond.code yX0_setAllAsAtFirst cX0_setAllAsAtFirst 2 none, Cond.fieldLink RX0 82 "Board" "side" "I", Cond.fieldLink RX0 41 "Board" "rights" "I", Cond.fieldLink RX0 85 "Board" "passing" "I", Cond.fieldLink RX0 92 "Board" "half" "I", Cond.fieldLink RX0 95 "Board" "full" "I", Cond.methodLink RX0 70 yX0_forgetMoves, Cond.instanceMethod yX0_forgetMoves, Cond.selects RX0 yX0_forgetMoves yX0_forgetMoves]
def wsX0_init_r2 : List Cond := [Cond.code yX0_forgetMoves cX0_forgetMoves 1 none, Cond.fieldLink RX0 127 "Board" "made" "I"]
def wsX0_init : List Cond := .code yX0_init cX0_init 1 none :: ((wsX0_init_r1 ++ wsX0_init_r2) ++ wsX00)
def wsX0_clear : List Cond := .code yX0_clear cX0_clear 1 none :: ([.methodLink RX0 31 yX0_setAllAsAtFirst, .instanceMethod yX0_setAllAsAtFirst, .selects RX0 yX0_setAllAsAtFirst yX0_setAllAsAtFirst, .initialized RX0, .code yX0_setAllAsAtFirst cX0_setAllAsAtFirst 2 none, .fieldLink RX0 9 "Board" "board" "[I", .fieldLink RX0 82 "Board" "side" "I", .fieldLink RX0 41 "Board" "rights" "I", .fieldLink RX0 85 "Board" "passing" "I", .fieldLink RX0 92 "Board" "half" "I", .fieldLink RX0 95 "Board" "full" "I", .methodLink RX0 70 yX0_forgetMoves, .instanceMethod yX0_forgetMoves, .selects RX0 yX0_forgetMoves yX0_forgetMoves, .code yX0_forgetMoves cX0_forgetMoves 1 none, .fieldLink RX0 127 "Board" "made" "I"] ++ wsX00)
def wsX0_pieceOf : List Cond := .code yX0_pieceOf cX0_pieceOf 2 (some .int) :: ([])
def wsX0_begin : List Cond := .code yX0_begin cX0_begin 2 none :: ([.fieldLink RX0 34 "Board" "FIRST_RANK" "[I", .fieldLink RX0 9 "Board" "board" "[I", .fieldLink RX0 41 "Board" "rights" "I", .methodLink RX0 31 yX0_setAllAsAtFirst, .instanceMethod yX0_setAllAsAtFirst, .selects RX0 yX0_setAllAsAtFirst yX0_setAllAsAtFirst, .initialized RX0, .code yX0_setAllAsAtFirst cX0_setAllAsAtFirst 2 none, .fieldLink RX0 82 "Board" "side" "I", .fieldLink RX0 85 "Board" "passing" "I", .fieldLink RX0 92 "Board" "half" "I", .fieldLink RX0 95 "Board" "full" "I", .methodLink RX0 70 yX0_forgetMoves, .instanceMethod yX0_forgetMoves, .selects RX0 yX0_forgetMoves yX0_forgetMoves, .code yX0_forgetMoves cX0_forgetMoves 1 none, .fieldLink RX0 127 "Board" "made" "I", .methodLink RX0 37 yX0_pieceOf, .static yX0_pieceOf, .code yX0_pieceOf cX0_pieceOf 2 (some .int)] ++ wsX00)
def wsX0_isSquare : List Cond := .code yX0_isSquare cX0_isSquare 1 (some .boolean) :: ([])
def wsX0_where : List Cond := .code yX0_where cX0_where 5 (some .long) :: ([.fieldLink RX0 9 "Board" "board" "[I"] ++ wsX00)
def wsJ13_bitCount_95d88 : List Cond := .code yJ13_bitCount_95d88 cJ13_bitCount_95d88 2 (some .int) :: ([.constantLong RJ13 314 (6148914691236517205), .constantLong RJ13 316 (3689348814741910323), .constantLong RJ13 318 (1085102592571150095)])
def wsX0_piecesOnBoard : List Cond := .code yX0_piecesOnBoard cX0_piecesOnBoard 1 (some .int) :: ([.methodLink RX0 176 yX0_where, .instanceMethod yX0_where, .selects RX0 yX0_where yX0_where, .initialized RX0, .code yX0_where cX0_where 5 (some .long), .fieldLink RX0 9 "Board" "board" "[I", .methodLink RX0 180 yJ13_bitCount_95d88, .static yJ13_bitCount_95d88, .initialized RJ13, .code yJ13_bitCount_95d88 cJ13_bitCount_95d88 2 (some .int), .constantLong RJ13 314 (6148914691236517205), .constantLong RJ13 316 (3689348814741910323), .constantLong RJ13 318 (1085102592571150095)] ++ wsX00)
def wsX0_put_r1 : List Cond := [Cond.classLink RX0 49 "java/lang/IndexOutOfBoundsException", Cond.initialized "java/lang/IndexOutOfBoundsException", Cond.classLink RX0 56 "java/lang/IllegalArgumentException", Cond.initialized "java/lang/IllegalArgumentException", Cond.classLink RX0 65 "java/lang/IllegalStateException", Cond.initialized "java/lang/IllegalStateException", Cond.fieldLink RX0 9 "Board" "board" "[I", Cond.methodLink RX0 45 yX0_isSquare, Cond.static yX0_isSquare, Cond.initialized RX0, Cond.code yX0_isSquare cX0_isSquare 1 (some .boolean), Cond.methodLink RX0 61 yX0_piecesOnBoard, Cond.instanceMethod yX0_piecesOnBoard, Cond.selects RX0 yX0_piecesOnBoard yX0_piecesOnBoard, Cond.code yX0_piecesOnBoard cX0_piecesOnBoard 1 (some .int), Cond.methodLink RX0 176 yX0_where, Cond.instanceMethod yX0_where, Cond.selects RX0 yX0_where yX0_where, Cond.code yX0_where cX0_where 5 (some .long), Cond.methodLink RX0 180 yJ13_bitCount_95d88, Cond.static yJ13_bitCount_95d88, Cond.initialized RJ13, Cond.code yJ13_bitCount_95d88 cJ13_bitCount_95d88 2 (some .int), Cond.constantLong RJ13 314 (6148914691236517205)]
def wsX0_put_r2 : List Cond := [Cond.constantLong RJ13 316 (3689348814741910323), Cond.constantLong RJ13 318 (1085102592571150095), Cond.methodLink RX0 70 yX0_forgetMoves, Cond.instanceMethod yX0_forgetMoves, Cond.selects RX0 yX0_forgetMoves yX0_forgetMoves, Cond.code yX0_forgetMoves cX0_forgetMoves 1 none, Cond.fieldLink RX0 127 "Board" "made" "I"]
def wsX0_put : List Cond := .code yX0_put cX0_put 3 none :: ((wsX0_put_r1 ++ wsX0_put_r2) ++ wsX00 ++ (vx_atS RX0 53 "java/lang/IndexOutOfBoundsException" ["java/lang/RuntimeException", "java/lang/Exception"]).filter goodWord ++ (vx_atS RX0 60 "java/lang/IllegalArgumentException" ["java/lang/RuntimeException", "java/lang/Exception"]).filter goodWord ++ (vx_atS RX0 69 "java/lang/IllegalStateException" ["java/lang/RuntimeException", "java/lang/Exception"]).filter goodWord)
def wsX0_isSide : List Cond := .code yX0_isSide cX0_isSide 1 (some .boolean) :: ([])
def wsX0_state : List Cond := .code yX0_state cX0_state 4 none :: ([.classLink RX0 56 "java/lang/IllegalArgumentException", .initialized "java/lang/IllegalArgumentException", .fieldLink RX0 82 "Board" "side" "I", .fieldLink RX0 41 "Board" "rights" "I", .fieldLink RX0 85 "Board" "passing" "I", .methodLink RX0 73 yX0_isSide, .static yX0_isSide, .initialized RX0, .code yX0_isSide cX0_isSide 1 (some .boolean), .methodLink RX0 45 yX0_isSquare, .static yX0_isSquare, .code yX0_isSquare cX0_isSquare 1 (some .boolean), .methodLink RX0 70 yX0_forgetMoves, .instanceMethod yX0_forgetMoves, .selects RX0 yX0_forgetMoves yX0_forgetMoves, .code yX0_forgetMoves cX0_forgetMoves 1 none, .fieldLink RX0 127 "Board" "made" "I"] ++ wsX00 ++ (vx_atS RX0 60 "java/lang/IllegalArgumentException" ["java/lang/RuntimeException", "java/lang/Exception"]).filter goodWord)
def wsX0_clocks : List Cond := .code yX0_clocks cX0_clocks 3 none :: ([.classLink RX0 56 "java/lang/IllegalArgumentException", .initialized "java/lang/IllegalArgumentException", .fieldLink RX0 92 "Board" "half" "I", .fieldLink RX0 95 "Board" "full" "I", .methodLink RX0 70 yX0_forgetMoves, .instanceMethod yX0_forgetMoves, .selects RX0 yX0_forgetMoves yX0_forgetMoves, .initialized RX0, .code yX0_forgetMoves cX0_forgetMoves 1 none, .fieldLink RX0 127 "Board" "made" "I"] ++ wsX00 ++ (vx_atS RX0 60 "java/lang/IllegalArgumentException" ["java/lang/RuntimeException", "java/lang/Exception"]).filter goodWord)
def wsX0_fromOf : List Cond := .code yX0_fromOf cX0_fromOf 1 (some .int) :: ([])
def wsX0_toOf : List Cond := .code yX0_toOf cX0_toOf 1 (some .int) :: ([])
def wsX0_sideOf : List Cond := .code yX0_sideOf cX0_sideOf 1 (some .int) :: ([])
def wsX0_typeOf : List Cond := .code yX0_typeOf cX0_typeOf 1 (some .int) :: ([])
def wsX0_kindOf : List Cond := .code yX0_kindOf cX0_kindOf 1 (some .int) :: ([])
def wsX0_rankOf : List Cond := .code yX0_rankOf cX0_rankOf 1 (some .int) :: ([])
def wsX0_lastRankOf : List Cond := .code yX0_lastRankOf cX0_lastRankOf 1 (some .int) :: ([])
def wsX0_becomesWhatItMay : List Cond := .code yX0_becomesWhatItMay cX0_becomesWhatItMay 4 (some .boolean) :: ([.methodLink RX0 108 yX0_typeOf, .static yX0_typeOf, .initialized RX0, .code yX0_typeOf cX0_typeOf 1 (some .int), .methodLink RX0 189 yX0_rankOf, .static yX0_rankOf, .code yX0_rankOf cX0_rankOf 1 (some .int), .methodLink RX0 105 yX0_sideOf, .static yX0_sideOf, .code yX0_sideOf cX0_sideOf 1 (some .int), .methodLink RX0 192 yX0_lastRankOf, .static yX0_lastRankOf, .code yX0_lastRankOf cX0_lastRankOf 1 (some .int)])
def wsX0_onward : List Cond := .code yX0_onward cX0_onward 1 (some .int) :: ([])
def wsX0_isFree : List Cond := .code yX0_isFree cX0_isFree 2 (some .boolean) :: ([.fieldLink RX0 9 "Board" "board" "[I", .methodLink RX0 45 yX0_isSquare, .static yX0_isSquare, .initialized RX0, .code yX0_isSquare cX0_isSquare 1 (some .boolean)] ++ wsX00)
def wsX0_secondRankOf : List Cond := .code yX0_secondRankOf cX0_secondRankOf 1 (some .int) :: ([])
def wsX0_pawnSteps : List Cond := .code yX0_pawnSteps cX0_pawnSteps 5 (some .boolean) :: ([.fieldLink RX0 82 "Board" "side" "I", .methodLink RX0 204 yX0_onward, .static yX0_onward, .initialized RX0, .code yX0_onward cX0_onward 1 (some .int), .methodLink RX0 207 yX0_isFree, .instanceMethod yX0_isFree, .selects RX0 yX0_isFree yX0_isFree, .code yX0_isFree cX0_isFree 2 (some .boolean), .fieldLink RX0 9 "Board" "board" "[I", .methodLink RX0 45 yX0_isSquare, .static yX0_isSquare, .code yX0_isSquare cX0_isSquare 1 (some .boolean), .methodLink RX0 189 yX0_rankOf, .static yX0_rankOf, .code yX0_rankOf cX0_rankOf 1 (some .int), .methodLink RX0 210 yX0_secondRankOf, .static yX0_secondRankOf, .code yX0_secondRankOf cX0_secondRankOf 1 (some .int)] ++ wsX00)
def wsX0_fileOf : List Cond := .code yX0_fileOf cX0_fileOf 1 (some .int) :: ([])
def wsX0_pawnAttacks : List Cond := .code yX0_pawnAttacks cX0_pawnAttacks 3 (some .boolean) :: ([.methodLink RX0 240 Lib.Math.abs.name, .static Lib.Math.abs.name, .initialized "java/lang/Math", .code Lib.Math.abs.name Lib.Math.abs.code 1 (some .int), .methodLink RX0 189 yX0_rankOf, .static yX0_rankOf, .initialized RX0, .code yX0_rankOf cX0_rankOf 1 (some .int), .methodLink RX0 204 yX0_onward, .static yX0_onward, .code yX0_onward cX0_onward 1 (some .int), .methodLink RX0 237 yX0_fileOf, .static yX0_fileOf, .code yX0_fileOf cX0_fileOf 1 (some .int)])
def wsX0_otherThan : List Cond := .code yX0_otherThan cX0_otherThan 1 (some .int) :: ([])
def wsX0_squareBehind : List Cond := .code yX0_squareBehind cX0_squareBehind 2 (some .int) :: ([.fieldLink RX0 82 "Board" "side" "I", .methodLink RX0 204 yX0_onward, .static yX0_onward, .initialized RX0, .code yX0_onward cX0_onward 1 (some .int)] ++ wsX00)
def wsX0_holds : List Cond := .code yX0_holds cX0_holds 3 (some .boolean) :: ([.fieldLink RX0 9 "Board" "board" "[I", .methodLink RX0 45 yX0_isSquare, .static yX0_isSquare, .initialized RX0, .code yX0_isSquare cX0_isSquare 1 (some .boolean)] ++ wsX00)
def wsX0_canBeTakenInPassing_r1 : List Cond := [Cond.fieldLink RX0 85 "Board" "passing" "I", Cond.fieldLink RX0 82 "Board" "side" "I", Cond.methodLink RX0 207 yX0_isFree, Cond.instanceMethod yX0_isFree, Cond.selects RX0 yX0_isFree yX0_isFree, Cond.initialized RX0, Cond.code yX0_isFree cX0_isFree 2 (some .boolean), Cond.fieldLink RX0 9 "Board" "board" "[I", Cond.methodLink RX0 45 yX0_isSquare, Cond.static yX0_isSquare, Cond.code yX0_isSquare cX0_isSquare 1 (some .boolean), Cond.methodLink RX0 219 yX0_squareBehind, Cond.instanceMethod yX0_squareBehind, Cond.selects RX0 yX0_squareBehind yX0_squareBehind, Cond.code yX0_squareBehind cX0_squareBehind 2 (some .int), Cond.methodLink RX0 204 yX0_onward, Cond.static yX0_onward, Cond.code yX0_onward cX0_onward 1 (some .int), Cond.methodLink RX0 152 yX0_otherThan, Cond.static yX0_otherThan, Cond.code yX0_otherThan cX0_otherThan 1 (some .int), Cond.methodLink RX0 37 yX0_pieceOf, Cond.static yX0_pieceOf, Cond.code yX0_pieceOf cX0_pieceOf 2 (some .int)]
def wsX0_canBeTakenInPassing_r2 : List Cond := [Cond.methodLink RX0 222 yX0_holds, Cond.instanceMethod yX0_holds, Cond.selects RX0 yX0_holds yX0_holds, Cond.code yX0_holds cX0_holds 3 (some .boolean)]
def wsX0_canBeTakenInPassing : List Cond := .code yX0_canBeTakenInPassing cX0_canBeTakenInPassing 2 (some .boolean) :: ((wsX0_canBeTakenInPassing_r1 ++ wsX0_canBeTakenInPassing_r2) ++ wsX00)
def wsX0_pawnTakes_r1 : List Cond := [Cond.fieldLink RX0 82 "Board" "side" "I", Cond.fieldLink RX0 9 "Board" "board" "[I", Cond.methodLink RX0 213 yX0_pawnAttacks, Cond.static yX0_pawnAttacks, Cond.initialized RX0, Cond.code yX0_pawnAttacks cX0_pawnAttacks 3 (some .boolean), Cond.methodLink RX0 240 Lib.Math.abs.name, Cond.static Lib.Math.abs.name, Cond.initialized "java/lang/Math", Cond.code Lib.Math.abs.name Lib.Math.abs.code 1 (some .int), Cond.methodLink RX0 189 yX0_rankOf, Cond.static yX0_rankOf, Cond.code yX0_rankOf cX0_rankOf 1 (some .int), Cond.methodLink RX0 204 yX0_onward, Cond.static yX0_onward, Cond.code yX0_onward cX0_onward 1 (some .int), Cond.methodLink RX0 237 yX0_fileOf, Cond.static yX0_fileOf, Cond.code yX0_fileOf cX0_fileOf 1 (some .int), Cond.methodLink RX0 105 yX0_sideOf, Cond.static yX0_sideOf, Cond.code yX0_sideOf cX0_sideOf 1 (some .int), Cond.methodLink RX0 152 yX0_otherThan, Cond.static yX0_otherThan]
def wsX0_pawnTakes_r2 : List Cond := [Cond.code yX0_otherThan cX0_otherThan 1 (some .int), Cond.methodLink RX0 216 yX0_canBeTakenInPassing, Cond.instanceMethod yX0_canBeTakenInPassing, Cond.selects RX0 yX0_canBeTakenInPassing yX0_canBeTakenInPassing, Cond.code yX0_canBeTakenInPassing cX0_canBeTakenInPassing 2 (some .boolean), Cond.fieldLink RX0 85 "Board" "passing" "I", Cond.methodLink RX0 207 yX0_isFree, Cond.instanceMethod yX0_isFree, Cond.selects RX0 yX0_isFree yX0_isFree, Cond.code yX0_isFree cX0_isFree 2 (some .boolean), Cond.methodLink RX0 45 yX0_isSquare, Cond.static yX0_isSquare, Cond.code yX0_isSquare cX0_isSquare 1 (some .boolean), Cond.methodLink RX0 219 yX0_squareBehind, Cond.instanceMethod yX0_squareBehind, Cond.selects RX0 yX0_squareBehind yX0_squareBehind, Cond.code yX0_squareBehind cX0_squareBehind 2 (some .int), Cond.methodLink RX0 37 yX0_pieceOf, Cond.static yX0_pieceOf, Cond.code yX0_pieceOf cX0_pieceOf 2 (some .int), Cond.methodLink RX0 222 yX0_holds, Cond.instanceMethod yX0_holds, Cond.selects RX0 yX0_holds yX0_holds, Cond.code yX0_holds cX0_holds 3 (some .boolean)]
def wsX0_pawnTakes : List Cond := .code yX0_pawnTakes cX0_pawnTakes 3 (some .boolean) :: ((wsX0_pawnTakes_r1 ++ wsX0_pawnTakes_r2) ++ wsX00)
def wsJ6_compare_7cf53 : List Cond := .code yJ6_compare_7cf53 cJ6_compare_7cf53 2 (some .int) :: ([])
def wsX0_isOpen_r1 : List Cond := [Cond.methodLink RX0 240 Lib.Math.abs.name, Cond.static Lib.Math.abs.name, Cond.initialized "java/lang/Math", Cond.code Lib.Math.abs.name Lib.Math.abs.code 1 (some .int), Cond.methodLink RX0 250 Lib.Math.max.name, Cond.static Lib.Math.max.name, Cond.code Lib.Math.max.name Lib.Math.max.code 2 (some .int), Cond.methodLink RX0 237 yX0_fileOf, Cond.static yX0_fileOf, Cond.initialized RX0, Cond.code yX0_fileOf cX0_fileOf 1 (some .int), Cond.methodLink RX0 189 yX0_rankOf, Cond.static yX0_rankOf, Cond.code yX0_rankOf cX0_rankOf 1 (some .int), Cond.methodLink RX0 245 yJ6_compare_7cf53, Cond.static yJ6_compare_7cf53, Cond.initialized RJ6, Cond.code yJ6_compare_7cf53 cJ6_compare_7cf53 2 (some .int), Cond.methodLink RX0 207 yX0_isFree, Cond.instanceMethod yX0_isFree, Cond.selects RX0 yX0_isFree yX0_isFree, Cond.code yX0_isFree cX0_isFree 2 (some .boolean), Cond.fieldLink RX0 9 "Board" "board" "[I", Cond.methodLink RX0 45 yX0_isSquare]
def wsX0_isOpen_r2 : List Cond := [Cond.static yX0_isSquare, Cond.code yX0_isSquare cX0_isSquare 1 (some .boolean)]
def wsX0_isOpen : List Cond := .code yX0_isOpen cX0_isOpen 8 (some .boolean) :: ((wsX0_isOpen_r1 ++ wsX0_isOpen_r2) ++ wsX00)
def wsX0_attacks_r1 : List Cond := [Cond.fieldLink RX0 9 "Board" "board" "[I", Cond.methodLink RX0 240 Lib.Math.abs.name, Cond.static Lib.Math.abs.name, Cond.initialized "java/lang/Math", Cond.code Lib.Math.abs.name Lib.Math.abs.code 1 (some .int), Cond.methodLink RX0 237 yX0_fileOf, Cond.static yX0_fileOf, Cond.initialized RX0, Cond.code yX0_fileOf cX0_fileOf 1 (some .int), Cond.methodLink RX0 189 yX0_rankOf, Cond.static yX0_rankOf, Cond.code yX0_rankOf cX0_rankOf 1 (some .int), Cond.methodLink RX0 108 yX0_typeOf, Cond.static yX0_typeOf, Cond.code yX0_typeOf cX0_typeOf 1 (some .int), Cond.methodLink RX0 105 yX0_sideOf, Cond.static yX0_sideOf, Cond.code yX0_sideOf cX0_sideOf 1 (some .int), Cond.methodLink RX0 213 yX0_pawnAttacks, Cond.static yX0_pawnAttacks, Cond.code yX0_pawnAttacks cX0_pawnAttacks 3 (some .boolean), Cond.methodLink RX0 204 yX0_onward, Cond.static yX0_onward, Cond.code yX0_onward cX0_onward 1 (some .int)]
def wsX0_attacks_r2 : List Cond := [Cond.methodLink RX0 234 yX0_isOpen, Cond.instanceMethod yX0_isOpen, Cond.selects RX0 yX0_isOpen yX0_isOpen, Cond.code yX0_isOpen cX0_isOpen 8 (some .boolean), Cond.methodLink RX0 250 Lib.Math.max.name, Cond.static Lib.Math.max.name, Cond.code Lib.Math.max.name Lib.Math.max.code 2 (some .int), Cond.methodLink RX0 245 yJ6_compare_7cf53, Cond.static yJ6_compare_7cf53, Cond.initialized RJ6, Cond.code yJ6_compare_7cf53 cJ6_compare_7cf53 2 (some .int), Cond.methodLink RX0 207 yX0_isFree, Cond.instanceMethod yX0_isFree, Cond.selects RX0 yX0_isFree yX0_isFree, Cond.code yX0_isFree cX0_isFree 2 (some .boolean), Cond.methodLink RX0 45 yX0_isSquare, Cond.static yX0_isSquare, Cond.code yX0_isSquare cX0_isSquare 1 (some .boolean)]
def wsX0_attacks : List Cond := .code yX0_attacks cX0_attacks 8 (some .boolean) :: ((wsX0_attacks_r1 ++ wsX0_attacks_r2) ++ wsX00)
def wsX0_homeOfKing : List Cond := .code yX0_homeOfKing cX0_homeOfKing 1 (some .int) :: ([])
def wsX0_isTwoFilesAway : List Cond := .code yX0_isTwoFilesAway cX0_isTwoFilesAway 2 (some .boolean) :: ([.methodLink RX0 240 Lib.Math.abs.name, .static Lib.Math.abs.name, .initialized "java/lang/Math", .code Lib.Math.abs.name Lib.Math.abs.code 1 (some .int), .methodLink RX0 189 yX0_rankOf, .static yX0_rankOf, .initialized RX0, .code yX0_rankOf cX0_rankOf 1 (some .int)])
def wsX0_cornerBeyond : List Cond := .code yX0_cornerBeyond cX0_cornerBeyond 2 (some .int) :: ([])
def wsX0_rightOfCorner : List Cond := .code yX0_rightOfCorner cX0_rightOfCorner 1 (some .int) :: ([])
def wsX0_castles_r1 : List Cond := [Cond.fieldLink RX0 82 "Board" "side" "I", Cond.fieldLink RX0 41 "Board" "rights" "I", Cond.methodLink RX0 225 yX0_homeOfKing, Cond.static yX0_homeOfKing, Cond.initialized RX0, Cond.code yX0_homeOfKing cX0_homeOfKing 1 (some .int), Cond.methodLink RX0 228 yX0_isTwoFilesAway, Cond.static yX0_isTwoFilesAway, Cond.code yX0_isTwoFilesAway cX0_isTwoFilesAway 2 (some .boolean), Cond.methodLink RX0 240 Lib.Math.abs.name, Cond.static Lib.Math.abs.name, Cond.initialized "java/lang/Math", Cond.code Lib.Math.abs.name Lib.Math.abs.code 1 (some .int), Cond.methodLink RX0 189 yX0_rankOf, Cond.static yX0_rankOf, Cond.code yX0_rankOf cX0_rankOf 1 (some .int), Cond.methodLink RX0 231 yX0_cornerBeyond, Cond.static yX0_cornerBeyond, Cond.code yX0_cornerBeyond cX0_cornerBeyond 2 (some .int), Cond.methodLink RX0 146 yX0_rightOfCorner, Cond.static yX0_rightOfCorner, Cond.code yX0_rightOfCorner cX0_rightOfCorner 1 (some .int), Cond.methodLink RX0 37 yX0_pieceOf, Cond.static yX0_pieceOf]
def wsX0_castles_r2 : List Cond := [Cond.code yX0_pieceOf cX0_pieceOf 2 (some .int), Cond.methodLink RX0 222 yX0_holds, Cond.instanceMethod yX0_holds, Cond.selects RX0 yX0_holds yX0_holds, Cond.code yX0_holds cX0_holds 3 (some .boolean), Cond.fieldLink RX0 9 "Board" "board" "[I", Cond.methodLink RX0 45 yX0_isSquare, Cond.static yX0_isSquare, Cond.code yX0_isSquare cX0_isSquare 1 (some .boolean), Cond.methodLink RX0 234 yX0_isOpen, Cond.instanceMethod yX0_isOpen, Cond.selects RX0 yX0_isOpen yX0_isOpen, Cond.code yX0_isOpen cX0_isOpen 8 (some .boolean), Cond.methodLink RX0 250 Lib.Math.max.name, Cond.static Lib.Math.max.name, Cond.code Lib.Math.max.name Lib.Math.max.code 2 (some .int), Cond.methodLink RX0 237 yX0_fileOf, Cond.static yX0_fileOf, Cond.code yX0_fileOf cX0_fileOf 1 (some .int), Cond.methodLink RX0 245 yJ6_compare_7cf53, Cond.static yJ6_compare_7cf53, Cond.initialized RJ6, Cond.code yJ6_compare_7cf53 cJ6_compare_7cf53 2 (some .int), Cond.methodLink RX0 207 yX0_isFree]
def wsX0_castles_r3 : List Cond := [Cond.instanceMethod yX0_isFree, Cond.selects RX0 yX0_isFree yX0_isFree, Cond.code yX0_isFree cX0_isFree 2 (some .boolean)]
def wsX0_castles : List Cond := .code yX0_castles cX0_castles 4 (some .boolean) :: ((wsX0_castles_r1 ++ (wsX0_castles_r2 ++ wsX0_castles_r3)) ++ wsX00)
def wsX0_goes_r1 : List Cond := [Cond.fieldLink RX0 9 "Board" "board" "[I", Cond.methodLink RX0 108 yX0_typeOf, Cond.static yX0_typeOf, Cond.initialized RX0, Cond.code yX0_typeOf cX0_typeOf 1 (some .int), Cond.methodLink RX0 195 yX0_pawnSteps, Cond.instanceMethod yX0_pawnSteps, Cond.selects RX0 yX0_pawnSteps yX0_pawnSteps, Cond.code yX0_pawnSteps cX0_pawnSteps 5 (some .boolean), Cond.fieldLink RX0 82 "Board" "side" "I", Cond.methodLink RX0 204 yX0_onward, Cond.static yX0_onward, Cond.code yX0_onward cX0_onward 1 (some .int), Cond.methodLink RX0 207 yX0_isFree, Cond.instanceMethod yX0_isFree, Cond.selects RX0 yX0_isFree yX0_isFree, Cond.code yX0_isFree cX0_isFree 2 (some .boolean), Cond.methodLink RX0 45 yX0_isSquare, Cond.static yX0_isSquare, Cond.code yX0_isSquare cX0_isSquare 1 (some .boolean), Cond.methodLink RX0 189 yX0_rankOf, Cond.static yX0_rankOf, Cond.code yX0_rankOf cX0_rankOf 1 (some .int), Cond.methodLink RX0 210 yX0_secondRankOf]
def wsX0_goes_r2 : List Cond := [Cond.static yX0_secondRankOf, Cond.code yX0_secondRankOf cX0_secondRankOf 1 (some .int), Cond.methodLink RX0 198 yX0_pawnTakes, Cond.instanceMethod yX0_pawnTakes, Cond.selects RX0 yX0_pawnTakes yX0_pawnTakes, Cond.code yX0_pawnTakes cX0_pawnTakes 3 (some .boolean), Cond.methodLink RX0 213 yX0_pawnAttacks, Cond.static yX0_pawnAttacks, Cond.code yX0_pawnAttacks cX0_pawnAttacks 3 (some .boolean), Cond.methodLink RX0 240 Lib.Math.abs.name, Cond.static Lib.Math.abs.name, Cond.initialized "java/lang/Math", Cond.code Lib.Math.abs.name Lib.Math.abs.code 1 (some .int), Cond.methodLink RX0 237 yX0_fileOf, Cond.static yX0_fileOf, Cond.code yX0_fileOf cX0_fileOf 1 (some .int), Cond.methodLink RX0 105 yX0_sideOf, Cond.static yX0_sideOf, Cond.code yX0_sideOf cX0_sideOf 1 (some .int), Cond.methodLink RX0 152 yX0_otherThan, Cond.static yX0_otherThan, Cond.code yX0_otherThan cX0_otherThan 1 (some .int), Cond.methodLink RX0 216 yX0_canBeTakenInPassing, Cond.instanceMethod yX0_canBeTakenInPassing]
def wsX0_goes_r3 : List Cond := [Cond.selects RX0 yX0_canBeTakenInPassing yX0_canBeTakenInPassing, Cond.code yX0_canBeTakenInPassing cX0_canBeTakenInPassing 2 (some .boolean), Cond.fieldLink RX0 85 "Board" "passing" "I", Cond.methodLink RX0 219 yX0_squareBehind, Cond.instanceMethod yX0_squareBehind, Cond.selects RX0 yX0_squareBehind yX0_squareBehind, Cond.code yX0_squareBehind cX0_squareBehind 2 (some .int), Cond.methodLink RX0 37 yX0_pieceOf, Cond.static yX0_pieceOf, Cond.code yX0_pieceOf cX0_pieceOf 2 (some .int), Cond.methodLink RX0 222 yX0_holds, Cond.instanceMethod yX0_holds, Cond.selects RX0 yX0_holds yX0_holds, Cond.code yX0_holds cX0_holds 3 (some .boolean), Cond.methodLink RX0 160 yX0_attacks, Cond.instanceMethod yX0_attacks, Cond.selects RX0 yX0_attacks yX0_attacks, Cond.code yX0_attacks cX0_attacks 8 (some .boolean), Cond.methodLink RX0 234 yX0_isOpen, Cond.instanceMethod yX0_isOpen, Cond.selects RX0 yX0_isOpen yX0_isOpen, Cond.code yX0_isOpen cX0_isOpen 8 (some .boolean), Cond.methodLink RX0 250 Lib.Math.max.name, Cond.static Lib.Math.max.name]
def wsX0_goes_r4 : List Cond := [Cond.code Lib.Math.max.name Lib.Math.max.code 2 (some .int), Cond.methodLink RX0 245 yJ6_compare_7cf53, Cond.static yJ6_compare_7cf53, Cond.initialized RJ6, Cond.code yJ6_compare_7cf53 cJ6_compare_7cf53 2 (some .int), Cond.methodLink RX0 201 yX0_castles, Cond.instanceMethod yX0_castles, Cond.selects RX0 yX0_castles yX0_castles, Cond.code yX0_castles cX0_castles 4 (some .boolean), Cond.fieldLink RX0 41 "Board" "rights" "I", Cond.methodLink RX0 225 yX0_homeOfKing, Cond.static yX0_homeOfKing, Cond.code yX0_homeOfKing cX0_homeOfKing 1 (some .int), Cond.methodLink RX0 228 yX0_isTwoFilesAway, Cond.static yX0_isTwoFilesAway, Cond.code yX0_isTwoFilesAway cX0_isTwoFilesAway 2 (some .boolean), Cond.methodLink RX0 231 yX0_cornerBeyond, Cond.static yX0_cornerBeyond, Cond.code yX0_cornerBeyond cX0_cornerBeyond 2 (some .int), Cond.methodLink RX0 146 yX0_rightOfCorner, Cond.static yX0_rightOfCorner, Cond.code yX0_rightOfCorner cX0_rightOfCorner 1 (some .int)]
def wsX0_goes : List Cond := .code yX0_goes cX0_goes 3 (some .boolean) :: ((wsX0_goes_r1 ++ (wsX0_goes_r2 ++ (wsX0_goes_r3 ++ wsX0_goes_r4))) ++ wsX00)
def wsX0_fits_r1 : List Cond := [Cond.fieldLink RX0 9 "Board" "board" "[I", Cond.fieldLink RX0 82 "Board" "side" "I", Cond.methodLink RX0 98 yX0_fromOf, Cond.static yX0_fromOf, Cond.initialized RX0, Cond.code yX0_fromOf cX0_fromOf 1 (some .int), Cond.methodLink RX0 102 yX0_toOf, Cond.static yX0_toOf, Cond.code yX0_toOf cX0_toOf 1 (some .int), Cond.methodLink RX0 105 yX0_sideOf, Cond.static yX0_sideOf, Cond.code yX0_sideOf cX0_sideOf 1 (some .int), Cond.methodLink RX0 108 yX0_typeOf, Cond.static yX0_typeOf, Cond.code yX0_typeOf cX0_typeOf 1 (some .int), Cond.methodLink RX0 111 yX0_kindOf, Cond.static yX0_kindOf, Cond.code yX0_kindOf cX0_kindOf 1 (some .int), Cond.methodLink RX0 114 yX0_becomesWhatItMay, Cond.static yX0_becomesWhatItMay, Cond.code yX0_becomesWhatItMay cX0_becomesWhatItMay 4 (some .boolean), Cond.methodLink RX0 189 yX0_rankOf, Cond.static yX0_rankOf, Cond.code yX0_rankOf cX0_rankOf 1 (some .int)]
def wsX0_fits_r2 : List Cond := [Cond.methodLink RX0 192 yX0_lastRankOf, Cond.static yX0_lastRankOf, Cond.code yX0_lastRankOf cX0_lastRankOf 1 (some .int), Cond.methodLink RX0 118 yX0_goes, Cond.instanceMethod yX0_goes, Cond.selects RX0 yX0_goes yX0_goes, Cond.code yX0_goes cX0_goes 3 (some .boolean), Cond.methodLink RX0 195 yX0_pawnSteps, Cond.instanceMethod yX0_pawnSteps, Cond.selects RX0 yX0_pawnSteps yX0_pawnSteps, Cond.code yX0_pawnSteps cX0_pawnSteps 5 (some .boolean), Cond.methodLink RX0 204 yX0_onward, Cond.static yX0_onward, Cond.code yX0_onward cX0_onward 1 (some .int), Cond.methodLink RX0 207 yX0_isFree, Cond.instanceMethod yX0_isFree, Cond.selects RX0 yX0_isFree yX0_isFree, Cond.code yX0_isFree cX0_isFree 2 (some .boolean), Cond.methodLink RX0 45 yX0_isSquare, Cond.static yX0_isSquare, Cond.code yX0_isSquare cX0_isSquare 1 (some .boolean), Cond.methodLink RX0 210 yX0_secondRankOf, Cond.static yX0_secondRankOf, Cond.code yX0_secondRankOf cX0_secondRankOf 1 (some .int)]
def wsX0_fits_r3 : List Cond := [Cond.methodLink RX0 198 yX0_pawnTakes, Cond.instanceMethod yX0_pawnTakes, Cond.selects RX0 yX0_pawnTakes yX0_pawnTakes, Cond.code yX0_pawnTakes cX0_pawnTakes 3 (some .boolean), Cond.methodLink RX0 213 yX0_pawnAttacks, Cond.static yX0_pawnAttacks, Cond.code yX0_pawnAttacks cX0_pawnAttacks 3 (some .boolean), Cond.methodLink RX0 240 Lib.Math.abs.name, Cond.static Lib.Math.abs.name, Cond.initialized "java/lang/Math", Cond.code Lib.Math.abs.name Lib.Math.abs.code 1 (some .int), Cond.methodLink RX0 237 yX0_fileOf, Cond.static yX0_fileOf, Cond.code yX0_fileOf cX0_fileOf 1 (some .int), Cond.methodLink RX0 152 yX0_otherThan, Cond.static yX0_otherThan, Cond.code yX0_otherThan cX0_otherThan 1 (some .int), Cond.methodLink RX0 216 yX0_canBeTakenInPassing, Cond.instanceMethod yX0_canBeTakenInPassing, Cond.selects RX0 yX0_canBeTakenInPassing yX0_canBeTakenInPassing, Cond.code yX0_canBeTakenInPassing cX0_canBeTakenInPassing 2 (some .boolean), Cond.fieldLink RX0 85 "Board" "passing" "I", Cond.methodLink RX0 219 yX0_squareBehind, Cond.instanceMethod yX0_squareBehind]
def wsX0_fits_r4 : List Cond := [Cond.selects RX0 yX0_squareBehind yX0_squareBehind, Cond.code yX0_squareBehind cX0_squareBehind 2 (some .int), Cond.methodLink RX0 37 yX0_pieceOf, Cond.static yX0_pieceOf, Cond.code yX0_pieceOf cX0_pieceOf 2 (some .int), Cond.methodLink RX0 222 yX0_holds, Cond.instanceMethod yX0_holds, Cond.selects RX0 yX0_holds yX0_holds, Cond.code yX0_holds cX0_holds 3 (some .boolean), Cond.methodLink RX0 160 yX0_attacks, Cond.instanceMethod yX0_attacks, Cond.selects RX0 yX0_attacks yX0_attacks, Cond.code yX0_attacks cX0_attacks 8 (some .boolean), Cond.methodLink RX0 234 yX0_isOpen, Cond.instanceMethod yX0_isOpen, Cond.selects RX0 yX0_isOpen yX0_isOpen, Cond.code yX0_isOpen cX0_isOpen 8 (some .boolean), Cond.methodLink RX0 250 Lib.Math.max.name, Cond.static Lib.Math.max.name, Cond.code Lib.Math.max.name Lib.Math.max.code 2 (some .int), Cond.methodLink RX0 245 yJ6_compare_7cf53, Cond.static yJ6_compare_7cf53, Cond.initialized RJ6, Cond.code yJ6_compare_7cf53 cJ6_compare_7cf53 2 (some .int)]
def wsX0_fits_r5 : List Cond := [Cond.methodLink RX0 201 yX0_castles, Cond.instanceMethod yX0_castles, Cond.selects RX0 yX0_castles yX0_castles, Cond.code yX0_castles cX0_castles 4 (some .boolean), Cond.fieldLink RX0 41 "Board" "rights" "I", Cond.methodLink RX0 225 yX0_homeOfKing, Cond.static yX0_homeOfKing, Cond.code yX0_homeOfKing cX0_homeOfKing 1 (some .int), Cond.methodLink RX0 228 yX0_isTwoFilesAway, Cond.static yX0_isTwoFilesAway, Cond.code yX0_isTwoFilesAway cX0_isTwoFilesAway 2 (some .boolean), Cond.methodLink RX0 231 yX0_cornerBeyond, Cond.static yX0_cornerBeyond, Cond.code yX0_cornerBeyond cX0_cornerBeyond 2 (some .int), Cond.methodLink RX0 146 yX0_rightOfCorner, Cond.static yX0_rightOfCorner, Cond.code yX0_rightOfCorner cX0_rightOfCorner 1 (some .int)]
def wsX0_fits : List Cond := .code yX0_fits cX0_fits 4 (some .boolean) :: ((wsX0_fits_r1 ++ (wsX0_fits_r2 ++ (wsX0_fits_r3 ++ (wsX0_fits_r4 ++ wsX0_fits_r5)))) ++ wsX00)
def wsX0_squareTaken_r1 : List Cond := [Cond.fieldLink RX0 9 "Board" "board" "[I", Cond.fieldLink RX0 82 "Board" "side" "I", Cond.methodLink RX0 108 yX0_typeOf, Cond.static yX0_typeOf, Cond.initialized RX0, Cond.code yX0_typeOf cX0_typeOf 1 (some .int), Cond.methodLink RX0 213 yX0_pawnAttacks, Cond.static yX0_pawnAttacks, Cond.code yX0_pawnAttacks cX0_pawnAttacks 3 (some .boolean), Cond.methodLink RX0 240 Lib.Math.abs.name, Cond.static Lib.Math.abs.name, Cond.initialized "java/lang/Math", Cond.code Lib.Math.abs.name Lib.Math.abs.code 1 (some .int), Cond.methodLink RX0 189 yX0_rankOf, Cond.static yX0_rankOf, Cond.code yX0_rankOf cX0_rankOf 1 (some .int), Cond.methodLink RX0 204 yX0_onward, Cond.static yX0_onward, Cond.code yX0_onward cX0_onward 1 (some .int), Cond.methodLink RX0 237 yX0_fileOf, Cond.static yX0_fileOf, Cond.code yX0_fileOf cX0_fileOf 1 (some .int), Cond.methodLink RX0 216 yX0_canBeTakenInPassing, Cond.instanceMethod yX0_canBeTakenInPassing]
def wsX0_squareTaken_r2 : List Cond := [Cond.selects RX0 yX0_canBeTakenInPassing yX0_canBeTakenInPassing, Cond.code yX0_canBeTakenInPassing cX0_canBeTakenInPassing 2 (some .boolean), Cond.fieldLink RX0 85 "Board" "passing" "I", Cond.methodLink RX0 207 yX0_isFree, Cond.instanceMethod yX0_isFree, Cond.selects RX0 yX0_isFree yX0_isFree, Cond.code yX0_isFree cX0_isFree 2 (some .boolean), Cond.methodLink RX0 45 yX0_isSquare, Cond.static yX0_isSquare, Cond.code yX0_isSquare cX0_isSquare 1 (some .boolean), Cond.methodLink RX0 219 yX0_squareBehind, Cond.instanceMethod yX0_squareBehind, Cond.selects RX0 yX0_squareBehind yX0_squareBehind, Cond.code yX0_squareBehind cX0_squareBehind 2 (some .int), Cond.methodLink RX0 152 yX0_otherThan, Cond.static yX0_otherThan, Cond.code yX0_otherThan cX0_otherThan 1 (some .int), Cond.methodLink RX0 37 yX0_pieceOf, Cond.static yX0_pieceOf, Cond.code yX0_pieceOf cX0_pieceOf 2 (some .int), Cond.methodLink RX0 222 yX0_holds, Cond.instanceMethod yX0_holds, Cond.selects RX0 yX0_holds yX0_holds, Cond.code yX0_holds cX0_holds 3 (some .boolean)]
def wsX0_squareTaken : List Cond := .code yX0_squareTaken cX0_squareTaken 4 (some .int) :: ((wsX0_squareTaken_r1 ++ wsX0_squareTaken_r2) ++ wsX00)
def wsX0_remember : List Cond := .code yX0_remember cX0_remember 4 none :: ([.fieldLink RX0 13 "Board" "moves" "[I", .fieldLink RX0 127 "Board" "made" "I", .fieldLink RX0 16 "Board" "takenPieces" "[I", .fieldLink RX0 19 "Board" "takenSquares" "[I", .fieldLink RX0 22 "Board" "rightsBefore" "[I", .fieldLink RX0 41 "Board" "rights" "I", .fieldLink RX0 25 "Board" "passingBefore" "[I", .fieldLink RX0 85 "Board" "passing" "I", .fieldLink RX0 28 "Board" "halfBefore" "[I", .fieldLink RX0 92 "Board" "half" "I"] ++ wsX00)
def wsX0_isCastling : List Cond := .code yX0_isCastling cX0_isCastling 3 (some .boolean) :: ([.methodLink RX0 108 yX0_typeOf, .static yX0_typeOf, .initialized RX0, .code yX0_typeOf cX0_typeOf 1 (some .int), .methodLink RX0 228 yX0_isTwoFilesAway, .static yX0_isTwoFilesAway, .code yX0_isTwoFilesAway cX0_isTwoFilesAway 2 (some .boolean), .methodLink RX0 240 Lib.Math.abs.name, .static Lib.Math.abs.name, .initialized "java/lang/Math", .code Lib.Math.abs.name Lib.Math.abs.code 1 (some .int), .methodLink RX0 189 yX0_rankOf, .static yX0_rankOf, .code yX0_rankOf cX0_rankOf 1 (some .int)])
def wsX0_shift : List Cond := .code yX0_shift cX0_shift 3 none :: ([.fieldLink RX0 9 "Board" "board" "[I", .methodLink RX0 45 yX0_isSquare, .static yX0_isSquare, .initialized RX0, .code yX0_isSquare cX0_isSquare 1 (some .boolean)] ++ wsX00)
def wsX0_carryOver_r1 : List Cond := [Cond.fieldLink RX0 9 "Board" "board" "[I", Cond.fieldLink RX0 82 "Board" "side" "I", Cond.methodLink RX0 98 yX0_fromOf, Cond.static yX0_fromOf, Cond.initialized RX0, Cond.code yX0_fromOf cX0_fromOf 1 (some .int), Cond.methodLink RX0 102 yX0_toOf, Cond.static yX0_toOf, Cond.code yX0_toOf cX0_toOf 1 (some .int), Cond.methodLink RX0 111 yX0_kindOf, Cond.static yX0_kindOf, Cond.code yX0_kindOf cX0_kindOf 1 (some .int), Cond.methodLink RX0 253 yX0_isCastling, Cond.static yX0_isCastling, Cond.code yX0_isCastling cX0_isCastling 3 (some .boolean), Cond.methodLink RX0 108 yX0_typeOf, Cond.static yX0_typeOf, Cond.code yX0_typeOf cX0_typeOf 1 (some .int), Cond.methodLink RX0 228 yX0_isTwoFilesAway, Cond.static yX0_isTwoFilesAway, Cond.code yX0_isTwoFilesAway cX0_isTwoFilesAway 2 (some .boolean), Cond.methodLink RX0 240 Lib.Math.abs.name, Cond.static Lib.Math.abs.name, Cond.initialized "java/lang/Math"]
def wsX0_carryOver_r2 : List Cond := [Cond.code Lib.Math.abs.name Lib.Math.abs.code 1 (some .int), Cond.methodLink RX0 189 yX0_rankOf, Cond.static yX0_rankOf, Cond.code yX0_rankOf cX0_rankOf 1 (some .int), Cond.methodLink RX0 231 yX0_cornerBeyond, Cond.static yX0_cornerBeyond, Cond.code yX0_cornerBeyond cX0_cornerBeyond 2 (some .int), Cond.methodLink RX0 256 yX0_shift, Cond.instanceMethod yX0_shift, Cond.selects RX0 yX0_shift yX0_shift, Cond.code yX0_shift cX0_shift 3 none, Cond.methodLink RX0 45 yX0_isSquare, Cond.static yX0_isSquare, Cond.code yX0_isSquare cX0_isSquare 1 (some .boolean), Cond.methodLink RX0 37 yX0_pieceOf, Cond.static yX0_pieceOf, Cond.code yX0_pieceOf cX0_pieceOf 2 (some .int)]
def wsX0_carryOver : List Cond := .code yX0_carryOver cX0_carryOver 7 none :: ((wsX0_carryOver_r1 ++ wsX0_carryOver_r2) ++ wsX00)
def wsX0_rightsOfKing : List Cond := .code yX0_rightsOfKing cX0_rightsOfKing 1 (some .int) :: ([.methodLink RX0 108 yX0_typeOf, .static yX0_typeOf, .initialized RX0, .code yX0_typeOf cX0_typeOf 1 (some .int), .methodLink RX0 105 yX0_sideOf, .static yX0_sideOf, .code yX0_sideOf cX0_sideOf 1 (some .int)])
def wsX0_passingBehind_r1 : List Cond := [Cond.fieldLink RX0 9 "Board" "board" "[I", Cond.methodLink RX0 240 Lib.Math.abs.name, Cond.static Lib.Math.abs.name, Cond.initialized "java/lang/Math", Cond.code Lib.Math.abs.name Lib.Math.abs.code 1 (some .int), Cond.fieldLink RX0 82 "Board" "side" "I", Cond.methodLink RX0 108 yX0_typeOf, Cond.static yX0_typeOf, Cond.initialized RX0, Cond.code yX0_typeOf cX0_typeOf 1 (some .int), Cond.methodLink RX0 152 yX0_otherThan, Cond.static yX0_otherThan, Cond.code yX0_otherThan cX0_otherThan 1 (some .int), Cond.methodLink RX0 37 yX0_pieceOf, Cond.static yX0_pieceOf, Cond.code yX0_pieceOf cX0_pieceOf 2 (some .int), Cond.methodLink RX0 213 yX0_pawnAttacks, Cond.static yX0_pawnAttacks, Cond.code yX0_pawnAttacks cX0_pawnAttacks 3 (some .boolean), Cond.methodLink RX0 189 yX0_rankOf, Cond.static yX0_rankOf, Cond.code yX0_rankOf cX0_rankOf 1 (some .int), Cond.methodLink RX0 204 yX0_onward, Cond.static yX0_onward]
def wsX0_passingBehind_r2 : List Cond := [Cond.code yX0_onward cX0_onward 1 (some .int), Cond.methodLink RX0 237 yX0_fileOf, Cond.static yX0_fileOf, Cond.code yX0_fileOf cX0_fileOf 1 (some .int)]
def wsX0_passingBehind : List Cond := .code yX0_passingBehind cX0_passingBehind 6 (some .int) :: ((wsX0_passingBehind_r1 ++ wsX0_passingBehind_r2) ++ wsX00)
def wsX0_make_r1 : List Cond := [Cond.classLink RX0 56 "java/lang/IllegalArgumentException", Cond.initialized "java/lang/IllegalArgumentException", Cond.classLink RX0 65 "java/lang/IllegalStateException", Cond.initialized "java/lang/IllegalStateException", Cond.fieldLink RX0 127 "Board" "made" "I", Cond.fieldLink RX0 9 "Board" "board" "[I", Cond.fieldLink RX0 41 "Board" "rights" "I", Cond.fieldLink RX0 85 "Board" "passing" "I", Cond.fieldLink RX0 92 "Board" "half" "I", Cond.fieldLink RX0 82 "Board" "side" "I", Cond.fieldLink RX0 95 "Board" "full" "I", Cond.methodLink RX0 122 yX0_fits, Cond.instanceMethod yX0_fits, Cond.selects RX0 yX0_fits yX0_fits, Cond.initialized RX0, Cond.code yX0_fits cX0_fits 4 (some .boolean), Cond.methodLink RX0 98 yX0_fromOf, Cond.static yX0_fromOf, Cond.code yX0_fromOf cX0_fromOf 1 (some .int), Cond.methodLink RX0 102 yX0_toOf, Cond.static yX0_toOf, Cond.code yX0_toOf cX0_toOf 1 (some .int), Cond.methodLink RX0 105 yX0_sideOf, Cond.static yX0_sideOf]
def wsX0_make_r2 : List Cond := [Cond.code yX0_sideOf cX0_sideOf 1 (some .int), Cond.methodLink RX0 108 yX0_typeOf, Cond.static yX0_typeOf, Cond.code yX0_typeOf cX0_typeOf 1 (some .int), Cond.methodLink RX0 111 yX0_kindOf, Cond.static yX0_kindOf, Cond.code yX0_kindOf cX0_kindOf 1 (some .int), Cond.methodLink RX0 114 yX0_becomesWhatItMay, Cond.static yX0_becomesWhatItMay, Cond.code yX0_becomesWhatItMay cX0_becomesWhatItMay 4 (some .boolean), Cond.methodLink RX0 189 yX0_rankOf, Cond.static yX0_rankOf, Cond.code yX0_rankOf cX0_rankOf 1 (some .int), Cond.methodLink RX0 192 yX0_lastRankOf, Cond.static yX0_lastRankOf, Cond.code yX0_lastRankOf cX0_lastRankOf 1 (some .int), Cond.methodLink RX0 118 yX0_goes, Cond.instanceMethod yX0_goes, Cond.selects RX0 yX0_goes yX0_goes, Cond.code yX0_goes cX0_goes 3 (some .boolean), Cond.methodLink RX0 195 yX0_pawnSteps, Cond.instanceMethod yX0_pawnSteps, Cond.selects RX0 yX0_pawnSteps yX0_pawnSteps, Cond.code yX0_pawnSteps cX0_pawnSteps 5 (some .boolean)]
def wsX0_make_r3 : List Cond := [Cond.methodLink RX0 204 yX0_onward, Cond.static yX0_onward, Cond.code yX0_onward cX0_onward 1 (some .int), Cond.methodLink RX0 207 yX0_isFree, Cond.instanceMethod yX0_isFree, Cond.selects RX0 yX0_isFree yX0_isFree, Cond.code yX0_isFree cX0_isFree 2 (some .boolean), Cond.methodLink RX0 45 yX0_isSquare, Cond.static yX0_isSquare, Cond.code yX0_isSquare cX0_isSquare 1 (some .boolean), Cond.methodLink RX0 210 yX0_secondRankOf, Cond.static yX0_secondRankOf, Cond.code yX0_secondRankOf cX0_secondRankOf 1 (some .int), Cond.methodLink RX0 198 yX0_pawnTakes, Cond.instanceMethod yX0_pawnTakes, Cond.selects RX0 yX0_pawnTakes yX0_pawnTakes, Cond.code yX0_pawnTakes cX0_pawnTakes 3 (some .boolean), Cond.methodLink RX0 213 yX0_pawnAttacks, Cond.static yX0_pawnAttacks, Cond.code yX0_pawnAttacks cX0_pawnAttacks 3 (some .boolean), Cond.methodLink RX0 240 Lib.Math.abs.name, Cond.static Lib.Math.abs.name, Cond.initialized "java/lang/Math", Cond.code Lib.Math.abs.name Lib.Math.abs.code 1 (some .int)]
def wsX0_make_r4 : List Cond := [Cond.methodLink RX0 237 yX0_fileOf, Cond.static yX0_fileOf, Cond.code yX0_fileOf cX0_fileOf 1 (some .int), Cond.methodLink RX0 152 yX0_otherThan, Cond.static yX0_otherThan, Cond.code yX0_otherThan cX0_otherThan 1 (some .int), Cond.methodLink RX0 216 yX0_canBeTakenInPassing, Cond.instanceMethod yX0_canBeTakenInPassing, Cond.selects RX0 yX0_canBeTakenInPassing yX0_canBeTakenInPassing, Cond.code yX0_canBeTakenInPassing cX0_canBeTakenInPassing 2 (some .boolean), Cond.methodLink RX0 219 yX0_squareBehind, Cond.instanceMethod yX0_squareBehind, Cond.selects RX0 yX0_squareBehind yX0_squareBehind, Cond.code yX0_squareBehind cX0_squareBehind 2 (some .int), Cond.methodLink RX0 37 yX0_pieceOf, Cond.static yX0_pieceOf, Cond.code yX0_pieceOf cX0_pieceOf 2 (some .int), Cond.methodLink RX0 222 yX0_holds, Cond.instanceMethod yX0_holds, Cond.selects RX0 yX0_holds yX0_holds, Cond.code yX0_holds cX0_holds 3 (some .boolean), Cond.methodLink RX0 160 yX0_attacks, Cond.instanceMethod yX0_attacks, Cond.selects RX0 yX0_attacks yX0_attacks]
def wsX0_make_r5 : List Cond := [Cond.code yX0_attacks cX0_attacks 8 (some .boolean), Cond.methodLink RX0 234 yX0_isOpen, Cond.instanceMethod yX0_isOpen, Cond.selects RX0 yX0_isOpen yX0_isOpen, Cond.code yX0_isOpen cX0_isOpen 8 (some .boolean), Cond.methodLink RX0 250 Lib.Math.max.name, Cond.static Lib.Math.max.name, Cond.code Lib.Math.max.name Lib.Math.max.code 2 (some .int), Cond.methodLink RX0 245 yJ6_compare_7cf53, Cond.static yJ6_compare_7cf53, Cond.initialized RJ6, Cond.code yJ6_compare_7cf53 cJ6_compare_7cf53 2 (some .int), Cond.methodLink RX0 201 yX0_castles, Cond.instanceMethod yX0_castles, Cond.selects RX0 yX0_castles yX0_castles, Cond.code yX0_castles cX0_castles 4 (some .boolean), Cond.methodLink RX0 225 yX0_homeOfKing, Cond.static yX0_homeOfKing, Cond.code yX0_homeOfKing cX0_homeOfKing 1 (some .int), Cond.methodLink RX0 228 yX0_isTwoFilesAway, Cond.static yX0_isTwoFilesAway, Cond.code yX0_isTwoFilesAway cX0_isTwoFilesAway 2 (some .boolean), Cond.methodLink RX0 231 yX0_cornerBeyond, Cond.static yX0_cornerBeyond]
def wsX0_make_r6 : List Cond := [Cond.code yX0_cornerBeyond cX0_cornerBeyond 2 (some .int), Cond.methodLink RX0 146 yX0_rightOfCorner, Cond.static yX0_rightOfCorner, Cond.code yX0_rightOfCorner cX0_rightOfCorner 1 (some .int), Cond.methodLink RX0 132 yX0_squareTaken, Cond.instanceMethod yX0_squareTaken, Cond.selects RX0 yX0_squareTaken yX0_squareTaken, Cond.code yX0_squareTaken cX0_squareTaken 4 (some .int), Cond.methodLink RX0 135 yX0_remember, Cond.instanceMethod yX0_remember, Cond.selects RX0 yX0_remember yX0_remember, Cond.code yX0_remember cX0_remember 4 none, Cond.fieldLink RX0 13 "Board" "moves" "[I", Cond.fieldLink RX0 16 "Board" "takenPieces" "[I", Cond.fieldLink RX0 19 "Board" "takenSquares" "[I", Cond.fieldLink RX0 22 "Board" "rightsBefore" "[I", Cond.fieldLink RX0 25 "Board" "passingBefore" "[I", Cond.fieldLink RX0 28 "Board" "halfBefore" "[I", Cond.methodLink RX0 139 yX0_carryOver, Cond.instanceMethod yX0_carryOver, Cond.selects RX0 yX0_carryOver yX0_carryOver, Cond.code yX0_carryOver cX0_carryOver 7 none, Cond.methodLink RX0 253 yX0_isCastling, Cond.static yX0_isCastling]
def wsX0_make_r7 : List Cond := [Cond.code yX0_isCastling cX0_isCastling 3 (some .boolean), Cond.methodLink RX0 256 yX0_shift, Cond.instanceMethod yX0_shift, Cond.selects RX0 yX0_shift yX0_shift, Cond.code yX0_shift cX0_shift 3 none, Cond.methodLink RX0 143 yX0_rightsOfKing, Cond.static yX0_rightsOfKing, Cond.code yX0_rightsOfKing cX0_rightsOfKing 1 (some .int), Cond.methodLink RX0 149 yX0_passingBehind, Cond.instanceMethod yX0_passingBehind, Cond.selects RX0 yX0_passingBehind yX0_passingBehind, Cond.code yX0_passingBehind cX0_passingBehind 6 (some .int)]
def wsX0_make : List Cond := .code yX0_make cX0_make 7 (some .int) :: ((wsX0_make_r1 ++ (wsX0_make_r2 ++ (wsX0_make_r3 ++ (wsX0_make_r4 ++ (wsX0_make_r5 ++ (wsX0_make_r6 ++ wsX0_make_r7)))))) ++ wsX00 ++ (vx_atS RX0 60 "java/lang/IllegalArgumentException" ["java/lang/RuntimeException", "java/lang/Exception"]).filter goodWord ++ (vx_atS RX0 69 "java/lang/IllegalStateException" ["java/lang/RuntimeException", "java/lang/Exception"]).filter goodWord)
end
section
def wsX0_carryBack_r1 : List Cond := [Cond.fieldLink RX0 9 "Board" "board" "[I", Cond.fieldLink RX0 82 "Board" "side" "I", Cond.methodLink RX0 98 yX0_fromOf, Cond.static yX0_fromOf, Cond.initialized RX0, Cond.code yX0_fromOf cX0_fromOf 1 (some .int), Cond.methodLink RX0 102 yX0_toOf, Cond.static yX0_toOf, Cond.code yX0_toOf cX0_toOf 1 (some .int), Cond.methodLink RX0 111 yX0_kindOf, Cond.static yX0_kindOf, Cond.code yX0_kindOf cX0_kindOf 1 (some .int), Cond.methodLink RX0 37 yX0_pieceOf, Cond.static yX0_pieceOf, Cond.code yX0_pieceOf cX0_pieceOf 2 (some .int), Cond.methodLink RX0 253 yX0_isCastling, Cond.static yX0_isCastling, Cond.code yX0_isCastling cX0_isCastling 3 (some .boolean), Cond.methodLink RX0 108 yX0_typeOf, Cond.static yX0_typeOf, Cond.code yX0_typeOf cX0_typeOf 1 (some .int), Cond.methodLink RX0 228 yX0_isTwoFilesAway, Cond.static yX0_isTwoFilesAway, Cond.code yX0_isTwoFilesAway cX0_isTwoFilesAway 2 (some .boolean)]
def wsX0_carryBack_r2 : List Cond := [Cond.methodLink RX0 240 Lib.Math.abs.name, Cond.static Lib.Math.abs.name, Cond.initialized "java/lang/Math", Cond.code Lib.Math.abs.name Lib.Math.abs.code 1 (some .int), Cond.methodLink RX0 189 yX0_rankOf, Cond.static yX0_rankOf, Cond.code yX0_rankOf cX0_rankOf 1 (some .int), Cond.methodLink RX0 231 yX0_cornerBeyond, Cond.static yX0_cornerBeyond, Cond.code yX0_cornerBeyond cX0_cornerBeyond 2 (some .int), Cond.methodLink RX0 256 yX0_shift, Cond.instanceMethod yX0_shift, Cond.selects RX0 yX0_shift yX0_shift, Cond.code yX0_shift cX0_shift 3 none, Cond.methodLink RX0 45 yX0_isSquare, Cond.static yX0_isSquare, Cond.code yX0_isSquare cX0_isSquare 1 (some .boolean)]
def wsX0_carryBack : List Cond := .code yX0_carryBack cX0_carryBack 7 none :: ((wsX0_carryBack_r1 ++ wsX0_carryBack_r2) ++ wsX00)
def wsX0_unmake_r1 : List Cond := [Cond.classLink RX0 65 "java/lang/IllegalStateException", Cond.initialized "java/lang/IllegalStateException", Cond.fieldLink RX0 127 "Board" "made" "I", Cond.fieldLink RX0 13 "Board" "moves" "[I", Cond.fieldLink RX0 22 "Board" "rightsBefore" "[I", Cond.fieldLink RX0 41 "Board" "rights" "I", Cond.fieldLink RX0 25 "Board" "passingBefore" "[I", Cond.fieldLink RX0 85 "Board" "passing" "I", Cond.fieldLink RX0 28 "Board" "halfBefore" "[I", Cond.fieldLink RX0 92 "Board" "half" "I", Cond.fieldLink RX0 82 "Board" "side" "I", Cond.fieldLink RX0 95 "Board" "full" "I", Cond.fieldLink RX0 16 "Board" "takenPieces" "[I", Cond.fieldLink RX0 19 "Board" "takenSquares" "[I", Cond.methodLink RX0 152 yX0_otherThan, Cond.static yX0_otherThan, Cond.initialized RX0, Cond.code yX0_otherThan cX0_otherThan 1 (some .int), Cond.methodLink RX0 157 yX0_carryBack, Cond.instanceMethod yX0_carryBack, Cond.selects RX0 yX0_carryBack yX0_carryBack, Cond.code yX0_carryBack cX0_carryBack 7 none, Cond.fieldLink RX0 9 "Board" "board" "[I", Cond.methodLink RX0 98 yX0_fromOf]
def wsX0_unmake_r2 : List Cond := [Cond.static yX0_fromOf, Cond.code yX0_fromOf cX0_fromOf 1 (some .int), Cond.methodLink RX0 102 yX0_toOf, Cond.static yX0_toOf, Cond.code yX0_toOf cX0_toOf 1 (some .int), Cond.methodLink RX0 111 yX0_kindOf, Cond.static yX0_kindOf, Cond.code yX0_kindOf cX0_kindOf 1 (some .int), Cond.methodLink RX0 37 yX0_pieceOf, Cond.static yX0_pieceOf, Cond.code yX0_pieceOf cX0_pieceOf 2 (some .int), Cond.methodLink RX0 253 yX0_isCastling, Cond.static yX0_isCastling, Cond.code yX0_isCastling cX0_isCastling 3 (some .boolean), Cond.methodLink RX0 108 yX0_typeOf, Cond.static yX0_typeOf, Cond.code yX0_typeOf cX0_typeOf 1 (some .int), Cond.methodLink RX0 228 yX0_isTwoFilesAway, Cond.static yX0_isTwoFilesAway, Cond.code yX0_isTwoFilesAway cX0_isTwoFilesAway 2 (some .boolean), Cond.methodLink RX0 240 Lib.Math.abs.name, Cond.static Lib.Math.abs.name, Cond.initialized "java/lang/Math", Cond.code Lib.Math.abs.name Lib.Math.abs.code 1 (some .int)]
def wsX0_unmake_r3 : List Cond := [Cond.methodLink RX0 189 yX0_rankOf, Cond.static yX0_rankOf, Cond.code yX0_rankOf cX0_rankOf 1 (some .int), Cond.methodLink RX0 231 yX0_cornerBeyond, Cond.static yX0_cornerBeyond, Cond.code yX0_cornerBeyond cX0_cornerBeyond 2 (some .int), Cond.methodLink RX0 256 yX0_shift, Cond.instanceMethod yX0_shift, Cond.selects RX0 yX0_shift yX0_shift, Cond.code yX0_shift cX0_shift 3 none, Cond.methodLink RX0 45 yX0_isSquare, Cond.static yX0_isSquare, Cond.code yX0_isSquare cX0_isSquare 1 (some .boolean)]
def wsX0_unmake : List Cond := .code yX0_unmake cX0_unmake 2 (some .int) :: ((wsX0_unmake_r1 ++ (wsX0_unmake_r2 ++ wsX0_unmake_r3)) ++ wsX00 ++ (vx_atS RX0 69 "java/lang/IllegalStateException" ["java/lang/RuntimeException", "java/lang/Exception"]).filter goodWord)
def wsX0_at : List Cond := .code yX0_at cX0_at 2 (some .int) :: ([.classLink RX0 49 "java/lang/IndexOutOfBoundsException", .initialized "java/lang/IndexOutOfBoundsException", .fieldLink RX0 9 "Board" "board" "[I", .methodLink RX0 45 yX0_isSquare, .static yX0_isSquare, .initialized RX0, .code yX0_isSquare cX0_isSquare 1 (some .boolean)] ++ wsX00 ++ (vx_atS RX0 53 "java/lang/IndexOutOfBoundsException" ["java/lang/RuntimeException", "java/lang/Exception"]).filter goodWord)
def wsX0_attackers_r1 : List Cond := [Cond.classLink RX0 49 "java/lang/IndexOutOfBoundsException", Cond.initialized "java/lang/IndexOutOfBoundsException", Cond.classLink RX0 56 "java/lang/IllegalArgumentException", Cond.initialized "java/lang/IllegalArgumentException", Cond.fieldLink RX0 9 "Board" "board" "[I", Cond.methodLink RX0 45 yX0_isSquare, Cond.static yX0_isSquare, Cond.initialized RX0, Cond.code yX0_isSquare cX0_isSquare 1 (some .boolean), Cond.methodLink RX0 73 yX0_isSide, Cond.static yX0_isSide, Cond.code yX0_isSide cX0_isSide 1 (some .boolean), Cond.methodLink RX0 105 yX0_sideOf, Cond.static yX0_sideOf, Cond.code yX0_sideOf cX0_sideOf 1 (some .int), Cond.methodLink RX0 160 yX0_attacks, Cond.instanceMethod yX0_attacks, Cond.selects RX0 yX0_attacks yX0_attacks, Cond.code yX0_attacks cX0_attacks 8 (some .boolean), Cond.methodLink RX0 240 Lib.Math.abs.name, Cond.static Lib.Math.abs.name, Cond.initialized "java/lang/Math", Cond.code Lib.Math.abs.name Lib.Math.abs.code 1 (some .int), Cond.methodLink RX0 237 yX0_fileOf]
def wsX0_attackers_r2 : List Cond := [Cond.static yX0_fileOf, Cond.code yX0_fileOf cX0_fileOf 1 (some .int), Cond.methodLink RX0 189 yX0_rankOf, Cond.static yX0_rankOf, Cond.code yX0_rankOf cX0_rankOf 1 (some .int), Cond.methodLink RX0 108 yX0_typeOf, Cond.static yX0_typeOf, Cond.code yX0_typeOf cX0_typeOf 1 (some .int), Cond.methodLink RX0 213 yX0_pawnAttacks, Cond.static yX0_pawnAttacks, Cond.code yX0_pawnAttacks cX0_pawnAttacks 3 (some .boolean), Cond.methodLink RX0 204 yX0_onward, Cond.static yX0_onward, Cond.code yX0_onward cX0_onward 1 (some .int), Cond.methodLink RX0 234 yX0_isOpen, Cond.instanceMethod yX0_isOpen, Cond.selects RX0 yX0_isOpen yX0_isOpen, Cond.code yX0_isOpen cX0_isOpen 8 (some .boolean), Cond.methodLink RX0 250 Lib.Math.max.name, Cond.static Lib.Math.max.name, Cond.code Lib.Math.max.name Lib.Math.max.code 2 (some .int), Cond.methodLink RX0 245 yJ6_compare_7cf53, Cond.static yJ6_compare_7cf53, Cond.initialized RJ6]
def wsX0_attackers_r3 : List Cond := [Cond.code yJ6_compare_7cf53 cJ6_compare_7cf53 2 (some .int), Cond.methodLink RX0 207 yX0_isFree, Cond.instanceMethod yX0_isFree, Cond.selects RX0 yX0_isFree yX0_isFree, Cond.code yX0_isFree cX0_isFree 2 (some .boolean)]
def wsX0_attackers : List Cond := .code yX0_attackers cX0_attackers 6 (some .long) :: ((wsX0_attackers_r1 ++ (wsX0_attackers_r2 ++ wsX0_attackers_r3)) ++ wsX00 ++ (vx_atS RX0 53 "java/lang/IndexOutOfBoundsException" ["java/lang/RuntimeException", "java/lang/Exception"]).filter goodWord ++ (vx_atS RX0 60 "java/lang/IllegalArgumentException" ["java/lang/RuntimeException", "java/lang/Exception"]).filter goodWord)
def wsX0_check_r1 : List Cond := [Cond.fieldLink RX0 9 "Board" "board" "[I", Cond.methodLink RX0 73 yX0_isSide, Cond.static yX0_isSide, Cond.initialized RX0, Cond.code yX0_isSide cX0_isSide 1 (some .boolean), Cond.methodLink RX0 37 yX0_pieceOf, Cond.static yX0_pieceOf, Cond.code yX0_pieceOf cX0_pieceOf 2 (some .int), Cond.methodLink RX0 152 yX0_otherThan, Cond.static yX0_otherThan, Cond.code yX0_otherThan cX0_otherThan 1 (some .int), Cond.methodLink RX0 163 yX0_attackers, Cond.instanceMethod yX0_attackers, Cond.selects RX0 yX0_attackers yX0_attackers, Cond.code yX0_attackers cX0_attackers 6 (some .long), Cond.classLink RX0 49 "java/lang/IndexOutOfBoundsException", Cond.initialized "java/lang/IndexOutOfBoundsException", Cond.classLink RX0 56 "java/lang/IllegalArgumentException", Cond.initialized "java/lang/IllegalArgumentException", Cond.methodLink RX0 45 yX0_isSquare, Cond.static yX0_isSquare, Cond.code yX0_isSquare cX0_isSquare 1 (some .boolean), Cond.methodLink RX0 105 yX0_sideOf, Cond.static yX0_sideOf]
def wsX0_check_r2 : List Cond := [Cond.code yX0_sideOf cX0_sideOf 1 (some .int), Cond.methodLink RX0 160 yX0_attacks, Cond.instanceMethod yX0_attacks, Cond.selects RX0 yX0_attacks yX0_attacks, Cond.code yX0_attacks cX0_attacks 8 (some .boolean), Cond.methodLink RX0 240 Lib.Math.abs.name, Cond.static Lib.Math.abs.name, Cond.initialized "java/lang/Math", Cond.code Lib.Math.abs.name Lib.Math.abs.code 1 (some .int), Cond.methodLink RX0 237 yX0_fileOf, Cond.static yX0_fileOf, Cond.code yX0_fileOf cX0_fileOf 1 (some .int), Cond.methodLink RX0 189 yX0_rankOf, Cond.static yX0_rankOf, Cond.code yX0_rankOf cX0_rankOf 1 (some .int), Cond.methodLink RX0 108 yX0_typeOf, Cond.static yX0_typeOf, Cond.code yX0_typeOf cX0_typeOf 1 (some .int), Cond.methodLink RX0 213 yX0_pawnAttacks, Cond.static yX0_pawnAttacks, Cond.code yX0_pawnAttacks cX0_pawnAttacks 3 (some .boolean), Cond.methodLink RX0 204 yX0_onward, Cond.static yX0_onward, Cond.code yX0_onward cX0_onward 1 (some .int)]
def wsX0_check_r3 : List Cond := [Cond.methodLink RX0 234 yX0_isOpen, Cond.instanceMethod yX0_isOpen, Cond.selects RX0 yX0_isOpen yX0_isOpen, Cond.code yX0_isOpen cX0_isOpen 8 (some .boolean), Cond.methodLink RX0 250 Lib.Math.max.name, Cond.static Lib.Math.max.name, Cond.code Lib.Math.max.name Lib.Math.max.code 2 (some .int), Cond.methodLink RX0 245 yJ6_compare_7cf53, Cond.static yJ6_compare_7cf53, Cond.initialized RJ6, Cond.code yJ6_compare_7cf53 cJ6_compare_7cf53 2 (some .int), Cond.methodLink RX0 207 yX0_isFree, Cond.instanceMethod yX0_isFree, Cond.selects RX0 yX0_isFree yX0_isFree, Cond.code yX0_isFree cX0_isFree 2 (some .boolean)]
def wsX0_check : List Cond := .code yX0_check cX0_check 3 (some .boolean) :: ((wsX0_check_r1 ++ (wsX0_check_r2 ++ wsX0_check_r3)) ++ wsX00 ++ (vx_atS RX0 53 "java/lang/IndexOutOfBoundsException" ["java/lang/RuntimeException", "java/lang/Exception"]).filter goodWord ++ (vx_atS RX0 60 "java/lang/IllegalArgumentException" ["java/lang/RuntimeException", "java/lang/Exception"]).filter goodWord)
def wsX0_mixed : List Cond := .code yX0_mixed cX0_mixed 2 (some .long) :: ([.constantLong RX0 259 (-7046029254386353131), .constantLong RX0 261 (-4658895280553007687), .constantLong RX0 263 (-7723592293110705685)])
def wsX0_key : List Cond := .code yX0_key cX0_key 4 (some .long) :: ([.fieldLink RX0 41 "Board" "rights" "I", .fieldLink RX0 85 "Board" "passing" "I", .fieldLink RX0 82 "Board" "side" "I", .constantLong RX0 171 (2000), .fieldLink RX0 9 "Board" "board" "[I", .methodLink RX0 167 yX0_mixed, .static yX0_mixed, .initialized RX0, .code yX0_mixed cX0_mixed 2 (some .long), .constantLong RX0 259 (-7046029254386353131), .constantLong RX0 261 (-4658895280553007687), .constantLong RX0 263 (-7723592293110705685)] ++ wsX00)
def wsX0_move : List Cond := .code yX0_move cX0_move 2 (some .int) :: ([.fieldLink RX0 127 "Board" "made" "I", .fieldLink RX0 13 "Board" "moves" "[I"] ++ wsX00)
def wsX0_worthOf : List Cond := .code yX0_worthOf cX0_worthOf 1 (some .int) :: ([])
def wsX0_material : List Cond := .code yX0_material cX0_material 4 (some .int) :: ([.fieldLink RX0 9 "Board" "board" "[I", .methodLink RX0 105 yX0_sideOf, .static yX0_sideOf, .initialized RX0, .code yX0_sideOf cX0_sideOf 1 (some .int), .methodLink RX0 108 yX0_typeOf, .static yX0_typeOf, .code yX0_typeOf cX0_typeOf 1 (some .int), .methodLink RX0 186 yX0_worthOf, .static yX0_worthOf, .code yX0_worthOf cX0_worthOf 1 (some .int)] ++ wsX00)
def wsX0_look_r1 : List Cond := [Cond.fieldLink RX0 82 "Board" "side" "I", Cond.fieldLink RX0 41 "Board" "rights" "I", Cond.fieldLink RX0 85 "Board" "passing" "I", Cond.fieldLink RX0 92 "Board" "half" "I", Cond.fieldLink RX0 95 "Board" "full" "I", Cond.fieldLink RX0 127 "Board" "made" "I", Cond.methodLink RX0 61 yX0_piecesOnBoard, Cond.instanceMethod yX0_piecesOnBoard, Cond.selects RX0 yX0_piecesOnBoard yX0_piecesOnBoard, Cond.initialized RX0, Cond.code yX0_piecesOnBoard cX0_piecesOnBoard 1 (some .int), Cond.methodLink RX0 176 yX0_where, Cond.instanceMethod yX0_where, Cond.selects RX0 yX0_where yX0_where, Cond.code yX0_where cX0_where 5 (some .long), Cond.fieldLink RX0 9 "Board" "board" "[I", Cond.methodLink RX0 180 yJ13_bitCount_95d88, Cond.static yJ13_bitCount_95d88, Cond.initialized RJ13, Cond.code yJ13_bitCount_95d88 cJ13_bitCount_95d88 2 (some .int), Cond.constantLong RJ13 314 (6148914691236517205), Cond.constantLong RJ13 316 (3689348814741910323), Cond.constantLong RJ13 318 (1085102592571150095), Cond.methodLink RX0 173 yX0_material]
def wsX0_look_r2 : List Cond := [Cond.instanceMethod yX0_material, Cond.selects RX0 yX0_material yX0_material, Cond.code yX0_material cX0_material 4 (some .int), Cond.methodLink RX0 105 yX0_sideOf, Cond.static yX0_sideOf, Cond.code yX0_sideOf cX0_sideOf 1 (some .int), Cond.methodLink RX0 108 yX0_typeOf, Cond.static yX0_typeOf, Cond.code yX0_typeOf cX0_typeOf 1 (some .int), Cond.methodLink RX0 186 yX0_worthOf, Cond.static yX0_worthOf, Cond.code yX0_worthOf cX0_worthOf 1 (some .int)]
def wsX0_look : List Cond := .code yX0_look cX0_look 2 (some .int) :: ((wsX0_look_r1 ++ wsX0_look_r2) ++ wsX00)
def wsX1_init : List Cond := .code yX1_init cX1_init 1 none :: ([.methodLink RX1 1 objectInit, .instanceMethod objectInit, .code objectInit ⟨#[0xb1]⟩ 1 none, .arrayClass .int, .fieldLink RX1 7 "BoardModel" "squares" "[I", .fieldLink RX1 13 "BoardModel" "passing" "I", .fieldLink RX1 17 "BoardModel" "full" "I", .fieldLink RX1 20 "BoardModel" "moves" "[I", .constant RX1 23 (38400), .arrayClass .byte, .fieldLink RX1 24 "BoardModel" "kept" "[B", .fieldLink RX1 28 "BoardModel" "states" "[I"] ++ wsX10)
def wsX1_thrown : List Cond := .code yX1_thrown cX1_thrown 1 (some .int) :: ([.fieldLink RX1 31 "BoardModel" "thrown" "I"] ++ wsX10)
def wsX1_isSquare : List Cond := .code yX1_isSquare cX1_isSquare 1 (some .boolean) :: ([])
def wsX1_sideOf : List Cond := .code yX1_sideOf cX1_sideOf 1 (some .int) :: ([])
def wsX1_kindOf : List Cond := .code yX1_kindOf cX1_kindOf 1 (some .int) :: ([])
def wsX1_apart : List Cond := .code yX1_apart cX1_apart 2 (some .int) :: ([])
def wsX1_clear : List Cond := .code yX1_clear cX1_clear 2 none :: ([.fieldLink RX1 31 "BoardModel" "thrown" "I", .fieldLink RX1 7 "BoardModel" "squares" "[I", .fieldLink RX1 34 "BoardModel" "side" "I", .fieldLink RX1 37 "BoardModel" "rights" "I", .fieldLink RX1 13 "BoardModel" "passing" "I", .fieldLink RX1 40 "BoardModel" "half" "I", .fieldLink RX1 17 "BoardModel" "full" "I", .fieldLink RX1 43 "BoardModel" "made" "I"] ++ wsX10)
def wsX1_home : List Cond := .code yX1_home cX1_home 1 (some .int) :: ([])
def wsX1_begin : List Cond := .code yX1_begin cX1_begin 2 none :: ([.fieldLink RX1 7 "BoardModel" "squares" "[I", .fieldLink RX1 37 "BoardModel" "rights" "I", .methodLink RX1 46 yX1_clear, .instanceMethod yX1_clear, .selects RX1 yX1_clear yX1_clear, .initialized RX1, .code yX1_clear cX1_clear 2 none, .fieldLink RX1 31 "BoardModel" "thrown" "I", .fieldLink RX1 34 "BoardModel" "side" "I", .fieldLink RX1 13 "BoardModel" "passing" "I", .fieldLink RX1 40 "BoardModel" "half" "I", .fieldLink RX1 17 "BoardModel" "full" "I", .fieldLink RX1 43 "BoardModel" "made" "I", .methodLink RX1 49 yX1_home, .static yX1_home, .code yX1_home cX1_home 1 (some .int)] ++ wsX10)
def wsX1_pieces : List Cond := .code yX1_pieces cX1_pieces 3 (some .int) :: ([.fieldLink RX1 7 "BoardModel" "squares" "[I"] ++ wsX10)
def wsX1_put : List Cond := .code yX1_put cX1_put 3 none :: ([.fieldLink RX1 31 "BoardModel" "thrown" "I", .fieldLink RX1 7 "BoardModel" "squares" "[I", .fieldLink RX1 43 "BoardModel" "made" "I", .methodLink RX1 53 yX1_isSquare, .static yX1_isSquare, .initialized RX1, .code yX1_isSquare cX1_isSquare 1 (some .boolean), .methodLink RX1 57 yX1_pieces, .instanceMethod yX1_pieces, .selects RX1 yX1_pieces yX1_pieces, .code yX1_pieces cX1_pieces 3 (some .int)] ++ wsX10)
def wsX1_state : List Cond := .code yX1_state cX1_state 4 none :: ([.fieldLink RX1 31 "BoardModel" "thrown" "I", .fieldLink RX1 34 "BoardModel" "side" "I", .fieldLink RX1 37 "BoardModel" "rights" "I", .fieldLink RX1 13 "BoardModel" "passing" "I", .fieldLink RX1 43 "BoardModel" "made" "I"] ++ wsX10)
def wsX1_clocks : List Cond := .code yX1_clocks cX1_clocks 3 none :: ([.fieldLink RX1 31 "BoardModel" "thrown" "I", .fieldLink RX1 40 "BoardModel" "half" "I", .fieldLink RX1 17 "BoardModel" "full" "I", .fieldLink RX1 43 "BoardModel" "made" "I"] ++ wsX10)
def wsX1_isFree : List Cond := .code yX1_isFree cX1_isFree 7 (some .boolean) :: ([.fieldLink RX1 7 "BoardModel" "squares" "[I"] ++ wsX10)
def wsX1_attacks : List Cond := .code yX1_attacks cX1_attacks 8 (some .boolean) :: ([.fieldLink RX1 7 "BoardModel" "squares" "[I", .methodLink RX1 61 yX1_kindOf, .static yX1_kindOf, .initialized RX1, .code yX1_kindOf cX1_kindOf 1 (some .int), .methodLink RX1 64 yX1_apart, .static yX1_apart, .code yX1_apart cX1_apart 2 (some .int), .methodLink RX1 68 yX1_sideOf, .static yX1_sideOf, .code yX1_sideOf cX1_sideOf 1 (some .int), .methodLink RX1 71 yX1_isFree, .instanceMethod yX1_isFree, .selects RX1 yX1_isFree yX1_isFree, .code yX1_isFree cX1_isFree 7 (some .boolean)] ++ wsX10)
def wsX1_isAttacked : List Cond := .code yX1_isAttacked cX1_isAttacked 5 (some .boolean) :: ([.fieldLink RX1 7 "BoardModel" "squares" "[I", .methodLink RX1 68 yX1_sideOf, .static yX1_sideOf, .initialized RX1, .code yX1_sideOf cX1_sideOf 1 (some .int), .methodLink RX1 75 yX1_attacks, .instanceMethod yX1_attacks, .selects RX1 yX1_attacks yX1_attacks, .code yX1_attacks cX1_attacks 8 (some .boolean), .methodLink RX1 61 yX1_kindOf, .static yX1_kindOf, .code yX1_kindOf cX1_kindOf 1 (some .int), .methodLink RX1 64 yX1_apart, .static yX1_apart, .code yX1_apart cX1_apart 2 (some .int), .methodLink RX1 71 yX1_isFree, .instanceMethod yX1_isFree, .selects RX1 yX1_isFree yX1_isFree, .code yX1_isFree cX1_isFree 7 (some .boolean)] ++ wsX10)
def wsX1_attackers : List Cond := .code yX1_attackers cX1_attackers 6 (some .long) :: ([.fieldLink RX1 31 "BoardModel" "thrown" "I", .fieldLink RX1 7 "BoardModel" "squares" "[I", .methodLink RX1 53 yX1_isSquare, .static yX1_isSquare, .initialized RX1, .code yX1_isSquare cX1_isSquare 1 (some .boolean), .methodLink RX1 68 yX1_sideOf, .static yX1_sideOf, .code yX1_sideOf cX1_sideOf 1 (some .int), .methodLink RX1 75 yX1_attacks, .instanceMethod yX1_attacks, .selects RX1 yX1_attacks yX1_attacks, .code yX1_attacks cX1_attacks 8 (some .boolean), .methodLink RX1 61 yX1_kindOf, .static yX1_kindOf, .code yX1_kindOf cX1_kindOf 1 (some .int), .methodLink RX1 64 yX1_apart, .static yX1_apart, .code yX1_apart cX1_apart 2 (some .int), .methodLink RX1 71 yX1_isFree, .instanceMethod yX1_isFree, .selects RX1 yX1_isFree yX1_isFree, .code yX1_isFree cX1_isFree 7 (some .boolean)] ++ wsX10)
def wsX1_check : List Cond := .code yX1_check cX1_check 4 (some .boolean) :: ([.fieldLink RX1 31 "BoardModel" "thrown" "I", .fieldLink RX1 7 "BoardModel" "squares" "[I", .methodLink RX1 78 yX1_isAttacked, .instanceMethod yX1_isAttacked, .selects RX1 yX1_isAttacked yX1_isAttacked, .initialized RX1, .code yX1_isAttacked cX1_isAttacked 5 (some .boolean), .methodLink RX1 68 yX1_sideOf, .static yX1_sideOf, .code yX1_sideOf cX1_sideOf 1 (some .int), .methodLink RX1 75 yX1_attacks, .instanceMethod yX1_attacks, .selects RX1 yX1_attacks yX1_attacks, .code yX1_attacks cX1_attacks 8 (some .boolean), .methodLink RX1 61 yX1_kindOf, .static yX1_kindOf, .code yX1_kindOf cX1_kindOf 1 (some .int), .methodLink RX1 64 yX1_apart, .static yX1_apart, .code yX1_apart cX1_apart 2 (some .int), .methodLink RX1 71 yX1_isFree, .instanceMethod yX1_isFree, .selects RX1 yX1_isFree yX1_isFree, .code yX1_isFree cX1_isFree 7 (some .boolean)] ++ wsX10)
def wsX1_castles : List Cond := .code yX1_castles cX1_castles 7 (some .boolean) :: ([.fieldLink RX1 34 "BoardModel" "side" "I", .fieldLink RX1 37 "BoardModel" "rights" "I", .fieldLink RX1 7 "BoardModel" "squares" "[I", .methodLink RX1 71 yX1_isFree, .instanceMethod yX1_isFree, .selects RX1 yX1_isFree yX1_isFree, .initialized RX1, .code yX1_isFree cX1_isFree 7 (some .boolean)] ++ wsX10)
def wsX1_takesPassing : List Cond := .code yX1_takesPassing cX1_takesPassing 4 (some .boolean) :: ([.fieldLink RX1 34 "BoardModel" "side" "I", .fieldLink RX1 13 "BoardModel" "passing" "I", .fieldLink RX1 7 "BoardModel" "squares" "[I", .methodLink RX1 75 yX1_attacks, .instanceMethod yX1_attacks, .selects RX1 yX1_attacks yX1_attacks, .initialized RX1, .code yX1_attacks cX1_attacks 8 (some .boolean), .methodLink RX1 61 yX1_kindOf, .static yX1_kindOf, .code yX1_kindOf cX1_kindOf 1 (some .int), .methodLink RX1 64 yX1_apart, .static yX1_apart, .code yX1_apart cX1_apart 2 (some .int), .methodLink RX1 68 yX1_sideOf, .static yX1_sideOf, .code yX1_sideOf cX1_sideOf 1 (some .int), .methodLink RX1 71 yX1_isFree, .instanceMethod yX1_isFree, .selects RX1 yX1_isFree yX1_isFree, .code yX1_isFree cX1_isFree 7 (some .boolean), .methodLink RX1 53 yX1_isSquare, .static yX1_isSquare, .code yX1_isSquare cX1_isSquare 1 (some .boolean)] ++ wsX10)
def wsX1_pawnGoes_r1 : List Cond := [Cond.fieldLink RX1 34 "BoardModel" "side" "I", Cond.fieldLink RX1 7 "BoardModel" "squares" "[I", Cond.methodLink RX1 75 yX1_attacks, Cond.instanceMethod yX1_attacks, Cond.selects RX1 yX1_attacks yX1_attacks, Cond.initialized RX1, Cond.code yX1_attacks cX1_attacks 8 (some .boolean), Cond.methodLink RX1 61 yX1_kindOf, Cond.static yX1_kindOf, Cond.code yX1_kindOf cX1_kindOf 1 (some .int), Cond.methodLink RX1 64 yX1_apart, Cond.static yX1_apart, Cond.code yX1_apart cX1_apart 2 (some .int), Cond.methodLink RX1 68 yX1_sideOf, Cond.static yX1_sideOf, Cond.code yX1_sideOf cX1_sideOf 1 (some .int), Cond.methodLink RX1 71 yX1_isFree, Cond.instanceMethod yX1_isFree, Cond.selects RX1 yX1_isFree yX1_isFree, Cond.code yX1_isFree cX1_isFree 7 (some .boolean), Cond.methodLink RX1 81 yX1_takesPassing, Cond.instanceMethod yX1_takesPassing, Cond.selects RX1 yX1_takesPassing yX1_takesPassing, Cond.code yX1_takesPassing cX1_takesPassing 4 (some .boolean)]
def wsX1_pawnGoes_r2 : List Cond := [Cond.fieldLink RX1 13 "BoardModel" "passing" "I", Cond.methodLink RX1 53 yX1_isSquare, Cond.static yX1_isSquare, Cond.code yX1_isSquare cX1_isSquare 1 (some .boolean)]
def wsX1_pawnGoes : List Cond := .code yX1_pawnGoes cX1_pawnGoes 4 (some .boolean) :: ((wsX1_pawnGoes_r1 ++ wsX1_pawnGoes_r2) ++ wsX10)
def wsX1_isMove_r1 : List Cond := [Cond.fieldLink RX1 7 "BoardModel" "squares" "[I", Cond.fieldLink RX1 34 "BoardModel" "side" "I", Cond.methodLink RX1 61 yX1_kindOf, Cond.static yX1_kindOf, Cond.initialized RX1, Cond.code yX1_kindOf cX1_kindOf 1 (some .int), Cond.methodLink RX1 68 yX1_sideOf, Cond.static yX1_sideOf, Cond.code yX1_sideOf cX1_sideOf 1 (some .int), Cond.methodLink RX1 84 yX1_pawnGoes, Cond.instanceMethod yX1_pawnGoes, Cond.selects RX1 yX1_pawnGoes yX1_pawnGoes, Cond.code yX1_pawnGoes cX1_pawnGoes 4 (some .boolean), Cond.methodLink RX1 75 yX1_attacks, Cond.instanceMethod yX1_attacks, Cond.selects RX1 yX1_attacks yX1_attacks, Cond.code yX1_attacks cX1_attacks 8 (some .boolean), Cond.methodLink RX1 64 yX1_apart, Cond.static yX1_apart, Cond.code yX1_apart cX1_apart 2 (some .int), Cond.methodLink RX1 71 yX1_isFree, Cond.instanceMethod yX1_isFree, Cond.selects RX1 yX1_isFree yX1_isFree, Cond.code yX1_isFree cX1_isFree 7 (some .boolean)]
def wsX1_isMove_r2 : List Cond := [Cond.methodLink RX1 81 yX1_takesPassing, Cond.instanceMethod yX1_takesPassing, Cond.selects RX1 yX1_takesPassing yX1_takesPassing, Cond.code yX1_takesPassing cX1_takesPassing 4 (some .boolean), Cond.fieldLink RX1 13 "BoardModel" "passing" "I", Cond.methodLink RX1 53 yX1_isSquare, Cond.static yX1_isSquare, Cond.code yX1_isSquare cX1_isSquare 1 (some .boolean), Cond.methodLink RX1 87 yX1_castles, Cond.instanceMethod yX1_castles, Cond.selects RX1 yX1_castles yX1_castles, Cond.code yX1_castles cX1_castles 7 (some .boolean), Cond.fieldLink RX1 37 "BoardModel" "rights" "I"]
def wsX1_isMove : List Cond := .code yX1_isMove cX1_isMove 6 (some .boolean) :: ((wsX1_isMove_r1 ++ wsX1_isMove_r2) ++ wsX10)
def wsX1_fits_r1 : List Cond := [Cond.fieldLink RX1 31 "BoardModel" "thrown" "I", Cond.methodLink RX1 90 yX1_isMove, Cond.instanceMethod yX1_isMove, Cond.selects RX1 yX1_isMove yX1_isMove, Cond.initialized RX1, Cond.code yX1_isMove cX1_isMove 6 (some .boolean), Cond.fieldLink RX1 7 "BoardModel" "squares" "[I", Cond.fieldLink RX1 34 "BoardModel" "side" "I", Cond.methodLink RX1 61 yX1_kindOf, Cond.static yX1_kindOf, Cond.code yX1_kindOf cX1_kindOf 1 (some .int), Cond.methodLink RX1 68 yX1_sideOf, Cond.static yX1_sideOf, Cond.code yX1_sideOf cX1_sideOf 1 (some .int), Cond.methodLink RX1 84 yX1_pawnGoes, Cond.instanceMethod yX1_pawnGoes, Cond.selects RX1 yX1_pawnGoes yX1_pawnGoes, Cond.code yX1_pawnGoes cX1_pawnGoes 4 (some .boolean), Cond.methodLink RX1 75 yX1_attacks, Cond.instanceMethod yX1_attacks, Cond.selects RX1 yX1_attacks yX1_attacks, Cond.code yX1_attacks cX1_attacks 8 (some .boolean), Cond.methodLink RX1 64 yX1_apart, Cond.static yX1_apart]
def wsX1_fits_r2 : List Cond := [Cond.code yX1_apart cX1_apart 2 (some .int), Cond.methodLink RX1 71 yX1_isFree, Cond.instanceMethod yX1_isFree, Cond.selects RX1 yX1_isFree yX1_isFree, Cond.code yX1_isFree cX1_isFree 7 (some .boolean), Cond.methodLink RX1 81 yX1_takesPassing, Cond.instanceMethod yX1_takesPassing, Cond.selects RX1 yX1_takesPassing yX1_takesPassing, Cond.code yX1_takesPassing cX1_takesPassing 4 (some .boolean), Cond.fieldLink RX1 13 "BoardModel" "passing" "I", Cond.methodLink RX1 53 yX1_isSquare, Cond.static yX1_isSquare, Cond.code yX1_isSquare cX1_isSquare 1 (some .boolean), Cond.methodLink RX1 87 yX1_castles, Cond.instanceMethod yX1_castles, Cond.selects RX1 yX1_castles yX1_castles, Cond.code yX1_castles cX1_castles 7 (some .boolean), Cond.fieldLink RX1 37 "BoardModel" "rights" "I"]
def wsX1_fits : List Cond := .code yX1_fits cX1_fits 2 (some .boolean) :: ((wsX1_fits_r1 ++ wsX1_fits_r2) ++ wsX10)
def wsX1_keep : List Cond := .code yX1_keep cX1_keep 3 none :: ([.fieldLink RX1 24 "BoardModel" "kept" "[B", .fieldLink RX1 43 "BoardModel" "made" "I", .fieldLink RX1 7 "BoardModel" "squares" "[I", .fieldLink RX1 28 "BoardModel" "states" "[I", .fieldLink RX1 34 "BoardModel" "side" "I", .fieldLink RX1 37 "BoardModel" "rights" "I", .fieldLink RX1 13 "BoardModel" "passing" "I", .fieldLink RX1 40 "BoardModel" "half" "I", .fieldLink RX1 17 "BoardModel" "full" "I", .fieldLink RX1 20 "BoardModel" "moves" "[I"] ++ wsX10)
def wsX1_corner : List Cond := .code yX1_corner cX1_corner 1 (some .int) :: ([])
def wsX1_pawnAttacks : List Cond := .code yX1_pawnAttacks cX1_pawnAttacks 5 (some .boolean) :: ([.fieldLink RX1 7 "BoardModel" "squares" "[I", .methodLink RX1 75 yX1_attacks, .instanceMethod yX1_attacks, .selects RX1 yX1_attacks yX1_attacks, .initialized RX1, .code yX1_attacks cX1_attacks 8 (some .boolean), .methodLink RX1 61 yX1_kindOf, .static yX1_kindOf, .code yX1_kindOf cX1_kindOf 1 (some .int), .methodLink RX1 64 yX1_apart, .static yX1_apart, .code yX1_apart cX1_apart 2 (some .int), .methodLink RX1 68 yX1_sideOf, .static yX1_sideOf, .code yX1_sideOf cX1_sideOf 1 (some .int), .methodLink RX1 71 yX1_isFree, .instanceMethod yX1_isFree, .selects RX1 yX1_isFree yX1_isFree, .code yX1_isFree cX1_isFree 7 (some .boolean)] ++ wsX10)
def wsX1_make_r1 : List Cond := [Cond.fieldLink RX1 43 "BoardModel" "made" "I", Cond.fieldLink RX1 31 "BoardModel" "thrown" "I", Cond.fieldLink RX1 7 "BoardModel" "squares" "[I", Cond.fieldLink RX1 34 "BoardModel" "side" "I", Cond.fieldLink RX1 37 "BoardModel" "rights" "I", Cond.fieldLink RX1 13 "BoardModel" "passing" "I", Cond.fieldLink RX1 40 "BoardModel" "half" "I", Cond.fieldLink RX1 17 "BoardModel" "full" "I", Cond.methodLink RX1 90 yX1_isMove, Cond.instanceMethod yX1_isMove, Cond.selects RX1 yX1_isMove yX1_isMove, Cond.initialized RX1, Cond.code yX1_isMove cX1_isMove 6 (some .boolean), Cond.methodLink RX1 61 yX1_kindOf, Cond.static yX1_kindOf, Cond.code yX1_kindOf cX1_kindOf 1 (some .int), Cond.methodLink RX1 68 yX1_sideOf, Cond.static yX1_sideOf, Cond.code yX1_sideOf cX1_sideOf 1 (some .int), Cond.methodLink RX1 84 yX1_pawnGoes, Cond.instanceMethod yX1_pawnGoes, Cond.selects RX1 yX1_pawnGoes yX1_pawnGoes, Cond.code yX1_pawnGoes cX1_pawnGoes 4 (some .boolean), Cond.methodLink RX1 75 yX1_attacks]
def wsX1_make_r2 : List Cond := [Cond.instanceMethod yX1_attacks, Cond.selects RX1 yX1_attacks yX1_attacks, Cond.code yX1_attacks cX1_attacks 8 (some .boolean), Cond.methodLink RX1 64 yX1_apart, Cond.static yX1_apart, Cond.code yX1_apart cX1_apart 2 (some .int), Cond.methodLink RX1 71 yX1_isFree, Cond.instanceMethod yX1_isFree, Cond.selects RX1 yX1_isFree yX1_isFree, Cond.code yX1_isFree cX1_isFree 7 (some .boolean), Cond.methodLink RX1 81 yX1_takesPassing, Cond.instanceMethod yX1_takesPassing, Cond.selects RX1 yX1_takesPassing yX1_takesPassing, Cond.code yX1_takesPassing cX1_takesPassing 4 (some .boolean), Cond.methodLink RX1 53 yX1_isSquare, Cond.static yX1_isSquare, Cond.code yX1_isSquare cX1_isSquare 1 (some .boolean), Cond.methodLink RX1 87 yX1_castles, Cond.instanceMethod yX1_castles, Cond.selects RX1 yX1_castles yX1_castles, Cond.code yX1_castles cX1_castles 7 (some .boolean), Cond.methodLink RX1 93 yX1_keep, Cond.instanceMethod yX1_keep, Cond.selects RX1 yX1_keep yX1_keep]
def wsX1_make_r3 : List Cond := [Cond.code yX1_keep cX1_keep 3 none, Cond.fieldLink RX1 24 "BoardModel" "kept" "[B", Cond.fieldLink RX1 28 "BoardModel" "states" "[I", Cond.fieldLink RX1 20 "BoardModel" "moves" "[I", Cond.methodLink RX1 97 yX1_corner, Cond.static yX1_corner, Cond.code yX1_corner cX1_corner 1 (some .int), Cond.methodLink RX1 100 yX1_pawnAttacks, Cond.instanceMethod yX1_pawnAttacks, Cond.selects RX1 yX1_pawnAttacks yX1_pawnAttacks, Cond.code yX1_pawnAttacks cX1_pawnAttacks 5 (some .boolean)]
def wsX1_make : List Cond := .code yX1_make cX1_make 12 (some .int) :: ((wsX1_make_r1 ++ (wsX1_make_r2 ++ wsX1_make_r3)) ++ wsX10)
def wsX1_unmake : List Cond := .code yX1_unmake cX1_unmake 2 (some .int) :: ([.fieldLink RX1 43 "BoardModel" "made" "I", .fieldLink RX1 31 "BoardModel" "thrown" "I", .fieldLink RX1 7 "BoardModel" "squares" "[I", .fieldLink RX1 24 "BoardModel" "kept" "[B", .fieldLink RX1 28 "BoardModel" "states" "[I", .fieldLink RX1 34 "BoardModel" "side" "I", .fieldLink RX1 37 "BoardModel" "rights" "I", .fieldLink RX1 13 "BoardModel" "passing" "I", .fieldLink RX1 40 "BoardModel" "half" "I", .fieldLink RX1 17 "BoardModel" "full" "I", .fieldLink RX1 20 "BoardModel" "moves" "[I"] ++ wsX10)
def wsX1_at : List Cond := .code yX1_at cX1_at 2 (some .int) :: ([.fieldLink RX1 31 "BoardModel" "thrown" "I", .fieldLink RX1 7 "BoardModel" "squares" "[I", .methodLink RX1 53 yX1_isSquare, .static yX1_isSquare, .initialized RX1, .code yX1_isSquare cX1_isSquare 1 (some .boolean)] ++ wsX10)
def wsX1_where : List Cond := .code yX1_where cX1_where 5 (some .long) :: ([.fieldLink RX1 31 "BoardModel" "thrown" "I", .fieldLink RX1 7 "BoardModel" "squares" "[I"] ++ wsX10)
def wsX1_mixed : List Cond := .code yX1_mixed cX1_mixed 4 (some .long) :: ([.constantLong RX1 103 (-7046029254386353131), .constantLong RX1 105 (-4658895280553007687), .constantLong RX1 107 (-7723592293110705685)])
def wsX1_key : List Cond := .code yX1_key cX1_key 4 (some .long) :: ([.fieldLink RX1 31 "BoardModel" "thrown" "I", .constantLong RX1 109 (900), .fieldLink RX1 37 "BoardModel" "rights" "I", .constantLong RX1 115 (1000), .fieldLink RX1 13 "BoardModel" "passing" "I", .fieldLink RX1 7 "BoardModel" "squares" "[I", .constantLong RX1 117 (64), .fieldLink RX1 34 "BoardModel" "side" "I", .constantLong RX1 119 (2000), .methodLink RX1 111 yX1_mixed, .static yX1_mixed, .initialized RX1, .code yX1_mixed cX1_mixed 4 (some .long), .constantLong RX1 103 (-7046029254386353131), .constantLong RX1 105 (-4658895280553007687), .constantLong RX1 107 (-7723592293110705685)] ++ wsX10)
def wsX1_move : List Cond := .code yX1_move cX1_move 2 (some .int) :: ([.fieldLink RX1 31 "BoardModel" "thrown" "I", .fieldLink RX1 43 "BoardModel" "made" "I", .fieldLink RX1 20 "BoardModel" "moves" "[I"] ++ wsX10)
def wsX1_material : List Cond := .code yX1_material cX1_material 5 (some .int) :: ([.fieldLink RX1 7 "BoardModel" "squares" "[I", .methodLink RX1 68 yX1_sideOf, .static yX1_sideOf, .initialized RX1, .code yX1_sideOf cX1_sideOf 1 (some .int), .methodLink RX1 61 yX1_kindOf, .static yX1_kindOf, .code yX1_kindOf cX1_kindOf 1 (some .int)] ++ wsX10)
def wsX1_look : List Cond := .code yX1_look cX1_look 2 (some .int) :: ([.fieldLink RX1 31 "BoardModel" "thrown" "I", .fieldLink RX1 34 "BoardModel" "side" "I", .fieldLink RX1 37 "BoardModel" "rights" "I", .fieldLink RX1 13 "BoardModel" "passing" "I", .fieldLink RX1 40 "BoardModel" "half" "I", .fieldLink RX1 17 "BoardModel" "full" "I", .fieldLink RX1 43 "BoardModel" "made" "I", .methodLink RX1 57 yX1_pieces, .instanceMethod yX1_pieces, .selects RX1 yX1_pieces yX1_pieces, .initialized RX1, .code yX1_pieces cX1_pieces 3 (some .int), .fieldLink RX1 7 "BoardModel" "squares" "[I", .methodLink RX1 121 yX1_material, .instanceMethod yX1_material, .selects RX1 yX1_material yX1_material, .code yX1_material cX1_material 5 (some .int), .methodLink RX1 68 yX1_sideOf, .static yX1_sideOf, .code yX1_sideOf cX1_sideOf 1 (some .int), .methodLink RX1 61 yX1_kindOf, .static yX1_kindOf, .code yX1_kindOf cX1_kindOf 1 (some .int)] ++ wsX10)
def wsJ9_abs_0f7a4 : List Cond := .code yJ9_abs_0f7a4 cJ9_abs_0f7a4 1 (some .int) :: ([])
def wsJ9_max_7cf53 : List Cond := .code yJ9_max_7cf53 cJ9_max_7cf53 2 (some .int) :: ([])
def wsL_put_r1 : List Cond := [Cond.classLink RL 13 "java/lang/IndexOutOfBoundsException", Cond.classLink RL 15 "java/lang/IllegalArgumentException", Cond.classLink RL 17 "java/lang/IllegalStateException", Cond.methodLink RL 7 yX0_put, Cond.instanceMethod yX0_put, Cond.selects RX0 yX0_put yX0_put, Cond.initialized RX0, Cond.code yX0_put cX0_put 3 none, Cond.classLink RX0 49 "java/lang/IndexOutOfBoundsException", Cond.initialized "java/lang/IndexOutOfBoundsException", Cond.classLink RX0 56 "java/lang/IllegalArgumentException", Cond.initialized "java/lang/IllegalArgumentException", Cond.classLink RX0 65 "java/lang/IllegalStateException", Cond.initialized "java/lang/IllegalStateException", Cond.fieldLink RX0 9 "Board" "board" "[I", Cond.methodLink RX0 45 yX0_isSquare, Cond.static yX0_isSquare, Cond.code yX0_isSquare cX0_isSquare 1 (some .boolean), Cond.methodLink RX0 61 yX0_piecesOnBoard, Cond.instanceMethod yX0_piecesOnBoard, Cond.selects RX0 yX0_piecesOnBoard yX0_piecesOnBoard, Cond.code yX0_piecesOnBoard cX0_piecesOnBoard 1 (some .int), Cond.methodLink RX0 176 yX0_where, Cond.instanceMethod yX0_where]
def wsL_put_r2 : List Cond := [Cond.selects RX0 yX0_where yX0_where, Cond.code yX0_where cX0_where 5 (some .long), Cond.methodLink RX0 180 yJ13_bitCount_95d88, Cond.static yJ13_bitCount_95d88, Cond.initialized RJ13, Cond.code yJ13_bitCount_95d88 cJ13_bitCount_95d88 2 (some .int), Cond.constantLong RJ13 314 (6148914691236517205), Cond.constantLong RJ13 316 (3689348814741910323), Cond.constantLong RJ13 318 (1085102592571150095), Cond.methodLink RX0 70 yX0_forgetMoves, Cond.instanceMethod yX0_forgetMoves, Cond.selects RX0 yX0_forgetMoves yX0_forgetMoves, Cond.code yX0_forgetMoves cX0_forgetMoves 1 none, Cond.fieldLink RX0 127 "Board" "made" "I"]
def wsL_put : List Cond := .codeWith yL_put cL_put 4 (some .int) [(0, 6, 9, 13), (0, 6, 12, 15), (0, 6, 15, 17)] :: ((wsL_put_r1 ++ wsL_put_r2) ++ wsX00 ++ (vx_atS RX0 53 "java/lang/IndexOutOfBoundsException" ["java/lang/RuntimeException", "java/lang/Exception"]).filter goodWord ++ (vx_atS RX0 60 "java/lang/IllegalArgumentException" ["java/lang/RuntimeException", "java/lang/Exception"]).filter goodWord ++ (vx_atS RX0 69 "java/lang/IllegalStateException" ["java/lang/RuntimeException", "java/lang/Exception"]).filter goodWord)
def wsL_state : List Cond := .codeWith yL_state cL_state 5 (some .int) [(0, 7, 10, 15)] :: ([.classLink RL 15 "java/lang/IllegalArgumentException", .methodLink RL 19 yX0_state, .instanceMethod yX0_state, .selects RX0 yX0_state yX0_state, .initialized RX0, .code yX0_state cX0_state 4 none, .classLink RX0 56 "java/lang/IllegalArgumentException", .initialized "java/lang/IllegalArgumentException", .fieldLink RX0 82 "Board" "side" "I", .fieldLink RX0 41 "Board" "rights" "I", .fieldLink RX0 85 "Board" "passing" "I", .methodLink RX0 73 yX0_isSide, .static yX0_isSide, .code yX0_isSide cX0_isSide 1 (some .boolean), .methodLink RX0 45 yX0_isSquare, .static yX0_isSquare, .code yX0_isSquare cX0_isSquare 1 (some .boolean), .methodLink RX0 70 yX0_forgetMoves, .instanceMethod yX0_forgetMoves, .selects RX0 yX0_forgetMoves yX0_forgetMoves, .code yX0_forgetMoves cX0_forgetMoves 1 none, .fieldLink RX0 127 "Board" "made" "I"] ++ wsX00 ++ (vx_atS RX0 60 "java/lang/IllegalArgumentException" ["java/lang/RuntimeException", "java/lang/Exception"]).filter goodWord)
def wsL_clocks : List Cond := .codeWith yL_clocks cL_clocks 4 (some .int) [(0, 6, 9, 15)] :: ([.classLink RL 15 "java/lang/IllegalArgumentException", .methodLink RL 23 yX0_clocks, .instanceMethod yX0_clocks, .selects RX0 yX0_clocks yX0_clocks, .initialized RX0, .code yX0_clocks cX0_clocks 3 none, .classLink RX0 56 "java/lang/IllegalArgumentException", .initialized "java/lang/IllegalArgumentException", .fieldLink RX0 92 "Board" "half" "I", .fieldLink RX0 95 "Board" "full" "I", .methodLink RX0 70 yX0_forgetMoves, .instanceMethod yX0_forgetMoves, .selects RX0 yX0_forgetMoves yX0_forgetMoves, .code yX0_forgetMoves cX0_forgetMoves 1 none, .fieldLink RX0 127 "Board" "made" "I"] ++ wsX00 ++ (vx_atS RX0 60 "java/lang/IllegalArgumentException" ["java/lang/RuntimeException", "java/lang/Exception"]).filter goodWord)
def wsL_make_r1 : List Cond := [Cond.classLink RL 15 "java/lang/IllegalArgumentException", Cond.classLink RL 17 "java/lang/IllegalStateException", Cond.methodLink RL 26 yX0_make, Cond.instanceMethod yX0_make, Cond.selects RX0 yX0_make yX0_make, Cond.initialized RX0, Cond.code yX0_make cX0_make 7 (some .int), Cond.classLink RX0 56 "java/lang/IllegalArgumentException", Cond.initialized "java/lang/IllegalArgumentException", Cond.classLink RX0 65 "java/lang/IllegalStateException", Cond.initialized "java/lang/IllegalStateException", Cond.fieldLink RX0 127 "Board" "made" "I", Cond.fieldLink RX0 9 "Board" "board" "[I", Cond.fieldLink RX0 41 "Board" "rights" "I", Cond.fieldLink RX0 85 "Board" "passing" "I", Cond.fieldLink RX0 92 "Board" "half" "I", Cond.fieldLink RX0 82 "Board" "side" "I", Cond.fieldLink RX0 95 "Board" "full" "I", Cond.methodLink RX0 122 yX0_fits, Cond.instanceMethod yX0_fits, Cond.selects RX0 yX0_fits yX0_fits, Cond.code yX0_fits cX0_fits 4 (some .boolean), Cond.methodLink RX0 98 yX0_fromOf, Cond.static yX0_fromOf]
def wsL_make_r2 : List Cond := [Cond.code yX0_fromOf cX0_fromOf 1 (some .int), Cond.methodLink RX0 102 yX0_toOf, Cond.static yX0_toOf, Cond.code yX0_toOf cX0_toOf 1 (some .int), Cond.methodLink RX0 105 yX0_sideOf, Cond.static yX0_sideOf, Cond.code yX0_sideOf cX0_sideOf 1 (some .int), Cond.methodLink RX0 108 yX0_typeOf, Cond.static yX0_typeOf, Cond.code yX0_typeOf cX0_typeOf 1 (some .int), Cond.methodLink RX0 111 yX0_kindOf, Cond.static yX0_kindOf, Cond.code yX0_kindOf cX0_kindOf 1 (some .int), Cond.methodLink RX0 114 yX0_becomesWhatItMay, Cond.static yX0_becomesWhatItMay, Cond.code yX0_becomesWhatItMay cX0_becomesWhatItMay 4 (some .boolean), Cond.methodLink RX0 189 yX0_rankOf, Cond.static yX0_rankOf, Cond.code yX0_rankOf cX0_rankOf 1 (some .int), Cond.methodLink RX0 192 yX0_lastRankOf, Cond.static yX0_lastRankOf, Cond.code yX0_lastRankOf cX0_lastRankOf 1 (some .int), Cond.methodLink RX0 118 yX0_goes, Cond.instanceMethod yX0_goes]
def wsL_make_r3 : List Cond := [Cond.selects RX0 yX0_goes yX0_goes, Cond.code yX0_goes cX0_goes 3 (some .boolean), Cond.methodLink RX0 195 yX0_pawnSteps, Cond.instanceMethod yX0_pawnSteps, Cond.selects RX0 yX0_pawnSteps yX0_pawnSteps, Cond.code yX0_pawnSteps cX0_pawnSteps 5 (some .boolean), Cond.methodLink RX0 204 yX0_onward, Cond.static yX0_onward, Cond.code yX0_onward cX0_onward 1 (some .int), Cond.methodLink RX0 207 yX0_isFree, Cond.instanceMethod yX0_isFree, Cond.selects RX0 yX0_isFree yX0_isFree, Cond.code yX0_isFree cX0_isFree 2 (some .boolean), Cond.methodLink RX0 45 yX0_isSquare, Cond.static yX0_isSquare, Cond.code yX0_isSquare cX0_isSquare 1 (some .boolean), Cond.methodLink RX0 210 yX0_secondRankOf, Cond.static yX0_secondRankOf, Cond.code yX0_secondRankOf cX0_secondRankOf 1 (some .int), Cond.methodLink RX0 198 yX0_pawnTakes, Cond.instanceMethod yX0_pawnTakes, Cond.selects RX0 yX0_pawnTakes yX0_pawnTakes, Cond.code yX0_pawnTakes cX0_pawnTakes 3 (some .boolean), Cond.methodLink RX0 213 yX0_pawnAttacks]
def wsL_make_r4 : List Cond := [Cond.static yX0_pawnAttacks, Cond.code yX0_pawnAttacks cX0_pawnAttacks 3 (some .boolean), Cond.methodLink RX0 240 Lib.Math.abs.name, Cond.static Lib.Math.abs.name, Cond.initialized "java/lang/Math", Cond.code Lib.Math.abs.name Lib.Math.abs.code 1 (some .int), Cond.methodLink RX0 237 yX0_fileOf, Cond.static yX0_fileOf, Cond.code yX0_fileOf cX0_fileOf 1 (some .int), Cond.methodLink RX0 152 yX0_otherThan, Cond.static yX0_otherThan, Cond.code yX0_otherThan cX0_otherThan 1 (some .int), Cond.methodLink RX0 216 yX0_canBeTakenInPassing, Cond.instanceMethod yX0_canBeTakenInPassing, Cond.selects RX0 yX0_canBeTakenInPassing yX0_canBeTakenInPassing, Cond.code yX0_canBeTakenInPassing cX0_canBeTakenInPassing 2 (some .boolean), Cond.methodLink RX0 219 yX0_squareBehind, Cond.instanceMethod yX0_squareBehind, Cond.selects RX0 yX0_squareBehind yX0_squareBehind, Cond.code yX0_squareBehind cX0_squareBehind 2 (some .int), Cond.methodLink RX0 37 yX0_pieceOf, Cond.static yX0_pieceOf, Cond.code yX0_pieceOf cX0_pieceOf 2 (some .int), Cond.methodLink RX0 222 yX0_holds]
def wsL_make_r5 : List Cond := [Cond.instanceMethod yX0_holds, Cond.selects RX0 yX0_holds yX0_holds, Cond.code yX0_holds cX0_holds 3 (some .boolean), Cond.methodLink RX0 160 yX0_attacks, Cond.instanceMethod yX0_attacks, Cond.selects RX0 yX0_attacks yX0_attacks, Cond.code yX0_attacks cX0_attacks 8 (some .boolean), Cond.methodLink RX0 234 yX0_isOpen, Cond.instanceMethod yX0_isOpen, Cond.selects RX0 yX0_isOpen yX0_isOpen, Cond.code yX0_isOpen cX0_isOpen 8 (some .boolean), Cond.methodLink RX0 250 Lib.Math.max.name, Cond.static Lib.Math.max.name, Cond.code Lib.Math.max.name Lib.Math.max.code 2 (some .int), Cond.methodLink RX0 245 yJ6_compare_7cf53, Cond.static yJ6_compare_7cf53, Cond.initialized RJ6, Cond.code yJ6_compare_7cf53 cJ6_compare_7cf53 2 (some .int), Cond.methodLink RX0 201 yX0_castles, Cond.instanceMethod yX0_castles, Cond.selects RX0 yX0_castles yX0_castles, Cond.code yX0_castles cX0_castles 4 (some .boolean), Cond.methodLink RX0 225 yX0_homeOfKing, Cond.static yX0_homeOfKing]
def wsL_make_r6 : List Cond := [Cond.code yX0_homeOfKing cX0_homeOfKing 1 (some .int), Cond.methodLink RX0 228 yX0_isTwoFilesAway, Cond.static yX0_isTwoFilesAway, Cond.code yX0_isTwoFilesAway cX0_isTwoFilesAway 2 (some .boolean), Cond.methodLink RX0 231 yX0_cornerBeyond, Cond.static yX0_cornerBeyond, Cond.code yX0_cornerBeyond cX0_cornerBeyond 2 (some .int), Cond.methodLink RX0 146 yX0_rightOfCorner, Cond.static yX0_rightOfCorner, Cond.code yX0_rightOfCorner cX0_rightOfCorner 1 (some .int), Cond.methodLink RX0 132 yX0_squareTaken, Cond.instanceMethod yX0_squareTaken, Cond.selects RX0 yX0_squareTaken yX0_squareTaken, Cond.code yX0_squareTaken cX0_squareTaken 4 (some .int), Cond.methodLink RX0 135 yX0_remember, Cond.instanceMethod yX0_remember, Cond.selects RX0 yX0_remember yX0_remember, Cond.code yX0_remember cX0_remember 4 none, Cond.fieldLink RX0 13 "Board" "moves" "[I", Cond.fieldLink RX0 16 "Board" "takenPieces" "[I", Cond.fieldLink RX0 19 "Board" "takenSquares" "[I", Cond.fieldLink RX0 22 "Board" "rightsBefore" "[I", Cond.fieldLink RX0 25 "Board" "passingBefore" "[I", Cond.fieldLink RX0 28 "Board" "halfBefore" "[I"]
def wsL_make_r7 : List Cond := [Cond.methodLink RX0 139 yX0_carryOver, Cond.instanceMethod yX0_carryOver, Cond.selects RX0 yX0_carryOver yX0_carryOver, Cond.code yX0_carryOver cX0_carryOver 7 none, Cond.methodLink RX0 253 yX0_isCastling, Cond.static yX0_isCastling, Cond.code yX0_isCastling cX0_isCastling 3 (some .boolean), Cond.methodLink RX0 256 yX0_shift, Cond.instanceMethod yX0_shift, Cond.selects RX0 yX0_shift yX0_shift, Cond.code yX0_shift cX0_shift 3 none, Cond.methodLink RX0 143 yX0_rightsOfKing, Cond.static yX0_rightsOfKing, Cond.code yX0_rightsOfKing cX0_rightsOfKing 1 (some .int), Cond.methodLink RX0 149 yX0_passingBehind, Cond.instanceMethod yX0_passingBehind, Cond.selects RX0 yX0_passingBehind yX0_passingBehind, Cond.code yX0_passingBehind cX0_passingBehind 6 (some .int)]
def wsL_make : List Cond := .codeWith yL_make cL_make 4 (some .int) [(0, 9, 12, 15), (0, 9, 15, 17)] :: ((wsL_make_r1 ++ (wsL_make_r2 ++ (wsL_make_r3 ++ (wsL_make_r4 ++ (wsL_make_r5 ++ (wsL_make_r6 ++ wsL_make_r7)))))) ++ wsX00 ++ (vx_atS RX0 60 "java/lang/IllegalArgumentException" ["java/lang/RuntimeException", "java/lang/Exception"]).filter goodWord ++ (vx_atS RX0 69 "java/lang/IllegalStateException" ["java/lang/RuntimeException", "java/lang/Exception"]).filter goodWord)
def wsL_unmake_r1 : List Cond := [Cond.classLink RL 17 "java/lang/IllegalStateException", Cond.methodLink RL 30 yX0_unmake, Cond.instanceMethod yX0_unmake, Cond.selects RX0 yX0_unmake yX0_unmake, Cond.initialized RX0, Cond.code yX0_unmake cX0_unmake 2 (some .int), Cond.classLink RX0 65 "java/lang/IllegalStateException", Cond.initialized "java/lang/IllegalStateException", Cond.fieldLink RX0 127 "Board" "made" "I", Cond.fieldLink RX0 13 "Board" "moves" "[I", Cond.fieldLink RX0 22 "Board" "rightsBefore" "[I", Cond.fieldLink RX0 41 "Board" "rights" "I", Cond.fieldLink RX0 25 "Board" "passingBefore" "[I", Cond.fieldLink RX0 85 "Board" "passing" "I", Cond.fieldLink RX0 28 "Board" "halfBefore" "[I", Cond.fieldLink RX0 92 "Board" "half" "I", Cond.fieldLink RX0 82 "Board" "side" "I", Cond.fieldLink RX0 95 "Board" "full" "I", Cond.fieldLink RX0 16 "Board" "takenPieces" "[I", Cond.fieldLink RX0 19 "Board" "takenSquares" "[I", Cond.methodLink RX0 152 yX0_otherThan, Cond.static yX0_otherThan, Cond.code yX0_otherThan cX0_otherThan 1 (some .int), Cond.methodLink RX0 157 yX0_carryBack]
def wsL_unmake_r2 : List Cond := [Cond.instanceMethod yX0_carryBack, Cond.selects RX0 yX0_carryBack yX0_carryBack, Cond.code yX0_carryBack cX0_carryBack 7 none, Cond.fieldLink RX0 9 "Board" "board" "[I", Cond.methodLink RX0 98 yX0_fromOf, Cond.static yX0_fromOf, Cond.code yX0_fromOf cX0_fromOf 1 (some .int), Cond.methodLink RX0 102 yX0_toOf, Cond.static yX0_toOf, Cond.code yX0_toOf cX0_toOf 1 (some .int), Cond.methodLink RX0 111 yX0_kindOf, Cond.static yX0_kindOf, Cond.code yX0_kindOf cX0_kindOf 1 (some .int), Cond.methodLink RX0 37 yX0_pieceOf, Cond.static yX0_pieceOf, Cond.code yX0_pieceOf cX0_pieceOf 2 (some .int), Cond.methodLink RX0 253 yX0_isCastling, Cond.static yX0_isCastling, Cond.code yX0_isCastling cX0_isCastling 3 (some .boolean), Cond.methodLink RX0 108 yX0_typeOf, Cond.static yX0_typeOf, Cond.code yX0_typeOf cX0_typeOf 1 (some .int), Cond.methodLink RX0 228 yX0_isTwoFilesAway, Cond.static yX0_isTwoFilesAway]
def wsL_unmake_r3 : List Cond := [Cond.code yX0_isTwoFilesAway cX0_isTwoFilesAway 2 (some .boolean), Cond.methodLink RX0 240 Lib.Math.abs.name, Cond.static Lib.Math.abs.name, Cond.initialized "java/lang/Math", Cond.code Lib.Math.abs.name Lib.Math.abs.code 1 (some .int), Cond.methodLink RX0 189 yX0_rankOf, Cond.static yX0_rankOf, Cond.code yX0_rankOf cX0_rankOf 1 (some .int), Cond.methodLink RX0 231 yX0_cornerBeyond, Cond.static yX0_cornerBeyond, Cond.code yX0_cornerBeyond cX0_cornerBeyond 2 (some .int), Cond.methodLink RX0 256 yX0_shift, Cond.instanceMethod yX0_shift, Cond.selects RX0 yX0_shift yX0_shift, Cond.code yX0_shift cX0_shift 3 none, Cond.methodLink RX0 45 yX0_isSquare, Cond.static yX0_isSquare, Cond.code yX0_isSquare cX0_isSquare 1 (some .boolean)]
def wsL_unmake : List Cond := .codeWith yL_unmake cL_unmake 3 (some .int) [(0, 8, 11, 17)] :: ((wsL_unmake_r1 ++ (wsL_unmake_r2 ++ wsL_unmake_r3)) ++ wsX00 ++ (vx_atS RX0 69 "java/lang/IllegalStateException" ["java/lang/RuntimeException", "java/lang/Exception"]).filter goodWord)
def wsL_at : List Cond := .codeWith yL_at cL_at 4 (some .int) [(0, 9, 12, 13)] :: ([.classLink RL 13 "java/lang/IndexOutOfBoundsException", .methodLink RL 34 yX0_at, .instanceMethod yX0_at, .selects RX0 yX0_at yX0_at, .initialized RX0, .code yX0_at cX0_at 2 (some .int), .classLink RX0 49 "java/lang/IndexOutOfBoundsException", .initialized "java/lang/IndexOutOfBoundsException", .fieldLink RX0 9 "Board" "board" "[I", .methodLink RX0 45 yX0_isSquare, .static yX0_isSquare, .code yX0_isSquare cX0_isSquare 1 (some .boolean)] ++ wsX00 ++ (vx_atS RX0 53 "java/lang/IndexOutOfBoundsException" ["java/lang/RuntimeException", "java/lang/Exception"]).filter goodWord)
def wsL_attackers_r1 : List Cond := [Cond.classLink RL 13 "java/lang/IndexOutOfBoundsException", Cond.classLink RL 15 "java/lang/IllegalArgumentException", Cond.methodLink RL 37 yX0_attackers, Cond.instanceMethod yX0_attackers, Cond.selects RX0 yX0_attackers yX0_attackers, Cond.initialized RX0, Cond.code yX0_attackers cX0_attackers 6 (some .long), Cond.classLink RX0 49 "java/lang/IndexOutOfBoundsException", Cond.initialized "java/lang/IndexOutOfBoundsException", Cond.classLink RX0 56 "java/lang/IllegalArgumentException", Cond.initialized "java/lang/IllegalArgumentException", Cond.fieldLink RX0 9 "Board" "board" "[I", Cond.methodLink RX0 45 yX0_isSquare, Cond.static yX0_isSquare, Cond.code yX0_isSquare cX0_isSquare 1 (some .boolean), Cond.methodLink RX0 73 yX0_isSide, Cond.static yX0_isSide, Cond.code yX0_isSide cX0_isSide 1 (some .boolean), Cond.methodLink RX0 105 yX0_sideOf, Cond.static yX0_sideOf, Cond.code yX0_sideOf cX0_sideOf 1 (some .int), Cond.methodLink RX0 160 yX0_attacks, Cond.instanceMethod yX0_attacks, Cond.selects RX0 yX0_attacks yX0_attacks]
def wsL_attackers_r2 : List Cond := [Cond.code yX0_attacks cX0_attacks 8 (some .boolean), Cond.methodLink RX0 240 Lib.Math.abs.name, Cond.static Lib.Math.abs.name, Cond.initialized "java/lang/Math", Cond.code Lib.Math.abs.name Lib.Math.abs.code 1 (some .int), Cond.methodLink RX0 237 yX0_fileOf, Cond.static yX0_fileOf, Cond.code yX0_fileOf cX0_fileOf 1 (some .int), Cond.methodLink RX0 189 yX0_rankOf, Cond.static yX0_rankOf, Cond.code yX0_rankOf cX0_rankOf 1 (some .int), Cond.methodLink RX0 108 yX0_typeOf, Cond.static yX0_typeOf, Cond.code yX0_typeOf cX0_typeOf 1 (some .int), Cond.methodLink RX0 213 yX0_pawnAttacks, Cond.static yX0_pawnAttacks, Cond.code yX0_pawnAttacks cX0_pawnAttacks 3 (some .boolean), Cond.methodLink RX0 204 yX0_onward, Cond.static yX0_onward, Cond.code yX0_onward cX0_onward 1 (some .int), Cond.methodLink RX0 234 yX0_isOpen, Cond.instanceMethod yX0_isOpen, Cond.selects RX0 yX0_isOpen yX0_isOpen, Cond.code yX0_isOpen cX0_isOpen 8 (some .boolean)]
def wsL_attackers_r3 : List Cond := [Cond.methodLink RX0 250 Lib.Math.max.name, Cond.static Lib.Math.max.name, Cond.code Lib.Math.max.name Lib.Math.max.code 2 (some .int), Cond.methodLink RX0 245 yJ6_compare_7cf53, Cond.static yJ6_compare_7cf53, Cond.initialized RJ6, Cond.code yJ6_compare_7cf53 cJ6_compare_7cf53 2 (some .int), Cond.methodLink RX0 207 yX0_isFree, Cond.instanceMethod yX0_isFree, Cond.selects RX0 yX0_isFree yX0_isFree, Cond.code yX0_isFree cX0_isFree 2 (some .boolean)]
def wsL_attackers : List Cond := .codeWith yL_attackers cL_attackers 5 (some .int) [(0, 9, 12, 13), (0, 9, 16, 15)] :: ((wsL_attackers_r1 ++ (wsL_attackers_r2 ++ wsL_attackers_r3)) ++ wsX00 ++ (vx_atS RX0 53 "java/lang/IndexOutOfBoundsException" ["java/lang/RuntimeException", "java/lang/Exception"]).filter goodWord ++ (vx_atS RX0 60 "java/lang/IllegalArgumentException" ["java/lang/RuntimeException", "java/lang/Exception"]).filter goodWord)
def wsL_law0_r1 : List Cond := [Cond.classLink RL 8 RX0, Cond.instantiable RX0 13, Cond.initialized RX0, Cond.classLink RL 42 RX1, Cond.instantiable RX1 11, Cond.initialized RX1, Cond.arrayClass .long, Cond.methodLink RL 41 yX0_init, Cond.instanceMethod yX0_init, Cond.code yX0_init cX0_init 1 none, Cond.methodLink RX0 1 objectInit, Cond.instanceMethod objectInit, Cond.code objectInit ⟨#[0xb1]⟩ 1 none, Cond.arrayClass .int, Cond.fieldLink RX0 9 "Board" "board" "[I", Cond.fieldLink RX0 13 "Board" "moves" "[I", Cond.fieldLink RX0 16 "Board" "takenPieces" "[I", Cond.fieldLink RX0 19 "Board" "takenSquares" "[I", Cond.fieldLink RX0 22 "Board" "rightsBefore" "[I", Cond.fieldLink RX0 25 "Board" "passingBefore" "[I", Cond.fieldLink RX0 28 "Board" "halfBefore" "[I", Cond.methodLink RX0 31 yX0_setAllAsAtFirst, Cond.instanceMethod yX0_setAllAsAtFirst, Cond.selects RX0 yX0_setAllAsAtFirst yX0_setAllAsAtFirst]
def wsL_law0_r2 : List Cond := [Cond.code yX0_setAllAsAtFirst cX0_setAllAsAtFirst 2 none, Cond.fieldLink RX0 82 "Board" "side" "I", Cond.fieldLink RX0 41 "Board" "rights" "I", Cond.fieldLink RX0 85 "Board" "passing" "I", Cond.fieldLink RX0 92 "Board" "half" "I", Cond.fieldLink RX0 95 "Board" "full" "I", Cond.methodLink RX0 70 yX0_forgetMoves, Cond.instanceMethod yX0_forgetMoves, Cond.selects RX0 yX0_forgetMoves yX0_forgetMoves, Cond.code yX0_forgetMoves cX0_forgetMoves 1 none, Cond.fieldLink RX0 127 "Board" "made" "I", Cond.methodLink RL 44 yX1_init, Cond.instanceMethod yX1_init, Cond.code yX1_init cX1_init 1 none, Cond.methodLink RX1 1 objectInit, Cond.fieldLink RX1 7 "BoardModel" "squares" "[I", Cond.fieldLink RX1 13 "BoardModel" "passing" "I", Cond.fieldLink RX1 17 "BoardModel" "full" "I", Cond.fieldLink RX1 20 "BoardModel" "moves" "[I", Cond.constant RX1 23 (38400), Cond.arrayClass .byte, Cond.fieldLink RX1 24 "BoardModel" "kept" "[B", Cond.fieldLink RX1 28 "BoardModel" "states" "[I", Cond.methodLink RL 45 yX0_clear]
def wsL_law0_r3 : List Cond := [Cond.instanceMethod yX0_clear, Cond.selects RX0 yX0_clear yX0_clear, Cond.code yX0_clear cX0_clear 1 none, Cond.methodLink RL 48 yX1_clear, Cond.instanceMethod yX1_clear, Cond.selects RX1 yX1_clear yX1_clear, Cond.code yX1_clear cX1_clear 2 none, Cond.fieldLink RX1 31 "BoardModel" "thrown" "I", Cond.fieldLink RX1 34 "BoardModel" "side" "I", Cond.fieldLink RX1 37 "BoardModel" "rights" "I", Cond.fieldLink RX1 40 "BoardModel" "half" "I", Cond.fieldLink RX1 43 "BoardModel" "made" "I", Cond.methodLink RL 49 yX0_begin, Cond.instanceMethod yX0_begin, Cond.selects RX0 yX0_begin yX0_begin, Cond.code yX0_begin cX0_begin 2 none, Cond.fieldLink RX0 34 "Board" "FIRST_RANK" "[I", Cond.methodLink RX0 37 yX0_pieceOf, Cond.static yX0_pieceOf, Cond.code yX0_pieceOf cX0_pieceOf 2 (some .int), Cond.methodLink RL 52 yX1_begin, Cond.instanceMethod yX1_begin, Cond.selects RX1 yX1_begin yX1_begin, Cond.code yX1_begin cX1_begin 2 none]
def wsL_law0_r4 : List Cond := [Cond.methodLink RX1 46 yX1_clear, Cond.methodLink RX1 49 yX1_home, Cond.static yX1_home, Cond.code yX1_home cX1_home 1 (some .int), Cond.methodLink RL 53 yL_put, Cond.static yL_put, Cond.initialized RL, Cond.codeWith yL_put cL_put 4 (some .int) [(0, 6, 9, 13), (0, 6, 12, 15), (0, 6, 15, 17)], Cond.classLink RL 13 "java/lang/IndexOutOfBoundsException", Cond.classLink RL 15 "java/lang/IllegalArgumentException", Cond.classLink RL 17 "java/lang/IllegalStateException", Cond.methodLink RL 7 yX0_put, Cond.instanceMethod yX0_put, Cond.selects RX0 yX0_put yX0_put, Cond.code yX0_put cX0_put 3 none, Cond.classLink RX0 49 "java/lang/IndexOutOfBoundsException", Cond.initialized "java/lang/IndexOutOfBoundsException", Cond.classLink RX0 56 "java/lang/IllegalArgumentException", Cond.initialized "java/lang/IllegalArgumentException", Cond.classLink RX0 65 "java/lang/IllegalStateException", Cond.initialized "java/lang/IllegalStateException", Cond.methodLink RX0 45 yX0_isSquare, Cond.static yX0_isSquare, Cond.code yX0_isSquare cX0_isSquare 1 (some .boolean)]
def wsL_law0_r5 : List Cond := [Cond.methodLink RX0 61 yX0_piecesOnBoard, Cond.instanceMethod yX0_piecesOnBoard, Cond.selects RX0 yX0_piecesOnBoard yX0_piecesOnBoard, Cond.code yX0_piecesOnBoard cX0_piecesOnBoard 1 (some .int), Cond.methodLink RX0 176 yX0_where, Cond.instanceMethod yX0_where, Cond.selects RX0 yX0_where yX0_where, Cond.code yX0_where cX0_where 5 (some .long), Cond.methodLink RX0 180 yJ13_bitCount_95d88, Cond.static yJ13_bitCount_95d88, Cond.initialized RJ13, Cond.code yJ13_bitCount_95d88 cJ13_bitCount_95d88 2 (some .int), Cond.constantLong RJ13 314 (6148914691236517205), Cond.constantLong RJ13 316 (3689348814741910323), Cond.constantLong RJ13 318 (1085102592571150095), Cond.methodLink RL 58 yX1_put, Cond.instanceMethod yX1_put, Cond.selects RX1 yX1_put yX1_put, Cond.code yX1_put cX1_put 3 none, Cond.methodLink RX1 53 yX1_isSquare, Cond.static yX1_isSquare, Cond.code yX1_isSquare cX1_isSquare 1 (some .boolean), Cond.methodLink RX1 57 yX1_pieces, Cond.instanceMethod yX1_pieces]
def wsL_law0_r6 : List Cond := [Cond.selects RX1 yX1_pieces yX1_pieces, Cond.code yX1_pieces cX1_pieces 3 (some .int), Cond.methodLink RL 59 yX1_thrown, Cond.instanceMethod yX1_thrown, Cond.selects RX1 yX1_thrown yX1_thrown, Cond.code yX1_thrown cX1_thrown 1 (some .int), Cond.methodLink RL 62 yL_state, Cond.static yL_state, Cond.codeWith yL_state cL_state 5 (some .int) [(0, 7, 10, 15)], Cond.methodLink RL 19 yX0_state, Cond.instanceMethod yX0_state, Cond.selects RX0 yX0_state yX0_state, Cond.code yX0_state cX0_state 4 none, Cond.methodLink RX0 73 yX0_isSide, Cond.static yX0_isSide, Cond.code yX0_isSide cX0_isSide 1 (some .boolean), Cond.methodLink RL 65 yX1_state, Cond.instanceMethod yX1_state, Cond.selects RX1 yX1_state yX1_state, Cond.code yX1_state cX1_state 4 none, Cond.methodLink RL 66 yL_clocks, Cond.static yL_clocks, Cond.codeWith yL_clocks cL_clocks 4 (some .int) [(0, 6, 9, 15)], Cond.methodLink RL 23 yX0_clocks]
def wsL_law0_r7 : List Cond := [Cond.instanceMethod yX0_clocks, Cond.selects RX0 yX0_clocks yX0_clocks, Cond.code yX0_clocks cX0_clocks 3 none, Cond.methodLink RL 68 yX1_clocks, Cond.instanceMethod yX1_clocks, Cond.selects RX1 yX1_clocks yX1_clocks, Cond.code yX1_clocks cX1_clocks 3 none, Cond.methodLink RL 69 yX0_fits, Cond.instanceMethod yX0_fits, Cond.selects RX0 yX0_fits yX0_fits, Cond.code yX0_fits cX0_fits 4 (some .boolean), Cond.methodLink RX0 98 yX0_fromOf, Cond.static yX0_fromOf, Cond.code yX0_fromOf cX0_fromOf 1 (some .int), Cond.methodLink RX0 102 yX0_toOf, Cond.static yX0_toOf, Cond.code yX0_toOf cX0_toOf 1 (some .int), Cond.methodLink RX0 105 yX0_sideOf, Cond.static yX0_sideOf, Cond.code yX0_sideOf cX0_sideOf 1 (some .int), Cond.methodLink RX0 108 yX0_typeOf, Cond.static yX0_typeOf, Cond.code yX0_typeOf cX0_typeOf 1 (some .int), Cond.methodLink RX0 111 yX0_kindOf]
def wsL_law0_r8 : List Cond := [Cond.static yX0_kindOf, Cond.code yX0_kindOf cX0_kindOf 1 (some .int), Cond.methodLink RX0 114 yX0_becomesWhatItMay, Cond.static yX0_becomesWhatItMay, Cond.code yX0_becomesWhatItMay cX0_becomesWhatItMay 4 (some .boolean), Cond.methodLink RX0 189 yX0_rankOf, Cond.static yX0_rankOf, Cond.code yX0_rankOf cX0_rankOf 1 (some .int), Cond.methodLink RX0 192 yX0_lastRankOf, Cond.static yX0_lastRankOf, Cond.code yX0_lastRankOf cX0_lastRankOf 1 (some .int), Cond.methodLink RX0 118 yX0_goes, Cond.instanceMethod yX0_goes, Cond.selects RX0 yX0_goes yX0_goes, Cond.code yX0_goes cX0_goes 3 (some .boolean), Cond.methodLink RX0 195 yX0_pawnSteps, Cond.instanceMethod yX0_pawnSteps, Cond.selects RX0 yX0_pawnSteps yX0_pawnSteps, Cond.code yX0_pawnSteps cX0_pawnSteps 5 (some .boolean), Cond.methodLink RX0 204 yX0_onward, Cond.static yX0_onward, Cond.code yX0_onward cX0_onward 1 (some .int), Cond.methodLink RX0 207 yX0_isFree, Cond.instanceMethod yX0_isFree]
end
section
def wsL_law0_r9 : List Cond := [Cond.selects RX0 yX0_isFree yX0_isFree, Cond.code yX0_isFree cX0_isFree 2 (some .boolean), Cond.methodLink RX0 210 yX0_secondRankOf, Cond.static yX0_secondRankOf, Cond.code yX0_secondRankOf cX0_secondRankOf 1 (some .int), Cond.methodLink RX0 198 yX0_pawnTakes, Cond.instanceMethod yX0_pawnTakes, Cond.selects RX0 yX0_pawnTakes yX0_pawnTakes, Cond.code yX0_pawnTakes cX0_pawnTakes 3 (some .boolean), Cond.methodLink RX0 213 yX0_pawnAttacks, Cond.static yX0_pawnAttacks, Cond.code yX0_pawnAttacks cX0_pawnAttacks 3 (some .boolean), Cond.methodLink RX0 240 Lib.Math.abs.name, Cond.static Lib.Math.abs.name, Cond.initialized "java/lang/Math", Cond.code Lib.Math.abs.name Lib.Math.abs.code 1 (some .int), Cond.methodLink RX0 237 yX0_fileOf, Cond.static yX0_fileOf, Cond.code yX0_fileOf cX0_fileOf 1 (some .int), Cond.methodLink RX0 152 yX0_otherThan, Cond.static yX0_otherThan, Cond.code yX0_otherThan cX0_otherThan 1 (some .int), Cond.methodLink RX0 216 yX0_canBeTakenInPassing, Cond.instanceMethod yX0_canBeTakenInPassing]
def wsL_law0_r10 : List Cond := [Cond.selects RX0 yX0_canBeTakenInPassing yX0_canBeTakenInPassing, Cond.code yX0_canBeTakenInPassing cX0_canBeTakenInPassing 2 (some .boolean), Cond.methodLink RX0 219 yX0_squareBehind, Cond.instanceMethod yX0_squareBehind, Cond.selects RX0 yX0_squareBehind yX0_squareBehind, Cond.code yX0_squareBehind cX0_squareBehind 2 (some .int), Cond.methodLink RX0 222 yX0_holds, Cond.instanceMethod yX0_holds, Cond.selects RX0 yX0_holds yX0_holds, Cond.code yX0_holds cX0_holds 3 (some .boolean), Cond.methodLink RX0 160 yX0_attacks, Cond.instanceMethod yX0_attacks, Cond.selects RX0 yX0_attacks yX0_attacks, Cond.code yX0_attacks cX0_attacks 8 (some .boolean), Cond.methodLink RX0 234 yX0_isOpen, Cond.instanceMethod yX0_isOpen, Cond.selects RX0 yX0_isOpen yX0_isOpen, Cond.code yX0_isOpen cX0_isOpen 8 (some .boolean), Cond.methodLink RX0 250 Lib.Math.max.name, Cond.static Lib.Math.max.name, Cond.code Lib.Math.max.name Lib.Math.max.code 2 (some .int), Cond.methodLink RX0 245 yJ6_compare_7cf53, Cond.static yJ6_compare_7cf53, Cond.initialized RJ6]
def wsL_law0_r11 : List Cond := [Cond.code yJ6_compare_7cf53 cJ6_compare_7cf53 2 (some .int), Cond.methodLink RX0 201 yX0_castles, Cond.instanceMethod yX0_castles, Cond.selects RX0 yX0_castles yX0_castles, Cond.code yX0_castles cX0_castles 4 (some .boolean), Cond.methodLink RX0 225 yX0_homeOfKing, Cond.static yX0_homeOfKing, Cond.code yX0_homeOfKing cX0_homeOfKing 1 (some .int), Cond.methodLink RX0 228 yX0_isTwoFilesAway, Cond.static yX0_isTwoFilesAway, Cond.code yX0_isTwoFilesAway cX0_isTwoFilesAway 2 (some .boolean), Cond.methodLink RX0 231 yX0_cornerBeyond, Cond.static yX0_cornerBeyond, Cond.code yX0_cornerBeyond cX0_cornerBeyond 2 (some .int), Cond.methodLink RX0 146 yX0_rightOfCorner, Cond.static yX0_rightOfCorner, Cond.code yX0_rightOfCorner cX0_rightOfCorner 1 (some .int), Cond.methodLink RL 73 yX1_fits, Cond.instanceMethod yX1_fits, Cond.selects RX1 yX1_fits yX1_fits, Cond.code yX1_fits cX1_fits 2 (some .boolean), Cond.methodLink RX1 90 yX1_isMove, Cond.instanceMethod yX1_isMove, Cond.selects RX1 yX1_isMove yX1_isMove]
def wsL_law0_r12 : List Cond := [Cond.code yX1_isMove cX1_isMove 6 (some .boolean), Cond.methodLink RX1 61 yX1_kindOf, Cond.static yX1_kindOf, Cond.code yX1_kindOf cX1_kindOf 1 (some .int), Cond.methodLink RX1 68 yX1_sideOf, Cond.static yX1_sideOf, Cond.code yX1_sideOf cX1_sideOf 1 (some .int), Cond.methodLink RX1 84 yX1_pawnGoes, Cond.instanceMethod yX1_pawnGoes, Cond.selects RX1 yX1_pawnGoes yX1_pawnGoes, Cond.code yX1_pawnGoes cX1_pawnGoes 4 (some .boolean), Cond.methodLink RX1 75 yX1_attacks, Cond.instanceMethod yX1_attacks, Cond.selects RX1 yX1_attacks yX1_attacks, Cond.code yX1_attacks cX1_attacks 8 (some .boolean), Cond.methodLink RX1 64 yX1_apart, Cond.static yX1_apart, Cond.code yX1_apart cX1_apart 2 (some .int), Cond.methodLink RX1 71 yX1_isFree, Cond.instanceMethod yX1_isFree, Cond.selects RX1 yX1_isFree yX1_isFree, Cond.code yX1_isFree cX1_isFree 7 (some .boolean), Cond.methodLink RX1 81 yX1_takesPassing, Cond.instanceMethod yX1_takesPassing]
def wsL_law0_r13 : List Cond := [Cond.selects RX1 yX1_takesPassing yX1_takesPassing, Cond.code yX1_takesPassing cX1_takesPassing 4 (some .boolean), Cond.methodLink RX1 87 yX1_castles, Cond.instanceMethod yX1_castles, Cond.selects RX1 yX1_castles yX1_castles, Cond.code yX1_castles cX1_castles 7 (some .boolean), Cond.methodLink RL 74 yL_make, Cond.static yL_make, Cond.codeWith yL_make cL_make 4 (some .int) [(0, 9, 12, 15), (0, 9, 15, 17)], Cond.methodLink RL 26 yX0_make, Cond.instanceMethod yX0_make, Cond.selects RX0 yX0_make yX0_make, Cond.code yX0_make cX0_make 7 (some .int), Cond.methodLink RX0 122 yX0_fits, Cond.methodLink RX0 132 yX0_squareTaken, Cond.instanceMethod yX0_squareTaken, Cond.selects RX0 yX0_squareTaken yX0_squareTaken, Cond.code yX0_squareTaken cX0_squareTaken 4 (some .int), Cond.methodLink RX0 135 yX0_remember, Cond.instanceMethod yX0_remember, Cond.selects RX0 yX0_remember yX0_remember, Cond.code yX0_remember cX0_remember 4 none, Cond.methodLink RX0 139 yX0_carryOver, Cond.instanceMethod yX0_carryOver]
def wsL_law0_r14 : List Cond := [Cond.selects RX0 yX0_carryOver yX0_carryOver, Cond.code yX0_carryOver cX0_carryOver 7 none, Cond.methodLink RX0 253 yX0_isCastling, Cond.static yX0_isCastling, Cond.code yX0_isCastling cX0_isCastling 3 (some .boolean), Cond.methodLink RX0 256 yX0_shift, Cond.instanceMethod yX0_shift, Cond.selects RX0 yX0_shift yX0_shift, Cond.code yX0_shift cX0_shift 3 none, Cond.methodLink RX0 143 yX0_rightsOfKing, Cond.static yX0_rightsOfKing, Cond.code yX0_rightsOfKing cX0_rightsOfKing 1 (some .int), Cond.methodLink RX0 149 yX0_passingBehind, Cond.instanceMethod yX0_passingBehind, Cond.selects RX0 yX0_passingBehind yX0_passingBehind, Cond.code yX0_passingBehind cX0_passingBehind 6 (some .int), Cond.methodLink RL 77 yX1_make, Cond.instanceMethod yX1_make, Cond.selects RX1 yX1_make yX1_make, Cond.code yX1_make cX1_make 12 (some .int), Cond.methodLink RX1 93 yX1_keep, Cond.instanceMethod yX1_keep, Cond.selects RX1 yX1_keep yX1_keep, Cond.code yX1_keep cX1_keep 3 none]
def wsL_law0_r15 : List Cond := [Cond.methodLink RX1 97 yX1_corner, Cond.static yX1_corner, Cond.code yX1_corner cX1_corner 1 (some .int), Cond.methodLink RX1 100 yX1_pawnAttacks, Cond.instanceMethod yX1_pawnAttacks, Cond.selects RX1 yX1_pawnAttacks yX1_pawnAttacks, Cond.code yX1_pawnAttacks cX1_pawnAttacks 5 (some .boolean), Cond.methodLink RL 78 yL_unmake, Cond.static yL_unmake, Cond.codeWith yL_unmake cL_unmake 3 (some .int) [(0, 8, 11, 17)], Cond.methodLink RL 30 yX0_unmake, Cond.instanceMethod yX0_unmake, Cond.selects RX0 yX0_unmake yX0_unmake, Cond.code yX0_unmake cX0_unmake 2 (some .int), Cond.methodLink RX0 157 yX0_carryBack, Cond.instanceMethod yX0_carryBack, Cond.selects RX0 yX0_carryBack yX0_carryBack, Cond.code yX0_carryBack cX0_carryBack 7 none, Cond.methodLink RL 81 yX1_unmake, Cond.instanceMethod yX1_unmake, Cond.selects RX1 yX1_unmake yX1_unmake, Cond.code yX1_unmake cX1_unmake 2 (some .int), Cond.methodLink RL 82 yL_at, Cond.static yL_at]
def wsL_law0_r16 : List Cond := [Cond.codeWith yL_at cL_at 4 (some .int) [(0, 9, 12, 13)], Cond.methodLink RL 34 yX0_at, Cond.instanceMethod yX0_at, Cond.selects RX0 yX0_at yX0_at, Cond.code yX0_at cX0_at 2 (some .int), Cond.methodLink RL 84 yX1_at, Cond.instanceMethod yX1_at, Cond.selects RX1 yX1_at yX1_at, Cond.code yX1_at cX1_at 2 (some .int), Cond.methodLink RL 85 yX0_where, Cond.methodLink RL 89 yX1_where, Cond.instanceMethod yX1_where, Cond.selects RX1 yX1_where yX1_where, Cond.code yX1_where cX1_where 5 (some .long), Cond.methodLink RL 90 yL_attackers, Cond.static yL_attackers, Cond.codeWith yL_attackers cL_attackers 5 (some .int) [(0, 9, 12, 13), (0, 9, 16, 15)], Cond.methodLink RL 37 yX0_attackers, Cond.instanceMethod yX0_attackers, Cond.selects RX0 yX0_attackers yX0_attackers, Cond.code yX0_attackers cX0_attackers 6 (some .long), Cond.methodLink RL 93 yX1_attackers, Cond.instanceMethod yX1_attackers, Cond.selects RX1 yX1_attackers yX1_attackers]
def wsL_law0_r17 : List Cond := [Cond.code yX1_attackers cX1_attackers 6 (some .long), Cond.methodLink RL 94 yX0_check, Cond.instanceMethod yX0_check, Cond.selects RX0 yX0_check yX0_check, Cond.code yX0_check cX0_check 3 (some .boolean), Cond.methodLink RX0 163 yX0_attackers, Cond.methodLink RL 97 yX1_check, Cond.instanceMethod yX1_check, Cond.selects RX1 yX1_check yX1_check, Cond.code yX1_check cX1_check 4 (some .boolean), Cond.methodLink RX1 78 yX1_isAttacked, Cond.instanceMethod yX1_isAttacked, Cond.selects RX1 yX1_isAttacked yX1_isAttacked, Cond.code yX1_isAttacked cX1_isAttacked 5 (some .boolean), Cond.methodLink RL 98 yX0_key, Cond.instanceMethod yX0_key, Cond.selects RX0 yX0_key yX0_key, Cond.code yX0_key cX0_key 4 (some .long), Cond.constantLong RX0 171 (2000), Cond.methodLink RX0 167 yX0_mixed, Cond.static yX0_mixed, Cond.code yX0_mixed cX0_mixed 2 (some .long), Cond.constantLong RX0 259 (-7046029254386353131), Cond.constantLong RX0 261 (-4658895280553007687)]
def wsL_law0_r18 : List Cond := [Cond.constantLong RX0 263 (-7723592293110705685), Cond.methodLink RL 102 yX1_key, Cond.instanceMethod yX1_key, Cond.selects RX1 yX1_key yX1_key, Cond.code yX1_key cX1_key 4 (some .long), Cond.constantLong RX1 109 (900), Cond.constantLong RX1 115 (1000), Cond.constantLong RX1 117 (64), Cond.constantLong RX1 119 (2000), Cond.methodLink RX1 111 yX1_mixed, Cond.static yX1_mixed, Cond.code yX1_mixed cX1_mixed 4 (some .long), Cond.constantLong RX1 103 (-7046029254386353131), Cond.constantLong RX1 105 (-4658895280553007687), Cond.constantLong RX1 107 (-7723592293110705685), Cond.methodLink RL 103 yX0_move, Cond.instanceMethod yX0_move, Cond.selects RX0 yX0_move yX0_move, Cond.code yX0_move cX0_move 2 (some .int), Cond.methodLink RL 106 yX1_move, Cond.instanceMethod yX1_move, Cond.selects RX1 yX1_move yX1_move, Cond.code yX1_move cX1_move 2 (some .int), Cond.methodLink RL 107 yX0_look]
def wsL_law0_r19 : List Cond := [Cond.instanceMethod yX0_look, Cond.selects RX0 yX0_look yX0_look, Cond.code yX0_look cX0_look 2 (some .int), Cond.methodLink RX0 173 yX0_material, Cond.instanceMethod yX0_material, Cond.selects RX0 yX0_material yX0_material, Cond.code yX0_material cX0_material 4 (some .int), Cond.methodLink RX0 186 yX0_worthOf, Cond.static yX0_worthOf, Cond.code yX0_worthOf cX0_worthOf 1 (some .int), Cond.methodLink RL 110 yX1_look, Cond.instanceMethod yX1_look, Cond.selects RX1 yX1_look yX1_look, Cond.code yX1_look cX1_look 2 (some .int), Cond.methodLink RX1 121 yX1_material, Cond.instanceMethod yX1_material, Cond.selects RX1 yX1_material yX1_material, Cond.code yX1_material cX1_material 5 (some .int)]
def wsL_law0 : List Cond := (wsL_law0_r1 ++ (wsL_law0_r2 ++ (wsL_law0_r3 ++ (wsL_law0_r4 ++ (wsL_law0_r5 ++ (wsL_law0_r6 ++ (wsL_law0_r7 ++ (wsL_law0_r8 ++ (wsL_law0_r9 ++ (wsL_law0_r10 ++ (wsL_law0_r11 ++ (wsL_law0_r12 ++ (wsL_law0_r13 ++ (wsL_law0_r14 ++ (wsL_law0_r15 ++ (wsL_law0_r16 ++ (wsL_law0_r17 ++ (wsL_law0_r18 ++ wsL_law0_r19)))))))))))))))))) ++ wsX00 ++ wsX10 ++ ([] : List Cond)
def wsL_law : List Cond := wsL_law0 ++ (vx_atS RX0 53 "java/lang/IndexOutOfBoundsException" ["java/lang/RuntimeException", "java/lang/Exception"]).filter goodWord ++ (vx_atS RX0 60 "java/lang/IllegalArgumentException" ["java/lang/RuntimeException", "java/lang/Exception"]).filter goodWord ++ (vx_atS RX0 69 "java/lang/IllegalStateException" ["java/lang/RuntimeException", "java/lang/Exception"]).filter goodWord
theorem mem_r {big : List Cond} (ws : List Cond) (ps : List Nat) (hp : ws = ps.filterMap (fun i => big[i]?)) : ∀ w ∈ ws, w ∈ big := fun w hw => by
  rw [hp] at hw
  obtain ⟨i, -, hi⟩ := List.mem_filterMap.mp hw
  exact List.mem_of_getElem? hi
set_option maxRecDepth 20000 in
theorem in_wsL_law0_r1 : ∀ w ∈ wsL_law0_r1, w ∈ lw_tbl := mem_r _ [44, 45, 33, 461, 462, 34, 639, 46, 47, 48, 49, 50, 51, 100, 60, 67, 68, 69, 70, 71, 72, 52, 54, 0] (by decide +kernel)
set_option maxRecDepth 20000 in
theorem in_wsL_law0_r2 : ∀ w ∈ wsL_law0_r2, w ∈ lw_tbl := mem_r _ [55, 61, 62, 63, 64, 65, 56, 58, 1, 59, 66, 463, 464, 465, 466, 469, 472, 474, 476, 467, 303, 477, 478, 101] (by decide +kernel)
set_option maxRecDepth 20000 in
theorem in_wsL_law0_r3 : ∀ w ∈ wsL_law0_r3, w ∈ lw_tbl := mem_r _ [102, 103, 104, 506, 507, 508, 509, 468, 470, 471, 473, 475, 105, 106, 107, 108, 109, 111, 112, 113, 510, 511, 512, 513] (by decide +kernel)
set_option maxRecDepth 20000 in
theorem in_wsL_law0_r4 : ∀ w ∈ wsL_law0_r4, w ∈ lw_tbl := mem_r _ [514, 515, 516, 517, 357, 358, 32, 359, 360, 361, 362, 363, 364, 365, 366, 236, 38, 304, 39, 368, 41, 157, 158, 159] (by decide +kernel)
set_option maxRecDepth 20000 in
theorem in_wsL_law0_r5 : ∀ w ∈ wsL_law0_r5, w ∈ lw_tbl := mem_r _ [339, 341, 13, 342, 343, 222, 223, 224, 344, 345, 40, 346, 347, 348, 349, 518, 519, 520, 521, 522, 523, 524, 525, 527] (by decide +kernel)
set_option maxRecDepth 20000 in
theorem in_wsL_law0_r6 : ∀ w ∈ wsL_law0_r6, w ∈ lw_tbl := mem_r _ [21, 528, 502, 503, 504, 505, 384, 385, 386, 387, 388, 389, 390, 229, 230, 231, 529, 530, 531, 532, 393, 394, 395, 396] (by decide +kernel)
set_option maxRecDepth 20000 in
theorem in_wsL_law0_r7 : ∀ w ∈ wsL_law0_r7, w ∈ lw_tbl := mem_r _ [397, 398, 399, 533, 534, 535, 536, 114, 115, 116, 117, 118, 119, 120, 121, 122, 123, 124, 125, 126, 127, 128, 129, 130] (by decide +kernel)
set_option maxRecDepth 20000 in
theorem in_wsL_law0_r8 : ∀ w ∈ wsL_law0_r8, w ∈ lw_tbl := mem_r _ [131, 132, 133, 134, 135, 136, 137, 138, 139, 140, 141, 142, 144, 2, 145, 146, 148, 3, 149, 150, 151, 152, 153, 155] (by decide +kernel)
set_option maxRecDepth 20000 in
theorem in_wsL_law0_r9 : ∀ w ∈ wsL_law0_r9, w ∈ lw_tbl := mem_r _ [4, 156, 160, 161, 162, 163, 165, 5, 166, 167, 168, 169, 173, 174, 42, 175, 170, 171, 172, 176, 177, 178, 179, 181] (by decide +kernel)
set_option maxRecDepth 20000 in
theorem in_wsL_law0_r10 : ∀ w ∈ wsL_law0_r10, w ∈ lw_tbl := mem_r _ [6, 182, 183, 185, 7, 186, 187, 189, 8, 190, 191, 193, 9, 194, 195, 197, 10, 198, 202, 203, 204, 199, 200, 43] (by decide +kernel)
set_option maxRecDepth 20000 in
theorem in_wsL_law0_r11 : ∀ w ∈ wsL_law0_r11, w ∈ lw_tbl := mem_r _ [201, 205, 207, 11, 208, 209, 210, 211, 212, 213, 214, 215, 216, 217, 218, 219, 220, 566, 567, 568, 569, 570, 572, 25] (by decide +kernel)
set_option maxRecDepth 20000 in
theorem in_wsL_law0_r12 : ∀ w ∈ wsL_law0_r12, w ∈ lw_tbl := mem_r _ [573, 548, 549, 550, 541, 542, 543, 574, 576, 26, 577, 544, 546, 22, 547, 551, 552, 553, 554, 556, 23, 557, 578, 580] (by decide +kernel)
set_option maxRecDepth 20000 in
theorem in_wsL_law0_r13 : ∀ w ∈ wsL_law0_r13, w ∈ lw_tbl := mem_r _ [27, 581, 582, 584, 28, 585, 402, 403, 404, 405, 406, 407, 408, 409, 412, 414, 15, 415, 416, 418, 16, 419, 420, 422] (by decide +kernel)
set_option maxRecDepth 20000 in
theorem in_wsL_law0_r14 : ∀ w ∈ wsL_law0_r14, w ∈ lw_tbl := mem_r _ [17, 423, 424, 425, 426, 427, 429, 18, 430, 431, 432, 433, 434, 436, 19, 437, 586, 587, 588, 589, 590, 592, 29, 593] (by decide +kernel)
set_option maxRecDepth 20000 in
theorem in_wsL_law0_r15 : ∀ w ∈ wsL_law0_r15, w ∈ lw_tbl := mem_r _ [594, 595, 596, 597, 599, 30, 600, 438, 439, 440, 441, 442, 443, 444, 446, 448, 20, 449, 601, 602, 603, 604, 450, 451] (by decide +kernel)
set_option maxRecDepth 20000 in
theorem in_wsL_law0_r16 : ∀ w ∈ wsL_law0_r16, w ∈ lw_tbl := mem_r _ [452, 453, 454, 455, 456, 605, 606, 607, 608, 221, 609, 610, 611, 612, 457, 458, 459, 460, 233, 234, 235, 537, 538, 539] (by decide +kernel)
set_option maxRecDepth 20000 in
theorem in_wsL_law0_r17 : ∀ w ∈ wsL_law0_r17, w ∈ lw_tbl := mem_r _ [540, 225, 226, 227, 228, 232, 558, 559, 560, 561, 562, 564, 24, 565, 320, 321, 322, 323, 330, 324, 325, 326, 327, 328] (by decide +kernel)
set_option maxRecDepth 20000 in
theorem in_wsL_law0_r18 : ∀ w ∈ wsL_law0_r18, w ∈ lw_tbl := mem_r _ [329, 613, 614, 615, 616, 617, 624, 625, 626, 618, 619, 620, 621, 622, 623, 331, 332, 333, 334, 627, 628, 629, 630, 335] (by decide +kernel)
set_option maxRecDepth 20000 in
theorem in_wsL_law0_r19 : ∀ w ∈ wsL_law0_r19, w ∈ lw_tbl := mem_r _ [336, 337, 338, 350, 352, 14, 353, 354, 355, 356, 631, 632, 633, 634, 635, 637, 31, 638] (by decide +kernel)
set_option maxRecDepth 20000 in
theorem in_wsX00 : ∀ w ∈ wsX00, w ∈ lw_tbl := mem_r _ [73, 75, 77, 79, 81, 83, 85, 87, 89, 91, 93, 95, 97] (by decide +kernel)
set_option maxRecDepth 20000 in
theorem in_wsX10 : ∀ w ∈ wsX10, w ∈ lw_tbl := mem_r _ [479, 481, 483, 485, 487, 489, 491, 493, 495, 497, 499] (by decide +kernel)
theorem wsL_law_in0 : ∀ w ∈ wsL_law0, w ∈ lw_tbl := fun w h => (List.mem_append.mp h).elim (fun h => (List.mem_append.mp h).elim (fun h => (List.mem_append.mp h).elim (fun h => (List.mem_append.mp h).elim (fun h => in_wsL_law0_r1 w h) (fun h => (List.mem_append.mp h).elim (fun h => in_wsL_law0_r2 w h) (fun h => (List.mem_append.mp h).elim (fun h => in_wsL_law0_r3 w h) (fun h => (List.mem_append.mp h).elim (fun h => in_wsL_law0_r4 w h) (fun h => (List.mem_append.mp h).elim (fun h => in_wsL_law0_r5 w h) (fun h => (List.mem_append.mp h).elim (fun h => in_wsL_law0_r6 w h) (fun h => (List.mem_append.mp h).elim (fun h => in_wsL_law0_r7 w h) (fun h => (List.mem_append.mp h).elim (fun h => in_wsL_law0_r8 w h) (fun h => (List.mem_append.mp h).elim (fun h => in_wsL_law0_r9 w h) (fun h => (List.mem_append.mp h).elim (fun h => in_wsL_law0_r10 w h) (fun h => (List.mem_append.mp h).elim (fun h => in_wsL_law0_r11 w h) (fun h => (List.mem_append.mp h).elim (fun h => in_wsL_law0_r12 w h) (fun h => (List.mem_append.mp h).elim (fun h => in_wsL_law0_r13 w h) (fun h => (List.mem_append.mp h).elim (fun h => in_wsL_law0_r14 w h) (fun h => (List.mem_append.mp h).elim (fun h => in_wsL_law0_r15 w h) (fun h => (List.mem_append.mp h).elim (fun h => in_wsL_law0_r16 w h) (fun h => (List.mem_append.mp h).elim (fun h => in_wsL_law0_r17 w h) (fun h => (List.mem_append.mp h).elim (fun h => in_wsL_law0_r18 w h) (fun h => in_wsL_law0_r19 w h))))))))))))))))))) (fun h => in_wsX00 w h)) (fun h => in_wsX10 w h)) (fun h => absurd h List.not_mem_nil)
theorem wsL_law_x0 : ∀ w ∈ (vx_atS RX0 53 "java/lang/IndexOutOfBoundsException" ["java/lang/RuntimeException", "java/lang/Exception"]).filter goodWord, w ∈ lw_tbl := by decide +kernel
theorem wsL_law_x1 : ∀ w ∈ (vx_atS RX0 60 "java/lang/IllegalArgumentException" ["java/lang/RuntimeException", "java/lang/Exception"]).filter goodWord, w ∈ lw_tbl := by decide +kernel
theorem wsL_law_x2 : ∀ w ∈ (vx_atS RX0 69 "java/lang/IllegalStateException" ["java/lang/RuntimeException", "java/lang/Exception"]).filter goodWord, w ∈ lw_tbl := by decide +kernel
theorem wsL_law_in : ∀ w ∈ wsL_law, w ∈ lw_tbl := fun w h => (List.mem_append.mp h).elim (fun h => (List.mem_append.mp h).elim (fun h => (List.mem_append.mp h).elim (fun h => wsL_law_in0 w h) (fun h => wsL_law_x0 w h)) (fun h => wsL_law_x1 w h)) (fun h => wsL_law_x2 w h)
theorem inlX0 : ∀ w ∈ wsX00, w ∈ wsL_law := fun _ h => List.mem_append_left _ (List.mem_append_left _ (List.mem_append_left _ (List.mem_append_left _ (List.mem_append_left _ (List.mem_append_right _ h)))))
theorem inX0 : ∀ w ∈ wsX00, w ∈ lw_tbl := fun w h => wsL_law_in w (inlX0 w h)
theorem inlX1 : ∀ w ∈ wsX10, w ∈ wsL_law := fun _ h => List.mem_append_left _ (List.mem_append_left _ (List.mem_append_left _ (List.mem_append_left _ (List.mem_append_right _ h))))
theorem inX1 : ∀ w ∈ wsX10, w ∈ lw_tbl := fun w h => wsL_law_in w (inlX1 w h)
theorem inJ6 : ∀ w ∈ wsJ60, w ∈ lw_tbl := by decide +kernel
theorem inJ13 : ∀ w ∈ wsJ130, w ∈ lw_tbl := by decide +kernel
theorem inJ9 : ∀ w ∈ wsJ90, w ∈ lw_tbl := by decide +kernel
theorem inJ0 : ∀ w ∈ wsJ00, w ∈ lw_tbl := by decide +kernel
set_option maxRecDepth 20000 in
theorem ggX0_init_X0_setAllAsAtFirst : GoodIn wsX0_init wsX0_setAllAsAtFirst := goodIn_r _ [16, 5, 17, 18, 19, 20, 21, 22, 23, 24, 15, 25, 26, 27, 28, 29, 30, 31, 32, 33, 34, 35, 36, 37, 38, 39] (by decide +kernel) (by decide +kernel)
set_option maxRecDepth 20000 in
theorem gX0_init_X0_setAllAsAtFirst : GoodIn wsX0_init (wsV RX0 31 RX0 yX0_setAllAsAtFirst wsX0_setAllAsAtFirst) := goodIn_app (goodIn_of _ (by decide +kernel)) ggX0_init_X0_setAllAsAtFirst
theorem dX0_init_0 : decode cX0_init 0 = .ok (.aload_n 0, 1) := by decide +kernel
theorem dX0_init_1 : decode cX0_init 1 = .ok (.invokespecial 1, 3) := by decide +kernel
theorem dX0_init_4 : decode cX0_init 4 = .ok (.aload_n 0, 1) := by decide +kernel
theorem dX0_init_5 : decode cX0_init 5 = .ok (.bipush 64, 2) := by decide +kernel
theorem dX0_init_7 : decode cX0_init 7 = .ok (.newarray .int, 2) := by decide +kernel
theorem dX0_init_9 : decode cX0_init 9 = .ok (.putfield 9, 3) := by decide +kernel
theorem dX0_init_12 : decode cX0_init 12 = .ok (.aload_n 0, 1) := by decide +kernel
theorem dX0_init_13 : decode cX0_init 13 = .ok (.sipush 600, 3) := by decide +kernel
theorem dX0_init_16 : decode cX0_init 16 = .ok (.newarray .int, 2) := by decide +kernel
theorem dX0_init_18 : decode cX0_init 18 = .ok (.putfield 13, 3) := by decide +kernel
theorem dX0_init_21 : decode cX0_init 21 = .ok (.aload_n 0, 1) := by decide +kernel
theorem dX0_init_22 : decode cX0_init 22 = .ok (.sipush 600, 3) := by decide +kernel
theorem dX0_init_25 : decode cX0_init 25 = .ok (.newarray .int, 2) := by decide +kernel
theorem dX0_init_27 : decode cX0_init 27 = .ok (.putfield 16, 3) := by decide +kernel
theorem dX0_init_30 : decode cX0_init 30 = .ok (.aload_n 0, 1) := by decide +kernel
theorem dX0_init_31 : decode cX0_init 31 = .ok (.sipush 600, 3) := by decide +kernel
theorem dX0_init_34 : decode cX0_init 34 = .ok (.newarray .int, 2) := by decide +kernel
theorem dX0_init_36 : decode cX0_init 36 = .ok (.putfield 19, 3) := by decide +kernel
theorem dX0_init_39 : decode cX0_init 39 = .ok (.aload_n 0, 1) := by decide +kernel
theorem dX0_init_40 : decode cX0_init 40 = .ok (.sipush 600, 3) := by decide +kernel
theorem dX0_init_43 : decode cX0_init 43 = .ok (.newarray .int, 2) := by decide +kernel
theorem dX0_init_45 : decode cX0_init 45 = .ok (.putfield 22, 3) := by decide +kernel
theorem dX0_init_48 : decode cX0_init 48 = .ok (.aload_n 0, 1) := by decide +kernel
theorem dX0_init_49 : decode cX0_init 49 = .ok (.sipush 600, 3) := by decide +kernel
theorem dX0_init_52 : decode cX0_init 52 = .ok (.newarray .int, 2) := by decide +kernel
theorem dX0_init_54 : decode cX0_init 54 = .ok (.putfield 25, 3) := by decide +kernel
theorem dX0_init_57 : decode cX0_init 57 = .ok (.aload_n 0, 1) := by decide +kernel
theorem dX0_init_58 : decode cX0_init 58 = .ok (.sipush 600, 3) := by decide +kernel
theorem dX0_init_61 : decode cX0_init 61 = .ok (.newarray .int, 2) := by decide +kernel
theorem dX0_init_63 : decode cX0_init 63 = .ok (.putfield 28, 3) := by decide +kernel
theorem dX0_init_66 : decode cX0_init 66 = .ok (.aload_n 0, 1) := by decide +kernel
theorem dX0_init_67 : decode cX0_init 67 = .ok (.invokevirtual 31, 3) := by decide +kernel
theorem dX0_init_70 : decode cX0_init 70 = .ok (.return_, 1) := by decide +kernel
set_option maxRecDepth 20000 in
theorem ggX0_clear_X0_setAllAsAtFirst : GoodIn wsX0_clear wsX0_setAllAsAtFirst := goodIn_r _ [5, 6, 7, 8, 9, 10, 11, 12, 13, 14, 4, 15, 16, 17, 18, 19, 20, 21, 22, 23, 24, 25, 26, 27, 28, 29] (by decide +kernel) (by decide +kernel)
set_option maxRecDepth 20000 in
theorem gX0_clear_X0_setAllAsAtFirst : GoodIn wsX0_clear (wsV RX0 31 RX0 yX0_setAllAsAtFirst wsX0_setAllAsAtFirst) := goodIn_app (goodIn_of _ (by decide +kernel)) ggX0_clear_X0_setAllAsAtFirst
theorem dX0_clear_0 : decode cX0_clear 0 = .ok (.aload_n 0, 1) := by decide +kernel
theorem dX0_clear_1 : decode cX0_clear 1 = .ok (.invokevirtual 31, 3) := by decide +kernel
theorem dX0_clear_4 : decode cX0_clear 4 = .ok (.return_, 1) := by decide +kernel
set_option maxRecDepth 20000 in
theorem ggX0_begin_X0_setAllAsAtFirst : GoodIn wsX0_begin wsX0_setAllAsAtFirst := goodIn_r _ [8, 2, 9, 3, 10, 11, 12, 13, 14, 15, 7, 16, 17, 21, 22, 23, 24, 25, 26, 27, 28, 29, 30, 31, 32, 33] (by decide +kernel) (by decide +kernel)
set_option maxRecDepth 20000 in
theorem gX0_begin_X0_setAllAsAtFirst : GoodIn wsX0_begin (wsV RX0 31 RX0 yX0_setAllAsAtFirst wsX0_setAllAsAtFirst) := goodIn_app (goodIn_of _ (by decide +kernel)) ggX0_begin_X0_setAllAsAtFirst
set_option maxRecDepth 20000 in
theorem ggX0_begin_X0_pieceOf : GoodIn wsX0_begin wsX0_pieceOf := goodIn_r _ [20] (by decide +kernel) (by decide +kernel)
set_option maxRecDepth 20000 in
theorem gX0_begin_X0_pieceOf : GoodIn wsX0_begin (va_wsS RX0 37 yX0_pieceOf wsX0_pieceOf) := goodIn_app (goodIn_of _ (by decide +kernel)) ggX0_begin_X0_pieceOf
theorem dX0_begin_0 : decode cX0_begin 0 = .ok (.aload_n 0, 1) := by decide +kernel
theorem dX0_begin_1 : decode cX0_begin 1 = .ok (.invokevirtual 31, 3) := by decide +kernel
theorem dX0_begin_4 : decode cX0_begin 4 = .ok (.iconst 0, 1) := by decide +kernel
theorem dX0_begin_5 : decode cX0_begin 5 = .ok (.istore_n 1, 1) := by decide +kernel
theorem dX0_begin_6 : decode cX0_begin 6 = .ok (.iload_n 1, 1) := by decide +kernel
theorem dX0_begin_7 : decode cX0_begin 7 = .ok (.getstatic 34, 3) := by decide +kernel
theorem dX0_begin_10 : decode cX0_begin 10 = .ok (.arraylength, 1) := by decide +kernel
theorem dX0_begin_11 : decode cX0_begin 11 = .ok (.if_icmp .ge 70, 3) := by decide +kernel
theorem dX0_begin_14 : decode cX0_begin 14 = .ok (.aload_n 0, 1) := by decide +kernel
theorem dX0_begin_15 : decode cX0_begin 15 = .ok (.getfield 9, 3) := by decide +kernel
theorem dX0_begin_18 : decode cX0_begin 18 = .ok (.iload_n 1, 1) := by decide +kernel
theorem dX0_begin_19 : decode cX0_begin 19 = .ok (.getstatic 34, 3) := by decide +kernel
theorem dX0_begin_22 : decode cX0_begin 22 = .ok (.iload_n 1, 1) := by decide +kernel
theorem dX0_begin_23 : decode cX0_begin 23 = .ok (.iaload, 1) := by decide +kernel
theorem dX0_begin_24 : decode cX0_begin 24 = .ok (.iconst 0, 1) := by decide +kernel
theorem dX0_begin_25 : decode cX0_begin 25 = .ok (.invokestatic 37, 3) := by decide +kernel
theorem dX0_begin_28 : decode cX0_begin 28 = .ok (.iastore, 1) := by decide +kernel
theorem dX0_begin_29 : decode cX0_begin 29 = .ok (.aload_n 0, 1) := by decide +kernel
theorem dX0_begin_30 : decode cX0_begin 30 = .ok (.getfield 9, 3) := by decide +kernel
theorem dX0_begin_33 : decode cX0_begin 33 = .ok (.bipush 8, 2) := by decide +kernel
theorem dX0_begin_35 : decode cX0_begin 35 = .ok (.iload_n 1, 1) := by decide +kernel
theorem dX0_begin_36 : decode cX0_begin 36 = .ok (.iadd, 1) := by decide +kernel
theorem dX0_begin_37 : decode cX0_begin 37 = .ok (.iconst 1, 1) := by decide +kernel
theorem dX0_begin_38 : decode cX0_begin 38 = .ok (.iconst 0, 1) := by decide +kernel
theorem dX0_begin_39 : decode cX0_begin 39 = .ok (.invokestatic 37, 3) := by decide +kernel
theorem dX0_begin_42 : decode cX0_begin 42 = .ok (.iastore, 1) := by decide +kernel
theorem dX0_begin_43 : decode cX0_begin 43 = .ok (.aload_n 0, 1) := by decide +kernel
theorem dX0_begin_44 : decode cX0_begin 44 = .ok (.getfield 9, 3) := by decide +kernel
theorem dX0_begin_47 : decode cX0_begin 47 = .ok (.bipush 48, 2) := by decide +kernel
theorem dX0_begin_49 : decode cX0_begin 49 = .ok (.iload_n 1, 1) := by decide +kernel
theorem dX0_begin_50 : decode cX0_begin 50 = .ok (.iadd, 1) := by decide +kernel
theorem dX0_begin_51 : decode cX0_begin 51 = .ok (.iconst 1, 1) := by decide +kernel
theorem dX0_begin_52 : decode cX0_begin 52 = .ok (.iconst 1, 1) := by decide +kernel
theorem dX0_begin_53 : decode cX0_begin 53 = .ok (.invokestatic 37, 3) := by decide +kernel
theorem dX0_begin_56 : decode cX0_begin 56 = .ok (.iastore, 1) := by decide +kernel
theorem dX0_begin_57 : decode cX0_begin 57 = .ok (.aload_n 0, 1) := by decide +kernel
theorem dX0_begin_58 : decode cX0_begin 58 = .ok (.getfield 9, 3) := by decide +kernel
theorem dX0_begin_61 : decode cX0_begin 61 = .ok (.bipush 56, 2) := by decide +kernel
theorem dX0_begin_63 : decode cX0_begin 63 = .ok (.iload_n 1, 1) := by decide +kernel
theorem dX0_begin_64 : decode cX0_begin 64 = .ok (.iadd, 1) := by decide +kernel
theorem dX0_begin_65 : decode cX0_begin 65 = .ok (.getstatic 34, 3) := by decide +kernel
theorem dX0_begin_68 : decode cX0_begin 68 = .ok (.iload_n 1, 1) := by decide +kernel
theorem dX0_begin_69 : decode cX0_begin 69 = .ok (.iaload, 1) := by decide +kernel
theorem dX0_begin_70 : decode cX0_begin 70 = .ok (.iconst 1, 1) := by decide +kernel
theorem dX0_begin_71 : decode cX0_begin 71 = .ok (.invokestatic 37, 3) := by decide +kernel
theorem dX0_begin_74 : decode cX0_begin 74 = .ok (.iastore, 1) := by decide +kernel
theorem dX0_begin_75 : decode cX0_begin 75 = .ok (.iinc 1 1, 3) := by decide +kernel
theorem dX0_begin_78 : decode cX0_begin 78 = .ok (.goto (-72), 3) := by decide +kernel
theorem dX0_begin_81 : decode cX0_begin 81 = .ok (.aload_n 0, 1) := by decide +kernel
theorem dX0_begin_82 : decode cX0_begin 82 = .ok (.bipush 15, 2) := by decide +kernel
theorem dX0_begin_84 : decode cX0_begin 84 = .ok (.putfield 41, 3) := by decide +kernel
theorem dX0_begin_87 : decode cX0_begin 87 = .ok (.return_, 1) := by decide +kernel
set_option maxRecDepth 20000 in
theorem ggX0_put_X0_isSquare : GoodIn wsX0_put wsX0_isSquare := goodIn_r _ [11] (by decide +kernel) (by decide +kernel)
set_option maxRecDepth 20000 in
theorem gX0_put_X0_isSquare : GoodIn wsX0_put (va_wsS RX0 45 yX0_isSquare wsX0_isSquare) := goodIn_app (goodIn_of _ (by decide +kernel)) ggX0_put_X0_isSquare
set_option maxRecDepth 20000 in
theorem ggX0_put_X0_piecesOnBoard : GoodIn wsX0_put wsX0_piecesOnBoard := goodIn_r _ [15, 16, 17, 18, 10, 19, 7, 20, 21, 22, 23, 24, 25, 26, 32, 33, 34, 35, 36, 37, 38, 39, 40, 41, 42, 43, 44] (by decide +kernel) (by decide +kernel)
set_option maxRecDepth 20000 in
theorem gX0_put_X0_piecesOnBoard : GoodIn wsX0_put (wsV RX0 61 RX0 yX0_piecesOnBoard wsX0_piecesOnBoard) := goodIn_app (goodIn_of _ (by decide +kernel)) ggX0_put_X0_piecesOnBoard
set_option maxRecDepth 20000 in
theorem ggX0_put_X0_forgetMoves : GoodIn wsX0_put wsX0_forgetMoves := goodIn_r _ [30, 31, 32, 33, 34, 35, 36, 37, 38, 39, 40, 41, 42, 43, 44] (by decide +kernel) (by decide +kernel)
set_option maxRecDepth 20000 in
theorem gX0_put_X0_forgetMoves : GoodIn wsX0_put (wsV RX0 70 RX0 yX0_forgetMoves wsX0_forgetMoves) := goodIn_app (goodIn_of _ (by decide +kernel)) ggX0_put_X0_forgetMoves
theorem dX0_put_0 : decode cX0_put 0 = .ok (.iload_n 1, 1) := by decide +kernel
theorem dX0_put_1 : decode cX0_put 1 = .ok (.invokestatic 45, 3) := by decide +kernel
theorem dX0_put_4 : decode cX0_put 4 = .ok (.ifCond .ne 13, 3) := by decide +kernel
theorem dX0_put_7 : decode cX0_put 7 = .ok (.new 49, 3) := by decide +kernel
theorem dX0_put_10 : decode cX0_put 10 = .ok (.dup, 1) := by decide +kernel
theorem dX0_put_11 : decode cX0_put 11 = .ok (.ldc 51, 2) := by decide +kernel
theorem dX0_put_13 : decode cX0_put 13 = .ok (.invokespecial 53, 3) := by decide +kernel
theorem dX0_put_16 : decode cX0_put 16 = .ok (.athrow, 1) := by decide +kernel
theorem dX0_put_17 : decode cX0_put 17 = .ok (.iload_n 2, 1) := by decide +kernel
theorem dX0_put_18 : decode cX0_put 18 = .ok (.ifCond .lt 9, 3) := by decide +kernel
theorem dX0_put_21 : decode cX0_put 21 = .ok (.iload_n 2, 1) := by decide +kernel
theorem dX0_put_22 : decode cX0_put 22 = .ok (.bipush 12, 2) := by decide +kernel
theorem dX0_put_24 : decode cX0_put 24 = .ok (.if_icmp .le 13, 3) := by decide +kernel
theorem dX0_put_27 : decode cX0_put 27 = .ok (.new 56, 3) := by decide +kernel
theorem dX0_put_30 : decode cX0_put 30 = .ok (.dup, 1) := by decide +kernel
theorem dX0_put_31 : decode cX0_put 31 = .ok (.ldc 58, 2) := by decide +kernel
theorem dX0_put_33 : decode cX0_put 33 = .ok (.invokespecial 60, 3) := by decide +kernel
theorem dX0_put_36 : decode cX0_put 36 = .ok (.athrow, 1) := by decide +kernel
theorem dX0_put_37 : decode cX0_put 37 = .ok (.iload_n 2, 1) := by decide +kernel
theorem dX0_put_38 : decode cX0_put 38 = .ok (.ifCond .eq 31, 3) := by decide +kernel
theorem dX0_put_41 : decode cX0_put 41 = .ok (.aload_n 0, 1) := by decide +kernel
theorem dX0_put_42 : decode cX0_put 42 = .ok (.getfield 9, 3) := by decide +kernel
theorem dX0_put_45 : decode cX0_put 45 = .ok (.iload_n 1, 1) := by decide +kernel
theorem dX0_put_46 : decode cX0_put 46 = .ok (.iaload, 1) := by decide +kernel
theorem dX0_put_47 : decode cX0_put 47 = .ok (.ifCond .ne 22, 3) := by decide +kernel
theorem dX0_put_50 : decode cX0_put 50 = .ok (.aload_n 0, 1) := by decide +kernel
theorem dX0_put_51 : decode cX0_put 51 = .ok (.invokevirtual 61, 3) := by decide +kernel
theorem dX0_put_54 : decode cX0_put 54 = .ok (.bipush 32, 2) := by decide +kernel
theorem dX0_put_56 : decode cX0_put 56 = .ok (.if_icmp .lt 13, 3) := by decide +kernel
theorem dX0_put_59 : decode cX0_put 59 = .ok (.new 65, 3) := by decide +kernel
theorem dX0_put_62 : decode cX0_put 62 = .ok (.dup, 1) := by decide +kernel
theorem dX0_put_63 : decode cX0_put 63 = .ok (.ldc 67, 2) := by decide +kernel
theorem dX0_put_65 : decode cX0_put 65 = .ok (.invokespecial 69, 3) := by decide +kernel
theorem dX0_put_68 : decode cX0_put 68 = .ok (.athrow, 1) := by decide +kernel
theorem dX0_put_69 : decode cX0_put 69 = .ok (.aload_n 0, 1) := by decide +kernel
theorem dX0_put_70 : decode cX0_put 70 = .ok (.getfield 9, 3) := by decide +kernel
theorem dX0_put_73 : decode cX0_put 73 = .ok (.iload_n 1, 1) := by decide +kernel
theorem dX0_put_74 : decode cX0_put 74 = .ok (.iload_n 2, 1) := by decide +kernel
theorem dX0_put_75 : decode cX0_put 75 = .ok (.iastore, 1) := by decide +kernel
theorem dX0_put_76 : decode cX0_put 76 = .ok (.aload_n 0, 1) := by decide +kernel
theorem dX0_put_77 : decode cX0_put 77 = .ok (.invokevirtual 70, 3) := by decide +kernel
theorem dX0_put_80 : decode cX0_put 80 = .ok (.return_, 1) := by decide +kernel
set_option maxRecDepth 20000 in
theorem ggX0_state_X0_isSide : GoodIn wsX0_state wsX0_isSide := goodIn_r _ [9] (by decide +kernel) (by decide +kernel)
set_option maxRecDepth 20000 in
theorem gX0_state_X0_isSide : GoodIn wsX0_state (va_wsS RX0 73 yX0_isSide wsX0_isSide) := goodIn_app (goodIn_of _ (by decide +kernel)) ggX0_state_X0_isSide
set_option maxRecDepth 20000 in
theorem ggX0_state_X0_isSquare : GoodIn wsX0_state wsX0_isSquare := goodIn_r _ [12] (by decide +kernel) (by decide +kernel)
set_option maxRecDepth 20000 in
theorem gX0_state_X0_isSquare : GoodIn wsX0_state (va_wsS RX0 45 yX0_isSquare wsX0_isSquare) := goodIn_app (goodIn_of _ (by decide +kernel)) ggX0_state_X0_isSquare
set_option maxRecDepth 20000 in
theorem ggX0_state_X0_forgetMoves : GoodIn wsX0_state wsX0_forgetMoves := goodIn_r _ [16, 17, 18, 19, 20, 21, 22, 23, 24, 25, 26, 27, 28, 29, 30] (by decide +kernel) (by decide +kernel)
set_option maxRecDepth 20000 in
theorem gX0_state_X0_forgetMoves : GoodIn wsX0_state (wsV RX0 70 RX0 yX0_forgetMoves wsX0_forgetMoves) := goodIn_app (goodIn_of _ (by decide +kernel)) ggX0_state_X0_forgetMoves
theorem dX0_state_0 : decode cX0_state 0 = .ok (.iload_n 1, 1) := by decide +kernel
theorem dX0_state_1 : decode cX0_state 1 = .ok (.invokestatic 73, 3) := by decide +kernel
theorem dX0_state_4 : decode cX0_state 4 = .ok (.ifCond .ne 13, 3) := by decide +kernel
theorem dX0_state_7 : decode cX0_state 7 = .ok (.new 56, 3) := by decide +kernel
theorem dX0_state_10 : decode cX0_state 10 = .ok (.dup, 1) := by decide +kernel
theorem dX0_state_11 : decode cX0_state 11 = .ok (.ldc 76, 2) := by decide +kernel
theorem dX0_state_13 : decode cX0_state 13 = .ok (.invokespecial 60, 3) := by decide +kernel
theorem dX0_state_16 : decode cX0_state 16 = .ok (.athrow, 1) := by decide +kernel
theorem dX0_state_17 : decode cX0_state 17 = .ok (.iload_n 2, 1) := by decide +kernel
theorem dX0_state_18 : decode cX0_state 18 = .ok (.ifCond .lt 9, 3) := by decide +kernel
theorem dX0_state_21 : decode cX0_state 21 = .ok (.iload_n 2, 1) := by decide +kernel
theorem dX0_state_22 : decode cX0_state 22 = .ok (.bipush 15, 2) := by decide +kernel
theorem dX0_state_24 : decode cX0_state 24 = .ok (.if_icmp .le 13, 3) := by decide +kernel
theorem dX0_state_27 : decode cX0_state 27 = .ok (.new 56, 3) := by decide +kernel
theorem dX0_state_30 : decode cX0_state 30 = .ok (.dup, 1) := by decide +kernel
theorem dX0_state_31 : decode cX0_state 31 = .ok (.ldc 78, 2) := by decide +kernel
theorem dX0_state_33 : decode cX0_state 33 = .ok (.invokespecial 60, 3) := by decide +kernel
theorem dX0_state_36 : decode cX0_state 36 = .ok (.athrow, 1) := by decide +kernel
theorem dX0_state_37 : decode cX0_state 37 = .ok (.iload_n 3, 1) := by decide +kernel
theorem dX0_state_38 : decode cX0_state 38 = .ok (.iconst (-1), 1) := by decide +kernel
theorem dX0_state_39 : decode cX0_state 39 = .ok (.if_icmp .eq 20, 3) := by decide +kernel
theorem dX0_state_42 : decode cX0_state 42 = .ok (.iload_n 3, 1) := by decide +kernel
theorem dX0_state_43 : decode cX0_state 43 = .ok (.invokestatic 45, 3) := by decide +kernel
theorem dX0_state_46 : decode cX0_state 46 = .ok (.ifCond .ne 13, 3) := by decide +kernel
theorem dX0_state_49 : decode cX0_state 49 = .ok (.new 56, 3) := by decide +kernel
theorem dX0_state_52 : decode cX0_state 52 = .ok (.dup, 1) := by decide +kernel
theorem dX0_state_53 : decode cX0_state 53 = .ok (.ldc 80, 2) := by decide +kernel
theorem dX0_state_55 : decode cX0_state 55 = .ok (.invokespecial 60, 3) := by decide +kernel
theorem dX0_state_58 : decode cX0_state 58 = .ok (.athrow, 1) := by decide +kernel
theorem dX0_state_59 : decode cX0_state 59 = .ok (.aload_n 0, 1) := by decide +kernel
theorem dX0_state_60 : decode cX0_state 60 = .ok (.iload_n 1, 1) := by decide +kernel
theorem dX0_state_61 : decode cX0_state 61 = .ok (.putfield 82, 3) := by decide +kernel
theorem dX0_state_64 : decode cX0_state 64 = .ok (.aload_n 0, 1) := by decide +kernel
theorem dX0_state_65 : decode cX0_state 65 = .ok (.iload_n 2, 1) := by decide +kernel
theorem dX0_state_66 : decode cX0_state 66 = .ok (.putfield 41, 3) := by decide +kernel
theorem dX0_state_69 : decode cX0_state 69 = .ok (.aload_n 0, 1) := by decide +kernel
theorem dX0_state_70 : decode cX0_state 70 = .ok (.iload_n 3, 1) := by decide +kernel
theorem dX0_state_71 : decode cX0_state 71 = .ok (.putfield 85, 3) := by decide +kernel
theorem dX0_state_74 : decode cX0_state 74 = .ok (.aload_n 0, 1) := by decide +kernel
theorem dX0_state_75 : decode cX0_state 75 = .ok (.invokevirtual 70, 3) := by decide +kernel
theorem dX0_state_78 : decode cX0_state 78 = .ok (.return_, 1) := by decide +kernel
set_option maxRecDepth 20000 in
theorem ggX0_clocks_X0_forgetMoves : GoodIn wsX0_clocks wsX0_forgetMoves := goodIn_r _ [9, 10, 11, 12, 13, 14, 15, 16, 17, 18, 19, 20, 21, 22, 23] (by decide +kernel) (by decide +kernel)
set_option maxRecDepth 20000 in
theorem gX0_clocks_X0_forgetMoves : GoodIn wsX0_clocks (wsV RX0 70 RX0 yX0_forgetMoves wsX0_forgetMoves) := goodIn_app (goodIn_of _ (by decide +kernel)) ggX0_clocks_X0_forgetMoves
theorem dX0_clocks_0 : decode cX0_clocks 0 = .ok (.iload_n 1, 1) := by decide +kernel
theorem dX0_clocks_1 : decode cX0_clocks 1 = .ok (.ifCond .lt 10, 3) := by decide +kernel
theorem dX0_clocks_4 : decode cX0_clocks 4 = .ok (.iload_n 1, 1) := by decide +kernel
theorem dX0_clocks_5 : decode cX0_clocks 5 = .ok (.sipush 9999, 3) := by decide +kernel
theorem dX0_clocks_8 : decode cX0_clocks 8 = .ok (.if_icmp .le 13, 3) := by decide +kernel
theorem dX0_clocks_11 : decode cX0_clocks 11 = .ok (.new 56, 3) := by decide +kernel
theorem dX0_clocks_14 : decode cX0_clocks 14 = .ok (.dup, 1) := by decide +kernel
theorem dX0_clocks_15 : decode cX0_clocks 15 = .ok (.ldc 88, 2) := by decide +kernel
theorem dX0_clocks_17 : decode cX0_clocks 17 = .ok (.invokespecial 60, 3) := by decide +kernel
theorem dX0_clocks_20 : decode cX0_clocks 20 = .ok (.athrow, 1) := by decide +kernel
theorem dX0_clocks_21 : decode cX0_clocks 21 = .ok (.iload_n 2, 1) := by decide +kernel
theorem dX0_clocks_22 : decode cX0_clocks 22 = .ok (.iconst 1, 1) := by decide +kernel
theorem dX0_clocks_23 : decode cX0_clocks 23 = .ok (.if_icmp .lt 10, 3) := by decide +kernel
theorem dX0_clocks_26 : decode cX0_clocks 26 = .ok (.iload_n 2, 1) := by decide +kernel
theorem dX0_clocks_27 : decode cX0_clocks 27 = .ok (.sipush 9999, 3) := by decide +kernel
theorem dX0_clocks_30 : decode cX0_clocks 30 = .ok (.if_icmp .le 13, 3) := by decide +kernel
theorem dX0_clocks_33 : decode cX0_clocks 33 = .ok (.new 56, 3) := by decide +kernel
theorem dX0_clocks_36 : decode cX0_clocks 36 = .ok (.dup, 1) := by decide +kernel
theorem dX0_clocks_37 : decode cX0_clocks 37 = .ok (.ldc 90, 2) := by decide +kernel
theorem dX0_clocks_39 : decode cX0_clocks 39 = .ok (.invokespecial 60, 3) := by decide +kernel
theorem dX0_clocks_42 : decode cX0_clocks 42 = .ok (.athrow, 1) := by decide +kernel
theorem dX0_clocks_43 : decode cX0_clocks 43 = .ok (.aload_n 0, 1) := by decide +kernel
theorem dX0_clocks_44 : decode cX0_clocks 44 = .ok (.iload_n 1, 1) := by decide +kernel
theorem dX0_clocks_45 : decode cX0_clocks 45 = .ok (.putfield 92, 3) := by decide +kernel
theorem dX0_clocks_48 : decode cX0_clocks 48 = .ok (.aload_n 0, 1) := by decide +kernel
theorem dX0_clocks_49 : decode cX0_clocks 49 = .ok (.iload_n 2, 1) := by decide +kernel
theorem dX0_clocks_50 : decode cX0_clocks 50 = .ok (.putfield 95, 3) := by decide +kernel
theorem dX0_clocks_53 : decode cX0_clocks 53 = .ok (.aload_n 0, 1) := by decide +kernel
theorem dX0_clocks_54 : decode cX0_clocks 54 = .ok (.invokevirtual 70, 3) := by decide +kernel
theorem dX0_clocks_57 : decode cX0_clocks 57 = .ok (.return_, 1) := by decide +kernel
set_option maxRecDepth 20000 in
theorem ggX0_fits_X0_fromOf : GoodIn wsX0_fits wsX0_fromOf := goodIn_r _ [6] (by decide +kernel) (by decide +kernel)
set_option maxRecDepth 20000 in
theorem gX0_fits_X0_fromOf : GoodIn wsX0_fits (va_wsS RX0 98 yX0_fromOf wsX0_fromOf) := goodIn_app (goodIn_of _ (by decide +kernel)) ggX0_fits_X0_fromOf
set_option maxRecDepth 20000 in
theorem ggX0_fits_X0_toOf : GoodIn wsX0_fits wsX0_toOf := goodIn_r _ [9] (by decide +kernel) (by decide +kernel)
set_option maxRecDepth 20000 in
theorem gX0_fits_X0_toOf : GoodIn wsX0_fits (va_wsS RX0 102 yX0_toOf wsX0_toOf) := goodIn_app (goodIn_of _ (by decide +kernel)) ggX0_fits_X0_toOf
set_option maxRecDepth 20000 in
theorem ggX0_fits_X0_sideOf : GoodIn wsX0_fits wsX0_sideOf := goodIn_r _ [12] (by decide +kernel) (by decide +kernel)
set_option maxRecDepth 20000 in
theorem gX0_fits_X0_sideOf : GoodIn wsX0_fits (va_wsS RX0 105 yX0_sideOf wsX0_sideOf) := goodIn_app (goodIn_of _ (by decide +kernel)) ggX0_fits_X0_sideOf
set_option maxRecDepth 20000 in
theorem ggX0_fits_X0_typeOf : GoodIn wsX0_fits wsX0_typeOf := goodIn_r _ [15] (by decide +kernel) (by decide +kernel)
set_option maxRecDepth 20000 in
theorem gX0_fits_X0_typeOf : GoodIn wsX0_fits (va_wsS RX0 108 yX0_typeOf wsX0_typeOf) := goodIn_app (goodIn_of _ (by decide +kernel)) ggX0_fits_X0_typeOf
set_option maxRecDepth 20000 in
theorem ggX0_fits_X0_kindOf : GoodIn wsX0_fits wsX0_kindOf := goodIn_r _ [18] (by decide +kernel) (by decide +kernel)
set_option maxRecDepth 20000 in
theorem gX0_fits_X0_kindOf : GoodIn wsX0_fits (va_wsS RX0 111 yX0_kindOf wsX0_kindOf) := goodIn_app (goodIn_of _ (by decide +kernel)) ggX0_fits_X0_kindOf
set_option maxRecDepth 20000 in
theorem ggX0_fits_X0_becomesWhatItMay : GoodIn wsX0_fits wsX0_becomesWhatItMay := goodIn_r _ [21, 13, 14, 5, 15, 22, 23, 24, 10, 11, 12, 25, 26, 27] (by decide +kernel) (by decide +kernel)
set_option maxRecDepth 20000 in
theorem gX0_fits_X0_becomesWhatItMay : GoodIn wsX0_fits (va_wsS RX0 114 yX0_becomesWhatItMay wsX0_becomesWhatItMay) := goodIn_app (goodIn_of _ (by decide +kernel)) ggX0_fits_X0_becomesWhatItMay
set_option maxRecDepth 20000 in
theorem ggX0_fits_X0_goes : GoodIn wsX0_fits wsX0_goes := goodIn_r _ [31, 1, 13, 14, 5, 15, 32, 33, 34, 35, 2, 36, 37, 38, 39, 40, 41, 42, 43, 44, 45, 22, 23, 24, 46, 47, 48, 49, 50, 51, 52, 53, 54, 55, 56, 57, 58, 59, 60, 61, 62, 10, 11, 12, 63, 64, 65, 66, 67, 68, 69, 70, 71, 72, 73, 74, 75, 76, 77, 78, 79, 80, 81, 82, 83, 84, 85, 86, 87, 88, 89, 90, 91, 92, 93, 94, 95, 96, 97, 98, 99, 100, 101, 102, 103, 104, 105, 106, 107, 108, 109, 110, 111, 112, 113, 114, 115, 116, 117, 118, 119, 120, 121, 122, 123, 124, 125, 126] (by decide +kernel) (by decide +kernel)
set_option maxRecDepth 20000 in
theorem gX0_fits_X0_goes : GoodIn wsX0_fits (wsV RX0 118 RX0 yX0_goes wsX0_goes) := goodIn_app (goodIn_of _ (by decide +kernel)) ggX0_fits_X0_goes
theorem dX0_fits_0 : decode cX0_fits 0 = .ok (.iload_n 1, 1) := by decide +kernel
theorem dX0_fits_1 : decode cX0_fits 1 = .ok (.ifCond .ge 5, 3) := by decide +kernel
theorem dX0_fits_4 : decode cX0_fits 4 = .ok (.iconst 0, 1) := by decide +kernel
theorem dX0_fits_5 : decode cX0_fits 5 = .ok (.ireturn, 1) := by decide +kernel
theorem dX0_fits_6 : decode cX0_fits 6 = .ok (.iload_n 1, 1) := by decide +kernel
theorem dX0_fits_7 : decode cX0_fits 7 = .ok (.invokestatic 98, 3) := by decide +kernel
theorem dX0_fits_10 : decode cX0_fits 10 = .ok (.istore_n 2, 1) := by decide +kernel
theorem dX0_fits_11 : decode cX0_fits 11 = .ok (.iload_n 1, 1) := by decide +kernel
theorem dX0_fits_12 : decode cX0_fits 12 = .ok (.invokestatic 102, 3) := by decide +kernel
theorem dX0_fits_15 : decode cX0_fits 15 = .ok (.istore_n 3, 1) := by decide +kernel
theorem dX0_fits_16 : decode cX0_fits 16 = .ok (.aload_n 0, 1) := by decide +kernel
theorem dX0_fits_17 : decode cX0_fits 17 = .ok (.getfield 9, 3) := by decide +kernel
theorem dX0_fits_20 : decode cX0_fits 20 = .ok (.iload_n 2, 1) := by decide +kernel
theorem dX0_fits_21 : decode cX0_fits 21 = .ok (.iaload, 1) := by decide +kernel
theorem dX0_fits_22 : decode cX0_fits 22 = .ok (.invokestatic 105, 3) := by decide +kernel
theorem dX0_fits_25 : decode cX0_fits 25 = .ok (.aload_n 0, 1) := by decide +kernel
theorem dX0_fits_26 : decode cX0_fits 26 = .ok (.getfield 82, 3) := by decide +kernel
theorem dX0_fits_29 : decode cX0_fits 29 = .ok (.if_icmp .ne 63, 3) := by decide +kernel
theorem dX0_fits_32 : decode cX0_fits 32 = .ok (.aload_n 0, 1) := by decide +kernel
theorem dX0_fits_33 : decode cX0_fits 33 = .ok (.getfield 9, 3) := by decide +kernel
theorem dX0_fits_36 : decode cX0_fits 36 = .ok (.iload_n 3, 1) := by decide +kernel
theorem dX0_fits_37 : decode cX0_fits 37 = .ok (.iaload, 1) := by decide +kernel
theorem dX0_fits_38 : decode cX0_fits 38 = .ok (.invokestatic 105, 3) := by decide +kernel
theorem dX0_fits_41 : decode cX0_fits 41 = .ok (.aload_n 0, 1) := by decide +kernel
theorem dX0_fits_42 : decode cX0_fits 42 = .ok (.getfield 82, 3) := by decide +kernel
theorem dX0_fits_45 : decode cX0_fits 45 = .ok (.if_icmp .eq 47, 3) := by decide +kernel
theorem dX0_fits_48 : decode cX0_fits 48 = .ok (.aload_n 0, 1) := by decide +kernel
theorem dX0_fits_49 : decode cX0_fits 49 = .ok (.getfield 9, 3) := by decide +kernel
theorem dX0_fits_52 : decode cX0_fits 52 = .ok (.iload_n 3, 1) := by decide +kernel
theorem dX0_fits_53 : decode cX0_fits 53 = .ok (.iaload, 1) := by decide +kernel
theorem dX0_fits_54 : decode cX0_fits 54 = .ok (.invokestatic 108, 3) := by decide +kernel
theorem dX0_fits_57 : decode cX0_fits 57 = .ok (.bipush 6, 2) := by decide +kernel
theorem dX0_fits_59 : decode cX0_fits 59 = .ok (.if_icmp .eq 33, 3) := by decide +kernel
theorem dX0_fits_62 : decode cX0_fits 62 = .ok (.aload_n 0, 1) := by decide +kernel
theorem dX0_fits_63 : decode cX0_fits 63 = .ok (.getfield 9, 3) := by decide +kernel
theorem dX0_fits_66 : decode cX0_fits 66 = .ok (.iload_n 2, 1) := by decide +kernel
theorem dX0_fits_67 : decode cX0_fits 67 = .ok (.iaload, 1) := by decide +kernel
theorem dX0_fits_68 : decode cX0_fits 68 = .ok (.iload_n 3, 1) := by decide +kernel
theorem dX0_fits_69 : decode cX0_fits 69 = .ok (.iload_n 1, 1) := by decide +kernel
theorem dX0_fits_70 : decode cX0_fits 70 = .ok (.invokestatic 111, 3) := by decide +kernel
theorem dX0_fits_73 : decode cX0_fits 73 = .ok (.invokestatic 114, 3) := by decide +kernel
theorem dX0_fits_76 : decode cX0_fits 76 = .ok (.ifCond .eq 16, 3) := by decide +kernel
theorem dX0_fits_79 : decode cX0_fits 79 = .ok (.aload_n 0, 1) := by decide +kernel
theorem dX0_fits_80 : decode cX0_fits 80 = .ok (.iload_n 2, 1) := by decide +kernel
theorem dX0_fits_81 : decode cX0_fits 81 = .ok (.iload_n 3, 1) := by decide +kernel
theorem dX0_fits_82 : decode cX0_fits 82 = .ok (.invokevirtual 118, 3) := by decide +kernel
theorem dX0_fits_85 : decode cX0_fits 85 = .ok (.ifCond .eq 7, 3) := by decide +kernel
theorem dX0_fits_88 : decode cX0_fits 88 = .ok (.iconst 1, 1) := by decide +kernel
theorem dX0_fits_89 : decode cX0_fits 89 = .ok (.goto 4, 3) := by decide +kernel
theorem dX0_fits_92 : decode cX0_fits 92 = .ok (.iconst 0, 1) := by decide +kernel
theorem dX0_fits_93 : decode cX0_fits 93 = .ok (.ireturn, 1) := by decide +kernel
set_option maxRecDepth 20000 in
theorem ggX0_make_X0_fits : GoodIn wsX0_make wsX0_fits := goodIn_r _ [16, 6, 10, 17, 18, 15, 19, 20, 21, 22, 23, 24, 25, 26, 27, 28, 29, 30, 31, 32, 33, 34, 35, 36, 37, 38, 39, 40, 41, 42, 43, 44, 45, 46, 47, 48, 49, 50, 51, 52, 53, 54, 55, 56, 57, 58, 59, 60, 61, 62, 63, 64, 65, 66, 67, 68, 69, 70, 71, 72, 73, 74, 75, 76, 77, 78, 79, 80, 81, 82, 8, 83, 84, 85, 86, 87, 88, 89, 90, 91, 92, 93, 94, 95, 96, 97, 98, 99, 100, 101, 102, 103, 104, 105, 106, 107, 108, 109, 110, 111, 112, 7, 113, 114, 115, 116, 117, 118, 119, 120, 121, 122, 123, 124, 157, 158, 159, 160, 161, 162, 163, 164, 165, 166, 167, 168, 169] (by decide +kernel) (by decide +kernel)
set_option maxRecDepth 20000 in
theorem gX0_make_X0_fits : GoodIn wsX0_make (wsV RX0 122 RX0 yX0_fits wsX0_fits) := goodIn_app (goodIn_of _ (by decide +kernel)) ggX0_make_X0_fits
set_option maxRecDepth 20000 in
theorem ggX0_make_X0_fromOf : GoodIn wsX0_make wsX0_fromOf := goodIn_r _ [19] (by decide +kernel) (by decide +kernel)
set_option maxRecDepth 20000 in
theorem gX0_make_X0_fromOf : GoodIn wsX0_make (va_wsS RX0 98 yX0_fromOf wsX0_fromOf) := goodIn_app (goodIn_of _ (by decide +kernel)) ggX0_make_X0_fromOf
set_option maxRecDepth 20000 in
theorem ggX0_make_X0_toOf : GoodIn wsX0_make wsX0_toOf := goodIn_r _ [22] (by decide +kernel) (by decide +kernel)
set_option maxRecDepth 20000 in
theorem gX0_make_X0_toOf : GoodIn wsX0_make (va_wsS RX0 102 yX0_toOf wsX0_toOf) := goodIn_app (goodIn_of _ (by decide +kernel)) ggX0_make_X0_toOf
set_option maxRecDepth 20000 in
theorem ggX0_make_X0_squareTaken : GoodIn wsX0_make wsX0_squareTaken := goodIn_r _ [128, 6, 10, 26, 27, 15, 28, 66, 67, 68, 69, 70, 71, 72, 35, 36, 37, 49, 50, 51, 73, 74, 75, 79, 80, 81, 82, 8, 52, 53, 54, 55, 56, 57, 58, 83, 84, 85, 86, 76, 77, 78, 87, 88, 89, 90, 91, 92, 93, 157, 158, 159, 160, 161, 162, 163, 164, 165, 166, 167, 168, 169] (by decide +kernel) (by decide +kernel)
set_option maxRecDepth 20000 in
theorem gX0_make_X0_squareTaken : GoodIn wsX0_make (wsV RX0 132 RX0 yX0_squareTaken wsX0_squareTaken) := goodIn_app (goodIn_of _ (by decide +kernel)) ggX0_make_X0_squareTaken
set_option maxRecDepth 20000 in
theorem ggX0_make_X0_remember : GoodIn wsX0_make wsX0_remember := goodIn_r _ [132, 133, 5, 134, 135, 136, 7, 137, 8, 138, 9, 157, 158, 159, 160, 161, 162, 163, 164, 165, 166, 167, 168, 169] (by decide +kernel) (by decide +kernel)
set_option maxRecDepth 20000 in
theorem gX0_make_X0_remember : GoodIn wsX0_make (wsV RX0 135 RX0 yX0_remember wsX0_remember) := goodIn_app (goodIn_of _ (by decide +kernel)) ggX0_make_X0_remember
set_option maxRecDepth 20000 in
theorem ggX0_make_X0_carryOver : GoodIn wsX0_make wsX0_carryOver := goodIn_r _ [142, 6, 10, 17, 18, 15, 19, 20, 21, 22, 29, 30, 31, 143, 144, 145, 26, 27, 28, 116, 117, 118, 69, 70, 71, 72, 35, 36, 37, 119, 120, 121, 146, 147, 148, 149, 56, 57, 58, 87, 88, 89, 157, 158, 159, 160, 161, 162, 163, 164, 165, 166, 167, 168, 169] (by decide +kernel) (by decide +kernel)
set_option maxRecDepth 20000 in
theorem gX0_make_X0_carryOver : GoodIn wsX0_make (wsV RX0 139 RX0 yX0_carryOver wsX0_carryOver) := goodIn_app (goodIn_of _ (by decide +kernel)) ggX0_make_X0_carryOver
set_option maxRecDepth 20000 in
theorem ggX0_make_X0_rightsOfKing : GoodIn wsX0_make wsX0_rightsOfKing := goodIn_r _ [152, 26, 27, 15, 28, 23, 24, 25] (by decide +kernel) (by decide +kernel)
set_option maxRecDepth 20000 in
theorem gX0_make_X0_rightsOfKing : GoodIn wsX0_make (va_wsS RX0 143 yX0_rightsOfKing wsX0_rightsOfKing) := goodIn_app (goodIn_of _ (by decide +kernel)) ggX0_make_X0_rightsOfKing
set_option maxRecDepth 20000 in
theorem ggX0_make_X0_rightOfCorner : GoodIn wsX0_make wsX0_rightOfCorner := goodIn_r _ [124] (by decide +kernel) (by decide +kernel)
set_option maxRecDepth 20000 in
theorem gX0_make_X0_rightOfCorner : GoodIn wsX0_make (va_wsS RX0 146 yX0_rightOfCorner wsX0_rightOfCorner) := goodIn_app (goodIn_of _ (by decide +kernel)) ggX0_make_X0_rightOfCorner
set_option maxRecDepth 20000 in
theorem ggX0_make_X0_passingBehind : GoodIn wsX0_make wsX0_passingBehind := goodIn_r _ [156, 6, 69, 70, 71, 72, 10, 26, 27, 15, 28, 76, 77, 78, 87, 88, 89, 66, 67, 68, 35, 36, 37, 49, 50, 51, 73, 74, 75, 157, 158, 159, 160, 161, 162, 163, 164, 165, 166, 167, 168, 169] (by decide +kernel) (by decide +kernel)
set_option maxRecDepth 20000 in
theorem gX0_make_X0_passingBehind : GoodIn wsX0_make (wsV RX0 149 RX0 yX0_passingBehind wsX0_passingBehind) := goodIn_app (goodIn_of _ (by decide +kernel)) ggX0_make_X0_passingBehind
set_option maxRecDepth 20000 in
theorem ggX0_make_X0_typeOf : GoodIn wsX0_make wsX0_typeOf := goodIn_r _ [28] (by decide +kernel) (by decide +kernel)
set_option maxRecDepth 20000 in
theorem gX0_make_X0_typeOf : GoodIn wsX0_make (va_wsS RX0 108 yX0_typeOf wsX0_typeOf) := goodIn_app (goodIn_of _ (by decide +kernel)) ggX0_make_X0_typeOf
set_option maxRecDepth 20000 in
theorem ggX0_make_X0_otherThan : GoodIn wsX0_make wsX0_otherThan := goodIn_r _ [78] (by decide +kernel) (by decide +kernel)
set_option maxRecDepth 20000 in
theorem gX0_make_X0_otherThan : GoodIn wsX0_make (va_wsS RX0 152 yX0_otherThan wsX0_otherThan) := goodIn_app (goodIn_of _ (by decide +kernel)) ggX0_make_X0_otherThan
theorem dX0_make_0 : decode cX0_make 0 = .ok (.aload_n 0, 1) := by decide +kernel
theorem dX0_make_1 : decode cX0_make 1 = .ok (.iload_n 1, 1) := by decide +kernel
theorem dX0_make_2 : decode cX0_make 2 = .ok (.invokevirtual 122, 3) := by decide +kernel
theorem dX0_make_5 : decode cX0_make 5 = .ok (.ifCond .ne 13, 3) := by decide +kernel
theorem dX0_make_8 : decode cX0_make 8 = .ok (.new 56, 3) := by decide +kernel
theorem dX0_make_11 : decode cX0_make 11 = .ok (.dup, 1) := by decide +kernel
theorem dX0_make_12 : decode cX0_make 12 = .ok (.ldc 125, 2) := by decide +kernel
theorem dX0_make_14 : decode cX0_make 14 = .ok (.invokespecial 60, 3) := by decide +kernel
theorem dX0_make_17 : decode cX0_make 17 = .ok (.athrow, 1) := by decide +kernel
theorem dX0_make_18 : decode cX0_make 18 = .ok (.aload_n 0, 1) := by decide +kernel
theorem dX0_make_19 : decode cX0_make 19 = .ok (.getfield 127, 3) := by decide +kernel
theorem dX0_make_22 : decode cX0_make 22 = .ok (.sipush 600, 3) := by decide +kernel
theorem dX0_make_25 : decode cX0_make 25 = .ok (.if_icmp .lt 13, 3) := by decide +kernel
theorem dX0_make_28 : decode cX0_make 28 = .ok (.new 65, 3) := by decide +kernel
theorem dX0_make_31 : decode cX0_make 31 = .ok (.dup, 1) := by decide +kernel
theorem dX0_make_32 : decode cX0_make 32 = .ok (.ldc 130, 2) := by decide +kernel
theorem dX0_make_34 : decode cX0_make 34 = .ok (.invokespecial 69, 3) := by decide +kernel
theorem dX0_make_37 : decode cX0_make 37 = .ok (.athrow, 1) := by decide +kernel
theorem dX0_make_38 : decode cX0_make 38 = .ok (.iload_n 1, 1) := by decide +kernel
theorem dX0_make_39 : decode cX0_make 39 = .ok (.invokestatic 98, 3) := by decide +kernel
theorem dX0_make_42 : decode cX0_make 42 = .ok (.istore_n 2, 1) := by decide +kernel
theorem dX0_make_43 : decode cX0_make 43 = .ok (.iload_n 1, 1) := by decide +kernel
theorem dX0_make_44 : decode cX0_make 44 = .ok (.invokestatic 102, 3) := by decide +kernel
theorem dX0_make_47 : decode cX0_make 47 = .ok (.istore_n 3, 1) := by decide +kernel
theorem dX0_make_48 : decode cX0_make 48 = .ok (.aload_n 0, 1) := by decide +kernel
theorem dX0_make_49 : decode cX0_make 49 = .ok (.getfield 9, 3) := by decide +kernel
theorem dX0_make_52 : decode cX0_make 52 = .ok (.iload_n 2, 1) := by decide +kernel
theorem dX0_make_53 : decode cX0_make 53 = .ok (.iaload, 1) := by decide +kernel
theorem dX0_make_54 : decode cX0_make 54 = .ok (.istore 4, 2) := by decide +kernel
theorem dX0_make_56 : decode cX0_make 56 = .ok (.aload_n 0, 1) := by decide +kernel
theorem dX0_make_57 : decode cX0_make 57 = .ok (.iload_n 2, 1) := by decide +kernel
theorem dX0_make_58 : decode cX0_make 58 = .ok (.iload_n 3, 1) := by decide +kernel
theorem dX0_make_59 : decode cX0_make 59 = .ok (.invokevirtual 132, 3) := by decide +kernel
theorem dX0_make_62 : decode cX0_make 62 = .ok (.istore 5, 2) := by decide +kernel
theorem dX0_make_64 : decode cX0_make 64 = .ok (.aload_n 0, 1) := by decide +kernel
theorem dX0_make_65 : decode cX0_make 65 = .ok (.getfield 9, 3) := by decide +kernel
theorem dX0_make_68 : decode cX0_make 68 = .ok (.iload 5, 2) := by decide +kernel
theorem dX0_make_70 : decode cX0_make 70 = .ok (.iaload, 1) := by decide +kernel
theorem dX0_make_71 : decode cX0_make 71 = .ok (.istore 6, 2) := by decide +kernel
theorem dX0_make_73 : decode cX0_make 73 = .ok (.aload_n 0, 1) := by decide +kernel
theorem dX0_make_74 : decode cX0_make 74 = .ok (.iload_n 1, 1) := by decide +kernel
theorem dX0_make_75 : decode cX0_make 75 = .ok (.iload 6, 2) := by decide +kernel
theorem dX0_make_77 : decode cX0_make 77 = .ok (.iload 5, 2) := by decide +kernel
theorem dX0_make_79 : decode cX0_make 79 = .ok (.invokevirtual 135, 3) := by decide +kernel
theorem dX0_make_82 : decode cX0_make 82 = .ok (.aload_n 0, 1) := by decide +kernel
theorem dX0_make_83 : decode cX0_make 83 = .ok (.iload_n 1, 1) := by decide +kernel
theorem dX0_make_84 : decode cX0_make 84 = .ok (.iload 5, 2) := by decide +kernel
theorem dX0_make_86 : decode cX0_make 86 = .ok (.invokevirtual 139, 3) := by decide +kernel
theorem dX0_make_89 : decode cX0_make 89 = .ok (.aload_n 0, 1) := by decide +kernel
theorem dX0_make_90 : decode cX0_make 90 = .ok (.dup, 1) := by decide +kernel
theorem dX0_make_91 : decode cX0_make 91 = .ok (.getfield 41, 3) := by decide +kernel
theorem dX0_make_94 : decode cX0_make 94 = .ok (.iload 4, 2) := by decide +kernel
theorem dX0_make_96 : decode cX0_make 96 = .ok (.invokestatic 143, 3) := by decide +kernel
theorem dX0_make_99 : decode cX0_make 99 = .ok (.iload_n 2, 1) := by decide +kernel
theorem dX0_make_100 : decode cX0_make 100 = .ok (.invokestatic 146, 3) := by decide +kernel
theorem dX0_make_103 : decode cX0_make 103 = .ok (.ior, 1) := by decide +kernel
theorem dX0_make_104 : decode cX0_make 104 = .ok (.iload_n 3, 1) := by decide +kernel
theorem dX0_make_105 : decode cX0_make 105 = .ok (.invokestatic 146, 3) := by decide +kernel
theorem dX0_make_108 : decode cX0_make 108 = .ok (.ior, 1) := by decide +kernel
theorem dX0_make_109 : decode cX0_make 109 = .ok (.iconst (-1), 1) := by decide +kernel
theorem dX0_make_110 : decode cX0_make 110 = .ok (.ixor, 1) := by decide +kernel
theorem dX0_make_111 : decode cX0_make 111 = .ok (.iand, 1) := by decide +kernel
theorem dX0_make_112 : decode cX0_make 112 = .ok (.putfield 41, 3) := by decide +kernel
theorem dX0_make_115 : decode cX0_make 115 = .ok (.aload_n 0, 1) := by decide +kernel
theorem dX0_make_116 : decode cX0_make 116 = .ok (.aload_n 0, 1) := by decide +kernel
theorem dX0_make_117 : decode cX0_make 117 = .ok (.iload_n 2, 1) := by decide +kernel
theorem dX0_make_118 : decode cX0_make 118 = .ok (.iload_n 3, 1) := by decide +kernel
theorem dX0_make_119 : decode cX0_make 119 = .ok (.invokevirtual 149, 3) := by decide +kernel
theorem dX0_make_122 : decode cX0_make 122 = .ok (.putfield 85, 3) := by decide +kernel
theorem dX0_make_125 : decode cX0_make 125 = .ok (.aload_n 0, 1) := by decide +kernel
theorem dX0_make_126 : decode cX0_make 126 = .ok (.iload 4, 2) := by decide +kernel
theorem dX0_make_128 : decode cX0_make 128 = .ok (.invokestatic 108, 3) := by decide +kernel
theorem dX0_make_131 : decode cX0_make 131 = .ok (.iconst 1, 1) := by decide +kernel
theorem dX0_make_132 : decode cX0_make 132 = .ok (.if_icmp .eq 8, 3) := by decide +kernel
theorem dX0_make_135 : decode cX0_make 135 = .ok (.iload 6, 2) := by decide +kernel
theorem dX0_make_137 : decode cX0_make 137 = .ok (.ifCond .eq 7, 3) := by decide +kernel
theorem dX0_make_140 : decode cX0_make 140 = .ok (.iconst 0, 1) := by decide +kernel
theorem dX0_make_141 : decode cX0_make 141 = .ok (.goto 9, 3) := by decide +kernel
end
section
theorem dX0_make_144 : decode cX0_make 144 = .ok (.aload_n 0, 1) := by decide +kernel
theorem dX0_make_145 : decode cX0_make 145 = .ok (.getfield 92, 3) := by decide +kernel
theorem dX0_make_148 : decode cX0_make 148 = .ok (.iconst 1, 1) := by decide +kernel
theorem dX0_make_149 : decode cX0_make 149 = .ok (.iadd, 1) := by decide +kernel
theorem dX0_make_150 : decode cX0_make 150 = .ok (.putfield 92, 3) := by decide +kernel
theorem dX0_make_153 : decode cX0_make 153 = .ok (.aload_n 0, 1) := by decide +kernel
theorem dX0_make_154 : decode cX0_make 154 = .ok (.aload_n 0, 1) := by decide +kernel
theorem dX0_make_155 : decode cX0_make 155 = .ok (.getfield 82, 3) := by decide +kernel
theorem dX0_make_158 : decode cX0_make 158 = .ok (.iconst 1, 1) := by decide +kernel
theorem dX0_make_159 : decode cX0_make 159 = .ok (.if_icmp .ne 12, 3) := by decide +kernel
theorem dX0_make_162 : decode cX0_make 162 = .ok (.aload_n 0, 1) := by decide +kernel
theorem dX0_make_163 : decode cX0_make 163 = .ok (.getfield 95, 3) := by decide +kernel
theorem dX0_make_166 : decode cX0_make 166 = .ok (.iconst 1, 1) := by decide +kernel
theorem dX0_make_167 : decode cX0_make 167 = .ok (.iadd, 1) := by decide +kernel
theorem dX0_make_168 : decode cX0_make 168 = .ok (.goto 7, 3) := by decide +kernel
theorem dX0_make_171 : decode cX0_make 171 = .ok (.aload_n 0, 1) := by decide +kernel
theorem dX0_make_172 : decode cX0_make 172 = .ok (.getfield 95, 3) := by decide +kernel
theorem dX0_make_175 : decode cX0_make 175 = .ok (.putfield 95, 3) := by decide +kernel
theorem dX0_make_178 : decode cX0_make 178 = .ok (.aload_n 0, 1) := by decide +kernel
theorem dX0_make_179 : decode cX0_make 179 = .ok (.aload_n 0, 1) := by decide +kernel
theorem dX0_make_180 : decode cX0_make 180 = .ok (.getfield 82, 3) := by decide +kernel
theorem dX0_make_183 : decode cX0_make 183 = .ok (.invokestatic 152, 3) := by decide +kernel
theorem dX0_make_186 : decode cX0_make 186 = .ok (.putfield 82, 3) := by decide +kernel
theorem dX0_make_189 : decode cX0_make 189 = .ok (.iload 6, 2) := by decide +kernel
theorem dX0_make_191 : decode cX0_make 191 = .ok (.ireturn, 1) := by decide +kernel
set_option maxRecDepth 20000 in
theorem ggX0_unmake_X0_otherThan : GoodIn wsX0_unmake wsX0_otherThan := goodIn_r _ [18] (by decide +kernel) (by decide +kernel)
set_option maxRecDepth 20000 in
theorem gX0_unmake_X0_otherThan : GoodIn wsX0_unmake (va_wsS RX0 152 yX0_otherThan wsX0_otherThan) := goodIn_app (goodIn_of _ (by decide +kernel)) ggX0_unmake_X0_otherThan
set_option maxRecDepth 20000 in
theorem ggX0_unmake_X0_carryBack : GoodIn wsX0_unmake wsX0_carryBack := goodIn_r _ [22, 23, 11, 24, 25, 17, 26, 27, 28, 29, 30, 31, 32, 33, 34, 35, 36, 37, 38, 39, 40, 41, 42, 43, 44, 45, 46, 47, 48, 49, 50, 51, 52, 53, 54, 55, 56, 57, 58, 59, 60, 61, 62, 63, 64, 65, 66, 67, 68, 69, 70, 71, 72, 73, 74] (by decide +kernel) (by decide +kernel)
set_option maxRecDepth 20000 in
theorem gX0_unmake_X0_carryBack : GoodIn wsX0_unmake (wsV RX0 157 RX0 yX0_carryBack wsX0_carryBack) := goodIn_app (goodIn_of _ (by decide +kernel)) ggX0_unmake_X0_carryBack
theorem dX0_unmake_0 : decode cX0_unmake 0 = .ok (.aload_n 0, 1) := by decide +kernel
theorem dX0_unmake_1 : decode cX0_unmake 1 = .ok (.getfield 127, 3) := by decide +kernel
theorem dX0_unmake_4 : decode cX0_unmake 4 = .ok (.ifCond .gt 13, 3) := by decide +kernel
theorem dX0_unmake_7 : decode cX0_unmake 7 = .ok (.new 65, 3) := by decide +kernel
theorem dX0_unmake_10 : decode cX0_unmake 10 = .ok (.dup, 1) := by decide +kernel
theorem dX0_unmake_11 : decode cX0_unmake 11 = .ok (.ldc 155, 2) := by decide +kernel
theorem dX0_unmake_13 : decode cX0_unmake 13 = .ok (.invokespecial 69, 3) := by decide +kernel
theorem dX0_unmake_16 : decode cX0_unmake 16 = .ok (.athrow, 1) := by decide +kernel
theorem dX0_unmake_17 : decode cX0_unmake 17 = .ok (.aload_n 0, 1) := by decide +kernel
theorem dX0_unmake_18 : decode cX0_unmake 18 = .ok (.dup, 1) := by decide +kernel
theorem dX0_unmake_19 : decode cX0_unmake 19 = .ok (.getfield 127, 3) := by decide +kernel
theorem dX0_unmake_22 : decode cX0_unmake 22 = .ok (.iconst 1, 1) := by decide +kernel
theorem dX0_unmake_23 : decode cX0_unmake 23 = .ok (.isub, 1) := by decide +kernel
theorem dX0_unmake_24 : decode cX0_unmake 24 = .ok (.putfield 127, 3) := by decide +kernel
theorem dX0_unmake_27 : decode cX0_unmake 27 = .ok (.aload_n 0, 1) := by decide +kernel
theorem dX0_unmake_28 : decode cX0_unmake 28 = .ok (.getfield 13, 3) := by decide +kernel
theorem dX0_unmake_31 : decode cX0_unmake 31 = .ok (.aload_n 0, 1) := by decide +kernel
theorem dX0_unmake_32 : decode cX0_unmake 32 = .ok (.getfield 127, 3) := by decide +kernel
theorem dX0_unmake_35 : decode cX0_unmake 35 = .ok (.iaload, 1) := by decide +kernel
theorem dX0_unmake_36 : decode cX0_unmake 36 = .ok (.istore_n 1, 1) := by decide +kernel
theorem dX0_unmake_37 : decode cX0_unmake 37 = .ok (.aload_n 0, 1) := by decide +kernel
theorem dX0_unmake_38 : decode cX0_unmake 38 = .ok (.aload_n 0, 1) := by decide +kernel
theorem dX0_unmake_39 : decode cX0_unmake 39 = .ok (.getfield 22, 3) := by decide +kernel
theorem dX0_unmake_42 : decode cX0_unmake 42 = .ok (.aload_n 0, 1) := by decide +kernel
theorem dX0_unmake_43 : decode cX0_unmake 43 = .ok (.getfield 127, 3) := by decide +kernel
theorem dX0_unmake_46 : decode cX0_unmake 46 = .ok (.iaload, 1) := by decide +kernel
theorem dX0_unmake_47 : decode cX0_unmake 47 = .ok (.putfield 41, 3) := by decide +kernel
theorem dX0_unmake_50 : decode cX0_unmake 50 = .ok (.aload_n 0, 1) := by decide +kernel
theorem dX0_unmake_51 : decode cX0_unmake 51 = .ok (.aload_n 0, 1) := by decide +kernel
theorem dX0_unmake_52 : decode cX0_unmake 52 = .ok (.getfield 25, 3) := by decide +kernel
theorem dX0_unmake_55 : decode cX0_unmake 55 = .ok (.aload_n 0, 1) := by decide +kernel
theorem dX0_unmake_56 : decode cX0_unmake 56 = .ok (.getfield 127, 3) := by decide +kernel
theorem dX0_unmake_59 : decode cX0_unmake 59 = .ok (.iaload, 1) := by decide +kernel
theorem dX0_unmake_60 : decode cX0_unmake 60 = .ok (.putfield 85, 3) := by decide +kernel
theorem dX0_unmake_63 : decode cX0_unmake 63 = .ok (.aload_n 0, 1) := by decide +kernel
theorem dX0_unmake_64 : decode cX0_unmake 64 = .ok (.aload_n 0, 1) := by decide +kernel
theorem dX0_unmake_65 : decode cX0_unmake 65 = .ok (.getfield 28, 3) := by decide +kernel
theorem dX0_unmake_68 : decode cX0_unmake 68 = .ok (.aload_n 0, 1) := by decide +kernel
theorem dX0_unmake_69 : decode cX0_unmake 69 = .ok (.getfield 127, 3) := by decide +kernel
theorem dX0_unmake_72 : decode cX0_unmake 72 = .ok (.iaload, 1) := by decide +kernel
theorem dX0_unmake_73 : decode cX0_unmake 73 = .ok (.putfield 92, 3) := by decide +kernel
theorem dX0_unmake_76 : decode cX0_unmake 76 = .ok (.aload_n 0, 1) := by decide +kernel
theorem dX0_unmake_77 : decode cX0_unmake 77 = .ok (.aload_n 0, 1) := by decide +kernel
theorem dX0_unmake_78 : decode cX0_unmake 78 = .ok (.getfield 82, 3) := by decide +kernel
theorem dX0_unmake_81 : decode cX0_unmake 81 = .ok (.invokestatic 152, 3) := by decide +kernel
theorem dX0_unmake_84 : decode cX0_unmake 84 = .ok (.putfield 82, 3) := by decide +kernel
theorem dX0_unmake_87 : decode cX0_unmake 87 = .ok (.aload_n 0, 1) := by decide +kernel
theorem dX0_unmake_88 : decode cX0_unmake 88 = .ok (.aload_n 0, 1) := by decide +kernel
theorem dX0_unmake_89 : decode cX0_unmake 89 = .ok (.getfield 82, 3) := by decide +kernel
theorem dX0_unmake_92 : decode cX0_unmake 92 = .ok (.iconst 1, 1) := by decide +kernel
theorem dX0_unmake_93 : decode cX0_unmake 93 = .ok (.if_icmp .ne 12, 3) := by decide +kernel
theorem dX0_unmake_96 : decode cX0_unmake 96 = .ok (.aload_n 0, 1) := by decide +kernel
theorem dX0_unmake_97 : decode cX0_unmake 97 = .ok (.getfield 95, 3) := by decide +kernel
theorem dX0_unmake_100 : decode cX0_unmake 100 = .ok (.iconst 1, 1) := by decide +kernel
theorem dX0_unmake_101 : decode cX0_unmake 101 = .ok (.isub, 1) := by decide +kernel
theorem dX0_unmake_102 : decode cX0_unmake 102 = .ok (.goto 7, 3) := by decide +kernel
theorem dX0_unmake_105 : decode cX0_unmake 105 = .ok (.aload_n 0, 1) := by decide +kernel
theorem dX0_unmake_106 : decode cX0_unmake 106 = .ok (.getfield 95, 3) := by decide +kernel
theorem dX0_unmake_109 : decode cX0_unmake 109 = .ok (.putfield 95, 3) := by decide +kernel
theorem dX0_unmake_112 : decode cX0_unmake 112 = .ok (.aload_n 0, 1) := by decide +kernel
theorem dX0_unmake_113 : decode cX0_unmake 113 = .ok (.iload_n 1, 1) := by decide +kernel
theorem dX0_unmake_114 : decode cX0_unmake 114 = .ok (.aload_n 0, 1) := by decide +kernel
theorem dX0_unmake_115 : decode cX0_unmake 115 = .ok (.getfield 16, 3) := by decide +kernel
theorem dX0_unmake_118 : decode cX0_unmake 118 = .ok (.aload_n 0, 1) := by decide +kernel
theorem dX0_unmake_119 : decode cX0_unmake 119 = .ok (.getfield 127, 3) := by decide +kernel
theorem dX0_unmake_122 : decode cX0_unmake 122 = .ok (.iaload, 1) := by decide +kernel
theorem dX0_unmake_123 : decode cX0_unmake 123 = .ok (.aload_n 0, 1) := by decide +kernel
theorem dX0_unmake_124 : decode cX0_unmake 124 = .ok (.getfield 19, 3) := by decide +kernel
theorem dX0_unmake_127 : decode cX0_unmake 127 = .ok (.aload_n 0, 1) := by decide +kernel
theorem dX0_unmake_128 : decode cX0_unmake 128 = .ok (.getfield 127, 3) := by decide +kernel
theorem dX0_unmake_131 : decode cX0_unmake 131 = .ok (.iaload, 1) := by decide +kernel
theorem dX0_unmake_132 : decode cX0_unmake 132 = .ok (.invokevirtual 157, 3) := by decide +kernel
theorem dX0_unmake_135 : decode cX0_unmake 135 = .ok (.iload_n 1, 1) := by decide +kernel
theorem dX0_unmake_136 : decode cX0_unmake 136 = .ok (.ireturn, 1) := by decide +kernel
set_option maxRecDepth 20000 in
theorem ggX0_at_X0_isSquare : GoodIn wsX0_at wsX0_isSquare := goodIn_r _ [7] (by decide +kernel) (by decide +kernel)
set_option maxRecDepth 20000 in
theorem gX0_at_X0_isSquare : GoodIn wsX0_at (va_wsS RX0 45 yX0_isSquare wsX0_isSquare) := goodIn_app (goodIn_of _ (by decide +kernel)) ggX0_at_X0_isSquare
theorem dX0_at_0 : decode cX0_at 0 = .ok (.iload_n 1, 1) := by decide +kernel
theorem dX0_at_1 : decode cX0_at 1 = .ok (.invokestatic 45, 3) := by decide +kernel
theorem dX0_at_4 : decode cX0_at 4 = .ok (.ifCond .ne 13, 3) := by decide +kernel
theorem dX0_at_7 : decode cX0_at 7 = .ok (.new 49, 3) := by decide +kernel
theorem dX0_at_10 : decode cX0_at 10 = .ok (.dup, 1) := by decide +kernel
theorem dX0_at_11 : decode cX0_at 11 = .ok (.ldc 51, 2) := by decide +kernel
theorem dX0_at_13 : decode cX0_at 13 = .ok (.invokespecial 53, 3) := by decide +kernel
theorem dX0_at_16 : decode cX0_at 16 = .ok (.athrow, 1) := by decide +kernel
theorem dX0_at_17 : decode cX0_at 17 = .ok (.aload_n 0, 1) := by decide +kernel
theorem dX0_at_18 : decode cX0_at 18 = .ok (.getfield 9, 3) := by decide +kernel
theorem dX0_at_21 : decode cX0_at 21 = .ok (.iload_n 1, 1) := by decide +kernel
theorem dX0_at_22 : decode cX0_at 22 = .ok (.iaload, 1) := by decide +kernel
theorem dX0_at_23 : decode cX0_at 23 = .ok (.ireturn, 1) := by decide +kernel
theorem dX0_where_0 : decode cX0_where 0 = .ok (.lconst 0, 1) := by decide +kernel
theorem dX0_where_1 : decode cX0_where 1 = .ok (.lstore_n 2, 1) := by decide +kernel
theorem dX0_where_2 : decode cX0_where 2 = .ok (.iconst 0, 1) := by decide +kernel
theorem dX0_where_3 : decode cX0_where 3 = .ok (.istore 4, 2) := by decide +kernel
theorem dX0_where_5 : decode cX0_where 5 = .ok (.iload 4, 2) := by decide +kernel
theorem dX0_where_7 : decode cX0_where 7 = .ok (.bipush 64, 2) := by decide +kernel
theorem dX0_where_9 : decode cX0_where 9 = .ok (.if_icmp .ge 27, 3) := by decide +kernel
theorem dX0_where_12 : decode cX0_where 12 = .ok (.aload_n 0, 1) := by decide +kernel
theorem dX0_where_13 : decode cX0_where 13 = .ok (.getfield 9, 3) := by decide +kernel
theorem dX0_where_16 : decode cX0_where 16 = .ok (.iload 4, 2) := by decide +kernel
theorem dX0_where_18 : decode cX0_where 18 = .ok (.iaload, 1) := by decide +kernel
theorem dX0_where_19 : decode cX0_where 19 = .ok (.iload_n 1, 1) := by decide +kernel
theorem dX0_where_20 : decode cX0_where 20 = .ok (.if_icmp .ne 10, 3) := by decide +kernel
theorem dX0_where_23 : decode cX0_where 23 = .ok (.lload_n 2, 1) := by decide +kernel
theorem dX0_where_24 : decode cX0_where 24 = .ok (.lconst 1, 1) := by decide +kernel
theorem dX0_where_25 : decode cX0_where 25 = .ok (.iload 4, 2) := by decide +kernel
theorem dX0_where_27 : decode cX0_where 27 = .ok (.lshl, 1) := by decide +kernel
theorem dX0_where_28 : decode cX0_where 28 = .ok (.lor, 1) := by decide +kernel
theorem dX0_where_29 : decode cX0_where 29 = .ok (.lstore_n 2, 1) := by decide +kernel
theorem dX0_where_30 : decode cX0_where 30 = .ok (.iinc 4 1, 3) := by decide +kernel
theorem dX0_where_33 : decode cX0_where 33 = .ok (.goto (-28), 3) := by decide +kernel
theorem dX0_where_36 : decode cX0_where 36 = .ok (.lload_n 2, 1) := by decide +kernel
theorem dX0_where_37 : decode cX0_where 37 = .ok (.lreturn, 1) := by decide +kernel
set_option maxRecDepth 20000 in
theorem ggX0_attackers_X0_isSquare : GoodIn wsX0_attackers wsX0_isSquare := goodIn_r _ [9] (by decide +kernel) (by decide +kernel)
set_option maxRecDepth 20000 in
theorem gX0_attackers_X0_isSquare : GoodIn wsX0_attackers (va_wsS RX0 45 yX0_isSquare wsX0_isSquare) := goodIn_app (goodIn_of _ (by decide +kernel)) ggX0_attackers_X0_isSquare
set_option maxRecDepth 20000 in
theorem ggX0_attackers_X0_isSide : GoodIn wsX0_attackers wsX0_isSide := goodIn_r _ [12] (by decide +kernel) (by decide +kernel)
set_option maxRecDepth 20000 in
theorem gX0_attackers_X0_isSide : GoodIn wsX0_attackers (va_wsS RX0 73 yX0_isSide wsX0_isSide) := goodIn_app (goodIn_of _ (by decide +kernel)) ggX0_attackers_X0_isSide
set_option maxRecDepth 20000 in
theorem ggX0_attackers_X0_sideOf : GoodIn wsX0_attackers wsX0_sideOf := goodIn_r _ [15] (by decide +kernel) (by decide +kernel)
set_option maxRecDepth 20000 in
theorem gX0_attackers_X0_sideOf : GoodIn wsX0_attackers (va_wsS RX0 105 yX0_sideOf wsX0_sideOf) := goodIn_app (goodIn_of _ (by decide +kernel)) ggX0_attackers_X0_sideOf
set_option maxRecDepth 20000 in
theorem ggX0_attackers_X0_attacks : GoodIn wsX0_attackers wsX0_attacks := goodIn_r _ [19, 5, 20, 21, 22, 23, 24, 25, 8, 26, 27, 28, 29, 30, 31, 32, 13, 14, 15, 33, 34, 35, 36, 37, 38, 39, 40, 41, 42, 43, 44, 45, 46, 47, 48, 49, 50, 51, 52, 53, 6, 7, 9, 54, 55, 56, 57, 58, 59, 60, 61, 62, 63, 64, 65, 66] (by decide +kernel) (by decide +kernel)
set_option maxRecDepth 20000 in
theorem gX0_attackers_X0_attacks : GoodIn wsX0_attackers (wsV RX0 160 RX0 yX0_attacks wsX0_attacks) := goodIn_app (goodIn_of _ (by decide +kernel)) ggX0_attackers_X0_attacks
theorem dX0_attackers_0 : decode cX0_attackers 0 = .ok (.iload_n 1, 1) := by decide +kernel
theorem dX0_attackers_1 : decode cX0_attackers 1 = .ok (.invokestatic 45, 3) := by decide +kernel
theorem dX0_attackers_4 : decode cX0_attackers 4 = .ok (.ifCond .ne 13, 3) := by decide +kernel
theorem dX0_attackers_7 : decode cX0_attackers 7 = .ok (.new 49, 3) := by decide +kernel
theorem dX0_attackers_10 : decode cX0_attackers 10 = .ok (.dup, 1) := by decide +kernel
theorem dX0_attackers_11 : decode cX0_attackers 11 = .ok (.ldc 51, 2) := by decide +kernel
theorem dX0_attackers_13 : decode cX0_attackers 13 = .ok (.invokespecial 53, 3) := by decide +kernel
theorem dX0_attackers_16 : decode cX0_attackers 16 = .ok (.athrow, 1) := by decide +kernel
theorem dX0_attackers_17 : decode cX0_attackers 17 = .ok (.iload_n 2, 1) := by decide +kernel
theorem dX0_attackers_18 : decode cX0_attackers 18 = .ok (.invokestatic 73, 3) := by decide +kernel
theorem dX0_attackers_21 : decode cX0_attackers 21 = .ok (.ifCond .ne 13, 3) := by decide +kernel
theorem dX0_attackers_24 : decode cX0_attackers 24 = .ok (.new 56, 3) := by decide +kernel
theorem dX0_attackers_27 : decode cX0_attackers 27 = .ok (.dup, 1) := by decide +kernel
theorem dX0_attackers_28 : decode cX0_attackers 28 = .ok (.ldc 76, 2) := by decide +kernel
theorem dX0_attackers_30 : decode cX0_attackers 30 = .ok (.invokespecial 60, 3) := by decide +kernel
theorem dX0_attackers_33 : decode cX0_attackers 33 = .ok (.athrow, 1) := by decide +kernel
theorem dX0_attackers_34 : decode cX0_attackers 34 = .ok (.lconst 0, 1) := by decide +kernel
theorem dX0_attackers_35 : decode cX0_attackers 35 = .ok (.lstore_n 3, 1) := by decide +kernel
theorem dX0_attackers_36 : decode cX0_attackers 36 = .ok (.iconst 0, 1) := by decide +kernel
theorem dX0_attackers_37 : decode cX0_attackers 37 = .ok (.istore 5, 2) := by decide +kernel
theorem dX0_attackers_39 : decode cX0_attackers 39 = .ok (.iload 5, 2) := by decide +kernel
theorem dX0_attackers_41 : decode cX0_attackers 41 = .ok (.bipush 64, 2) := by decide +kernel
theorem dX0_attackers_43 : decode cX0_attackers 43 = .ok (.if_icmp .ge 40, 3) := by decide +kernel
theorem dX0_attackers_46 : decode cX0_attackers 46 = .ok (.aload_n 0, 1) := by decide +kernel
theorem dX0_attackers_47 : decode cX0_attackers 47 = .ok (.getfield 9, 3) := by decide +kernel
theorem dX0_attackers_50 : decode cX0_attackers 50 = .ok (.iload 5, 2) := by decide +kernel
theorem dX0_attackers_52 : decode cX0_attackers 52 = .ok (.iaload, 1) := by decide +kernel
theorem dX0_attackers_53 : decode cX0_attackers 53 = .ok (.invokestatic 105, 3) := by decide +kernel
theorem dX0_attackers_56 : decode cX0_attackers 56 = .ok (.iload_n 2, 1) := by decide +kernel
theorem dX0_attackers_57 : decode cX0_attackers 57 = .ok (.if_icmp .ne 20, 3) := by decide +kernel
theorem dX0_attackers_60 : decode cX0_attackers 60 = .ok (.aload_n 0, 1) := by decide +kernel
theorem dX0_attackers_61 : decode cX0_attackers 61 = .ok (.iload 5, 2) := by decide +kernel
theorem dX0_attackers_63 : decode cX0_attackers 63 = .ok (.iload_n 1, 1) := by decide +kernel
theorem dX0_attackers_64 : decode cX0_attackers 64 = .ok (.invokevirtual 160, 3) := by decide +kernel
theorem dX0_attackers_67 : decode cX0_attackers 67 = .ok (.ifCond .eq 10, 3) := by decide +kernel
theorem dX0_attackers_70 : decode cX0_attackers 70 = .ok (.lload_n 3, 1) := by decide +kernel
theorem dX0_attackers_71 : decode cX0_attackers 71 = .ok (.lconst 1, 1) := by decide +kernel
theorem dX0_attackers_72 : decode cX0_attackers 72 = .ok (.iload 5, 2) := by decide +kernel
theorem dX0_attackers_74 : decode cX0_attackers 74 = .ok (.lshl, 1) := by decide +kernel
theorem dX0_attackers_75 : decode cX0_attackers 75 = .ok (.lor, 1) := by decide +kernel
theorem dX0_attackers_76 : decode cX0_attackers 76 = .ok (.lstore_n 3, 1) := by decide +kernel
theorem dX0_attackers_77 : decode cX0_attackers 77 = .ok (.iinc 5 1, 3) := by decide +kernel
theorem dX0_attackers_80 : decode cX0_attackers 80 = .ok (.goto (-41), 3) := by decide +kernel
theorem dX0_attackers_83 : decode cX0_attackers 83 = .ok (.lload_n 3, 1) := by decide +kernel
theorem dX0_attackers_84 : decode cX0_attackers 84 = .ok (.lreturn, 1) := by decide +kernel
set_option maxRecDepth 20000 in
theorem ggX0_check_X0_isSide : GoodIn wsX0_check wsX0_isSide := goodIn_r _ [5] (by decide +kernel) (by decide +kernel)
set_option maxRecDepth 20000 in
theorem gX0_check_X0_isSide : GoodIn wsX0_check (va_wsS RX0 73 yX0_isSide wsX0_isSide) := goodIn_app (goodIn_of _ (by decide +kernel)) ggX0_check_X0_isSide
set_option maxRecDepth 20000 in
theorem ggX0_check_X0_pieceOf : GoodIn wsX0_check wsX0_pieceOf := goodIn_r _ [8] (by decide +kernel) (by decide +kernel)
set_option maxRecDepth 20000 in
theorem gX0_check_X0_pieceOf : GoodIn wsX0_check (va_wsS RX0 37 yX0_pieceOf wsX0_pieceOf) := goodIn_app (goodIn_of _ (by decide +kernel)) ggX0_check_X0_pieceOf
set_option maxRecDepth 20000 in
theorem ggX0_check_X0_otherThan : GoodIn wsX0_check wsX0_otherThan := goodIn_r _ [11] (by decide +kernel) (by decide +kernel)
set_option maxRecDepth 20000 in
theorem gX0_check_X0_otherThan : GoodIn wsX0_check (va_wsS RX0 152 yX0_otherThan wsX0_otherThan) := goodIn_app (goodIn_of _ (by decide +kernel)) ggX0_check_X0_otherThan
set_option maxRecDepth 20000 in
theorem ggX0_check_X0_attackers : GoodIn wsX0_check wsX0_attackers := goodIn_ca (goodIn_ca (goodIn_r _ [15, 16, 17, 18, 19, 1, 20, 21, 4, 22, 2, 3, 5, 23, 24, 25, 26, 27, 28, 29, 30, 31, 32, 33, 34, 35, 36, 37, 38, 39, 40, 41, 42, 43, 44, 45, 46, 47, 48, 49, 50, 51, 52, 53, 54, 55, 56, 57, 58, 59, 60, 61, 62, 63, 64, 65, 66, 67, 68, 69, 70, 71, 72, 73, 74, 75, 76] (by decide +kernel) (by decide +kernel)) (goodIn_sub (fun _ h => List.mem_cons_of_mem _ (List.mem_append_left _ (List.mem_append_right _ h))) (by decide +kernel))) (goodIn_sub (fun _ h => List.mem_cons_of_mem _ (List.mem_append_right _ h)) (by decide +kernel))
set_option maxRecDepth 20000 in
theorem gX0_check_X0_attackers : GoodIn wsX0_check (wsV RX0 163 RX0 yX0_attackers wsX0_attackers) := goodIn_app (goodIn_of _ (by decide +kernel)) ggX0_check_X0_attackers
theorem dX0_check_0 : decode cX0_check 0 = .ok (.iload_n 1, 1) := by decide +kernel
theorem dX0_check_1 : decode cX0_check 1 = .ok (.invokestatic 73, 3) := by decide +kernel
theorem dX0_check_4 : decode cX0_check 4 = .ok (.ifCond .ne 5, 3) := by decide +kernel
theorem dX0_check_7 : decode cX0_check 7 = .ok (.iconst 0, 1) := by decide +kernel
theorem dX0_check_8 : decode cX0_check 8 = .ok (.ireturn, 1) := by decide +kernel
theorem dX0_check_9 : decode cX0_check 9 = .ok (.iconst 0, 1) := by decide +kernel
theorem dX0_check_10 : decode cX0_check 10 = .ok (.istore_n 2, 1) := by decide +kernel
theorem dX0_check_11 : decode cX0_check 11 = .ok (.iload_n 2, 1) := by decide +kernel
theorem dX0_check_12 : decode cX0_check 12 = .ok (.bipush 64, 2) := by decide +kernel
theorem dX0_check_14 : decode cX0_check 14 = .ok (.if_icmp .ge 40, 3) := by decide +kernel
theorem dX0_check_17 : decode cX0_check 17 = .ok (.aload_n 0, 1) := by decide +kernel
theorem dX0_check_18 : decode cX0_check 18 = .ok (.getfield 9, 3) := by decide +kernel
theorem dX0_check_21 : decode cX0_check 21 = .ok (.iload_n 2, 1) := by decide +kernel
theorem dX0_check_22 : decode cX0_check 22 = .ok (.iaload, 1) := by decide +kernel
theorem dX0_check_23 : decode cX0_check 23 = .ok (.bipush 6, 2) := by decide +kernel
theorem dX0_check_25 : decode cX0_check 25 = .ok (.iload_n 1, 1) := by decide +kernel
theorem dX0_check_26 : decode cX0_check 26 = .ok (.invokestatic 37, 3) := by decide +kernel
theorem dX0_check_29 : decode cX0_check 29 = .ok (.if_icmp .ne 19, 3) := by decide +kernel
theorem dX0_check_32 : decode cX0_check 32 = .ok (.aload_n 0, 1) := by decide +kernel
theorem dX0_check_33 : decode cX0_check 33 = .ok (.iload_n 2, 1) := by decide +kernel
theorem dX0_check_34 : decode cX0_check 34 = .ok (.iload_n 1, 1) := by decide +kernel
theorem dX0_check_35 : decode cX0_check 35 = .ok (.invokestatic 152, 3) := by decide +kernel
theorem dX0_check_38 : decode cX0_check 38 = .ok (.invokevirtual 163, 3) := by decide +kernel
theorem dX0_check_41 : decode cX0_check 41 = .ok (.lconst 0, 1) := by decide +kernel
theorem dX0_check_42 : decode cX0_check 42 = .ok (.lcmp, 1) := by decide +kernel
theorem dX0_check_43 : decode cX0_check 43 = .ok (.ifCond .eq 5, 3) := by decide +kernel
theorem dX0_check_46 : decode cX0_check 46 = .ok (.iconst 1, 1) := by decide +kernel
theorem dX0_check_47 : decode cX0_check 47 = .ok (.ireturn, 1) := by decide +kernel
theorem dX0_check_48 : decode cX0_check 48 = .ok (.iinc 2 1, 3) := by decide +kernel
theorem dX0_check_51 : decode cX0_check 51 = .ok (.goto (-40), 3) := by decide +kernel
theorem dX0_check_54 : decode cX0_check 54 = .ok (.iconst 0, 1) := by decide +kernel
theorem dX0_check_55 : decode cX0_check 55 = .ok (.ireturn, 1) := by decide +kernel
set_option maxRecDepth 20000 in
theorem ggX0_key_X0_mixed : GoodIn wsX0_key wsX0_mixed := goodIn_r _ [9, 10, 11, 12] (by decide +kernel) (by decide +kernel)
set_option maxRecDepth 20000 in
theorem gX0_key_X0_mixed : GoodIn wsX0_key (va_wsS RX0 167 yX0_mixed wsX0_mixed) := goodIn_app (goodIn_of _ (by decide +kernel)) ggX0_key_X0_mixed
theorem dX0_key_0 : decode cX0_key 0 = .ok (.sipush 900, 3) := by decide +kernel
theorem dX0_key_3 : decode cX0_key 3 = .ok (.aload_n 0, 1) := by decide +kernel
theorem dX0_key_4 : decode cX0_key 4 = .ok (.getfield 41, 3) := by decide +kernel
theorem dX0_key_7 : decode cX0_key 7 = .ok (.iadd, 1) := by decide +kernel
theorem dX0_key_8 : decode cX0_key 8 = .ok (.i2l, 1) := by decide +kernel
theorem dX0_key_9 : decode cX0_key 9 = .ok (.invokestatic 167, 3) := by decide +kernel
theorem dX0_key_12 : decode cX0_key 12 = .ok (.sipush 1000, 3) := by decide +kernel
theorem dX0_key_15 : decode cX0_key 15 = .ok (.aload_n 0, 1) := by decide +kernel
theorem dX0_key_16 : decode cX0_key 16 = .ok (.getfield 85, 3) := by decide +kernel
theorem dX0_key_19 : decode cX0_key 19 = .ok (.iadd, 1) := by decide +kernel
theorem dX0_key_20 : decode cX0_key 20 = .ok (.i2l, 1) := by decide +kernel
theorem dX0_key_21 : decode cX0_key 21 = .ok (.invokestatic 167, 3) := by decide +kernel
theorem dX0_key_24 : decode cX0_key 24 = .ok (.lxor, 1) := by decide +kernel
theorem dX0_key_25 : decode cX0_key 25 = .ok (.lstore_n 1, 1) := by decide +kernel
theorem dX0_key_26 : decode cX0_key 26 = .ok (.aload_n 0, 1) := by decide +kernel
theorem dX0_key_27 : decode cX0_key 27 = .ok (.getfield 82, 3) := by decide +kernel
theorem dX0_key_30 : decode cX0_key 30 = .ok (.iconst 1, 1) := by decide +kernel
theorem dX0_key_31 : decode cX0_key 31 = .ok (.if_icmp .ne 12, 3) := by decide +kernel
theorem dX0_key_34 : decode cX0_key 34 = .ok (.lload_n 1, 1) := by decide +kernel
theorem dX0_key_35 : decode cX0_key 35 = .ok (.ldc2_w 171, 3) := by decide +kernel
theorem dX0_key_38 : decode cX0_key 38 = .ok (.invokestatic 167, 3) := by decide +kernel
theorem dX0_key_41 : decode cX0_key 41 = .ok (.lxor, 1) := by decide +kernel
theorem dX0_key_42 : decode cX0_key 42 = .ok (.lstore_n 1, 1) := by decide +kernel
theorem dX0_key_43 : decode cX0_key 43 = .ok (.iconst 0, 1) := by decide +kernel
theorem dX0_key_44 : decode cX0_key 44 = .ok (.istore_n 3, 1) := by decide +kernel
theorem dX0_key_45 : decode cX0_key 45 = .ok (.iload_n 3, 1) := by decide +kernel
theorem dX0_key_46 : decode cX0_key 46 = .ok (.bipush 64, 2) := by decide +kernel
theorem dX0_key_48 : decode cX0_key 48 = .ok (.if_icmp .ge 36, 3) := by decide +kernel
theorem dX0_key_51 : decode cX0_key 51 = .ok (.aload_n 0, 1) := by decide +kernel
theorem dX0_key_52 : decode cX0_key 52 = .ok (.getfield 9, 3) := by decide +kernel
theorem dX0_key_55 : decode cX0_key 55 = .ok (.iload_n 3, 1) := by decide +kernel
theorem dX0_key_56 : decode cX0_key 56 = .ok (.iaload, 1) := by decide +kernel
theorem dX0_key_57 : decode cX0_key 57 = .ok (.ifCond .eq 21, 3) := by decide +kernel
theorem dX0_key_60 : decode cX0_key 60 = .ok (.lload_n 1, 1) := by decide +kernel
theorem dX0_key_61 : decode cX0_key 61 = .ok (.bipush 64, 2) := by decide +kernel
theorem dX0_key_63 : decode cX0_key 63 = .ok (.aload_n 0, 1) := by decide +kernel
theorem dX0_key_64 : decode cX0_key 64 = .ok (.getfield 9, 3) := by decide +kernel
theorem dX0_key_67 : decode cX0_key 67 = .ok (.iload_n 3, 1) := by decide +kernel
theorem dX0_key_68 : decode cX0_key 68 = .ok (.iaload, 1) := by decide +kernel
theorem dX0_key_69 : decode cX0_key 69 = .ok (.imul, 1) := by decide +kernel
theorem dX0_key_70 : decode cX0_key 70 = .ok (.iload_n 3, 1) := by decide +kernel
theorem dX0_key_71 : decode cX0_key 71 = .ok (.iadd, 1) := by decide +kernel
theorem dX0_key_72 : decode cX0_key 72 = .ok (.i2l, 1) := by decide +kernel
theorem dX0_key_73 : decode cX0_key 73 = .ok (.invokestatic 167, 3) := by decide +kernel
theorem dX0_key_76 : decode cX0_key 76 = .ok (.lxor, 1) := by decide +kernel
theorem dX0_key_77 : decode cX0_key 77 = .ok (.lstore_n 1, 1) := by decide +kernel
theorem dX0_key_78 : decode cX0_key 78 = .ok (.iinc 3 1, 3) := by decide +kernel
theorem dX0_key_81 : decode cX0_key 81 = .ok (.goto (-36), 3) := by decide +kernel
theorem dX0_key_84 : decode cX0_key 84 = .ok (.lload_n 1, 1) := by decide +kernel
theorem dX0_key_85 : decode cX0_key 85 = .ok (.lreturn, 1) := by decide +kernel
theorem dX0_move_0 : decode cX0_move 0 = .ok (.iload_n 1, 1) := by decide +kernel
theorem dX0_move_1 : decode cX0_move 1 = .ok (.ifCond .lt 20, 3) := by decide +kernel
theorem dX0_move_4 : decode cX0_move 4 = .ok (.iload_n 1, 1) := by decide +kernel
theorem dX0_move_5 : decode cX0_move 5 = .ok (.aload_n 0, 1) := by decide +kernel
theorem dX0_move_6 : decode cX0_move 6 = .ok (.getfield 127, 3) := by decide +kernel
theorem dX0_move_9 : decode cX0_move 9 = .ok (.if_icmp .ge 12, 3) := by decide +kernel
theorem dX0_move_12 : decode cX0_move 12 = .ok (.aload_n 0, 1) := by decide +kernel
theorem dX0_move_13 : decode cX0_move 13 = .ok (.getfield 13, 3) := by decide +kernel
theorem dX0_move_16 : decode cX0_move 16 = .ok (.iload_n 1, 1) := by decide +kernel
theorem dX0_move_17 : decode cX0_move 17 = .ok (.iaload, 1) := by decide +kernel
theorem dX0_move_18 : decode cX0_move 18 = .ok (.goto 4, 3) := by decide +kernel
theorem dX0_move_21 : decode cX0_move 21 = .ok (.iconst (-1), 1) := by decide +kernel
theorem dX0_move_22 : decode cX0_move 22 = .ok (.ireturn, 1) := by decide +kernel
set_option maxRecDepth 20000 in
theorem ggX0_look_X0_piecesOnBoard : GoodIn wsX0_look wsX0_piecesOnBoard := goodIn_r _ [11, 12, 13, 14, 10, 15, 16, 17, 18, 19, 20, 21, 22, 23, 37, 38, 39, 40, 41, 42, 43, 44, 45, 46, 47, 48, 49] (by decide +kernel) (by decide +kernel)
set_option maxRecDepth 20000 in
theorem gX0_look_X0_piecesOnBoard : GoodIn wsX0_look (wsV RX0 61 RX0 yX0_piecesOnBoard wsX0_piecesOnBoard) := goodIn_app (goodIn_of _ (by decide +kernel)) ggX0_look_X0_piecesOnBoard
set_option maxRecDepth 20000 in
theorem ggX0_look_X0_material : GoodIn wsX0_look wsX0_material := goodIn_r _ [27, 16, 28, 29, 10, 30, 31, 32, 33, 34, 35, 36, 37, 38, 39, 40, 41, 42, 43, 44, 45, 46, 47, 48, 49] (by decide +kernel) (by decide +kernel)
set_option maxRecDepth 20000 in
theorem gX0_look_X0_material : GoodIn wsX0_look (wsV RX0 173 RX0 yX0_material wsX0_material) := goodIn_app (goodIn_of _ (by decide +kernel)) ggX0_look_X0_material
theorem dX0_look_0 : decode cX0_look 0 = .ok (.iload_n 1, 1) := by decide +kernel
theorem dX0_look_1 : decode cX0_look 1 = .ok (.tableswitch 98 0 8 #[51, 56, 61, 66, 71, 76, 81, 86, 92], 51) := by decide +kernel
theorem dX0_look_52 : decode cX0_look 52 = .ok (.aload_n 0, 1) := by decide +kernel
theorem dX0_look_53 : decode cX0_look 53 = .ok (.getfield 82, 3) := by decide +kernel
theorem dX0_look_56 : decode cX0_look 56 = .ok (.ireturn, 1) := by decide +kernel
theorem dX0_look_57 : decode cX0_look 57 = .ok (.aload_n 0, 1) := by decide +kernel
theorem dX0_look_58 : decode cX0_look 58 = .ok (.getfield 41, 3) := by decide +kernel
theorem dX0_look_61 : decode cX0_look 61 = .ok (.ireturn, 1) := by decide +kernel
theorem dX0_look_62 : decode cX0_look 62 = .ok (.aload_n 0, 1) := by decide +kernel
theorem dX0_look_63 : decode cX0_look 63 = .ok (.getfield 85, 3) := by decide +kernel
theorem dX0_look_66 : decode cX0_look 66 = .ok (.ireturn, 1) := by decide +kernel
theorem dX0_look_67 : decode cX0_look 67 = .ok (.aload_n 0, 1) := by decide +kernel
theorem dX0_look_68 : decode cX0_look 68 = .ok (.getfield 92, 3) := by decide +kernel
theorem dX0_look_71 : decode cX0_look 71 = .ok (.ireturn, 1) := by decide +kernel
theorem dX0_look_72 : decode cX0_look 72 = .ok (.aload_n 0, 1) := by decide +kernel
theorem dX0_look_73 : decode cX0_look 73 = .ok (.getfield 95, 3) := by decide +kernel
theorem dX0_look_76 : decode cX0_look 76 = .ok (.ireturn, 1) := by decide +kernel
theorem dX0_look_77 : decode cX0_look 77 = .ok (.aload_n 0, 1) := by decide +kernel
theorem dX0_look_78 : decode cX0_look 78 = .ok (.invokevirtual 61, 3) := by decide +kernel
theorem dX0_look_81 : decode cX0_look 81 = .ok (.ireturn, 1) := by decide +kernel
theorem dX0_look_82 : decode cX0_look 82 = .ok (.aload_n 0, 1) := by decide +kernel
theorem dX0_look_83 : decode cX0_look 83 = .ok (.getfield 127, 3) := by decide +kernel
theorem dX0_look_86 : decode cX0_look 86 = .ok (.ireturn, 1) := by decide +kernel
theorem dX0_look_87 : decode cX0_look 87 = .ok (.aload_n 0, 1) := by decide +kernel
theorem dX0_look_88 : decode cX0_look 88 = .ok (.iconst 0, 1) := by decide +kernel
theorem dX0_look_89 : decode cX0_look 89 = .ok (.invokevirtual 173, 3) := by decide +kernel
theorem dX0_look_92 : decode cX0_look 92 = .ok (.ireturn, 1) := by decide +kernel
theorem dX0_look_93 : decode cX0_look 93 = .ok (.aload_n 0, 1) := by decide +kernel
theorem dX0_look_94 : decode cX0_look 94 = .ok (.iconst 1, 1) := by decide +kernel
theorem dX0_look_95 : decode cX0_look 95 = .ok (.invokevirtual 173, 3) := by decide +kernel
theorem dX0_look_98 : decode cX0_look 98 = .ok (.ireturn, 1) := by decide +kernel
theorem dX0_look_99 : decode cX0_look 99 = .ok (.iconst (-1), 1) := by decide +kernel
theorem dX0_look_100 : decode cX0_look 100 = .ok (.ireturn, 1) := by decide +kernel
set_option maxRecDepth 20000 in
theorem ggX0_setAllAsAtFirst_X0_forgetMoves : GoodIn wsX0_setAllAsAtFirst wsX0_forgetMoves := goodIn_r _ [11, 12, 13, 14, 15, 16, 17, 18, 19, 20, 21, 22, 23, 24, 25] (by decide +kernel) (by decide +kernel)
set_option maxRecDepth 20000 in
theorem gX0_setAllAsAtFirst_X0_forgetMoves : GoodIn wsX0_setAllAsAtFirst (wsV RX0 70 RX0 yX0_forgetMoves wsX0_forgetMoves) := goodIn_app (goodIn_of _ (by decide +kernel)) ggX0_setAllAsAtFirst_X0_forgetMoves
theorem dX0_setAllAsAtFirst_0 : decode cX0_setAllAsAtFirst 0 = .ok (.iconst 0, 1) := by decide +kernel
theorem dX0_setAllAsAtFirst_1 : decode cX0_setAllAsAtFirst 1 = .ok (.istore_n 1, 1) := by decide +kernel
theorem dX0_setAllAsAtFirst_2 : decode cX0_setAllAsAtFirst 2 = .ok (.iload_n 1, 1) := by decide +kernel
theorem dX0_setAllAsAtFirst_3 : decode cX0_setAllAsAtFirst 3 = .ok (.bipush 64, 2) := by decide +kernel
theorem dX0_setAllAsAtFirst_5 : decode cX0_setAllAsAtFirst 5 = .ok (.if_icmp .ge 16, 3) := by decide +kernel
theorem dX0_setAllAsAtFirst_8 : decode cX0_setAllAsAtFirst 8 = .ok (.aload_n 0, 1) := by decide +kernel
theorem dX0_setAllAsAtFirst_9 : decode cX0_setAllAsAtFirst 9 = .ok (.getfield 9, 3) := by decide +kernel
theorem dX0_setAllAsAtFirst_12 : decode cX0_setAllAsAtFirst 12 = .ok (.iload_n 1, 1) := by decide +kernel
theorem dX0_setAllAsAtFirst_13 : decode cX0_setAllAsAtFirst 13 = .ok (.iconst 0, 1) := by decide +kernel
theorem dX0_setAllAsAtFirst_14 : decode cX0_setAllAsAtFirst 14 = .ok (.iastore, 1) := by decide +kernel
theorem dX0_setAllAsAtFirst_15 : decode cX0_setAllAsAtFirst 15 = .ok (.iinc 1 1, 3) := by decide +kernel
theorem dX0_setAllAsAtFirst_18 : decode cX0_setAllAsAtFirst 18 = .ok (.goto (-16), 3) := by decide +kernel
theorem dX0_setAllAsAtFirst_21 : decode cX0_setAllAsAtFirst 21 = .ok (.aload_n 0, 1) := by decide +kernel
theorem dX0_setAllAsAtFirst_22 : decode cX0_setAllAsAtFirst 22 = .ok (.iconst 0, 1) := by decide +kernel
theorem dX0_setAllAsAtFirst_23 : decode cX0_setAllAsAtFirst 23 = .ok (.putfield 82, 3) := by decide +kernel
theorem dX0_setAllAsAtFirst_26 : decode cX0_setAllAsAtFirst 26 = .ok (.aload_n 0, 1) := by decide +kernel
theorem dX0_setAllAsAtFirst_27 : decode cX0_setAllAsAtFirst 27 = .ok (.iconst 0, 1) := by decide +kernel
theorem dX0_setAllAsAtFirst_28 : decode cX0_setAllAsAtFirst 28 = .ok (.putfield 41, 3) := by decide +kernel
theorem dX0_setAllAsAtFirst_31 : decode cX0_setAllAsAtFirst 31 = .ok (.aload_n 0, 1) := by decide +kernel
theorem dX0_setAllAsAtFirst_32 : decode cX0_setAllAsAtFirst 32 = .ok (.iconst (-1), 1) := by decide +kernel
theorem dX0_setAllAsAtFirst_33 : decode cX0_setAllAsAtFirst 33 = .ok (.putfield 85, 3) := by decide +kernel
theorem dX0_setAllAsAtFirst_36 : decode cX0_setAllAsAtFirst 36 = .ok (.aload_n 0, 1) := by decide +kernel
theorem dX0_setAllAsAtFirst_37 : decode cX0_setAllAsAtFirst 37 = .ok (.iconst 0, 1) := by decide +kernel
theorem dX0_setAllAsAtFirst_38 : decode cX0_setAllAsAtFirst 38 = .ok (.putfield 92, 3) := by decide +kernel
theorem dX0_setAllAsAtFirst_41 : decode cX0_setAllAsAtFirst 41 = .ok (.aload_n 0, 1) := by decide +kernel
theorem dX0_setAllAsAtFirst_42 : decode cX0_setAllAsAtFirst 42 = .ok (.iconst 1, 1) := by decide +kernel
theorem dX0_setAllAsAtFirst_43 : decode cX0_setAllAsAtFirst 43 = .ok (.putfield 95, 3) := by decide +kernel
theorem dX0_setAllAsAtFirst_46 : decode cX0_setAllAsAtFirst 46 = .ok (.aload_n 0, 1) := by decide +kernel
theorem dX0_setAllAsAtFirst_47 : decode cX0_setAllAsAtFirst 47 = .ok (.invokevirtual 70, 3) := by decide +kernel
theorem dX0_setAllAsAtFirst_50 : decode cX0_setAllAsAtFirst 50 = .ok (.return_, 1) := by decide +kernel
theorem dX0_forgetMoves_0 : decode cX0_forgetMoves 0 = .ok (.aload_n 0, 1) := by decide +kernel
theorem dX0_forgetMoves_1 : decode cX0_forgetMoves 1 = .ok (.iconst 0, 1) := by decide +kernel
theorem dX0_forgetMoves_2 : decode cX0_forgetMoves 2 = .ok (.putfield 127, 3) := by decide +kernel
theorem dX0_forgetMoves_5 : decode cX0_forgetMoves 5 = .ok (.return_, 1) := by decide +kernel
set_option maxRecDepth 20000 in
theorem ggX0_piecesOnBoard_X0_where : GoodIn wsX0_piecesOnBoard wsX0_where := goodIn_r _ [5, 6, 14, 15, 16, 17, 18, 19, 20, 21, 22, 23, 24, 25, 26] (by decide +kernel) (by decide +kernel)
set_option maxRecDepth 20000 in
theorem gX0_piecesOnBoard_X0_where : GoodIn wsX0_piecesOnBoard (wsV RX0 176 RX0 yX0_where wsX0_where) := goodIn_app (goodIn_of _ (by decide +kernel)) ggX0_piecesOnBoard_X0_where
set_option maxRecDepth 20000 in
theorem ggX0_piecesOnBoard_J13_bitCount_95d88 : GoodIn wsX0_piecesOnBoard wsJ13_bitCount_95d88 := goodIn_r _ [10, 11, 12, 13] (by decide +kernel) (by decide +kernel)
set_option maxRecDepth 20000 in
theorem gX0_piecesOnBoard_J13_bitCount_95d88 : GoodIn wsX0_piecesOnBoard (va_wsS RX0 180 yJ13_bitCount_95d88 wsJ13_bitCount_95d88) := goodIn_app (goodIn_of _ (by decide +kernel)) ggX0_piecesOnBoard_J13_bitCount_95d88
theorem dX0_piecesOnBoard_0 : decode cX0_piecesOnBoard 0 = .ok (.bipush 64, 2) := by decide +kernel
theorem dX0_piecesOnBoard_2 : decode cX0_piecesOnBoard 2 = .ok (.aload_n 0, 1) := by decide +kernel
theorem dX0_piecesOnBoard_3 : decode cX0_piecesOnBoard 3 = .ok (.iconst 0, 1) := by decide +kernel
theorem dX0_piecesOnBoard_4 : decode cX0_piecesOnBoard 4 = .ok (.invokevirtual 176, 3) := by decide +kernel
theorem dX0_piecesOnBoard_7 : decode cX0_piecesOnBoard 7 = .ok (.invokestatic 180, 3) := by decide +kernel
theorem dX0_piecesOnBoard_10 : decode cX0_piecesOnBoard 10 = .ok (.isub, 1) := by decide +kernel
theorem dX0_piecesOnBoard_11 : decode cX0_piecesOnBoard 11 = .ok (.ireturn, 1) := by decide +kernel
set_option maxRecDepth 20000 in
theorem ggX0_material_X0_sideOf : GoodIn wsX0_material wsX0_sideOf := goodIn_r _ [5] (by decide +kernel) (by decide +kernel)
set_option maxRecDepth 20000 in
theorem gX0_material_X0_sideOf : GoodIn wsX0_material (va_wsS RX0 105 yX0_sideOf wsX0_sideOf) := goodIn_app (goodIn_of _ (by decide +kernel)) ggX0_material_X0_sideOf
set_option maxRecDepth 20000 in
theorem ggX0_material_X0_typeOf : GoodIn wsX0_material wsX0_typeOf := goodIn_r _ [8] (by decide +kernel) (by decide +kernel)
set_option maxRecDepth 20000 in
theorem gX0_material_X0_typeOf : GoodIn wsX0_material (va_wsS RX0 108 yX0_typeOf wsX0_typeOf) := goodIn_app (goodIn_of _ (by decide +kernel)) ggX0_material_X0_typeOf
set_option maxRecDepth 20000 in
theorem ggX0_material_X0_worthOf : GoodIn wsX0_material wsX0_worthOf := goodIn_r _ [11] (by decide +kernel) (by decide +kernel)
set_option maxRecDepth 20000 in
theorem gX0_material_X0_worthOf : GoodIn wsX0_material (va_wsS RX0 186 yX0_worthOf wsX0_worthOf) := goodIn_app (goodIn_of _ (by decide +kernel)) ggX0_material_X0_worthOf
theorem dX0_material_0 : decode cX0_material 0 = .ok (.iconst 0, 1) := by decide +kernel
theorem dX0_material_1 : decode cX0_material 1 = .ok (.istore_n 2, 1) := by decide +kernel
theorem dX0_material_2 : decode cX0_material 2 = .ok (.iconst 0, 1) := by decide +kernel
theorem dX0_material_3 : decode cX0_material 3 = .ok (.istore_n 3, 1) := by decide +kernel
theorem dX0_material_4 : decode cX0_material 4 = .ok (.iload_n 3, 1) := by decide +kernel
theorem dX0_material_5 : decode cX0_material 5 = .ok (.bipush 64, 2) := by decide +kernel
theorem dX0_material_7 : decode cX0_material 7 = .ok (.if_icmp .ge 37, 3) := by decide +kernel
theorem dX0_material_10 : decode cX0_material 10 = .ok (.aload_n 0, 1) := by decide +kernel
theorem dX0_material_11 : decode cX0_material 11 = .ok (.getfield 9, 3) := by decide +kernel
theorem dX0_material_14 : decode cX0_material 14 = .ok (.iload_n 3, 1) := by decide +kernel
theorem dX0_material_15 : decode cX0_material 15 = .ok (.iaload, 1) := by decide +kernel
theorem dX0_material_16 : decode cX0_material 16 = .ok (.invokestatic 105, 3) := by decide +kernel
theorem dX0_material_19 : decode cX0_material 19 = .ok (.iload_n 1, 1) := by decide +kernel
theorem dX0_material_20 : decode cX0_material 20 = .ok (.if_icmp .ne 18, 3) := by decide +kernel
theorem dX0_material_23 : decode cX0_material 23 = .ok (.iload_n 2, 1) := by decide +kernel
theorem dX0_material_24 : decode cX0_material 24 = .ok (.aload_n 0, 1) := by decide +kernel
theorem dX0_material_25 : decode cX0_material 25 = .ok (.getfield 9, 3) := by decide +kernel
theorem dX0_material_28 : decode cX0_material 28 = .ok (.iload_n 3, 1) := by decide +kernel
theorem dX0_material_29 : decode cX0_material 29 = .ok (.iaload, 1) := by decide +kernel
theorem dX0_material_30 : decode cX0_material 30 = .ok (.invokestatic 108, 3) := by decide +kernel
theorem dX0_material_33 : decode cX0_material 33 = .ok (.invokestatic 186, 3) := by decide +kernel
theorem dX0_material_36 : decode cX0_material 36 = .ok (.iadd, 1) := by decide +kernel
theorem dX0_material_37 : decode cX0_material 37 = .ok (.istore_n 2, 1) := by decide +kernel
theorem dX0_material_38 : decode cX0_material 38 = .ok (.iinc 3 1, 3) := by decide +kernel
theorem dX0_material_41 : decode cX0_material 41 = .ok (.goto (-37), 3) := by decide +kernel
theorem dX0_material_44 : decode cX0_material 44 = .ok (.iload_n 2, 1) := by decide +kernel
theorem dX0_material_45 : decode cX0_material 45 = .ok (.ireturn, 1) := by decide +kernel
set_option maxRecDepth 20000 in
theorem ggX0_becomesWhatItMay_X0_typeOf : GoodIn wsX0_becomesWhatItMay wsX0_typeOf := goodIn_r _ [4] (by decide +kernel) (by decide +kernel)
set_option maxRecDepth 20000 in
theorem gX0_becomesWhatItMay_X0_typeOf : GoodIn wsX0_becomesWhatItMay (va_wsS RX0 108 yX0_typeOf wsX0_typeOf) := goodIn_app (goodIn_of _ (by decide +kernel)) ggX0_becomesWhatItMay_X0_typeOf
set_option maxRecDepth 20000 in
theorem ggX0_becomesWhatItMay_X0_rankOf : GoodIn wsX0_becomesWhatItMay wsX0_rankOf := goodIn_r _ [7] (by decide +kernel) (by decide +kernel)
set_option maxRecDepth 20000 in
theorem gX0_becomesWhatItMay_X0_rankOf : GoodIn wsX0_becomesWhatItMay (va_wsS RX0 189 yX0_rankOf wsX0_rankOf) := goodIn_app (goodIn_of _ (by decide +kernel)) ggX0_becomesWhatItMay_X0_rankOf
set_option maxRecDepth 20000 in
theorem ggX0_becomesWhatItMay_X0_sideOf : GoodIn wsX0_becomesWhatItMay wsX0_sideOf := goodIn_r _ [10] (by decide +kernel) (by decide +kernel)
set_option maxRecDepth 20000 in
theorem gX0_becomesWhatItMay_X0_sideOf : GoodIn wsX0_becomesWhatItMay (va_wsS RX0 105 yX0_sideOf wsX0_sideOf) := goodIn_app (goodIn_of _ (by decide +kernel)) ggX0_becomesWhatItMay_X0_sideOf
set_option maxRecDepth 20000 in
theorem ggX0_becomesWhatItMay_X0_lastRankOf : GoodIn wsX0_becomesWhatItMay wsX0_lastRankOf := goodIn_r _ [13] (by decide +kernel) (by decide +kernel)
set_option maxRecDepth 20000 in
theorem gX0_becomesWhatItMay_X0_lastRankOf : GoodIn wsX0_becomesWhatItMay (va_wsS RX0 192 yX0_lastRankOf wsX0_lastRankOf) := goodIn_app (goodIn_of _ (by decide +kernel)) ggX0_becomesWhatItMay_X0_lastRankOf
theorem dX0_becomesWhatItMay_0 : decode cX0_becomesWhatItMay 0 = .ok (.iload_n 0, 1) := by decide +kernel
theorem dX0_becomesWhatItMay_1 : decode cX0_becomesWhatItMay 1 = .ok (.invokestatic 108, 3) := by decide +kernel
theorem dX0_becomesWhatItMay_4 : decode cX0_becomesWhatItMay 4 = .ok (.iconst 1, 1) := by decide +kernel
theorem dX0_becomesWhatItMay_5 : decode cX0_becomesWhatItMay 5 = .ok (.if_icmp .ne 21, 3) := by decide +kernel
theorem dX0_becomesWhatItMay_8 : decode cX0_becomesWhatItMay 8 = .ok (.iload_n 1, 1) := by decide +kernel
theorem dX0_becomesWhatItMay_9 : decode cX0_becomesWhatItMay 9 = .ok (.invokestatic 189, 3) := by decide +kernel
theorem dX0_becomesWhatItMay_12 : decode cX0_becomesWhatItMay 12 = .ok (.iload_n 0, 1) := by decide +kernel
theorem dX0_becomesWhatItMay_13 : decode cX0_becomesWhatItMay 13 = .ok (.invokestatic 105, 3) := by decide +kernel
theorem dX0_becomesWhatItMay_16 : decode cX0_becomesWhatItMay 16 = .ok (.invokestatic 192, 3) := by decide +kernel
theorem dX0_becomesWhatItMay_19 : decode cX0_becomesWhatItMay 19 = .ok (.if_icmp .ne 7, 3) := by decide +kernel
theorem dX0_becomesWhatItMay_22 : decode cX0_becomesWhatItMay 22 = .ok (.iconst 1, 1) := by decide +kernel
theorem dX0_becomesWhatItMay_23 : decode cX0_becomesWhatItMay 23 = .ok (.goto 4, 3) := by decide +kernel
theorem dX0_becomesWhatItMay_26 : decode cX0_becomesWhatItMay 26 = .ok (.iconst 0, 1) := by decide +kernel
theorem dX0_becomesWhatItMay_27 : decode cX0_becomesWhatItMay 27 = .ok (.istore_n 3, 1) := by decide +kernel
theorem dX0_becomesWhatItMay_28 : decode cX0_becomesWhatItMay 28 = .ok (.iload_n 3, 1) := by decide +kernel
theorem dX0_becomesWhatItMay_29 : decode cX0_becomesWhatItMay 29 = .ok (.ifCond .eq 21, 3) := by decide +kernel
theorem dX0_becomesWhatItMay_32 : decode cX0_becomesWhatItMay 32 = .ok (.iload_n 2, 1) := by decide +kernel
theorem dX0_becomesWhatItMay_33 : decode cX0_becomesWhatItMay 33 = .ok (.iconst 2, 1) := by decide +kernel
theorem dX0_becomesWhatItMay_34 : decode cX0_becomesWhatItMay 34 = .ok (.if_icmp .lt 12, 3) := by decide +kernel
theorem dX0_becomesWhatItMay_37 : decode cX0_becomesWhatItMay 37 = .ok (.iload_n 2, 1) := by decide +kernel
theorem dX0_becomesWhatItMay_38 : decode cX0_becomesWhatItMay 38 = .ok (.iconst 5, 1) := by decide +kernel
theorem dX0_becomesWhatItMay_39 : decode cX0_becomesWhatItMay 39 = .ok (.if_icmp .gt 7, 3) := by decide +kernel
theorem dX0_becomesWhatItMay_42 : decode cX0_becomesWhatItMay 42 = .ok (.iconst 1, 1) := by decide +kernel
theorem dX0_becomesWhatItMay_43 : decode cX0_becomesWhatItMay 43 = .ok (.goto 16, 3) := by decide +kernel
theorem dX0_becomesWhatItMay_46 : decode cX0_becomesWhatItMay 46 = .ok (.iconst 0, 1) := by decide +kernel
theorem dX0_becomesWhatItMay_47 : decode cX0_becomesWhatItMay 47 = .ok (.goto 12, 3) := by decide +kernel
theorem dX0_becomesWhatItMay_50 : decode cX0_becomesWhatItMay 50 = .ok (.iload_n 2, 1) := by decide +kernel
theorem dX0_becomesWhatItMay_51 : decode cX0_becomesWhatItMay 51 = .ok (.ifCond .ne 7, 3) := by decide +kernel
theorem dX0_becomesWhatItMay_54 : decode cX0_becomesWhatItMay 54 = .ok (.iconst 1, 1) := by decide +kernel
theorem dX0_becomesWhatItMay_55 : decode cX0_becomesWhatItMay 55 = .ok (.goto 4, 3) := by decide +kernel
theorem dX0_becomesWhatItMay_58 : decode cX0_becomesWhatItMay 58 = .ok (.iconst 0, 1) := by decide +kernel
theorem dX0_becomesWhatItMay_59 : decode cX0_becomesWhatItMay 59 = .ok (.ireturn, 1) := by decide +kernel
set_option maxRecDepth 20000 in
theorem ggX0_goes_X0_typeOf : GoodIn wsX0_goes wsX0_typeOf := goodIn_r _ [5] (by decide +kernel) (by decide +kernel)
set_option maxRecDepth 20000 in
theorem gX0_goes_X0_typeOf : GoodIn wsX0_goes (va_wsS RX0 108 yX0_typeOf wsX0_typeOf) := goodIn_app (goodIn_of _ (by decide +kernel)) ggX0_goes_X0_typeOf
set_option maxRecDepth 20000 in
theorem ggX0_goes_X0_pawnSteps : GoodIn wsX0_goes wsX0_pawnSteps := goodIn_r _ [9, 10, 11, 12, 4, 13, 14, 15, 16, 17, 1, 18, 19, 20, 21, 22, 23, 24, 25, 26, 95, 96, 97, 98, 99, 100, 101, 102, 103, 104, 105, 106, 107] (by decide +kernel) (by decide +kernel)
set_option maxRecDepth 20000 in
theorem gX0_goes_X0_pawnSteps : GoodIn wsX0_goes (wsV RX0 195 RX0 yX0_pawnSteps wsX0_pawnSteps) := goodIn_app (goodIn_of _ (by decide +kernel)) ggX0_goes_X0_pawnSteps
set_option maxRecDepth 20000 in
theorem ggX0_goes_X0_pawnTakes : GoodIn wsX0_goes wsX0_pawnTakes := goodIn_r _ [30, 10, 1, 31, 32, 4, 33, 34, 35, 36, 37, 21, 22, 23, 11, 12, 13, 38, 39, 40, 41, 42, 43, 44, 45, 46, 47, 48, 49, 50, 51, 14, 15, 16, 17, 18, 19, 20, 52, 53, 54, 55, 56, 57, 58, 59, 60, 61, 62, 95, 96, 97, 98, 99, 100, 101, 102, 103, 104, 105, 106, 107] (by decide +kernel) (by decide +kernel)
set_option maxRecDepth 20000 in
theorem gX0_goes_X0_pawnTakes : GoodIn wsX0_goes (wsV RX0 198 RX0 yX0_pawnTakes wsX0_pawnTakes) := goodIn_app (goodIn_of _ (by decide +kernel)) ggX0_goes_X0_pawnTakes
set_option maxRecDepth 20000 in
theorem ggX0_goes_X0_attacks : GoodIn wsX0_goes wsX0_attacks := goodIn_r _ [66, 1, 34, 35, 36, 37, 38, 39, 4, 40, 21, 22, 23, 2, 3, 5, 41, 42, 43, 31, 32, 33, 11, 12, 13, 67, 68, 69, 70, 71, 72, 73, 74, 75, 76, 77, 14, 15, 16, 17, 18, 19, 20, 95, 96, 97, 98, 99, 100, 101, 102, 103, 104, 105, 106, 107] (by decide +kernel) (by decide +kernel)
set_option maxRecDepth 20000 in
theorem gX0_goes_X0_attacks : GoodIn wsX0_goes (wsV RX0 160 RX0 yX0_attacks wsX0_attacks) := goodIn_app (goodIn_of _ (by decide +kernel)) ggX0_goes_X0_attacks
set_option maxRecDepth 20000 in
theorem ggX0_goes_X0_castles : GoodIn wsX0_goes wsX0_castles := goodIn_r _ [81, 10, 82, 83, 84, 4, 85, 86, 87, 88, 34, 35, 36, 37, 21, 22, 23, 89, 90, 91, 92, 93, 94, 56, 57, 58, 59, 60, 61, 62, 1, 18, 19, 20, 67, 68, 69, 70, 71, 72, 73, 38, 39, 40, 74, 75, 76, 77, 14, 15, 16, 17, 95, 96, 97, 98, 99, 100, 101, 102, 103, 104, 105, 106, 107] (by decide +kernel) (by decide +kernel)
set_option maxRecDepth 20000 in
theorem gX0_goes_X0_castles : GoodIn wsX0_goes (wsV RX0 201 RX0 yX0_castles wsX0_castles) := goodIn_app (goodIn_of _ (by decide +kernel)) ggX0_goes_X0_castles
theorem dX0_goes_0 : decode cX0_goes 0 = .ok (.aload_n 0, 1) := by decide +kernel
theorem dX0_goes_1 : decode cX0_goes 1 = .ok (.getfield 9, 3) := by decide +kernel
theorem dX0_goes_4 : decode cX0_goes 4 = .ok (.iload_n 1, 1) := by decide +kernel
theorem dX0_goes_5 : decode cX0_goes 5 = .ok (.iaload, 1) := by decide +kernel
theorem dX0_goes_6 : decode cX0_goes 6 = .ok (.invokestatic 108, 3) := by decide +kernel
theorem dX0_goes_9 : decode cX0_goes 9 = .ok (.lookupswitch 75 #[(1, 27), (6, 51)], 27) := by decide +kernel
theorem dX0_goes_36 : decode cX0_goes 36 = .ok (.aload_n 0, 1) := by decide +kernel
theorem dX0_goes_37 : decode cX0_goes 37 = .ok (.iload_n 1, 1) := by decide +kernel
theorem dX0_goes_38 : decode cX0_goes 38 = .ok (.iload_n 2, 1) := by decide +kernel
theorem dX0_goes_39 : decode cX0_goes 39 = .ok (.invokevirtual 195, 3) := by decide +kernel
theorem dX0_goes_42 : decode cX0_goes 42 = .ok (.ifCond .ne 12, 3) := by decide +kernel
theorem dX0_goes_45 : decode cX0_goes 45 = .ok (.aload_n 0, 1) := by decide +kernel
theorem dX0_goes_46 : decode cX0_goes 46 = .ok (.iload_n 1, 1) := by decide +kernel
theorem dX0_goes_47 : decode cX0_goes 47 = .ok (.iload_n 2, 1) := by decide +kernel
theorem dX0_goes_48 : decode cX0_goes 48 = .ok (.invokevirtual 198, 3) := by decide +kernel
theorem dX0_goes_51 : decode cX0_goes 51 = .ok (.ifCond .eq 7, 3) := by decide +kernel
theorem dX0_goes_54 : decode cX0_goes 54 = .ok (.iconst 1, 1) := by decide +kernel
theorem dX0_goes_55 : decode cX0_goes 55 = .ok (.goto 4, 3) := by decide +kernel
theorem dX0_goes_58 : decode cX0_goes 58 = .ok (.iconst 0, 1) := by decide +kernel
theorem dX0_goes_59 : decode cX0_goes 59 = .ok (.ireturn, 1) := by decide +kernel
theorem dX0_goes_60 : decode cX0_goes 60 = .ok (.aload_n 0, 1) := by decide +kernel
theorem dX0_goes_61 : decode cX0_goes 61 = .ok (.iload_n 1, 1) := by decide +kernel
theorem dX0_goes_62 : decode cX0_goes 62 = .ok (.iload_n 2, 1) := by decide +kernel
theorem dX0_goes_63 : decode cX0_goes 63 = .ok (.invokevirtual 160, 3) := by decide +kernel
theorem dX0_goes_66 : decode cX0_goes 66 = .ok (.ifCond .ne 12, 3) := by decide +kernel
theorem dX0_goes_69 : decode cX0_goes 69 = .ok (.aload_n 0, 1) := by decide +kernel
theorem dX0_goes_70 : decode cX0_goes 70 = .ok (.iload_n 1, 1) := by decide +kernel
theorem dX0_goes_71 : decode cX0_goes 71 = .ok (.iload_n 2, 1) := by decide +kernel
theorem dX0_goes_72 : decode cX0_goes 72 = .ok (.invokevirtual 201, 3) := by decide +kernel
theorem dX0_goes_75 : decode cX0_goes 75 = .ok (.ifCond .eq 7, 3) := by decide +kernel
theorem dX0_goes_78 : decode cX0_goes 78 = .ok (.iconst 1, 1) := by decide +kernel
theorem dX0_goes_79 : decode cX0_goes 79 = .ok (.goto 4, 3) := by decide +kernel
theorem dX0_goes_82 : decode cX0_goes 82 = .ok (.iconst 0, 1) := by decide +kernel
theorem dX0_goes_83 : decode cX0_goes 83 = .ok (.ireturn, 1) := by decide +kernel
theorem dX0_goes_84 : decode cX0_goes 84 = .ok (.aload_n 0, 1) := by decide +kernel
theorem dX0_goes_85 : decode cX0_goes 85 = .ok (.iload_n 1, 1) := by decide +kernel
theorem dX0_goes_86 : decode cX0_goes 86 = .ok (.iload_n 2, 1) := by decide +kernel
theorem dX0_goes_87 : decode cX0_goes 87 = .ok (.invokevirtual 160, 3) := by decide +kernel
theorem dX0_goes_90 : decode cX0_goes 90 = .ok (.ireturn, 1) := by decide +kernel
set_option maxRecDepth 20000 in
theorem ggX0_pawnSteps_X0_onward : GoodIn wsX0_pawnSteps wsX0_onward := goodIn_r _ [5] (by decide +kernel) (by decide +kernel)
set_option maxRecDepth 20000 in
theorem gX0_pawnSteps_X0_onward : GoodIn wsX0_pawnSteps (va_wsS RX0 204 yX0_onward wsX0_onward) := goodIn_app (goodIn_of _ (by decide +kernel)) ggX0_pawnSteps_X0_onward
set_option maxRecDepth 20000 in
theorem ggX0_pawnSteps_X0_isFree : GoodIn wsX0_pawnSteps wsX0_isFree := goodIn_r _ [9, 10, 11, 12, 4, 13, 20, 21, 22, 23, 24, 25, 26, 27, 28, 29, 30, 31, 32] (by decide +kernel) (by decide +kernel)
set_option maxRecDepth 20000 in
theorem gX0_pawnSteps_X0_isFree : GoodIn wsX0_pawnSteps (wsV RX0 207 RX0 yX0_isFree wsX0_isFree) := goodIn_app (goodIn_of _ (by decide +kernel)) ggX0_pawnSteps_X0_isFree
set_option maxRecDepth 20000 in
theorem ggX0_pawnSteps_X0_rankOf : GoodIn wsX0_pawnSteps wsX0_rankOf := goodIn_r _ [16] (by decide +kernel) (by decide +kernel)
set_option maxRecDepth 20000 in
theorem gX0_pawnSteps_X0_rankOf : GoodIn wsX0_pawnSteps (va_wsS RX0 189 yX0_rankOf wsX0_rankOf) := goodIn_app (goodIn_of _ (by decide +kernel)) ggX0_pawnSteps_X0_rankOf
set_option maxRecDepth 20000 in
theorem ggX0_pawnSteps_X0_secondRankOf : GoodIn wsX0_pawnSteps wsX0_secondRankOf := goodIn_r _ [19] (by decide +kernel) (by decide +kernel)
set_option maxRecDepth 20000 in
theorem gX0_pawnSteps_X0_secondRankOf : GoodIn wsX0_pawnSteps (va_wsS RX0 210 yX0_secondRankOf wsX0_secondRankOf) := goodIn_app (goodIn_of _ (by decide +kernel)) ggX0_pawnSteps_X0_secondRankOf
theorem dX0_pawnSteps_0 : decode cX0_pawnSteps 0 = .ok (.iload_n 1, 1) := by decide +kernel
theorem dX0_pawnSteps_1 : decode cX0_pawnSteps 1 = .ok (.bipush 8, 2) := by decide +kernel
theorem dX0_pawnSteps_3 : decode cX0_pawnSteps 3 = .ok (.aload_n 0, 1) := by decide +kernel
theorem dX0_pawnSteps_4 : decode cX0_pawnSteps 4 = .ok (.getfield 82, 3) := by decide +kernel
theorem dX0_pawnSteps_7 : decode cX0_pawnSteps 7 = .ok (.invokestatic 204, 3) := by decide +kernel
theorem dX0_pawnSteps_10 : decode cX0_pawnSteps 10 = .ok (.imul, 1) := by decide +kernel
theorem dX0_pawnSteps_11 : decode cX0_pawnSteps 11 = .ok (.iadd, 1) := by decide +kernel
theorem dX0_pawnSteps_12 : decode cX0_pawnSteps 12 = .ok (.istore_n 3, 1) := by decide +kernel
theorem dX0_pawnSteps_13 : decode cX0_pawnSteps 13 = .ok (.aload_n 0, 1) := by decide +kernel
theorem dX0_pawnSteps_14 : decode cX0_pawnSteps 14 = .ok (.iload_n 3, 1) := by decide +kernel
theorem dX0_pawnSteps_15 : decode cX0_pawnSteps 15 = .ok (.invokevirtual 207, 3) := by decide +kernel
theorem dX0_pawnSteps_18 : decode cX0_pawnSteps 18 = .ok (.ifCond .eq 11, 3) := by decide +kernel
theorem dX0_pawnSteps_21 : decode cX0_pawnSteps 21 = .ok (.aload_n 0, 1) := by decide +kernel
theorem dX0_pawnSteps_22 : decode cX0_pawnSteps 22 = .ok (.iload_n 2, 1) := by decide +kernel
theorem dX0_pawnSteps_23 : decode cX0_pawnSteps 23 = .ok (.invokevirtual 207, 3) := by decide +kernel
theorem dX0_pawnSteps_26 : decode cX0_pawnSteps 26 = .ok (.ifCond .ne 5, 3) := by decide +kernel
theorem dX0_pawnSteps_29 : decode cX0_pawnSteps 29 = .ok (.iconst 0, 1) := by decide +kernel
theorem dX0_pawnSteps_30 : decode cX0_pawnSteps 30 = .ok (.ireturn, 1) := by decide +kernel
theorem dX0_pawnSteps_31 : decode cX0_pawnSteps 31 = .ok (.iload_n 1, 1) := by decide +kernel
theorem dX0_pawnSteps_32 : decode cX0_pawnSteps 32 = .ok (.invokestatic 189, 3) := by decide +kernel
theorem dX0_pawnSteps_35 : decode cX0_pawnSteps 35 = .ok (.aload_n 0, 1) := by decide +kernel
theorem dX0_pawnSteps_36 : decode cX0_pawnSteps 36 = .ok (.getfield 82, 3) := by decide +kernel
theorem dX0_pawnSteps_39 : decode cX0_pawnSteps 39 = .ok (.invokestatic 210, 3) := by decide +kernel
theorem dX0_pawnSteps_42 : decode cX0_pawnSteps 42 = .ok (.if_icmp .ne 23, 3) := by decide +kernel
theorem dX0_pawnSteps_45 : decode cX0_pawnSteps 45 = .ok (.iload_n 2, 1) := by decide +kernel
theorem dX0_pawnSteps_46 : decode cX0_pawnSteps 46 = .ok (.iload_n 3, 1) := by decide +kernel
theorem dX0_pawnSteps_47 : decode cX0_pawnSteps 47 = .ok (.bipush 8, 2) := by decide +kernel
theorem dX0_pawnSteps_49 : decode cX0_pawnSteps 49 = .ok (.aload_n 0, 1) := by decide +kernel
theorem dX0_pawnSteps_50 : decode cX0_pawnSteps 50 = .ok (.getfield 82, 3) := by decide +kernel
theorem dX0_pawnSteps_53 : decode cX0_pawnSteps 53 = .ok (.invokestatic 204, 3) := by decide +kernel
theorem dX0_pawnSteps_56 : decode cX0_pawnSteps 56 = .ok (.imul, 1) := by decide +kernel
theorem dX0_pawnSteps_57 : decode cX0_pawnSteps 57 = .ok (.iadd, 1) := by decide +kernel
theorem dX0_pawnSteps_58 : decode cX0_pawnSteps 58 = .ok (.if_icmp .ne 7, 3) := by decide +kernel
theorem dX0_pawnSteps_61 : decode cX0_pawnSteps 61 = .ok (.iconst 1, 1) := by decide +kernel
theorem dX0_pawnSteps_62 : decode cX0_pawnSteps 62 = .ok (.goto 4, 3) := by decide +kernel
theorem dX0_pawnSteps_65 : decode cX0_pawnSteps 65 = .ok (.iconst 0, 1) := by decide +kernel
theorem dX0_pawnSteps_66 : decode cX0_pawnSteps 66 = .ok (.istore 4, 2) := by decide +kernel
theorem dX0_pawnSteps_68 : decode cX0_pawnSteps 68 = .ok (.iload_n 2, 1) := by decide +kernel
theorem dX0_pawnSteps_69 : decode cX0_pawnSteps 69 = .ok (.iload_n 3, 1) := by decide +kernel
theorem dX0_pawnSteps_70 : decode cX0_pawnSteps 70 = .ok (.if_icmp .eq 8, 3) := by decide +kernel
theorem dX0_pawnSteps_73 : decode cX0_pawnSteps 73 = .ok (.iload 4, 2) := by decide +kernel
theorem dX0_pawnSteps_75 : decode cX0_pawnSteps 75 = .ok (.ifCond .eq 7, 3) := by decide +kernel
theorem dX0_pawnSteps_78 : decode cX0_pawnSteps 78 = .ok (.iconst 1, 1) := by decide +kernel
theorem dX0_pawnSteps_79 : decode cX0_pawnSteps 79 = .ok (.goto 4, 3) := by decide +kernel
theorem dX0_pawnSteps_82 : decode cX0_pawnSteps 82 = .ok (.iconst 0, 1) := by decide +kernel
theorem dX0_pawnSteps_83 : decode cX0_pawnSteps 83 = .ok (.ireturn, 1) := by decide +kernel
set_option maxRecDepth 20000 in
theorem ggX0_pawnTakes_X0_pawnAttacks : GoodIn wsX0_pawnTakes wsX0_pawnAttacks := goodIn_r _ [6, 7, 8, 9, 10, 11, 12, 5, 13, 14, 15, 16, 17, 18, 19] (by decide +kernel) (by decide +kernel)
set_option maxRecDepth 20000 in
theorem gX0_pawnTakes_X0_pawnAttacks : GoodIn wsX0_pawnTakes (va_wsS RX0 213 yX0_pawnAttacks wsX0_pawnAttacks) := goodIn_app (goodIn_of _ (by decide +kernel)) ggX0_pawnTakes_X0_pawnAttacks
set_option maxRecDepth 20000 in
theorem ggX0_pawnTakes_X0_sideOf : GoodIn wsX0_pawnTakes wsX0_sideOf := goodIn_r _ [22] (by decide +kernel) (by decide +kernel)
set_option maxRecDepth 20000 in
theorem gX0_pawnTakes_X0_sideOf : GoodIn wsX0_pawnTakes (va_wsS RX0 105 yX0_sideOf wsX0_sideOf) := goodIn_app (goodIn_of _ (by decide +kernel)) ggX0_pawnTakes_X0_sideOf
set_option maxRecDepth 20000 in
theorem ggX0_pawnTakes_X0_otherThan : GoodIn wsX0_pawnTakes wsX0_otherThan := goodIn_r _ [25] (by decide +kernel) (by decide +kernel)
set_option maxRecDepth 20000 in
theorem gX0_pawnTakes_X0_otherThan : GoodIn wsX0_pawnTakes (va_wsS RX0 152 yX0_otherThan wsX0_otherThan) := goodIn_app (goodIn_of _ (by decide +kernel)) ggX0_pawnTakes_X0_otherThan
set_option maxRecDepth 20000 in
theorem ggX0_pawnTakes_X0_canBeTakenInPassing : GoodIn wsX0_pawnTakes wsX0_canBeTakenInPassing := goodIn_r _ [29, 30, 1, 31, 32, 33, 5, 34, 2, 35, 36, 37, 38, 39, 40, 41, 14, 15, 16, 23, 24, 25, 42, 43, 44, 45, 46, 47, 48, 49, 50, 51, 52, 53, 54, 55, 56, 57, 58, 59, 60, 61] (by decide +kernel) (by decide +kernel)
set_option maxRecDepth 20000 in
theorem gX0_pawnTakes_X0_canBeTakenInPassing : GoodIn wsX0_pawnTakes (wsV RX0 216 RX0 yX0_canBeTakenInPassing wsX0_canBeTakenInPassing) := goodIn_app (goodIn_of _ (by decide +kernel)) ggX0_pawnTakes_X0_canBeTakenInPassing
end
section
theorem dX0_pawnTakes_0 : decode cX0_pawnTakes 0 = .ok (.aload_n 0, 1) := by decide +kernel
theorem dX0_pawnTakes_1 : decode cX0_pawnTakes 1 = .ok (.getfield 82, 3) := by decide +kernel
theorem dX0_pawnTakes_4 : decode cX0_pawnTakes 4 = .ok (.iload_n 1, 1) := by decide +kernel
theorem dX0_pawnTakes_5 : decode cX0_pawnTakes 5 = .ok (.iload_n 2, 1) := by decide +kernel
theorem dX0_pawnTakes_6 : decode cX0_pawnTakes 6 = .ok (.invokestatic 213, 3) := by decide +kernel
theorem dX0_pawnTakes_9 : decode cX0_pawnTakes 9 = .ok (.ifCond .eq 34, 3) := by decide +kernel
theorem dX0_pawnTakes_12 : decode cX0_pawnTakes 12 = .ok (.aload_n 0, 1) := by decide +kernel
theorem dX0_pawnTakes_13 : decode cX0_pawnTakes 13 = .ok (.getfield 9, 3) := by decide +kernel
theorem dX0_pawnTakes_16 : decode cX0_pawnTakes 16 = .ok (.iload_n 2, 1) := by decide +kernel
theorem dX0_pawnTakes_17 : decode cX0_pawnTakes 17 = .ok (.iaload, 1) := by decide +kernel
theorem dX0_pawnTakes_18 : decode cX0_pawnTakes 18 = .ok (.invokestatic 105, 3) := by decide +kernel
theorem dX0_pawnTakes_21 : decode cX0_pawnTakes 21 = .ok (.aload_n 0, 1) := by decide +kernel
theorem dX0_pawnTakes_22 : decode cX0_pawnTakes 22 = .ok (.getfield 82, 3) := by decide +kernel
theorem dX0_pawnTakes_25 : decode cX0_pawnTakes 25 = .ok (.invokestatic 152, 3) := by decide +kernel
theorem dX0_pawnTakes_28 : decode cX0_pawnTakes 28 = .ok (.if_icmp .eq 11, 3) := by decide +kernel
theorem dX0_pawnTakes_31 : decode cX0_pawnTakes 31 = .ok (.aload_n 0, 1) := by decide +kernel
theorem dX0_pawnTakes_32 : decode cX0_pawnTakes 32 = .ok (.iload_n 2, 1) := by decide +kernel
theorem dX0_pawnTakes_33 : decode cX0_pawnTakes 33 = .ok (.invokevirtual 216, 3) := by decide +kernel
theorem dX0_pawnTakes_36 : decode cX0_pawnTakes 36 = .ok (.ifCond .eq 7, 3) := by decide +kernel
theorem dX0_pawnTakes_39 : decode cX0_pawnTakes 39 = .ok (.iconst 1, 1) := by decide +kernel
theorem dX0_pawnTakes_40 : decode cX0_pawnTakes 40 = .ok (.goto 4, 3) := by decide +kernel
theorem dX0_pawnTakes_43 : decode cX0_pawnTakes 43 = .ok (.iconst 0, 1) := by decide +kernel
theorem dX0_pawnTakes_44 : decode cX0_pawnTakes 44 = .ok (.ireturn, 1) := by decide +kernel
set_option maxRecDepth 20000 in
theorem ggX0_canBeTakenInPassing_X0_isFree : GoodIn wsX0_canBeTakenInPassing wsX0_isFree := goodIn_r _ [7, 8, 9, 10, 6, 11, 29, 30, 31, 32, 33, 34, 35, 36, 37, 38, 39, 40, 41] (by decide +kernel) (by decide +kernel)
set_option maxRecDepth 20000 in
theorem gX0_canBeTakenInPassing_X0_isFree : GoodIn wsX0_canBeTakenInPassing (wsV RX0 207 RX0 yX0_isFree wsX0_isFree) := goodIn_app (goodIn_of _ (by decide +kernel)) ggX0_canBeTakenInPassing_X0_isFree
set_option maxRecDepth 20000 in
theorem ggX0_canBeTakenInPassing_X0_squareBehind : GoodIn wsX0_canBeTakenInPassing wsX0_squareBehind := goodIn_r _ [15, 2, 16, 17, 6, 18, 29, 30, 31, 32, 33, 34, 35, 36, 37, 38, 39, 40, 41] (by decide +kernel) (by decide +kernel)
set_option maxRecDepth 20000 in
theorem gX0_canBeTakenInPassing_X0_squareBehind : GoodIn wsX0_canBeTakenInPassing (wsV RX0 219 RX0 yX0_squareBehind wsX0_squareBehind) := goodIn_app (goodIn_of _ (by decide +kernel)) ggX0_canBeTakenInPassing_X0_squareBehind
set_option maxRecDepth 20000 in
theorem ggX0_canBeTakenInPassing_X0_otherThan : GoodIn wsX0_canBeTakenInPassing wsX0_otherThan := goodIn_r _ [21] (by decide +kernel) (by decide +kernel)
set_option maxRecDepth 20000 in
theorem gX0_canBeTakenInPassing_X0_otherThan : GoodIn wsX0_canBeTakenInPassing (va_wsS RX0 152 yX0_otherThan wsX0_otherThan) := goodIn_app (goodIn_of _ (by decide +kernel)) ggX0_canBeTakenInPassing_X0_otherThan
set_option maxRecDepth 20000 in
theorem ggX0_canBeTakenInPassing_X0_pieceOf : GoodIn wsX0_canBeTakenInPassing wsX0_pieceOf := goodIn_r _ [24] (by decide +kernel) (by decide +kernel)
set_option maxRecDepth 20000 in
theorem gX0_canBeTakenInPassing_X0_pieceOf : GoodIn wsX0_canBeTakenInPassing (va_wsS RX0 37 yX0_pieceOf wsX0_pieceOf) := goodIn_app (goodIn_of _ (by decide +kernel)) ggX0_canBeTakenInPassing_X0_pieceOf
set_option maxRecDepth 20000 in
theorem ggX0_canBeTakenInPassing_X0_holds : GoodIn wsX0_canBeTakenInPassing wsX0_holds := goodIn_r _ [28, 8, 9, 10, 6, 11, 29, 30, 31, 32, 33, 34, 35, 36, 37, 38, 39, 40, 41] (by decide +kernel) (by decide +kernel)
set_option maxRecDepth 20000 in
theorem gX0_canBeTakenInPassing_X0_holds : GoodIn wsX0_canBeTakenInPassing (wsV RX0 222 RX0 yX0_holds wsX0_holds) := goodIn_app (goodIn_of _ (by decide +kernel)) ggX0_canBeTakenInPassing_X0_holds
theorem dX0_canBeTakenInPassing_0 : decode cX0_canBeTakenInPassing 0 = .ok (.iload_n 1, 1) := by decide +kernel
theorem dX0_canBeTakenInPassing_1 : decode cX0_canBeTakenInPassing 1 = .ok (.aload_n 0, 1) := by decide +kernel
theorem dX0_canBeTakenInPassing_2 : decode cX0_canBeTakenInPassing 2 = .ok (.getfield 85, 3) := by decide +kernel
theorem dX0_canBeTakenInPassing_5 : decode cX0_canBeTakenInPassing 5 = .ok (.if_icmp .ne 38, 3) := by decide +kernel
theorem dX0_canBeTakenInPassing_8 : decode cX0_canBeTakenInPassing 8 = .ok (.aload_n 0, 1) := by decide +kernel
theorem dX0_canBeTakenInPassing_9 : decode cX0_canBeTakenInPassing 9 = .ok (.iload_n 1, 1) := by decide +kernel
theorem dX0_canBeTakenInPassing_10 : decode cX0_canBeTakenInPassing 10 = .ok (.invokevirtual 207, 3) := by decide +kernel
theorem dX0_canBeTakenInPassing_13 : decode cX0_canBeTakenInPassing 13 = .ok (.ifCond .eq 30, 3) := by decide +kernel
theorem dX0_canBeTakenInPassing_16 : decode cX0_canBeTakenInPassing 16 = .ok (.aload_n 0, 1) := by decide +kernel
theorem dX0_canBeTakenInPassing_17 : decode cX0_canBeTakenInPassing 17 = .ok (.aload_n 0, 1) := by decide +kernel
theorem dX0_canBeTakenInPassing_18 : decode cX0_canBeTakenInPassing 18 = .ok (.iload_n 1, 1) := by decide +kernel
theorem dX0_canBeTakenInPassing_19 : decode cX0_canBeTakenInPassing 19 = .ok (.invokevirtual 219, 3) := by decide +kernel
theorem dX0_canBeTakenInPassing_22 : decode cX0_canBeTakenInPassing 22 = .ok (.iconst 1, 1) := by decide +kernel
theorem dX0_canBeTakenInPassing_23 : decode cX0_canBeTakenInPassing 23 = .ok (.aload_n 0, 1) := by decide +kernel
theorem dX0_canBeTakenInPassing_24 : decode cX0_canBeTakenInPassing 24 = .ok (.getfield 82, 3) := by decide +kernel
theorem dX0_canBeTakenInPassing_27 : decode cX0_canBeTakenInPassing 27 = .ok (.invokestatic 152, 3) := by decide +kernel
theorem dX0_canBeTakenInPassing_30 : decode cX0_canBeTakenInPassing 30 = .ok (.invokestatic 37, 3) := by decide +kernel
theorem dX0_canBeTakenInPassing_33 : decode cX0_canBeTakenInPassing 33 = .ok (.invokevirtual 222, 3) := by decide +kernel
theorem dX0_canBeTakenInPassing_36 : decode cX0_canBeTakenInPassing 36 = .ok (.ifCond .eq 7, 3) := by decide +kernel
theorem dX0_canBeTakenInPassing_39 : decode cX0_canBeTakenInPassing 39 = .ok (.iconst 1, 1) := by decide +kernel
theorem dX0_canBeTakenInPassing_40 : decode cX0_canBeTakenInPassing 40 = .ok (.goto 4, 3) := by decide +kernel
theorem dX0_canBeTakenInPassing_43 : decode cX0_canBeTakenInPassing 43 = .ok (.iconst 0, 1) := by decide +kernel
theorem dX0_canBeTakenInPassing_44 : decode cX0_canBeTakenInPassing 44 = .ok (.ireturn, 1) := by decide +kernel
set_option maxRecDepth 20000 in
theorem ggX0_squareBehind_X0_onward : GoodIn wsX0_squareBehind wsX0_onward := goodIn_r _ [5] (by decide +kernel) (by decide +kernel)
set_option maxRecDepth 20000 in
theorem gX0_squareBehind_X0_onward : GoodIn wsX0_squareBehind (va_wsS RX0 204 yX0_onward wsX0_onward) := goodIn_app (goodIn_of _ (by decide +kernel)) ggX0_squareBehind_X0_onward
theorem dX0_squareBehind_0 : decode cX0_squareBehind 0 = .ok (.iload_n 1, 1) := by decide +kernel
theorem dX0_squareBehind_1 : decode cX0_squareBehind 1 = .ok (.bipush 8, 2) := by decide +kernel
theorem dX0_squareBehind_3 : decode cX0_squareBehind 3 = .ok (.aload_n 0, 1) := by decide +kernel
theorem dX0_squareBehind_4 : decode cX0_squareBehind 4 = .ok (.getfield 82, 3) := by decide +kernel
theorem dX0_squareBehind_7 : decode cX0_squareBehind 7 = .ok (.invokestatic 204, 3) := by decide +kernel
theorem dX0_squareBehind_10 : decode cX0_squareBehind 10 = .ok (.imul, 1) := by decide +kernel
theorem dX0_squareBehind_11 : decode cX0_squareBehind 11 = .ok (.isub, 1) := by decide +kernel
theorem dX0_squareBehind_12 : decode cX0_squareBehind 12 = .ok (.ireturn, 1) := by decide +kernel
set_option maxRecDepth 20000 in
theorem ggX0_castles_X0_homeOfKing : GoodIn wsX0_castles wsX0_homeOfKing := goodIn_r _ [6] (by decide +kernel) (by decide +kernel)
set_option maxRecDepth 20000 in
theorem gX0_castles_X0_homeOfKing : GoodIn wsX0_castles (va_wsS RX0 225 yX0_homeOfKing wsX0_homeOfKing) := goodIn_app (goodIn_of _ (by decide +kernel)) ggX0_castles_X0_homeOfKing
set_option maxRecDepth 20000 in
theorem ggX0_castles_X0_isTwoFilesAway : GoodIn wsX0_castles wsX0_isTwoFilesAway := goodIn_r _ [9, 10, 11, 12, 13, 14, 15, 5, 16] (by decide +kernel) (by decide +kernel)
set_option maxRecDepth 20000 in
theorem gX0_castles_X0_isTwoFilesAway : GoodIn wsX0_castles (va_wsS RX0 228 yX0_isTwoFilesAway wsX0_isTwoFilesAway) := goodIn_app (goodIn_of _ (by decide +kernel)) ggX0_castles_X0_isTwoFilesAway
set_option maxRecDepth 20000 in
theorem ggX0_castles_X0_cornerBeyond : GoodIn wsX0_castles wsX0_cornerBeyond := goodIn_r _ [19] (by decide +kernel) (by decide +kernel)
set_option maxRecDepth 20000 in
theorem gX0_castles_X0_cornerBeyond : GoodIn wsX0_castles (va_wsS RX0 231 yX0_cornerBeyond wsX0_cornerBeyond) := goodIn_app (goodIn_of _ (by decide +kernel)) ggX0_castles_X0_cornerBeyond
set_option maxRecDepth 20000 in
theorem ggX0_castles_X0_rightOfCorner : GoodIn wsX0_castles wsX0_rightOfCorner := goodIn_r _ [22] (by decide +kernel) (by decide +kernel)
set_option maxRecDepth 20000 in
theorem gX0_castles_X0_rightOfCorner : GoodIn wsX0_castles (va_wsS RX0 146 yX0_rightOfCorner wsX0_rightOfCorner) := goodIn_app (goodIn_of _ (by decide +kernel)) ggX0_castles_X0_rightOfCorner
set_option maxRecDepth 20000 in
theorem ggX0_castles_X0_pieceOf : GoodIn wsX0_castles wsX0_pieceOf := goodIn_r _ [25] (by decide +kernel) (by decide +kernel)
set_option maxRecDepth 20000 in
theorem gX0_castles_X0_pieceOf : GoodIn wsX0_castles (va_wsS RX0 37 yX0_pieceOf wsX0_pieceOf) := goodIn_app (goodIn_of _ (by decide +kernel)) ggX0_castles_X0_pieceOf
set_option maxRecDepth 20000 in
theorem ggX0_castles_X0_holds : GoodIn wsX0_castles wsX0_holds := goodIn_r _ [29, 30, 31, 32, 5, 33, 52, 53, 54, 55, 56, 57, 58, 59, 60, 61, 62, 63, 64] (by decide +kernel) (by decide +kernel)
set_option maxRecDepth 20000 in
theorem gX0_castles_X0_holds : GoodIn wsX0_castles (wsV RX0 222 RX0 yX0_holds wsX0_holds) := goodIn_app (goodIn_of _ (by decide +kernel)) ggX0_castles_X0_holds
set_option maxRecDepth 20000 in
theorem ggX0_castles_X0_isOpen : GoodIn wsX0_castles wsX0_isOpen := goodIn_r _ [37, 10, 11, 12, 13, 38, 39, 40, 41, 42, 5, 43, 14, 15, 16, 44, 45, 46, 47, 48, 49, 50, 51, 30, 31, 32, 33, 52, 53, 54, 55, 56, 57, 58, 59, 60, 61, 62, 63, 64] (by decide +kernel) (by decide +kernel)
set_option maxRecDepth 20000 in
theorem gX0_castles_X0_isOpen : GoodIn wsX0_castles (wsV RX0 234 RX0 yX0_isOpen wsX0_isOpen) := goodIn_app (goodIn_of _ (by decide +kernel)) ggX0_castles_X0_isOpen
theorem dX0_castles_0 : decode cX0_castles 0 = .ok (.iload_n 1, 1) := by decide +kernel
theorem dX0_castles_1 : decode cX0_castles 1 = .ok (.aload_n 0, 1) := by decide +kernel
theorem dX0_castles_2 : decode cX0_castles 2 = .ok (.getfield 82, 3) := by decide +kernel
theorem dX0_castles_5 : decode cX0_castles 5 = .ok (.invokestatic 225, 3) := by decide +kernel
theorem dX0_castles_8 : decode cX0_castles 8 = .ok (.if_icmp .ne 11, 3) := by decide +kernel
theorem dX0_castles_11 : decode cX0_castles 11 = .ok (.iload_n 1, 1) := by decide +kernel
theorem dX0_castles_12 : decode cX0_castles 12 = .ok (.iload_n 2, 1) := by decide +kernel
theorem dX0_castles_13 : decode cX0_castles 13 = .ok (.invokestatic 228, 3) := by decide +kernel
theorem dX0_castles_16 : decode cX0_castles 16 = .ok (.ifCond .ne 5, 3) := by decide +kernel
theorem dX0_castles_19 : decode cX0_castles 19 = .ok (.iconst 0, 1) := by decide +kernel
theorem dX0_castles_20 : decode cX0_castles 20 = .ok (.ireturn, 1) := by decide +kernel
theorem dX0_castles_21 : decode cX0_castles 21 = .ok (.iload_n 1, 1) := by decide +kernel
theorem dX0_castles_22 : decode cX0_castles 22 = .ok (.iload_n 2, 1) := by decide +kernel
theorem dX0_castles_23 : decode cX0_castles 23 = .ok (.invokestatic 231, 3) := by decide +kernel
theorem dX0_castles_26 : decode cX0_castles 26 = .ok (.istore_n 3, 1) := by decide +kernel
theorem dX0_castles_27 : decode cX0_castles 27 = .ok (.aload_n 0, 1) := by decide +kernel
theorem dX0_castles_28 : decode cX0_castles 28 = .ok (.getfield 41, 3) := by decide +kernel
theorem dX0_castles_31 : decode cX0_castles 31 = .ok (.iload_n 3, 1) := by decide +kernel
theorem dX0_castles_32 : decode cX0_castles 32 = .ok (.invokestatic 146, 3) := by decide +kernel
theorem dX0_castles_35 : decode cX0_castles 35 = .ok (.iand, 1) := by decide +kernel
theorem dX0_castles_36 : decode cX0_castles 36 = .ok (.ifCond .eq 32, 3) := by decide +kernel
theorem dX0_castles_39 : decode cX0_castles 39 = .ok (.aload_n 0, 1) := by decide +kernel
theorem dX0_castles_40 : decode cX0_castles 40 = .ok (.iload_n 3, 1) := by decide +kernel
theorem dX0_castles_41 : decode cX0_castles 41 = .ok (.iconst 4, 1) := by decide +kernel
theorem dX0_castles_42 : decode cX0_castles 42 = .ok (.aload_n 0, 1) := by decide +kernel
theorem dX0_castles_43 : decode cX0_castles 43 = .ok (.getfield 82, 3) := by decide +kernel
theorem dX0_castles_46 : decode cX0_castles 46 = .ok (.invokestatic 37, 3) := by decide +kernel
theorem dX0_castles_49 : decode cX0_castles 49 = .ok (.invokevirtual 222, 3) := by decide +kernel
theorem dX0_castles_52 : decode cX0_castles 52 = .ok (.ifCond .eq 16, 3) := by decide +kernel
theorem dX0_castles_55 : decode cX0_castles 55 = .ok (.aload_n 0, 1) := by decide +kernel
theorem dX0_castles_56 : decode cX0_castles 56 = .ok (.iload_n 1, 1) := by decide +kernel
theorem dX0_castles_57 : decode cX0_castles 57 = .ok (.iload_n 3, 1) := by decide +kernel
theorem dX0_castles_58 : decode cX0_castles 58 = .ok (.invokevirtual 234, 3) := by decide +kernel
theorem dX0_castles_61 : decode cX0_castles 61 = .ok (.ifCond .eq 7, 3) := by decide +kernel
theorem dX0_castles_64 : decode cX0_castles 64 = .ok (.iconst 1, 1) := by decide +kernel
theorem dX0_castles_65 : decode cX0_castles 65 = .ok (.goto 4, 3) := by decide +kernel
theorem dX0_castles_68 : decode cX0_castles 68 = .ok (.iconst 0, 1) := by decide +kernel
theorem dX0_castles_69 : decode cX0_castles 69 = .ok (.ireturn, 1) := by decide +kernel
set_option maxRecDepth 20000 in
theorem ggX0_attacks_X0_fileOf : GoodIn wsX0_attacks wsX0_fileOf := goodIn_r _ [9] (by decide +kernel) (by decide +kernel)
set_option maxRecDepth 20000 in
theorem gX0_attacks_X0_fileOf : GoodIn wsX0_attacks (va_wsS RX0 237 yX0_fileOf wsX0_fileOf) := goodIn_app (goodIn_of _ (by decide +kernel)) ggX0_attacks_X0_fileOf
set_option maxRecDepth 20000 in
theorem ggX0_attacks_X0_rankOf : GoodIn wsX0_attacks wsX0_rankOf := goodIn_r _ [12] (by decide +kernel) (by decide +kernel)
set_option maxRecDepth 20000 in
theorem gX0_attacks_X0_rankOf : GoodIn wsX0_attacks (va_wsS RX0 189 yX0_rankOf wsX0_rankOf) := goodIn_app (goodIn_of _ (by decide +kernel)) ggX0_attacks_X0_rankOf
set_option maxRecDepth 20000 in
theorem ggX0_attacks_X0_typeOf : GoodIn wsX0_attacks wsX0_typeOf := goodIn_r _ [15] (by decide +kernel) (by decide +kernel)
set_option maxRecDepth 20000 in
theorem gX0_attacks_X0_typeOf : GoodIn wsX0_attacks (va_wsS RX0 108 yX0_typeOf wsX0_typeOf) := goodIn_app (goodIn_of _ (by decide +kernel)) ggX0_attacks_X0_typeOf
set_option maxRecDepth 20000 in
theorem ggX0_attacks_X0_sideOf : GoodIn wsX0_attacks wsX0_sideOf := goodIn_r _ [18] (by decide +kernel) (by decide +kernel)
set_option maxRecDepth 20000 in
theorem gX0_attacks_X0_sideOf : GoodIn wsX0_attacks (va_wsS RX0 105 yX0_sideOf wsX0_sideOf) := goodIn_app (goodIn_of _ (by decide +kernel)) ggX0_attacks_X0_sideOf
set_option maxRecDepth 20000 in
theorem ggX0_attacks_X0_pawnAttacks : GoodIn wsX0_attacks wsX0_pawnAttacks := goodIn_r _ [21, 2, 3, 4, 5, 10, 11, 8, 12, 22, 23, 24, 6, 7, 9] (by decide +kernel) (by decide +kernel)
set_option maxRecDepth 20000 in
theorem gX0_attacks_X0_pawnAttacks : GoodIn wsX0_attacks (va_wsS RX0 213 yX0_pawnAttacks wsX0_pawnAttacks) := goodIn_app (goodIn_of _ (by decide +kernel)) ggX0_attacks_X0_pawnAttacks
set_option maxRecDepth 20000 in
theorem ggX0_attacks_X0_isOpen : GoodIn wsX0_attacks wsX0_isOpen := goodIn_r _ [28, 2, 3, 4, 5, 29, 30, 31, 6, 7, 8, 9, 10, 11, 12, 32, 33, 34, 35, 36, 37, 38, 39, 1, 40, 41, 42, 43, 44, 45, 46, 47, 48, 49, 50, 51, 52, 53, 54, 55] (by decide +kernel) (by decide +kernel)
set_option maxRecDepth 20000 in
theorem gX0_attacks_X0_isOpen : GoodIn wsX0_attacks (wsV RX0 234 RX0 yX0_isOpen wsX0_isOpen) := goodIn_app (goodIn_of _ (by decide +kernel)) ggX0_attacks_X0_isOpen
theorem dX0_attacks_0 : decode cX0_attacks 0 = .ok (.iload_n 1, 1) := by decide +kernel
theorem dX0_attacks_1 : decode cX0_attacks 1 = .ok (.iload_n 2, 1) := by decide +kernel
theorem dX0_attacks_2 : decode cX0_attacks 2 = .ok (.if_icmp .ne 5, 3) := by decide +kernel
theorem dX0_attacks_5 : decode cX0_attacks 5 = .ok (.iconst 0, 1) := by decide +kernel
theorem dX0_attacks_6 : decode cX0_attacks 6 = .ok (.ireturn, 1) := by decide +kernel
theorem dX0_attacks_7 : decode cX0_attacks 7 = .ok (.aload_n 0, 1) := by decide +kernel
theorem dX0_attacks_8 : decode cX0_attacks 8 = .ok (.getfield 9, 3) := by decide +kernel
theorem dX0_attacks_11 : decode cX0_attacks 11 = .ok (.iload_n 1, 1) := by decide +kernel
theorem dX0_attacks_12 : decode cX0_attacks 12 = .ok (.iaload, 1) := by decide +kernel
theorem dX0_attacks_13 : decode cX0_attacks 13 = .ok (.istore_n 3, 1) := by decide +kernel
theorem dX0_attacks_14 : decode cX0_attacks 14 = .ok (.iload_n 2, 1) := by decide +kernel
theorem dX0_attacks_15 : decode cX0_attacks 15 = .ok (.invokestatic 237, 3) := by decide +kernel
theorem dX0_attacks_18 : decode cX0_attacks 18 = .ok (.iload_n 1, 1) := by decide +kernel
theorem dX0_attacks_19 : decode cX0_attacks 19 = .ok (.invokestatic 237, 3) := by decide +kernel
theorem dX0_attacks_22 : decode cX0_attacks 22 = .ok (.isub, 1) := by decide +kernel
theorem dX0_attacks_23 : decode cX0_attacks 23 = .ok (.invokestatic 240, 3) := by decide +kernel
theorem dX0_attacks_26 : decode cX0_attacks 26 = .ok (.istore 4, 2) := by decide +kernel
theorem dX0_attacks_28 : decode cX0_attacks 28 = .ok (.iload_n 2, 1) := by decide +kernel
theorem dX0_attacks_29 : decode cX0_attacks 29 = .ok (.invokestatic 189, 3) := by decide +kernel
theorem dX0_attacks_32 : decode cX0_attacks 32 = .ok (.iload_n 1, 1) := by decide +kernel
theorem dX0_attacks_33 : decode cX0_attacks 33 = .ok (.invokestatic 189, 3) := by decide +kernel
theorem dX0_attacks_36 : decode cX0_attacks 36 = .ok (.isub, 1) := by decide +kernel
theorem dX0_attacks_37 : decode cX0_attacks 37 = .ok (.invokestatic 240, 3) := by decide +kernel
theorem dX0_attacks_40 : decode cX0_attacks 40 = .ok (.istore 5, 2) := by decide +kernel
theorem dX0_attacks_42 : decode cX0_attacks 42 = .ok (.iload 4, 2) := by decide +kernel
theorem dX0_attacks_44 : decode cX0_attacks 44 = .ok (.ifCond .eq 8, 3) := by decide +kernel
theorem dX0_attacks_47 : decode cX0_attacks 47 = .ok (.iload 5, 2) := by decide +kernel
theorem dX0_attacks_49 : decode cX0_attacks 49 = .ok (.ifCond .ne 7, 3) := by decide +kernel
theorem dX0_attacks_52 : decode cX0_attacks 52 = .ok (.iconst 1, 1) := by decide +kernel
theorem dX0_attacks_53 : decode cX0_attacks 53 = .ok (.goto 4, 3) := by decide +kernel
theorem dX0_attacks_56 : decode cX0_attacks 56 = .ok (.iconst 0, 1) := by decide +kernel
theorem dX0_attacks_57 : decode cX0_attacks 57 = .ok (.istore 6, 2) := by decide +kernel
theorem dX0_attacks_59 : decode cX0_attacks 59 = .ok (.iload 4, 2) := by decide +kernel
theorem dX0_attacks_61 : decode cX0_attacks 61 = .ok (.iload 5, 2) := by decide +kernel
theorem dX0_attacks_63 : decode cX0_attacks 63 = .ok (.if_icmp .ne 7, 3) := by decide +kernel
theorem dX0_attacks_66 : decode cX0_attacks 66 = .ok (.iconst 1, 1) := by decide +kernel
theorem dX0_attacks_67 : decode cX0_attacks 67 = .ok (.goto 4, 3) := by decide +kernel
theorem dX0_attacks_70 : decode cX0_attacks 70 = .ok (.iconst 0, 1) := by decide +kernel
theorem dX0_attacks_71 : decode cX0_attacks 71 = .ok (.istore 7, 2) := by decide +kernel
theorem dX0_attacks_73 : decode cX0_attacks 73 = .ok (.iload_n 3, 1) := by decide +kernel
theorem dX0_attacks_74 : decode cX0_attacks 74 = .ok (.invokestatic 108, 3) := by decide +kernel
theorem dX0_attacks_77 : decode cX0_attacks 77 = .ok (.tableswitch 147 1 6 #[39, 49, 64, 84, 104, 129], 39) := by decide +kernel
theorem dX0_attacks_116 : decode cX0_attacks 116 = .ok (.iload_n 3, 1) := by decide +kernel
theorem dX0_attacks_117 : decode cX0_attacks 117 = .ok (.invokestatic 105, 3) := by decide +kernel
theorem dX0_attacks_120 : decode cX0_attacks 120 = .ok (.iload_n 1, 1) := by decide +kernel
theorem dX0_attacks_121 : decode cX0_attacks 121 = .ok (.iload_n 2, 1) := by decide +kernel
theorem dX0_attacks_122 : decode cX0_attacks 122 = .ok (.invokestatic 213, 3) := by decide +kernel
theorem dX0_attacks_125 : decode cX0_attacks 125 = .ok (.ireturn, 1) := by decide +kernel
theorem dX0_attacks_126 : decode cX0_attacks 126 = .ok (.iload 4, 2) := by decide +kernel
theorem dX0_attacks_128 : decode cX0_attacks 128 = .ok (.iload 5, 2) := by decide +kernel
theorem dX0_attacks_130 : decode cX0_attacks 130 = .ok (.imul, 1) := by decide +kernel
theorem dX0_attacks_131 : decode cX0_attacks 131 = .ok (.iconst 2, 1) := by decide +kernel
theorem dX0_attacks_132 : decode cX0_attacks 132 = .ok (.if_icmp .ne 7, 3) := by decide +kernel
theorem dX0_attacks_135 : decode cX0_attacks 135 = .ok (.iconst 1, 1) := by decide +kernel
theorem dX0_attacks_136 : decode cX0_attacks 136 = .ok (.goto 4, 3) := by decide +kernel
theorem dX0_attacks_139 : decode cX0_attacks 139 = .ok (.iconst 0, 1) := by decide +kernel
theorem dX0_attacks_140 : decode cX0_attacks 140 = .ok (.ireturn, 1) := by decide +kernel
theorem dX0_attacks_141 : decode cX0_attacks 141 = .ok (.iload 7, 2) := by decide +kernel
theorem dX0_attacks_143 : decode cX0_attacks 143 = .ok (.ifCond .eq 16, 3) := by decide +kernel
theorem dX0_attacks_146 : decode cX0_attacks 146 = .ok (.aload_n 0, 1) := by decide +kernel
theorem dX0_attacks_147 : decode cX0_attacks 147 = .ok (.iload_n 1, 1) := by decide +kernel
theorem dX0_attacks_148 : decode cX0_attacks 148 = .ok (.iload_n 2, 1) := by decide +kernel
theorem dX0_attacks_149 : decode cX0_attacks 149 = .ok (.invokevirtual 234, 3) := by decide +kernel
theorem dX0_attacks_152 : decode cX0_attacks 152 = .ok (.ifCond .eq 7, 3) := by decide +kernel
theorem dX0_attacks_155 : decode cX0_attacks 155 = .ok (.iconst 1, 1) := by decide +kernel
theorem dX0_attacks_156 : decode cX0_attacks 156 = .ok (.goto 4, 3) := by decide +kernel
theorem dX0_attacks_159 : decode cX0_attacks 159 = .ok (.iconst 0, 1) := by decide +kernel
theorem dX0_attacks_160 : decode cX0_attacks 160 = .ok (.ireturn, 1) := by decide +kernel
theorem dX0_attacks_161 : decode cX0_attacks 161 = .ok (.iload 6, 2) := by decide +kernel
theorem dX0_attacks_163 : decode cX0_attacks 163 = .ok (.ifCond .eq 16, 3) := by decide +kernel
theorem dX0_attacks_166 : decode cX0_attacks 166 = .ok (.aload_n 0, 1) := by decide +kernel
theorem dX0_attacks_167 : decode cX0_attacks 167 = .ok (.iload_n 1, 1) := by decide +kernel
theorem dX0_attacks_168 : decode cX0_attacks 168 = .ok (.iload_n 2, 1) := by decide +kernel
theorem dX0_attacks_169 : decode cX0_attacks 169 = .ok (.invokevirtual 234, 3) := by decide +kernel
theorem dX0_attacks_172 : decode cX0_attacks 172 = .ok (.ifCond .eq 7, 3) := by decide +kernel
theorem dX0_attacks_175 : decode cX0_attacks 175 = .ok (.iconst 1, 1) := by decide +kernel
theorem dX0_attacks_176 : decode cX0_attacks 176 = .ok (.goto 4, 3) := by decide +kernel
theorem dX0_attacks_179 : decode cX0_attacks 179 = .ok (.iconst 0, 1) := by decide +kernel
theorem dX0_attacks_180 : decode cX0_attacks 180 = .ok (.ireturn, 1) := by decide +kernel
theorem dX0_attacks_181 : decode cX0_attacks 181 = .ok (.iload 6, 2) := by decide +kernel
theorem dX0_attacks_183 : decode cX0_attacks 183 = .ok (.ifCond .ne 8, 3) := by decide +kernel
theorem dX0_attacks_186 : decode cX0_attacks 186 = .ok (.iload 7, 2) := by decide +kernel
theorem dX0_attacks_188 : decode cX0_attacks 188 = .ok (.ifCond .eq 16, 3) := by decide +kernel
theorem dX0_attacks_191 : decode cX0_attacks 191 = .ok (.aload_n 0, 1) := by decide +kernel
theorem dX0_attacks_192 : decode cX0_attacks 192 = .ok (.iload_n 1, 1) := by decide +kernel
theorem dX0_attacks_193 : decode cX0_attacks 193 = .ok (.iload_n 2, 1) := by decide +kernel
theorem dX0_attacks_194 : decode cX0_attacks 194 = .ok (.invokevirtual 234, 3) := by decide +kernel
theorem dX0_attacks_197 : decode cX0_attacks 197 = .ok (.ifCond .eq 7, 3) := by decide +kernel
theorem dX0_attacks_200 : decode cX0_attacks 200 = .ok (.iconst 1, 1) := by decide +kernel
theorem dX0_attacks_201 : decode cX0_attacks 201 = .ok (.goto 4, 3) := by decide +kernel
theorem dX0_attacks_204 : decode cX0_attacks 204 = .ok (.iconst 0, 1) := by decide +kernel
theorem dX0_attacks_205 : decode cX0_attacks 205 = .ok (.ireturn, 1) := by decide +kernel
theorem dX0_attacks_206 : decode cX0_attacks 206 = .ok (.iload 4, 2) := by decide +kernel
theorem dX0_attacks_208 : decode cX0_attacks 208 = .ok (.iconst 1, 1) := by decide +kernel
theorem dX0_attacks_209 : decode cX0_attacks 209 = .ok (.if_icmp .gt 13, 3) := by decide +kernel
theorem dX0_attacks_212 : decode cX0_attacks 212 = .ok (.iload 5, 2) := by decide +kernel
theorem dX0_attacks_214 : decode cX0_attacks 214 = .ok (.iconst 1, 1) := by decide +kernel
theorem dX0_attacks_215 : decode cX0_attacks 215 = .ok (.if_icmp .gt 7, 3) := by decide +kernel
theorem dX0_attacks_218 : decode cX0_attacks 218 = .ok (.iconst 1, 1) := by decide +kernel
theorem dX0_attacks_219 : decode cX0_attacks 219 = .ok (.goto 4, 3) := by decide +kernel
theorem dX0_attacks_222 : decode cX0_attacks 222 = .ok (.iconst 0, 1) := by decide +kernel
theorem dX0_attacks_223 : decode cX0_attacks 223 = .ok (.ireturn, 1) := by decide +kernel
theorem dX0_attacks_224 : decode cX0_attacks 224 = .ok (.iconst 0, 1) := by decide +kernel
theorem dX0_attacks_225 : decode cX0_attacks 225 = .ok (.ireturn, 1) := by decide +kernel
set_option maxRecDepth 20000 in
theorem ggX0_pawnAttacks_X0_rankOf : GoodIn wsX0_pawnAttacks wsX0_rankOf := goodIn_r _ [8] (by decide +kernel) (by decide +kernel)
set_option maxRecDepth 20000 in
theorem gX0_pawnAttacks_X0_rankOf : GoodIn wsX0_pawnAttacks (va_wsS RX0 189 yX0_rankOf wsX0_rankOf) := goodIn_app (goodIn_of _ (by decide +kernel)) ggX0_pawnAttacks_X0_rankOf
set_option maxRecDepth 20000 in
theorem ggX0_pawnAttacks_X0_onward : GoodIn wsX0_pawnAttacks wsX0_onward := goodIn_r _ [11] (by decide +kernel) (by decide +kernel)
set_option maxRecDepth 20000 in
theorem gX0_pawnAttacks_X0_onward : GoodIn wsX0_pawnAttacks (va_wsS RX0 204 yX0_onward wsX0_onward) := goodIn_app (goodIn_of _ (by decide +kernel)) ggX0_pawnAttacks_X0_onward
set_option maxRecDepth 20000 in
theorem ggX0_pawnAttacks_X0_fileOf : GoodIn wsX0_pawnAttacks wsX0_fileOf := goodIn_r _ [14] (by decide +kernel) (by decide +kernel)
set_option maxRecDepth 20000 in
theorem gX0_pawnAttacks_X0_fileOf : GoodIn wsX0_pawnAttacks (va_wsS RX0 237 yX0_fileOf wsX0_fileOf) := goodIn_app (goodIn_of _ (by decide +kernel)) ggX0_pawnAttacks_X0_fileOf
theorem dX0_pawnAttacks_0 : decode cX0_pawnAttacks 0 = .ok (.iload_n 2, 1) := by decide +kernel
theorem dX0_pawnAttacks_1 : decode cX0_pawnAttacks 1 = .ok (.invokestatic 189, 3) := by decide +kernel
theorem dX0_pawnAttacks_4 : decode cX0_pawnAttacks 4 = .ok (.iload_n 1, 1) := by decide +kernel
theorem dX0_pawnAttacks_5 : decode cX0_pawnAttacks 5 = .ok (.invokestatic 189, 3) := by decide +kernel
theorem dX0_pawnAttacks_8 : decode cX0_pawnAttacks 8 = .ok (.isub, 1) := by decide +kernel
theorem dX0_pawnAttacks_9 : decode cX0_pawnAttacks 9 = .ok (.iload_n 0, 1) := by decide +kernel
theorem dX0_pawnAttacks_10 : decode cX0_pawnAttacks 10 = .ok (.invokestatic 204, 3) := by decide +kernel
theorem dX0_pawnAttacks_13 : decode cX0_pawnAttacks 13 = .ok (.if_icmp .ne 23, 3) := by decide +kernel
theorem dX0_pawnAttacks_16 : decode cX0_pawnAttacks 16 = .ok (.iload_n 2, 1) := by decide +kernel
theorem dX0_pawnAttacks_17 : decode cX0_pawnAttacks 17 = .ok (.invokestatic 237, 3) := by decide +kernel
theorem dX0_pawnAttacks_20 : decode cX0_pawnAttacks 20 = .ok (.iload_n 1, 1) := by decide +kernel
theorem dX0_pawnAttacks_21 : decode cX0_pawnAttacks 21 = .ok (.invokestatic 237, 3) := by decide +kernel
theorem dX0_pawnAttacks_24 : decode cX0_pawnAttacks 24 = .ok (.isub, 1) := by decide +kernel
theorem dX0_pawnAttacks_25 : decode cX0_pawnAttacks 25 = .ok (.invokestatic 240, 3) := by decide +kernel
theorem dX0_pawnAttacks_28 : decode cX0_pawnAttacks 28 = .ok (.iconst 1, 1) := by decide +kernel
theorem dX0_pawnAttacks_29 : decode cX0_pawnAttacks 29 = .ok (.if_icmp .ne 7, 3) := by decide +kernel
theorem dX0_pawnAttacks_32 : decode cX0_pawnAttacks 32 = .ok (.iconst 1, 1) := by decide +kernel
theorem dX0_pawnAttacks_33 : decode cX0_pawnAttacks 33 = .ok (.goto 4, 3) := by decide +kernel
theorem dX0_pawnAttacks_36 : decode cX0_pawnAttacks 36 = .ok (.iconst 0, 1) := by decide +kernel
theorem dX0_pawnAttacks_37 : decode cX0_pawnAttacks 37 = .ok (.ireturn, 1) := by decide +kernel
set_option maxRecDepth 20000 in
theorem ggX0_isOpen_X0_fileOf : GoodIn wsX0_isOpen wsX0_fileOf := goodIn_r _ [11] (by decide +kernel) (by decide +kernel)
set_option maxRecDepth 20000 in
theorem gX0_isOpen_X0_fileOf : GoodIn wsX0_isOpen (va_wsS RX0 237 yX0_fileOf wsX0_fileOf) := goodIn_app (goodIn_of _ (by decide +kernel)) ggX0_isOpen_X0_fileOf
set_option maxRecDepth 20000 in
theorem ggX0_isOpen_X0_rankOf : GoodIn wsX0_isOpen wsX0_rankOf := goodIn_r _ [14] (by decide +kernel) (by decide +kernel)
set_option maxRecDepth 20000 in
theorem gX0_isOpen_X0_rankOf : GoodIn wsX0_isOpen (va_wsS RX0 189 yX0_rankOf wsX0_rankOf) := goodIn_app (goodIn_of _ (by decide +kernel)) ggX0_isOpen_X0_rankOf
set_option maxRecDepth 20000 in
theorem ggX0_isOpen_J6_compare_7cf53 : GoodIn wsX0_isOpen wsJ6_compare_7cf53 := goodIn_r _ [18] (by decide +kernel) (by decide +kernel)
set_option maxRecDepth 20000 in
theorem gX0_isOpen_J6_compare_7cf53 : GoodIn wsX0_isOpen (va_wsS RX0 245 yJ6_compare_7cf53 wsJ6_compare_7cf53) := goodIn_app (goodIn_of _ (by decide +kernel)) ggX0_isOpen_J6_compare_7cf53
set_option maxRecDepth 20000 in
theorem ggX0_isOpen_X0_isFree : GoodIn wsX0_isOpen wsX0_isFree := goodIn_r _ [22, 23, 24, 25, 10, 26, 27, 28, 29, 30, 31, 32, 33, 34, 35, 36, 37, 38, 39] (by decide +kernel) (by decide +kernel)
set_option maxRecDepth 20000 in
theorem gX0_isOpen_X0_isFree : GoodIn wsX0_isOpen (wsV RX0 207 RX0 yX0_isFree wsX0_isFree) := goodIn_app (goodIn_of _ (by decide +kernel)) ggX0_isOpen_X0_isFree
theorem dX0_isOpen_0 : decode cX0_isOpen 0 = .ok (.iload_n 2, 1) := by decide +kernel
theorem dX0_isOpen_1 : decode cX0_isOpen 1 = .ok (.invokestatic 237, 3) := by decide +kernel
theorem dX0_isOpen_4 : decode cX0_isOpen 4 = .ok (.iload_n 1, 1) := by decide +kernel
theorem dX0_isOpen_5 : decode cX0_isOpen 5 = .ok (.invokestatic 237, 3) := by decide +kernel
theorem dX0_isOpen_8 : decode cX0_isOpen 8 = .ok (.isub, 1) := by decide +kernel
theorem dX0_isOpen_9 : decode cX0_isOpen 9 = .ok (.istore_n 3, 1) := by decide +kernel
theorem dX0_isOpen_10 : decode cX0_isOpen 10 = .ok (.iload_n 2, 1) := by decide +kernel
theorem dX0_isOpen_11 : decode cX0_isOpen 11 = .ok (.invokestatic 189, 3) := by decide +kernel
theorem dX0_isOpen_14 : decode cX0_isOpen 14 = .ok (.iload_n 1, 1) := by decide +kernel
theorem dX0_isOpen_15 : decode cX0_isOpen 15 = .ok (.invokestatic 189, 3) := by decide +kernel
theorem dX0_isOpen_18 : decode cX0_isOpen 18 = .ok (.isub, 1) := by decide +kernel
theorem dX0_isOpen_19 : decode cX0_isOpen 19 = .ok (.istore 4, 2) := by decide +kernel
theorem dX0_isOpen_21 : decode cX0_isOpen 21 = .ok (.iload_n 3, 1) := by decide +kernel
theorem dX0_isOpen_22 : decode cX0_isOpen 22 = .ok (.iconst 0, 1) := by decide +kernel
theorem dX0_isOpen_23 : decode cX0_isOpen 23 = .ok (.invokestatic 245, 3) := by decide +kernel
theorem dX0_isOpen_26 : decode cX0_isOpen 26 = .ok (.bipush 8, 2) := by decide +kernel
theorem dX0_isOpen_28 : decode cX0_isOpen 28 = .ok (.iload 4, 2) := by decide +kernel
theorem dX0_isOpen_30 : decode cX0_isOpen 30 = .ok (.iconst 0, 1) := by decide +kernel
theorem dX0_isOpen_31 : decode cX0_isOpen 31 = .ok (.invokestatic 245, 3) := by decide +kernel
theorem dX0_isOpen_34 : decode cX0_isOpen 34 = .ok (.imul, 1) := by decide +kernel
theorem dX0_isOpen_35 : decode cX0_isOpen 35 = .ok (.iadd, 1) := by decide +kernel
theorem dX0_isOpen_36 : decode cX0_isOpen 36 = .ok (.istore 5, 2) := by decide +kernel
theorem dX0_isOpen_38 : decode cX0_isOpen 38 = .ok (.iload_n 3, 1) := by decide +kernel
theorem dX0_isOpen_39 : decode cX0_isOpen 39 = .ok (.invokestatic 240, 3) := by decide +kernel
theorem dX0_isOpen_42 : decode cX0_isOpen 42 = .ok (.iload 4, 2) := by decide +kernel
theorem dX0_isOpen_44 : decode cX0_isOpen 44 = .ok (.invokestatic 240, 3) := by decide +kernel
theorem dX0_isOpen_47 : decode cX0_isOpen 47 = .ok (.invokestatic 250, 3) := by decide +kernel
theorem dX0_isOpen_50 : decode cX0_isOpen 50 = .ok (.istore 6, 2) := by decide +kernel
theorem dX0_isOpen_52 : decode cX0_isOpen 52 = .ok (.iconst 1, 1) := by decide +kernel
theorem dX0_isOpen_53 : decode cX0_isOpen 53 = .ok (.istore 7, 2) := by decide +kernel
theorem dX0_isOpen_55 : decode cX0_isOpen 55 = .ok (.iload 7, 2) := by decide +kernel
theorem dX0_isOpen_57 : decode cX0_isOpen 57 = .ok (.iload 6, 2) := by decide +kernel
theorem dX0_isOpen_59 : decode cX0_isOpen 59 = .ok (.if_icmp .ge 25, 3) := by decide +kernel
theorem dX0_isOpen_62 : decode cX0_isOpen 62 = .ok (.aload_n 0, 1) := by decide +kernel
theorem dX0_isOpen_63 : decode cX0_isOpen 63 = .ok (.iload_n 1, 1) := by decide +kernel
theorem dX0_isOpen_64 : decode cX0_isOpen 64 = .ok (.iload 7, 2) := by decide +kernel
theorem dX0_isOpen_66 : decode cX0_isOpen 66 = .ok (.iload 5, 2) := by decide +kernel
theorem dX0_isOpen_68 : decode cX0_isOpen 68 = .ok (.imul, 1) := by decide +kernel
theorem dX0_isOpen_69 : decode cX0_isOpen 69 = .ok (.iadd, 1) := by decide +kernel
theorem dX0_isOpen_70 : decode cX0_isOpen 70 = .ok (.invokevirtual 207, 3) := by decide +kernel
theorem dX0_isOpen_73 : decode cX0_isOpen 73 = .ok (.ifCond .ne 5, 3) := by decide +kernel
theorem dX0_isOpen_76 : decode cX0_isOpen 76 = .ok (.iconst 0, 1) := by decide +kernel
theorem dX0_isOpen_77 : decode cX0_isOpen 77 = .ok (.ireturn, 1) := by decide +kernel
theorem dX0_isOpen_78 : decode cX0_isOpen 78 = .ok (.iinc 7 1, 3) := by decide +kernel
theorem dX0_isOpen_81 : decode cX0_isOpen 81 = .ok (.goto (-26), 3) := by decide +kernel
theorem dX0_isOpen_84 : decode cX0_isOpen 84 = .ok (.iconst 1, 1) := by decide +kernel
theorem dX0_isOpen_85 : decode cX0_isOpen 85 = .ok (.ireturn, 1) := by decide +kernel
set_option maxRecDepth 20000 in
theorem ggX0_squareTaken_X0_typeOf : GoodIn wsX0_squareTaken wsX0_typeOf := goodIn_r _ [6] (by decide +kernel) (by decide +kernel)
set_option maxRecDepth 20000 in
theorem gX0_squareTaken_X0_typeOf : GoodIn wsX0_squareTaken (va_wsS RX0 108 yX0_typeOf wsX0_typeOf) := goodIn_app (goodIn_of _ (by decide +kernel)) ggX0_squareTaken_X0_typeOf
set_option maxRecDepth 20000 in
theorem ggX0_squareTaken_X0_pawnAttacks : GoodIn wsX0_squareTaken wsX0_pawnAttacks := goodIn_r _ [9, 10, 11, 12, 13, 14, 15, 5, 16, 17, 18, 19, 20, 21, 22] (by decide +kernel) (by decide +kernel)
set_option maxRecDepth 20000 in
theorem gX0_squareTaken_X0_pawnAttacks : GoodIn wsX0_squareTaken (va_wsS RX0 213 yX0_pawnAttacks wsX0_pawnAttacks) := goodIn_app (goodIn_of _ (by decide +kernel)) ggX0_squareTaken_X0_pawnAttacks
set_option maxRecDepth 20000 in
theorem ggX0_squareTaken_X0_canBeTakenInPassing : GoodIn wsX0_squareTaken wsX0_canBeTakenInPassing := goodIn_r _ [26, 27, 2, 28, 29, 30, 5, 31, 1, 32, 33, 34, 35, 36, 37, 38, 17, 18, 19, 39, 40, 41, 42, 43, 44, 45, 46, 47, 48, 49, 50, 51, 52, 53, 54, 55, 56, 57, 58, 59, 60, 61] (by decide +kernel) (by decide +kernel)
set_option maxRecDepth 20000 in
theorem gX0_squareTaken_X0_canBeTakenInPassing : GoodIn wsX0_squareTaken (wsV RX0 216 RX0 yX0_canBeTakenInPassing wsX0_canBeTakenInPassing) := goodIn_app (goodIn_of _ (by decide +kernel)) ggX0_squareTaken_X0_canBeTakenInPassing
set_option maxRecDepth 20000 in
theorem ggX0_squareTaken_X0_squareBehind : GoodIn wsX0_squareTaken wsX0_squareBehind := goodIn_r _ [38, 2, 17, 18, 5, 19, 49, 50, 51, 52, 53, 54, 55, 56, 57, 58, 59, 60, 61] (by decide +kernel) (by decide +kernel)
set_option maxRecDepth 20000 in
theorem gX0_squareTaken_X0_squareBehind : GoodIn wsX0_squareTaken (wsV RX0 219 RX0 yX0_squareBehind wsX0_squareBehind) := goodIn_app (goodIn_of _ (by decide +kernel)) ggX0_squareTaken_X0_squareBehind
theorem dX0_squareTaken_0 : decode cX0_squareTaken 0 = .ok (.aload_n 0, 1) := by decide +kernel
theorem dX0_squareTaken_1 : decode cX0_squareTaken 1 = .ok (.getfield 9, 3) := by decide +kernel
theorem dX0_squareTaken_4 : decode cX0_squareTaken 4 = .ok (.iload_n 1, 1) := by decide +kernel
theorem dX0_squareTaken_5 : decode cX0_squareTaken 5 = .ok (.iaload, 1) := by decide +kernel
theorem dX0_squareTaken_6 : decode cX0_squareTaken 6 = .ok (.invokestatic 108, 3) := by decide +kernel
theorem dX0_squareTaken_9 : decode cX0_squareTaken 9 = .ok (.iconst 1, 1) := by decide +kernel
theorem dX0_squareTaken_10 : decode cX0_squareTaken 10 = .ok (.if_icmp .ne 19, 3) := by decide +kernel
theorem dX0_squareTaken_13 : decode cX0_squareTaken 13 = .ok (.aload_n 0, 1) := by decide +kernel
theorem dX0_squareTaken_14 : decode cX0_squareTaken 14 = .ok (.getfield 82, 3) := by decide +kernel
theorem dX0_squareTaken_17 : decode cX0_squareTaken 17 = .ok (.iload_n 1, 1) := by decide +kernel
theorem dX0_squareTaken_18 : decode cX0_squareTaken 18 = .ok (.iload_n 2, 1) := by decide +kernel
theorem dX0_squareTaken_19 : decode cX0_squareTaken 19 = .ok (.invokestatic 213, 3) := by decide +kernel
theorem dX0_squareTaken_22 : decode cX0_squareTaken 22 = .ok (.ifCond .eq 7, 3) := by decide +kernel
theorem dX0_squareTaken_25 : decode cX0_squareTaken 25 = .ok (.iconst 1, 1) := by decide +kernel
theorem dX0_squareTaken_26 : decode cX0_squareTaken 26 = .ok (.goto 4, 3) := by decide +kernel
theorem dX0_squareTaken_29 : decode cX0_squareTaken 29 = .ok (.iconst 0, 1) := by decide +kernel
theorem dX0_squareTaken_30 : decode cX0_squareTaken 30 = .ok (.istore_n 3, 1) := by decide +kernel
theorem dX0_squareTaken_31 : decode cX0_squareTaken 31 = .ok (.iload_n 3, 1) := by decide +kernel
theorem dX0_squareTaken_32 : decode cX0_squareTaken 32 = .ok (.ifCond .eq 19, 3) := by decide +kernel
theorem dX0_squareTaken_35 : decode cX0_squareTaken 35 = .ok (.aload_n 0, 1) := by decide +kernel
theorem dX0_squareTaken_36 : decode cX0_squareTaken 36 = .ok (.iload_n 2, 1) := by decide +kernel
theorem dX0_squareTaken_37 : decode cX0_squareTaken 37 = .ok (.invokevirtual 216, 3) := by decide +kernel
theorem dX0_squareTaken_40 : decode cX0_squareTaken 40 = .ok (.ifCond .eq 11, 3) := by decide +kernel
theorem dX0_squareTaken_43 : decode cX0_squareTaken 43 = .ok (.aload_n 0, 1) := by decide +kernel
theorem dX0_squareTaken_44 : decode cX0_squareTaken 44 = .ok (.iload_n 2, 1) := by decide +kernel
theorem dX0_squareTaken_45 : decode cX0_squareTaken 45 = .ok (.invokevirtual 219, 3) := by decide +kernel
theorem dX0_squareTaken_48 : decode cX0_squareTaken 48 = .ok (.goto 4, 3) := by decide +kernel
theorem dX0_squareTaken_51 : decode cX0_squareTaken 51 = .ok (.iload_n 2, 1) := by decide +kernel
theorem dX0_squareTaken_52 : decode cX0_squareTaken 52 = .ok (.ireturn, 1) := by decide +kernel
theorem dX0_remember_0 : decode cX0_remember 0 = .ok (.aload_n 0, 1) := by decide +kernel
theorem dX0_remember_1 : decode cX0_remember 1 = .ok (.getfield 13, 3) := by decide +kernel
theorem dX0_remember_4 : decode cX0_remember 4 = .ok (.aload_n 0, 1) := by decide +kernel
theorem dX0_remember_5 : decode cX0_remember 5 = .ok (.getfield 127, 3) := by decide +kernel
theorem dX0_remember_8 : decode cX0_remember 8 = .ok (.iload_n 1, 1) := by decide +kernel
theorem dX0_remember_9 : decode cX0_remember 9 = .ok (.iastore, 1) := by decide +kernel
theorem dX0_remember_10 : decode cX0_remember 10 = .ok (.aload_n 0, 1) := by decide +kernel
theorem dX0_remember_11 : decode cX0_remember 11 = .ok (.getfield 16, 3) := by decide +kernel
theorem dX0_remember_14 : decode cX0_remember 14 = .ok (.aload_n 0, 1) := by decide +kernel
theorem dX0_remember_15 : decode cX0_remember 15 = .ok (.getfield 127, 3) := by decide +kernel
theorem dX0_remember_18 : decode cX0_remember 18 = .ok (.iload_n 2, 1) := by decide +kernel
theorem dX0_remember_19 : decode cX0_remember 19 = .ok (.iastore, 1) := by decide +kernel
theorem dX0_remember_20 : decode cX0_remember 20 = .ok (.aload_n 0, 1) := by decide +kernel
theorem dX0_remember_21 : decode cX0_remember 21 = .ok (.getfield 19, 3) := by decide +kernel
theorem dX0_remember_24 : decode cX0_remember 24 = .ok (.aload_n 0, 1) := by decide +kernel
theorem dX0_remember_25 : decode cX0_remember 25 = .ok (.getfield 127, 3) := by decide +kernel
theorem dX0_remember_28 : decode cX0_remember 28 = .ok (.iload_n 3, 1) := by decide +kernel
theorem dX0_remember_29 : decode cX0_remember 29 = .ok (.iastore, 1) := by decide +kernel
theorem dX0_remember_30 : decode cX0_remember 30 = .ok (.aload_n 0, 1) := by decide +kernel
theorem dX0_remember_31 : decode cX0_remember 31 = .ok (.getfield 22, 3) := by decide +kernel
theorem dX0_remember_34 : decode cX0_remember 34 = .ok (.aload_n 0, 1) := by decide +kernel
theorem dX0_remember_35 : decode cX0_remember 35 = .ok (.getfield 127, 3) := by decide +kernel
theorem dX0_remember_38 : decode cX0_remember 38 = .ok (.aload_n 0, 1) := by decide +kernel
theorem dX0_remember_39 : decode cX0_remember 39 = .ok (.getfield 41, 3) := by decide +kernel
theorem dX0_remember_42 : decode cX0_remember 42 = .ok (.iastore, 1) := by decide +kernel
theorem dX0_remember_43 : decode cX0_remember 43 = .ok (.aload_n 0, 1) := by decide +kernel
theorem dX0_remember_44 : decode cX0_remember 44 = .ok (.getfield 25, 3) := by decide +kernel
theorem dX0_remember_47 : decode cX0_remember 47 = .ok (.aload_n 0, 1) := by decide +kernel
theorem dX0_remember_48 : decode cX0_remember 48 = .ok (.getfield 127, 3) := by decide +kernel
theorem dX0_remember_51 : decode cX0_remember 51 = .ok (.aload_n 0, 1) := by decide +kernel
theorem dX0_remember_52 : decode cX0_remember 52 = .ok (.getfield 85, 3) := by decide +kernel
theorem dX0_remember_55 : decode cX0_remember 55 = .ok (.iastore, 1) := by decide +kernel
theorem dX0_remember_56 : decode cX0_remember 56 = .ok (.aload_n 0, 1) := by decide +kernel
theorem dX0_remember_57 : decode cX0_remember 57 = .ok (.getfield 28, 3) := by decide +kernel
theorem dX0_remember_60 : decode cX0_remember 60 = .ok (.aload_n 0, 1) := by decide +kernel
theorem dX0_remember_61 : decode cX0_remember 61 = .ok (.getfield 127, 3) := by decide +kernel
theorem dX0_remember_64 : decode cX0_remember 64 = .ok (.aload_n 0, 1) := by decide +kernel
theorem dX0_remember_65 : decode cX0_remember 65 = .ok (.getfield 92, 3) := by decide +kernel
theorem dX0_remember_68 : decode cX0_remember 68 = .ok (.iastore, 1) := by decide +kernel
theorem dX0_remember_69 : decode cX0_remember 69 = .ok (.aload_n 0, 1) := by decide +kernel
theorem dX0_remember_70 : decode cX0_remember 70 = .ok (.dup, 1) := by decide +kernel
theorem dX0_remember_71 : decode cX0_remember 71 = .ok (.getfield 127, 3) := by decide +kernel
theorem dX0_remember_74 : decode cX0_remember 74 = .ok (.iconst 1, 1) := by decide +kernel
theorem dX0_remember_75 : decode cX0_remember 75 = .ok (.iadd, 1) := by decide +kernel
theorem dX0_remember_76 : decode cX0_remember 76 = .ok (.putfield 127, 3) := by decide +kernel
theorem dX0_remember_79 : decode cX0_remember 79 = .ok (.return_, 1) := by decide +kernel
set_option maxRecDepth 20000 in
theorem ggX0_carryOver_X0_fromOf : GoodIn wsX0_carryOver wsX0_fromOf := goodIn_r _ [6] (by decide +kernel) (by decide +kernel)
set_option maxRecDepth 20000 in
theorem gX0_carryOver_X0_fromOf : GoodIn wsX0_carryOver (va_wsS RX0 98 yX0_fromOf wsX0_fromOf) := goodIn_app (goodIn_of _ (by decide +kernel)) ggX0_carryOver_X0_fromOf
set_option maxRecDepth 20000 in
theorem ggX0_carryOver_X0_toOf : GoodIn wsX0_carryOver wsX0_toOf := goodIn_r _ [9] (by decide +kernel) (by decide +kernel)
set_option maxRecDepth 20000 in
theorem gX0_carryOver_X0_toOf : GoodIn wsX0_carryOver (va_wsS RX0 102 yX0_toOf wsX0_toOf) := goodIn_app (goodIn_of _ (by decide +kernel)) ggX0_carryOver_X0_toOf
set_option maxRecDepth 20000 in
theorem ggX0_carryOver_X0_kindOf : GoodIn wsX0_carryOver wsX0_kindOf := goodIn_r _ [12] (by decide +kernel) (by decide +kernel)
set_option maxRecDepth 20000 in
theorem gX0_carryOver_X0_kindOf : GoodIn wsX0_carryOver (va_wsS RX0 111 yX0_kindOf wsX0_kindOf) := goodIn_app (goodIn_of _ (by decide +kernel)) ggX0_carryOver_X0_kindOf
set_option maxRecDepth 20000 in
theorem ggX0_carryOver_X0_isCastling : GoodIn wsX0_carryOver wsX0_isCastling := goodIn_r _ [15, 16, 17, 5, 18, 19, 20, 21, 22, 23, 24, 25, 26, 27, 28] (by decide +kernel) (by decide +kernel)
set_option maxRecDepth 20000 in
theorem gX0_carryOver_X0_isCastling : GoodIn wsX0_carryOver (va_wsS RX0 253 yX0_isCastling wsX0_isCastling) := goodIn_app (goodIn_of _ (by decide +kernel)) ggX0_carryOver_X0_isCastling
set_option maxRecDepth 20000 in
theorem ggX0_carryOver_X0_cornerBeyond : GoodIn wsX0_carryOver wsX0_cornerBeyond := goodIn_r _ [31] (by decide +kernel) (by decide +kernel)
set_option maxRecDepth 20000 in
theorem gX0_carryOver_X0_cornerBeyond : GoodIn wsX0_carryOver (va_wsS RX0 231 yX0_cornerBeyond wsX0_cornerBeyond) := goodIn_app (goodIn_of _ (by decide +kernel)) ggX0_carryOver_X0_cornerBeyond
set_option maxRecDepth 20000 in
theorem ggX0_carryOver_X0_shift : GoodIn wsX0_carryOver wsX0_shift := goodIn_r _ [35, 1, 36, 37, 5, 38, 42, 43, 44, 45, 46, 47, 48, 49, 50, 51, 52, 53, 54] (by decide +kernel) (by decide +kernel)
set_option maxRecDepth 20000 in
theorem gX0_carryOver_X0_shift : GoodIn wsX0_carryOver (wsV RX0 256 RX0 yX0_shift wsX0_shift) := goodIn_app (goodIn_of _ (by decide +kernel)) ggX0_carryOver_X0_shift
set_option maxRecDepth 20000 in
theorem ggX0_carryOver_X0_pieceOf : GoodIn wsX0_carryOver wsX0_pieceOf := goodIn_r _ [41] (by decide +kernel) (by decide +kernel)
set_option maxRecDepth 20000 in
theorem gX0_carryOver_X0_pieceOf : GoodIn wsX0_carryOver (va_wsS RX0 37 yX0_pieceOf wsX0_pieceOf) := goodIn_app (goodIn_of _ (by decide +kernel)) ggX0_carryOver_X0_pieceOf
theorem dX0_carryOver_0 : decode cX0_carryOver 0 = .ok (.iload_n 1, 1) := by decide +kernel
theorem dX0_carryOver_1 : decode cX0_carryOver 1 = .ok (.invokestatic 98, 3) := by decide +kernel
theorem dX0_carryOver_4 : decode cX0_carryOver 4 = .ok (.istore_n 3, 1) := by decide +kernel
theorem dX0_carryOver_5 : decode cX0_carryOver 5 = .ok (.iload_n 1, 1) := by decide +kernel
theorem dX0_carryOver_6 : decode cX0_carryOver 6 = .ok (.invokestatic 102, 3) := by decide +kernel
theorem dX0_carryOver_9 : decode cX0_carryOver 9 = .ok (.istore 4, 2) := by decide +kernel
theorem dX0_carryOver_11 : decode cX0_carryOver 11 = .ok (.iload_n 1, 1) := by decide +kernel
theorem dX0_carryOver_12 : decode cX0_carryOver 12 = .ok (.invokestatic 111, 3) := by decide +kernel
theorem dX0_carryOver_15 : decode cX0_carryOver 15 = .ok (.istore 5, 2) := by decide +kernel
theorem dX0_carryOver_17 : decode cX0_carryOver 17 = .ok (.aload_n 0, 1) := by decide +kernel
theorem dX0_carryOver_18 : decode cX0_carryOver 18 = .ok (.getfield 9, 3) := by decide +kernel
theorem dX0_carryOver_21 : decode cX0_carryOver 21 = .ok (.iload_n 3, 1) := by decide +kernel
theorem dX0_carryOver_22 : decode cX0_carryOver 22 = .ok (.iaload, 1) := by decide +kernel
theorem dX0_carryOver_23 : decode cX0_carryOver 23 = .ok (.istore 6, 2) := by decide +kernel
theorem dX0_carryOver_25 : decode cX0_carryOver 25 = .ok (.iload 6, 2) := by decide +kernel
theorem dX0_carryOver_27 : decode cX0_carryOver 27 = .ok (.iload_n 3, 1) := by decide +kernel
theorem dX0_carryOver_28 : decode cX0_carryOver 28 = .ok (.iload 4, 2) := by decide +kernel
theorem dX0_carryOver_30 : decode cX0_carryOver 30 = .ok (.invokestatic 253, 3) := by decide +kernel
theorem dX0_carryOver_33 : decode cX0_carryOver 33 = .ok (.ifCond .eq 19, 3) := by decide +kernel
theorem dX0_carryOver_36 : decode cX0_carryOver 36 = .ok (.aload_n 0, 1) := by decide +kernel
theorem dX0_carryOver_37 : decode cX0_carryOver 37 = .ok (.iload_n 3, 1) := by decide +kernel
theorem dX0_carryOver_38 : decode cX0_carryOver 38 = .ok (.iload 4, 2) := by decide +kernel
theorem dX0_carryOver_40 : decode cX0_carryOver 40 = .ok (.invokestatic 231, 3) := by decide +kernel
theorem dX0_carryOver_43 : decode cX0_carryOver 43 = .ok (.iload_n 3, 1) := by decide +kernel
theorem dX0_carryOver_44 : decode cX0_carryOver 44 = .ok (.iload 4, 2) := by decide +kernel
theorem dX0_carryOver_46 : decode cX0_carryOver 46 = .ok (.iadd, 1) := by decide +kernel
theorem dX0_carryOver_47 : decode cX0_carryOver 47 = .ok (.iconst 2, 1) := by decide +kernel
theorem dX0_carryOver_48 : decode cX0_carryOver 48 = .ok (.idiv, 1) := by decide +kernel
theorem dX0_carryOver_49 : decode cX0_carryOver 49 = .ok (.invokevirtual 256, 3) := by decide +kernel
theorem dX0_carryOver_52 : decode cX0_carryOver 52 = .ok (.aload_n 0, 1) := by decide +kernel
theorem dX0_carryOver_53 : decode cX0_carryOver 53 = .ok (.getfield 9, 3) := by decide +kernel
theorem dX0_carryOver_56 : decode cX0_carryOver 56 = .ok (.iload_n 2, 1) := by decide +kernel
theorem dX0_carryOver_57 : decode cX0_carryOver 57 = .ok (.iconst 0, 1) := by decide +kernel
theorem dX0_carryOver_58 : decode cX0_carryOver 58 = .ok (.iastore, 1) := by decide +kernel
theorem dX0_carryOver_59 : decode cX0_carryOver 59 = .ok (.aload_n 0, 1) := by decide +kernel
theorem dX0_carryOver_60 : decode cX0_carryOver 60 = .ok (.getfield 9, 3) := by decide +kernel
theorem dX0_carryOver_63 : decode cX0_carryOver 63 = .ok (.iload_n 3, 1) := by decide +kernel
theorem dX0_carryOver_64 : decode cX0_carryOver 64 = .ok (.iconst 0, 1) := by decide +kernel
theorem dX0_carryOver_65 : decode cX0_carryOver 65 = .ok (.iastore, 1) := by decide +kernel
theorem dX0_carryOver_66 : decode cX0_carryOver 66 = .ok (.aload_n 0, 1) := by decide +kernel
theorem dX0_carryOver_67 : decode cX0_carryOver 67 = .ok (.getfield 9, 3) := by decide +kernel
theorem dX0_carryOver_70 : decode cX0_carryOver 70 = .ok (.iload 4, 2) := by decide +kernel
theorem dX0_carryOver_72 : decode cX0_carryOver 72 = .ok (.iload 5, 2) := by decide +kernel
theorem dX0_carryOver_74 : decode cX0_carryOver 74 = .ok (.ifCond .ne 8, 3) := by decide +kernel
theorem dX0_carryOver_77 : decode cX0_carryOver 77 = .ok (.iload 6, 2) := by decide +kernel
theorem dX0_carryOver_79 : decode cX0_carryOver 79 = .ok (.goto 12, 3) := by decide +kernel
theorem dX0_carryOver_82 : decode cX0_carryOver 82 = .ok (.iload 5, 2) := by decide +kernel
theorem dX0_carryOver_84 : decode cX0_carryOver 84 = .ok (.aload_n 0, 1) := by decide +kernel
theorem dX0_carryOver_85 : decode cX0_carryOver 85 = .ok (.getfield 82, 3) := by decide +kernel
theorem dX0_carryOver_88 : decode cX0_carryOver 88 = .ok (.invokestatic 37, 3) := by decide +kernel
theorem dX0_carryOver_91 : decode cX0_carryOver 91 = .ok (.iastore, 1) := by decide +kernel
theorem dX0_carryOver_92 : decode cX0_carryOver 92 = .ok (.return_, 1) := by decide +kernel
set_option maxRecDepth 20000 in
theorem ggX0_carryBack_X0_fromOf : GoodIn wsX0_carryBack wsX0_fromOf := goodIn_r _ [6] (by decide +kernel) (by decide +kernel)
set_option maxRecDepth 20000 in
theorem gX0_carryBack_X0_fromOf : GoodIn wsX0_carryBack (va_wsS RX0 98 yX0_fromOf wsX0_fromOf) := goodIn_app (goodIn_of _ (by decide +kernel)) ggX0_carryBack_X0_fromOf
set_option maxRecDepth 20000 in
theorem ggX0_carryBack_X0_toOf : GoodIn wsX0_carryBack wsX0_toOf := goodIn_r _ [9] (by decide +kernel) (by decide +kernel)
set_option maxRecDepth 20000 in
theorem gX0_carryBack_X0_toOf : GoodIn wsX0_carryBack (va_wsS RX0 102 yX0_toOf wsX0_toOf) := goodIn_app (goodIn_of _ (by decide +kernel)) ggX0_carryBack_X0_toOf
set_option maxRecDepth 20000 in
theorem ggX0_carryBack_X0_kindOf : GoodIn wsX0_carryBack wsX0_kindOf := goodIn_r _ [12] (by decide +kernel) (by decide +kernel)
set_option maxRecDepth 20000 in
theorem gX0_carryBack_X0_kindOf : GoodIn wsX0_carryBack (va_wsS RX0 111 yX0_kindOf wsX0_kindOf) := goodIn_app (goodIn_of _ (by decide +kernel)) ggX0_carryBack_X0_kindOf
set_option maxRecDepth 20000 in
theorem ggX0_carryBack_X0_pieceOf : GoodIn wsX0_carryBack wsX0_pieceOf := goodIn_r _ [15] (by decide +kernel) (by decide +kernel)
set_option maxRecDepth 20000 in
theorem gX0_carryBack_X0_pieceOf : GoodIn wsX0_carryBack (va_wsS RX0 37 yX0_pieceOf wsX0_pieceOf) := goodIn_app (goodIn_of _ (by decide +kernel)) ggX0_carryBack_X0_pieceOf
set_option maxRecDepth 20000 in
theorem ggX0_carryBack_X0_isCastling : GoodIn wsX0_carryBack wsX0_isCastling := goodIn_r _ [18, 19, 20, 5, 21, 22, 23, 24, 25, 26, 27, 28, 29, 30, 31] (by decide +kernel) (by decide +kernel)
set_option maxRecDepth 20000 in
theorem gX0_carryBack_X0_isCastling : GoodIn wsX0_carryBack (va_wsS RX0 253 yX0_isCastling wsX0_isCastling) := goodIn_app (goodIn_of _ (by decide +kernel)) ggX0_carryBack_X0_isCastling
set_option maxRecDepth 20000 in
theorem ggX0_carryBack_X0_cornerBeyond : GoodIn wsX0_carryBack wsX0_cornerBeyond := goodIn_r _ [34] (by decide +kernel) (by decide +kernel)
set_option maxRecDepth 20000 in
theorem gX0_carryBack_X0_cornerBeyond : GoodIn wsX0_carryBack (va_wsS RX0 231 yX0_cornerBeyond wsX0_cornerBeyond) := goodIn_app (goodIn_of _ (by decide +kernel)) ggX0_carryBack_X0_cornerBeyond
set_option maxRecDepth 20000 in
theorem ggX0_carryBack_X0_shift : GoodIn wsX0_carryBack wsX0_shift := goodIn_r _ [38, 1, 39, 40, 5, 41, 42, 43, 44, 45, 46, 47, 48, 49, 50, 51, 52, 53, 54] (by decide +kernel) (by decide +kernel)
set_option maxRecDepth 20000 in
theorem gX0_carryBack_X0_shift : GoodIn wsX0_carryBack (wsV RX0 256 RX0 yX0_shift wsX0_shift) := goodIn_app (goodIn_of _ (by decide +kernel)) ggX0_carryBack_X0_shift
theorem dX0_carryBack_0 : decode cX0_carryBack 0 = .ok (.iload_n 1, 1) := by decide +kernel
theorem dX0_carryBack_1 : decode cX0_carryBack 1 = .ok (.invokestatic 98, 3) := by decide +kernel
theorem dX0_carryBack_4 : decode cX0_carryBack 4 = .ok (.istore 4, 2) := by decide +kernel
theorem dX0_carryBack_6 : decode cX0_carryBack 6 = .ok (.iload_n 1, 1) := by decide +kernel
theorem dX0_carryBack_7 : decode cX0_carryBack 7 = .ok (.invokestatic 102, 3) := by decide +kernel
theorem dX0_carryBack_10 : decode cX0_carryBack 10 = .ok (.istore 5, 2) := by decide +kernel
theorem dX0_carryBack_12 : decode cX0_carryBack 12 = .ok (.iload_n 1, 1) := by decide +kernel
theorem dX0_carryBack_13 : decode cX0_carryBack 13 = .ok (.invokestatic 111, 3) := by decide +kernel
theorem dX0_carryBack_16 : decode cX0_carryBack 16 = .ok (.ifCond .ne 13, 3) := by decide +kernel
theorem dX0_carryBack_19 : decode cX0_carryBack 19 = .ok (.aload_n 0, 1) := by decide +kernel
theorem dX0_carryBack_20 : decode cX0_carryBack 20 = .ok (.getfield 9, 3) := by decide +kernel
theorem dX0_carryBack_23 : decode cX0_carryBack 23 = .ok (.iload 5, 2) := by decide +kernel
theorem dX0_carryBack_25 : decode cX0_carryBack 25 = .ok (.iaload, 1) := by decide +kernel
theorem dX0_carryBack_26 : decode cX0_carryBack 26 = .ok (.goto 11, 3) := by decide +kernel
theorem dX0_carryBack_29 : decode cX0_carryBack 29 = .ok (.iconst 1, 1) := by decide +kernel
theorem dX0_carryBack_30 : decode cX0_carryBack 30 = .ok (.aload_n 0, 1) := by decide +kernel
theorem dX0_carryBack_31 : decode cX0_carryBack 31 = .ok (.getfield 82, 3) := by decide +kernel
theorem dX0_carryBack_34 : decode cX0_carryBack 34 = .ok (.invokestatic 37, 3) := by decide +kernel
theorem dX0_carryBack_37 : decode cX0_carryBack 37 = .ok (.istore 6, 2) := by decide +kernel
theorem dX0_carryBack_39 : decode cX0_carryBack 39 = .ok (.aload_n 0, 1) := by decide +kernel
theorem dX0_carryBack_40 : decode cX0_carryBack 40 = .ok (.getfield 9, 3) := by decide +kernel
theorem dX0_carryBack_43 : decode cX0_carryBack 43 = .ok (.iload 5, 2) := by decide +kernel
theorem dX0_carryBack_45 : decode cX0_carryBack 45 = .ok (.iconst 0, 1) := by decide +kernel
theorem dX0_carryBack_46 : decode cX0_carryBack 46 = .ok (.iastore, 1) := by decide +kernel
theorem dX0_carryBack_47 : decode cX0_carryBack 47 = .ok (.aload_n 0, 1) := by decide +kernel
theorem dX0_carryBack_48 : decode cX0_carryBack 48 = .ok (.getfield 9, 3) := by decide +kernel
theorem dX0_carryBack_51 : decode cX0_carryBack 51 = .ok (.iload_n 3, 1) := by decide +kernel
theorem dX0_carryBack_52 : decode cX0_carryBack 52 = .ok (.iload_n 2, 1) := by decide +kernel
theorem dX0_carryBack_53 : decode cX0_carryBack 53 = .ok (.iastore, 1) := by decide +kernel
theorem dX0_carryBack_54 : decode cX0_carryBack 54 = .ok (.aload_n 0, 1) := by decide +kernel
theorem dX0_carryBack_55 : decode cX0_carryBack 55 = .ok (.getfield 9, 3) := by decide +kernel
theorem dX0_carryBack_58 : decode cX0_carryBack 58 = .ok (.iload 4, 2) := by decide +kernel
theorem dX0_carryBack_60 : decode cX0_carryBack 60 = .ok (.iload 6, 2) := by decide +kernel
theorem dX0_carryBack_62 : decode cX0_carryBack 62 = .ok (.iastore, 1) := by decide +kernel
theorem dX0_carryBack_63 : decode cX0_carryBack 63 = .ok (.iload 6, 2) := by decide +kernel
theorem dX0_carryBack_65 : decode cX0_carryBack 65 = .ok (.iload 4, 2) := by decide +kernel
theorem dX0_carryBack_67 : decode cX0_carryBack 67 = .ok (.iload 5, 2) := by decide +kernel
theorem dX0_carryBack_69 : decode cX0_carryBack 69 = .ok (.invokestatic 253, 3) := by decide +kernel
theorem dX0_carryBack_72 : decode cX0_carryBack 72 = .ok (.ifCond .eq 21, 3) := by decide +kernel
theorem dX0_carryBack_75 : decode cX0_carryBack 75 = .ok (.aload_n 0, 1) := by decide +kernel
theorem dX0_carryBack_76 : decode cX0_carryBack 76 = .ok (.iload 4, 2) := by decide +kernel
theorem dX0_carryBack_78 : decode cX0_carryBack 78 = .ok (.iload 5, 2) := by decide +kernel
theorem dX0_carryBack_80 : decode cX0_carryBack 80 = .ok (.iadd, 1) := by decide +kernel
theorem dX0_carryBack_81 : decode cX0_carryBack 81 = .ok (.iconst 2, 1) := by decide +kernel
theorem dX0_carryBack_82 : decode cX0_carryBack 82 = .ok (.idiv, 1) := by decide +kernel
theorem dX0_carryBack_83 : decode cX0_carryBack 83 = .ok (.iload 4, 2) := by decide +kernel
theorem dX0_carryBack_85 : decode cX0_carryBack 85 = .ok (.iload 5, 2) := by decide +kernel
theorem dX0_carryBack_87 : decode cX0_carryBack 87 = .ok (.invokestatic 231, 3) := by decide +kernel
theorem dX0_carryBack_90 : decode cX0_carryBack 90 = .ok (.invokevirtual 256, 3) := by decide +kernel
theorem dX0_carryBack_93 : decode cX0_carryBack 93 = .ok (.return_, 1) := by decide +kernel
set_option maxRecDepth 20000 in
theorem ggX0_shift_X0_isSquare : GoodIn wsX0_shift wsX0_isSquare := goodIn_r _ [5] (by decide +kernel) (by decide +kernel)
set_option maxRecDepth 20000 in
theorem gX0_shift_X0_isSquare : GoodIn wsX0_shift (va_wsS RX0 45 yX0_isSquare wsX0_isSquare) := goodIn_app (goodIn_of _ (by decide +kernel)) ggX0_shift_X0_isSquare
theorem dX0_shift_0 : decode cX0_shift 0 = .ok (.iload_n 1, 1) := by decide +kernel
theorem dX0_shift_1 : decode cX0_shift 1 = .ok (.invokestatic 45, 3) := by decide +kernel
theorem dX0_shift_4 : decode cX0_shift 4 = .ok (.ifCond .eq 29, 3) := by decide +kernel
theorem dX0_shift_7 : decode cX0_shift 7 = .ok (.iload_n 2, 1) := by decide +kernel
theorem dX0_shift_8 : decode cX0_shift 8 = .ok (.invokestatic 45, 3) := by decide +kernel
theorem dX0_shift_11 : decode cX0_shift 11 = .ok (.ifCond .eq 22, 3) := by decide +kernel
theorem dX0_shift_14 : decode cX0_shift 14 = .ok (.aload_n 0, 1) := by decide +kernel
theorem dX0_shift_15 : decode cX0_shift 15 = .ok (.getfield 9, 3) := by decide +kernel
theorem dX0_shift_18 : decode cX0_shift 18 = .ok (.iload_n 2, 1) := by decide +kernel
theorem dX0_shift_19 : decode cX0_shift 19 = .ok (.aload_n 0, 1) := by decide +kernel
theorem dX0_shift_20 : decode cX0_shift 20 = .ok (.getfield 9, 3) := by decide +kernel
theorem dX0_shift_23 : decode cX0_shift 23 = .ok (.iload_n 1, 1) := by decide +kernel
end
section
theorem dX0_shift_24 : decode cX0_shift 24 = .ok (.iaload, 1) := by decide +kernel
theorem dX0_shift_25 : decode cX0_shift 25 = .ok (.iastore, 1) := by decide +kernel
theorem dX0_shift_26 : decode cX0_shift 26 = .ok (.aload_n 0, 1) := by decide +kernel
theorem dX0_shift_27 : decode cX0_shift 27 = .ok (.getfield 9, 3) := by decide +kernel
theorem dX0_shift_30 : decode cX0_shift 30 = .ok (.iload_n 1, 1) := by decide +kernel
theorem dX0_shift_31 : decode cX0_shift 31 = .ok (.iconst 0, 1) := by decide +kernel
theorem dX0_shift_32 : decode cX0_shift 32 = .ok (.iastore, 1) := by decide +kernel
theorem dX0_shift_33 : decode cX0_shift 33 = .ok (.return_, 1) := by decide +kernel
set_option maxRecDepth 20000 in
theorem ggX0_isCastling_X0_typeOf : GoodIn wsX0_isCastling wsX0_typeOf := goodIn_r _ [4] (by decide +kernel) (by decide +kernel)
set_option maxRecDepth 20000 in
theorem gX0_isCastling_X0_typeOf : GoodIn wsX0_isCastling (va_wsS RX0 108 yX0_typeOf wsX0_typeOf) := goodIn_app (goodIn_of _ (by decide +kernel)) ggX0_isCastling_X0_typeOf
set_option maxRecDepth 20000 in
theorem ggX0_isCastling_X0_isTwoFilesAway : GoodIn wsX0_isCastling wsX0_isTwoFilesAway := goodIn_r _ [7, 8, 9, 10, 11, 12, 13, 3, 14] (by decide +kernel) (by decide +kernel)
set_option maxRecDepth 20000 in
theorem gX0_isCastling_X0_isTwoFilesAway : GoodIn wsX0_isCastling (va_wsS RX0 228 yX0_isTwoFilesAway wsX0_isTwoFilesAway) := goodIn_app (goodIn_of _ (by decide +kernel)) ggX0_isCastling_X0_isTwoFilesAway
theorem dX0_isCastling_0 : decode cX0_isCastling 0 = .ok (.iload_n 0, 1) := by decide +kernel
theorem dX0_isCastling_1 : decode cX0_isCastling 1 = .ok (.invokestatic 108, 3) := by decide +kernel
theorem dX0_isCastling_4 : decode cX0_isCastling 4 = .ok (.bipush 6, 2) := by decide +kernel
theorem dX0_isCastling_6 : decode cX0_isCastling 6 = .ok (.if_icmp .ne 15, 3) := by decide +kernel
theorem dX0_isCastling_9 : decode cX0_isCastling 9 = .ok (.iload_n 1, 1) := by decide +kernel
theorem dX0_isCastling_10 : decode cX0_isCastling 10 = .ok (.iload_n 2, 1) := by decide +kernel
theorem dX0_isCastling_11 : decode cX0_isCastling 11 = .ok (.invokestatic 228, 3) := by decide +kernel
theorem dX0_isCastling_14 : decode cX0_isCastling 14 = .ok (.ifCond .eq 7, 3) := by decide +kernel
theorem dX0_isCastling_17 : decode cX0_isCastling 17 = .ok (.iconst 1, 1) := by decide +kernel
theorem dX0_isCastling_18 : decode cX0_isCastling 18 = .ok (.goto 4, 3) := by decide +kernel
theorem dX0_isCastling_21 : decode cX0_isCastling 21 = .ok (.iconst 0, 1) := by decide +kernel
theorem dX0_isCastling_22 : decode cX0_isCastling 22 = .ok (.ireturn, 1) := by decide +kernel
set_option maxRecDepth 20000 in
theorem ggX0_passingBehind_X0_typeOf : GoodIn wsX0_passingBehind wsX0_typeOf := goodIn_r _ [10] (by decide +kernel) (by decide +kernel)
set_option maxRecDepth 20000 in
theorem gX0_passingBehind_X0_typeOf : GoodIn wsX0_passingBehind (va_wsS RX0 108 yX0_typeOf wsX0_typeOf) := goodIn_app (goodIn_of _ (by decide +kernel)) ggX0_passingBehind_X0_typeOf
set_option maxRecDepth 20000 in
theorem ggX0_passingBehind_X0_otherThan : GoodIn wsX0_passingBehind wsX0_otherThan := goodIn_r _ [13] (by decide +kernel) (by decide +kernel)
set_option maxRecDepth 20000 in
theorem gX0_passingBehind_X0_otherThan : GoodIn wsX0_passingBehind (va_wsS RX0 152 yX0_otherThan wsX0_otherThan) := goodIn_app (goodIn_of _ (by decide +kernel)) ggX0_passingBehind_X0_otherThan
set_option maxRecDepth 20000 in
theorem ggX0_passingBehind_X0_pieceOf : GoodIn wsX0_passingBehind wsX0_pieceOf := goodIn_r _ [16] (by decide +kernel) (by decide +kernel)
set_option maxRecDepth 20000 in
theorem gX0_passingBehind_X0_pieceOf : GoodIn wsX0_passingBehind (va_wsS RX0 37 yX0_pieceOf wsX0_pieceOf) := goodIn_app (goodIn_of _ (by decide +kernel)) ggX0_passingBehind_X0_pieceOf
set_option maxRecDepth 20000 in
theorem ggX0_passingBehind_X0_pawnAttacks : GoodIn wsX0_passingBehind wsX0_pawnAttacks := goodIn_r _ [19, 2, 3, 4, 5, 20, 21, 9, 22, 23, 24, 25, 26, 27, 28] (by decide +kernel) (by decide +kernel)
set_option maxRecDepth 20000 in
theorem gX0_passingBehind_X0_pawnAttacks : GoodIn wsX0_passingBehind (va_wsS RX0 213 yX0_pawnAttacks wsX0_pawnAttacks) := goodIn_app (goodIn_of _ (by decide +kernel)) ggX0_passingBehind_X0_pawnAttacks
theorem dX0_passingBehind_0 : decode cX0_passingBehind 0 = .ok (.aload_n 0, 1) := by decide +kernel
theorem dX0_passingBehind_1 : decode cX0_passingBehind 1 = .ok (.getfield 9, 3) := by decide +kernel
theorem dX0_passingBehind_4 : decode cX0_passingBehind 4 = .ok (.iload_n 2, 1) := by decide +kernel
theorem dX0_passingBehind_5 : decode cX0_passingBehind 5 = .ok (.iaload, 1) := by decide +kernel
theorem dX0_passingBehind_6 : decode cX0_passingBehind 6 = .ok (.invokestatic 108, 3) := by decide +kernel
theorem dX0_passingBehind_9 : decode cX0_passingBehind 9 = .ok (.iconst 1, 1) := by decide +kernel
theorem dX0_passingBehind_10 : decode cX0_passingBehind 10 = .ok (.if_icmp .ne 14, 3) := by decide +kernel
theorem dX0_passingBehind_13 : decode cX0_passingBehind 13 = .ok (.iload_n 2, 1) := by decide +kernel
theorem dX0_passingBehind_14 : decode cX0_passingBehind 14 = .ok (.iload_n 1, 1) := by decide +kernel
theorem dX0_passingBehind_15 : decode cX0_passingBehind 15 = .ok (.isub, 1) := by decide +kernel
theorem dX0_passingBehind_16 : decode cX0_passingBehind 16 = .ok (.invokestatic 240, 3) := by decide +kernel
theorem dX0_passingBehind_19 : decode cX0_passingBehind 19 = .ok (.bipush 16, 2) := by decide +kernel
theorem dX0_passingBehind_21 : decode cX0_passingBehind 21 = .ok (.if_icmp .eq 5, 3) := by decide +kernel
theorem dX0_passingBehind_24 : decode cX0_passingBehind 24 = .ok (.iconst (-1), 1) := by decide +kernel
theorem dX0_passingBehind_25 : decode cX0_passingBehind 25 = .ok (.ireturn, 1) := by decide +kernel
theorem dX0_passingBehind_26 : decode cX0_passingBehind 26 = .ok (.iload_n 1, 1) := by decide +kernel
theorem dX0_passingBehind_27 : decode cX0_passingBehind 27 = .ok (.iload_n 2, 1) := by decide +kernel
theorem dX0_passingBehind_28 : decode cX0_passingBehind 28 = .ok (.iadd, 1) := by decide +kernel
theorem dX0_passingBehind_29 : decode cX0_passingBehind 29 = .ok (.iconst 2, 1) := by decide +kernel
theorem dX0_passingBehind_30 : decode cX0_passingBehind 30 = .ok (.idiv, 1) := by decide +kernel
theorem dX0_passingBehind_31 : decode cX0_passingBehind 31 = .ok (.istore_n 3, 1) := by decide +kernel
theorem dX0_passingBehind_32 : decode cX0_passingBehind 32 = .ok (.aload_n 0, 1) := by decide +kernel
theorem dX0_passingBehind_33 : decode cX0_passingBehind 33 = .ok (.getfield 82, 3) := by decide +kernel
theorem dX0_passingBehind_36 : decode cX0_passingBehind 36 = .ok (.invokestatic 152, 3) := by decide +kernel
theorem dX0_passingBehind_39 : decode cX0_passingBehind 39 = .ok (.istore 4, 2) := by decide +kernel
theorem dX0_passingBehind_41 : decode cX0_passingBehind 41 = .ok (.iconst 0, 1) := by decide +kernel
theorem dX0_passingBehind_42 : decode cX0_passingBehind 42 = .ok (.istore 5, 2) := by decide +kernel
theorem dX0_passingBehind_44 : decode cX0_passingBehind 44 = .ok (.iload 5, 2) := by decide +kernel
theorem dX0_passingBehind_46 : decode cX0_passingBehind 46 = .ok (.bipush 64, 2) := by decide +kernel
theorem dX0_passingBehind_48 : decode cX0_passingBehind 48 = .ok (.if_icmp .ge 38, 3) := by decide +kernel
theorem dX0_passingBehind_51 : decode cX0_passingBehind 51 = .ok (.aload_n 0, 1) := by decide +kernel
theorem dX0_passingBehind_52 : decode cX0_passingBehind 52 = .ok (.getfield 9, 3) := by decide +kernel
theorem dX0_passingBehind_55 : decode cX0_passingBehind 55 = .ok (.iload 5, 2) := by decide +kernel
theorem dX0_passingBehind_57 : decode cX0_passingBehind 57 = .ok (.iaload, 1) := by decide +kernel
theorem dX0_passingBehind_58 : decode cX0_passingBehind 58 = .ok (.iconst 1, 1) := by decide +kernel
theorem dX0_passingBehind_59 : decode cX0_passingBehind 59 = .ok (.iload 4, 2) := by decide +kernel
theorem dX0_passingBehind_61 : decode cX0_passingBehind 61 = .ok (.invokestatic 37, 3) := by decide +kernel
theorem dX0_passingBehind_64 : decode cX0_passingBehind 64 = .ok (.if_icmp .ne 16, 3) := by decide +kernel
theorem dX0_passingBehind_67 : decode cX0_passingBehind 67 = .ok (.iload 4, 2) := by decide +kernel
theorem dX0_passingBehind_69 : decode cX0_passingBehind 69 = .ok (.iload 5, 2) := by decide +kernel
theorem dX0_passingBehind_71 : decode cX0_passingBehind 71 = .ok (.iload_n 3, 1) := by decide +kernel
theorem dX0_passingBehind_72 : decode cX0_passingBehind 72 = .ok (.invokestatic 213, 3) := by decide +kernel
theorem dX0_passingBehind_75 : decode cX0_passingBehind 75 = .ok (.ifCond .eq 5, 3) := by decide +kernel
theorem dX0_passingBehind_78 : decode cX0_passingBehind 78 = .ok (.iload_n 3, 1) := by decide +kernel
theorem dX0_passingBehind_79 : decode cX0_passingBehind 79 = .ok (.ireturn, 1) := by decide +kernel
theorem dX0_passingBehind_80 : decode cX0_passingBehind 80 = .ok (.iinc 5 1, 3) := by decide +kernel
theorem dX0_passingBehind_83 : decode cX0_passingBehind 83 = .ok (.goto (-39), 3) := by decide +kernel
theorem dX0_passingBehind_86 : decode cX0_passingBehind 86 = .ok (.iconst (-1), 1) := by decide +kernel
theorem dX0_passingBehind_87 : decode cX0_passingBehind 87 = .ok (.ireturn, 1) := by decide +kernel
set_option maxRecDepth 20000 in
theorem ggX0_isFree_X0_isSquare : GoodIn wsX0_isFree wsX0_isSquare := goodIn_r _ [5] (by decide +kernel) (by decide +kernel)
set_option maxRecDepth 20000 in
theorem gX0_isFree_X0_isSquare : GoodIn wsX0_isFree (va_wsS RX0 45 yX0_isSquare wsX0_isSquare) := goodIn_app (goodIn_of _ (by decide +kernel)) ggX0_isFree_X0_isSquare
theorem dX0_isFree_0 : decode cX0_isFree 0 = .ok (.iload_n 1, 1) := by decide +kernel
theorem dX0_isFree_1 : decode cX0_isFree 1 = .ok (.invokestatic 45, 3) := by decide +kernel
theorem dX0_isFree_4 : decode cX0_isFree 4 = .ok (.ifCond .eq 16, 3) := by decide +kernel
theorem dX0_isFree_7 : decode cX0_isFree 7 = .ok (.aload_n 0, 1) := by decide +kernel
theorem dX0_isFree_8 : decode cX0_isFree 8 = .ok (.getfield 9, 3) := by decide +kernel
theorem dX0_isFree_11 : decode cX0_isFree 11 = .ok (.iload_n 1, 1) := by decide +kernel
theorem dX0_isFree_12 : decode cX0_isFree 12 = .ok (.iaload, 1) := by decide +kernel
theorem dX0_isFree_13 : decode cX0_isFree 13 = .ok (.ifCond .ne 7, 3) := by decide +kernel
theorem dX0_isFree_16 : decode cX0_isFree 16 = .ok (.iconst 1, 1) := by decide +kernel
theorem dX0_isFree_17 : decode cX0_isFree 17 = .ok (.goto 4, 3) := by decide +kernel
theorem dX0_isFree_20 : decode cX0_isFree 20 = .ok (.iconst 0, 1) := by decide +kernel
theorem dX0_isFree_21 : decode cX0_isFree 21 = .ok (.ireturn, 1) := by decide +kernel
set_option maxRecDepth 20000 in
theorem ggX0_holds_X0_isSquare : GoodIn wsX0_holds wsX0_isSquare := goodIn_r _ [5] (by decide +kernel) (by decide +kernel)
set_option maxRecDepth 20000 in
theorem gX0_holds_X0_isSquare : GoodIn wsX0_holds (va_wsS RX0 45 yX0_isSquare wsX0_isSquare) := goodIn_app (goodIn_of _ (by decide +kernel)) ggX0_holds_X0_isSquare
theorem dX0_holds_0 : decode cX0_holds 0 = .ok (.iload_n 1, 1) := by decide +kernel
theorem dX0_holds_1 : decode cX0_holds 1 = .ok (.invokestatic 45, 3) := by decide +kernel
theorem dX0_holds_4 : decode cX0_holds 4 = .ok (.ifCond .eq 17, 3) := by decide +kernel
theorem dX0_holds_7 : decode cX0_holds 7 = .ok (.aload_n 0, 1) := by decide +kernel
theorem dX0_holds_8 : decode cX0_holds 8 = .ok (.getfield 9, 3) := by decide +kernel
theorem dX0_holds_11 : decode cX0_holds 11 = .ok (.iload_n 1, 1) := by decide +kernel
theorem dX0_holds_12 : decode cX0_holds 12 = .ok (.iaload, 1) := by decide +kernel
theorem dX0_holds_13 : decode cX0_holds 13 = .ok (.iload_n 2, 1) := by decide +kernel
theorem dX0_holds_14 : decode cX0_holds 14 = .ok (.if_icmp .ne 7, 3) := by decide +kernel
theorem dX0_holds_17 : decode cX0_holds 17 = .ok (.iconst 1, 1) := by decide +kernel
theorem dX0_holds_18 : decode cX0_holds 18 = .ok (.goto 4, 3) := by decide +kernel
theorem dX0_holds_21 : decode cX0_holds 21 = .ok (.iconst 0, 1) := by decide +kernel
theorem dX0_holds_22 : decode cX0_holds 22 = .ok (.ireturn, 1) := by decide +kernel
theorem dX0_isSquare_0 : decode cX0_isSquare 0 = .ok (.iload_n 0, 1) := by decide +kernel
theorem dX0_isSquare_1 : decode cX0_isSquare 1 = .ok (.ifCond .lt 13, 3) := by decide +kernel
theorem dX0_isSquare_4 : decode cX0_isSquare 4 = .ok (.iload_n 0, 1) := by decide +kernel
theorem dX0_isSquare_5 : decode cX0_isSquare 5 = .ok (.bipush 64, 2) := by decide +kernel
theorem dX0_isSquare_7 : decode cX0_isSquare 7 = .ok (.if_icmp .ge 7, 3) := by decide +kernel
theorem dX0_isSquare_10 : decode cX0_isSquare 10 = .ok (.iconst 1, 1) := by decide +kernel
theorem dX0_isSquare_11 : decode cX0_isSquare 11 = .ok (.goto 4, 3) := by decide +kernel
theorem dX0_isSquare_14 : decode cX0_isSquare 14 = .ok (.iconst 0, 1) := by decide +kernel
theorem dX0_isSquare_15 : decode cX0_isSquare 15 = .ok (.ireturn, 1) := by decide +kernel
theorem dX0_fileOf_0 : decode cX0_fileOf 0 = .ok (.iload_n 0, 1) := by decide +kernel
theorem dX0_fileOf_1 : decode cX0_fileOf 1 = .ok (.bipush 7, 2) := by decide +kernel
theorem dX0_fileOf_3 : decode cX0_fileOf 3 = .ok (.iand, 1) := by decide +kernel
theorem dX0_fileOf_4 : decode cX0_fileOf 4 = .ok (.ireturn, 1) := by decide +kernel
theorem dX0_rankOf_0 : decode cX0_rankOf 0 = .ok (.iload_n 0, 1) := by decide +kernel
theorem dX0_rankOf_1 : decode cX0_rankOf 1 = .ok (.iconst 3, 1) := by decide +kernel
theorem dX0_rankOf_2 : decode cX0_rankOf 2 = .ok (.ishr, 1) := by decide +kernel
theorem dX0_rankOf_3 : decode cX0_rankOf 3 = .ok (.ireturn, 1) := by decide +kernel
set_option maxRecDepth 20000 in
theorem ggX0_isTwoFilesAway_X0_rankOf : GoodIn wsX0_isTwoFilesAway wsX0_rankOf := goodIn_r _ [8] (by decide +kernel) (by decide +kernel)
set_option maxRecDepth 20000 in
theorem gX0_isTwoFilesAway_X0_rankOf : GoodIn wsX0_isTwoFilesAway (va_wsS RX0 189 yX0_rankOf wsX0_rankOf) := goodIn_app (goodIn_of _ (by decide +kernel)) ggX0_isTwoFilesAway_X0_rankOf
theorem dX0_isTwoFilesAway_0 : decode cX0_isTwoFilesAway 0 = .ok (.iload_n 0, 1) := by decide +kernel
theorem dX0_isTwoFilesAway_1 : decode cX0_isTwoFilesAway 1 = .ok (.invokestatic 189, 3) := by decide +kernel
theorem dX0_isTwoFilesAway_4 : decode cX0_isTwoFilesAway 4 = .ok (.iload_n 1, 1) := by decide +kernel
theorem dX0_isTwoFilesAway_5 : decode cX0_isTwoFilesAway 5 = .ok (.invokestatic 189, 3) := by decide +kernel
theorem dX0_isTwoFilesAway_8 : decode cX0_isTwoFilesAway 8 = .ok (.if_icmp .ne 17, 3) := by decide +kernel
theorem dX0_isTwoFilesAway_11 : decode cX0_isTwoFilesAway 11 = .ok (.iload_n 1, 1) := by decide +kernel
theorem dX0_isTwoFilesAway_12 : decode cX0_isTwoFilesAway 12 = .ok (.iload_n 0, 1) := by decide +kernel
theorem dX0_isTwoFilesAway_13 : decode cX0_isTwoFilesAway 13 = .ok (.isub, 1) := by decide +kernel
theorem dX0_isTwoFilesAway_14 : decode cX0_isTwoFilesAway 14 = .ok (.invokestatic 240, 3) := by decide +kernel
theorem dX0_isTwoFilesAway_17 : decode cX0_isTwoFilesAway 17 = .ok (.iconst 2, 1) := by decide +kernel
theorem dX0_isTwoFilesAway_18 : decode cX0_isTwoFilesAway 18 = .ok (.if_icmp .ne 7, 3) := by decide +kernel
theorem dX0_isTwoFilesAway_21 : decode cX0_isTwoFilesAway 21 = .ok (.iconst 1, 1) := by decide +kernel
theorem dX0_isTwoFilesAway_22 : decode cX0_isTwoFilesAway 22 = .ok (.goto 4, 3) := by decide +kernel
theorem dX0_isTwoFilesAway_25 : decode cX0_isTwoFilesAway 25 = .ok (.iconst 0, 1) := by decide +kernel
theorem dX0_isTwoFilesAway_26 : decode cX0_isTwoFilesAway 26 = .ok (.ireturn, 1) := by decide +kernel
theorem dX0_cornerBeyond_0 : decode cX0_cornerBeyond 0 = .ok (.iload_n 1, 1) := by decide +kernel
theorem dX0_cornerBeyond_1 : decode cX0_cornerBeyond 1 = .ok (.iload_n 0, 1) := by decide +kernel
theorem dX0_cornerBeyond_2 : decode cX0_cornerBeyond 2 = .ok (.if_icmp .le 9, 3) := by decide +kernel
theorem dX0_cornerBeyond_5 : decode cX0_cornerBeyond 5 = .ok (.iload_n 0, 1) := by decide +kernel
theorem dX0_cornerBeyond_6 : decode cX0_cornerBeyond 6 = .ok (.iconst 3, 1) := by decide +kernel
theorem dX0_cornerBeyond_7 : decode cX0_cornerBeyond 7 = .ok (.iadd, 1) := by decide +kernel
theorem dX0_cornerBeyond_8 : decode cX0_cornerBeyond 8 = .ok (.goto 6, 3) := by decide +kernel
theorem dX0_cornerBeyond_11 : decode cX0_cornerBeyond 11 = .ok (.iload_n 0, 1) := by decide +kernel
theorem dX0_cornerBeyond_12 : decode cX0_cornerBeyond 12 = .ok (.iconst 4, 1) := by decide +kernel
theorem dX0_cornerBeyond_13 : decode cX0_cornerBeyond 13 = .ok (.isub, 1) := by decide +kernel
theorem dX0_cornerBeyond_14 : decode cX0_cornerBeyond 14 = .ok (.ireturn, 1) := by decide +kernel
theorem dX0_rightOfCorner_0 : decode cX0_rightOfCorner 0 = .ok (.iload_n 0, 1) := by decide +kernel
theorem dX0_rightOfCorner_1 : decode cX0_rightOfCorner 1 = .ok (.lookupswitch 52 #[(0, 45), (7, 43), (56, 49), (63, 47)], 43) := by decide +kernel
theorem dX0_rightOfCorner_44 : decode cX0_rightOfCorner 44 = .ok (.iconst 1, 1) := by decide +kernel
theorem dX0_rightOfCorner_45 : decode cX0_rightOfCorner 45 = .ok (.ireturn, 1) := by decide +kernel
theorem dX0_rightOfCorner_46 : decode cX0_rightOfCorner 46 = .ok (.iconst 2, 1) := by decide +kernel
theorem dX0_rightOfCorner_47 : decode cX0_rightOfCorner 47 = .ok (.ireturn, 1) := by decide +kernel
theorem dX0_rightOfCorner_48 : decode cX0_rightOfCorner 48 = .ok (.iconst 4, 1) := by decide +kernel
theorem dX0_rightOfCorner_49 : decode cX0_rightOfCorner 49 = .ok (.ireturn, 1) := by decide +kernel
theorem dX0_rightOfCorner_50 : decode cX0_rightOfCorner 50 = .ok (.bipush 8, 2) := by decide +kernel
theorem dX0_rightOfCorner_52 : decode cX0_rightOfCorner 52 = .ok (.ireturn, 1) := by decide +kernel
theorem dX0_rightOfCorner_53 : decode cX0_rightOfCorner 53 = .ok (.iconst 0, 1) := by decide +kernel
theorem dX0_rightOfCorner_54 : decode cX0_rightOfCorner 54 = .ok (.ireturn, 1) := by decide +kernel
theorem dX0_isSide_0 : decode cX0_isSide 0 = .ok (.iload_n 0, 1) := by decide +kernel
theorem dX0_isSide_1 : decode cX0_isSide 1 = .ok (.ifCond .eq 8, 3) := by decide +kernel
theorem dX0_isSide_4 : decode cX0_isSide 4 = .ok (.iload_n 0, 1) := by decide +kernel
theorem dX0_isSide_5 : decode cX0_isSide 5 = .ok (.iconst 1, 1) := by decide +kernel
theorem dX0_isSide_6 : decode cX0_isSide 6 = .ok (.if_icmp .ne 7, 3) := by decide +kernel
theorem dX0_isSide_9 : decode cX0_isSide 9 = .ok (.iconst 1, 1) := by decide +kernel
theorem dX0_isSide_10 : decode cX0_isSide 10 = .ok (.goto 4, 3) := by decide +kernel
theorem dX0_isSide_13 : decode cX0_isSide 13 = .ok (.iconst 0, 1) := by decide +kernel
theorem dX0_isSide_14 : decode cX0_isSide 14 = .ok (.ireturn, 1) := by decide +kernel
theorem dX0_otherThan_0 : decode cX0_otherThan 0 = .ok (.iconst 1, 1) := by decide +kernel
theorem dX0_otherThan_1 : decode cX0_otherThan 1 = .ok (.iload_n 0, 1) := by decide +kernel
theorem dX0_otherThan_2 : decode cX0_otherThan 2 = .ok (.isub, 1) := by decide +kernel
theorem dX0_otherThan_3 : decode cX0_otherThan 3 = .ok (.ireturn, 1) := by decide +kernel
theorem dX0_onward_0 : decode cX0_onward 0 = .ok (.iload_n 0, 1) := by decide +kernel
theorem dX0_onward_1 : decode cX0_onward 1 = .ok (.ifCond .ne 7, 3) := by decide +kernel
theorem dX0_onward_4 : decode cX0_onward 4 = .ok (.iconst 1, 1) := by decide +kernel
theorem dX0_onward_5 : decode cX0_onward 5 = .ok (.goto 4, 3) := by decide +kernel
theorem dX0_onward_8 : decode cX0_onward 8 = .ok (.iconst (-1), 1) := by decide +kernel
theorem dX0_onward_9 : decode cX0_onward 9 = .ok (.ireturn, 1) := by decide +kernel
theorem dX0_secondRankOf_0 : decode cX0_secondRankOf 0 = .ok (.iload_n 0, 1) := by decide +kernel
theorem dX0_secondRankOf_1 : decode cX0_secondRankOf 1 = .ok (.ifCond .ne 7, 3) := by decide +kernel
theorem dX0_secondRankOf_4 : decode cX0_secondRankOf 4 = .ok (.iconst 1, 1) := by decide +kernel
theorem dX0_secondRankOf_5 : decode cX0_secondRankOf 5 = .ok (.goto 5, 3) := by decide +kernel
theorem dX0_secondRankOf_8 : decode cX0_secondRankOf 8 = .ok (.bipush 6, 2) := by decide +kernel
theorem dX0_secondRankOf_10 : decode cX0_secondRankOf 10 = .ok (.ireturn, 1) := by decide +kernel
theorem dX0_lastRankOf_0 : decode cX0_lastRankOf 0 = .ok (.iload_n 0, 1) := by decide +kernel
theorem dX0_lastRankOf_1 : decode cX0_lastRankOf 1 = .ok (.ifCond .ne 8, 3) := by decide +kernel
theorem dX0_lastRankOf_4 : decode cX0_lastRankOf 4 = .ok (.bipush 7, 2) := by decide +kernel
theorem dX0_lastRankOf_6 : decode cX0_lastRankOf 6 = .ok (.goto 4, 3) := by decide +kernel
theorem dX0_lastRankOf_9 : decode cX0_lastRankOf 9 = .ok (.iconst 0, 1) := by decide +kernel
theorem dX0_lastRankOf_10 : decode cX0_lastRankOf 10 = .ok (.ireturn, 1) := by decide +kernel
theorem dX0_homeOfKing_0 : decode cX0_homeOfKing 0 = .ok (.iload_n 0, 1) := by decide +kernel
theorem dX0_homeOfKing_1 : decode cX0_homeOfKing 1 = .ok (.ifCond .ne 7, 3) := by decide +kernel
theorem dX0_homeOfKing_4 : decode cX0_homeOfKing 4 = .ok (.iconst 4, 1) := by decide +kernel
theorem dX0_homeOfKing_5 : decode cX0_homeOfKing 5 = .ok (.goto 5, 3) := by decide +kernel
theorem dX0_homeOfKing_8 : decode cX0_homeOfKing 8 = .ok (.bipush 60, 2) := by decide +kernel
theorem dX0_homeOfKing_10 : decode cX0_homeOfKing 10 = .ok (.ireturn, 1) := by decide +kernel
theorem dX0_pieceOf_0 : decode cX0_pieceOf 0 = .ok (.iload_n 0, 1) := by decide +kernel
theorem dX0_pieceOf_1 : decode cX0_pieceOf 1 = .ok (.bipush 6, 2) := by decide +kernel
theorem dX0_pieceOf_3 : decode cX0_pieceOf 3 = .ok (.iload_n 1, 1) := by decide +kernel
theorem dX0_pieceOf_4 : decode cX0_pieceOf 4 = .ok (.imul, 1) := by decide +kernel
theorem dX0_pieceOf_5 : decode cX0_pieceOf 5 = .ok (.iadd, 1) := by decide +kernel
theorem dX0_pieceOf_6 : decode cX0_pieceOf 6 = .ok (.ireturn, 1) := by decide +kernel
theorem dX0_typeOf_0 : decode cX0_typeOf 0 = .ok (.iload_n 0, 1) := by decide +kernel
theorem dX0_typeOf_1 : decode cX0_typeOf 1 = .ok (.bipush 6, 2) := by decide +kernel
theorem dX0_typeOf_3 : decode cX0_typeOf 3 = .ok (.if_icmp .le 10, 3) := by decide +kernel
theorem dX0_typeOf_6 : decode cX0_typeOf 6 = .ok (.iload_n 0, 1) := by decide +kernel
theorem dX0_typeOf_7 : decode cX0_typeOf 7 = .ok (.bipush 6, 2) := by decide +kernel
theorem dX0_typeOf_9 : decode cX0_typeOf 9 = .ok (.isub, 1) := by decide +kernel
theorem dX0_typeOf_10 : decode cX0_typeOf 10 = .ok (.goto 4, 3) := by decide +kernel
theorem dX0_typeOf_13 : decode cX0_typeOf 13 = .ok (.iload_n 0, 1) := by decide +kernel
theorem dX0_typeOf_14 : decode cX0_typeOf 14 = .ok (.ireturn, 1) := by decide +kernel
theorem dX0_sideOf_0 : decode cX0_sideOf 0 = .ok (.iload_n 0, 1) := by decide +kernel
theorem dX0_sideOf_1 : decode cX0_sideOf 1 = .ok (.ifCond .ne 5, 3) := by decide +kernel
theorem dX0_sideOf_4 : decode cX0_sideOf 4 = .ok (.iconst (-1), 1) := by decide +kernel
theorem dX0_sideOf_5 : decode cX0_sideOf 5 = .ok (.ireturn, 1) := by decide +kernel
theorem dX0_sideOf_6 : decode cX0_sideOf 6 = .ok (.iload_n 0, 1) := by decide +kernel
theorem dX0_sideOf_7 : decode cX0_sideOf 7 = .ok (.bipush 6, 2) := by decide +kernel
theorem dX0_sideOf_9 : decode cX0_sideOf 9 = .ok (.if_icmp .le 7, 3) := by decide +kernel
theorem dX0_sideOf_12 : decode cX0_sideOf 12 = .ok (.iconst 1, 1) := by decide +kernel
theorem dX0_sideOf_13 : decode cX0_sideOf 13 = .ok (.goto 4, 3) := by decide +kernel
theorem dX0_sideOf_16 : decode cX0_sideOf 16 = .ok (.iconst 0, 1) := by decide +kernel
theorem dX0_sideOf_17 : decode cX0_sideOf 17 = .ok (.ireturn, 1) := by decide +kernel
theorem dX0_worthOf_0 : decode cX0_worthOf 0 = .ok (.iload_n 0, 1) := by decide +kernel
theorem dX0_worthOf_1 : decode cX0_worthOf 1 = .ok (.tableswitch 44 1 5 #[35, 37, 37, 39, 41], 35) := by decide +kernel
theorem dX0_worthOf_36 : decode cX0_worthOf 36 = .ok (.iconst 1, 1) := by decide +kernel
theorem dX0_worthOf_37 : decode cX0_worthOf 37 = .ok (.ireturn, 1) := by decide +kernel
theorem dX0_worthOf_38 : decode cX0_worthOf 38 = .ok (.iconst 3, 1) := by decide +kernel
theorem dX0_worthOf_39 : decode cX0_worthOf 39 = .ok (.ireturn, 1) := by decide +kernel
theorem dX0_worthOf_40 : decode cX0_worthOf 40 = .ok (.iconst 5, 1) := by decide +kernel
theorem dX0_worthOf_41 : decode cX0_worthOf 41 = .ok (.ireturn, 1) := by decide +kernel
theorem dX0_worthOf_42 : decode cX0_worthOf 42 = .ok (.bipush 9, 2) := by decide +kernel
theorem dX0_worthOf_44 : decode cX0_worthOf 44 = .ok (.ireturn, 1) := by decide +kernel
theorem dX0_worthOf_45 : decode cX0_worthOf 45 = .ok (.iconst 0, 1) := by decide +kernel
theorem dX0_worthOf_46 : decode cX0_worthOf 46 = .ok (.ireturn, 1) := by decide +kernel
set_option maxRecDepth 20000 in
theorem ggX0_rightsOfKing_X0_typeOf : GoodIn wsX0_rightsOfKing wsX0_typeOf := goodIn_r _ [4] (by decide +kernel) (by decide +kernel)
set_option maxRecDepth 20000 in
theorem gX0_rightsOfKing_X0_typeOf : GoodIn wsX0_rightsOfKing (va_wsS RX0 108 yX0_typeOf wsX0_typeOf) := goodIn_app (goodIn_of _ (by decide +kernel)) ggX0_rightsOfKing_X0_typeOf
set_option maxRecDepth 20000 in
theorem ggX0_rightsOfKing_X0_sideOf : GoodIn wsX0_rightsOfKing wsX0_sideOf := goodIn_r _ [7] (by decide +kernel) (by decide +kernel)
set_option maxRecDepth 20000 in
theorem gX0_rightsOfKing_X0_sideOf : GoodIn wsX0_rightsOfKing (va_wsS RX0 105 yX0_sideOf wsX0_sideOf) := goodIn_app (goodIn_of _ (by decide +kernel)) ggX0_rightsOfKing_X0_sideOf
theorem dX0_rightsOfKing_0 : decode cX0_rightsOfKing 0 = .ok (.iload_n 0, 1) := by decide +kernel
theorem dX0_rightsOfKing_1 : decode cX0_rightsOfKing 1 = .ok (.invokestatic 108, 3) := by decide +kernel
theorem dX0_rightsOfKing_4 : decode cX0_rightsOfKing 4 = .ok (.bipush 6, 2) := by decide +kernel
theorem dX0_rightsOfKing_6 : decode cX0_rightsOfKing 6 = .ok (.if_icmp .eq 5, 3) := by decide +kernel
theorem dX0_rightsOfKing_9 : decode cX0_rightsOfKing 9 = .ok (.iconst 0, 1) := by decide +kernel
theorem dX0_rightsOfKing_10 : decode cX0_rightsOfKing 10 = .ok (.ireturn, 1) := by decide +kernel
theorem dX0_rightsOfKing_11 : decode cX0_rightsOfKing 11 = .ok (.iload_n 0, 1) := by decide +kernel
theorem dX0_rightsOfKing_12 : decode cX0_rightsOfKing 12 = .ok (.invokestatic 105, 3) := by decide +kernel
theorem dX0_rightsOfKing_15 : decode cX0_rightsOfKing 15 = .ok (.ifCond .ne 7, 3) := by decide +kernel
theorem dX0_rightsOfKing_18 : decode cX0_rightsOfKing 18 = .ok (.iconst 3, 1) := by decide +kernel
theorem dX0_rightsOfKing_19 : decode cX0_rightsOfKing 19 = .ok (.goto 5, 3) := by decide +kernel
theorem dX0_rightsOfKing_22 : decode cX0_rightsOfKing 22 = .ok (.bipush 12, 2) := by decide +kernel
theorem dX0_rightsOfKing_24 : decode cX0_rightsOfKing 24 = .ok (.ireturn, 1) := by decide +kernel
theorem dX0_fromOf_0 : decode cX0_fromOf 0 = .ok (.iload_n 0, 1) := by decide +kernel
theorem dX0_fromOf_1 : decode cX0_fromOf 1 = .ok (.bipush 63, 2) := by decide +kernel
theorem dX0_fromOf_3 : decode cX0_fromOf 3 = .ok (.iand, 1) := by decide +kernel
theorem dX0_fromOf_4 : decode cX0_fromOf 4 = .ok (.ireturn, 1) := by decide +kernel
theorem dX0_toOf_0 : decode cX0_toOf 0 = .ok (.iload_n 0, 1) := by decide +kernel
theorem dX0_toOf_1 : decode cX0_toOf 1 = .ok (.bipush 6, 2) := by decide +kernel
theorem dX0_toOf_3 : decode cX0_toOf 3 = .ok (.ishr, 1) := by decide +kernel
theorem dX0_toOf_4 : decode cX0_toOf 4 = .ok (.bipush 63, 2) := by decide +kernel
theorem dX0_toOf_6 : decode cX0_toOf 6 = .ok (.iand, 1) := by decide +kernel
theorem dX0_toOf_7 : decode cX0_toOf 7 = .ok (.ireturn, 1) := by decide +kernel
theorem dX0_kindOf_0 : decode cX0_kindOf 0 = .ok (.iload_n 0, 1) := by decide +kernel
theorem dX0_kindOf_1 : decode cX0_kindOf 1 = .ok (.bipush 12, 2) := by decide +kernel
theorem dX0_kindOf_3 : decode cX0_kindOf 3 = .ok (.ishr, 1) := by decide +kernel
theorem dX0_kindOf_4 : decode cX0_kindOf 4 = .ok (.ireturn, 1) := by decide +kernel
theorem dX0_mixed_0 : decode cX0_mixed 0 = .ok (.lload_n 0, 1) := by decide +kernel
theorem dX0_mixed_1 : decode cX0_mixed 1 = .ok (.ldc2_w 259, 3) := by decide +kernel
theorem dX0_mixed_4 : decode cX0_mixed 4 = .ok (.ladd, 1) := by decide +kernel
theorem dX0_mixed_5 : decode cX0_mixed 5 = .ok (.lstore_n 0, 1) := by decide +kernel
theorem dX0_mixed_6 : decode cX0_mixed 6 = .ok (.lload_n 0, 1) := by decide +kernel
theorem dX0_mixed_7 : decode cX0_mixed 7 = .ok (.lload_n 0, 1) := by decide +kernel
theorem dX0_mixed_8 : decode cX0_mixed 8 = .ok (.bipush 30, 2) := by decide +kernel
theorem dX0_mixed_10 : decode cX0_mixed 10 = .ok (.lushr, 1) := by decide +kernel
theorem dX0_mixed_11 : decode cX0_mixed 11 = .ok (.lxor, 1) := by decide +kernel
theorem dX0_mixed_12 : decode cX0_mixed 12 = .ok (.ldc2_w 261, 3) := by decide +kernel
theorem dX0_mixed_15 : decode cX0_mixed 15 = .ok (.lmul, 1) := by decide +kernel
theorem dX0_mixed_16 : decode cX0_mixed 16 = .ok (.lstore_n 0, 1) := by decide +kernel
theorem dX0_mixed_17 : decode cX0_mixed 17 = .ok (.lload_n 0, 1) := by decide +kernel
theorem dX0_mixed_18 : decode cX0_mixed 18 = .ok (.lload_n 0, 1) := by decide +kernel
theorem dX0_mixed_19 : decode cX0_mixed 19 = .ok (.bipush 27, 2) := by decide +kernel
theorem dX0_mixed_21 : decode cX0_mixed 21 = .ok (.lushr, 1) := by decide +kernel
theorem dX0_mixed_22 : decode cX0_mixed 22 = .ok (.lxor, 1) := by decide +kernel
theorem dX0_mixed_23 : decode cX0_mixed 23 = .ok (.ldc2_w 263, 3) := by decide +kernel
theorem dX0_mixed_26 : decode cX0_mixed 26 = .ok (.lmul, 1) := by decide +kernel
theorem dX0_mixed_27 : decode cX0_mixed 27 = .ok (.lstore_n 0, 1) := by decide +kernel
theorem dX0_mixed_28 : decode cX0_mixed 28 = .ok (.lload_n 0, 1) := by decide +kernel
theorem dX0_mixed_29 : decode cX0_mixed 29 = .ok (.lload_n 0, 1) := by decide +kernel
theorem dX0_mixed_30 : decode cX0_mixed 30 = .ok (.bipush 31, 2) := by decide +kernel
theorem dX0_mixed_32 : decode cX0_mixed 32 = .ok (.lushr, 1) := by decide +kernel
theorem dX0_mixed_33 : decode cX0_mixed 33 = .ok (.lxor, 1) := by decide +kernel
theorem dX0_mixed_34 : decode cX0_mixed 34 = .ok (.lreturn, 1) := by decide +kernel
theorem dX1_init_0 : decode cX1_init 0 = .ok (.aload_n 0, 1) := by decide +kernel
theorem dX1_init_1 : decode cX1_init 1 = .ok (.invokespecial 1, 3) := by decide +kernel
theorem dX1_init_4 : decode cX1_init 4 = .ok (.aload_n 0, 1) := by decide +kernel
theorem dX1_init_5 : decode cX1_init 5 = .ok (.bipush 64, 2) := by decide +kernel
theorem dX1_init_7 : decode cX1_init 7 = .ok (.newarray .int, 2) := by decide +kernel
theorem dX1_init_9 : decode cX1_init 9 = .ok (.putfield 7, 3) := by decide +kernel
theorem dX1_init_12 : decode cX1_init 12 = .ok (.aload_n 0, 1) := by decide +kernel
theorem dX1_init_13 : decode cX1_init 13 = .ok (.iconst (-1), 1) := by decide +kernel
theorem dX1_init_14 : decode cX1_init 14 = .ok (.putfield 13, 3) := by decide +kernel
theorem dX1_init_17 : decode cX1_init 17 = .ok (.aload_n 0, 1) := by decide +kernel
theorem dX1_init_18 : decode cX1_init 18 = .ok (.iconst 1, 1) := by decide +kernel
theorem dX1_init_19 : decode cX1_init 19 = .ok (.putfield 17, 3) := by decide +kernel
theorem dX1_init_22 : decode cX1_init 22 = .ok (.aload_n 0, 1) := by decide +kernel
theorem dX1_init_23 : decode cX1_init 23 = .ok (.sipush 600, 3) := by decide +kernel
theorem dX1_init_26 : decode cX1_init 26 = .ok (.newarray .int, 2) := by decide +kernel
theorem dX1_init_28 : decode cX1_init 28 = .ok (.putfield 20, 3) := by decide +kernel
theorem dX1_init_31 : decode cX1_init 31 = .ok (.aload_n 0, 1) := by decide +kernel
theorem dX1_init_32 : decode cX1_init 32 = .ok (.ldc 23, 2) := by decide +kernel
theorem dX1_init_34 : decode cX1_init 34 = .ok (.newarray .byte, 2) := by decide +kernel
theorem dX1_init_36 : decode cX1_init 36 = .ok (.putfield 24, 3) := by decide +kernel
theorem dX1_init_39 : decode cX1_init 39 = .ok (.aload_n 0, 1) := by decide +kernel
theorem dX1_init_40 : decode cX1_init 40 = .ok (.sipush 3000, 3) := by decide +kernel
theorem dX1_init_43 : decode cX1_init 43 = .ok (.newarray .int, 2) := by decide +kernel
theorem dX1_init_45 : decode cX1_init 45 = .ok (.putfield 28, 3) := by decide +kernel
theorem dX1_init_48 : decode cX1_init 48 = .ok (.return_, 1) := by decide +kernel
theorem dX1_thrown_0 : decode cX1_thrown 0 = .ok (.aload_n 0, 1) := by decide +kernel
theorem dX1_thrown_1 : decode cX1_thrown 1 = .ok (.getfield 31, 3) := by decide +kernel
theorem dX1_thrown_4 : decode cX1_thrown 4 = .ok (.ireturn, 1) := by decide +kernel
theorem dX1_isSquare_0 : decode cX1_isSquare 0 = .ok (.iload_n 0, 1) := by decide +kernel
theorem dX1_isSquare_1 : decode cX1_isSquare 1 = .ok (.ifCond .lt 13, 3) := by decide +kernel
theorem dX1_isSquare_4 : decode cX1_isSquare 4 = .ok (.iload_n 0, 1) := by decide +kernel
theorem dX1_isSquare_5 : decode cX1_isSquare 5 = .ok (.bipush 64, 2) := by decide +kernel
theorem dX1_isSquare_7 : decode cX1_isSquare 7 = .ok (.if_icmp .ge 7, 3) := by decide +kernel
theorem dX1_isSquare_10 : decode cX1_isSquare 10 = .ok (.iconst 1, 1) := by decide +kernel
theorem dX1_isSquare_11 : decode cX1_isSquare 11 = .ok (.goto 4, 3) := by decide +kernel
theorem dX1_isSquare_14 : decode cX1_isSquare 14 = .ok (.iconst 0, 1) := by decide +kernel
theorem dX1_isSquare_15 : decode cX1_isSquare 15 = .ok (.ireturn, 1) := by decide +kernel
theorem dX1_sideOf_0 : decode cX1_sideOf 0 = .ok (.iload_n 0, 1) := by decide +kernel
theorem dX1_sideOf_1 : decode cX1_sideOf 1 = .ok (.ifCond .ne 7, 3) := by decide +kernel
theorem dX1_sideOf_4 : decode cX1_sideOf 4 = .ok (.iconst (-1), 1) := by decide +kernel
theorem dX1_sideOf_5 : decode cX1_sideOf 5 = .ok (.goto 14, 3) := by decide +kernel
theorem dX1_sideOf_8 : decode cX1_sideOf 8 = .ok (.iload_n 0, 1) := by decide +kernel
theorem dX1_sideOf_9 : decode cX1_sideOf 9 = .ok (.bipush 7, 2) := by decide +kernel
theorem dX1_sideOf_11 : decode cX1_sideOf 11 = .ok (.if_icmp .ge 7, 3) := by decide +kernel
theorem dX1_sideOf_14 : decode cX1_sideOf 14 = .ok (.iconst 0, 1) := by decide +kernel
theorem dX1_sideOf_15 : decode cX1_sideOf 15 = .ok (.goto 4, 3) := by decide +kernel
theorem dX1_sideOf_18 : decode cX1_sideOf 18 = .ok (.iconst 1, 1) := by decide +kernel
theorem dX1_sideOf_19 : decode cX1_sideOf 19 = .ok (.ireturn, 1) := by decide +kernel
theorem dX1_kindOf_0 : decode cX1_kindOf 0 = .ok (.iload_n 0, 1) := by decide +kernel
theorem dX1_kindOf_1 : decode cX1_kindOf 1 = .ok (.bipush 7, 2) := by decide +kernel
theorem dX1_kindOf_3 : decode cX1_kindOf 3 = .ok (.if_icmp .ge 7, 3) := by decide +kernel
theorem dX1_kindOf_6 : decode cX1_kindOf 6 = .ok (.iload_n 0, 1) := by decide +kernel
theorem dX1_kindOf_7 : decode cX1_kindOf 7 = .ok (.goto 7, 3) := by decide +kernel
theorem dX1_kindOf_10 : decode cX1_kindOf 10 = .ok (.iload_n 0, 1) := by decide +kernel
theorem dX1_kindOf_11 : decode cX1_kindOf 11 = .ok (.bipush 6, 2) := by decide +kernel
theorem dX1_kindOf_13 : decode cX1_kindOf 13 = .ok (.isub, 1) := by decide +kernel
theorem dX1_kindOf_14 : decode cX1_kindOf 14 = .ok (.ireturn, 1) := by decide +kernel
theorem dX1_apart_0 : decode cX1_apart 0 = .ok (.iload_n 0, 1) := by decide +kernel
theorem dX1_apart_1 : decode cX1_apart 1 = .ok (.iload_n 1, 1) := by decide +kernel
theorem dX1_apart_2 : decode cX1_apart 2 = .ok (.if_icmp .le 9, 3) := by decide +kernel
theorem dX1_apart_5 : decode cX1_apart 5 = .ok (.iload_n 0, 1) := by decide +kernel
theorem dX1_apart_6 : decode cX1_apart 6 = .ok (.iload_n 1, 1) := by decide +kernel
theorem dX1_apart_7 : decode cX1_apart 7 = .ok (.isub, 1) := by decide +kernel
theorem dX1_apart_8 : decode cX1_apart 8 = .ok (.goto 6, 3) := by decide +kernel
theorem dX1_apart_11 : decode cX1_apart 11 = .ok (.iload_n 1, 1) := by decide +kernel
theorem dX1_apart_12 : decode cX1_apart 12 = .ok (.iload_n 0, 1) := by decide +kernel
theorem dX1_apart_13 : decode cX1_apart 13 = .ok (.isub, 1) := by decide +kernel
theorem dX1_apart_14 : decode cX1_apart 14 = .ok (.ireturn, 1) := by decide +kernel
theorem dX1_clear_0 : decode cX1_clear 0 = .ok (.aload_n 0, 1) := by decide +kernel
theorem dX1_clear_1 : decode cX1_clear 1 = .ok (.iconst 0, 1) := by decide +kernel
theorem dX1_clear_2 : decode cX1_clear 2 = .ok (.putfield 31, 3) := by decide +kernel
theorem dX1_clear_5 : decode cX1_clear 5 = .ok (.iconst 0, 1) := by decide +kernel
theorem dX1_clear_6 : decode cX1_clear 6 = .ok (.istore_n 1, 1) := by decide +kernel
theorem dX1_clear_7 : decode cX1_clear 7 = .ok (.iload_n 1, 1) := by decide +kernel
theorem dX1_clear_8 : decode cX1_clear 8 = .ok (.bipush 64, 2) := by decide +kernel
theorem dX1_clear_10 : decode cX1_clear 10 = .ok (.if_icmp .ge 16, 3) := by decide +kernel
theorem dX1_clear_13 : decode cX1_clear 13 = .ok (.aload_n 0, 1) := by decide +kernel
theorem dX1_clear_14 : decode cX1_clear 14 = .ok (.getfield 7, 3) := by decide +kernel
theorem dX1_clear_17 : decode cX1_clear 17 = .ok (.iload_n 1, 1) := by decide +kernel
theorem dX1_clear_18 : decode cX1_clear 18 = .ok (.iconst 0, 1) := by decide +kernel
theorem dX1_clear_19 : decode cX1_clear 19 = .ok (.iastore, 1) := by decide +kernel
theorem dX1_clear_20 : decode cX1_clear 20 = .ok (.iinc 1 1, 3) := by decide +kernel
theorem dX1_clear_23 : decode cX1_clear 23 = .ok (.goto (-16), 3) := by decide +kernel
theorem dX1_clear_26 : decode cX1_clear 26 = .ok (.aload_n 0, 1) := by decide +kernel
theorem dX1_clear_27 : decode cX1_clear 27 = .ok (.iconst 0, 1) := by decide +kernel
theorem dX1_clear_28 : decode cX1_clear 28 = .ok (.putfield 34, 3) := by decide +kernel
theorem dX1_clear_31 : decode cX1_clear 31 = .ok (.aload_n 0, 1) := by decide +kernel
theorem dX1_clear_32 : decode cX1_clear 32 = .ok (.iconst 0, 1) := by decide +kernel
theorem dX1_clear_33 : decode cX1_clear 33 = .ok (.putfield 37, 3) := by decide +kernel
theorem dX1_clear_36 : decode cX1_clear 36 = .ok (.aload_n 0, 1) := by decide +kernel
theorem dX1_clear_37 : decode cX1_clear 37 = .ok (.iconst (-1), 1) := by decide +kernel
theorem dX1_clear_38 : decode cX1_clear 38 = .ok (.putfield 13, 3) := by decide +kernel
theorem dX1_clear_41 : decode cX1_clear 41 = .ok (.aload_n 0, 1) := by decide +kernel
theorem dX1_clear_42 : decode cX1_clear 42 = .ok (.iconst 0, 1) := by decide +kernel
theorem dX1_clear_43 : decode cX1_clear 43 = .ok (.putfield 40, 3) := by decide +kernel
theorem dX1_clear_46 : decode cX1_clear 46 = .ok (.aload_n 0, 1) := by decide +kernel
theorem dX1_clear_47 : decode cX1_clear 47 = .ok (.iconst 1, 1) := by decide +kernel
theorem dX1_clear_48 : decode cX1_clear 48 = .ok (.putfield 17, 3) := by decide +kernel
theorem dX1_clear_51 : decode cX1_clear 51 = .ok (.aload_n 0, 1) := by decide +kernel
theorem dX1_clear_52 : decode cX1_clear 52 = .ok (.iconst 0, 1) := by decide +kernel
theorem dX1_clear_53 : decode cX1_clear 53 = .ok (.putfield 43, 3) := by decide +kernel
theorem dX1_clear_56 : decode cX1_clear 56 = .ok (.return_, 1) := by decide +kernel
theorem dX1_home_0 : decode cX1_home 0 = .ok (.iload_n 0, 1) := by decide +kernel
theorem dX1_home_1 : decode cX1_home 1 = .ok (.ifCond .eq 9, 3) := by decide +kernel
theorem dX1_home_4 : decode cX1_home 4 = .ok (.iload_n 0, 1) := by decide +kernel
theorem dX1_home_5 : decode cX1_home 5 = .ok (.bipush 7, 2) := by decide +kernel
theorem dX1_home_7 : decode cX1_home 7 = .ok (.if_icmp .ne 7, 3) := by decide +kernel
theorem dX1_home_10 : decode cX1_home 10 = .ok (.iconst 4, 1) := by decide +kernel
theorem dX1_home_11 : decode cX1_home 11 = .ok (.goto 43, 3) := by decide +kernel
theorem dX1_home_14 : decode cX1_home 14 = .ok (.iload_n 0, 1) := by decide +kernel
theorem dX1_home_15 : decode cX1_home 15 = .ok (.iconst 1, 1) := by decide +kernel
theorem dX1_home_16 : decode cX1_home 16 = .ok (.if_icmp .eq 9, 3) := by decide +kernel
theorem dX1_home_19 : decode cX1_home 19 = .ok (.iload_n 0, 1) := by decide +kernel
theorem dX1_home_20 : decode cX1_home 20 = .ok (.bipush 6, 2) := by decide +kernel
theorem dX1_home_22 : decode cX1_home 22 = .ok (.if_icmp .ne 7, 3) := by decide +kernel
theorem dX1_home_25 : decode cX1_home 25 = .ok (.iconst 2, 1) := by decide +kernel
theorem dX1_home_26 : decode cX1_home 26 = .ok (.goto 28, 3) := by decide +kernel
theorem dX1_home_29 : decode cX1_home 29 = .ok (.iload_n 0, 1) := by decide +kernel
theorem dX1_home_30 : decode cX1_home 30 = .ok (.iconst 2, 1) := by decide +kernel
theorem dX1_home_31 : decode cX1_home 31 = .ok (.if_icmp .eq 8, 3) := by decide +kernel
theorem dX1_home_34 : decode cX1_home 34 = .ok (.iload_n 0, 1) := by decide +kernel
theorem dX1_home_35 : decode cX1_home 35 = .ok (.iconst 5, 1) := by decide +kernel
theorem dX1_home_36 : decode cX1_home 36 = .ok (.if_icmp .ne 7, 3) := by decide +kernel
theorem dX1_home_39 : decode cX1_home 39 = .ok (.iconst 3, 1) := by decide +kernel
theorem dX1_home_40 : decode cX1_home 40 = .ok (.goto 14, 3) := by decide +kernel
theorem dX1_home_43 : decode cX1_home 43 = .ok (.iload_n 0, 1) := by decide +kernel
theorem dX1_home_44 : decode cX1_home 44 = .ok (.iconst 3, 1) := by decide +kernel
theorem dX1_home_45 : decode cX1_home 45 = .ok (.if_icmp .ne 7, 3) := by decide +kernel
theorem dX1_home_48 : decode cX1_home 48 = .ok (.iconst 5, 1) := by decide +kernel
theorem dX1_home_49 : decode cX1_home 49 = .ok (.goto 5, 3) := by decide +kernel
theorem dX1_home_52 : decode cX1_home 52 = .ok (.bipush 6, 2) := by decide +kernel
theorem dX1_home_54 : decode cX1_home 54 = .ok (.ireturn, 1) := by decide +kernel
set_option maxRecDepth 20000 in
theorem ggX1_begin_X1_clear : GoodIn wsX1_begin wsX1_clear := goodIn_r _ [7, 8, 1, 9, 2, 10, 11, 12, 13, 17, 18, 19, 20, 21, 22, 23, 24, 25, 26, 27] (by decide +kernel) (by decide +kernel)
set_option maxRecDepth 20000 in
theorem gX1_begin_X1_clear : GoodIn wsX1_begin (wsV RX1 46 RX1 yX1_clear wsX1_clear) := goodIn_app (goodIn_of _ (by decide +kernel)) ggX1_begin_X1_clear
set_option maxRecDepth 20000 in
theorem ggX1_begin_X1_home : GoodIn wsX1_begin wsX1_home := goodIn_r _ [16] (by decide +kernel) (by decide +kernel)
set_option maxRecDepth 20000 in
theorem gX1_begin_X1_home : GoodIn wsX1_begin (va_wsS RX1 49 yX1_home wsX1_home) := goodIn_app (goodIn_of _ (by decide +kernel)) ggX1_begin_X1_home
theorem dX1_begin_0 : decode cX1_begin 0 = .ok (.aload_n 0, 1) := by decide +kernel
theorem dX1_begin_1 : decode cX1_begin 1 = .ok (.invokevirtual 46, 3) := by decide +kernel
theorem dX1_begin_4 : decode cX1_begin 4 = .ok (.iconst 0, 1) := by decide +kernel
theorem dX1_begin_5 : decode cX1_begin 5 = .ok (.istore_n 1, 1) := by decide +kernel
theorem dX1_begin_6 : decode cX1_begin 6 = .ok (.iload_n 1, 1) := by decide +kernel
theorem dX1_begin_7 : decode cX1_begin 7 = .ok (.bipush 8, 2) := by decide +kernel
theorem dX1_begin_9 : decode cX1_begin 9 = .ok (.if_icmp .ge 56, 3) := by decide +kernel
theorem dX1_begin_12 : decode cX1_begin 12 = .ok (.aload_n 0, 1) := by decide +kernel
theorem dX1_begin_13 : decode cX1_begin 13 = .ok (.getfield 7, 3) := by decide +kernel
theorem dX1_begin_16 : decode cX1_begin 16 = .ok (.iload_n 1, 1) := by decide +kernel
theorem dX1_begin_17 : decode cX1_begin 17 = .ok (.iload_n 1, 1) := by decide +kernel
theorem dX1_begin_18 : decode cX1_begin 18 = .ok (.invokestatic 49, 3) := by decide +kernel
theorem dX1_begin_21 : decode cX1_begin 21 = .ok (.iastore, 1) := by decide +kernel
theorem dX1_begin_22 : decode cX1_begin 22 = .ok (.aload_n 0, 1) := by decide +kernel
theorem dX1_begin_23 : decode cX1_begin 23 = .ok (.getfield 7, 3) := by decide +kernel
theorem dX1_begin_26 : decode cX1_begin 26 = .ok (.bipush 8, 2) := by decide +kernel
theorem dX1_begin_28 : decode cX1_begin 28 = .ok (.iload_n 1, 1) := by decide +kernel
theorem dX1_begin_29 : decode cX1_begin 29 = .ok (.iadd, 1) := by decide +kernel
theorem dX1_begin_30 : decode cX1_begin 30 = .ok (.iconst 1, 1) := by decide +kernel
theorem dX1_begin_31 : decode cX1_begin 31 = .ok (.iastore, 1) := by decide +kernel
theorem dX1_begin_32 : decode cX1_begin 32 = .ok (.aload_n 0, 1) := by decide +kernel
theorem dX1_begin_33 : decode cX1_begin 33 = .ok (.getfield 7, 3) := by decide +kernel
theorem dX1_begin_36 : decode cX1_begin 36 = .ok (.bipush 48, 2) := by decide +kernel
theorem dX1_begin_38 : decode cX1_begin 38 = .ok (.iload_n 1, 1) := by decide +kernel
theorem dX1_begin_39 : decode cX1_begin 39 = .ok (.iadd, 1) := by decide +kernel
theorem dX1_begin_40 : decode cX1_begin 40 = .ok (.bipush 7, 2) := by decide +kernel
theorem dX1_begin_42 : decode cX1_begin 42 = .ok (.iastore, 1) := by decide +kernel
theorem dX1_begin_43 : decode cX1_begin 43 = .ok (.aload_n 0, 1) := by decide +kernel
theorem dX1_begin_44 : decode cX1_begin 44 = .ok (.getfield 7, 3) := by decide +kernel
theorem dX1_begin_47 : decode cX1_begin 47 = .ok (.bipush 56, 2) := by decide +kernel
theorem dX1_begin_49 : decode cX1_begin 49 = .ok (.iload_n 1, 1) := by decide +kernel
theorem dX1_begin_50 : decode cX1_begin 50 = .ok (.iadd, 1) := by decide +kernel
theorem dX1_begin_51 : decode cX1_begin 51 = .ok (.bipush 6, 2) := by decide +kernel
theorem dX1_begin_53 : decode cX1_begin 53 = .ok (.iload_n 1, 1) := by decide +kernel
theorem dX1_begin_54 : decode cX1_begin 54 = .ok (.invokestatic 49, 3) := by decide +kernel
theorem dX1_begin_57 : decode cX1_begin 57 = .ok (.iadd, 1) := by decide +kernel
theorem dX1_begin_58 : decode cX1_begin 58 = .ok (.iastore, 1) := by decide +kernel
theorem dX1_begin_59 : decode cX1_begin 59 = .ok (.iinc 1 1, 3) := by decide +kernel
theorem dX1_begin_62 : decode cX1_begin 62 = .ok (.goto (-56), 3) := by decide +kernel
theorem dX1_begin_65 : decode cX1_begin 65 = .ok (.aload_n 0, 1) := by decide +kernel
theorem dX1_begin_66 : decode cX1_begin 66 = .ok (.bipush 15, 2) := by decide +kernel
theorem dX1_begin_68 : decode cX1_begin 68 = .ok (.putfield 37, 3) := by decide +kernel
theorem dX1_begin_71 : decode cX1_begin 71 = .ok (.return_, 1) := by decide +kernel
theorem dX1_pieces_0 : decode cX1_pieces 0 = .ok (.iconst 0, 1) := by decide +kernel
theorem dX1_pieces_1 : decode cX1_pieces 1 = .ok (.istore_n 1, 1) := by decide +kernel
theorem dX1_pieces_2 : decode cX1_pieces 2 = .ok (.iconst 0, 1) := by decide +kernel
theorem dX1_pieces_3 : decode cX1_pieces 3 = .ok (.istore_n 2, 1) := by decide +kernel
theorem dX1_pieces_4 : decode cX1_pieces 4 = .ok (.iload_n 2, 1) := by decide +kernel
theorem dX1_pieces_5 : decode cX1_pieces 5 = .ok (.bipush 64, 2) := by decide +kernel
theorem dX1_pieces_7 : decode cX1_pieces 7 = .ok (.if_icmp .ge 26, 3) := by decide +kernel
theorem dX1_pieces_10 : decode cX1_pieces 10 = .ok (.iload_n 1, 1) := by decide +kernel
theorem dX1_pieces_11 : decode cX1_pieces 11 = .ok (.aload_n 0, 1) := by decide +kernel
theorem dX1_pieces_12 : decode cX1_pieces 12 = .ok (.getfield 7, 3) := by decide +kernel
theorem dX1_pieces_15 : decode cX1_pieces 15 = .ok (.iload_n 2, 1) := by decide +kernel
theorem dX1_pieces_16 : decode cX1_pieces 16 = .ok (.iaload, 1) := by decide +kernel
theorem dX1_pieces_17 : decode cX1_pieces 17 = .ok (.ifCond .le 7, 3) := by decide +kernel
theorem dX1_pieces_20 : decode cX1_pieces 20 = .ok (.iconst 1, 1) := by decide +kernel
theorem dX1_pieces_21 : decode cX1_pieces 21 = .ok (.goto 4, 3) := by decide +kernel
theorem dX1_pieces_24 : decode cX1_pieces 24 = .ok (.iconst 0, 1) := by decide +kernel
theorem dX1_pieces_25 : decode cX1_pieces 25 = .ok (.iadd, 1) := by decide +kernel
theorem dX1_pieces_26 : decode cX1_pieces 26 = .ok (.istore_n 1, 1) := by decide +kernel
theorem dX1_pieces_27 : decode cX1_pieces 27 = .ok (.iinc 2 1, 3) := by decide +kernel
theorem dX1_pieces_30 : decode cX1_pieces 30 = .ok (.goto (-26), 3) := by decide +kernel
theorem dX1_pieces_33 : decode cX1_pieces 33 = .ok (.iload_n 1, 1) := by decide +kernel
theorem dX1_pieces_34 : decode cX1_pieces 34 = .ok (.ireturn, 1) := by decide +kernel
set_option maxRecDepth 20000 in
theorem ggX1_put_X1_isSquare : GoodIn wsX1_put wsX1_isSquare := goodIn_r _ [7] (by decide +kernel) (by decide +kernel)
set_option maxRecDepth 20000 in
theorem gX1_put_X1_isSquare : GoodIn wsX1_put (va_wsS RX1 53 yX1_isSquare wsX1_isSquare) := goodIn_app (goodIn_of _ (by decide +kernel)) ggX1_put_X1_isSquare
set_option maxRecDepth 20000 in
theorem ggX1_put_X1_pieces : GoodIn wsX1_put wsX1_pieces := goodIn_r _ [11, 2, 12, 13, 14, 15, 16, 17, 18, 19, 20, 21, 22] (by decide +kernel) (by decide +kernel)
set_option maxRecDepth 20000 in
theorem gX1_put_X1_pieces : GoodIn wsX1_put (wsV RX1 57 RX1 yX1_pieces wsX1_pieces) := goodIn_app (goodIn_of _ (by decide +kernel)) ggX1_put_X1_pieces
theorem dX1_put_0 : decode cX1_put 0 = .ok (.aload_n 0, 1) := by decide +kernel
theorem dX1_put_1 : decode cX1_put 1 = .ok (.iload_n 1, 1) := by decide +kernel
theorem dX1_put_2 : decode cX1_put 2 = .ok (.invokestatic 53, 3) := by decide +kernel
theorem dX1_put_5 : decode cX1_put 5 = .ok (.ifCond .ne 7, 3) := by decide +kernel
theorem dX1_put_8 : decode cX1_put 8 = .ok (.iconst 1, 1) := by decide +kernel
theorem dX1_put_9 : decode cX1_put 9 = .ok (.goto 18, 3) := by decide +kernel
theorem dX1_put_12 : decode cX1_put 12 = .ok (.iload_n 2, 1) := by decide +kernel
theorem dX1_put_13 : decode cX1_put 13 = .ok (.ifCond .lt 9, 3) := by decide +kernel
theorem dX1_put_16 : decode cX1_put 16 = .ok (.iload_n 2, 1) := by decide +kernel
theorem dX1_put_17 : decode cX1_put 17 = .ok (.bipush 12, 2) := by decide +kernel
theorem dX1_put_19 : decode cX1_put 19 = .ok (.if_icmp .le 7, 3) := by decide +kernel
theorem dX1_put_22 : decode cX1_put 22 = .ok (.iconst 2, 1) := by decide +kernel
theorem dX1_put_23 : decode cX1_put 23 = .ok (.goto 4, 3) := by decide +kernel
theorem dX1_put_26 : decode cX1_put 26 = .ok (.iconst 0, 1) := by decide +kernel
theorem dX1_put_27 : decode cX1_put 27 = .ok (.putfield 31, 3) := by decide +kernel
theorem dX1_put_30 : decode cX1_put 30 = .ok (.aload_n 0, 1) := by decide +kernel
theorem dX1_put_31 : decode cX1_put 31 = .ok (.getfield 31, 3) := by decide +kernel
theorem dX1_put_34 : decode cX1_put 34 = .ok (.ifCond .le 4, 3) := by decide +kernel
theorem dX1_put_37 : decode cX1_put 37 = .ok (.return_, 1) := by decide +kernel
theorem dX1_put_38 : decode cX1_put 38 = .ok (.aload_n 0, 1) := by decide +kernel
theorem dX1_put_39 : decode cX1_put 39 = .ok (.iload_n 2, 1) := by decide +kernel
theorem dX1_put_40 : decode cX1_put 40 = .ok (.ifCond .le 25, 3) := by decide +kernel
theorem dX1_put_43 : decode cX1_put 43 = .ok (.aload_n 0, 1) := by decide +kernel
theorem dX1_put_44 : decode cX1_put 44 = .ok (.getfield 7, 3) := by decide +kernel
theorem dX1_put_47 : decode cX1_put 47 = .ok (.iload_n 1, 1) := by decide +kernel
theorem dX1_put_48 : decode cX1_put 48 = .ok (.iaload, 1) := by decide +kernel
theorem dX1_put_49 : decode cX1_put 49 = .ok (.ifCond .ne 16, 3) := by decide +kernel
theorem dX1_put_52 : decode cX1_put 52 = .ok (.aload_n 0, 1) := by decide +kernel
theorem dX1_put_53 : decode cX1_put 53 = .ok (.invokevirtual 57, 3) := by decide +kernel
theorem dX1_put_56 : decode cX1_put 56 = .ok (.bipush 32, 2) := by decide +kernel
theorem dX1_put_58 : decode cX1_put 58 = .ok (.if_icmp .ne 7, 3) := by decide +kernel
theorem dX1_put_61 : decode cX1_put 61 = .ok (.iconst 3, 1) := by decide +kernel
theorem dX1_put_62 : decode cX1_put 62 = .ok (.goto 4, 3) := by decide +kernel
theorem dX1_put_65 : decode cX1_put 65 = .ok (.iconst 0, 1) := by decide +kernel
theorem dX1_put_66 : decode cX1_put 66 = .ok (.putfield 31, 3) := by decide +kernel
theorem dX1_put_69 : decode cX1_put 69 = .ok (.aload_n 0, 1) := by decide +kernel
theorem dX1_put_70 : decode cX1_put 70 = .ok (.getfield 31, 3) := by decide +kernel
theorem dX1_put_73 : decode cX1_put 73 = .ok (.ifCond .le 4, 3) := by decide +kernel
theorem dX1_put_76 : decode cX1_put 76 = .ok (.return_, 1) := by decide +kernel
theorem dX1_put_77 : decode cX1_put 77 = .ok (.aload_n 0, 1) := by decide +kernel
theorem dX1_put_78 : decode cX1_put 78 = .ok (.getfield 7, 3) := by decide +kernel
theorem dX1_put_81 : decode cX1_put 81 = .ok (.iload_n 1, 1) := by decide +kernel
theorem dX1_put_82 : decode cX1_put 82 = .ok (.iload_n 2, 1) := by decide +kernel
theorem dX1_put_83 : decode cX1_put 83 = .ok (.iastore, 1) := by decide +kernel
theorem dX1_put_84 : decode cX1_put 84 = .ok (.aload_n 0, 1) := by decide +kernel
theorem dX1_put_85 : decode cX1_put 85 = .ok (.iconst 0, 1) := by decide +kernel
theorem dX1_put_86 : decode cX1_put 86 = .ok (.putfield 43, 3) := by decide +kernel
theorem dX1_put_89 : decode cX1_put 89 = .ok (.return_, 1) := by decide +kernel
theorem dX1_state_0 : decode cX1_state 0 = .ok (.aload_n 0, 1) := by decide +kernel
theorem dX1_state_1 : decode cX1_state 1 = .ok (.iload_n 1, 1) := by decide +kernel
theorem dX1_state_2 : decode cX1_state 2 = .ok (.ifCond .lt 29, 3) := by decide +kernel
theorem dX1_state_5 : decode cX1_state 5 = .ok (.iload_n 1, 1) := by decide +kernel
theorem dX1_state_6 : decode cX1_state 6 = .ok (.iconst 1, 1) := by decide +kernel
theorem dX1_state_7 : decode cX1_state 7 = .ok (.if_icmp .gt 24, 3) := by decide +kernel
theorem dX1_state_10 : decode cX1_state 10 = .ok (.iload_n 2, 1) := by decide +kernel
theorem dX1_state_11 : decode cX1_state 11 = .ok (.ifCond .lt 20, 3) := by decide +kernel
theorem dX1_state_14 : decode cX1_state 14 = .ok (.iload_n 2, 1) := by decide +kernel
theorem dX1_state_15 : decode cX1_state 15 = .ok (.bipush 15, 2) := by decide +kernel
theorem dX1_state_17 : decode cX1_state 17 = .ok (.if_icmp .gt 14, 3) := by decide +kernel
theorem dX1_state_20 : decode cX1_state 20 = .ok (.iload_n 3, 1) := by decide +kernel
theorem dX1_state_21 : decode cX1_state 21 = .ok (.iconst (-1), 1) := by decide +kernel
theorem dX1_state_22 : decode cX1_state 22 = .ok (.if_icmp .lt 9, 3) := by decide +kernel
theorem dX1_state_25 : decode cX1_state 25 = .ok (.iload_n 3, 1) := by decide +kernel
theorem dX1_state_26 : decode cX1_state 26 = .ok (.bipush 63, 2) := by decide +kernel
theorem dX1_state_28 : decode cX1_state 28 = .ok (.if_icmp .le 7, 3) := by decide +kernel
theorem dX1_state_31 : decode cX1_state 31 = .ok (.iconst 1, 1) := by decide +kernel
theorem dX1_state_32 : decode cX1_state 32 = .ok (.goto 4, 3) := by decide +kernel
theorem dX1_state_35 : decode cX1_state 35 = .ok (.iconst 0, 1) := by decide +kernel
theorem dX1_state_36 : decode cX1_state 36 = .ok (.putfield 31, 3) := by decide +kernel
theorem dX1_state_39 : decode cX1_state 39 = .ok (.aload_n 0, 1) := by decide +kernel
theorem dX1_state_40 : decode cX1_state 40 = .ok (.getfield 31, 3) := by decide +kernel
theorem dX1_state_43 : decode cX1_state 43 = .ok (.ifCond .le 4, 3) := by decide +kernel
theorem dX1_state_46 : decode cX1_state 46 = .ok (.return_, 1) := by decide +kernel
theorem dX1_state_47 : decode cX1_state 47 = .ok (.aload_n 0, 1) := by decide +kernel
theorem dX1_state_48 : decode cX1_state 48 = .ok (.iload_n 1, 1) := by decide +kernel
theorem dX1_state_49 : decode cX1_state 49 = .ok (.putfield 34, 3) := by decide +kernel
theorem dX1_state_52 : decode cX1_state 52 = .ok (.aload_n 0, 1) := by decide +kernel
theorem dX1_state_53 : decode cX1_state 53 = .ok (.iload_n 2, 1) := by decide +kernel
theorem dX1_state_54 : decode cX1_state 54 = .ok (.putfield 37, 3) := by decide +kernel
theorem dX1_state_57 : decode cX1_state 57 = .ok (.aload_n 0, 1) := by decide +kernel
theorem dX1_state_58 : decode cX1_state 58 = .ok (.iload_n 3, 1) := by decide +kernel
theorem dX1_state_59 : decode cX1_state 59 = .ok (.putfield 13, 3) := by decide +kernel
theorem dX1_state_62 : decode cX1_state 62 = .ok (.aload_n 0, 1) := by decide +kernel
theorem dX1_state_63 : decode cX1_state 63 = .ok (.iconst 0, 1) := by decide +kernel
theorem dX1_state_64 : decode cX1_state 64 = .ok (.putfield 43, 3) := by decide +kernel
theorem dX1_state_67 : decode cX1_state 67 = .ok (.return_, 1) := by decide +kernel
theorem dX1_clocks_0 : decode cX1_clocks 0 = .ok (.aload_n 0, 1) := by decide +kernel
theorem dX1_clocks_1 : decode cX1_clocks 1 = .ok (.iload_n 1, 1) := by decide +kernel
theorem dX1_clocks_2 : decode cX1_clocks 2 = .ok (.ifCond .lt 22, 3) := by decide +kernel
theorem dX1_clocks_5 : decode cX1_clocks 5 = .ok (.iload_n 1, 1) := by decide +kernel
theorem dX1_clocks_6 : decode cX1_clocks 6 = .ok (.sipush 9999, 3) := by decide +kernel
theorem dX1_clocks_9 : decode cX1_clocks 9 = .ok (.if_icmp .gt 15, 3) := by decide +kernel
theorem dX1_clocks_12 : decode cX1_clocks 12 = .ok (.iload_n 2, 1) := by decide +kernel
theorem dX1_clocks_13 : decode cX1_clocks 13 = .ok (.iconst 1, 1) := by decide +kernel
theorem dX1_clocks_14 : decode cX1_clocks 14 = .ok (.if_icmp .lt 10, 3) := by decide +kernel
theorem dX1_clocks_17 : decode cX1_clocks 17 = .ok (.iload_n 2, 1) := by decide +kernel
theorem dX1_clocks_18 : decode cX1_clocks 18 = .ok (.sipush 9999, 3) := by decide +kernel
theorem dX1_clocks_21 : decode cX1_clocks 21 = .ok (.if_icmp .le 7, 3) := by decide +kernel
theorem dX1_clocks_24 : decode cX1_clocks 24 = .ok (.iconst 1, 1) := by decide +kernel
theorem dX1_clocks_25 : decode cX1_clocks 25 = .ok (.goto 4, 3) := by decide +kernel
theorem dX1_clocks_28 : decode cX1_clocks 28 = .ok (.iconst 0, 1) := by decide +kernel
theorem dX1_clocks_29 : decode cX1_clocks 29 = .ok (.putfield 31, 3) := by decide +kernel
theorem dX1_clocks_32 : decode cX1_clocks 32 = .ok (.aload_n 0, 1) := by decide +kernel
theorem dX1_clocks_33 : decode cX1_clocks 33 = .ok (.getfield 31, 3) := by decide +kernel
theorem dX1_clocks_36 : decode cX1_clocks 36 = .ok (.ifCond .le 4, 3) := by decide +kernel
theorem dX1_clocks_39 : decode cX1_clocks 39 = .ok (.return_, 1) := by decide +kernel
theorem dX1_clocks_40 : decode cX1_clocks 40 = .ok (.aload_n 0, 1) := by decide +kernel
theorem dX1_clocks_41 : decode cX1_clocks 41 = .ok (.iload_n 1, 1) := by decide +kernel
theorem dX1_clocks_42 : decode cX1_clocks 42 = .ok (.putfield 40, 3) := by decide +kernel
theorem dX1_clocks_45 : decode cX1_clocks 45 = .ok (.aload_n 0, 1) := by decide +kernel
theorem dX1_clocks_46 : decode cX1_clocks 46 = .ok (.iload_n 2, 1) := by decide +kernel
theorem dX1_clocks_47 : decode cX1_clocks 47 = .ok (.putfield 17, 3) := by decide +kernel
theorem dX1_clocks_50 : decode cX1_clocks 50 = .ok (.aload_n 0, 1) := by decide +kernel
theorem dX1_clocks_51 : decode cX1_clocks 51 = .ok (.iconst 0, 1) := by decide +kernel
theorem dX1_clocks_52 : decode cX1_clocks 52 = .ok (.putfield 43, 3) := by decide +kernel
theorem dX1_clocks_55 : decode cX1_clocks 55 = .ok (.return_, 1) := by decide +kernel
theorem dX1_isFree_0 : decode cX1_isFree 0 = .ok (.iload_n 2, 1) := by decide +kernel
theorem dX1_isFree_1 : decode cX1_isFree 1 = .ok (.bipush 8, 2) := by decide +kernel
theorem dX1_isFree_3 : decode cX1_isFree 3 = .ok (.irem, 1) := by decide +kernel
theorem dX1_isFree_4 : decode cX1_isFree 4 = .ok (.iload_n 1, 1) := by decide +kernel
theorem dX1_isFree_5 : decode cX1_isFree 5 = .ok (.bipush 8, 2) := by decide +kernel
theorem dX1_isFree_7 : decode cX1_isFree 7 = .ok (.irem, 1) := by decide +kernel
theorem dX1_isFree_8 : decode cX1_isFree 8 = .ok (.if_icmp .le 7, 3) := by decide +kernel
theorem dX1_isFree_11 : decode cX1_isFree 11 = .ok (.iconst 1, 1) := by decide +kernel
theorem dX1_isFree_12 : decode cX1_isFree 12 = .ok (.goto 19, 3) := by decide +kernel
theorem dX1_isFree_15 : decode cX1_isFree 15 = .ok (.iload_n 2, 1) := by decide +kernel
theorem dX1_isFree_16 : decode cX1_isFree 16 = .ok (.bipush 8, 2) := by decide +kernel
theorem dX1_isFree_18 : decode cX1_isFree 18 = .ok (.irem, 1) := by decide +kernel
theorem dX1_isFree_19 : decode cX1_isFree 19 = .ok (.iload_n 1, 1) := by decide +kernel
theorem dX1_isFree_20 : decode cX1_isFree 20 = .ok (.bipush 8, 2) := by decide +kernel
theorem dX1_isFree_22 : decode cX1_isFree 22 = .ok (.irem, 1) := by decide +kernel
theorem dX1_isFree_23 : decode cX1_isFree 23 = .ok (.if_icmp .ge 7, 3) := by decide +kernel
theorem dX1_isFree_26 : decode cX1_isFree 26 = .ok (.iconst (-1), 1) := by decide +kernel
theorem dX1_isFree_27 : decode cX1_isFree 27 = .ok (.goto 4, 3) := by decide +kernel
theorem dX1_isFree_30 : decode cX1_isFree 30 = .ok (.iconst 0, 1) := by decide +kernel
theorem dX1_isFree_31 : decode cX1_isFree 31 = .ok (.istore_n 3, 1) := by decide +kernel
theorem dX1_isFree_32 : decode cX1_isFree 32 = .ok (.iload_n 2, 1) := by decide +kernel
theorem dX1_isFree_33 : decode cX1_isFree 33 = .ok (.bipush 8, 2) := by decide +kernel
theorem dX1_isFree_35 : decode cX1_isFree 35 = .ok (.idiv, 1) := by decide +kernel
theorem dX1_isFree_36 : decode cX1_isFree 36 = .ok (.iload_n 1, 1) := by decide +kernel
theorem dX1_isFree_37 : decode cX1_isFree 37 = .ok (.bipush 8, 2) := by decide +kernel
theorem dX1_isFree_39 : decode cX1_isFree 39 = .ok (.idiv, 1) := by decide +kernel
theorem dX1_isFree_40 : decode cX1_isFree 40 = .ok (.if_icmp .le 7, 3) := by decide +kernel
theorem dX1_isFree_43 : decode cX1_isFree 43 = .ok (.iconst 1, 1) := by decide +kernel
theorem dX1_isFree_44 : decode cX1_isFree 44 = .ok (.goto 19, 3) := by decide +kernel
end
section
theorem dX1_isFree_47 : decode cX1_isFree 47 = .ok (.iload_n 2, 1) := by decide +kernel
theorem dX1_isFree_48 : decode cX1_isFree 48 = .ok (.bipush 8, 2) := by decide +kernel
theorem dX1_isFree_50 : decode cX1_isFree 50 = .ok (.idiv, 1) := by decide +kernel
theorem dX1_isFree_51 : decode cX1_isFree 51 = .ok (.iload_n 1, 1) := by decide +kernel
theorem dX1_isFree_52 : decode cX1_isFree 52 = .ok (.bipush 8, 2) := by decide +kernel
theorem dX1_isFree_54 : decode cX1_isFree 54 = .ok (.idiv, 1) := by decide +kernel
theorem dX1_isFree_55 : decode cX1_isFree 55 = .ok (.if_icmp .ge 7, 3) := by decide +kernel
theorem dX1_isFree_58 : decode cX1_isFree 58 = .ok (.iconst (-1), 1) := by decide +kernel
theorem dX1_isFree_59 : decode cX1_isFree 59 = .ok (.goto 4, 3) := by decide +kernel
theorem dX1_isFree_62 : decode cX1_isFree 62 = .ok (.iconst 0, 1) := by decide +kernel
theorem dX1_isFree_63 : decode cX1_isFree 63 = .ok (.istore 4, 2) := by decide +kernel
theorem dX1_isFree_65 : decode cX1_isFree 65 = .ok (.iconst 1, 1) := by decide +kernel
theorem dX1_isFree_66 : decode cX1_isFree 66 = .ok (.istore 5, 2) := by decide +kernel
theorem dX1_isFree_68 : decode cX1_isFree 68 = .ok (.iload_n 1, 1) := by decide +kernel
theorem dX1_isFree_69 : decode cX1_isFree 69 = .ok (.bipush 8, 2) := by decide +kernel
theorem dX1_isFree_71 : decode cX1_isFree 71 = .ok (.iload 4, 2) := by decide +kernel
theorem dX1_isFree_73 : decode cX1_isFree 73 = .ok (.imul, 1) := by decide +kernel
theorem dX1_isFree_74 : decode cX1_isFree 74 = .ok (.iadd, 1) := by decide +kernel
theorem dX1_isFree_75 : decode cX1_isFree 75 = .ok (.iload_n 3, 1) := by decide +kernel
theorem dX1_isFree_76 : decode cX1_isFree 76 = .ok (.iadd, 1) := by decide +kernel
theorem dX1_isFree_77 : decode cX1_isFree 77 = .ok (.istore 6, 2) := by decide +kernel
theorem dX1_isFree_79 : decode cX1_isFree 79 = .ok (.iload 6, 2) := by decide +kernel
theorem dX1_isFree_81 : decode cX1_isFree 81 = .ok (.iload_n 2, 1) := by decide +kernel
theorem dX1_isFree_82 : decode cX1_isFree 82 = .ok (.if_icmp .eq 40, 3) := by decide +kernel
theorem dX1_isFree_85 : decode cX1_isFree 85 = .ok (.iload 5, 2) := by decide +kernel
theorem dX1_isFree_87 : decode cX1_isFree 87 = .ok (.ifCond .eq 17, 3) := by decide +kernel
theorem dX1_isFree_90 : decode cX1_isFree 90 = .ok (.aload_n 0, 1) := by decide +kernel
theorem dX1_isFree_91 : decode cX1_isFree 91 = .ok (.getfield 7, 3) := by decide +kernel
theorem dX1_isFree_94 : decode cX1_isFree 94 = .ok (.iload 6, 2) := by decide +kernel
theorem dX1_isFree_96 : decode cX1_isFree 96 = .ok (.iaload, 1) := by decide +kernel
theorem dX1_isFree_97 : decode cX1_isFree 97 = .ok (.ifCond .ne 7, 3) := by decide +kernel
theorem dX1_isFree_100 : decode cX1_isFree 100 = .ok (.iconst 1, 1) := by decide +kernel
theorem dX1_isFree_101 : decode cX1_isFree 101 = .ok (.goto 4, 3) := by decide +kernel
theorem dX1_isFree_104 : decode cX1_isFree 104 = .ok (.iconst 0, 1) := by decide +kernel
theorem dX1_isFree_105 : decode cX1_isFree 105 = .ok (.istore 5, 2) := by decide +kernel
theorem dX1_isFree_107 : decode cX1_isFree 107 = .ok (.iload 6, 2) := by decide +kernel
theorem dX1_isFree_109 : decode cX1_isFree 109 = .ok (.bipush 8, 2) := by decide +kernel
theorem dX1_isFree_111 : decode cX1_isFree 111 = .ok (.iload 4, 2) := by decide +kernel
theorem dX1_isFree_113 : decode cX1_isFree 113 = .ok (.imul, 1) := by decide +kernel
theorem dX1_isFree_114 : decode cX1_isFree 114 = .ok (.iload_n 3, 1) := by decide +kernel
theorem dX1_isFree_115 : decode cX1_isFree 115 = .ok (.iadd, 1) := by decide +kernel
theorem dX1_isFree_116 : decode cX1_isFree 116 = .ok (.iadd, 1) := by decide +kernel
theorem dX1_isFree_117 : decode cX1_isFree 117 = .ok (.istore 6, 2) := by decide +kernel
theorem dX1_isFree_119 : decode cX1_isFree 119 = .ok (.goto (-40), 3) := by decide +kernel
theorem dX1_isFree_122 : decode cX1_isFree 122 = .ok (.iload 5, 2) := by decide +kernel
theorem dX1_isFree_124 : decode cX1_isFree 124 = .ok (.ireturn, 1) := by decide +kernel
set_option maxRecDepth 20000 in
theorem ggX1_attacks_X1_kindOf : GoodIn wsX1_attacks wsX1_kindOf := goodIn_r _ [5] (by decide +kernel) (by decide +kernel)
set_option maxRecDepth 20000 in
theorem gX1_attacks_X1_kindOf : GoodIn wsX1_attacks (va_wsS RX1 61 yX1_kindOf wsX1_kindOf) := goodIn_app (goodIn_of _ (by decide +kernel)) ggX1_attacks_X1_kindOf
set_option maxRecDepth 20000 in
theorem ggX1_attacks_X1_apart : GoodIn wsX1_attacks wsX1_apart := goodIn_r _ [8] (by decide +kernel) (by decide +kernel)
set_option maxRecDepth 20000 in
theorem gX1_attacks_X1_apart : GoodIn wsX1_attacks (va_wsS RX1 64 yX1_apart wsX1_apart) := goodIn_app (goodIn_of _ (by decide +kernel)) ggX1_attacks_X1_apart
set_option maxRecDepth 20000 in
theorem ggX1_attacks_X1_sideOf : GoodIn wsX1_attacks wsX1_sideOf := goodIn_r _ [11] (by decide +kernel) (by decide +kernel)
set_option maxRecDepth 20000 in
theorem gX1_attacks_X1_sideOf : GoodIn wsX1_attacks (va_wsS RX1 68 yX1_sideOf wsX1_sideOf) := goodIn_app (goodIn_of _ (by decide +kernel)) ggX1_attacks_X1_sideOf
set_option maxRecDepth 20000 in
theorem ggX1_attacks_X1_isFree : GoodIn wsX1_attacks wsX1_isFree := goodIn_r _ [15, 1, 16, 17, 18, 19, 20, 21, 22, 23, 24, 25, 26] (by decide +kernel) (by decide +kernel)
set_option maxRecDepth 20000 in
theorem gX1_attacks_X1_isFree : GoodIn wsX1_attacks (wsV RX1 71 RX1 yX1_isFree wsX1_isFree) := goodIn_app (goodIn_of _ (by decide +kernel)) ggX1_attacks_X1_isFree
theorem dX1_attacks_0 : decode cX1_attacks 0 = .ok (.aload_n 0, 1) := by decide +kernel
theorem dX1_attacks_1 : decode cX1_attacks 1 = .ok (.getfield 7, 3) := by decide +kernel
theorem dX1_attacks_4 : decode cX1_attacks 4 = .ok (.iload_n 1, 1) := by decide +kernel
theorem dX1_attacks_5 : decode cX1_attacks 5 = .ok (.iaload, 1) := by decide +kernel
theorem dX1_attacks_6 : decode cX1_attacks 6 = .ok (.invokestatic 61, 3) := by decide +kernel
theorem dX1_attacks_9 : decode cX1_attacks 9 = .ok (.istore_n 3, 1) := by decide +kernel
theorem dX1_attacks_10 : decode cX1_attacks 10 = .ok (.iload_n 1, 1) := by decide +kernel
theorem dX1_attacks_11 : decode cX1_attacks 11 = .ok (.bipush 8, 2) := by decide +kernel
theorem dX1_attacks_13 : decode cX1_attacks 13 = .ok (.irem, 1) := by decide +kernel
theorem dX1_attacks_14 : decode cX1_attacks 14 = .ok (.iload_n 2, 1) := by decide +kernel
theorem dX1_attacks_15 : decode cX1_attacks 15 = .ok (.bipush 8, 2) := by decide +kernel
theorem dX1_attacks_17 : decode cX1_attacks 17 = .ok (.irem, 1) := by decide +kernel
theorem dX1_attacks_18 : decode cX1_attacks 18 = .ok (.invokestatic 64, 3) := by decide +kernel
theorem dX1_attacks_21 : decode cX1_attacks 21 = .ok (.istore 4, 2) := by decide +kernel
theorem dX1_attacks_23 : decode cX1_attacks 23 = .ok (.iload_n 1, 1) := by decide +kernel
theorem dX1_attacks_24 : decode cX1_attacks 24 = .ok (.bipush 8, 2) := by decide +kernel
theorem dX1_attacks_26 : decode cX1_attacks 26 = .ok (.idiv, 1) := by decide +kernel
theorem dX1_attacks_27 : decode cX1_attacks 27 = .ok (.iload_n 2, 1) := by decide +kernel
theorem dX1_attacks_28 : decode cX1_attacks 28 = .ok (.bipush 8, 2) := by decide +kernel
theorem dX1_attacks_30 : decode cX1_attacks 30 = .ok (.idiv, 1) := by decide +kernel
theorem dX1_attacks_31 : decode cX1_attacks 31 = .ok (.invokestatic 64, 3) := by decide +kernel
theorem dX1_attacks_34 : decode cX1_attacks 34 = .ok (.istore 5, 2) := by decide +kernel
theorem dX1_attacks_36 : decode cX1_attacks 36 = .ok (.iload_n 3, 1) := by decide +kernel
theorem dX1_attacks_37 : decode cX1_attacks 37 = .ok (.ifCond .eq 8, 3) := by decide +kernel
theorem dX1_attacks_40 : decode cX1_attacks 40 = .ok (.iload_n 1, 1) := by decide +kernel
theorem dX1_attacks_41 : decode cX1_attacks 41 = .ok (.iload_n 2, 1) := by decide +kernel
theorem dX1_attacks_42 : decode cX1_attacks 42 = .ok (.if_icmp .ne 5, 3) := by decide +kernel
theorem dX1_attacks_45 : decode cX1_attacks 45 = .ok (.iconst 0, 1) := by decide +kernel
theorem dX1_attacks_46 : decode cX1_attacks 46 = .ok (.ireturn, 1) := by decide +kernel
theorem dX1_attacks_47 : decode cX1_attacks 47 = .ok (.iload_n 3, 1) := by decide +kernel
theorem dX1_attacks_48 : decode cX1_attacks 48 = .ok (.iconst 1, 1) := by decide +kernel
theorem dX1_attacks_49 : decode cX1_attacks 49 = .ok (.if_icmp .ne 44, 3) := by decide +kernel
theorem dX1_attacks_52 : decode cX1_attacks 52 = .ok (.iload 4, 2) := by decide +kernel
theorem dX1_attacks_54 : decode cX1_attacks 54 = .ok (.iconst 1, 1) := by decide +kernel
theorem dX1_attacks_55 : decode cX1_attacks 55 = .ok (.if_icmp .ne 36, 3) := by decide +kernel
theorem dX1_attacks_58 : decode cX1_attacks 58 = .ok (.iload_n 2, 1) := by decide +kernel
theorem dX1_attacks_59 : decode cX1_attacks 59 = .ok (.bipush 8, 2) := by decide +kernel
theorem dX1_attacks_61 : decode cX1_attacks 61 = .ok (.idiv, 1) := by decide +kernel
theorem dX1_attacks_62 : decode cX1_attacks 62 = .ok (.iload_n 1, 1) := by decide +kernel
theorem dX1_attacks_63 : decode cX1_attacks 63 = .ok (.bipush 8, 2) := by decide +kernel
theorem dX1_attacks_65 : decode cX1_attacks 65 = .ok (.idiv, 1) := by decide +kernel
theorem dX1_attacks_66 : decode cX1_attacks 66 = .ok (.isub, 1) := by decide +kernel
theorem dX1_attacks_67 : decode cX1_attacks 67 = .ok (.aload_n 0, 1) := by decide +kernel
theorem dX1_attacks_68 : decode cX1_attacks 68 = .ok (.getfield 7, 3) := by decide +kernel
theorem dX1_attacks_71 : decode cX1_attacks 71 = .ok (.iload_n 1, 1) := by decide +kernel
theorem dX1_attacks_72 : decode cX1_attacks 72 = .ok (.iaload, 1) := by decide +kernel
theorem dX1_attacks_73 : decode cX1_attacks 73 = .ok (.invokestatic 68, 3) := by decide +kernel
theorem dX1_attacks_76 : decode cX1_attacks 76 = .ok (.ifCond .ne 7, 3) := by decide +kernel
theorem dX1_attacks_79 : decode cX1_attacks 79 = .ok (.iconst 1, 1) := by decide +kernel
theorem dX1_attacks_80 : decode cX1_attacks 80 = .ok (.goto 4, 3) := by decide +kernel
theorem dX1_attacks_83 : decode cX1_attacks 83 = .ok (.iconst (-1), 1) := by decide +kernel
theorem dX1_attacks_84 : decode cX1_attacks 84 = .ok (.if_icmp .ne 7, 3) := by decide +kernel
theorem dX1_attacks_87 : decode cX1_attacks 87 = .ok (.iconst 1, 1) := by decide +kernel
theorem dX1_attacks_88 : decode cX1_attacks 88 = .ok (.goto 4, 3) := by decide +kernel
theorem dX1_attacks_91 : decode cX1_attacks 91 = .ok (.iconst 0, 1) := by decide +kernel
theorem dX1_attacks_92 : decode cX1_attacks 92 = .ok (.ireturn, 1) := by decide +kernel
theorem dX1_attacks_93 : decode cX1_attacks 93 = .ok (.iload_n 3, 1) := by decide +kernel
theorem dX1_attacks_94 : decode cX1_attacks 94 = .ok (.iconst 2, 1) := by decide +kernel
theorem dX1_attacks_95 : decode cX1_attacks 95 = .ok (.if_icmp .ne 33, 3) := by decide +kernel
theorem dX1_attacks_98 : decode cX1_attacks 98 = .ok (.iload 4, 2) := by decide +kernel
theorem dX1_attacks_100 : decode cX1_attacks 100 = .ok (.iconst 1, 1) := by decide +kernel
theorem dX1_attacks_101 : decode cX1_attacks 101 = .ok (.if_icmp .ne 9, 3) := by decide +kernel
theorem dX1_attacks_104 : decode cX1_attacks 104 = .ok (.iload 5, 2) := by decide +kernel
theorem dX1_attacks_106 : decode cX1_attacks 106 = .ok (.iconst 2, 1) := by decide +kernel
theorem dX1_attacks_107 : decode cX1_attacks 107 = .ok (.if_icmp .eq 15, 3) := by decide +kernel
theorem dX1_attacks_110 : decode cX1_attacks 110 = .ok (.iload 4, 2) := by decide +kernel
theorem dX1_attacks_112 : decode cX1_attacks 112 = .ok (.iconst 2, 1) := by decide +kernel
theorem dX1_attacks_113 : decode cX1_attacks 113 = .ok (.if_icmp .ne 13, 3) := by decide +kernel
theorem dX1_attacks_116 : decode cX1_attacks 116 = .ok (.iload 5, 2) := by decide +kernel
theorem dX1_attacks_118 : decode cX1_attacks 118 = .ok (.iconst 1, 1) := by decide +kernel
theorem dX1_attacks_119 : decode cX1_attacks 119 = .ok (.if_icmp .ne 7, 3) := by decide +kernel
theorem dX1_attacks_122 : decode cX1_attacks 122 = .ok (.iconst 1, 1) := by decide +kernel
theorem dX1_attacks_123 : decode cX1_attacks 123 = .ok (.goto 4, 3) := by decide +kernel
theorem dX1_attacks_126 : decode cX1_attacks 126 = .ok (.iconst 0, 1) := by decide +kernel
theorem dX1_attacks_127 : decode cX1_attacks 127 = .ok (.ireturn, 1) := by decide +kernel
theorem dX1_attacks_128 : decode cX1_attacks 128 = .ok (.iload_n 3, 1) := by decide +kernel
theorem dX1_attacks_129 : decode cX1_attacks 129 = .ok (.bipush 6, 2) := by decide +kernel
theorem dX1_attacks_131 : decode cX1_attacks 131 = .ok (.if_icmp .ne 21, 3) := by decide +kernel
theorem dX1_attacks_134 : decode cX1_attacks 134 = .ok (.iload 4, 2) := by decide +kernel
theorem dX1_attacks_136 : decode cX1_attacks 136 = .ok (.iconst 2, 1) := by decide +kernel
theorem dX1_attacks_137 : decode cX1_attacks 137 = .ok (.if_icmp .ge 13, 3) := by decide +kernel
theorem dX1_attacks_140 : decode cX1_attacks 140 = .ok (.iload 5, 2) := by decide +kernel
theorem dX1_attacks_142 : decode cX1_attacks 142 = .ok (.iconst 2, 1) := by decide +kernel
theorem dX1_attacks_143 : decode cX1_attacks 143 = .ok (.if_icmp .ge 7, 3) := by decide +kernel
theorem dX1_attacks_146 : decode cX1_attacks 146 = .ok (.iconst 1, 1) := by decide +kernel
theorem dX1_attacks_147 : decode cX1_attacks 147 = .ok (.goto 4, 3) := by decide +kernel
theorem dX1_attacks_150 : decode cX1_attacks 150 = .ok (.iconst 0, 1) := by decide +kernel
theorem dX1_attacks_151 : decode cX1_attacks 151 = .ok (.ireturn, 1) := by decide +kernel
theorem dX1_attacks_152 : decode cX1_attacks 152 = .ok (.iload 4, 2) := by decide +kernel
theorem dX1_attacks_154 : decode cX1_attacks 154 = .ok (.ifCond .eq 8, 3) := by decide +kernel
theorem dX1_attacks_157 : decode cX1_attacks 157 = .ok (.iload 5, 2) := by decide +kernel
theorem dX1_attacks_159 : decode cX1_attacks 159 = .ok (.ifCond .ne 7, 3) := by decide +kernel
theorem dX1_attacks_162 : decode cX1_attacks 162 = .ok (.iconst 1, 1) := by decide +kernel
theorem dX1_attacks_163 : decode cX1_attacks 163 = .ok (.goto 4, 3) := by decide +kernel
theorem dX1_attacks_166 : decode cX1_attacks 166 = .ok (.iconst 0, 1) := by decide +kernel
theorem dX1_attacks_167 : decode cX1_attacks 167 = .ok (.istore 6, 2) := by decide +kernel
theorem dX1_attacks_169 : decode cX1_attacks 169 = .ok (.iload 4, 2) := by decide +kernel
theorem dX1_attacks_171 : decode cX1_attacks 171 = .ok (.iload 5, 2) := by decide +kernel
theorem dX1_attacks_173 : decode cX1_attacks 173 = .ok (.if_icmp .ne 7, 3) := by decide +kernel
theorem dX1_attacks_176 : decode cX1_attacks 176 = .ok (.iconst 1, 1) := by decide +kernel
theorem dX1_attacks_177 : decode cX1_attacks 177 = .ok (.goto 4, 3) := by decide +kernel
theorem dX1_attacks_180 : decode cX1_attacks 180 = .ok (.iconst 0, 1) := by decide +kernel
theorem dX1_attacks_181 : decode cX1_attacks 181 = .ok (.istore 7, 2) := by decide +kernel
theorem dX1_attacks_183 : decode cX1_attacks 183 = .ok (.iload 6, 2) := by decide +kernel
theorem dX1_attacks_185 : decode cX1_attacks 185 = .ok (.ifCond .eq 8, 3) := by decide +kernel
theorem dX1_attacks_188 : decode cX1_attacks 188 = .ok (.iload_n 3, 1) := by decide +kernel
theorem dX1_attacks_189 : decode cX1_attacks 189 = .ok (.iconst 3, 1) := by decide +kernel
theorem dX1_attacks_190 : decode cX1_attacks 190 = .ok (.if_icmp .ne 13, 3) := by decide +kernel
theorem dX1_attacks_193 : decode cX1_attacks 193 = .ok (.iload 7, 2) := by decide +kernel
theorem dX1_attacks_195 : decode cX1_attacks 195 = .ok (.ifCond .eq 21, 3) := by decide +kernel
theorem dX1_attacks_198 : decode cX1_attacks 198 = .ok (.iload_n 3, 1) := by decide +kernel
theorem dX1_attacks_199 : decode cX1_attacks 199 = .ok (.iconst 4, 1) := by decide +kernel
theorem dX1_attacks_200 : decode cX1_attacks 200 = .ok (.if_icmp .eq 16, 3) := by decide +kernel
theorem dX1_attacks_203 : decode cX1_attacks 203 = .ok (.aload_n 0, 1) := by decide +kernel
theorem dX1_attacks_204 : decode cX1_attacks 204 = .ok (.iload_n 1, 1) := by decide +kernel
theorem dX1_attacks_205 : decode cX1_attacks 205 = .ok (.iload_n 2, 1) := by decide +kernel
theorem dX1_attacks_206 : decode cX1_attacks 206 = .ok (.invokevirtual 71, 3) := by decide +kernel
theorem dX1_attacks_209 : decode cX1_attacks 209 = .ok (.ifCond .eq 7, 3) := by decide +kernel
theorem dX1_attacks_212 : decode cX1_attacks 212 = .ok (.iconst 1, 1) := by decide +kernel
theorem dX1_attacks_213 : decode cX1_attacks 213 = .ok (.goto 4, 3) := by decide +kernel
theorem dX1_attacks_216 : decode cX1_attacks 216 = .ok (.iconst 0, 1) := by decide +kernel
theorem dX1_attacks_217 : decode cX1_attacks 217 = .ok (.ireturn, 1) := by decide +kernel
set_option maxRecDepth 20000 in
theorem ggX1_isAttacked_X1_sideOf : GoodIn wsX1_isAttacked wsX1_sideOf := goodIn_r _ [5] (by decide +kernel) (by decide +kernel)
set_option maxRecDepth 20000 in
theorem gX1_isAttacked_X1_sideOf : GoodIn wsX1_isAttacked (va_wsS RX1 68 yX1_sideOf wsX1_sideOf) := goodIn_app (goodIn_of _ (by decide +kernel)) ggX1_isAttacked_X1_sideOf
set_option maxRecDepth 20000 in
theorem ggX1_isAttacked_X1_attacks : GoodIn wsX1_isAttacked wsX1_attacks := goodIn_r _ [9, 1, 10, 11, 4, 12, 13, 14, 15, 2, 3, 5, 16, 17, 18, 19, 20, 21, 22, 23, 24, 25, 26, 27, 28, 29, 30] (by decide +kernel) (by decide +kernel)
set_option maxRecDepth 20000 in
theorem gX1_isAttacked_X1_attacks : GoodIn wsX1_isAttacked (wsV RX1 75 RX1 yX1_attacks wsX1_attacks) := goodIn_app (goodIn_of _ (by decide +kernel)) ggX1_isAttacked_X1_attacks
theorem dX1_isAttacked_0 : decode cX1_isAttacked 0 = .ok (.iconst 0, 1) := by decide +kernel
theorem dX1_isAttacked_1 : decode cX1_isAttacked 1 = .ok (.istore_n 3, 1) := by decide +kernel
theorem dX1_isAttacked_2 : decode cX1_isAttacked 2 = .ok (.iconst 0, 1) := by decide +kernel
theorem dX1_isAttacked_3 : decode cX1_isAttacked 3 = .ok (.istore 4, 2) := by decide +kernel
theorem dX1_isAttacked_5 : decode cX1_isAttacked 5 = .ok (.iload 4, 2) := by decide +kernel
theorem dX1_isAttacked_7 : decode cX1_isAttacked 7 = .ok (.bipush 64, 2) := by decide +kernel
theorem dX1_isAttacked_9 : decode cX1_isAttacked 9 = .ok (.if_icmp .ge 43, 3) := by decide +kernel
theorem dX1_isAttacked_12 : decode cX1_isAttacked 12 = .ok (.iload_n 3, 1) := by decide +kernel
theorem dX1_isAttacked_13 : decode cX1_isAttacked 13 = .ok (.ifCond .ne 39, 3) := by decide +kernel
theorem dX1_isAttacked_16 : decode cX1_isAttacked 16 = .ok (.aload_n 0, 1) := by decide +kernel
theorem dX1_isAttacked_17 : decode cX1_isAttacked 17 = .ok (.getfield 7, 3) := by decide +kernel
theorem dX1_isAttacked_20 : decode cX1_isAttacked 20 = .ok (.iload 4, 2) := by decide +kernel
theorem dX1_isAttacked_22 : decode cX1_isAttacked 22 = .ok (.iaload, 1) := by decide +kernel
theorem dX1_isAttacked_23 : decode cX1_isAttacked 23 = .ok (.invokestatic 68, 3) := by decide +kernel
theorem dX1_isAttacked_26 : decode cX1_isAttacked 26 = .ok (.iload_n 2, 1) := by decide +kernel
theorem dX1_isAttacked_27 : decode cX1_isAttacked 27 = .ok (.if_icmp .ne 17, 3) := by decide +kernel
theorem dX1_isAttacked_30 : decode cX1_isAttacked 30 = .ok (.aload_n 0, 1) := by decide +kernel
theorem dX1_isAttacked_31 : decode cX1_isAttacked 31 = .ok (.iload 4, 2) := by decide +kernel
theorem dX1_isAttacked_33 : decode cX1_isAttacked 33 = .ok (.iload_n 1, 1) := by decide +kernel
theorem dX1_isAttacked_34 : decode cX1_isAttacked 34 = .ok (.invokevirtual 75, 3) := by decide +kernel
theorem dX1_isAttacked_37 : decode cX1_isAttacked 37 = .ok (.ifCond .eq 7, 3) := by decide +kernel
theorem dX1_isAttacked_40 : decode cX1_isAttacked 40 = .ok (.iconst 1, 1) := by decide +kernel
theorem dX1_isAttacked_41 : decode cX1_isAttacked 41 = .ok (.goto 4, 3) := by decide +kernel
theorem dX1_isAttacked_44 : decode cX1_isAttacked 44 = .ok (.iconst 0, 1) := by decide +kernel
theorem dX1_isAttacked_45 : decode cX1_isAttacked 45 = .ok (.istore_n 3, 1) := by decide +kernel
theorem dX1_isAttacked_46 : decode cX1_isAttacked 46 = .ok (.iinc 4 1, 3) := by decide +kernel
theorem dX1_isAttacked_49 : decode cX1_isAttacked 49 = .ok (.goto (-44), 3) := by decide +kernel
theorem dX1_isAttacked_52 : decode cX1_isAttacked 52 = .ok (.iload_n 3, 1) := by decide +kernel
theorem dX1_isAttacked_53 : decode cX1_isAttacked 53 = .ok (.ireturn, 1) := by decide +kernel
set_option maxRecDepth 20000 in
theorem ggX1_attackers_X1_isSquare : GoodIn wsX1_attackers wsX1_isSquare := goodIn_r _ [6] (by decide +kernel) (by decide +kernel)
set_option maxRecDepth 20000 in
theorem gX1_attackers_X1_isSquare : GoodIn wsX1_attackers (va_wsS RX1 53 yX1_isSquare wsX1_isSquare) := goodIn_app (goodIn_of _ (by decide +kernel)) ggX1_attackers_X1_isSquare
set_option maxRecDepth 20000 in
theorem ggX1_attackers_X1_sideOf : GoodIn wsX1_attackers wsX1_sideOf := goodIn_r _ [9] (by decide +kernel) (by decide +kernel)
set_option maxRecDepth 20000 in
theorem gX1_attackers_X1_sideOf : GoodIn wsX1_attackers (va_wsS RX1 68 yX1_sideOf wsX1_sideOf) := goodIn_app (goodIn_of _ (by decide +kernel)) ggX1_attackers_X1_sideOf
set_option maxRecDepth 20000 in
theorem ggX1_attackers_X1_attacks : GoodIn wsX1_attackers wsX1_attacks := goodIn_r _ [13, 2, 14, 15, 5, 16, 17, 18, 19, 7, 8, 9, 20, 21, 22, 23, 24, 25, 26, 27, 28, 29, 30, 31, 32, 33, 34] (by decide +kernel) (by decide +kernel)
set_option maxRecDepth 20000 in
theorem gX1_attackers_X1_attacks : GoodIn wsX1_attackers (wsV RX1 75 RX1 yX1_attacks wsX1_attacks) := goodIn_app (goodIn_of _ (by decide +kernel)) ggX1_attackers_X1_attacks
theorem dX1_attackers_0 : decode cX1_attackers 0 = .ok (.aload_n 0, 1) := by decide +kernel
theorem dX1_attackers_1 : decode cX1_attackers 1 = .ok (.iload_n 1, 1) := by decide +kernel
theorem dX1_attackers_2 : decode cX1_attackers 2 = .ok (.invokestatic 53, 3) := by decide +kernel
theorem dX1_attackers_5 : decode cX1_attackers 5 = .ok (.ifCond .ne 7, 3) := by decide +kernel
theorem dX1_attackers_8 : decode cX1_attackers 8 = .ok (.iconst 1, 1) := by decide +kernel
theorem dX1_attackers_9 : decode cX1_attackers 9 = .ok (.goto 17, 3) := by decide +kernel
theorem dX1_attackers_12 : decode cX1_attackers 12 = .ok (.iload_n 2, 1) := by decide +kernel
theorem dX1_attackers_13 : decode cX1_attackers 13 = .ok (.ifCond .lt 8, 3) := by decide +kernel
theorem dX1_attackers_16 : decode cX1_attackers 16 = .ok (.iload_n 2, 1) := by decide +kernel
theorem dX1_attackers_17 : decode cX1_attackers 17 = .ok (.iconst 1, 1) := by decide +kernel
theorem dX1_attackers_18 : decode cX1_attackers 18 = .ok (.if_icmp .le 7, 3) := by decide +kernel
theorem dX1_attackers_21 : decode cX1_attackers 21 = .ok (.iconst 2, 1) := by decide +kernel
theorem dX1_attackers_22 : decode cX1_attackers 22 = .ok (.goto 4, 3) := by decide +kernel
theorem dX1_attackers_25 : decode cX1_attackers 25 = .ok (.iconst 0, 1) := by decide +kernel
theorem dX1_attackers_26 : decode cX1_attackers 26 = .ok (.putfield 31, 3) := by decide +kernel
theorem dX1_attackers_29 : decode cX1_attackers 29 = .ok (.lconst 0, 1) := by decide +kernel
theorem dX1_attackers_30 : decode cX1_attackers 30 = .ok (.lstore_n 3, 1) := by decide +kernel
theorem dX1_attackers_31 : decode cX1_attackers 31 = .ok (.iconst 0, 1) := by decide +kernel
theorem dX1_attackers_32 : decode cX1_attackers 32 = .ok (.istore 5, 2) := by decide +kernel
theorem dX1_attackers_34 : decode cX1_attackers 34 = .ok (.iload 5, 2) := by decide +kernel
theorem dX1_attackers_36 : decode cX1_attackers 36 = .ok (.bipush 64, 2) := by decide +kernel
theorem dX1_attackers_38 : decode cX1_attackers 38 = .ok (.if_icmp .ge 51, 3) := by decide +kernel
theorem dX1_attackers_41 : decode cX1_attackers 41 = .ok (.aload_n 0, 1) := by decide +kernel
theorem dX1_attackers_42 : decode cX1_attackers 42 = .ok (.getfield 31, 3) := by decide +kernel
theorem dX1_attackers_45 : decode cX1_attackers 45 = .ok (.ifCond .ne 44, 3) := by decide +kernel
theorem dX1_attackers_48 : decode cX1_attackers 48 = .ok (.aload_n 0, 1) := by decide +kernel
theorem dX1_attackers_49 : decode cX1_attackers 49 = .ok (.getfield 7, 3) := by decide +kernel
theorem dX1_attackers_52 : decode cX1_attackers 52 = .ok (.iload 5, 2) := by decide +kernel
theorem dX1_attackers_54 : decode cX1_attackers 54 = .ok (.iaload, 1) := by decide +kernel
theorem dX1_attackers_55 : decode cX1_attackers 55 = .ok (.invokestatic 68, 3) := by decide +kernel
theorem dX1_attackers_58 : decode cX1_attackers 58 = .ok (.iload_n 2, 1) := by decide +kernel
theorem dX1_attackers_59 : decode cX1_attackers 59 = .ok (.if_icmp .ne 22, 3) := by decide +kernel
theorem dX1_attackers_62 : decode cX1_attackers 62 = .ok (.aload_n 0, 1) := by decide +kernel
theorem dX1_attackers_63 : decode cX1_attackers 63 = .ok (.iload 5, 2) := by decide +kernel
theorem dX1_attackers_65 : decode cX1_attackers 65 = .ok (.iload_n 1, 1) := by decide +kernel
theorem dX1_attackers_66 : decode cX1_attackers 66 = .ok (.invokevirtual 75, 3) := by decide +kernel
theorem dX1_attackers_69 : decode cX1_attackers 69 = .ok (.ifCond .eq 12, 3) := by decide +kernel
theorem dX1_attackers_72 : decode cX1_attackers 72 = .ok (.lload_n 3, 1) := by decide +kernel
theorem dX1_attackers_73 : decode cX1_attackers 73 = .ok (.lconst 1, 1) := by decide +kernel
theorem dX1_attackers_74 : decode cX1_attackers 74 = .ok (.iload 5, 2) := by decide +kernel
theorem dX1_attackers_76 : decode cX1_attackers 76 = .ok (.lshl, 1) := by decide +kernel
theorem dX1_attackers_77 : decode cX1_attackers 77 = .ok (.lor, 1) := by decide +kernel
theorem dX1_attackers_78 : decode cX1_attackers 78 = .ok (.goto 4, 3) := by decide +kernel
theorem dX1_attackers_81 : decode cX1_attackers 81 = .ok (.lload_n 3, 1) := by decide +kernel
theorem dX1_attackers_82 : decode cX1_attackers 82 = .ok (.lstore_n 3, 1) := by decide +kernel
theorem dX1_attackers_83 : decode cX1_attackers 83 = .ok (.iinc 5 1, 3) := by decide +kernel
theorem dX1_attackers_86 : decode cX1_attackers 86 = .ok (.goto (-52), 3) := by decide +kernel
theorem dX1_attackers_89 : decode cX1_attackers 89 = .ok (.lload_n 3, 1) := by decide +kernel
theorem dX1_attackers_90 : decode cX1_attackers 90 = .ok (.lreturn, 1) := by decide +kernel
set_option maxRecDepth 20000 in
theorem ggX1_check_X1_isAttacked : GoodIn wsX1_check wsX1_isAttacked := goodIn_r _ [7, 2, 8, 9, 6, 10, 11, 12, 13, 14, 15, 16, 17, 18, 19, 20, 21, 22, 23, 24, 25, 26, 27, 28, 29, 30, 31, 32, 33, 34, 35] (by decide +kernel) (by decide +kernel)
set_option maxRecDepth 20000 in
theorem gX1_check_X1_isAttacked : GoodIn wsX1_check (wsV RX1 78 RX1 yX1_isAttacked wsX1_isAttacked) := goodIn_app (goodIn_of _ (by decide +kernel)) ggX1_check_X1_isAttacked
theorem dX1_check_0 : decode cX1_check 0 = .ok (.aload_n 0, 1) := by decide +kernel
theorem dX1_check_1 : decode cX1_check 1 = .ok (.iconst 0, 1) := by decide +kernel
theorem dX1_check_2 : decode cX1_check 2 = .ok (.putfield 31, 3) := by decide +kernel
theorem dX1_check_5 : decode cX1_check 5 = .ok (.iconst 0, 1) := by decide +kernel
theorem dX1_check_6 : decode cX1_check 6 = .ok (.istore_n 2, 1) := by decide +kernel
theorem dX1_check_7 : decode cX1_check 7 = .ok (.iconst 0, 1) := by decide +kernel
theorem dX1_check_8 : decode cX1_check 8 = .ok (.istore_n 3, 1) := by decide +kernel
theorem dX1_check_9 : decode cX1_check 9 = .ok (.iload_n 3, 1) := by decide +kernel
theorem dX1_check_10 : decode cX1_check 10 = .ok (.bipush 64, 2) := by decide +kernel
theorem dX1_check_12 : decode cX1_check 12 = .ok (.if_icmp .ge 55, 3) := by decide +kernel
theorem dX1_check_15 : decode cX1_check 15 = .ok (.iload_n 1, 1) := by decide +kernel
theorem dX1_check_16 : decode cX1_check 16 = .ok (.ifCond .eq 8, 3) := by decide +kernel
theorem dX1_check_19 : decode cX1_check 19 = .ok (.iload_n 1, 1) := by decide +kernel
theorem dX1_check_20 : decode cX1_check 20 = .ok (.iconst 1, 1) := by decide +kernel
theorem dX1_check_21 : decode cX1_check 21 = .ok (.if_icmp .ne 46, 3) := by decide +kernel
theorem dX1_check_24 : decode cX1_check 24 = .ok (.iload_n 2, 1) := by decide +kernel
theorem dX1_check_25 : decode cX1_check 25 = .ok (.ifCond .ne 30, 3) := by decide +kernel
theorem dX1_check_28 : decode cX1_check 28 = .ok (.aload_n 0, 1) := by decide +kernel
theorem dX1_check_29 : decode cX1_check 29 = .ok (.getfield 7, 3) := by decide +kernel
theorem dX1_check_32 : decode cX1_check 32 = .ok (.iload_n 3, 1) := by decide +kernel
theorem dX1_check_33 : decode cX1_check 33 = .ok (.iaload, 1) := by decide +kernel
theorem dX1_check_34 : decode cX1_check 34 = .ok (.bipush 6, 2) := by decide +kernel
theorem dX1_check_36 : decode cX1_check 36 = .ok (.bipush 6, 2) := by decide +kernel
theorem dX1_check_38 : decode cX1_check 38 = .ok (.iload_n 1, 1) := by decide +kernel
theorem dX1_check_39 : decode cX1_check 39 = .ok (.imul, 1) := by decide +kernel
theorem dX1_check_40 : decode cX1_check 40 = .ok (.iadd, 1) := by decide +kernel
theorem dX1_check_41 : decode cX1_check 41 = .ok (.if_icmp .ne 18, 3) := by decide +kernel
theorem dX1_check_44 : decode cX1_check 44 = .ok (.aload_n 0, 1) := by decide +kernel
theorem dX1_check_45 : decode cX1_check 45 = .ok (.iload_n 3, 1) := by decide +kernel
theorem dX1_check_46 : decode cX1_check 46 = .ok (.iconst 1, 1) := by decide +kernel
theorem dX1_check_47 : decode cX1_check 47 = .ok (.iload_n 1, 1) := by decide +kernel
theorem dX1_check_48 : decode cX1_check 48 = .ok (.isub, 1) := by decide +kernel
theorem dX1_check_49 : decode cX1_check 49 = .ok (.invokevirtual 78, 3) := by decide +kernel
theorem dX1_check_52 : decode cX1_check 52 = .ok (.ifCond .eq 7, 3) := by decide +kernel
theorem dX1_check_55 : decode cX1_check 55 = .ok (.iconst 1, 1) := by decide +kernel
theorem dX1_check_56 : decode cX1_check 56 = .ok (.goto 4, 3) := by decide +kernel
theorem dX1_check_59 : decode cX1_check 59 = .ok (.iconst 0, 1) := by decide +kernel
theorem dX1_check_60 : decode cX1_check 60 = .ok (.istore_n 2, 1) := by decide +kernel
theorem dX1_check_61 : decode cX1_check 61 = .ok (.iinc 3 1, 3) := by decide +kernel
theorem dX1_check_64 : decode cX1_check 64 = .ok (.goto (-55), 3) := by decide +kernel
theorem dX1_check_67 : decode cX1_check 67 = .ok (.iload_n 2, 1) := by decide +kernel
theorem dX1_check_68 : decode cX1_check 68 = .ok (.ireturn, 1) := by decide +kernel
set_option maxRecDepth 20000 in
theorem ggX1_castles_X1_isFree : GoodIn wsX1_castles wsX1_isFree := goodIn_r _ [8, 3, 9, 10, 11, 12, 13, 14, 15, 16, 17, 18, 19] (by decide +kernel) (by decide +kernel)
set_option maxRecDepth 20000 in
theorem gX1_castles_X1_isFree : GoodIn wsX1_castles (wsV RX1 71 RX1 yX1_isFree wsX1_isFree) := goodIn_app (goodIn_of _ (by decide +kernel)) ggX1_castles_X1_isFree
theorem dX1_castles_0 : decode cX1_castles 0 = .ok (.aload_n 0, 1) := by decide +kernel
theorem dX1_castles_1 : decode cX1_castles 1 = .ok (.getfield 34, 3) := by decide +kernel
theorem dX1_castles_4 : decode cX1_castles 4 = .ok (.ifCond .ne 7, 3) := by decide +kernel
theorem dX1_castles_7 : decode cX1_castles 7 = .ok (.iconst 4, 1) := by decide +kernel
theorem dX1_castles_8 : decode cX1_castles 8 = .ok (.goto 5, 3) := by decide +kernel
theorem dX1_castles_11 : decode cX1_castles 11 = .ok (.bipush 60, 2) := by decide +kernel
theorem dX1_castles_13 : decode cX1_castles 13 = .ok (.istore_n 3, 1) := by decide +kernel
theorem dX1_castles_14 : decode cX1_castles 14 = .ok (.iload_n 2, 1) := by decide +kernel
theorem dX1_castles_15 : decode cX1_castles 15 = .ok (.iload_n 1, 1) := by decide +kernel
theorem dX1_castles_16 : decode cX1_castles 16 = .ok (.isub, 1) := by decide +kernel
theorem dX1_castles_17 : decode cX1_castles 17 = .ok (.istore 4, 2) := by decide +kernel
theorem dX1_castles_19 : decode cX1_castles 19 = .ok (.iload_n 1, 1) := by decide +kernel
theorem dX1_castles_20 : decode cX1_castles 20 = .ok (.iload_n 3, 1) := by decide +kernel
theorem dX1_castles_21 : decode cX1_castles 21 = .ok (.if_icmp .ne 16, 3) := by decide +kernel
theorem dX1_castles_24 : decode cX1_castles 24 = .ok (.iload 4, 2) := by decide +kernel
theorem dX1_castles_26 : decode cX1_castles 26 = .ok (.iconst 2, 1) := by decide +kernel
theorem dX1_castles_27 : decode cX1_castles 27 = .ok (.if_icmp .eq 12, 3) := by decide +kernel
theorem dX1_castles_30 : decode cX1_castles 30 = .ok (.iload 4, 2) := by decide +kernel
theorem dX1_castles_32 : decode cX1_castles 32 = .ok (.bipush (-2), 2) := by decide +kernel
theorem dX1_castles_34 : decode cX1_castles 34 = .ok (.if_icmp .eq 5, 3) := by decide +kernel
theorem dX1_castles_37 : decode cX1_castles 37 = .ok (.iconst 0, 1) := by decide +kernel
theorem dX1_castles_38 : decode cX1_castles 38 = .ok (.ireturn, 1) := by decide +kernel
theorem dX1_castles_39 : decode cX1_castles 39 = .ok (.iload 4, 2) := by decide +kernel
theorem dX1_castles_41 : decode cX1_castles 41 = .ok (.iconst 2, 1) := by decide +kernel
theorem dX1_castles_42 : decode cX1_castles 42 = .ok (.if_icmp .ne 7, 3) := by decide +kernel
theorem dX1_castles_45 : decode cX1_castles 45 = .ok (.iconst 1, 1) := by decide +kernel
theorem dX1_castles_46 : decode cX1_castles 46 = .ok (.goto 4, 3) := by decide +kernel
theorem dX1_castles_49 : decode cX1_castles 49 = .ok (.iconst 2, 1) := by decide +kernel
theorem dX1_castles_50 : decode cX1_castles 50 = .ok (.iconst 2, 1) := by decide +kernel
theorem dX1_castles_51 : decode cX1_castles 51 = .ok (.aload_n 0, 1) := by decide +kernel
theorem dX1_castles_52 : decode cX1_castles 52 = .ok (.getfield 34, 3) := by decide +kernel
theorem dX1_castles_55 : decode cX1_castles 55 = .ok (.imul, 1) := by decide +kernel
theorem dX1_castles_56 : decode cX1_castles 56 = .ok (.ishl, 1) := by decide +kernel
theorem dX1_castles_57 : decode cX1_castles 57 = .ok (.istore 5, 2) := by decide +kernel
theorem dX1_castles_59 : decode cX1_castles 59 = .ok (.iload 4, 2) := by decide +kernel
theorem dX1_castles_61 : decode cX1_castles 61 = .ok (.iconst 2, 1) := by decide +kernel
theorem dX1_castles_62 : decode cX1_castles 62 = .ok (.if_icmp .ne 9, 3) := by decide +kernel
theorem dX1_castles_65 : decode cX1_castles 65 = .ok (.iload_n 3, 1) := by decide +kernel
theorem dX1_castles_66 : decode cX1_castles 66 = .ok (.iconst 3, 1) := by decide +kernel
theorem dX1_castles_67 : decode cX1_castles 67 = .ok (.iadd, 1) := by decide +kernel
theorem dX1_castles_68 : decode cX1_castles 68 = .ok (.goto 6, 3) := by decide +kernel
theorem dX1_castles_71 : decode cX1_castles 71 = .ok (.iload_n 3, 1) := by decide +kernel
theorem dX1_castles_72 : decode cX1_castles 72 = .ok (.iconst 4, 1) := by decide +kernel
theorem dX1_castles_73 : decode cX1_castles 73 = .ok (.isub, 1) := by decide +kernel
theorem dX1_castles_74 : decode cX1_castles 74 = .ok (.istore 6, 2) := by decide +kernel
theorem dX1_castles_76 : decode cX1_castles 76 = .ok (.aload_n 0, 1) := by decide +kernel
theorem dX1_castles_77 : decode cX1_castles 77 = .ok (.getfield 37, 3) := by decide +kernel
theorem dX1_castles_80 : decode cX1_castles 80 = .ok (.iload 5, 2) := by decide +kernel
theorem dX1_castles_82 : decode cX1_castles 82 = .ok (.iand, 1) := by decide +kernel
theorem dX1_castles_83 : decode cX1_castles 83 = .ok (.ifCond .eq 36, 3) := by decide +kernel
theorem dX1_castles_86 : decode cX1_castles 86 = .ok (.aload_n 0, 1) := by decide +kernel
theorem dX1_castles_87 : decode cX1_castles 87 = .ok (.getfield 7, 3) := by decide +kernel
theorem dX1_castles_90 : decode cX1_castles 90 = .ok (.iload 6, 2) := by decide +kernel
theorem dX1_castles_92 : decode cX1_castles 92 = .ok (.iaload, 1) := by decide +kernel
theorem dX1_castles_93 : decode cX1_castles 93 = .ok (.iconst 4, 1) := by decide +kernel
theorem dX1_castles_94 : decode cX1_castles 94 = .ok (.bipush 6, 2) := by decide +kernel
theorem dX1_castles_96 : decode cX1_castles 96 = .ok (.aload_n 0, 1) := by decide +kernel
theorem dX1_castles_97 : decode cX1_castles 97 = .ok (.getfield 34, 3) := by decide +kernel
theorem dX1_castles_100 : decode cX1_castles 100 = .ok (.imul, 1) := by decide +kernel
theorem dX1_castles_101 : decode cX1_castles 101 = .ok (.iadd, 1) := by decide +kernel
theorem dX1_castles_102 : decode cX1_castles 102 = .ok (.if_icmp .ne 17, 3) := by decide +kernel
theorem dX1_castles_105 : decode cX1_castles 105 = .ok (.aload_n 0, 1) := by decide +kernel
theorem dX1_castles_106 : decode cX1_castles 106 = .ok (.iload_n 1, 1) := by decide +kernel
theorem dX1_castles_107 : decode cX1_castles 107 = .ok (.iload 6, 2) := by decide +kernel
theorem dX1_castles_109 : decode cX1_castles 109 = .ok (.invokevirtual 71, 3) := by decide +kernel
theorem dX1_castles_112 : decode cX1_castles 112 = .ok (.ifCond .eq 7, 3) := by decide +kernel
theorem dX1_castles_115 : decode cX1_castles 115 = .ok (.iconst 1, 1) := by decide +kernel
theorem dX1_castles_116 : decode cX1_castles 116 = .ok (.goto 4, 3) := by decide +kernel
theorem dX1_castles_119 : decode cX1_castles 119 = .ok (.iconst 0, 1) := by decide +kernel
theorem dX1_castles_120 : decode cX1_castles 120 = .ok (.ireturn, 1) := by decide +kernel
set_option maxRecDepth 20000 in
theorem ggX1_takesPassing_X1_attacks : GoodIn wsX1_takesPassing wsX1_attacks := goodIn_r _ [8, 3, 9, 10, 7, 11, 12, 13, 14, 15, 16, 17, 18, 19, 20, 21, 25, 26, 27, 28, 29, 30, 31, 32, 33, 34, 35] (by decide +kernel) (by decide +kernel)
set_option maxRecDepth 20000 in
theorem gX1_takesPassing_X1_attacks : GoodIn wsX1_takesPassing (wsV RX1 75 RX1 yX1_attacks wsX1_attacks) := goodIn_app (goodIn_of _ (by decide +kernel)) ggX1_takesPassing_X1_attacks
set_option maxRecDepth 20000 in
theorem ggX1_takesPassing_X1_isSquare : GoodIn wsX1_takesPassing wsX1_isSquare := goodIn_r _ [24] (by decide +kernel) (by decide +kernel)
set_option maxRecDepth 20000 in
theorem gX1_takesPassing_X1_isSquare : GoodIn wsX1_takesPassing (va_wsS RX1 53 yX1_isSquare wsX1_isSquare) := goodIn_app (goodIn_of _ (by decide +kernel)) ggX1_takesPassing_X1_isSquare
theorem dX1_takesPassing_0 : decode cX1_takesPassing 0 = .ok (.aload_n 0, 1) := by decide +kernel
theorem dX1_takesPassing_1 : decode cX1_takesPassing 1 = .ok (.getfield 34, 3) := by decide +kernel
theorem dX1_takesPassing_4 : decode cX1_takesPassing 4 = .ok (.ifCond .ne 10, 3) := by decide +kernel
theorem dX1_takesPassing_7 : decode cX1_takesPassing 7 = .ok (.iload_n 2, 1) := by decide +kernel
theorem dX1_takesPassing_8 : decode cX1_takesPassing 8 = .ok (.bipush 8, 2) := by decide +kernel
theorem dX1_takesPassing_10 : decode cX1_takesPassing 10 = .ok (.isub, 1) := by decide +kernel
theorem dX1_takesPassing_11 : decode cX1_takesPassing 11 = .ok (.goto 7, 3) := by decide +kernel
theorem dX1_takesPassing_14 : decode cX1_takesPassing 14 = .ok (.iload_n 2, 1) := by decide +kernel
theorem dX1_takesPassing_15 : decode cX1_takesPassing 15 = .ok (.bipush 8, 2) := by decide +kernel
theorem dX1_takesPassing_17 : decode cX1_takesPassing 17 = .ok (.iadd, 1) := by decide +kernel
theorem dX1_takesPassing_18 : decode cX1_takesPassing 18 = .ok (.istore_n 3, 1) := by decide +kernel
theorem dX1_takesPassing_19 : decode cX1_takesPassing 19 = .ok (.iload_n 2, 1) := by decide +kernel
theorem dX1_takesPassing_20 : decode cX1_takesPassing 20 = .ok (.aload_n 0, 1) := by decide +kernel
theorem dX1_takesPassing_21 : decode cX1_takesPassing 21 = .ok (.getfield 13, 3) := by decide +kernel
theorem dX1_takesPassing_24 : decode cX1_takesPassing 24 = .ok (.if_icmp .ne 62, 3) := by decide +kernel
theorem dX1_takesPassing_27 : decode cX1_takesPassing 27 = .ok (.aload_n 0, 1) := by decide +kernel
theorem dX1_takesPassing_28 : decode cX1_takesPassing 28 = .ok (.getfield 7, 3) := by decide +kernel
theorem dX1_takesPassing_31 : decode cX1_takesPassing 31 = .ok (.iload_n 2, 1) := by decide +kernel
theorem dX1_takesPassing_32 : decode cX1_takesPassing 32 = .ok (.iaload, 1) := by decide +kernel
theorem dX1_takesPassing_33 : decode cX1_takesPassing 33 = .ok (.ifCond .ne 53, 3) := by decide +kernel
theorem dX1_takesPassing_36 : decode cX1_takesPassing 36 = .ok (.aload_n 0, 1) := by decide +kernel
theorem dX1_takesPassing_37 : decode cX1_takesPassing 37 = .ok (.iload_n 1, 1) := by decide +kernel
theorem dX1_takesPassing_38 : decode cX1_takesPassing 38 = .ok (.iload_n 2, 1) := by decide +kernel
theorem dX1_takesPassing_39 : decode cX1_takesPassing 39 = .ok (.invokevirtual 75, 3) := by decide +kernel
theorem dX1_takesPassing_42 : decode cX1_takesPassing 42 = .ok (.ifCond .eq 44, 3) := by decide +kernel
theorem dX1_takesPassing_45 : decode cX1_takesPassing 45 = .ok (.iload_n 3, 1) := by decide +kernel
theorem dX1_takesPassing_46 : decode cX1_takesPassing 46 = .ok (.invokestatic 53, 3) := by decide +kernel
theorem dX1_takesPassing_49 : decode cX1_takesPassing 49 = .ok (.ifCond .eq 37, 3) := by decide +kernel
theorem dX1_takesPassing_52 : decode cX1_takesPassing 52 = .ok (.aload_n 0, 1) := by decide +kernel
theorem dX1_takesPassing_53 : decode cX1_takesPassing 53 = .ok (.getfield 7, 3) := by decide +kernel
theorem dX1_takesPassing_56 : decode cX1_takesPassing 56 = .ok (.iload_n 3, 1) := by decide +kernel
theorem dX1_takesPassing_57 : decode cX1_takesPassing 57 = .ok (.invokestatic 53, 3) := by decide +kernel
theorem dX1_takesPassing_60 : decode cX1_takesPassing 60 = .ok (.ifCond .eq 7, 3) := by decide +kernel
theorem dX1_takesPassing_63 : decode cX1_takesPassing 63 = .ok (.iload_n 3, 1) := by decide +kernel
theorem dX1_takesPassing_64 : decode cX1_takesPassing 64 = .ok (.goto 4, 3) := by decide +kernel
theorem dX1_takesPassing_67 : decode cX1_takesPassing 67 = .ok (.iconst 0, 1) := by decide +kernel
theorem dX1_takesPassing_68 : decode cX1_takesPassing 68 = .ok (.iaload, 1) := by decide +kernel
theorem dX1_takesPassing_69 : decode cX1_takesPassing 69 = .ok (.bipush 7, 2) := by decide +kernel
theorem dX1_takesPassing_71 : decode cX1_takesPassing 71 = .ok (.bipush 6, 2) := by decide +kernel
theorem dX1_takesPassing_73 : decode cX1_takesPassing 73 = .ok (.aload_n 0, 1) := by decide +kernel
theorem dX1_takesPassing_74 : decode cX1_takesPassing 74 = .ok (.getfield 34, 3) := by decide +kernel
theorem dX1_takesPassing_77 : decode cX1_takesPassing 77 = .ok (.imul, 1) := by decide +kernel
theorem dX1_takesPassing_78 : decode cX1_takesPassing 78 = .ok (.isub, 1) := by decide +kernel
theorem dX1_takesPassing_79 : decode cX1_takesPassing 79 = .ok (.if_icmp .ne 7, 3) := by decide +kernel
theorem dX1_takesPassing_82 : decode cX1_takesPassing 82 = .ok (.iconst 1, 1) := by decide +kernel
theorem dX1_takesPassing_83 : decode cX1_takesPassing 83 = .ok (.goto 4, 3) := by decide +kernel
theorem dX1_takesPassing_86 : decode cX1_takesPassing 86 = .ok (.iconst 0, 1) := by decide +kernel
theorem dX1_takesPassing_87 : decode cX1_takesPassing 87 = .ok (.ireturn, 1) := by decide +kernel
set_option maxRecDepth 20000 in
theorem ggX1_pawnGoes_X1_attacks : GoodIn wsX1_pawnGoes wsX1_attacks := goodIn_r _ [7, 2, 8, 9, 6, 10, 11, 12, 13, 14, 15, 16, 17, 18, 19, 20, 29, 30, 31, 32, 33, 34, 35, 36, 37, 38, 39] (by decide +kernel) (by decide +kernel)
set_option maxRecDepth 20000 in
theorem gX1_pawnGoes_X1_attacks : GoodIn wsX1_pawnGoes (wsV RX1 75 RX1 yX1_attacks wsX1_attacks) := goodIn_app (goodIn_of _ (by decide +kernel)) ggX1_pawnGoes_X1_attacks
set_option maxRecDepth 20000 in
theorem ggX1_pawnGoes_X1_sideOf : GoodIn wsX1_pawnGoes wsX1_sideOf := goodIn_r _ [16] (by decide +kernel) (by decide +kernel)
set_option maxRecDepth 20000 in
theorem gX1_pawnGoes_X1_sideOf : GoodIn wsX1_pawnGoes (va_wsS RX1 68 yX1_sideOf wsX1_sideOf) := goodIn_app (goodIn_of _ (by decide +kernel)) ggX1_pawnGoes_X1_sideOf
set_option maxRecDepth 20000 in
theorem ggX1_pawnGoes_X1_takesPassing : GoodIn wsX1_pawnGoes wsX1_takesPassing := goodIn_r _ [24, 1, 25, 2, 3, 4, 5, 6, 7, 8, 9, 10, 11, 12, 13, 14, 15, 16, 17, 18, 19, 20, 26, 27, 28, 29, 30, 31, 32, 33, 34, 35, 36, 37, 38, 39] (by decide +kernel) (by decide +kernel)
set_option maxRecDepth 20000 in
theorem gX1_pawnGoes_X1_takesPassing : GoodIn wsX1_pawnGoes (wsV RX1 81 RX1 yX1_takesPassing wsX1_takesPassing) := goodIn_app (goodIn_of _ (by decide +kernel)) ggX1_pawnGoes_X1_takesPassing
theorem dX1_pawnGoes_0 : decode cX1_pawnGoes 0 = .ok (.aload_n 0, 1) := by decide +kernel
theorem dX1_pawnGoes_1 : decode cX1_pawnGoes 1 = .ok (.getfield 34, 3) := by decide +kernel
theorem dX1_pawnGoes_4 : decode cX1_pawnGoes 4 = .ok (.ifCond .ne 8, 3) := by decide +kernel
theorem dX1_pawnGoes_7 : decode cX1_pawnGoes 7 = .ok (.bipush 8, 2) := by decide +kernel
theorem dX1_pawnGoes_9 : decode cX1_pawnGoes 9 = .ok (.goto 5, 3) := by decide +kernel
theorem dX1_pawnGoes_12 : decode cX1_pawnGoes 12 = .ok (.bipush (-8), 2) := by decide +kernel
theorem dX1_pawnGoes_14 : decode cX1_pawnGoes 14 = .ok (.istore_n 3, 1) := by decide +kernel
theorem dX1_pawnGoes_15 : decode cX1_pawnGoes 15 = .ok (.iload_n 2, 1) := by decide +kernel
theorem dX1_pawnGoes_16 : decode cX1_pawnGoes 16 = .ok (.iload_n 1, 1) := by decide +kernel
theorem dX1_pawnGoes_17 : decode cX1_pawnGoes 17 = .ok (.iload_n 3, 1) := by decide +kernel
theorem dX1_pawnGoes_18 : decode cX1_pawnGoes 18 = .ok (.iadd, 1) := by decide +kernel
theorem dX1_pawnGoes_19 : decode cX1_pawnGoes 19 = .ok (.if_icmp .ne 18, 3) := by decide +kernel
theorem dX1_pawnGoes_22 : decode cX1_pawnGoes 22 = .ok (.aload_n 0, 1) := by decide +kernel
theorem dX1_pawnGoes_23 : decode cX1_pawnGoes 23 = .ok (.getfield 7, 3) := by decide +kernel
theorem dX1_pawnGoes_26 : decode cX1_pawnGoes 26 = .ok (.iload_n 2, 1) := by decide +kernel
theorem dX1_pawnGoes_27 : decode cX1_pawnGoes 27 = .ok (.iaload, 1) := by decide +kernel
theorem dX1_pawnGoes_28 : decode cX1_pawnGoes 28 = .ok (.ifCond .ne 7, 3) := by decide +kernel
theorem dX1_pawnGoes_31 : decode cX1_pawnGoes 31 = .ok (.iconst 1, 1) := by decide +kernel
theorem dX1_pawnGoes_32 : decode cX1_pawnGoes 32 = .ok (.goto 4, 3) := by decide +kernel
theorem dX1_pawnGoes_35 : decode cX1_pawnGoes 35 = .ok (.iconst 0, 1) := by decide +kernel
theorem dX1_pawnGoes_36 : decode cX1_pawnGoes 36 = .ok (.ireturn, 1) := by decide +kernel
theorem dX1_pawnGoes_37 : decode cX1_pawnGoes 37 = .ok (.iload_n 2, 1) := by decide +kernel
theorem dX1_pawnGoes_38 : decode cX1_pawnGoes 38 = .ok (.iload_n 1, 1) := by decide +kernel
theorem dX1_pawnGoes_39 : decode cX1_pawnGoes 39 = .ok (.iconst 2, 1) := by decide +kernel
theorem dX1_pawnGoes_40 : decode cX1_pawnGoes 40 = .ok (.iload_n 3, 1) := by decide +kernel
theorem dX1_pawnGoes_41 : decode cX1_pawnGoes 41 = .ok (.imul, 1) := by decide +kernel
theorem dX1_pawnGoes_42 : decode cX1_pawnGoes 42 = .ok (.iadd, 1) := by decide +kernel
theorem dX1_pawnGoes_43 : decode cX1_pawnGoes 43 = .ok (.if_icmp .ne 49, 3) := by decide +kernel
theorem dX1_pawnGoes_46 : decode cX1_pawnGoes 46 = .ok (.iload_n 1, 1) := by decide +kernel
theorem dX1_pawnGoes_47 : decode cX1_pawnGoes 47 = .ok (.bipush 8, 2) := by decide +kernel
theorem dX1_pawnGoes_49 : decode cX1_pawnGoes 49 = .ok (.idiv, 1) := by decide +kernel
theorem dX1_pawnGoes_50 : decode cX1_pawnGoes 50 = .ok (.aload_n 0, 1) := by decide +kernel
theorem dX1_pawnGoes_51 : decode cX1_pawnGoes 51 = .ok (.getfield 34, 3) := by decide +kernel
theorem dX1_pawnGoes_54 : decode cX1_pawnGoes 54 = .ok (.ifCond .ne 7, 3) := by decide +kernel
theorem dX1_pawnGoes_57 : decode cX1_pawnGoes 57 = .ok (.iconst 1, 1) := by decide +kernel
theorem dX1_pawnGoes_58 : decode cX1_pawnGoes 58 = .ok (.goto 5, 3) := by decide +kernel
theorem dX1_pawnGoes_61 : decode cX1_pawnGoes 61 = .ok (.bipush 6, 2) := by decide +kernel
theorem dX1_pawnGoes_63 : decode cX1_pawnGoes 63 = .ok (.if_icmp .ne 27, 3) := by decide +kernel
theorem dX1_pawnGoes_66 : decode cX1_pawnGoes 66 = .ok (.aload_n 0, 1) := by decide +kernel
theorem dX1_pawnGoes_67 : decode cX1_pawnGoes 67 = .ok (.getfield 7, 3) := by decide +kernel
theorem dX1_pawnGoes_70 : decode cX1_pawnGoes 70 = .ok (.iload_n 1, 1) := by decide +kernel
theorem dX1_pawnGoes_71 : decode cX1_pawnGoes 71 = .ok (.iload_n 3, 1) := by decide +kernel
theorem dX1_pawnGoes_72 : decode cX1_pawnGoes 72 = .ok (.iadd, 1) := by decide +kernel
theorem dX1_pawnGoes_73 : decode cX1_pawnGoes 73 = .ok (.iaload, 1) := by decide +kernel
theorem dX1_pawnGoes_74 : decode cX1_pawnGoes 74 = .ok (.ifCond .ne 16, 3) := by decide +kernel
theorem dX1_pawnGoes_77 : decode cX1_pawnGoes 77 = .ok (.aload_n 0, 1) := by decide +kernel
theorem dX1_pawnGoes_78 : decode cX1_pawnGoes 78 = .ok (.getfield 7, 3) := by decide +kernel
theorem dX1_pawnGoes_81 : decode cX1_pawnGoes 81 = .ok (.iload_n 2, 1) := by decide +kernel
theorem dX1_pawnGoes_82 : decode cX1_pawnGoes 82 = .ok (.iaload, 1) := by decide +kernel
theorem dX1_pawnGoes_83 : decode cX1_pawnGoes 83 = .ok (.ifCond .ne 7, 3) := by decide +kernel
theorem dX1_pawnGoes_86 : decode cX1_pawnGoes 86 = .ok (.iconst 1, 1) := by decide +kernel
theorem dX1_pawnGoes_87 : decode cX1_pawnGoes 87 = .ok (.goto 4, 3) := by decide +kernel
theorem dX1_pawnGoes_90 : decode cX1_pawnGoes 90 = .ok (.iconst 0, 1) := by decide +kernel
theorem dX1_pawnGoes_91 : decode cX1_pawnGoes 91 = .ok (.ireturn, 1) := by decide +kernel
theorem dX1_pawnGoes_92 : decode cX1_pawnGoes 92 = .ok (.aload_n 0, 1) := by decide +kernel
theorem dX1_pawnGoes_93 : decode cX1_pawnGoes 93 = .ok (.iload_n 1, 1) := by decide +kernel
theorem dX1_pawnGoes_94 : decode cX1_pawnGoes 94 = .ok (.iload_n 2, 1) := by decide +kernel
theorem dX1_pawnGoes_95 : decode cX1_pawnGoes 95 = .ok (.invokevirtual 75, 3) := by decide +kernel
theorem dX1_pawnGoes_98 : decode cX1_pawnGoes 98 = .ok (.ifCond .eq 21, 3) := by decide +kernel
theorem dX1_pawnGoes_101 : decode cX1_pawnGoes 101 = .ok (.aload_n 0, 1) := by decide +kernel
theorem dX1_pawnGoes_102 : decode cX1_pawnGoes 102 = .ok (.getfield 7, 3) := by decide +kernel
theorem dX1_pawnGoes_105 : decode cX1_pawnGoes 105 = .ok (.iload_n 2, 1) := by decide +kernel
theorem dX1_pawnGoes_106 : decode cX1_pawnGoes 106 = .ok (.iaload, 1) := by decide +kernel
theorem dX1_pawnGoes_107 : decode cX1_pawnGoes 107 = .ok (.invokestatic 68, 3) := by decide +kernel
theorem dX1_pawnGoes_110 : decode cX1_pawnGoes 110 = .ok (.iconst 1, 1) := by decide +kernel
theorem dX1_pawnGoes_111 : decode cX1_pawnGoes 111 = .ok (.aload_n 0, 1) := by decide +kernel
theorem dX1_pawnGoes_112 : decode cX1_pawnGoes 112 = .ok (.getfield 34, 3) := by decide +kernel
theorem dX1_pawnGoes_115 : decode cX1_pawnGoes 115 = .ok (.isub, 1) := by decide +kernel
theorem dX1_pawnGoes_116 : decode cX1_pawnGoes 116 = .ok (.if_icmp .eq 12, 3) := by decide +kernel
theorem dX1_pawnGoes_119 : decode cX1_pawnGoes 119 = .ok (.aload_n 0, 1) := by decide +kernel
theorem dX1_pawnGoes_120 : decode cX1_pawnGoes 120 = .ok (.iload_n 1, 1) := by decide +kernel
theorem dX1_pawnGoes_121 : decode cX1_pawnGoes 121 = .ok (.iload_n 2, 1) := by decide +kernel
theorem dX1_pawnGoes_122 : decode cX1_pawnGoes 122 = .ok (.invokevirtual 81, 3) := by decide +kernel
theorem dX1_pawnGoes_125 : decode cX1_pawnGoes 125 = .ok (.ifCond .eq 7, 3) := by decide +kernel
theorem dX1_pawnGoes_128 : decode cX1_pawnGoes 128 = .ok (.iconst 1, 1) := by decide +kernel
theorem dX1_pawnGoes_129 : decode cX1_pawnGoes 129 = .ok (.goto 4, 3) := by decide +kernel
theorem dX1_pawnGoes_132 : decode cX1_pawnGoes 132 = .ok (.iconst 0, 1) := by decide +kernel
theorem dX1_pawnGoes_133 : decode cX1_pawnGoes 133 = .ok (.ireturn, 1) := by decide +kernel
set_option maxRecDepth 20000 in
theorem ggX1_isMove_X1_kindOf : GoodIn wsX1_isMove wsX1_kindOf := goodIn_r _ [6] (by decide +kernel) (by decide +kernel)
set_option maxRecDepth 20000 in
theorem gX1_isMove_X1_kindOf : GoodIn wsX1_isMove (va_wsS RX1 61 yX1_kindOf wsX1_kindOf) := goodIn_app (goodIn_of _ (by decide +kernel)) ggX1_isMove_X1_kindOf
set_option maxRecDepth 20000 in
theorem ggX1_isMove_X1_sideOf : GoodIn wsX1_isMove wsX1_sideOf := goodIn_r _ [9] (by decide +kernel) (by decide +kernel)
set_option maxRecDepth 20000 in
theorem gX1_isMove_X1_sideOf : GoodIn wsX1_isMove (va_wsS RX1 68 yX1_sideOf wsX1_sideOf) := goodIn_app (goodIn_of _ (by decide +kernel)) ggX1_isMove_X1_sideOf
set_option maxRecDepth 20000 in
theorem ggX1_isMove_X1_pawnGoes : GoodIn wsX1_isMove wsX1_pawnGoes := goodIn_r _ [13, 2, 1, 14, 15, 16, 5, 17, 3, 4, 6, 18, 19, 20, 7, 8, 9, 21, 22, 23, 24, 25, 26, 27, 28, 29, 30, 31, 32, 38, 39, 40, 41, 42, 43, 44, 45, 46, 47, 48] (by decide +kernel) (by decide +kernel)
set_option maxRecDepth 20000 in
theorem gX1_isMove_X1_pawnGoes : GoodIn wsX1_isMove (wsV RX1 84 RX1 yX1_pawnGoes wsX1_pawnGoes) := goodIn_app (goodIn_of _ (by decide +kernel)) ggX1_isMove_X1_pawnGoes
set_option maxRecDepth 20000 in
theorem ggX1_isMove_X1_attacks : GoodIn wsX1_isMove wsX1_attacks := goodIn_r _ [17, 1, 3, 4, 5, 6, 18, 19, 20, 7, 8, 9, 21, 22, 23, 24, 38, 39, 40, 41, 42, 43, 44, 45, 46, 47, 48] (by decide +kernel) (by decide +kernel)
set_option maxRecDepth 20000 in
theorem gX1_isMove_X1_attacks : GoodIn wsX1_isMove (wsV RX1 75 RX1 yX1_attacks wsX1_attacks) := goodIn_app (goodIn_of _ (by decide +kernel)) ggX1_isMove_X1_attacks
set_option maxRecDepth 20000 in
theorem ggX1_isMove_X1_castles : GoodIn wsX1_isMove wsX1_castles := goodIn_r _ [36, 2, 37, 1, 21, 22, 23, 5, 24, 38, 39, 40, 41, 42, 43, 44, 45, 46, 47, 48] (by decide +kernel) (by decide +kernel)
set_option maxRecDepth 20000 in
theorem gX1_isMove_X1_castles : GoodIn wsX1_isMove (wsV RX1 87 RX1 yX1_castles wsX1_castles) := goodIn_app (goodIn_of _ (by decide +kernel)) ggX1_isMove_X1_castles
theorem dX1_isMove_0 : decode cX1_isMove 0 = .ok (.iload_n 1, 1) := by decide +kernel
theorem dX1_isMove_1 : decode cX1_isMove 1 = .ok (.bipush 64, 2) := by decide +kernel
theorem dX1_isMove_3 : decode cX1_isMove 3 = .ok (.irem, 1) := by decide +kernel
theorem dX1_isMove_4 : decode cX1_isMove 4 = .ok (.istore_n 2, 1) := by decide +kernel
theorem dX1_isMove_5 : decode cX1_isMove 5 = .ok (.iload_n 1, 1) := by decide +kernel
theorem dX1_isMove_6 : decode cX1_isMove 6 = .ok (.bipush 64, 2) := by decide +kernel
theorem dX1_isMove_8 : decode cX1_isMove 8 = .ok (.idiv, 1) := by decide +kernel
theorem dX1_isMove_9 : decode cX1_isMove 9 = .ok (.bipush 64, 2) := by decide +kernel
theorem dX1_isMove_11 : decode cX1_isMove 11 = .ok (.irem, 1) := by decide +kernel
theorem dX1_isMove_12 : decode cX1_isMove 12 = .ok (.istore_n 3, 1) := by decide +kernel
theorem dX1_isMove_13 : decode cX1_isMove 13 = .ok (.iload_n 1, 1) := by decide +kernel
theorem dX1_isMove_14 : decode cX1_isMove 14 = .ok (.sipush 4096, 3) := by decide +kernel
theorem dX1_isMove_17 : decode cX1_isMove 17 = .ok (.idiv, 1) := by decide +kernel
theorem dX1_isMove_18 : decode cX1_isMove 18 = .ok (.istore 4, 2) := by decide +kernel
theorem dX1_isMove_20 : decode cX1_isMove 20 = .ok (.iload_n 1, 1) := by decide +kernel
theorem dX1_isMove_21 : decode cX1_isMove 21 = .ok (.ifCond .lt 20, 3) := by decide +kernel
theorem dX1_isMove_24 : decode cX1_isMove 24 = .ok (.iload 4, 2) := by decide +kernel
theorem dX1_isMove_26 : decode cX1_isMove 26 = .ok (.iconst 5, 1) := by decide +kernel
theorem dX1_isMove_27 : decode cX1_isMove 27 = .ok (.if_icmp .gt 14, 3) := by decide +kernel
theorem dX1_isMove_30 : decode cX1_isMove 30 = .ok (.iload 4, 2) := by decide +kernel
theorem dX1_isMove_32 : decode cX1_isMove 32 = .ok (.iconst 1, 1) := by decide +kernel
theorem dX1_isMove_33 : decode cX1_isMove 33 = .ok (.if_icmp .eq 8, 3) := by decide +kernel
theorem dX1_isMove_36 : decode cX1_isMove 36 = .ok (.iload_n 2, 1) := by decide +kernel
theorem dX1_isMove_37 : decode cX1_isMove 37 = .ok (.iload_n 3, 1) := by decide +kernel
theorem dX1_isMove_38 : decode cX1_isMove 38 = .ok (.if_icmp .ne 5, 3) := by decide +kernel
theorem dX1_isMove_41 : decode cX1_isMove 41 = .ok (.iconst 0, 1) := by decide +kernel
theorem dX1_isMove_42 : decode cX1_isMove 42 = .ok (.ireturn, 1) := by decide +kernel
theorem dX1_isMove_43 : decode cX1_isMove 43 = .ok (.aload_n 0, 1) := by decide +kernel
theorem dX1_isMove_44 : decode cX1_isMove 44 = .ok (.getfield 7, 3) := by decide +kernel
theorem dX1_isMove_47 : decode cX1_isMove 47 = .ok (.iload_n 2, 1) := by decide +kernel
theorem dX1_isMove_48 : decode cX1_isMove 48 = .ok (.iaload, 1) := by decide +kernel
theorem dX1_isMove_49 : decode cX1_isMove 49 = .ok (.invokestatic 61, 3) := by decide +kernel
theorem dX1_isMove_52 : decode cX1_isMove 52 = .ok (.iconst 1, 1) := by decide +kernel
theorem dX1_isMove_53 : decode cX1_isMove 53 = .ok (.if_icmp .ne 27, 3) := by decide +kernel
theorem dX1_isMove_56 : decode cX1_isMove 56 = .ok (.iload_n 3, 1) := by decide +kernel
theorem dX1_isMove_57 : decode cX1_isMove 57 = .ok (.bipush 8, 2) := by decide +kernel
theorem dX1_isMove_59 : decode cX1_isMove 59 = .ok (.idiv, 1) := by decide +kernel
theorem dX1_isMove_60 : decode cX1_isMove 60 = .ok (.aload_n 0, 1) := by decide +kernel
theorem dX1_isMove_61 : decode cX1_isMove 61 = .ok (.getfield 34, 3) := by decide +kernel
theorem dX1_isMove_64 : decode cX1_isMove 64 = .ok (.ifCond .ne 8, 3) := by decide +kernel
theorem dX1_isMove_67 : decode cX1_isMove 67 = .ok (.bipush 7, 2) := by decide +kernel
theorem dX1_isMove_69 : decode cX1_isMove 69 = .ok (.goto 4, 3) := by decide +kernel
theorem dX1_isMove_72 : decode cX1_isMove 72 = .ok (.iconst 0, 1) := by decide +kernel
theorem dX1_isMove_73 : decode cX1_isMove 73 = .ok (.if_icmp .ne 7, 3) := by decide +kernel
theorem dX1_isMove_76 : decode cX1_isMove 76 = .ok (.iconst 1, 1) := by decide +kernel
theorem dX1_isMove_77 : decode cX1_isMove 77 = .ok (.goto 4, 3) := by decide +kernel
theorem dX1_isMove_80 : decode cX1_isMove 80 = .ok (.iconst 0, 1) := by decide +kernel
theorem dX1_isMove_81 : decode cX1_isMove 81 = .ok (.istore 5, 2) := by decide +kernel
theorem dX1_isMove_83 : decode cX1_isMove 83 = .ok (.aload_n 0, 1) := by decide +kernel
theorem dX1_isMove_84 : decode cX1_isMove 84 = .ok (.getfield 7, 3) := by decide +kernel
theorem dX1_isMove_87 : decode cX1_isMove 87 = .ok (.iload_n 2, 1) := by decide +kernel
theorem dX1_isMove_88 : decode cX1_isMove 88 = .ok (.iaload, 1) := by decide +kernel
theorem dX1_isMove_89 : decode cX1_isMove 89 = .ok (.invokestatic 68, 3) := by decide +kernel
theorem dX1_isMove_92 : decode cX1_isMove 92 = .ok (.aload_n 0, 1) := by decide +kernel
theorem dX1_isMove_93 : decode cX1_isMove 93 = .ok (.getfield 34, 3) := by decide +kernel
theorem dX1_isMove_96 : decode cX1_isMove 96 = .ok (.if_icmp .ne 49, 3) := by decide +kernel
theorem dX1_isMove_99 : decode cX1_isMove 99 = .ok (.aload_n 0, 1) := by decide +kernel
theorem dX1_isMove_100 : decode cX1_isMove 100 = .ok (.getfield 7, 3) := by decide +kernel
theorem dX1_isMove_103 : decode cX1_isMove 103 = .ok (.iload_n 3, 1) := by decide +kernel
theorem dX1_isMove_104 : decode cX1_isMove 104 = .ok (.iaload, 1) := by decide +kernel
theorem dX1_isMove_105 : decode cX1_isMove 105 = .ok (.invokestatic 68, 3) := by decide +kernel
theorem dX1_isMove_108 : decode cX1_isMove 108 = .ok (.aload_n 0, 1) := by decide +kernel
theorem dX1_isMove_109 : decode cX1_isMove 109 = .ok (.getfield 34, 3) := by decide +kernel
theorem dX1_isMove_112 : decode cX1_isMove 112 = .ok (.if_icmp .eq 33, 3) := by decide +kernel
theorem dX1_isMove_115 : decode cX1_isMove 115 = .ok (.aload_n 0, 1) := by decide +kernel
theorem dX1_isMove_116 : decode cX1_isMove 116 = .ok (.getfield 7, 3) := by decide +kernel
theorem dX1_isMove_119 : decode cX1_isMove 119 = .ok (.iload_n 3, 1) := by decide +kernel
theorem dX1_isMove_120 : decode cX1_isMove 120 = .ok (.iaload, 1) := by decide +kernel
theorem dX1_isMove_121 : decode cX1_isMove 121 = .ok (.invokestatic 61, 3) := by decide +kernel
theorem dX1_isMove_124 : decode cX1_isMove 124 = .ok (.bipush 6, 2) := by decide +kernel
theorem dX1_isMove_126 : decode cX1_isMove 126 = .ok (.if_icmp .eq 19, 3) := by decide +kernel
theorem dX1_isMove_129 : decode cX1_isMove 129 = .ok (.iload 5, 2) := by decide +kernel
theorem dX1_isMove_131 : decode cX1_isMove 131 = .ok (.iload 4, 2) := by decide +kernel
theorem dX1_isMove_133 : decode cX1_isMove 133 = .ok (.iconst 1, 1) := by decide +kernel
theorem dX1_isMove_134 : decode cX1_isMove 134 = .ok (.if_icmp .le 7, 3) := by decide +kernel
theorem dX1_isMove_137 : decode cX1_isMove 137 = .ok (.iconst 1, 1) := by decide +kernel
theorem dX1_isMove_138 : decode cX1_isMove 138 = .ok (.goto 4, 3) := by decide +kernel
theorem dX1_isMove_141 : decode cX1_isMove 141 = .ok (.iconst 0, 1) := by decide +kernel
theorem dX1_isMove_142 : decode cX1_isMove 142 = .ok (.if_icmp .eq 5, 3) := by decide +kernel
theorem dX1_isMove_145 : decode cX1_isMove 145 = .ok (.iconst 0, 1) := by decide +kernel
theorem dX1_isMove_146 : decode cX1_isMove 146 = .ok (.ireturn, 1) := by decide +kernel
theorem dX1_isMove_147 : decode cX1_isMove 147 = .ok (.aload_n 0, 1) := by decide +kernel
theorem dX1_isMove_148 : decode cX1_isMove 148 = .ok (.getfield 7, 3) := by decide +kernel
theorem dX1_isMove_151 : decode cX1_isMove 151 = .ok (.iload_n 2, 1) := by decide +kernel
theorem dX1_isMove_152 : decode cX1_isMove 152 = .ok (.iaload, 1) := by decide +kernel
theorem dX1_isMove_153 : decode cX1_isMove 153 = .ok (.invokestatic 61, 3) := by decide +kernel
theorem dX1_isMove_156 : decode cX1_isMove 156 = .ok (.iconst 1, 1) := by decide +kernel
end
section
theorem dX1_isMove_157 : decode cX1_isMove 157 = .ok (.if_icmp .ne 10, 3) := by decide +kernel
theorem dX1_isMove_160 : decode cX1_isMove 160 = .ok (.aload_n 0, 1) := by decide +kernel
theorem dX1_isMove_161 : decode cX1_isMove 161 = .ok (.iload_n 2, 1) := by decide +kernel
theorem dX1_isMove_162 : decode cX1_isMove 162 = .ok (.iload_n 3, 1) := by decide +kernel
theorem dX1_isMove_163 : decode cX1_isMove 163 = .ok (.invokevirtual 84, 3) := by decide +kernel
theorem dX1_isMove_166 : decode cX1_isMove 166 = .ok (.ireturn, 1) := by decide +kernel
theorem dX1_isMove_167 : decode cX1_isMove 167 = .ok (.aload_n 0, 1) := by decide +kernel
theorem dX1_isMove_168 : decode cX1_isMove 168 = .ok (.iload_n 2, 1) := by decide +kernel
theorem dX1_isMove_169 : decode cX1_isMove 169 = .ok (.iload_n 3, 1) := by decide +kernel
theorem dX1_isMove_170 : decode cX1_isMove 170 = .ok (.invokevirtual 75, 3) := by decide +kernel
theorem dX1_isMove_173 : decode cX1_isMove 173 = .ok (.ifCond .ne 26, 3) := by decide +kernel
theorem dX1_isMove_176 : decode cX1_isMove 176 = .ok (.aload_n 0, 1) := by decide +kernel
theorem dX1_isMove_177 : decode cX1_isMove 177 = .ok (.getfield 7, 3) := by decide +kernel
theorem dX1_isMove_180 : decode cX1_isMove 180 = .ok (.iload_n 2, 1) := by decide +kernel
theorem dX1_isMove_181 : decode cX1_isMove 181 = .ok (.iaload, 1) := by decide +kernel
theorem dX1_isMove_182 : decode cX1_isMove 182 = .ok (.invokestatic 61, 3) := by decide +kernel
theorem dX1_isMove_185 : decode cX1_isMove 185 = .ok (.bipush 6, 2) := by decide +kernel
theorem dX1_isMove_187 : decode cX1_isMove 187 = .ok (.if_icmp .ne 16, 3) := by decide +kernel
theorem dX1_isMove_190 : decode cX1_isMove 190 = .ok (.aload_n 0, 1) := by decide +kernel
theorem dX1_isMove_191 : decode cX1_isMove 191 = .ok (.iload_n 2, 1) := by decide +kernel
theorem dX1_isMove_192 : decode cX1_isMove 192 = .ok (.iload_n 3, 1) := by decide +kernel
theorem dX1_isMove_193 : decode cX1_isMove 193 = .ok (.invokevirtual 87, 3) := by decide +kernel
theorem dX1_isMove_196 : decode cX1_isMove 196 = .ok (.ifCond .eq 7, 3) := by decide +kernel
theorem dX1_isMove_199 : decode cX1_isMove 199 = .ok (.iconst 1, 1) := by decide +kernel
theorem dX1_isMove_200 : decode cX1_isMove 200 = .ok (.goto 4, 3) := by decide +kernel
theorem dX1_isMove_203 : decode cX1_isMove 203 = .ok (.iconst 0, 1) := by decide +kernel
theorem dX1_isMove_204 : decode cX1_isMove 204 = .ok (.ireturn, 1) := by decide +kernel
set_option maxRecDepth 20000 in
theorem ggX1_fits_X1_isMove : GoodIn wsX1_fits wsX1_isMove := goodIn_r _ [6, 7, 8, 9, 10, 5, 11, 12, 13, 14, 15, 16, 17, 18, 19, 20, 21, 22, 23, 24, 25, 26, 27, 28, 29, 30, 31, 32, 33, 34, 35, 36, 37, 38, 39, 40, 41, 42, 43, 44, 45, 46, 47, 48, 49, 50, 51, 52, 53] (by decide +kernel) (by decide +kernel)
set_option maxRecDepth 20000 in
theorem gX1_fits_X1_isMove : GoodIn wsX1_fits (wsV RX1 90 RX1 yX1_isMove wsX1_isMove) := goodIn_app (goodIn_of _ (by decide +kernel)) ggX1_fits_X1_isMove
theorem dX1_fits_0 : decode cX1_fits 0 = .ok (.aload_n 0, 1) := by decide +kernel
theorem dX1_fits_1 : decode cX1_fits 1 = .ok (.iconst 0, 1) := by decide +kernel
theorem dX1_fits_2 : decode cX1_fits 2 = .ok (.putfield 31, 3) := by decide +kernel
theorem dX1_fits_5 : decode cX1_fits 5 = .ok (.aload_n 0, 1) := by decide +kernel
theorem dX1_fits_6 : decode cX1_fits 6 = .ok (.iload_n 1, 1) := by decide +kernel
theorem dX1_fits_7 : decode cX1_fits 7 = .ok (.invokevirtual 90, 3) := by decide +kernel
theorem dX1_fits_10 : decode cX1_fits 10 = .ok (.ireturn, 1) := by decide +kernel
theorem dX1_keep_0 : decode cX1_keep 0 = .ok (.iconst 0, 1) := by decide +kernel
theorem dX1_keep_1 : decode cX1_keep 1 = .ok (.istore_n 2, 1) := by decide +kernel
theorem dX1_keep_2 : decode cX1_keep 2 = .ok (.iload_n 2, 1) := by decide +kernel
theorem dX1_keep_3 : decode cX1_keep 3 = .ok (.bipush 64, 2) := by decide +kernel
theorem dX1_keep_5 : decode cX1_keep 5 = .ok (.if_icmp .ge 30, 3) := by decide +kernel
theorem dX1_keep_8 : decode cX1_keep 8 = .ok (.aload_n 0, 1) := by decide +kernel
theorem dX1_keep_9 : decode cX1_keep 9 = .ok (.getfield 24, 3) := by decide +kernel
theorem dX1_keep_12 : decode cX1_keep 12 = .ok (.bipush 64, 2) := by decide +kernel
theorem dX1_keep_14 : decode cX1_keep 14 = .ok (.aload_n 0, 1) := by decide +kernel
theorem dX1_keep_15 : decode cX1_keep 15 = .ok (.getfield 43, 3) := by decide +kernel
theorem dX1_keep_18 : decode cX1_keep 18 = .ok (.imul, 1) := by decide +kernel
theorem dX1_keep_19 : decode cX1_keep 19 = .ok (.iload_n 2, 1) := by decide +kernel
theorem dX1_keep_20 : decode cX1_keep 20 = .ok (.iadd, 1) := by decide +kernel
theorem dX1_keep_21 : decode cX1_keep 21 = .ok (.aload_n 0, 1) := by decide +kernel
theorem dX1_keep_22 : decode cX1_keep 22 = .ok (.getfield 7, 3) := by decide +kernel
theorem dX1_keep_25 : decode cX1_keep 25 = .ok (.iload_n 2, 1) := by decide +kernel
theorem dX1_keep_26 : decode cX1_keep 26 = .ok (.iaload, 1) := by decide +kernel
theorem dX1_keep_27 : decode cX1_keep 27 = .ok (.i2b, 1) := by decide +kernel
theorem dX1_keep_28 : decode cX1_keep 28 = .ok (.bastore, 1) := by decide +kernel
theorem dX1_keep_29 : decode cX1_keep 29 = .ok (.iinc 2 1, 3) := by decide +kernel
theorem dX1_keep_32 : decode cX1_keep 32 = .ok (.goto (-30), 3) := by decide +kernel
theorem dX1_keep_35 : decode cX1_keep 35 = .ok (.aload_n 0, 1) := by decide +kernel
theorem dX1_keep_36 : decode cX1_keep 36 = .ok (.getfield 28, 3) := by decide +kernel
theorem dX1_keep_39 : decode cX1_keep 39 = .ok (.iconst 5, 1) := by decide +kernel
theorem dX1_keep_40 : decode cX1_keep 40 = .ok (.aload_n 0, 1) := by decide +kernel
theorem dX1_keep_41 : decode cX1_keep 41 = .ok (.getfield 43, 3) := by decide +kernel
theorem dX1_keep_44 : decode cX1_keep 44 = .ok (.imul, 1) := by decide +kernel
theorem dX1_keep_45 : decode cX1_keep 45 = .ok (.aload_n 0, 1) := by decide +kernel
theorem dX1_keep_46 : decode cX1_keep 46 = .ok (.getfield 34, 3) := by decide +kernel
theorem dX1_keep_49 : decode cX1_keep 49 = .ok (.iastore, 1) := by decide +kernel
theorem dX1_keep_50 : decode cX1_keep 50 = .ok (.aload_n 0, 1) := by decide +kernel
theorem dX1_keep_51 : decode cX1_keep 51 = .ok (.getfield 28, 3) := by decide +kernel
theorem dX1_keep_54 : decode cX1_keep 54 = .ok (.iconst 5, 1) := by decide +kernel
theorem dX1_keep_55 : decode cX1_keep 55 = .ok (.aload_n 0, 1) := by decide +kernel
theorem dX1_keep_56 : decode cX1_keep 56 = .ok (.getfield 43, 3) := by decide +kernel
theorem dX1_keep_59 : decode cX1_keep 59 = .ok (.imul, 1) := by decide +kernel
theorem dX1_keep_60 : decode cX1_keep 60 = .ok (.iconst 1, 1) := by decide +kernel
theorem dX1_keep_61 : decode cX1_keep 61 = .ok (.iadd, 1) := by decide +kernel
theorem dX1_keep_62 : decode cX1_keep 62 = .ok (.aload_n 0, 1) := by decide +kernel
theorem dX1_keep_63 : decode cX1_keep 63 = .ok (.getfield 37, 3) := by decide +kernel
theorem dX1_keep_66 : decode cX1_keep 66 = .ok (.iastore, 1) := by decide +kernel
theorem dX1_keep_67 : decode cX1_keep 67 = .ok (.aload_n 0, 1) := by decide +kernel
theorem dX1_keep_68 : decode cX1_keep 68 = .ok (.getfield 28, 3) := by decide +kernel
theorem dX1_keep_71 : decode cX1_keep 71 = .ok (.iconst 5, 1) := by decide +kernel
theorem dX1_keep_72 : decode cX1_keep 72 = .ok (.aload_n 0, 1) := by decide +kernel
theorem dX1_keep_73 : decode cX1_keep 73 = .ok (.getfield 43, 3) := by decide +kernel
theorem dX1_keep_76 : decode cX1_keep 76 = .ok (.imul, 1) := by decide +kernel
theorem dX1_keep_77 : decode cX1_keep 77 = .ok (.iconst 2, 1) := by decide +kernel
theorem dX1_keep_78 : decode cX1_keep 78 = .ok (.iadd, 1) := by decide +kernel
theorem dX1_keep_79 : decode cX1_keep 79 = .ok (.aload_n 0, 1) := by decide +kernel
theorem dX1_keep_80 : decode cX1_keep 80 = .ok (.getfield 13, 3) := by decide +kernel
theorem dX1_keep_83 : decode cX1_keep 83 = .ok (.iastore, 1) := by decide +kernel
theorem dX1_keep_84 : decode cX1_keep 84 = .ok (.aload_n 0, 1) := by decide +kernel
theorem dX1_keep_85 : decode cX1_keep 85 = .ok (.getfield 28, 3) := by decide +kernel
theorem dX1_keep_88 : decode cX1_keep 88 = .ok (.iconst 5, 1) := by decide +kernel
theorem dX1_keep_89 : decode cX1_keep 89 = .ok (.aload_n 0, 1) := by decide +kernel
theorem dX1_keep_90 : decode cX1_keep 90 = .ok (.getfield 43, 3) := by decide +kernel
theorem dX1_keep_93 : decode cX1_keep 93 = .ok (.imul, 1) := by decide +kernel
theorem dX1_keep_94 : decode cX1_keep 94 = .ok (.iconst 3, 1) := by decide +kernel
theorem dX1_keep_95 : decode cX1_keep 95 = .ok (.iadd, 1) := by decide +kernel
theorem dX1_keep_96 : decode cX1_keep 96 = .ok (.aload_n 0, 1) := by decide +kernel
theorem dX1_keep_97 : decode cX1_keep 97 = .ok (.getfield 40, 3) := by decide +kernel
theorem dX1_keep_100 : decode cX1_keep 100 = .ok (.iastore, 1) := by decide +kernel
theorem dX1_keep_101 : decode cX1_keep 101 = .ok (.aload_n 0, 1) := by decide +kernel
theorem dX1_keep_102 : decode cX1_keep 102 = .ok (.getfield 28, 3) := by decide +kernel
theorem dX1_keep_105 : decode cX1_keep 105 = .ok (.iconst 5, 1) := by decide +kernel
theorem dX1_keep_106 : decode cX1_keep 106 = .ok (.aload_n 0, 1) := by decide +kernel
theorem dX1_keep_107 : decode cX1_keep 107 = .ok (.getfield 43, 3) := by decide +kernel
theorem dX1_keep_110 : decode cX1_keep 110 = .ok (.imul, 1) := by decide +kernel
theorem dX1_keep_111 : decode cX1_keep 111 = .ok (.iconst 4, 1) := by decide +kernel
theorem dX1_keep_112 : decode cX1_keep 112 = .ok (.iadd, 1) := by decide +kernel
theorem dX1_keep_113 : decode cX1_keep 113 = .ok (.aload_n 0, 1) := by decide +kernel
theorem dX1_keep_114 : decode cX1_keep 114 = .ok (.getfield 17, 3) := by decide +kernel
theorem dX1_keep_117 : decode cX1_keep 117 = .ok (.iastore, 1) := by decide +kernel
theorem dX1_keep_118 : decode cX1_keep 118 = .ok (.aload_n 0, 1) := by decide +kernel
theorem dX1_keep_119 : decode cX1_keep 119 = .ok (.getfield 20, 3) := by decide +kernel
theorem dX1_keep_122 : decode cX1_keep 122 = .ok (.aload_n 0, 1) := by decide +kernel
theorem dX1_keep_123 : decode cX1_keep 123 = .ok (.getfield 43, 3) := by decide +kernel
theorem dX1_keep_126 : decode cX1_keep 126 = .ok (.iload_n 1, 1) := by decide +kernel
theorem dX1_keep_127 : decode cX1_keep 127 = .ok (.iastore, 1) := by decide +kernel
theorem dX1_keep_128 : decode cX1_keep 128 = .ok (.aload_n 0, 1) := by decide +kernel
theorem dX1_keep_129 : decode cX1_keep 129 = .ok (.dup, 1) := by decide +kernel
theorem dX1_keep_130 : decode cX1_keep 130 = .ok (.getfield 43, 3) := by decide +kernel
theorem dX1_keep_133 : decode cX1_keep 133 = .ok (.iconst 1, 1) := by decide +kernel
theorem dX1_keep_134 : decode cX1_keep 134 = .ok (.iadd, 1) := by decide +kernel
theorem dX1_keep_135 : decode cX1_keep 135 = .ok (.putfield 43, 3) := by decide +kernel
theorem dX1_keep_138 : decode cX1_keep 138 = .ok (.return_, 1) := by decide +kernel
theorem dX1_corner_0 : decode cX1_corner 0 = .ok (.iload_n 0, 1) := by decide +kernel
theorem dX1_corner_1 : decode cX1_corner 1 = .ok (.bipush 7, 2) := by decide +kernel
theorem dX1_corner_3 : decode cX1_corner 3 = .ok (.if_icmp .ne 7, 3) := by decide +kernel
theorem dX1_corner_6 : decode cX1_corner 6 = .ok (.iconst 1, 1) := by decide +kernel
theorem dX1_corner_7 : decode cX1_corner 7 = .ok (.goto 33, 3) := by decide +kernel
theorem dX1_corner_10 : decode cX1_corner 10 = .ok (.iload_n 0, 1) := by decide +kernel
theorem dX1_corner_11 : decode cX1_corner 11 = .ok (.ifCond .ne 7, 3) := by decide +kernel
theorem dX1_corner_14 : decode cX1_corner 14 = .ok (.iconst 2, 1) := by decide +kernel
theorem dX1_corner_15 : decode cX1_corner 15 = .ok (.goto 25, 3) := by decide +kernel
theorem dX1_corner_18 : decode cX1_corner 18 = .ok (.iload_n 0, 1) := by decide +kernel
theorem dX1_corner_19 : decode cX1_corner 19 = .ok (.bipush 63, 2) := by decide +kernel
theorem dX1_corner_21 : decode cX1_corner 21 = .ok (.if_icmp .ne 7, 3) := by decide +kernel
theorem dX1_corner_24 : decode cX1_corner 24 = .ok (.iconst 4, 1) := by decide +kernel
theorem dX1_corner_25 : decode cX1_corner 25 = .ok (.goto 15, 3) := by decide +kernel
theorem dX1_corner_28 : decode cX1_corner 28 = .ok (.iload_n 0, 1) := by decide +kernel
theorem dX1_corner_29 : decode cX1_corner 29 = .ok (.bipush 56, 2) := by decide +kernel
theorem dX1_corner_31 : decode cX1_corner 31 = .ok (.if_icmp .ne 8, 3) := by decide +kernel
theorem dX1_corner_34 : decode cX1_corner 34 = .ok (.bipush 8, 2) := by decide +kernel
theorem dX1_corner_36 : decode cX1_corner 36 = .ok (.goto 4, 3) := by decide +kernel
theorem dX1_corner_39 : decode cX1_corner 39 = .ok (.iconst 0, 1) := by decide +kernel
theorem dX1_corner_40 : decode cX1_corner 40 = .ok (.ireturn, 1) := by decide +kernel
set_option maxRecDepth 20000 in
theorem ggX1_make_X1_isMove : GoodIn wsX1_make wsX1_isMove := goodIn_r _ [13, 3, 4, 14, 15, 12, 16, 17, 18, 19, 20, 21, 22, 23, 24, 25, 26, 27, 28, 29, 30, 31, 32, 33, 34, 35, 36, 37, 38, 6, 39, 40, 41, 42, 43, 44, 45, 5, 60, 61, 62, 63, 64, 65, 66, 67, 68, 69, 70] (by decide +kernel) (by decide +kernel)
set_option maxRecDepth 20000 in
theorem gX1_make_X1_isMove : GoodIn wsX1_make (wsV RX1 90 RX1 yX1_isMove wsX1_isMove) := goodIn_app (goodIn_of _ (by decide +kernel)) ggX1_make_X1_isMove
set_option maxRecDepth 20000 in
theorem ggX1_make_X1_kindOf : GoodIn wsX1_make wsX1_kindOf := goodIn_r _ [16] (by decide +kernel) (by decide +kernel)
set_option maxRecDepth 20000 in
theorem gX1_make_X1_kindOf : GoodIn wsX1_make (va_wsS RX1 61 yX1_kindOf wsX1_kindOf) := goodIn_app (goodIn_of _ (by decide +kernel)) ggX1_make_X1_kindOf
set_option maxRecDepth 20000 in
theorem ggX1_make_X1_attacks : GoodIn wsX1_make wsX1_attacks := goodIn_r _ [27, 3, 14, 15, 12, 16, 28, 29, 30, 17, 18, 19, 31, 32, 33, 34, 60, 61, 62, 63, 64, 65, 66, 67, 68, 69, 70] (by decide +kernel) (by decide +kernel)
set_option maxRecDepth 20000 in
theorem gX1_make_X1_attacks : GoodIn wsX1_make (wsV RX1 75 RX1 yX1_attacks wsX1_attacks) := goodIn_app (goodIn_of _ (by decide +kernel)) ggX1_make_X1_attacks
set_option maxRecDepth 20000 in
theorem ggX1_make_X1_takesPassing : GoodIn wsX1_make wsX1_takesPassing := goodIn_r _ [38, 4, 6, 3, 24, 25, 26, 12, 27, 14, 15, 16, 28, 29, 30, 17, 18, 19, 31, 32, 33, 34, 39, 40, 41, 60, 61, 62, 63, 64, 65, 66, 67, 68, 69, 70] (by decide +kernel) (by decide +kernel)
set_option maxRecDepth 20000 in
theorem gX1_make_X1_takesPassing : GoodIn wsX1_make (wsV RX1 81 RX1 yX1_takesPassing wsX1_takesPassing) := goodIn_app (goodIn_of _ (by decide +kernel)) ggX1_make_X1_takesPassing
set_option maxRecDepth 20000 in
theorem ggX1_make_X1_keep : GoodIn wsX1_make wsX1_keep := goodIn_r _ [49, 50, 1, 3, 51, 4, 5, 6, 7, 8, 52, 60, 61, 62, 63, 64, 65, 66, 67, 68, 69, 70] (by decide +kernel) (by decide +kernel)
set_option maxRecDepth 20000 in
theorem gX1_make_X1_keep : GoodIn wsX1_make (wsV RX1 93 RX1 yX1_keep wsX1_keep) := goodIn_app (goodIn_of _ (by decide +kernel)) ggX1_make_X1_keep
set_option maxRecDepth 20000 in
theorem ggX1_make_X1_corner : GoodIn wsX1_make wsX1_corner := goodIn_r _ [55] (by decide +kernel) (by decide +kernel)
set_option maxRecDepth 20000 in
theorem gX1_make_X1_corner : GoodIn wsX1_make (va_wsS RX1 97 yX1_corner wsX1_corner) := goodIn_app (goodIn_of _ (by decide +kernel)) ggX1_make_X1_corner
set_option maxRecDepth 20000 in
theorem ggX1_make_X1_apart : GoodIn wsX1_make wsX1_apart := goodIn_r _ [30] (by decide +kernel) (by decide +kernel)
set_option maxRecDepth 20000 in
theorem gX1_make_X1_apart : GoodIn wsX1_make (va_wsS RX1 64 yX1_apart wsX1_apart) := goodIn_app (goodIn_of _ (by decide +kernel)) ggX1_make_X1_apart
set_option maxRecDepth 20000 in
theorem ggX1_make_X1_pawnAttacks : GoodIn wsX1_make wsX1_pawnAttacks := goodIn_r _ [59, 3, 24, 25, 26, 12, 27, 14, 15, 16, 28, 29, 30, 17, 18, 19, 31, 32, 33, 34, 60, 61, 62, 63, 64, 65, 66, 67, 68, 69, 70] (by decide +kernel) (by decide +kernel)
set_option maxRecDepth 20000 in
theorem gX1_make_X1_pawnAttacks : GoodIn wsX1_make (wsV RX1 100 RX1 yX1_pawnAttacks wsX1_pawnAttacks) := goodIn_app (goodIn_of _ (by decide +kernel)) ggX1_make_X1_pawnAttacks
theorem dX1_make_0 : decode cX1_make 0 = .ok (.aload_n 0, 1) := by decide +kernel
theorem dX1_make_1 : decode cX1_make 1 = .ok (.aload_n 0, 1) := by decide +kernel
theorem dX1_make_2 : decode cX1_make 2 = .ok (.iload_n 1, 1) := by decide +kernel
theorem dX1_make_3 : decode cX1_make 3 = .ok (.invokevirtual 90, 3) := by decide +kernel
theorem dX1_make_6 : decode cX1_make 6 = .ok (.ifCond .ne 7, 3) := by decide +kernel
theorem dX1_make_9 : decode cX1_make 9 = .ok (.iconst 1, 1) := by decide +kernel
theorem dX1_make_10 : decode cX1_make 10 = .ok (.goto 18, 3) := by decide +kernel
theorem dX1_make_13 : decode cX1_make 13 = .ok (.aload_n 0, 1) := by decide +kernel
theorem dX1_make_14 : decode cX1_make 14 = .ok (.getfield 43, 3) := by decide +kernel
theorem dX1_make_17 : decode cX1_make 17 = .ok (.sipush 600, 3) := by decide +kernel
theorem dX1_make_20 : decode cX1_make 20 = .ok (.if_icmp .ne 7, 3) := by decide +kernel
theorem dX1_make_23 : decode cX1_make 23 = .ok (.iconst 2, 1) := by decide +kernel
theorem dX1_make_24 : decode cX1_make 24 = .ok (.goto 4, 3) := by decide +kernel
theorem dX1_make_27 : decode cX1_make 27 = .ok (.iconst 0, 1) := by decide +kernel
theorem dX1_make_28 : decode cX1_make 28 = .ok (.putfield 31, 3) := by decide +kernel
theorem dX1_make_31 : decode cX1_make 31 = .ok (.aload_n 0, 1) := by decide +kernel
theorem dX1_make_32 : decode cX1_make 32 = .ok (.getfield 31, 3) := by decide +kernel
theorem dX1_make_35 : decode cX1_make 35 = .ok (.ifCond .le 5, 3) := by decide +kernel
theorem dX1_make_38 : decode cX1_make 38 = .ok (.iconst 0, 1) := by decide +kernel
theorem dX1_make_39 : decode cX1_make 39 = .ok (.ireturn, 1) := by decide +kernel
theorem dX1_make_40 : decode cX1_make 40 = .ok (.iload_n 1, 1) := by decide +kernel
theorem dX1_make_41 : decode cX1_make 41 = .ok (.bipush 64, 2) := by decide +kernel
theorem dX1_make_43 : decode cX1_make 43 = .ok (.irem, 1) := by decide +kernel
theorem dX1_make_44 : decode cX1_make 44 = .ok (.istore_n 2, 1) := by decide +kernel
theorem dX1_make_45 : decode cX1_make 45 = .ok (.iload_n 1, 1) := by decide +kernel
theorem dX1_make_46 : decode cX1_make 46 = .ok (.bipush 64, 2) := by decide +kernel
theorem dX1_make_48 : decode cX1_make 48 = .ok (.idiv, 1) := by decide +kernel
theorem dX1_make_49 : decode cX1_make 49 = .ok (.bipush 64, 2) := by decide +kernel
theorem dX1_make_51 : decode cX1_make 51 = .ok (.irem, 1) := by decide +kernel
theorem dX1_make_52 : decode cX1_make 52 = .ok (.istore_n 3, 1) := by decide +kernel
theorem dX1_make_53 : decode cX1_make 53 = .ok (.iload_n 1, 1) := by decide +kernel
theorem dX1_make_54 : decode cX1_make 54 = .ok (.sipush 4096, 3) := by decide +kernel
theorem dX1_make_57 : decode cX1_make 57 = .ok (.idiv, 1) := by decide +kernel
theorem dX1_make_58 : decode cX1_make 58 = .ok (.istore 4, 2) := by decide +kernel
theorem dX1_make_60 : decode cX1_make 60 = .ok (.aload_n 0, 1) := by decide +kernel
theorem dX1_make_61 : decode cX1_make 61 = .ok (.getfield 7, 3) := by decide +kernel
theorem dX1_make_64 : decode cX1_make 64 = .ok (.iload_n 2, 1) := by decide +kernel
theorem dX1_make_65 : decode cX1_make 65 = .ok (.iaload, 1) := by decide +kernel
theorem dX1_make_66 : decode cX1_make 66 = .ok (.istore 5, 2) := by decide +kernel
theorem dX1_make_68 : decode cX1_make 68 = .ok (.iload 5, 2) := by decide +kernel
theorem dX1_make_70 : decode cX1_make 70 = .ok (.invokestatic 61, 3) := by decide +kernel
theorem dX1_make_73 : decode cX1_make 73 = .ok (.iconst 1, 1) := by decide +kernel
theorem dX1_make_74 : decode cX1_make 74 = .ok (.if_icmp .ne 7, 3) := by decide +kernel
theorem dX1_make_77 : decode cX1_make 77 = .ok (.iconst 1, 1) := by decide +kernel
theorem dX1_make_78 : decode cX1_make 78 = .ok (.goto 4, 3) := by decide +kernel
theorem dX1_make_81 : decode cX1_make 81 = .ok (.iconst 0, 1) := by decide +kernel
theorem dX1_make_82 : decode cX1_make 82 = .ok (.istore 6, 2) := by decide +kernel
theorem dX1_make_84 : decode cX1_make 84 = .ok (.iload 5, 2) := by decide +kernel
theorem dX1_make_86 : decode cX1_make 86 = .ok (.invokestatic 61, 3) := by decide +kernel
theorem dX1_make_89 : decode cX1_make 89 = .ok (.bipush 6, 2) := by decide +kernel
theorem dX1_make_91 : decode cX1_make 91 = .ok (.if_icmp .ne 16, 3) := by decide +kernel
theorem dX1_make_94 : decode cX1_make 94 = .ok (.aload_n 0, 1) := by decide +kernel
theorem dX1_make_95 : decode cX1_make 95 = .ok (.iload_n 2, 1) := by decide +kernel
theorem dX1_make_96 : decode cX1_make 96 = .ok (.iload_n 3, 1) := by decide +kernel
theorem dX1_make_97 : decode cX1_make 97 = .ok (.invokevirtual 75, 3) := by decide +kernel
theorem dX1_make_100 : decode cX1_make 100 = .ok (.ifCond .ne 7, 3) := by decide +kernel
theorem dX1_make_103 : decode cX1_make 103 = .ok (.iconst 1, 1) := by decide +kernel
theorem dX1_make_104 : decode cX1_make 104 = .ok (.goto 4, 3) := by decide +kernel
theorem dX1_make_107 : decode cX1_make 107 = .ok (.iconst 0, 1) := by decide +kernel
theorem dX1_make_108 : decode cX1_make 108 = .ok (.istore 7, 2) := by decide +kernel
theorem dX1_make_110 : decode cX1_make 110 = .ok (.iload 6, 2) := by decide +kernel
theorem dX1_make_112 : decode cX1_make 112 = .ok (.ifCond .eq 16, 3) := by decide +kernel
theorem dX1_make_115 : decode cX1_make 115 = .ok (.aload_n 0, 1) := by decide +kernel
theorem dX1_make_116 : decode cX1_make 116 = .ok (.iload_n 2, 1) := by decide +kernel
theorem dX1_make_117 : decode cX1_make 117 = .ok (.iload_n 3, 1) := by decide +kernel
theorem dX1_make_118 : decode cX1_make 118 = .ok (.invokevirtual 81, 3) := by decide +kernel
theorem dX1_make_121 : decode cX1_make 121 = .ok (.ifCond .eq 7, 3) := by decide +kernel
theorem dX1_make_124 : decode cX1_make 124 = .ok (.iconst 1, 1) := by decide +kernel
theorem dX1_make_125 : decode cX1_make 125 = .ok (.goto 4, 3) := by decide +kernel
theorem dX1_make_128 : decode cX1_make 128 = .ok (.iconst 0, 1) := by decide +kernel
theorem dX1_make_129 : decode cX1_make 129 = .ok (.istore 8, 2) := by decide +kernel
theorem dX1_make_131 : decode cX1_make 131 = .ok (.aload_n 0, 1) := by decide +kernel
theorem dX1_make_132 : decode cX1_make 132 = .ok (.iload_n 1, 1) := by decide +kernel
theorem dX1_make_133 : decode cX1_make 133 = .ok (.invokevirtual 93, 3) := by decide +kernel
theorem dX1_make_136 : decode cX1_make 136 = .ok (.aload_n 0, 1) := by decide +kernel
theorem dX1_make_137 : decode cX1_make 137 = .ok (.getfield 34, 3) := by decide +kernel
theorem dX1_make_140 : decode cX1_make 140 = .ok (.ifCond .ne 10, 3) := by decide +kernel
theorem dX1_make_143 : decode cX1_make 143 = .ok (.iload_n 3, 1) := by decide +kernel
theorem dX1_make_144 : decode cX1_make 144 = .ok (.bipush 8, 2) := by decide +kernel
theorem dX1_make_146 : decode cX1_make 146 = .ok (.isub, 1) := by decide +kernel
theorem dX1_make_147 : decode cX1_make 147 = .ok (.goto 7, 3) := by decide +kernel
theorem dX1_make_150 : decode cX1_make 150 = .ok (.iload_n 3, 1) := by decide +kernel
theorem dX1_make_151 : decode cX1_make 151 = .ok (.bipush 8, 2) := by decide +kernel
theorem dX1_make_153 : decode cX1_make 153 = .ok (.iadd, 1) := by decide +kernel
theorem dX1_make_154 : decode cX1_make 154 = .ok (.istore 9, 2) := by decide +kernel
theorem dX1_make_156 : decode cX1_make 156 = .ok (.iload 8, 2) := by decide +kernel
theorem dX1_make_158 : decode cX1_make 158 = .ok (.ifCond .eq 13, 3) := by decide +kernel
theorem dX1_make_161 : decode cX1_make 161 = .ok (.aload_n 0, 1) := by decide +kernel
theorem dX1_make_162 : decode cX1_make 162 = .ok (.getfield 7, 3) := by decide +kernel
theorem dX1_make_165 : decode cX1_make 165 = .ok (.iload 9, 2) := by decide +kernel
theorem dX1_make_167 : decode cX1_make 167 = .ok (.iaload, 1) := by decide +kernel
theorem dX1_make_168 : decode cX1_make 168 = .ok (.goto 9, 3) := by decide +kernel
theorem dX1_make_171 : decode cX1_make 171 = .ok (.aload_n 0, 1) := by decide +kernel
theorem dX1_make_172 : decode cX1_make 172 = .ok (.getfield 7, 3) := by decide +kernel
theorem dX1_make_175 : decode cX1_make 175 = .ok (.iload_n 3, 1) := by decide +kernel
theorem dX1_make_176 : decode cX1_make 176 = .ok (.iaload, 1) := by decide +kernel
theorem dX1_make_177 : decode cX1_make 177 = .ok (.istore 10, 2) := by decide +kernel
theorem dX1_make_179 : decode cX1_make 179 = .ok (.aload_n 0, 1) := by decide +kernel
theorem dX1_make_180 : decode cX1_make 180 = .ok (.getfield 7, 3) := by decide +kernel
theorem dX1_make_183 : decode cX1_make 183 = .ok (.iload 8, 2) := by decide +kernel
theorem dX1_make_185 : decode cX1_make 185 = .ok (.ifCond .eq 8, 3) := by decide +kernel
theorem dX1_make_188 : decode cX1_make 188 = .ok (.iload 9, 2) := by decide +kernel
theorem dX1_make_190 : decode cX1_make 190 = .ok (.goto 4, 3) := by decide +kernel
theorem dX1_make_193 : decode cX1_make 193 = .ok (.iload_n 3, 1) := by decide +kernel
theorem dX1_make_194 : decode cX1_make 194 = .ok (.iconst 0, 1) := by decide +kernel
theorem dX1_make_195 : decode cX1_make 195 = .ok (.iastore, 1) := by decide +kernel
theorem dX1_make_196 : decode cX1_make 196 = .ok (.aload_n 0, 1) := by decide +kernel
theorem dX1_make_197 : decode cX1_make 197 = .ok (.getfield 7, 3) := by decide +kernel
theorem dX1_make_200 : decode cX1_make 200 = .ok (.iload_n 2, 1) := by decide +kernel
theorem dX1_make_201 : decode cX1_make 201 = .ok (.iconst 0, 1) := by decide +kernel
theorem dX1_make_202 : decode cX1_make 202 = .ok (.iastore, 1) := by decide +kernel
theorem dX1_make_203 : decode cX1_make 203 = .ok (.aload_n 0, 1) := by decide +kernel
theorem dX1_make_204 : decode cX1_make 204 = .ok (.getfield 7, 3) := by decide +kernel
theorem dX1_make_207 : decode cX1_make 207 = .ok (.iload_n 3, 1) := by decide +kernel
theorem dX1_make_208 : decode cX1_make 208 = .ok (.iload 4, 2) := by decide +kernel
theorem dX1_make_210 : decode cX1_make 210 = .ok (.ifCond .le 16, 3) := by decide +kernel
theorem dX1_make_213 : decode cX1_make 213 = .ok (.iload 4, 2) := by decide +kernel
theorem dX1_make_215 : decode cX1_make 215 = .ok (.bipush 6, 2) := by decide +kernel
theorem dX1_make_217 : decode cX1_make 217 = .ok (.aload_n 0, 1) := by decide +kernel
theorem dX1_make_218 : decode cX1_make 218 = .ok (.getfield 34, 3) := by decide +kernel
theorem dX1_make_221 : decode cX1_make 221 = .ok (.imul, 1) := by decide +kernel
theorem dX1_make_222 : decode cX1_make 222 = .ok (.iadd, 1) := by decide +kernel
theorem dX1_make_223 : decode cX1_make 223 = .ok (.goto 5, 3) := by decide +kernel
theorem dX1_make_226 : decode cX1_make 226 = .ok (.iload 5, 2) := by decide +kernel
theorem dX1_make_228 : decode cX1_make 228 = .ok (.iastore, 1) := by decide +kernel
theorem dX1_make_229 : decode cX1_make 229 = .ok (.iload 7, 2) := by decide +kernel
theorem dX1_make_231 : decode cX1_make 231 = .ok (.ifCond .eq 44, 3) := by decide +kernel
theorem dX1_make_234 : decode cX1_make 234 = .ok (.iload_n 3, 1) := by decide +kernel
theorem dX1_make_235 : decode cX1_make 235 = .ok (.iload_n 2, 1) := by decide +kernel
theorem dX1_make_236 : decode cX1_make 236 = .ok (.if_icmp .le 9, 3) := by decide +kernel
theorem dX1_make_239 : decode cX1_make 239 = .ok (.iload_n 2, 1) := by decide +kernel
theorem dX1_make_240 : decode cX1_make 240 = .ok (.iconst 3, 1) := by decide +kernel
theorem dX1_make_241 : decode cX1_make 241 = .ok (.iadd, 1) := by decide +kernel
theorem dX1_make_242 : decode cX1_make 242 = .ok (.goto 6, 3) := by decide +kernel
theorem dX1_make_245 : decode cX1_make 245 = .ok (.iload_n 2, 1) := by decide +kernel
theorem dX1_make_246 : decode cX1_make 246 = .ok (.iconst 4, 1) := by decide +kernel
theorem dX1_make_247 : decode cX1_make 247 = .ok (.isub, 1) := by decide +kernel
theorem dX1_make_248 : decode cX1_make 248 = .ok (.istore 11, 2) := by decide +kernel
theorem dX1_make_250 : decode cX1_make 250 = .ok (.aload_n 0, 1) := by decide +kernel
theorem dX1_make_251 : decode cX1_make 251 = .ok (.getfield 7, 3) := by decide +kernel
theorem dX1_make_254 : decode cX1_make 254 = .ok (.iload_n 2, 1) := by decide +kernel
theorem dX1_make_255 : decode cX1_make 255 = .ok (.iload_n 3, 1) := by decide +kernel
theorem dX1_make_256 : decode cX1_make 256 = .ok (.iadd, 1) := by decide +kernel
theorem dX1_make_257 : decode cX1_make 257 = .ok (.iconst 2, 1) := by decide +kernel
theorem dX1_make_258 : decode cX1_make 258 = .ok (.idiv, 1) := by decide +kernel
theorem dX1_make_259 : decode cX1_make 259 = .ok (.aload_n 0, 1) := by decide +kernel
theorem dX1_make_260 : decode cX1_make 260 = .ok (.getfield 7, 3) := by decide +kernel
theorem dX1_make_263 : decode cX1_make 263 = .ok (.iload 11, 2) := by decide +kernel
theorem dX1_make_265 : decode cX1_make 265 = .ok (.iaload, 1) := by decide +kernel
theorem dX1_make_266 : decode cX1_make 266 = .ok (.iastore, 1) := by decide +kernel
theorem dX1_make_267 : decode cX1_make 267 = .ok (.aload_n 0, 1) := by decide +kernel
theorem dX1_make_268 : decode cX1_make 268 = .ok (.getfield 7, 3) := by decide +kernel
theorem dX1_make_271 : decode cX1_make 271 = .ok (.iload 11, 2) := by decide +kernel
theorem dX1_make_273 : decode cX1_make 273 = .ok (.iconst 0, 1) := by decide +kernel
theorem dX1_make_274 : decode cX1_make 274 = .ok (.iastore, 1) := by decide +kernel
theorem dX1_make_275 : decode cX1_make 275 = .ok (.aload_n 0, 1) := by decide +kernel
theorem dX1_make_276 : decode cX1_make 276 = .ok (.iload 5, 2) := by decide +kernel
theorem dX1_make_278 : decode cX1_make 278 = .ok (.invokestatic 61, 3) := by decide +kernel
theorem dX1_make_281 : decode cX1_make 281 = .ok (.bipush 6, 2) := by decide +kernel
theorem dX1_make_283 : decode cX1_make 283 = .ok (.if_icmp .ne 21, 3) := by decide +kernel
theorem dX1_make_286 : decode cX1_make 286 = .ok (.aload_n 0, 1) := by decide +kernel
theorem dX1_make_287 : decode cX1_make 287 = .ok (.getfield 37, 3) := by decide +kernel
theorem dX1_make_290 : decode cX1_make 290 = .ok (.iconst 3, 1) := by decide +kernel
theorem dX1_make_291 : decode cX1_make 291 = .ok (.iconst 2, 1) := by decide +kernel
theorem dX1_make_292 : decode cX1_make 292 = .ok (.aload_n 0, 1) := by decide +kernel
theorem dX1_make_293 : decode cX1_make 293 = .ok (.getfield 34, 3) := by decide +kernel
theorem dX1_make_296 : decode cX1_make 296 = .ok (.imul, 1) := by decide +kernel
theorem dX1_make_297 : decode cX1_make 297 = .ok (.ishl, 1) := by decide +kernel
theorem dX1_make_298 : decode cX1_make 298 = .ok (.iconst (-1), 1) := by decide +kernel
theorem dX1_make_299 : decode cX1_make 299 = .ok (.ixor, 1) := by decide +kernel
theorem dX1_make_300 : decode cX1_make 300 = .ok (.iand, 1) := by decide +kernel
theorem dX1_make_301 : decode cX1_make 301 = .ok (.goto 7, 3) := by decide +kernel
theorem dX1_make_304 : decode cX1_make 304 = .ok (.aload_n 0, 1) := by decide +kernel
theorem dX1_make_305 : decode cX1_make 305 = .ok (.getfield 37, 3) := by decide +kernel
theorem dX1_make_308 : decode cX1_make 308 = .ok (.putfield 37, 3) := by decide +kernel
theorem dX1_make_311 : decode cX1_make 311 = .ok (.aload_n 0, 1) := by decide +kernel
theorem dX1_make_312 : decode cX1_make 312 = .ok (.aload_n 0, 1) := by decide +kernel
theorem dX1_make_313 : decode cX1_make 313 = .ok (.getfield 37, 3) := by decide +kernel
theorem dX1_make_316 : decode cX1_make 316 = .ok (.iload_n 2, 1) := by decide +kernel
theorem dX1_make_317 : decode cX1_make 317 = .ok (.invokestatic 97, 3) := by decide +kernel
theorem dX1_make_320 : decode cX1_make 320 = .ok (.iconst (-1), 1) := by decide +kernel
theorem dX1_make_321 : decode cX1_make 321 = .ok (.ixor, 1) := by decide +kernel
theorem dX1_make_322 : decode cX1_make 322 = .ok (.iand, 1) := by decide +kernel
theorem dX1_make_323 : decode cX1_make 323 = .ok (.iload_n 3, 1) := by decide +kernel
theorem dX1_make_324 : decode cX1_make 324 = .ok (.invokestatic 97, 3) := by decide +kernel
theorem dX1_make_327 : decode cX1_make 327 = .ok (.iconst (-1), 1) := by decide +kernel
theorem dX1_make_328 : decode cX1_make 328 = .ok (.ixor, 1) := by decide +kernel
theorem dX1_make_329 : decode cX1_make 329 = .ok (.iand, 1) := by decide +kernel
theorem dX1_make_330 : decode cX1_make 330 = .ok (.putfield 37, 3) := by decide +kernel
theorem dX1_make_333 : decode cX1_make 333 = .ok (.iload 6, 2) := by decide +kernel
theorem dX1_make_335 : decode cX1_make 335 = .ok (.ifCond .eq 22, 3) := by decide +kernel
theorem dX1_make_338 : decode cX1_make 338 = .ok (.iload_n 2, 1) := by decide +kernel
theorem dX1_make_339 : decode cX1_make 339 = .ok (.bipush 8, 2) := by decide +kernel
theorem dX1_make_341 : decode cX1_make 341 = .ok (.idiv, 1) := by decide +kernel
theorem dX1_make_342 : decode cX1_make 342 = .ok (.iload_n 3, 1) := by decide +kernel
theorem dX1_make_343 : decode cX1_make 343 = .ok (.bipush 8, 2) := by decide +kernel
theorem dX1_make_345 : decode cX1_make 345 = .ok (.idiv, 1) := by decide +kernel
theorem dX1_make_346 : decode cX1_make 346 = .ok (.invokestatic 64, 3) := by decide +kernel
theorem dX1_make_349 : decode cX1_make 349 = .ok (.iconst 2, 1) := by decide +kernel
theorem dX1_make_350 : decode cX1_make 350 = .ok (.if_icmp .ne 7, 3) := by decide +kernel
theorem dX1_make_353 : decode cX1_make 353 = .ok (.iconst 1, 1) := by decide +kernel
theorem dX1_make_354 : decode cX1_make 354 = .ok (.goto 4, 3) := by decide +kernel
theorem dX1_make_357 : decode cX1_make 357 = .ok (.iconst 0, 1) := by decide +kernel
theorem dX1_make_358 : decode cX1_make 358 = .ok (.istore 11, 2) := by decide +kernel
theorem dX1_make_360 : decode cX1_make 360 = .ok (.aload_n 0, 1) := by decide +kernel
theorem dX1_make_361 : decode cX1_make 361 = .ok (.iload 11, 2) := by decide +kernel
theorem dX1_make_363 : decode cX1_make 363 = .ok (.ifCond .eq 29, 3) := by decide +kernel
theorem dX1_make_366 : decode cX1_make 366 = .ok (.aload_n 0, 1) := by decide +kernel
theorem dX1_make_367 : decode cX1_make 367 = .ok (.iload_n 2, 1) := by decide +kernel
theorem dX1_make_368 : decode cX1_make 368 = .ok (.iload_n 3, 1) := by decide +kernel
theorem dX1_make_369 : decode cX1_make 369 = .ok (.iadd, 1) := by decide +kernel
theorem dX1_make_370 : decode cX1_make 370 = .ok (.iconst 2, 1) := by decide +kernel
theorem dX1_make_371 : decode cX1_make 371 = .ok (.idiv, 1) := by decide +kernel
theorem dX1_make_372 : decode cX1_make 372 = .ok (.iconst 1, 1) := by decide +kernel
theorem dX1_make_373 : decode cX1_make 373 = .ok (.aload_n 0, 1) := by decide +kernel
theorem dX1_make_374 : decode cX1_make 374 = .ok (.getfield 34, 3) := by decide +kernel
theorem dX1_make_377 : decode cX1_make 377 = .ok (.isub, 1) := by decide +kernel
theorem dX1_make_378 : decode cX1_make 378 = .ok (.invokevirtual 100, 3) := by decide +kernel
theorem dX1_make_381 : decode cX1_make 381 = .ok (.ifCond .eq 11, 3) := by decide +kernel
theorem dX1_make_384 : decode cX1_make 384 = .ok (.iload_n 2, 1) := by decide +kernel
theorem dX1_make_385 : decode cX1_make 385 = .ok (.iload_n 3, 1) := by decide +kernel
theorem dX1_make_386 : decode cX1_make 386 = .ok (.iadd, 1) := by decide +kernel
theorem dX1_make_387 : decode cX1_make 387 = .ok (.iconst 2, 1) := by decide +kernel
theorem dX1_make_388 : decode cX1_make 388 = .ok (.idiv, 1) := by decide +kernel
theorem dX1_make_389 : decode cX1_make 389 = .ok (.goto 4, 3) := by decide +kernel
theorem dX1_make_392 : decode cX1_make 392 = .ok (.iconst (-1), 1) := by decide +kernel
theorem dX1_make_393 : decode cX1_make 393 = .ok (.putfield 13, 3) := by decide +kernel
theorem dX1_make_396 : decode cX1_make 396 = .ok (.aload_n 0, 1) := by decide +kernel
theorem dX1_make_397 : decode cX1_make 397 = .ok (.iload 6, 2) := by decide +kernel
theorem dX1_make_399 : decode cX1_make 399 = .ok (.ifCond .ne 8, 3) := by decide +kernel
theorem dX1_make_402 : decode cX1_make 402 = .ok (.iload 10, 2) := by decide +kernel
theorem dX1_make_404 : decode cX1_make 404 = .ok (.ifCond .le 7, 3) := by decide +kernel
theorem dX1_make_407 : decode cX1_make 407 = .ok (.iconst 0, 1) := by decide +kernel
theorem dX1_make_408 : decode cX1_make 408 = .ok (.goto 9, 3) := by decide +kernel
theorem dX1_make_411 : decode cX1_make 411 = .ok (.aload_n 0, 1) := by decide +kernel
theorem dX1_make_412 : decode cX1_make 412 = .ok (.getfield 40, 3) := by decide +kernel
theorem dX1_make_415 : decode cX1_make 415 = .ok (.iconst 1, 1) := by decide +kernel
theorem dX1_make_416 : decode cX1_make 416 = .ok (.iadd, 1) := by decide +kernel
theorem dX1_make_417 : decode cX1_make 417 = .ok (.putfield 40, 3) := by decide +kernel
theorem dX1_make_420 : decode cX1_make 420 = .ok (.aload_n 0, 1) := by decide +kernel
theorem dX1_make_421 : decode cX1_make 421 = .ok (.dup, 1) := by decide +kernel
theorem dX1_make_422 : decode cX1_make 422 = .ok (.getfield 17, 3) := by decide +kernel
theorem dX1_make_425 : decode cX1_make 425 = .ok (.aload_n 0, 1) := by decide +kernel
theorem dX1_make_426 : decode cX1_make 426 = .ok (.getfield 34, 3) := by decide +kernel
theorem dX1_make_429 : decode cX1_make 429 = .ok (.iadd, 1) := by decide +kernel
theorem dX1_make_430 : decode cX1_make 430 = .ok (.putfield 17, 3) := by decide +kernel
theorem dX1_make_433 : decode cX1_make 433 = .ok (.aload_n 0, 1) := by decide +kernel
theorem dX1_make_434 : decode cX1_make 434 = .ok (.iconst 1, 1) := by decide +kernel
theorem dX1_make_435 : decode cX1_make 435 = .ok (.aload_n 0, 1) := by decide +kernel
theorem dX1_make_436 : decode cX1_make 436 = .ok (.getfield 34, 3) := by decide +kernel
theorem dX1_make_439 : decode cX1_make 439 = .ok (.isub, 1) := by decide +kernel
theorem dX1_make_440 : decode cX1_make 440 = .ok (.putfield 34, 3) := by decide +kernel
theorem dX1_make_443 : decode cX1_make 443 = .ok (.iload 10, 2) := by decide +kernel
theorem dX1_make_445 : decode cX1_make 445 = .ok (.ireturn, 1) := by decide +kernel
set_option maxRecDepth 20000 in
theorem ggX1_pawnAttacks_X1_attacks : GoodIn wsX1_pawnAttacks wsX1_attacks := goodIn_r _ [6, 1, 7, 8, 5, 9, 10, 11, 12, 13, 14, 15, 16, 17, 18, 19, 20, 21, 22, 23, 24, 25, 26, 27, 28, 29, 30] (by decide +kernel) (by decide +kernel)
set_option maxRecDepth 20000 in
theorem gX1_pawnAttacks_X1_attacks : GoodIn wsX1_pawnAttacks (wsV RX1 75 RX1 yX1_attacks wsX1_attacks) := goodIn_app (goodIn_of _ (by decide +kernel)) ggX1_pawnAttacks_X1_attacks
theorem dX1_pawnAttacks_0 : decode cX1_pawnAttacks 0 = .ok (.iconst 0, 1) := by decide +kernel
theorem dX1_pawnAttacks_1 : decode cX1_pawnAttacks 1 = .ok (.istore_n 3, 1) := by decide +kernel
theorem dX1_pawnAttacks_2 : decode cX1_pawnAttacks 2 = .ok (.iconst 0, 1) := by decide +kernel
theorem dX1_pawnAttacks_3 : decode cX1_pawnAttacks 3 = .ok (.istore 4, 2) := by decide +kernel
theorem dX1_pawnAttacks_5 : decode cX1_pawnAttacks 5 = .ok (.iload 4, 2) := by decide +kernel
theorem dX1_pawnAttacks_7 : decode cX1_pawnAttacks 7 = .ok (.bipush 64, 2) := by decide +kernel
theorem dX1_pawnAttacks_9 : decode cX1_pawnAttacks 9 = .ok (.if_icmp .ge 45, 3) := by decide +kernel
theorem dX1_pawnAttacks_12 : decode cX1_pawnAttacks 12 = .ok (.iload_n 3, 1) := by decide +kernel
theorem dX1_pawnAttacks_13 : decode cX1_pawnAttacks 13 = .ok (.ifCond .ne 29, 3) := by decide +kernel
theorem dX1_pawnAttacks_16 : decode cX1_pawnAttacks 16 = .ok (.aload_n 0, 1) := by decide +kernel
theorem dX1_pawnAttacks_17 : decode cX1_pawnAttacks 17 = .ok (.getfield 7, 3) := by decide +kernel
theorem dX1_pawnAttacks_20 : decode cX1_pawnAttacks 20 = .ok (.iload 4, 2) := by decide +kernel
theorem dX1_pawnAttacks_22 : decode cX1_pawnAttacks 22 = .ok (.iaload, 1) := by decide +kernel
theorem dX1_pawnAttacks_23 : decode cX1_pawnAttacks 23 = .ok (.iconst 1, 1) := by decide +kernel
theorem dX1_pawnAttacks_24 : decode cX1_pawnAttacks 24 = .ok (.bipush 6, 2) := by decide +kernel
theorem dX1_pawnAttacks_26 : decode cX1_pawnAttacks 26 = .ok (.iload_n 2, 1) := by decide +kernel
theorem dX1_pawnAttacks_27 : decode cX1_pawnAttacks 27 = .ok (.imul, 1) := by decide +kernel
theorem dX1_pawnAttacks_28 : decode cX1_pawnAttacks 28 = .ok (.iadd, 1) := by decide +kernel
theorem dX1_pawnAttacks_29 : decode cX1_pawnAttacks 29 = .ok (.if_icmp .ne 17, 3) := by decide +kernel
theorem dX1_pawnAttacks_32 : decode cX1_pawnAttacks 32 = .ok (.aload_n 0, 1) := by decide +kernel
theorem dX1_pawnAttacks_33 : decode cX1_pawnAttacks 33 = .ok (.iload 4, 2) := by decide +kernel
theorem dX1_pawnAttacks_35 : decode cX1_pawnAttacks 35 = .ok (.iload_n 1, 1) := by decide +kernel
theorem dX1_pawnAttacks_36 : decode cX1_pawnAttacks 36 = .ok (.invokevirtual 75, 3) := by decide +kernel
theorem dX1_pawnAttacks_39 : decode cX1_pawnAttacks 39 = .ok (.ifCond .eq 7, 3) := by decide +kernel
theorem dX1_pawnAttacks_42 : decode cX1_pawnAttacks 42 = .ok (.iconst 1, 1) := by decide +kernel
theorem dX1_pawnAttacks_43 : decode cX1_pawnAttacks 43 = .ok (.goto 4, 3) := by decide +kernel
theorem dX1_pawnAttacks_46 : decode cX1_pawnAttacks 46 = .ok (.iconst 0, 1) := by decide +kernel
theorem dX1_pawnAttacks_47 : decode cX1_pawnAttacks 47 = .ok (.istore_n 3, 1) := by decide +kernel
theorem dX1_pawnAttacks_48 : decode cX1_pawnAttacks 48 = .ok (.iinc 4 1, 3) := by decide +kernel
theorem dX1_pawnAttacks_51 : decode cX1_pawnAttacks 51 = .ok (.goto (-46), 3) := by decide +kernel
theorem dX1_pawnAttacks_54 : decode cX1_pawnAttacks 54 = .ok (.iload_n 3, 1) := by decide +kernel
theorem dX1_pawnAttacks_55 : decode cX1_pawnAttacks 55 = .ok (.ireturn, 1) := by decide +kernel
theorem dX1_unmake_0 : decode cX1_unmake 0 = .ok (.aload_n 0, 1) := by decide +kernel
theorem dX1_unmake_1 : decode cX1_unmake 1 = .ok (.aload_n 0, 1) := by decide +kernel
theorem dX1_unmake_2 : decode cX1_unmake 2 = .ok (.getfield 43, 3) := by decide +kernel
theorem dX1_unmake_5 : decode cX1_unmake 5 = .ok (.ifCond .ne 7, 3) := by decide +kernel
theorem dX1_unmake_8 : decode cX1_unmake 8 = .ok (.iconst 1, 1) := by decide +kernel
theorem dX1_unmake_9 : decode cX1_unmake 9 = .ok (.goto 4, 3) := by decide +kernel
theorem dX1_unmake_12 : decode cX1_unmake 12 = .ok (.iconst 0, 1) := by decide +kernel
theorem dX1_unmake_13 : decode cX1_unmake 13 = .ok (.putfield 31, 3) := by decide +kernel
theorem dX1_unmake_16 : decode cX1_unmake 16 = .ok (.aload_n 0, 1) := by decide +kernel
theorem dX1_unmake_17 : decode cX1_unmake 17 = .ok (.getfield 31, 3) := by decide +kernel
theorem dX1_unmake_20 : decode cX1_unmake 20 = .ok (.ifCond .le 5, 3) := by decide +kernel
theorem dX1_unmake_23 : decode cX1_unmake 23 = .ok (.iconst 0, 1) := by decide +kernel
theorem dX1_unmake_24 : decode cX1_unmake 24 = .ok (.ireturn, 1) := by decide +kernel
theorem dX1_unmake_25 : decode cX1_unmake 25 = .ok (.aload_n 0, 1) := by decide +kernel
theorem dX1_unmake_26 : decode cX1_unmake 26 = .ok (.dup, 1) := by decide +kernel
theorem dX1_unmake_27 : decode cX1_unmake 27 = .ok (.getfield 43, 3) := by decide +kernel
theorem dX1_unmake_30 : decode cX1_unmake 30 = .ok (.iconst 1, 1) := by decide +kernel
theorem dX1_unmake_31 : decode cX1_unmake 31 = .ok (.isub, 1) := by decide +kernel
theorem dX1_unmake_32 : decode cX1_unmake 32 = .ok (.putfield 43, 3) := by decide +kernel
theorem dX1_unmake_35 : decode cX1_unmake 35 = .ok (.iconst 0, 1) := by decide +kernel
theorem dX1_unmake_36 : decode cX1_unmake 36 = .ok (.istore_n 1, 1) := by decide +kernel
theorem dX1_unmake_37 : decode cX1_unmake 37 = .ok (.iload_n 1, 1) := by decide +kernel
theorem dX1_unmake_38 : decode cX1_unmake 38 = .ok (.bipush 64, 2) := by decide +kernel
theorem dX1_unmake_40 : decode cX1_unmake 40 = .ok (.if_icmp .ge 29, 3) := by decide +kernel
theorem dX1_unmake_43 : decode cX1_unmake 43 = .ok (.aload_n 0, 1) := by decide +kernel
theorem dX1_unmake_44 : decode cX1_unmake 44 = .ok (.getfield 7, 3) := by decide +kernel
theorem dX1_unmake_47 : decode cX1_unmake 47 = .ok (.iload_n 1, 1) := by decide +kernel
theorem dX1_unmake_48 : decode cX1_unmake 48 = .ok (.aload_n 0, 1) := by decide +kernel
theorem dX1_unmake_49 : decode cX1_unmake 49 = .ok (.getfield 24, 3) := by decide +kernel
theorem dX1_unmake_52 : decode cX1_unmake 52 = .ok (.bipush 64, 2) := by decide +kernel
theorem dX1_unmake_54 : decode cX1_unmake 54 = .ok (.aload_n 0, 1) := by decide +kernel
theorem dX1_unmake_55 : decode cX1_unmake 55 = .ok (.getfield 43, 3) := by decide +kernel
theorem dX1_unmake_58 : decode cX1_unmake 58 = .ok (.imul, 1) := by decide +kernel
theorem dX1_unmake_59 : decode cX1_unmake 59 = .ok (.iload_n 1, 1) := by decide +kernel
theorem dX1_unmake_60 : decode cX1_unmake 60 = .ok (.iadd, 1) := by decide +kernel
theorem dX1_unmake_61 : decode cX1_unmake 61 = .ok (.baload, 1) := by decide +kernel
theorem dX1_unmake_62 : decode cX1_unmake 62 = .ok (.iastore, 1) := by decide +kernel
theorem dX1_unmake_63 : decode cX1_unmake 63 = .ok (.iinc 1 1, 3) := by decide +kernel
theorem dX1_unmake_66 : decode cX1_unmake 66 = .ok (.goto (-29), 3) := by decide +kernel
theorem dX1_unmake_69 : decode cX1_unmake 69 = .ok (.aload_n 0, 1) := by decide +kernel
theorem dX1_unmake_70 : decode cX1_unmake 70 = .ok (.aload_n 0, 1) := by decide +kernel
theorem dX1_unmake_71 : decode cX1_unmake 71 = .ok (.getfield 28, 3) := by decide +kernel
theorem dX1_unmake_74 : decode cX1_unmake 74 = .ok (.iconst 5, 1) := by decide +kernel
theorem dX1_unmake_75 : decode cX1_unmake 75 = .ok (.aload_n 0, 1) := by decide +kernel
theorem dX1_unmake_76 : decode cX1_unmake 76 = .ok (.getfield 43, 3) := by decide +kernel
theorem dX1_unmake_79 : decode cX1_unmake 79 = .ok (.imul, 1) := by decide +kernel
theorem dX1_unmake_80 : decode cX1_unmake 80 = .ok (.iaload, 1) := by decide +kernel
theorem dX1_unmake_81 : decode cX1_unmake 81 = .ok (.putfield 34, 3) := by decide +kernel
theorem dX1_unmake_84 : decode cX1_unmake 84 = .ok (.aload_n 0, 1) := by decide +kernel
theorem dX1_unmake_85 : decode cX1_unmake 85 = .ok (.aload_n 0, 1) := by decide +kernel
theorem dX1_unmake_86 : decode cX1_unmake 86 = .ok (.getfield 28, 3) := by decide +kernel
theorem dX1_unmake_89 : decode cX1_unmake 89 = .ok (.iconst 5, 1) := by decide +kernel
theorem dX1_unmake_90 : decode cX1_unmake 90 = .ok (.aload_n 0, 1) := by decide +kernel
theorem dX1_unmake_91 : decode cX1_unmake 91 = .ok (.getfield 43, 3) := by decide +kernel
theorem dX1_unmake_94 : decode cX1_unmake 94 = .ok (.imul, 1) := by decide +kernel
theorem dX1_unmake_95 : decode cX1_unmake 95 = .ok (.iconst 1, 1) := by decide +kernel
theorem dX1_unmake_96 : decode cX1_unmake 96 = .ok (.iadd, 1) := by decide +kernel
theorem dX1_unmake_97 : decode cX1_unmake 97 = .ok (.iaload, 1) := by decide +kernel
theorem dX1_unmake_98 : decode cX1_unmake 98 = .ok (.putfield 37, 3) := by decide +kernel
theorem dX1_unmake_101 : decode cX1_unmake 101 = .ok (.aload_n 0, 1) := by decide +kernel
theorem dX1_unmake_102 : decode cX1_unmake 102 = .ok (.aload_n 0, 1) := by decide +kernel
theorem dX1_unmake_103 : decode cX1_unmake 103 = .ok (.getfield 28, 3) := by decide +kernel
theorem dX1_unmake_106 : decode cX1_unmake 106 = .ok (.iconst 5, 1) := by decide +kernel
theorem dX1_unmake_107 : decode cX1_unmake 107 = .ok (.aload_n 0, 1) := by decide +kernel
theorem dX1_unmake_108 : decode cX1_unmake 108 = .ok (.getfield 43, 3) := by decide +kernel
theorem dX1_unmake_111 : decode cX1_unmake 111 = .ok (.imul, 1) := by decide +kernel
theorem dX1_unmake_112 : decode cX1_unmake 112 = .ok (.iconst 2, 1) := by decide +kernel
theorem dX1_unmake_113 : decode cX1_unmake 113 = .ok (.iadd, 1) := by decide +kernel
theorem dX1_unmake_114 : decode cX1_unmake 114 = .ok (.iaload, 1) := by decide +kernel
theorem dX1_unmake_115 : decode cX1_unmake 115 = .ok (.putfield 13, 3) := by decide +kernel
theorem dX1_unmake_118 : decode cX1_unmake 118 = .ok (.aload_n 0, 1) := by decide +kernel
theorem dX1_unmake_119 : decode cX1_unmake 119 = .ok (.aload_n 0, 1) := by decide +kernel
theorem dX1_unmake_120 : decode cX1_unmake 120 = .ok (.getfield 28, 3) := by decide +kernel
theorem dX1_unmake_123 : decode cX1_unmake 123 = .ok (.iconst 5, 1) := by decide +kernel
theorem dX1_unmake_124 : decode cX1_unmake 124 = .ok (.aload_n 0, 1) := by decide +kernel
theorem dX1_unmake_125 : decode cX1_unmake 125 = .ok (.getfield 43, 3) := by decide +kernel
theorem dX1_unmake_128 : decode cX1_unmake 128 = .ok (.imul, 1) := by decide +kernel
theorem dX1_unmake_129 : decode cX1_unmake 129 = .ok (.iconst 3, 1) := by decide +kernel
theorem dX1_unmake_130 : decode cX1_unmake 130 = .ok (.iadd, 1) := by decide +kernel
theorem dX1_unmake_131 : decode cX1_unmake 131 = .ok (.iaload, 1) := by decide +kernel
theorem dX1_unmake_132 : decode cX1_unmake 132 = .ok (.putfield 40, 3) := by decide +kernel
theorem dX1_unmake_135 : decode cX1_unmake 135 = .ok (.aload_n 0, 1) := by decide +kernel
theorem dX1_unmake_136 : decode cX1_unmake 136 = .ok (.aload_n 0, 1) := by decide +kernel
theorem dX1_unmake_137 : decode cX1_unmake 137 = .ok (.getfield 28, 3) := by decide +kernel
theorem dX1_unmake_140 : decode cX1_unmake 140 = .ok (.iconst 5, 1) := by decide +kernel
theorem dX1_unmake_141 : decode cX1_unmake 141 = .ok (.aload_n 0, 1) := by decide +kernel
theorem dX1_unmake_142 : decode cX1_unmake 142 = .ok (.getfield 43, 3) := by decide +kernel
theorem dX1_unmake_145 : decode cX1_unmake 145 = .ok (.imul, 1) := by decide +kernel
theorem dX1_unmake_146 : decode cX1_unmake 146 = .ok (.iconst 4, 1) := by decide +kernel
theorem dX1_unmake_147 : decode cX1_unmake 147 = .ok (.iadd, 1) := by decide +kernel
theorem dX1_unmake_148 : decode cX1_unmake 148 = .ok (.iaload, 1) := by decide +kernel
theorem dX1_unmake_149 : decode cX1_unmake 149 = .ok (.putfield 17, 3) := by decide +kernel
theorem dX1_unmake_152 : decode cX1_unmake 152 = .ok (.aload_n 0, 1) := by decide +kernel
theorem dX1_unmake_153 : decode cX1_unmake 153 = .ok (.getfield 20, 3) := by decide +kernel
theorem dX1_unmake_156 : decode cX1_unmake 156 = .ok (.aload_n 0, 1) := by decide +kernel
theorem dX1_unmake_157 : decode cX1_unmake 157 = .ok (.getfield 43, 3) := by decide +kernel
theorem dX1_unmake_160 : decode cX1_unmake 160 = .ok (.iaload, 1) := by decide +kernel
theorem dX1_unmake_161 : decode cX1_unmake 161 = .ok (.ireturn, 1) := by decide +kernel
set_option maxRecDepth 20000 in
theorem ggX1_at_X1_isSquare : GoodIn wsX1_at wsX1_isSquare := goodIn_r _ [6] (by decide +kernel) (by decide +kernel)
set_option maxRecDepth 20000 in
theorem gX1_at_X1_isSquare : GoodIn wsX1_at (va_wsS RX1 53 yX1_isSquare wsX1_isSquare) := goodIn_app (goodIn_of _ (by decide +kernel)) ggX1_at_X1_isSquare
theorem dX1_at_0 : decode cX1_at 0 = .ok (.aload_n 0, 1) := by decide +kernel
theorem dX1_at_1 : decode cX1_at 1 = .ok (.iload_n 1, 1) := by decide +kernel
theorem dX1_at_2 : decode cX1_at 2 = .ok (.invokestatic 53, 3) := by decide +kernel
theorem dX1_at_5 : decode cX1_at 5 = .ok (.ifCond .eq 7, 3) := by decide +kernel
theorem dX1_at_8 : decode cX1_at 8 = .ok (.iconst 0, 1) := by decide +kernel
theorem dX1_at_9 : decode cX1_at 9 = .ok (.goto 4, 3) := by decide +kernel
theorem dX1_at_12 : decode cX1_at 12 = .ok (.iconst 1, 1) := by decide +kernel
theorem dX1_at_13 : decode cX1_at 13 = .ok (.putfield 31, 3) := by decide +kernel
theorem dX1_at_16 : decode cX1_at 16 = .ok (.aload_n 0, 1) := by decide +kernel
theorem dX1_at_17 : decode cX1_at 17 = .ok (.getfield 31, 3) := by decide +kernel
theorem dX1_at_20 : decode cX1_at 20 = .ok (.ifCond .le 7, 3) := by decide +kernel
theorem dX1_at_23 : decode cX1_at 23 = .ok (.iconst 0, 1) := by decide +kernel
theorem dX1_at_24 : decode cX1_at 24 = .ok (.goto 9, 3) := by decide +kernel
theorem dX1_at_27 : decode cX1_at 27 = .ok (.aload_n 0, 1) := by decide +kernel
theorem dX1_at_28 : decode cX1_at 28 = .ok (.getfield 7, 3) := by decide +kernel
theorem dX1_at_31 : decode cX1_at 31 = .ok (.iload_n 1, 1) := by decide +kernel
theorem dX1_at_32 : decode cX1_at 32 = .ok (.iaload, 1) := by decide +kernel
theorem dX1_at_33 : decode cX1_at 33 = .ok (.ireturn, 1) := by decide +kernel
theorem dX1_where_0 : decode cX1_where 0 = .ok (.aload_n 0, 1) := by decide +kernel
theorem dX1_where_1 : decode cX1_where 1 = .ok (.iconst 0, 1) := by decide +kernel
theorem dX1_where_2 : decode cX1_where 2 = .ok (.putfield 31, 3) := by decide +kernel
theorem dX1_where_5 : decode cX1_where 5 = .ok (.lconst 0, 1) := by decide +kernel
theorem dX1_where_6 : decode cX1_where 6 = .ok (.lstore_n 2, 1) := by decide +kernel
theorem dX1_where_7 : decode cX1_where 7 = .ok (.iconst 0, 1) := by decide +kernel
theorem dX1_where_8 : decode cX1_where 8 = .ok (.istore 4, 2) := by decide +kernel
theorem dX1_where_10 : decode cX1_where 10 = .ok (.iload 4, 2) := by decide +kernel
theorem dX1_where_12 : decode cX1_where 12 = .ok (.bipush 64, 2) := by decide +kernel
theorem dX1_where_14 : decode cX1_where 14 = .ok (.if_icmp .ge 31, 3) := by decide +kernel
theorem dX1_where_17 : decode cX1_where 17 = .ok (.aload_n 0, 1) := by decide +kernel
theorem dX1_where_18 : decode cX1_where 18 = .ok (.getfield 7, 3) := by decide +kernel
theorem dX1_where_21 : decode cX1_where 21 = .ok (.iload 4, 2) := by decide +kernel
theorem dX1_where_23 : decode cX1_where 23 = .ok (.iaload, 1) := by decide +kernel
theorem dX1_where_24 : decode cX1_where 24 = .ok (.iload_n 1, 1) := by decide +kernel
theorem dX1_where_25 : decode cX1_where 25 = .ok (.if_icmp .ne 12, 3) := by decide +kernel
theorem dX1_where_28 : decode cX1_where 28 = .ok (.lload_n 2, 1) := by decide +kernel
theorem dX1_where_29 : decode cX1_where 29 = .ok (.lconst 1, 1) := by decide +kernel
theorem dX1_where_30 : decode cX1_where 30 = .ok (.iload 4, 2) := by decide +kernel
theorem dX1_where_32 : decode cX1_where 32 = .ok (.lshl, 1) := by decide +kernel
theorem dX1_where_33 : decode cX1_where 33 = .ok (.lor, 1) := by decide +kernel
theorem dX1_where_34 : decode cX1_where 34 = .ok (.goto 4, 3) := by decide +kernel
theorem dX1_where_37 : decode cX1_where 37 = .ok (.lload_n 2, 1) := by decide +kernel
theorem dX1_where_38 : decode cX1_where 38 = .ok (.lstore_n 2, 1) := by decide +kernel
theorem dX1_where_39 : decode cX1_where 39 = .ok (.iinc 4 1, 3) := by decide +kernel
theorem dX1_where_42 : decode cX1_where 42 = .ok (.goto (-32), 3) := by decide +kernel
theorem dX1_where_45 : decode cX1_where 45 = .ok (.lload_n 2, 1) := by decide +kernel
theorem dX1_where_46 : decode cX1_where 46 = .ok (.lreturn, 1) := by decide +kernel
theorem dX1_mixed_0 : decode cX1_mixed 0 = .ok (.lload_n 0, 1) := by decide +kernel
theorem dX1_mixed_1 : decode cX1_mixed 1 = .ok (.ldc2_w 103, 3) := by decide +kernel
theorem dX1_mixed_4 : decode cX1_mixed 4 = .ok (.ladd, 1) := by decide +kernel
theorem dX1_mixed_5 : decode cX1_mixed 5 = .ok (.lstore_n 2, 1) := by decide +kernel
theorem dX1_mixed_6 : decode cX1_mixed 6 = .ok (.lload_n 2, 1) := by decide +kernel
theorem dX1_mixed_7 : decode cX1_mixed 7 = .ok (.lload_n 2, 1) := by decide +kernel
theorem dX1_mixed_8 : decode cX1_mixed 8 = .ok (.bipush 30, 2) := by decide +kernel
theorem dX1_mixed_10 : decode cX1_mixed 10 = .ok (.lushr, 1) := by decide +kernel
theorem dX1_mixed_11 : decode cX1_mixed 11 = .ok (.lxor, 1) := by decide +kernel
theorem dX1_mixed_12 : decode cX1_mixed 12 = .ok (.ldc2_w 105, 3) := by decide +kernel
theorem dX1_mixed_15 : decode cX1_mixed 15 = .ok (.lmul, 1) := by decide +kernel
theorem dX1_mixed_16 : decode cX1_mixed 16 = .ok (.lstore_n 2, 1) := by decide +kernel
theorem dX1_mixed_17 : decode cX1_mixed 17 = .ok (.lload_n 2, 1) := by decide +kernel
theorem dX1_mixed_18 : decode cX1_mixed 18 = .ok (.lload_n 2, 1) := by decide +kernel
theorem dX1_mixed_19 : decode cX1_mixed 19 = .ok (.bipush 27, 2) := by decide +kernel
theorem dX1_mixed_21 : decode cX1_mixed 21 = .ok (.lushr, 1) := by decide +kernel
theorem dX1_mixed_22 : decode cX1_mixed 22 = .ok (.lxor, 1) := by decide +kernel
theorem dX1_mixed_23 : decode cX1_mixed 23 = .ok (.ldc2_w 107, 3) := by decide +kernel
theorem dX1_mixed_26 : decode cX1_mixed 26 = .ok (.lmul, 1) := by decide +kernel
theorem dX1_mixed_27 : decode cX1_mixed 27 = .ok (.lstore_n 2, 1) := by decide +kernel
theorem dX1_mixed_28 : decode cX1_mixed 28 = .ok (.lload_n 2, 1) := by decide +kernel
theorem dX1_mixed_29 : decode cX1_mixed 29 = .ok (.lload_n 2, 1) := by decide +kernel
theorem dX1_mixed_30 : decode cX1_mixed 30 = .ok (.bipush 31, 2) := by decide +kernel
theorem dX1_mixed_32 : decode cX1_mixed 32 = .ok (.lushr, 1) := by decide +kernel
theorem dX1_mixed_33 : decode cX1_mixed 33 = .ok (.lxor, 1) := by decide +kernel
theorem dX1_mixed_34 : decode cX1_mixed 34 = .ok (.lreturn, 1) := by decide +kernel
set_option maxRecDepth 20000 in
theorem ggX1_key_X1_mixed : GoodIn wsX1_key wsX1_mixed := goodIn_r _ [13, 14, 15, 16] (by decide +kernel) (by decide +kernel)
set_option maxRecDepth 20000 in
theorem gX1_key_X1_mixed : GoodIn wsX1_key (va_wsS RX1 111 yX1_mixed wsX1_mixed) := goodIn_app (goodIn_of _ (by decide +kernel)) ggX1_key_X1_mixed
theorem dX1_key_0 : decode cX1_key 0 = .ok (.aload_n 0, 1) := by decide +kernel
theorem dX1_key_1 : decode cX1_key 1 = .ok (.iconst 0, 1) := by decide +kernel
theorem dX1_key_2 : decode cX1_key 2 = .ok (.putfield 31, 3) := by decide +kernel
theorem dX1_key_5 : decode cX1_key 5 = .ok (.ldc2_w 109, 3) := by decide +kernel
theorem dX1_key_8 : decode cX1_key 8 = .ok (.aload_n 0, 1) := by decide +kernel
theorem dX1_key_9 : decode cX1_key 9 = .ok (.getfield 37, 3) := by decide +kernel
theorem dX1_key_12 : decode cX1_key 12 = .ok (.i2l, 1) := by decide +kernel
theorem dX1_key_13 : decode cX1_key 13 = .ok (.ladd, 1) := by decide +kernel
theorem dX1_key_14 : decode cX1_key 14 = .ok (.invokestatic 111, 3) := by decide +kernel
theorem dX1_key_17 : decode cX1_key 17 = .ok (.ldc2_w 115, 3) := by decide +kernel
theorem dX1_key_20 : decode cX1_key 20 = .ok (.aload_n 0, 1) := by decide +kernel
theorem dX1_key_21 : decode cX1_key 21 = .ok (.getfield 13, 3) := by decide +kernel
theorem dX1_key_24 : decode cX1_key 24 = .ok (.i2l, 1) := by decide +kernel
theorem dX1_key_25 : decode cX1_key 25 = .ok (.ladd, 1) := by decide +kernel
theorem dX1_key_26 : decode cX1_key 26 = .ok (.invokestatic 111, 3) := by decide +kernel
theorem dX1_key_29 : decode cX1_key 29 = .ok (.lxor, 1) := by decide +kernel
theorem dX1_key_30 : decode cX1_key 30 = .ok (.lstore_n 1, 1) := by decide +kernel
theorem dX1_key_31 : decode cX1_key 31 = .ok (.iconst 0, 1) := by decide +kernel
theorem dX1_key_32 : decode cX1_key 32 = .ok (.istore_n 3, 1) := by decide +kernel
theorem dX1_key_33 : decode cX1_key 33 = .ok (.iload_n 3, 1) := by decide +kernel
theorem dX1_key_34 : decode cX1_key 34 = .ok (.bipush 64, 2) := by decide +kernel
theorem dX1_key_36 : decode cX1_key 36 = .ok (.if_icmp .ge 42, 3) := by decide +kernel
theorem dX1_key_39 : decode cX1_key 39 = .ok (.aload_n 0, 1) := by decide +kernel
theorem dX1_key_40 : decode cX1_key 40 = .ok (.getfield 7, 3) := by decide +kernel
theorem dX1_key_43 : decode cX1_key 43 = .ok (.iload_n 3, 1) := by decide +kernel
theorem dX1_key_44 : decode cX1_key 44 = .ok (.iaload, 1) := by decide +kernel
theorem dX1_key_45 : decode cX1_key 45 = .ok (.ifCond .le 25, 3) := by decide +kernel
theorem dX1_key_48 : decode cX1_key 48 = .ok (.lload_n 1, 1) := by decide +kernel
theorem dX1_key_49 : decode cX1_key 49 = .ok (.ldc2_w 117, 3) := by decide +kernel
theorem dX1_key_52 : decode cX1_key 52 = .ok (.aload_n 0, 1) := by decide +kernel
theorem dX1_key_53 : decode cX1_key 53 = .ok (.getfield 7, 3) := by decide +kernel
theorem dX1_key_56 : decode cX1_key 56 = .ok (.iload_n 3, 1) := by decide +kernel
theorem dX1_key_57 : decode cX1_key 57 = .ok (.iaload, 1) := by decide +kernel
theorem dX1_key_58 : decode cX1_key 58 = .ok (.i2l, 1) := by decide +kernel
theorem dX1_key_59 : decode cX1_key 59 = .ok (.lmul, 1) := by decide +kernel
theorem dX1_key_60 : decode cX1_key 60 = .ok (.iload_n 3, 1) := by decide +kernel
theorem dX1_key_61 : decode cX1_key 61 = .ok (.i2l, 1) := by decide +kernel
theorem dX1_key_62 : decode cX1_key 62 = .ok (.ladd, 1) := by decide +kernel
theorem dX1_key_63 : decode cX1_key 63 = .ok (.invokestatic 111, 3) := by decide +kernel
theorem dX1_key_66 : decode cX1_key 66 = .ok (.lxor, 1) := by decide +kernel
theorem dX1_key_67 : decode cX1_key 67 = .ok (.goto 4, 3) := by decide +kernel
theorem dX1_key_70 : decode cX1_key 70 = .ok (.lload_n 1, 1) := by decide +kernel
theorem dX1_key_71 : decode cX1_key 71 = .ok (.lstore_n 1, 1) := by decide +kernel
theorem dX1_key_72 : decode cX1_key 72 = .ok (.iinc 3 1, 3) := by decide +kernel
theorem dX1_key_75 : decode cX1_key 75 = .ok (.goto (-42), 3) := by decide +kernel
theorem dX1_key_78 : decode cX1_key 78 = .ok (.aload_n 0, 1) := by decide +kernel
theorem dX1_key_79 : decode cX1_key 79 = .ok (.getfield 34, 3) := by decide +kernel
theorem dX1_key_82 : decode cX1_key 82 = .ok (.iconst 1, 1) := by decide +kernel
theorem dX1_key_83 : decode cX1_key 83 = .ok (.if_icmp .ne 14, 3) := by decide +kernel
theorem dX1_key_86 : decode cX1_key 86 = .ok (.lload_n 1, 1) := by decide +kernel
theorem dX1_key_87 : decode cX1_key 87 = .ok (.ldc2_w 119, 3) := by decide +kernel
end
section
theorem dX1_key_90 : decode cX1_key 90 = .ok (.invokestatic 111, 3) := by decide +kernel
theorem dX1_key_93 : decode cX1_key 93 = .ok (.lxor, 1) := by decide +kernel
theorem dX1_key_94 : decode cX1_key 94 = .ok (.goto 4, 3) := by decide +kernel
theorem dX1_key_97 : decode cX1_key 97 = .ok (.lload_n 1, 1) := by decide +kernel
theorem dX1_key_98 : decode cX1_key 98 = .ok (.lreturn, 1) := by decide +kernel
theorem dX1_move_0 : decode cX1_move 0 = .ok (.aload_n 0, 1) := by decide +kernel
theorem dX1_move_1 : decode cX1_move 1 = .ok (.iconst 0, 1) := by decide +kernel
theorem dX1_move_2 : decode cX1_move 2 = .ok (.putfield 31, 3) := by decide +kernel
theorem dX1_move_5 : decode cX1_move 5 = .ok (.iload_n 1, 1) := by decide +kernel
theorem dX1_move_6 : decode cX1_move 6 = .ok (.ifCond .lt 11, 3) := by decide +kernel
theorem dX1_move_9 : decode cX1_move 9 = .ok (.iload_n 1, 1) := by decide +kernel
theorem dX1_move_10 : decode cX1_move 10 = .ok (.aload_n 0, 1) := by decide +kernel
theorem dX1_move_11 : decode cX1_move 11 = .ok (.getfield 43, 3) := by decide +kernel
theorem dX1_move_14 : decode cX1_move 14 = .ok (.if_icmp .lt 7, 3) := by decide +kernel
theorem dX1_move_17 : decode cX1_move 17 = .ok (.iconst (-1), 1) := by decide +kernel
theorem dX1_move_18 : decode cX1_move 18 = .ok (.goto 9, 3) := by decide +kernel
theorem dX1_move_21 : decode cX1_move 21 = .ok (.aload_n 0, 1) := by decide +kernel
theorem dX1_move_22 : decode cX1_move 22 = .ok (.getfield 20, 3) := by decide +kernel
theorem dX1_move_25 : decode cX1_move 25 = .ok (.iload_n 1, 1) := by decide +kernel
theorem dX1_move_26 : decode cX1_move 26 = .ok (.iaload, 1) := by decide +kernel
theorem dX1_move_27 : decode cX1_move 27 = .ok (.ireturn, 1) := by decide +kernel
set_option maxRecDepth 20000 in
theorem ggX1_material_X1_sideOf : GoodIn wsX1_material wsX1_sideOf := goodIn_r _ [5] (by decide +kernel) (by decide +kernel)
set_option maxRecDepth 20000 in
theorem gX1_material_X1_sideOf : GoodIn wsX1_material (va_wsS RX1 68 yX1_sideOf wsX1_sideOf) := goodIn_app (goodIn_of _ (by decide +kernel)) ggX1_material_X1_sideOf
set_option maxRecDepth 20000 in
theorem ggX1_material_X1_kindOf : GoodIn wsX1_material wsX1_kindOf := goodIn_r _ [8] (by decide +kernel) (by decide +kernel)
set_option maxRecDepth 20000 in
theorem gX1_material_X1_kindOf : GoodIn wsX1_material (va_wsS RX1 61 yX1_kindOf wsX1_kindOf) := goodIn_app (goodIn_of _ (by decide +kernel)) ggX1_material_X1_kindOf
theorem dX1_material_0 : decode cX1_material 0 = .ok (.iconst 0, 1) := by decide +kernel
theorem dX1_material_1 : decode cX1_material 1 = .ok (.istore_n 2, 1) := by decide +kernel
theorem dX1_material_2 : decode cX1_material 2 = .ok (.iconst 0, 1) := by decide +kernel
theorem dX1_material_3 : decode cX1_material 3 = .ok (.istore_n 3, 1) := by decide +kernel
theorem dX1_material_4 : decode cX1_material 4 = .ok (.iload_n 3, 1) := by decide +kernel
theorem dX1_material_5 : decode cX1_material 5 = .ok (.bipush 64, 2) := by decide +kernel
theorem dX1_material_7 : decode cX1_material 7 = .ok (.if_icmp .ge 88, 3) := by decide +kernel
theorem dX1_material_10 : decode cX1_material 10 = .ok (.aload_n 0, 1) := by decide +kernel
theorem dX1_material_11 : decode cX1_material 11 = .ok (.getfield 7, 3) := by decide +kernel
theorem dX1_material_14 : decode cX1_material 14 = .ok (.iload_n 3, 1) := by decide +kernel
theorem dX1_material_15 : decode cX1_material 15 = .ok (.iaload, 1) := by decide +kernel
theorem dX1_material_16 : decode cX1_material 16 = .ok (.invokestatic 68, 3) := by decide +kernel
theorem dX1_material_19 : decode cX1_material 19 = .ok (.iload_n 1, 1) := by decide +kernel
theorem dX1_material_20 : decode cX1_material 20 = .ok (.if_icmp .ne 15, 3) := by decide +kernel
theorem dX1_material_23 : decode cX1_material 23 = .ok (.aload_n 0, 1) := by decide +kernel
theorem dX1_material_24 : decode cX1_material 24 = .ok (.getfield 7, 3) := by decide +kernel
theorem dX1_material_27 : decode cX1_material 27 = .ok (.iload_n 3, 1) := by decide +kernel
theorem dX1_material_28 : decode cX1_material 28 = .ok (.iaload, 1) := by decide +kernel
theorem dX1_material_29 : decode cX1_material 29 = .ok (.invokestatic 61, 3) := by decide +kernel
theorem dX1_material_32 : decode cX1_material 32 = .ok (.goto 4, 3) := by decide +kernel
theorem dX1_material_35 : decode cX1_material 35 = .ok (.iconst 0, 1) := by decide +kernel
theorem dX1_material_36 : decode cX1_material 36 = .ok (.istore 4, 2) := by decide +kernel
theorem dX1_material_38 : decode cX1_material 38 = .ok (.iload_n 2, 1) := by decide +kernel
theorem dX1_material_39 : decode cX1_material 39 = .ok (.iload 4, 2) := by decide +kernel
theorem dX1_material_41 : decode cX1_material 41 = .ok (.iconst 1, 1) := by decide +kernel
theorem dX1_material_42 : decode cX1_material 42 = .ok (.if_icmp .ne 7, 3) := by decide +kernel
theorem dX1_material_45 : decode cX1_material 45 = .ok (.iconst 1, 1) := by decide +kernel
theorem dX1_material_46 : decode cX1_material 46 = .ok (.goto 41, 3) := by decide +kernel
theorem dX1_material_49 : decode cX1_material 49 = .ok (.iload 4, 2) := by decide +kernel
theorem dX1_material_51 : decode cX1_material 51 = .ok (.iconst 2, 1) := by decide +kernel
theorem dX1_material_52 : decode cX1_material 52 = .ok (.if_icmp .eq 9, 3) := by decide +kernel
theorem dX1_material_55 : decode cX1_material 55 = .ok (.iload 4, 2) := by decide +kernel
theorem dX1_material_57 : decode cX1_material 57 = .ok (.iconst 3, 1) := by decide +kernel
theorem dX1_material_58 : decode cX1_material 58 = .ok (.if_icmp .ne 7, 3) := by decide +kernel
theorem dX1_material_61 : decode cX1_material 61 = .ok (.iconst 3, 1) := by decide +kernel
theorem dX1_material_62 : decode cX1_material 62 = .ok (.goto 25, 3) := by decide +kernel
theorem dX1_material_65 : decode cX1_material 65 = .ok (.iload 4, 2) := by decide +kernel
theorem dX1_material_67 : decode cX1_material 67 = .ok (.iconst 4, 1) := by decide +kernel
theorem dX1_material_68 : decode cX1_material 68 = .ok (.if_icmp .ne 7, 3) := by decide +kernel
theorem dX1_material_71 : decode cX1_material 71 = .ok (.iconst 5, 1) := by decide +kernel
theorem dX1_material_72 : decode cX1_material 72 = .ok (.goto 15, 3) := by decide +kernel
theorem dX1_material_75 : decode cX1_material 75 = .ok (.iload 4, 2) := by decide +kernel
theorem dX1_material_77 : decode cX1_material 77 = .ok (.iconst 5, 1) := by decide +kernel
theorem dX1_material_78 : decode cX1_material 78 = .ok (.if_icmp .ne 8, 3) := by decide +kernel
theorem dX1_material_81 : decode cX1_material 81 = .ok (.bipush 9, 2) := by decide +kernel
theorem dX1_material_83 : decode cX1_material 83 = .ok (.goto 4, 3) := by decide +kernel
theorem dX1_material_86 : decode cX1_material 86 = .ok (.iconst 0, 1) := by decide +kernel
theorem dX1_material_87 : decode cX1_material 87 = .ok (.iadd, 1) := by decide +kernel
theorem dX1_material_88 : decode cX1_material 88 = .ok (.istore_n 2, 1) := by decide +kernel
theorem dX1_material_89 : decode cX1_material 89 = .ok (.iinc 3 1, 3) := by decide +kernel
theorem dX1_material_92 : decode cX1_material 92 = .ok (.goto (-88), 3) := by decide +kernel
theorem dX1_material_95 : decode cX1_material 95 = .ok (.iload_n 2, 1) := by decide +kernel
theorem dX1_material_96 : decode cX1_material 96 = .ok (.ireturn, 1) := by decide +kernel
set_option maxRecDepth 20000 in
theorem ggX1_look_X1_pieces : GoodIn wsX1_look wsX1_pieces := goodIn_r _ [12, 13, 24, 25, 26, 27, 28, 29, 30, 31, 32, 33, 34] (by decide +kernel) (by decide +kernel)
set_option maxRecDepth 20000 in
theorem gX1_look_X1_pieces : GoodIn wsX1_look (wsV RX1 57 RX1 yX1_pieces wsX1_pieces) := goodIn_app (goodIn_of _ (by decide +kernel)) ggX1_look_X1_pieces
set_option maxRecDepth 20000 in
theorem ggX1_look_X1_material : GoodIn wsX1_look wsX1_material := goodIn_r _ [17, 13, 18, 19, 11, 20, 21, 22, 23, 24, 25, 26, 27, 28, 29, 30, 31, 32, 33, 34] (by decide +kernel) (by decide +kernel)
set_option maxRecDepth 20000 in
theorem gX1_look_X1_material : GoodIn wsX1_look (wsV RX1 121 RX1 yX1_material wsX1_material) := goodIn_app (goodIn_of _ (by decide +kernel)) ggX1_look_X1_material
theorem dX1_look_0 : decode cX1_look 0 = .ok (.aload_n 0, 1) := by decide +kernel
theorem dX1_look_1 : decode cX1_look 1 = .ok (.iconst 0, 1) := by decide +kernel
theorem dX1_look_2 : decode cX1_look 2 = .ok (.putfield 31, 3) := by decide +kernel
theorem dX1_look_5 : decode cX1_look 5 = .ok (.iload_n 1, 1) := by decide +kernel
theorem dX1_look_6 : decode cX1_look 6 = .ok (.tableswitch 94 0 8 #[50, 55, 60, 65, 70, 75, 80, 85, 85], 50) := by decide +kernel
theorem dX1_look_56 : decode cX1_look 56 = .ok (.aload_n 0, 1) := by decide +kernel
theorem dX1_look_57 : decode cX1_look 57 = .ok (.getfield 34, 3) := by decide +kernel
theorem dX1_look_60 : decode cX1_look 60 = .ok (.ireturn, 1) := by decide +kernel
theorem dX1_look_61 : decode cX1_look 61 = .ok (.aload_n 0, 1) := by decide +kernel
theorem dX1_look_62 : decode cX1_look 62 = .ok (.getfield 37, 3) := by decide +kernel
theorem dX1_look_65 : decode cX1_look 65 = .ok (.ireturn, 1) := by decide +kernel
theorem dX1_look_66 : decode cX1_look 66 = .ok (.aload_n 0, 1) := by decide +kernel
theorem dX1_look_67 : decode cX1_look 67 = .ok (.getfield 13, 3) := by decide +kernel
theorem dX1_look_70 : decode cX1_look 70 = .ok (.ireturn, 1) := by decide +kernel
theorem dX1_look_71 : decode cX1_look 71 = .ok (.aload_n 0, 1) := by decide +kernel
theorem dX1_look_72 : decode cX1_look 72 = .ok (.getfield 40, 3) := by decide +kernel
theorem dX1_look_75 : decode cX1_look 75 = .ok (.ireturn, 1) := by decide +kernel
theorem dX1_look_76 : decode cX1_look 76 = .ok (.aload_n 0, 1) := by decide +kernel
theorem dX1_look_77 : decode cX1_look 77 = .ok (.getfield 17, 3) := by decide +kernel
theorem dX1_look_80 : decode cX1_look 80 = .ok (.ireturn, 1) := by decide +kernel
theorem dX1_look_81 : decode cX1_look 81 = .ok (.aload_n 0, 1) := by decide +kernel
theorem dX1_look_82 : decode cX1_look 82 = .ok (.invokevirtual 57, 3) := by decide +kernel
theorem dX1_look_85 : decode cX1_look 85 = .ok (.ireturn, 1) := by decide +kernel
theorem dX1_look_86 : decode cX1_look 86 = .ok (.aload_n 0, 1) := by decide +kernel
theorem dX1_look_87 : decode cX1_look 87 = .ok (.getfield 43, 3) := by decide +kernel
theorem dX1_look_90 : decode cX1_look 90 = .ok (.ireturn, 1) := by decide +kernel
theorem dX1_look_91 : decode cX1_look 91 = .ok (.aload_n 0, 1) := by decide +kernel
theorem dX1_look_92 : decode cX1_look 92 = .ok (.iload_n 1, 1) := by decide +kernel
theorem dX1_look_93 : decode cX1_look 93 = .ok (.bipush 7, 2) := by decide +kernel
theorem dX1_look_95 : decode cX1_look 95 = .ok (.isub, 1) := by decide +kernel
theorem dX1_look_96 : decode cX1_look 96 = .ok (.invokevirtual 121, 3) := by decide +kernel
theorem dX1_look_99 : decode cX1_look 99 = .ok (.ireturn, 1) := by decide +kernel
theorem dX1_look_100 : decode cX1_look 100 = .ok (.iconst (-1), 1) := by decide +kernel
theorem dX1_look_101 : decode cX1_look 101 = .ok (.ireturn, 1) := by decide +kernel
theorem dJ6_compare_7cf53_0 : decode cJ6_compare_7cf53 0 = .ok (.iload_n 0, 1) := by decide +kernel
theorem dJ6_compare_7cf53_1 : decode cJ6_compare_7cf53 1 = .ok (.iload_n 1, 1) := by decide +kernel
theorem dJ6_compare_7cf53_2 : decode cJ6_compare_7cf53 2 = .ok (.if_icmp .ge 7, 3) := by decide +kernel
theorem dJ6_compare_7cf53_5 : decode cJ6_compare_7cf53 5 = .ok (.iconst (-1), 1) := by decide +kernel
theorem dJ6_compare_7cf53_6 : decode cJ6_compare_7cf53 6 = .ok (.goto 13, 3) := by decide +kernel
theorem dJ6_compare_7cf53_9 : decode cJ6_compare_7cf53 9 = .ok (.iload_n 0, 1) := by decide +kernel
theorem dJ6_compare_7cf53_10 : decode cJ6_compare_7cf53 10 = .ok (.iload_n 1, 1) := by decide +kernel
theorem dJ6_compare_7cf53_11 : decode cJ6_compare_7cf53 11 = .ok (.if_icmp .ne 7, 3) := by decide +kernel
theorem dJ6_compare_7cf53_14 : decode cJ6_compare_7cf53 14 = .ok (.iconst 0, 1) := by decide +kernel
theorem dJ6_compare_7cf53_15 : decode cJ6_compare_7cf53 15 = .ok (.goto 4, 3) := by decide +kernel
theorem dJ6_compare_7cf53_18 : decode cJ6_compare_7cf53 18 = .ok (.iconst 1, 1) := by decide +kernel
theorem dJ6_compare_7cf53_19 : decode cJ6_compare_7cf53 19 = .ok (.ireturn, 1) := by decide +kernel
theorem dJ13_bitCount_95d88_0 : decode cJ13_bitCount_95d88 0 = .ok (.lload_n 0, 1) := by decide +kernel
theorem dJ13_bitCount_95d88_1 : decode cJ13_bitCount_95d88 1 = .ok (.lload_n 0, 1) := by decide +kernel
theorem dJ13_bitCount_95d88_2 : decode cJ13_bitCount_95d88 2 = .ok (.iconst 1, 1) := by decide +kernel
theorem dJ13_bitCount_95d88_3 : decode cJ13_bitCount_95d88 3 = .ok (.lushr, 1) := by decide +kernel
theorem dJ13_bitCount_95d88_4 : decode cJ13_bitCount_95d88 4 = .ok (.ldc2_w 314, 3) := by decide +kernel
theorem dJ13_bitCount_95d88_7 : decode cJ13_bitCount_95d88 7 = .ok (.land, 1) := by decide +kernel
theorem dJ13_bitCount_95d88_8 : decode cJ13_bitCount_95d88 8 = .ok (.lsub, 1) := by decide +kernel
theorem dJ13_bitCount_95d88_9 : decode cJ13_bitCount_95d88 9 = .ok (.lstore_n 0, 1) := by decide +kernel
theorem dJ13_bitCount_95d88_10 : decode cJ13_bitCount_95d88 10 = .ok (.lload_n 0, 1) := by decide +kernel
theorem dJ13_bitCount_95d88_11 : decode cJ13_bitCount_95d88 11 = .ok (.ldc2_w 316, 3) := by decide +kernel
theorem dJ13_bitCount_95d88_14 : decode cJ13_bitCount_95d88 14 = .ok (.land, 1) := by decide +kernel
theorem dJ13_bitCount_95d88_15 : decode cJ13_bitCount_95d88 15 = .ok (.lload_n 0, 1) := by decide +kernel
theorem dJ13_bitCount_95d88_16 : decode cJ13_bitCount_95d88 16 = .ok (.iconst 2, 1) := by decide +kernel
theorem dJ13_bitCount_95d88_17 : decode cJ13_bitCount_95d88 17 = .ok (.lushr, 1) := by decide +kernel
theorem dJ13_bitCount_95d88_18 : decode cJ13_bitCount_95d88 18 = .ok (.ldc2_w 316, 3) := by decide +kernel
theorem dJ13_bitCount_95d88_21 : decode cJ13_bitCount_95d88 21 = .ok (.land, 1) := by decide +kernel
theorem dJ13_bitCount_95d88_22 : decode cJ13_bitCount_95d88 22 = .ok (.ladd, 1) := by decide +kernel
theorem dJ13_bitCount_95d88_23 : decode cJ13_bitCount_95d88 23 = .ok (.lstore_n 0, 1) := by decide +kernel
theorem dJ13_bitCount_95d88_24 : decode cJ13_bitCount_95d88 24 = .ok (.lload_n 0, 1) := by decide +kernel
theorem dJ13_bitCount_95d88_25 : decode cJ13_bitCount_95d88 25 = .ok (.lload_n 0, 1) := by decide +kernel
theorem dJ13_bitCount_95d88_26 : decode cJ13_bitCount_95d88 26 = .ok (.iconst 4, 1) := by decide +kernel
theorem dJ13_bitCount_95d88_27 : decode cJ13_bitCount_95d88 27 = .ok (.lushr, 1) := by decide +kernel
theorem dJ13_bitCount_95d88_28 : decode cJ13_bitCount_95d88 28 = .ok (.ladd, 1) := by decide +kernel
theorem dJ13_bitCount_95d88_29 : decode cJ13_bitCount_95d88 29 = .ok (.ldc2_w 318, 3) := by decide +kernel
theorem dJ13_bitCount_95d88_32 : decode cJ13_bitCount_95d88 32 = .ok (.land, 1) := by decide +kernel
theorem dJ13_bitCount_95d88_33 : decode cJ13_bitCount_95d88 33 = .ok (.lstore_n 0, 1) := by decide +kernel
theorem dJ13_bitCount_95d88_34 : decode cJ13_bitCount_95d88 34 = .ok (.lload_n 0, 1) := by decide +kernel
theorem dJ13_bitCount_95d88_35 : decode cJ13_bitCount_95d88 35 = .ok (.lload_n 0, 1) := by decide +kernel
theorem dJ13_bitCount_95d88_36 : decode cJ13_bitCount_95d88 36 = .ok (.bipush 8, 2) := by decide +kernel
theorem dJ13_bitCount_95d88_38 : decode cJ13_bitCount_95d88 38 = .ok (.lushr, 1) := by decide +kernel
theorem dJ13_bitCount_95d88_39 : decode cJ13_bitCount_95d88 39 = .ok (.ladd, 1) := by decide +kernel
theorem dJ13_bitCount_95d88_40 : decode cJ13_bitCount_95d88 40 = .ok (.lstore_n 0, 1) := by decide +kernel
theorem dJ13_bitCount_95d88_41 : decode cJ13_bitCount_95d88 41 = .ok (.lload_n 0, 1) := by decide +kernel
theorem dJ13_bitCount_95d88_42 : decode cJ13_bitCount_95d88 42 = .ok (.lload_n 0, 1) := by decide +kernel
theorem dJ13_bitCount_95d88_43 : decode cJ13_bitCount_95d88 43 = .ok (.bipush 16, 2) := by decide +kernel
theorem dJ13_bitCount_95d88_45 : decode cJ13_bitCount_95d88 45 = .ok (.lushr, 1) := by decide +kernel
theorem dJ13_bitCount_95d88_46 : decode cJ13_bitCount_95d88 46 = .ok (.ladd, 1) := by decide +kernel
theorem dJ13_bitCount_95d88_47 : decode cJ13_bitCount_95d88 47 = .ok (.lstore_n 0, 1) := by decide +kernel
theorem dJ13_bitCount_95d88_48 : decode cJ13_bitCount_95d88 48 = .ok (.lload_n 0, 1) := by decide +kernel
theorem dJ13_bitCount_95d88_49 : decode cJ13_bitCount_95d88 49 = .ok (.lload_n 0, 1) := by decide +kernel
theorem dJ13_bitCount_95d88_50 : decode cJ13_bitCount_95d88 50 = .ok (.bipush 32, 2) := by decide +kernel
theorem dJ13_bitCount_95d88_52 : decode cJ13_bitCount_95d88 52 = .ok (.lushr, 1) := by decide +kernel
theorem dJ13_bitCount_95d88_53 : decode cJ13_bitCount_95d88 53 = .ok (.ladd, 1) := by decide +kernel
theorem dJ13_bitCount_95d88_54 : decode cJ13_bitCount_95d88 54 = .ok (.lstore_n 0, 1) := by decide +kernel
theorem dJ13_bitCount_95d88_55 : decode cJ13_bitCount_95d88 55 = .ok (.lload_n 0, 1) := by decide +kernel
theorem dJ13_bitCount_95d88_56 : decode cJ13_bitCount_95d88 56 = .ok (.l2i, 1) := by decide +kernel
theorem dJ13_bitCount_95d88_57 : decode cJ13_bitCount_95d88 57 = .ok (.bipush 127, 2) := by decide +kernel
theorem dJ13_bitCount_95d88_59 : decode cJ13_bitCount_95d88 59 = .ok (.iand, 1) := by decide +kernel
theorem dJ13_bitCount_95d88_60 : decode cJ13_bitCount_95d88 60 = .ok (.ireturn, 1) := by decide +kernel
theorem dJ9_abs_0f7a4_0 : decode cJ9_abs_0f7a4 0 = .ok (.iload_n 0, 1) := by decide +kernel
theorem dJ9_abs_0f7a4_1 : decode cJ9_abs_0f7a4 1 = .ok (.ifCond .ge 8, 3) := by decide +kernel
theorem dJ9_abs_0f7a4_4 : decode cJ9_abs_0f7a4 4 = .ok (.iload_n 0, 1) := by decide +kernel
theorem dJ9_abs_0f7a4_5 : decode cJ9_abs_0f7a4 5 = .ok (.ineg, 1) := by decide +kernel
theorem dJ9_abs_0f7a4_6 : decode cJ9_abs_0f7a4 6 = .ok (.goto 4, 3) := by decide +kernel
theorem dJ9_abs_0f7a4_9 : decode cJ9_abs_0f7a4 9 = .ok (.iload_n 0, 1) := by decide +kernel
theorem dJ9_abs_0f7a4_10 : decode cJ9_abs_0f7a4 10 = .ok (.ireturn, 1) := by decide +kernel
theorem dJ9_max_7cf53_0 : decode cJ9_max_7cf53 0 = .ok (.iload_n 0, 1) := by decide +kernel
theorem dJ9_max_7cf53_1 : decode cJ9_max_7cf53 1 = .ok (.iload_n 1, 1) := by decide +kernel
theorem dJ9_max_7cf53_2 : decode cJ9_max_7cf53 2 = .ok (.if_icmp .lt 7, 3) := by decide +kernel
theorem dJ9_max_7cf53_5 : decode cJ9_max_7cf53 5 = .ok (.iload_n 0, 1) := by decide +kernel
theorem dJ9_max_7cf53_6 : decode cJ9_max_7cf53 6 = .ok (.goto 4, 3) := by decide +kernel
theorem dJ9_max_7cf53_9 : decode cJ9_max_7cf53 9 = .ok (.iload_n 1, 1) := by decide +kernel
theorem dJ9_max_7cf53_10 : decode cJ9_max_7cf53 10 = .ok (.ireturn, 1) := by decide +kernel
set_option maxRecDepth 20000 in
theorem ggL_put_X0_put : GoodIn wsL_put wsX0_put := goodIn_ca (goodIn_ca (goodIn_ca (goodIn_r _ [8, 9, 10, 11, 12, 13, 14, 15, 16, 17, 7, 18, 19, 20, 21, 22, 23, 24, 25, 26, 27, 28, 29, 30, 31, 32, 33, 34, 35, 36, 37, 38, 39, 40, 41, 42, 43, 44, 45, 46, 47, 48, 49, 50, 51] (by decide +kernel) (by decide +kernel)) (goodIn_sub (fun _ h => List.mem_cons_of_mem _ (List.mem_append_left _ (List.mem_append_left _ (List.mem_append_right _ h)))) (by decide +kernel))) (goodIn_sub (fun _ h => List.mem_cons_of_mem _ (List.mem_append_left _ (List.mem_append_right _ h))) (by decide +kernel))) (goodIn_sub (fun _ h => List.mem_cons_of_mem _ (List.mem_append_right _ h)) (by decide +kernel))
set_option maxRecDepth 20000 in
theorem gL_put_X0_put : GoodIn wsL_put (wsV RL 7 RX0 yX0_put wsX0_put) := goodIn_app (goodIn_of _ (by decide +kernel)) ggL_put_X0_put
theorem dL_put_0 : decode cL_put 0 = .ok (.aload_n 0, 1) := by decide +kernel
theorem dL_put_1 : decode cL_put 1 = .ok (.iload_n 1, 1) := by decide +kernel
theorem dL_put_2 : decode cL_put 2 = .ok (.iload_n 2, 1) := by decide +kernel
theorem dL_put_3 : decode cL_put 3 = .ok (.invokevirtual 7, 3) := by decide +kernel
theorem dL_put_6 : decode cL_put 6 = .ok (.goto 12, 3) := by decide +kernel
theorem dL_put_9 : decode cL_put 9 = .ok (.astore_n 3, 1) := by decide +kernel
theorem dL_put_10 : decode cL_put 10 = .ok (.iconst 1, 1) := by decide +kernel
theorem dL_put_11 : decode cL_put 11 = .ok (.ireturn, 1) := by decide +kernel
theorem dL_put_12 : decode cL_put 12 = .ok (.astore_n 3, 1) := by decide +kernel
theorem dL_put_13 : decode cL_put 13 = .ok (.iconst 2, 1) := by decide +kernel
theorem dL_put_14 : decode cL_put 14 = .ok (.ireturn, 1) := by decide +kernel
theorem dL_put_15 : decode cL_put 15 = .ok (.astore_n 3, 1) := by decide +kernel
theorem dL_put_16 : decode cL_put 16 = .ok (.iconst 3, 1) := by decide +kernel
theorem dL_put_17 : decode cL_put 17 = .ok (.ireturn, 1) := by decide +kernel
theorem dL_put_18 : decode cL_put 18 = .ok (.iconst 0, 1) := by decide +kernel
theorem dL_put_19 : decode cL_put 19 = .ok (.ireturn, 1) := by decide +kernel
set_option maxRecDepth 20000 in
theorem ggL_state_X0_state : GoodIn wsL_state wsX0_state := goodIn_ca (goodIn_r _ [6, 7, 8, 9, 10, 11, 12, 13, 5, 14, 15, 16, 17, 18, 19, 20, 21, 22, 23, 24, 25, 26, 27, 28, 29, 30, 31, 32, 33, 34, 35] (by decide +kernel) (by decide +kernel)) (goodIn_sub (fun _ h => List.mem_cons_of_mem _ (List.mem_append_right _ h)) (by decide +kernel))
set_option maxRecDepth 20000 in
theorem gL_state_X0_state : GoodIn wsL_state (wsV RL 19 RX0 yX0_state wsX0_state) := goodIn_app (goodIn_of _ (by decide +kernel)) ggL_state_X0_state
theorem dL_state_0 : decode cL_state 0 = .ok (.aload_n 0, 1) := by decide +kernel
theorem dL_state_1 : decode cL_state 1 = .ok (.iload_n 1, 1) := by decide +kernel
theorem dL_state_2 : decode cL_state 2 = .ok (.iload_n 2, 1) := by decide +kernel
theorem dL_state_3 : decode cL_state 3 = .ok (.iload_n 3, 1) := by decide +kernel
theorem dL_state_4 : decode cL_state 4 = .ok (.invokevirtual 19, 3) := by decide +kernel
theorem dL_state_7 : decode cL_state 7 = .ok (.goto 7, 3) := by decide +kernel
theorem dL_state_10 : decode cL_state 10 = .ok (.astore 4, 2) := by decide +kernel
theorem dL_state_12 : decode cL_state 12 = .ok (.iconst 1, 1) := by decide +kernel
theorem dL_state_13 : decode cL_state 13 = .ok (.ireturn, 1) := by decide +kernel
theorem dL_state_14 : decode cL_state 14 = .ok (.iconst 0, 1) := by decide +kernel
theorem dL_state_15 : decode cL_state 15 = .ok (.ireturn, 1) := by decide +kernel
set_option maxRecDepth 20000 in
theorem ggL_clocks_X0_clocks : GoodIn wsL_clocks wsX0_clocks := goodIn_ca (goodIn_r _ [6, 7, 8, 9, 10, 11, 12, 13, 5, 14, 15, 16, 17, 18, 19, 20, 21, 22, 23, 24, 25, 26, 27, 28] (by decide +kernel) (by decide +kernel)) (goodIn_sub (fun _ h => List.mem_cons_of_mem _ (List.mem_append_right _ h)) (by decide +kernel))
set_option maxRecDepth 20000 in
theorem gL_clocks_X0_clocks : GoodIn wsL_clocks (wsV RL 23 RX0 yX0_clocks wsX0_clocks) := goodIn_app (goodIn_of _ (by decide +kernel)) ggL_clocks_X0_clocks
theorem dL_clocks_0 : decode cL_clocks 0 = .ok (.aload_n 0, 1) := by decide +kernel
theorem dL_clocks_1 : decode cL_clocks 1 = .ok (.iload_n 1, 1) := by decide +kernel
theorem dL_clocks_2 : decode cL_clocks 2 = .ok (.iload_n 2, 1) := by decide +kernel
theorem dL_clocks_3 : decode cL_clocks 3 = .ok (.invokevirtual 23, 3) := by decide +kernel
theorem dL_clocks_6 : decode cL_clocks 6 = .ok (.goto 6, 3) := by decide +kernel
theorem dL_clocks_9 : decode cL_clocks 9 = .ok (.astore_n 3, 1) := by decide +kernel
theorem dL_clocks_10 : decode cL_clocks 10 = .ok (.iconst 1, 1) := by decide +kernel
theorem dL_clocks_11 : decode cL_clocks 11 = .ok (.ireturn, 1) := by decide +kernel
theorem dL_clocks_12 : decode cL_clocks 12 = .ok (.iconst 0, 1) := by decide +kernel
theorem dL_clocks_13 : decode cL_clocks 13 = .ok (.ireturn, 1) := by decide +kernel
set_option maxRecDepth 20000 in
theorem ggL_make_X0_make : GoodIn wsL_make wsX0_make := goodIn_ca (goodIn_ca (goodIn_r _ [7, 8, 9, 10, 11, 12, 13, 14, 15, 16, 17, 18, 19, 20, 21, 6, 22, 23, 24, 25, 26, 27, 28, 29, 30, 31, 32, 33, 34, 35, 36, 37, 38, 39, 40, 41, 42, 43, 44, 45, 46, 47, 48, 49, 50, 51, 52, 53, 54, 55, 56, 57, 58, 59, 60, 61, 62, 63, 64, 65, 66, 67, 68, 69, 70, 71, 72, 73, 74, 75, 76, 77, 78, 79, 80, 81, 82, 83, 84, 85, 86, 87, 88, 89, 90, 91, 92, 93, 94, 95, 96, 97, 98, 99, 100, 101, 102, 103, 104, 105, 106, 107, 108, 109, 110, 111, 112, 113, 114, 115, 116, 117, 118, 119, 120, 121, 122, 123, 124, 125, 126, 127, 128, 129, 130, 131, 132, 133, 134, 135, 136, 137, 138, 139, 140, 141, 142, 143, 144, 145, 146, 147, 148, 149, 150, 151, 152, 153, 154, 155, 156, 157, 158, 159, 160, 161, 162, 163, 164, 165, 166, 167, 168, 169, 170, 171, 172, 173, 174, 175] (by decide +kernel) (by decide +kernel)) (goodIn_sub (fun _ h => List.mem_cons_of_mem _ (List.mem_append_left _ (List.mem_append_right _ h))) (by decide +kernel))) (goodIn_sub (fun _ h => List.mem_cons_of_mem _ (List.mem_append_right _ h)) (by decide +kernel))
set_option maxRecDepth 20000 in
theorem gL_make_X0_make : GoodIn wsL_make (wsV RL 26 RX0 yX0_make wsX0_make) := goodIn_app (goodIn_of _ (by decide +kernel)) ggL_make_X0_make
theorem dL_make_0 : decode cL_make 0 = .ok (.aload_n 2, 1) := by decide +kernel
theorem dL_make_1 : decode cL_make 1 = .ok (.iconst 0, 1) := by decide +kernel
theorem dL_make_2 : decode cL_make 2 = .ok (.aload_n 0, 1) := by decide +kernel
theorem dL_make_3 : decode cL_make 3 = .ok (.iload_n 1, 1) := by decide +kernel
theorem dL_make_4 : decode cL_make 4 = .ok (.invokevirtual 26, 3) := by decide +kernel
theorem dL_make_7 : decode cL_make 7 = .ok (.i2l, 1) := by decide +kernel
theorem dL_make_8 : decode cL_make 8 = .ok (.lastore, 1) := by decide +kernel
theorem dL_make_9 : decode cL_make 9 = .ok (.goto 9, 3) := by decide +kernel
theorem dL_make_12 : decode cL_make 12 = .ok (.astore_n 3, 1) := by decide +kernel
theorem dL_make_13 : decode cL_make 13 = .ok (.iconst 1, 1) := by decide +kernel
theorem dL_make_14 : decode cL_make 14 = .ok (.ireturn, 1) := by decide +kernel
theorem dL_make_15 : decode cL_make 15 = .ok (.astore_n 3, 1) := by decide +kernel
theorem dL_make_16 : decode cL_make 16 = .ok (.iconst 2, 1) := by decide +kernel
theorem dL_make_17 : decode cL_make 17 = .ok (.ireturn, 1) := by decide +kernel
theorem dL_make_18 : decode cL_make 18 = .ok (.iconst 0, 1) := by decide +kernel
theorem dL_make_19 : decode cL_make 19 = .ok (.ireturn, 1) := by decide +kernel
set_option maxRecDepth 20000 in
theorem ggL_unmake_X0_unmake : GoodIn wsL_unmake wsX0_unmake := goodIn_ca (goodIn_r _ [6, 7, 8, 9, 10, 11, 12, 13, 14, 15, 16, 17, 18, 19, 20, 21, 22, 5, 23, 24, 25, 26, 27, 28, 29, 30, 31, 32, 33, 34, 35, 36, 37, 38, 39, 40, 41, 42, 43, 44, 45, 46, 47, 48, 49, 50, 51, 52, 53, 54, 55, 56, 57, 58, 59, 60, 61, 62, 63, 64, 65, 66, 67, 68, 69, 70, 71, 72, 73, 74, 75, 76, 77, 78, 79] (by decide +kernel) (by decide +kernel)) (goodIn_sub (fun _ h => List.mem_cons_of_mem _ (List.mem_append_right _ h)) (by decide +kernel))
set_option maxRecDepth 20000 in
theorem gL_unmake_X0_unmake : GoodIn wsL_unmake (wsV RL 30 RX0 yX0_unmake wsX0_unmake) := goodIn_app (goodIn_of _ (by decide +kernel)) ggL_unmake_X0_unmake
theorem dL_unmake_0 : decode cL_unmake 0 = .ok (.aload_n 1, 1) := by decide +kernel
theorem dL_unmake_1 : decode cL_unmake 1 = .ok (.iconst 0, 1) := by decide +kernel
theorem dL_unmake_2 : decode cL_unmake 2 = .ok (.aload_n 0, 1) := by decide +kernel
theorem dL_unmake_3 : decode cL_unmake 3 = .ok (.invokevirtual 30, 3) := by decide +kernel
theorem dL_unmake_6 : decode cL_unmake 6 = .ok (.i2l, 1) := by decide +kernel
theorem dL_unmake_7 : decode cL_unmake 7 = .ok (.lastore, 1) := by decide +kernel
theorem dL_unmake_8 : decode cL_unmake 8 = .ok (.goto 6, 3) := by decide +kernel
theorem dL_unmake_11 : decode cL_unmake 11 = .ok (.astore_n 2, 1) := by decide +kernel
theorem dL_unmake_12 : decode cL_unmake 12 = .ok (.iconst 1, 1) := by decide +kernel
theorem dL_unmake_13 : decode cL_unmake 13 = .ok (.ireturn, 1) := by decide +kernel
theorem dL_unmake_14 : decode cL_unmake 14 = .ok (.iconst 0, 1) := by decide +kernel
theorem dL_unmake_15 : decode cL_unmake 15 = .ok (.ireturn, 1) := by decide +kernel
set_option maxRecDepth 20000 in
theorem ggL_at_X0_at : GoodIn wsL_at wsX0_at := goodIn_ca (goodIn_r _ [6, 7, 8, 9, 10, 11, 5, 12, 13, 14, 15, 16, 17, 18, 19, 20, 21, 22, 23, 24, 25] (by decide +kernel) (by decide +kernel)) (goodIn_sub (fun _ h => List.mem_cons_of_mem _ (List.mem_append_right _ h)) (by decide +kernel))
set_option maxRecDepth 20000 in
theorem gL_at_X0_at : GoodIn wsL_at (wsV RL 34 RX0 yX0_at wsX0_at) := goodIn_app (goodIn_of _ (by decide +kernel)) ggL_at_X0_at
theorem dL_at_0 : decode cL_at 0 = .ok (.aload_n 2, 1) := by decide +kernel
theorem dL_at_1 : decode cL_at 1 = .ok (.iconst 0, 1) := by decide +kernel
theorem dL_at_2 : decode cL_at 2 = .ok (.aload_n 0, 1) := by decide +kernel
theorem dL_at_3 : decode cL_at 3 = .ok (.iload_n 1, 1) := by decide +kernel
theorem dL_at_4 : decode cL_at 4 = .ok (.invokevirtual 34, 3) := by decide +kernel
theorem dL_at_7 : decode cL_at 7 = .ok (.i2l, 1) := by decide +kernel
theorem dL_at_8 : decode cL_at 8 = .ok (.lastore, 1) := by decide +kernel
theorem dL_at_9 : decode cL_at 9 = .ok (.goto 6, 3) := by decide +kernel
theorem dL_at_12 : decode cL_at 12 = .ok (.astore_n 3, 1) := by decide +kernel
theorem dL_at_13 : decode cL_at 13 = .ok (.iconst 1, 1) := by decide +kernel
theorem dL_at_14 : decode cL_at 14 = .ok (.ireturn, 1) := by decide +kernel
theorem dL_at_15 : decode cL_at 15 = .ok (.iconst 0, 1) := by decide +kernel
theorem dL_at_16 : decode cL_at 16 = .ok (.ireturn, 1) := by decide +kernel
set_option maxRecDepth 20000 in
theorem ggL_attackers_X0_attackers : GoodIn wsL_attackers wsX0_attackers := goodIn_ca (goodIn_ca (goodIn_r _ [7, 8, 9, 10, 11, 12, 13, 14, 6, 15, 16, 17, 18, 19, 20, 21, 22, 23, 24, 25, 26, 27, 28, 29, 30, 31, 32, 33, 34, 35, 36, 37, 38, 39, 40, 41, 42, 43, 44, 45, 46, 47, 48, 49, 50, 51, 52, 53, 54, 55, 56, 57, 58, 59, 60, 61, 62, 63, 64, 65, 66, 67, 68, 69, 70, 71, 72] (by decide +kernel) (by decide +kernel)) (goodIn_sub (fun _ h => List.mem_cons_of_mem _ (List.mem_append_left _ (List.mem_append_right _ h))) (by decide +kernel))) (goodIn_sub (fun _ h => List.mem_cons_of_mem _ (List.mem_append_right _ h)) (by decide +kernel))
set_option maxRecDepth 20000 in
theorem gL_attackers_X0_attackers : GoodIn wsL_attackers (wsV RL 37 RX0 yX0_attackers wsX0_attackers) := goodIn_app (goodIn_of _ (by decide +kernel)) ggL_attackers_X0_attackers
theorem dL_attackers_0 : decode cL_attackers 0 = .ok (.aload_n 3, 1) := by decide +kernel
theorem dL_attackers_1 : decode cL_attackers 1 = .ok (.iconst 0, 1) := by decide +kernel
theorem dL_attackers_2 : decode cL_attackers 2 = .ok (.aload_n 0, 1) := by decide +kernel
theorem dL_attackers_3 : decode cL_attackers 3 = .ok (.iload_n 1, 1) := by decide +kernel
theorem dL_attackers_4 : decode cL_attackers 4 = .ok (.iload_n 2, 1) := by decide +kernel
theorem dL_attackers_5 : decode cL_attackers 5 = .ok (.invokevirtual 37, 3) := by decide +kernel
theorem dL_attackers_8 : decode cL_attackers 8 = .ok (.lastore, 1) := by decide +kernel
theorem dL_attackers_9 : decode cL_attackers 9 = .ok (.goto 11, 3) := by decide +kernel
theorem dL_attackers_12 : decode cL_attackers 12 = .ok (.astore 4, 2) := by decide +kernel
theorem dL_attackers_14 : decode cL_attackers 14 = .ok (.iconst 1, 1) := by decide +kernel
theorem dL_attackers_15 : decode cL_attackers 15 = .ok (.ireturn, 1) := by decide +kernel
theorem dL_attackers_16 : decode cL_attackers 16 = .ok (.astore 4, 2) := by decide +kernel
theorem dL_attackers_18 : decode cL_attackers 18 = .ok (.iconst 2, 1) := by decide +kernel
theorem dL_attackers_19 : decode cL_attackers 19 = .ok (.ireturn, 1) := by decide +kernel
theorem dL_attackers_20 : decode cL_attackers 20 = .ok (.iconst 0, 1) := by decide +kernel
theorem dL_attackers_21 : decode cL_attackers 21 = .ok (.ireturn, 1) := by decide +kernel
set_option maxRecDepth 20000 in
theorem ggL_law_X0_init : GoodIn wsL_law wsX0_init := goodIn_r _ [9, 10, 11, 12, 13, 14, 15, 16, 17, 18, 19, 20, 21, 22, 23, 2, 24, 25, 26, 27, 28, 29, 30, 31, 32, 33, 34, 450, 451, 452, 453, 454, 455, 456, 457, 458, 459, 460, 461, 462] (by decide +kernel) (by decide +kernel)
set_option maxRecDepth 20000 in
theorem gL_law_X0_init : GoodIn wsL_law (wsX0_init) := ggL_law_X0_init
set_option maxRecDepth 20000 in
theorem ggL_law_X1_init : GoodIn wsL_law wsX1_init := goodIn_r _ [37, 38, 11, 12, 13, 39, 40, 41, 42, 43, 44, 45, 46, 463, 464, 465, 466, 467, 468, 469, 470, 471, 472, 473] (by decide +kernel) (by decide +kernel)
set_option maxRecDepth 20000 in
theorem gL_law_X1_init : GoodIn wsL_law (wsX1_init) := ggL_law_X1_init
set_option maxRecDepth 20000 in
theorem ggL_law_X0_clear : GoodIn wsL_law wsX0_clear := goodIn_r _ [50, 21, 22, 23, 2, 24, 14, 25, 26, 27, 28, 29, 30, 31, 32, 33, 34, 450, 451, 452, 453, 454, 455, 456, 457, 458, 459, 460, 461, 462] (by decide +kernel) (by decide +kernel)
set_option maxRecDepth 20000 in
theorem gL_law_X0_clear : GoodIn wsL_law (wsV RL 45 RX0 yX0_clear wsX0_clear) := goodIn_app (goodIn_of _ (by decide +kernel)) ggL_law_X0_clear
set_option maxRecDepth 20000 in
theorem ggL_law_X1_clear : GoodIn wsL_law wsX1_clear := goodIn_r _ [54, 55, 39, 56, 57, 40, 58, 41, 59, 463, 464, 465, 466, 467, 468, 469, 470, 471, 472, 473] (by decide +kernel) (by decide +kernel)
set_option maxRecDepth 20000 in
theorem gL_law_X1_clear : GoodIn wsL_law (wsV RL 48 RX1 yX1_clear wsX1_clear) := goodIn_app (goodIn_of _ (by decide +kernel)) ggL_law_X1_clear
set_option maxRecDepth 20000 in
theorem ggL_law_X0_begin : GoodIn wsL_law wsX0_begin := goodIn_r _ [63, 64, 14, 26, 21, 22, 23, 2, 24, 25, 27, 28, 29, 30, 31, 32, 33, 34, 65, 66, 67, 450, 451, 452, 453, 454, 455, 456, 457, 458, 459, 460, 461, 462] (by decide +kernel) (by decide +kernel)
set_option maxRecDepth 20000 in
theorem gL_law_X0_begin : GoodIn wsL_law (wsV RL 49 RX0 yX0_begin wsX0_begin) := goodIn_app (goodIn_of _ (by decide +kernel)) ggL_law_X0_begin
set_option maxRecDepth 20000 in
theorem ggL_law_X1_begin : GoodIn wsL_law wsX1_begin := goodIn_r _ [71, 39, 57, 72, 52, 53, 5, 54, 55, 56, 40, 58, 41, 59, 73, 74, 75, 463, 464, 465, 466, 467, 468, 469, 470, 471, 472, 473] (by decide +kernel) (by decide +kernel)
set_option maxRecDepth 20000 in
theorem gL_law_X1_begin : GoodIn wsL_law (wsV RL 52 RX1 yX1_begin wsX1_begin) := goodIn_app (goodIn_of _ (by decide +kernel)) ggL_law_X1_begin
set_option maxRecDepth 20000 in
theorem ggL_law_L_put : GoodIn wsL_law wsL_put := goodIn_ca (goodIn_ca (goodIn_ca (goodIn_r _ [79, 80, 81, 82, 83, 84, 85, 2, 86, 87, 88, 89, 90, 91, 92, 14, 93, 94, 95, 96, 97, 98, 99, 100, 101, 102, 103, 104, 105, 106, 107, 108, 109, 110, 30, 31, 32, 33, 34, 450, 451, 452, 453, 454, 455, 456, 457, 458, 459, 460, 461, 462] (by decide +kernel) (by decide +kernel)) (goodIn_sub (fun _ h => List.mem_append_left _ (List.mem_append_left _ (List.mem_append_right _ h))) (by decide +kernel))) (goodIn_sub (fun _ h => List.mem_append_left _ (List.mem_append_right _ h)) (by decide +kernel))) (goodIn_sub (fun _ h => List.mem_append_right _ h) (by decide +kernel))
set_option maxRecDepth 20000 in
theorem gL_law_L_put : GoodIn wsL_law (va_wsS RL 53 yL_put wsL_put) := goodIn_app (goodIn_of _ (by decide +kernel)) ggL_law_L_put
set_option maxRecDepth 20000 in
theorem ggL_law_X1_put : GoodIn wsL_law wsX1_put := goodIn_r _ [114, 55, 39, 59, 115, 116, 5, 117, 118, 119, 120, 121, 463, 464, 465, 466, 467, 468, 469, 470, 471, 472, 473] (by decide +kernel) (by decide +kernel)
set_option maxRecDepth 20000 in
theorem gL_law_X1_put : GoodIn wsL_law (wsV RL 58 RX1 yX1_put wsX1_put) := goodIn_app (goodIn_of _ (by decide +kernel)) ggL_law_X1_put
set_option maxRecDepth 20000 in
theorem ggL_law_X1_thrown : GoodIn wsL_law wsX1_thrown := goodIn_r _ [125, 55, 463, 464, 465, 466, 467, 468, 469, 470, 471, 472, 473] (by decide +kernel) (by decide +kernel)
set_option maxRecDepth 20000 in
theorem gL_law_X1_thrown : GoodIn wsL_law (wsV RL 59 RX1 yX1_thrown wsX1_thrown) := goodIn_app (goodIn_of _ (by decide +kernel)) ggL_law_X1_thrown
set_option maxRecDepth 20000 in
theorem ggL_law_L_state : GoodIn wsL_law wsL_state := goodIn_ca (goodIn_r _ [128, 81, 129, 130, 131, 2, 132, 89, 90, 25, 26, 27, 133, 134, 135, 93, 94, 95, 30, 31, 32, 33, 34, 450, 451, 452, 453, 454, 455, 456, 457, 458, 459, 460, 461, 462] (by decide +kernel) (by decide +kernel)) (goodIn_sub (fun _ h => List.mem_append_left _ (List.mem_append_right _ h)) (by decide +kernel))
set_option maxRecDepth 20000 in
theorem gL_law_L_state : GoodIn wsL_law (va_wsS RL 62 yL_state wsL_state) := goodIn_app (goodIn_of _ (by decide +kernel)) ggL_law_L_state
set_option maxRecDepth 20000 in
theorem ggL_law_X1_state : GoodIn wsL_law wsX1_state := goodIn_r _ [139, 55, 56, 57, 40, 59, 463, 464, 465, 466, 467, 468, 469, 470, 471, 472, 473] (by decide +kernel) (by decide +kernel)
set_option maxRecDepth 20000 in
theorem gL_law_X1_state : GoodIn wsL_law (wsV RL 65 RX1 yX1_state wsX1_state) := goodIn_app (goodIn_of _ (by decide +kernel)) ggL_law_X1_state
set_option maxRecDepth 20000 in
theorem ggL_law_L_clocks : GoodIn wsL_law wsL_clocks := goodIn_ca (goodIn_r _ [142, 81, 143, 144, 145, 2, 146, 89, 90, 28, 29, 30, 31, 32, 33, 34, 450, 451, 452, 453, 454, 455, 456, 457, 458, 459, 460, 461, 462] (by decide +kernel) (by decide +kernel)) (goodIn_sub (fun _ h => List.mem_append_left _ (List.mem_append_right _ h)) (by decide +kernel))
set_option maxRecDepth 20000 in
theorem gL_law_L_clocks : GoodIn wsL_law (va_wsS RL 66 yL_clocks wsL_clocks) := goodIn_app (goodIn_of _ (by decide +kernel)) ggL_law_L_clocks
set_option maxRecDepth 20000 in
theorem ggL_law_X1_clocks : GoodIn wsL_law wsX1_clocks := goodIn_r _ [150, 55, 58, 41, 59, 463, 464, 465, 466, 467, 468, 469, 470, 471, 472, 473] (by decide +kernel) (by decide +kernel)
set_option maxRecDepth 20000 in
theorem gL_law_X1_clocks : GoodIn wsL_law (wsV RL 68 RX1 yX1_clocks wsX1_clocks) := goodIn_app (goodIn_of _ (by decide +kernel)) ggL_law_X1_clocks
set_option maxRecDepth 20000 in
theorem ggL_law_X0_fits : GoodIn wsL_law wsX0_fits := goodIn_r _ [154, 14, 25, 155, 156, 2, 157, 158, 159, 160, 161, 162, 163, 164, 165, 166, 167, 168, 169, 170, 171, 172, 173, 174, 175, 176, 177, 178, 179, 180, 181, 182, 183, 184, 185, 186, 187, 188, 189, 190, 191, 192, 193, 93, 94, 95, 194, 195, 196, 197, 198, 199, 200, 201, 202, 203, 204, 205, 206, 207, 208, 209, 210, 211, 212, 213, 214, 215, 216, 217, 27, 218, 219, 220, 221, 65, 66, 67, 222, 223, 224, 225, 226, 227, 228, 229, 230, 231, 232, 233, 234, 235, 236, 237, 238, 239, 240, 241, 242, 243, 244, 26, 245, 246, 247, 248, 249, 250, 251, 252, 253, 254, 255, 256, 450, 451, 452, 453, 454, 455, 456, 457, 458, 459, 460, 461, 462] (by decide +kernel) (by decide +kernel)
set_option maxRecDepth 20000 in
theorem gL_law_X0_fits : GoodIn wsL_law (wsV RL 69 RX0 yX0_fits wsX0_fits) := goodIn_app (goodIn_of _ (by decide +kernel)) ggL_law_X0_fits
set_option maxRecDepth 20000 in
theorem ggL_law_X1_fits : GoodIn wsL_law wsX1_fits := goodIn_r _ [260, 55, 261, 262, 263, 5, 264, 39, 56, 265, 266, 267, 268, 269, 270, 271, 272, 273, 274, 275, 276, 277, 278, 279, 280, 281, 282, 283, 284, 285, 286, 287, 288, 289, 40, 115, 116, 117, 290, 291, 292, 293, 57, 463, 464, 465, 466, 467, 468, 469, 470, 471, 472, 473] (by decide +kernel) (by decide +kernel)
set_option maxRecDepth 20000 in
theorem gL_law_X1_fits : GoodIn wsL_law (wsV RL 73 RX1 yX1_fits wsX1_fits) := goodIn_app (goodIn_of _ (by decide +kernel)) ggL_law_X1_fits
set_option maxRecDepth 20000 in
theorem ggL_law_L_make : GoodIn wsL_law wsL_make := goodIn_ca (goodIn_ca (goodIn_r _ [296, 81, 82, 297, 298, 299, 2, 300, 89, 90, 91, 92, 34, 14, 26, 27, 28, 25, 29, 301, 152, 153, 154, 155, 156, 157, 158, 159, 160, 161, 162, 163, 164, 165, 166, 167, 168, 169, 170, 171, 172, 173, 174, 175, 176, 177, 178, 179, 180, 181, 182, 183, 184, 185, 186, 187, 188, 189, 190, 191, 192, 193, 93, 94, 95, 194, 195, 196, 197, 198, 199, 200, 201, 202, 203, 204, 205, 206, 207, 208, 209, 210, 211, 212, 213, 214, 215, 216, 217, 218, 219, 220, 221, 65, 66, 67, 222, 223, 224, 225, 226, 227, 228, 229, 230, 231, 232, 233, 234, 235, 236, 237, 238, 239, 240, 241, 242, 243, 244, 245, 246, 247, 248, 249, 250, 251, 252, 253, 254, 255, 256, 302, 303, 304, 305, 306, 307, 308, 309, 15, 16, 17, 18, 19, 20, 310, 311, 312, 313, 314, 315, 316, 317, 318, 319, 320, 321, 322, 323, 324, 325, 326, 327, 450, 451, 452, 453, 454, 455, 456, 457, 458, 459, 460, 461, 462] (by decide +kernel) (by decide +kernel)) (goodIn_sub (fun _ h => List.mem_append_left _ (List.mem_append_right _ h)) (by decide +kernel))) (goodIn_sub (fun _ h => List.mem_append_right _ h) (by decide +kernel))
set_option maxRecDepth 20000 in
theorem gL_law_L_make : GoodIn wsL_law (va_wsS RL 74 yL_make wsL_make) := goodIn_app (goodIn_of _ (by decide +kernel)) ggL_law_L_make
set_option maxRecDepth 20000 in
theorem ggL_law_X1_make : GoodIn wsL_law wsX1_make := goodIn_r _ [331, 59, 55, 39, 56, 57, 40, 58, 41, 261, 262, 263, 5, 264, 265, 266, 267, 268, 269, 270, 271, 272, 273, 274, 275, 276, 277, 278, 279, 280, 281, 282, 283, 284, 285, 286, 287, 288, 289, 115, 116, 117, 290, 291, 292, 293, 332, 333, 334, 335, 45, 46, 42, 336, 337, 338, 339, 340, 341, 342, 463, 464, 465, 466, 467, 468, 469, 470, 471, 472, 473] (by decide +kernel) (by decide +kernel)
set_option maxRecDepth 20000 in
theorem gL_law_X1_make : GoodIn wsL_law (wsV RL 77 RX1 yX1_make wsX1_make) := goodIn_app (goodIn_of _ (by decide +kernel)) ggL_law_X1_make
set_option maxRecDepth 20000 in
theorem ggL_law_L_unmake : GoodIn wsL_law wsL_unmake := goodIn_ca (goodIn_r _ [345, 82, 346, 347, 348, 2, 349, 91, 92, 34, 15, 18, 26, 19, 27, 20, 28, 25, 29, 16, 17, 211, 212, 213, 350, 351, 352, 353, 14, 155, 156, 157, 158, 159, 160, 167, 168, 169, 65, 66, 67, 314, 315, 316, 164, 165, 166, 248, 249, 250, 204, 205, 206, 207, 173, 174, 175, 251, 252, 253, 317, 318, 319, 320, 93, 94, 95, 450, 451, 452, 453, 454, 455, 456, 457, 458, 459, 460, 461, 462] (by decide +kernel) (by decide +kernel)) (goodIn_sub (fun _ h => List.mem_append_right _ h) (by decide +kernel))
set_option maxRecDepth 20000 in
theorem gL_law_L_unmake : GoodIn wsL_law (va_wsS RL 78 yL_unmake wsL_unmake) := goodIn_app (goodIn_of _ (by decide +kernel)) ggL_law_L_unmake
set_option maxRecDepth 20000 in
theorem ggL_law_X1_unmake : GoodIn wsL_law wsX1_unmake := goodIn_r _ [357, 59, 55, 39, 45, 46, 56, 57, 40, 58, 41, 42, 463, 464, 465, 466, 467, 468, 469, 470, 471, 472, 473] (by decide +kernel) (by decide +kernel)
set_option maxRecDepth 20000 in
theorem gL_law_X1_unmake : GoodIn wsL_law (wsV RL 81 RX1 yX1_unmake wsX1_unmake) := goodIn_app (goodIn_of _ (by decide +kernel)) ggL_law_X1_unmake
set_option maxRecDepth 20000 in
theorem ggL_law_L_at : GoodIn wsL_law wsL_at := goodIn_ca (goodIn_r _ [360, 80, 361, 362, 363, 2, 364, 87, 88, 14, 93, 94, 95, 450, 451, 452, 453, 454, 455, 456, 457, 458, 459, 460, 461, 462] (by decide +kernel) (by decide +kernel)) (goodIn_sub (fun _ h => List.mem_append_left _ (List.mem_append_left _ (List.mem_append_right _ h))) (by decide +kernel))
set_option maxRecDepth 20000 in
theorem gL_law_L_at : GoodIn wsL_law (va_wsS RL 82 yL_at wsL_at) := goodIn_app (goodIn_of _ (by decide +kernel)) ggL_law_L_at
set_option maxRecDepth 20000 in
theorem ggL_law_X1_at : GoodIn wsL_law wsX1_at := goodIn_r _ [368, 55, 39, 115, 116, 5, 117, 463, 464, 465, 466, 467, 468, 469, 470, 471, 472, 473] (by decide +kernel) (by decide +kernel)
set_option maxRecDepth 20000 in
theorem gL_law_X1_at : GoodIn wsL_law (wsV RL 84 RX1 yX1_at wsX1_at) := goodIn_app (goodIn_of _ (by decide +kernel)) ggL_law_X1_at
set_option maxRecDepth 20000 in
theorem ggL_law_X0_where : GoodIn wsL_law wsX0_where := goodIn_r _ [103, 14, 450, 451, 452, 453, 454, 455, 456, 457, 458, 459, 460, 461, 462] (by decide +kernel) (by decide +kernel)
set_option maxRecDepth 20000 in
theorem gL_law_X0_where : GoodIn wsL_law (wsV RL 85 RX0 yX0_where wsX0_where) := goodIn_app (goodIn_of _ (by decide +kernel)) ggL_law_X0_where
set_option maxRecDepth 20000 in
theorem ggL_law_X1_where : GoodIn wsL_law wsX1_where := goodIn_r _ [373, 55, 39, 463, 464, 465, 466, 467, 468, 469, 470, 471, 472, 473] (by decide +kernel) (by decide +kernel)
set_option maxRecDepth 20000 in
theorem gL_law_X1_where : GoodIn wsL_law (wsV RL 89 RX1 yX1_where wsX1_where) := goodIn_app (goodIn_of _ (by decide +kernel)) ggL_law_X1_where
set_option maxRecDepth 20000 in
theorem ggL_law_L_attackers : GoodIn wsL_law wsL_attackers := goodIn_ca (goodIn_ca (goodIn_r _ [376, 80, 81, 377, 378, 379, 2, 380, 87, 88, 89, 90, 14, 93, 94, 95, 133, 134, 135, 161, 162, 163, 226, 227, 228, 229, 204, 205, 206, 207, 208, 209, 210, 173, 174, 175, 164, 165, 166, 201, 202, 203, 187, 188, 189, 230, 231, 232, 233, 234, 235, 236, 237, 238, 239, 240, 190, 191, 192, 193, 450, 451, 452, 453, 454, 455, 456, 457, 458, 459, 460, 461, 462] (by decide +kernel) (by decide +kernel)) (goodIn_sub (fun _ h => List.mem_append_left _ (List.mem_append_left _ (List.mem_append_right _ h))) (by decide +kernel))) (goodIn_sub (fun _ h => List.mem_append_left _ (List.mem_append_right _ h)) (by decide +kernel))
set_option maxRecDepth 20000 in
theorem gL_law_L_attackers : GoodIn wsL_law (va_wsS RL 90 yL_attackers wsL_attackers) := goodIn_app (goodIn_of _ (by decide +kernel)) ggL_law_L_attackers
set_option maxRecDepth 20000 in
theorem ggL_law_X1_attackers : GoodIn wsL_law wsX1_attackers := goodIn_r _ [384, 55, 39, 115, 116, 5, 117, 268, 269, 270, 275, 276, 277, 278, 265, 266, 267, 279, 280, 281, 282, 283, 284, 285, 463, 464, 465, 466, 467, 468, 469, 470, 471, 472, 473] (by decide +kernel) (by decide +kernel)
set_option maxRecDepth 20000 in
theorem gL_law_X1_attackers : GoodIn wsL_law (wsV RL 93 RX1 yX1_attackers wsX1_attackers) := goodIn_app (goodIn_of _ (by decide +kernel)) ggL_law_X1_attackers
set_option maxRecDepth 20000 in
theorem ggL_law_X0_check : GoodIn wsL_law wsX0_check := goodIn_ca (goodIn_ca (goodIn_r _ [388, 14, 133, 134, 2, 135, 65, 66, 67, 211, 212, 213, 389, 378, 379, 380, 87, 88, 89, 90, 93, 94, 95, 161, 162, 163, 226, 227, 228, 229, 204, 205, 206, 207, 208, 209, 210, 173, 174, 175, 164, 165, 166, 201, 202, 203, 187, 188, 189, 230, 231, 232, 233, 234, 235, 236, 237, 238, 239, 240, 190, 191, 192, 193, 450, 451, 452, 453, 454, 455, 456, 457, 458, 459, 460, 461, 462] (by decide +kernel) (by decide +kernel)) (goodIn_sub (fun _ h => List.mem_append_left _ (List.mem_append_left _ (List.mem_append_right _ h))) (by decide +kernel))) (goodIn_sub (fun _ h => List.mem_append_left _ (List.mem_append_right _ h)) (by decide +kernel))
set_option maxRecDepth 20000 in
theorem gL_law_X0_check : GoodIn wsL_law (wsV RL 94 RX0 yX0_check wsX0_check) := goodIn_app (goodIn_of _ (by decide +kernel)) ggL_law_X0_check
set_option maxRecDepth 20000 in
theorem ggL_law_X1_check : GoodIn wsL_law wsX1_check := goodIn_r _ [393, 55, 39, 394, 395, 396, 5, 397, 268, 269, 270, 275, 276, 277, 278, 265, 266, 267, 279, 280, 281, 282, 283, 284, 285, 463, 464, 465, 466, 467, 468, 469, 470, 471, 472, 473] (by decide +kernel) (by decide +kernel)
set_option maxRecDepth 20000 in
theorem gL_law_X1_check : GoodIn wsL_law (wsV RL 97 RX1 yX1_check wsX1_check) := goodIn_app (goodIn_of _ (by decide +kernel)) ggL_law_X1_check
set_option maxRecDepth 20000 in
theorem ggL_law_X0_key : GoodIn wsL_law wsX0_key := goodIn_r _ [401, 26, 27, 25, 402, 14, 403, 404, 2, 405, 406, 407, 408, 450, 451, 452, 453, 454, 455, 456, 457, 458, 459, 460, 461, 462] (by decide +kernel) (by decide +kernel)
set_option maxRecDepth 20000 in
theorem gL_law_X0_key : GoodIn wsL_law (wsV RL 98 RX0 yX0_key wsX0_key) := goodIn_app (goodIn_of _ (by decide +kernel)) ggL_law_X0_key
set_option maxRecDepth 20000 in
theorem ggL_law_X1_key : GoodIn wsL_law wsX1_key := goodIn_r _ [412, 55, 413, 57, 414, 40, 39, 415, 56, 416, 417, 418, 5, 419, 420, 421, 422, 463, 464, 465, 466, 467, 468, 469, 470, 471, 472, 473] (by decide +kernel) (by decide +kernel)
set_option maxRecDepth 20000 in
theorem gL_law_X1_key : GoodIn wsL_law (wsV RL 102 RX1 yX1_key wsX1_key) := goodIn_app (goodIn_of _ (by decide +kernel)) ggL_law_X1_key
set_option maxRecDepth 20000 in
theorem ggL_law_X0_move : GoodIn wsL_law wsX0_move := goodIn_r _ [426, 34, 15, 450, 451, 452, 453, 454, 455, 456, 457, 458, 459, 460, 461, 462] (by decide +kernel) (by decide +kernel)
set_option maxRecDepth 20000 in
theorem gL_law_X0_move : GoodIn wsL_law (wsV RL 103 RX0 yX0_move wsX0_move) := goodIn_app (goodIn_of _ (by decide +kernel)) ggL_law_X0_move
set_option maxRecDepth 20000 in
theorem ggL_law_X1_move : GoodIn wsL_law wsX1_move := goodIn_r _ [430, 55, 59, 42, 463, 464, 465, 466, 467, 468, 469, 470, 471, 472, 473] (by decide +kernel) (by decide +kernel)
set_option maxRecDepth 20000 in
theorem gL_law_X1_move : GoodIn wsL_law (wsV RL 106 RX1 yX1_move wsX1_move) := goodIn_app (goodIn_of _ (by decide +kernel)) ggL_law_X1_move
set_option maxRecDepth 20000 in
theorem ggL_law_X0_look : GoodIn wsL_law wsX0_look := goodIn_r _ [434, 25, 26, 27, 28, 29, 34, 96, 97, 98, 2, 99, 100, 101, 102, 103, 14, 104, 105, 106, 107, 108, 109, 110, 435, 436, 437, 438, 161, 162, 163, 164, 165, 166, 439, 440, 441, 450, 451, 452, 453, 454, 455, 456, 457, 458, 459, 460, 461, 462] (by decide +kernel) (by decide +kernel)
set_option maxRecDepth 20000 in
theorem gL_law_X0_look : GoodIn wsL_law (wsV RL 107 RX0 yX0_look wsX0_look) := goodIn_app (goodIn_of _ (by decide +kernel)) ggL_law_X0_look
set_option maxRecDepth 20000 in
theorem ggL_law_X1_look : GoodIn wsL_law wsX1_look := goodIn_r _ [445, 55, 56, 57, 40, 58, 41, 59, 118, 119, 120, 5, 121, 39, 446, 447, 448, 449, 268, 269, 270, 265, 266, 267, 463, 464, 465, 466, 467, 468, 469, 470, 471, 472, 473] (by decide +kernel) (by decide +kernel)
set_option maxRecDepth 20000 in
theorem gL_law_X1_look : GoodIn wsL_law (wsV RL 110 RX1 yX1_look wsX1_look) := goodIn_app (goodIn_of _ (by decide +kernel)) ggL_law_X1_look
theorem dL_law_0 : decode cL_law 0 = .ok (.new 8, 3) := by decide +kernel
theorem dL_law_3 : decode cL_law 3 = .ok (.dup, 1) := by decide +kernel
theorem dL_law_4 : decode cL_law 4 = .ok (.invokespecial 41, 3) := by decide +kernel
theorem dL_law_7 : decode cL_law 7 = .ok (.astore_n 1, 1) := by decide +kernel
theorem dL_law_8 : decode cL_law 8 = .ok (.new 42, 3) := by decide +kernel
theorem dL_law_11 : decode cL_law 11 = .ok (.dup, 1) := by decide +kernel
theorem dL_law_12 : decode cL_law 12 = .ok (.invokespecial 44, 3) := by decide +kernel
theorem dL_law_15 : decode cL_law 15 = .ok (.astore_n 2, 1) := by decide +kernel
theorem dL_law_16 : decode cL_law 16 = .ok (.iconst 1, 1) := by decide +kernel
theorem dL_law_17 : decode cL_law 17 = .ok (.newarray .long, 2) := by decide +kernel
theorem dL_law_19 : decode cL_law 19 = .ok (.astore_n 3, 1) := by decide +kernel
theorem dL_law_20 : decode cL_law 20 = .ok (.iconst 0, 1) := by decide +kernel
theorem dL_law_21 : decode cL_law 21 = .ok (.istore 4, 2) := by decide +kernel
theorem dL_law_23 : decode cL_law 23 = .ok (.iload 4, 2) := by decide +kernel
theorem dL_law_25 : decode cL_law 25 = .ok (.aload_n 0, 1) := by decide +kernel
theorem dL_law_26 : decode cL_law 26 = .ok (.arraylength, 1) := by decide +kernel
theorem dL_law_27 : decode cL_law 27 = .ok (.iconst 4, 1) := by decide +kernel
theorem dL_law_28 : decode cL_law 28 = .ok (.isub, 1) := by decide +kernel
theorem dL_law_29 : decode cL_law 29 = .ok (.if_icmp .gt 630, 3) := by decide +kernel
theorem dL_law_32 : decode cL_law 32 = .ok (.aload_n 0, 1) := by decide +kernel
theorem dL_law_33 : decode cL_law 33 = .ok (.iload 4, 2) := by decide +kernel
theorem dL_law_35 : decode cL_law 35 = .ok (.iaload, 1) := by decide +kernel
theorem dL_law_36 : decode cL_law 36 = .ok (.bipush 15, 2) := by decide +kernel
theorem dL_law_38 : decode cL_law 38 = .ok (.iand, 1) := by decide +kernel
theorem dL_law_39 : decode cL_law 39 = .ok (.tableswitch 614 0 14 #[73, 84, 95, 143, 203, 251, 276, 332, 376, 432, 458, 525, 550, 564, 589], 73) := by decide +kernel
theorem dL_law_112 : decode cL_law 112 = .ok (.aload_n 1, 1) := by decide +kernel
theorem dL_law_113 : decode cL_law 113 = .ok (.invokevirtual 45, 3) := by decide +kernel
theorem dL_law_116 : decode cL_law 116 = .ok (.aload_n 2, 1) := by decide +kernel
theorem dL_law_117 : decode cL_law 117 = .ok (.invokevirtual 48, 3) := by decide +kernel
theorem dL_law_120 : decode cL_law 120 = .ok (.goto 533, 3) := by decide +kernel
theorem dL_law_123 : decode cL_law 123 = .ok (.aload_n 1, 1) := by decide +kernel
theorem dL_law_124 : decode cL_law 124 = .ok (.invokevirtual 49, 3) := by decide +kernel
theorem dL_law_127 : decode cL_law 127 = .ok (.aload_n 2, 1) := by decide +kernel
theorem dL_law_128 : decode cL_law 128 = .ok (.invokevirtual 52, 3) := by decide +kernel
theorem dL_law_131 : decode cL_law 131 = .ok (.goto 522, 3) := by decide +kernel
theorem dL_law_134 : decode cL_law 134 = .ok (.aload_n 1, 1) := by decide +kernel
theorem dL_law_135 : decode cL_law 135 = .ok (.aload_n 0, 1) := by decide +kernel
theorem dL_law_136 : decode cL_law 136 = .ok (.iload 4, 2) := by decide +kernel
theorem dL_law_138 : decode cL_law 138 = .ok (.iconst 1, 1) := by decide +kernel
theorem dL_law_139 : decode cL_law 139 = .ok (.iadd, 1) := by decide +kernel
theorem dL_law_140 : decode cL_law 140 = .ok (.iaload, 1) := by decide +kernel
theorem dL_law_141 : decode cL_law 141 = .ok (.aload_n 0, 1) := by decide +kernel
theorem dL_law_142 : decode cL_law 142 = .ok (.iload 4, 2) := by decide +kernel
theorem dL_law_144 : decode cL_law 144 = .ok (.iconst 2, 1) := by decide +kernel
theorem dL_law_145 : decode cL_law 145 = .ok (.iadd, 1) := by decide +kernel
theorem dL_law_146 : decode cL_law 146 = .ok (.iaload, 1) := by decide +kernel
theorem dL_law_147 : decode cL_law 147 = .ok (.invokestatic 53, 3) := by decide +kernel
theorem dL_law_150 : decode cL_law 150 = .ok (.istore 5, 2) := by decide +kernel
theorem dL_law_152 : decode cL_law 152 = .ok (.aload_n 2, 1) := by decide +kernel
theorem dL_law_153 : decode cL_law 153 = .ok (.aload_n 0, 1) := by decide +kernel
theorem dL_law_154 : decode cL_law 154 = .ok (.iload 4, 2) := by decide +kernel
theorem dL_law_156 : decode cL_law 156 = .ok (.iconst 1, 1) := by decide +kernel
theorem dL_law_157 : decode cL_law 157 = .ok (.iadd, 1) := by decide +kernel
theorem dL_law_158 : decode cL_law 158 = .ok (.iaload, 1) := by decide +kernel
theorem dL_law_159 : decode cL_law 159 = .ok (.aload_n 0, 1) := by decide +kernel
theorem dL_law_160 : decode cL_law 160 = .ok (.iload 4, 2) := by decide +kernel
theorem dL_law_162 : decode cL_law 162 = .ok (.iconst 2, 1) := by decide +kernel
theorem dL_law_163 : decode cL_law 163 = .ok (.iadd, 1) := by decide +kernel
theorem dL_law_164 : decode cL_law 164 = .ok (.iaload, 1) := by decide +kernel
theorem dL_law_165 : decode cL_law 165 = .ok (.invokevirtual 58, 3) := by decide +kernel
theorem dL_law_168 : decode cL_law 168 = .ok (.aload_n 2, 1) := by decide +kernel
theorem dL_law_169 : decode cL_law 169 = .ok (.invokevirtual 59, 3) := by decide +kernel
theorem dL_law_172 : decode cL_law 172 = .ok (.iload 5, 2) := by decide +kernel
theorem dL_law_174 : decode cL_law 174 = .ok (.if_icmp .eq 5, 3) := by decide +kernel
theorem dL_law_177 : decode cL_law 177 = .ok (.iconst 0, 1) := by decide +kernel
theorem dL_law_178 : decode cL_law 178 = .ok (.ireturn, 1) := by decide +kernel
theorem dL_law_179 : decode cL_law 179 = .ok (.goto 474, 3) := by decide +kernel
theorem dL_law_182 : decode cL_law 182 = .ok (.aload_n 1, 1) := by decide +kernel
theorem dL_law_183 : decode cL_law 183 = .ok (.aload_n 0, 1) := by decide +kernel
theorem dL_law_184 : decode cL_law 184 = .ok (.iload 4, 2) := by decide +kernel
theorem dL_law_186 : decode cL_law 186 = .ok (.iconst 1, 1) := by decide +kernel
theorem dL_law_187 : decode cL_law 187 = .ok (.iadd, 1) := by decide +kernel
theorem dL_law_188 : decode cL_law 188 = .ok (.iaload, 1) := by decide +kernel
theorem dL_law_189 : decode cL_law 189 = .ok (.aload_n 0, 1) := by decide +kernel
theorem dL_law_190 : decode cL_law 190 = .ok (.iload 4, 2) := by decide +kernel
theorem dL_law_192 : decode cL_law 192 = .ok (.iconst 2, 1) := by decide +kernel
theorem dL_law_193 : decode cL_law 193 = .ok (.iadd, 1) := by decide +kernel
theorem dL_law_194 : decode cL_law 194 = .ok (.iaload, 1) := by decide +kernel
theorem dL_law_195 : decode cL_law 195 = .ok (.aload_n 0, 1) := by decide +kernel
theorem dL_law_196 : decode cL_law 196 = .ok (.iload 4, 2) := by decide +kernel
theorem dL_law_198 : decode cL_law 198 = .ok (.iconst 3, 1) := by decide +kernel
theorem dL_law_199 : decode cL_law 199 = .ok (.iadd, 1) := by decide +kernel
theorem dL_law_200 : decode cL_law 200 = .ok (.iaload, 1) := by decide +kernel
theorem dL_law_201 : decode cL_law 201 = .ok (.invokestatic 62, 3) := by decide +kernel
theorem dL_law_204 : decode cL_law 204 = .ok (.istore 5, 2) := by decide +kernel
theorem dL_law_206 : decode cL_law 206 = .ok (.aload_n 2, 1) := by decide +kernel
theorem dL_law_207 : decode cL_law 207 = .ok (.aload_n 0, 1) := by decide +kernel
theorem dL_law_208 : decode cL_law 208 = .ok (.iload 4, 2) := by decide +kernel
theorem dL_law_210 : decode cL_law 210 = .ok (.iconst 1, 1) := by decide +kernel
theorem dL_law_211 : decode cL_law 211 = .ok (.iadd, 1) := by decide +kernel
theorem dL_law_212 : decode cL_law 212 = .ok (.iaload, 1) := by decide +kernel
theorem dL_law_213 : decode cL_law 213 = .ok (.aload_n 0, 1) := by decide +kernel
theorem dL_law_214 : decode cL_law 214 = .ok (.iload 4, 2) := by decide +kernel
theorem dL_law_216 : decode cL_law 216 = .ok (.iconst 2, 1) := by decide +kernel
theorem dL_law_217 : decode cL_law 217 = .ok (.iadd, 1) := by decide +kernel
theorem dL_law_218 : decode cL_law 218 = .ok (.iaload, 1) := by decide +kernel
theorem dL_law_219 : decode cL_law 219 = .ok (.aload_n 0, 1) := by decide +kernel
theorem dL_law_220 : decode cL_law 220 = .ok (.iload 4, 2) := by decide +kernel
theorem dL_law_222 : decode cL_law 222 = .ok (.iconst 3, 1) := by decide +kernel
theorem dL_law_223 : decode cL_law 223 = .ok (.iadd, 1) := by decide +kernel
theorem dL_law_224 : decode cL_law 224 = .ok (.iaload, 1) := by decide +kernel
theorem dL_law_225 : decode cL_law 225 = .ok (.invokevirtual 65, 3) := by decide +kernel
theorem dL_law_228 : decode cL_law 228 = .ok (.aload_n 2, 1) := by decide +kernel
theorem dL_law_229 : decode cL_law 229 = .ok (.invokevirtual 59, 3) := by decide +kernel
theorem dL_law_232 : decode cL_law 232 = .ok (.iload 5, 2) := by decide +kernel
theorem dL_law_234 : decode cL_law 234 = .ok (.if_icmp .eq 5, 3) := by decide +kernel
theorem dL_law_237 : decode cL_law 237 = .ok (.iconst 0, 1) := by decide +kernel
theorem dL_law_238 : decode cL_law 238 = .ok (.ireturn, 1) := by decide +kernel
theorem dL_law_239 : decode cL_law 239 = .ok (.goto 414, 3) := by decide +kernel
theorem dL_law_242 : decode cL_law 242 = .ok (.aload_n 1, 1) := by decide +kernel
theorem dL_law_243 : decode cL_law 243 = .ok (.aload_n 0, 1) := by decide +kernel
theorem dL_law_244 : decode cL_law 244 = .ok (.iload 4, 2) := by decide +kernel
theorem dL_law_246 : decode cL_law 246 = .ok (.iconst 1, 1) := by decide +kernel
theorem dL_law_247 : decode cL_law 247 = .ok (.iadd, 1) := by decide +kernel
theorem dL_law_248 : decode cL_law 248 = .ok (.iaload, 1) := by decide +kernel
theorem dL_law_249 : decode cL_law 249 = .ok (.aload_n 0, 1) := by decide +kernel
theorem dL_law_250 : decode cL_law 250 = .ok (.iload 4, 2) := by decide +kernel
theorem dL_law_252 : decode cL_law 252 = .ok (.iconst 2, 1) := by decide +kernel
theorem dL_law_253 : decode cL_law 253 = .ok (.iadd, 1) := by decide +kernel
theorem dL_law_254 : decode cL_law 254 = .ok (.iaload, 1) := by decide +kernel
theorem dL_law_255 : decode cL_law 255 = .ok (.invokestatic 66, 3) := by decide +kernel
theorem dL_law_258 : decode cL_law 258 = .ok (.istore 5, 2) := by decide +kernel
theorem dL_law_260 : decode cL_law 260 = .ok (.aload_n 2, 1) := by decide +kernel
theorem dL_law_261 : decode cL_law 261 = .ok (.aload_n 0, 1) := by decide +kernel
theorem dL_law_262 : decode cL_law 262 = .ok (.iload 4, 2) := by decide +kernel
theorem dL_law_264 : decode cL_law 264 = .ok (.iconst 1, 1) := by decide +kernel
theorem dL_law_265 : decode cL_law 265 = .ok (.iadd, 1) := by decide +kernel
theorem dL_law_266 : decode cL_law 266 = .ok (.iaload, 1) := by decide +kernel
theorem dL_law_267 : decode cL_law 267 = .ok (.aload_n 0, 1) := by decide +kernel
theorem dL_law_268 : decode cL_law 268 = .ok (.iload 4, 2) := by decide +kernel
theorem dL_law_270 : decode cL_law 270 = .ok (.iconst 2, 1) := by decide +kernel
theorem dL_law_271 : decode cL_law 271 = .ok (.iadd, 1) := by decide +kernel
theorem dL_law_272 : decode cL_law 272 = .ok (.iaload, 1) := by decide +kernel
end
section
theorem dL_law_273 : decode cL_law 273 = .ok (.invokevirtual 68, 3) := by decide +kernel
theorem dL_law_276 : decode cL_law 276 = .ok (.aload_n 2, 1) := by decide +kernel
theorem dL_law_277 : decode cL_law 277 = .ok (.invokevirtual 59, 3) := by decide +kernel
theorem dL_law_280 : decode cL_law 280 = .ok (.iload 5, 2) := by decide +kernel
theorem dL_law_282 : decode cL_law 282 = .ok (.if_icmp .eq 5, 3) := by decide +kernel
theorem dL_law_285 : decode cL_law 285 = .ok (.iconst 0, 1) := by decide +kernel
theorem dL_law_286 : decode cL_law 286 = .ok (.ireturn, 1) := by decide +kernel
theorem dL_law_287 : decode cL_law 287 = .ok (.goto 366, 3) := by decide +kernel
theorem dL_law_290 : decode cL_law 290 = .ok (.aload_n 1, 1) := by decide +kernel
theorem dL_law_291 : decode cL_law 291 = .ok (.aload_n 0, 1) := by decide +kernel
theorem dL_law_292 : decode cL_law 292 = .ok (.iload 4, 2) := by decide +kernel
theorem dL_law_294 : decode cL_law 294 = .ok (.iconst 1, 1) := by decide +kernel
theorem dL_law_295 : decode cL_law 295 = .ok (.iadd, 1) := by decide +kernel
theorem dL_law_296 : decode cL_law 296 = .ok (.iaload, 1) := by decide +kernel
theorem dL_law_297 : decode cL_law 297 = .ok (.invokevirtual 69, 3) := by decide +kernel
theorem dL_law_300 : decode cL_law 300 = .ok (.aload_n 2, 1) := by decide +kernel
theorem dL_law_301 : decode cL_law 301 = .ok (.aload_n 0, 1) := by decide +kernel
theorem dL_law_302 : decode cL_law 302 = .ok (.iload 4, 2) := by decide +kernel
theorem dL_law_304 : decode cL_law 304 = .ok (.iconst 1, 1) := by decide +kernel
theorem dL_law_305 : decode cL_law 305 = .ok (.iadd, 1) := by decide +kernel
theorem dL_law_306 : decode cL_law 306 = .ok (.iaload, 1) := by decide +kernel
theorem dL_law_307 : decode cL_law 307 = .ok (.invokevirtual 73, 3) := by decide +kernel
theorem dL_law_310 : decode cL_law 310 = .ok (.if_icmp .eq 343, 3) := by decide +kernel
theorem dL_law_313 : decode cL_law 313 = .ok (.iconst 0, 1) := by decide +kernel
theorem dL_law_314 : decode cL_law 314 = .ok (.ireturn, 1) := by decide +kernel
theorem dL_law_315 : decode cL_law 315 = .ok (.aload_n 1, 1) := by decide +kernel
theorem dL_law_316 : decode cL_law 316 = .ok (.aload_n 0, 1) := by decide +kernel
theorem dL_law_317 : decode cL_law 317 = .ok (.iload 4, 2) := by decide +kernel
theorem dL_law_319 : decode cL_law 319 = .ok (.iconst 1, 1) := by decide +kernel
theorem dL_law_320 : decode cL_law 320 = .ok (.iadd, 1) := by decide +kernel
theorem dL_law_321 : decode cL_law 321 = .ok (.iaload, 1) := by decide +kernel
theorem dL_law_322 : decode cL_law 322 = .ok (.aload_n 3, 1) := by decide +kernel
theorem dL_law_323 : decode cL_law 323 = .ok (.invokestatic 74, 3) := by decide +kernel
theorem dL_law_326 : decode cL_law 326 = .ok (.istore 5, 2) := by decide +kernel
theorem dL_law_328 : decode cL_law 328 = .ok (.aload_n 2, 1) := by decide +kernel
theorem dL_law_329 : decode cL_law 329 = .ok (.aload_n 0, 1) := by decide +kernel
theorem dL_law_330 : decode cL_law 330 = .ok (.iload 4, 2) := by decide +kernel
theorem dL_law_332 : decode cL_law 332 = .ok (.iconst 1, 1) := by decide +kernel
theorem dL_law_333 : decode cL_law 333 = .ok (.iadd, 1) := by decide +kernel
theorem dL_law_334 : decode cL_law 334 = .ok (.iaload, 1) := by decide +kernel
theorem dL_law_335 : decode cL_law 335 = .ok (.invokevirtual 77, 3) := by decide +kernel
theorem dL_law_338 : decode cL_law 338 = .ok (.istore 6, 2) := by decide +kernel
theorem dL_law_340 : decode cL_law 340 = .ok (.aload_n 2, 1) := by decide +kernel
theorem dL_law_341 : decode cL_law 341 = .ok (.invokevirtual 59, 3) := by decide +kernel
theorem dL_law_344 : decode cL_law 344 = .ok (.iload 5, 2) := by decide +kernel
theorem dL_law_346 : decode cL_law 346 = .ok (.if_icmp .eq 5, 3) := by decide +kernel
theorem dL_law_349 : decode cL_law 349 = .ok (.iconst 0, 1) := by decide +kernel
theorem dL_law_350 : decode cL_law 350 = .ok (.ireturn, 1) := by decide +kernel
theorem dL_law_351 : decode cL_law 351 = .ok (.iload 5, 2) := by decide +kernel
theorem dL_law_353 : decode cL_law 353 = .ok (.ifCond .ne 15, 3) := by decide +kernel
theorem dL_law_356 : decode cL_law 356 = .ok (.aload_n 3, 1) := by decide +kernel
theorem dL_law_357 : decode cL_law 357 = .ok (.iconst 0, 1) := by decide +kernel
theorem dL_law_358 : decode cL_law 358 = .ok (.laload, 1) := by decide +kernel
theorem dL_law_359 : decode cL_law 359 = .ok (.iload 6, 2) := by decide +kernel
theorem dL_law_361 : decode cL_law 361 = .ok (.i2l, 1) := by decide +kernel
theorem dL_law_362 : decode cL_law 362 = .ok (.lcmp, 1) := by decide +kernel
theorem dL_law_363 : decode cL_law 363 = .ok (.ifCond .eq 5, 3) := by decide +kernel
theorem dL_law_366 : decode cL_law 366 = .ok (.iconst 0, 1) := by decide +kernel
theorem dL_law_367 : decode cL_law 367 = .ok (.ireturn, 1) := by decide +kernel
theorem dL_law_368 : decode cL_law 368 = .ok (.goto 285, 3) := by decide +kernel
theorem dL_law_371 : decode cL_law 371 = .ok (.aload_n 1, 1) := by decide +kernel
theorem dL_law_372 : decode cL_law 372 = .ok (.aload_n 3, 1) := by decide +kernel
theorem dL_law_373 : decode cL_law 373 = .ok (.invokestatic 78, 3) := by decide +kernel
theorem dL_law_376 : decode cL_law 376 = .ok (.istore 5, 2) := by decide +kernel
theorem dL_law_378 : decode cL_law 378 = .ok (.aload_n 2, 1) := by decide +kernel
theorem dL_law_379 : decode cL_law 379 = .ok (.invokevirtual 81, 3) := by decide +kernel
theorem dL_law_382 : decode cL_law 382 = .ok (.istore 6, 2) := by decide +kernel
theorem dL_law_384 : decode cL_law 384 = .ok (.aload_n 2, 1) := by decide +kernel
theorem dL_law_385 : decode cL_law 385 = .ok (.invokevirtual 59, 3) := by decide +kernel
theorem dL_law_388 : decode cL_law 388 = .ok (.iload 5, 2) := by decide +kernel
theorem dL_law_390 : decode cL_law 390 = .ok (.if_icmp .eq 5, 3) := by decide +kernel
theorem dL_law_393 : decode cL_law 393 = .ok (.iconst 0, 1) := by decide +kernel
theorem dL_law_394 : decode cL_law 394 = .ok (.ireturn, 1) := by decide +kernel
theorem dL_law_395 : decode cL_law 395 = .ok (.iload 5, 2) := by decide +kernel
theorem dL_law_397 : decode cL_law 397 = .ok (.ifCond .ne 15, 3) := by decide +kernel
theorem dL_law_400 : decode cL_law 400 = .ok (.aload_n 3, 1) := by decide +kernel
theorem dL_law_401 : decode cL_law 401 = .ok (.iconst 0, 1) := by decide +kernel
theorem dL_law_402 : decode cL_law 402 = .ok (.laload, 1) := by decide +kernel
theorem dL_law_403 : decode cL_law 403 = .ok (.iload 6, 2) := by decide +kernel
theorem dL_law_405 : decode cL_law 405 = .ok (.i2l, 1) := by decide +kernel
theorem dL_law_406 : decode cL_law 406 = .ok (.lcmp, 1) := by decide +kernel
theorem dL_law_407 : decode cL_law 407 = .ok (.ifCond .eq 5, 3) := by decide +kernel
theorem dL_law_410 : decode cL_law 410 = .ok (.iconst 0, 1) := by decide +kernel
theorem dL_law_411 : decode cL_law 411 = .ok (.ireturn, 1) := by decide +kernel
theorem dL_law_412 : decode cL_law 412 = .ok (.goto 241, 3) := by decide +kernel
theorem dL_law_415 : decode cL_law 415 = .ok (.aload_n 1, 1) := by decide +kernel
theorem dL_law_416 : decode cL_law 416 = .ok (.aload_n 0, 1) := by decide +kernel
theorem dL_law_417 : decode cL_law 417 = .ok (.iload 4, 2) := by decide +kernel
theorem dL_law_419 : decode cL_law 419 = .ok (.iconst 1, 1) := by decide +kernel
theorem dL_law_420 : decode cL_law 420 = .ok (.iadd, 1) := by decide +kernel
theorem dL_law_421 : decode cL_law 421 = .ok (.iaload, 1) := by decide +kernel
theorem dL_law_422 : decode cL_law 422 = .ok (.aload_n 3, 1) := by decide +kernel
theorem dL_law_423 : decode cL_law 423 = .ok (.invokestatic 82, 3) := by decide +kernel
theorem dL_law_426 : decode cL_law 426 = .ok (.istore 5, 2) := by decide +kernel
theorem dL_law_428 : decode cL_law 428 = .ok (.aload_n 2, 1) := by decide +kernel
theorem dL_law_429 : decode cL_law 429 = .ok (.aload_n 0, 1) := by decide +kernel
theorem dL_law_430 : decode cL_law 430 = .ok (.iload 4, 2) := by decide +kernel
theorem dL_law_432 : decode cL_law 432 = .ok (.iconst 1, 1) := by decide +kernel
theorem dL_law_433 : decode cL_law 433 = .ok (.iadd, 1) := by decide +kernel
theorem dL_law_434 : decode cL_law 434 = .ok (.iaload, 1) := by decide +kernel
theorem dL_law_435 : decode cL_law 435 = .ok (.invokevirtual 84, 3) := by decide +kernel
theorem dL_law_438 : decode cL_law 438 = .ok (.istore 6, 2) := by decide +kernel
theorem dL_law_440 : decode cL_law 440 = .ok (.aload_n 2, 1) := by decide +kernel
theorem dL_law_441 : decode cL_law 441 = .ok (.invokevirtual 59, 3) := by decide +kernel
theorem dL_law_444 : decode cL_law 444 = .ok (.iload 5, 2) := by decide +kernel
theorem dL_law_446 : decode cL_law 446 = .ok (.if_icmp .eq 5, 3) := by decide +kernel
theorem dL_law_449 : decode cL_law 449 = .ok (.iconst 0, 1) := by decide +kernel
theorem dL_law_450 : decode cL_law 450 = .ok (.ireturn, 1) := by decide +kernel
theorem dL_law_451 : decode cL_law 451 = .ok (.iload 5, 2) := by decide +kernel
theorem dL_law_453 : decode cL_law 453 = .ok (.ifCond .ne 15, 3) := by decide +kernel
theorem dL_law_456 : decode cL_law 456 = .ok (.aload_n 3, 1) := by decide +kernel
theorem dL_law_457 : decode cL_law 457 = .ok (.iconst 0, 1) := by decide +kernel
theorem dL_law_458 : decode cL_law 458 = .ok (.laload, 1) := by decide +kernel
theorem dL_law_459 : decode cL_law 459 = .ok (.iload 6, 2) := by decide +kernel
theorem dL_law_461 : decode cL_law 461 = .ok (.i2l, 1) := by decide +kernel
theorem dL_law_462 : decode cL_law 462 = .ok (.lcmp, 1) := by decide +kernel
theorem dL_law_463 : decode cL_law 463 = .ok (.ifCond .eq 5, 3) := by decide +kernel
theorem dL_law_466 : decode cL_law 466 = .ok (.iconst 0, 1) := by decide +kernel
theorem dL_law_467 : decode cL_law 467 = .ok (.ireturn, 1) := by decide +kernel
theorem dL_law_468 : decode cL_law 468 = .ok (.goto 185, 3) := by decide +kernel
theorem dL_law_471 : decode cL_law 471 = .ok (.aload_n 1, 1) := by decide +kernel
theorem dL_law_472 : decode cL_law 472 = .ok (.aload_n 0, 1) := by decide +kernel
theorem dL_law_473 : decode cL_law 473 = .ok (.iload 4, 2) := by decide +kernel
theorem dL_law_475 : decode cL_law 475 = .ok (.iconst 1, 1) := by decide +kernel
theorem dL_law_476 : decode cL_law 476 = .ok (.iadd, 1) := by decide +kernel
theorem dL_law_477 : decode cL_law 477 = .ok (.iaload, 1) := by decide +kernel
theorem dL_law_478 : decode cL_law 478 = .ok (.invokevirtual 85, 3) := by decide +kernel
theorem dL_law_481 : decode cL_law 481 = .ok (.aload_n 2, 1) := by decide +kernel
theorem dL_law_482 : decode cL_law 482 = .ok (.aload_n 0, 1) := by decide +kernel
theorem dL_law_483 : decode cL_law 483 = .ok (.iload 4, 2) := by decide +kernel
theorem dL_law_485 : decode cL_law 485 = .ok (.iconst 1, 1) := by decide +kernel
theorem dL_law_486 : decode cL_law 486 = .ok (.iadd, 1) := by decide +kernel
theorem dL_law_487 : decode cL_law 487 = .ok (.iaload, 1) := by decide +kernel
theorem dL_law_488 : decode cL_law 488 = .ok (.invokevirtual 89, 3) := by decide +kernel
theorem dL_law_491 : decode cL_law 491 = .ok (.lcmp, 1) := by decide +kernel
theorem dL_law_492 : decode cL_law 492 = .ok (.ifCond .eq 161, 3) := by decide +kernel
theorem dL_law_495 : decode cL_law 495 = .ok (.iconst 0, 1) := by decide +kernel
theorem dL_law_496 : decode cL_law 496 = .ok (.ireturn, 1) := by decide +kernel
theorem dL_law_497 : decode cL_law 497 = .ok (.aload_n 1, 1) := by decide +kernel
theorem dL_law_498 : decode cL_law 498 = .ok (.aload_n 0, 1) := by decide +kernel
theorem dL_law_499 : decode cL_law 499 = .ok (.iload 4, 2) := by decide +kernel
theorem dL_law_501 : decode cL_law 501 = .ok (.iconst 1, 1) := by decide +kernel
theorem dL_law_502 : decode cL_law 502 = .ok (.iadd, 1) := by decide +kernel
theorem dL_law_503 : decode cL_law 503 = .ok (.iaload, 1) := by decide +kernel
theorem dL_law_504 : decode cL_law 504 = .ok (.aload_n 0, 1) := by decide +kernel
theorem dL_law_505 : decode cL_law 505 = .ok (.iload 4, 2) := by decide +kernel
theorem dL_law_507 : decode cL_law 507 = .ok (.iconst 2, 1) := by decide +kernel
theorem dL_law_508 : decode cL_law 508 = .ok (.iadd, 1) := by decide +kernel
theorem dL_law_509 : decode cL_law 509 = .ok (.iaload, 1) := by decide +kernel
theorem dL_law_510 : decode cL_law 510 = .ok (.aload_n 3, 1) := by decide +kernel
theorem dL_law_511 : decode cL_law 511 = .ok (.invokestatic 90, 3) := by decide +kernel
theorem dL_law_514 : decode cL_law 514 = .ok (.istore 5, 2) := by decide +kernel
theorem dL_law_516 : decode cL_law 516 = .ok (.aload_n 2, 1) := by decide +kernel
theorem dL_law_517 : decode cL_law 517 = .ok (.aload_n 0, 1) := by decide +kernel
theorem dL_law_518 : decode cL_law 518 = .ok (.iload 4, 2) := by decide +kernel
theorem dL_law_520 : decode cL_law 520 = .ok (.iconst 1, 1) := by decide +kernel
theorem dL_law_521 : decode cL_law 521 = .ok (.iadd, 1) := by decide +kernel
theorem dL_law_522 : decode cL_law 522 = .ok (.iaload, 1) := by decide +kernel
theorem dL_law_523 : decode cL_law 523 = .ok (.aload_n 0, 1) := by decide +kernel
theorem dL_law_524 : decode cL_law 524 = .ok (.iload 4, 2) := by decide +kernel
theorem dL_law_526 : decode cL_law 526 = .ok (.iconst 2, 1) := by decide +kernel
theorem dL_law_527 : decode cL_law 527 = .ok (.iadd, 1) := by decide +kernel
theorem dL_law_528 : decode cL_law 528 = .ok (.iaload, 1) := by decide +kernel
theorem dL_law_529 : decode cL_law 529 = .ok (.invokevirtual 93, 3) := by decide +kernel
theorem dL_law_532 : decode cL_law 532 = .ok (.lstore 6, 2) := by decide +kernel
theorem dL_law_534 : decode cL_law 534 = .ok (.aload_n 2, 1) := by decide +kernel
theorem dL_law_535 : decode cL_law 535 = .ok (.invokevirtual 59, 3) := by decide +kernel
theorem dL_law_538 : decode cL_law 538 = .ok (.iload 5, 2) := by decide +kernel
theorem dL_law_540 : decode cL_law 540 = .ok (.if_icmp .eq 5, 3) := by decide +kernel
theorem dL_law_543 : decode cL_law 543 = .ok (.iconst 0, 1) := by decide +kernel
theorem dL_law_544 : decode cL_law 544 = .ok (.ireturn, 1) := by decide +kernel
theorem dL_law_545 : decode cL_law 545 = .ok (.iload 5, 2) := by decide +kernel
theorem dL_law_547 : decode cL_law 547 = .ok (.ifCond .ne 14, 3) := by decide +kernel
theorem dL_law_550 : decode cL_law 550 = .ok (.aload_n 3, 1) := by decide +kernel
theorem dL_law_551 : decode cL_law 551 = .ok (.iconst 0, 1) := by decide +kernel
theorem dL_law_552 : decode cL_law 552 = .ok (.laload, 1) := by decide +kernel
theorem dL_law_553 : decode cL_law 553 = .ok (.lload 6, 2) := by decide +kernel
theorem dL_law_555 : decode cL_law 555 = .ok (.lcmp, 1) := by decide +kernel
theorem dL_law_556 : decode cL_law 556 = .ok (.ifCond .eq 5, 3) := by decide +kernel
theorem dL_law_559 : decode cL_law 559 = .ok (.iconst 0, 1) := by decide +kernel
theorem dL_law_560 : decode cL_law 560 = .ok (.ireturn, 1) := by decide +kernel
theorem dL_law_561 : decode cL_law 561 = .ok (.goto 92, 3) := by decide +kernel
theorem dL_law_564 : decode cL_law 564 = .ok (.aload_n 1, 1) := by decide +kernel
theorem dL_law_565 : decode cL_law 565 = .ok (.aload_n 0, 1) := by decide +kernel
theorem dL_law_566 : decode cL_law 566 = .ok (.iload 4, 2) := by decide +kernel
theorem dL_law_568 : decode cL_law 568 = .ok (.iconst 1, 1) := by decide +kernel
theorem dL_law_569 : decode cL_law 569 = .ok (.iadd, 1) := by decide +kernel
theorem dL_law_570 : decode cL_law 570 = .ok (.iaload, 1) := by decide +kernel
theorem dL_law_571 : decode cL_law 571 = .ok (.invokevirtual 94, 3) := by decide +kernel
theorem dL_law_574 : decode cL_law 574 = .ok (.aload_n 2, 1) := by decide +kernel
theorem dL_law_575 : decode cL_law 575 = .ok (.aload_n 0, 1) := by decide +kernel
theorem dL_law_576 : decode cL_law 576 = .ok (.iload 4, 2) := by decide +kernel
theorem dL_law_578 : decode cL_law 578 = .ok (.iconst 1, 1) := by decide +kernel
theorem dL_law_579 : decode cL_law 579 = .ok (.iadd, 1) := by decide +kernel
theorem dL_law_580 : decode cL_law 580 = .ok (.iaload, 1) := by decide +kernel
theorem dL_law_581 : decode cL_law 581 = .ok (.invokevirtual 97, 3) := by decide +kernel
theorem dL_law_584 : decode cL_law 584 = .ok (.if_icmp .eq 69, 3) := by decide +kernel
theorem dL_law_587 : decode cL_law 587 = .ok (.iconst 0, 1) := by decide +kernel
theorem dL_law_588 : decode cL_law 588 = .ok (.ireturn, 1) := by decide +kernel
theorem dL_law_589 : decode cL_law 589 = .ok (.aload_n 1, 1) := by decide +kernel
theorem dL_law_590 : decode cL_law 590 = .ok (.invokevirtual 98, 3) := by decide +kernel
theorem dL_law_593 : decode cL_law 593 = .ok (.aload_n 2, 1) := by decide +kernel
theorem dL_law_594 : decode cL_law 594 = .ok (.invokevirtual 102, 3) := by decide +kernel
theorem dL_law_597 : decode cL_law 597 = .ok (.lcmp, 1) := by decide +kernel
theorem dL_law_598 : decode cL_law 598 = .ok (.ifCond .eq 55, 3) := by decide +kernel
theorem dL_law_601 : decode cL_law 601 = .ok (.iconst 0, 1) := by decide +kernel
theorem dL_law_602 : decode cL_law 602 = .ok (.ireturn, 1) := by decide +kernel
theorem dL_law_603 : decode cL_law 603 = .ok (.aload_n 1, 1) := by decide +kernel
theorem dL_law_604 : decode cL_law 604 = .ok (.aload_n 0, 1) := by decide +kernel
theorem dL_law_605 : decode cL_law 605 = .ok (.iload 4, 2) := by decide +kernel
theorem dL_law_607 : decode cL_law 607 = .ok (.iconst 1, 1) := by decide +kernel
theorem dL_law_608 : decode cL_law 608 = .ok (.iadd, 1) := by decide +kernel
theorem dL_law_609 : decode cL_law 609 = .ok (.iaload, 1) := by decide +kernel
theorem dL_law_610 : decode cL_law 610 = .ok (.invokevirtual 103, 3) := by decide +kernel
theorem dL_law_613 : decode cL_law 613 = .ok (.aload_n 2, 1) := by decide +kernel
theorem dL_law_614 : decode cL_law 614 = .ok (.aload_n 0, 1) := by decide +kernel
theorem dL_law_615 : decode cL_law 615 = .ok (.iload 4, 2) := by decide +kernel
theorem dL_law_617 : decode cL_law 617 = .ok (.iconst 1, 1) := by decide +kernel
theorem dL_law_618 : decode cL_law 618 = .ok (.iadd, 1) := by decide +kernel
theorem dL_law_619 : decode cL_law 619 = .ok (.iaload, 1) := by decide +kernel
theorem dL_law_620 : decode cL_law 620 = .ok (.invokevirtual 106, 3) := by decide +kernel
theorem dL_law_623 : decode cL_law 623 = .ok (.if_icmp .eq 30, 3) := by decide +kernel
theorem dL_law_626 : decode cL_law 626 = .ok (.iconst 0, 1) := by decide +kernel
theorem dL_law_627 : decode cL_law 627 = .ok (.ireturn, 1) := by decide +kernel
theorem dL_law_628 : decode cL_law 628 = .ok (.aload_n 1, 1) := by decide +kernel
theorem dL_law_629 : decode cL_law 629 = .ok (.aload_n 0, 1) := by decide +kernel
theorem dL_law_630 : decode cL_law 630 = .ok (.iload 4, 2) := by decide +kernel
theorem dL_law_632 : decode cL_law 632 = .ok (.iconst 1, 1) := by decide +kernel
theorem dL_law_633 : decode cL_law 633 = .ok (.iadd, 1) := by decide +kernel
theorem dL_law_634 : decode cL_law 634 = .ok (.iaload, 1) := by decide +kernel
theorem dL_law_635 : decode cL_law 635 = .ok (.invokevirtual 107, 3) := by decide +kernel
theorem dL_law_638 : decode cL_law 638 = .ok (.aload_n 2, 1) := by decide +kernel
theorem dL_law_639 : decode cL_law 639 = .ok (.aload_n 0, 1) := by decide +kernel
theorem dL_law_640 : decode cL_law 640 = .ok (.iload 4, 2) := by decide +kernel
theorem dL_law_642 : decode cL_law 642 = .ok (.iconst 1, 1) := by decide +kernel
theorem dL_law_643 : decode cL_law 643 = .ok (.iadd, 1) := by decide +kernel
theorem dL_law_644 : decode cL_law 644 = .ok (.iaload, 1) := by decide +kernel
theorem dL_law_645 : decode cL_law 645 = .ok (.invokevirtual 110, 3) := by decide +kernel
theorem dL_law_648 : decode cL_law 648 = .ok (.if_icmp .eq 5, 3) := by decide +kernel
theorem dL_law_651 : decode cL_law 651 = .ok (.iconst 0, 1) := by decide +kernel
theorem dL_law_652 : decode cL_law 652 = .ok (.ireturn, 1) := by decide +kernel
theorem dL_law_653 : decode cL_law 653 = .ok (.iinc 4 4, 3) := by decide +kernel
theorem dL_law_656 : decode cL_law 656 = .ok (.goto (-633), 3) := by decide +kernel
theorem dL_law_659 : decode cL_law 659 = .ok (.iconst 1, 1) := by decide +kernel
theorem dL_law_660 : decode cL_law 660 = .ok (.ireturn, 1) := by decide +kernel
abbrev vwCl : List vw_C := [(RX0, TX0, 13), (RX1, TX1, 11)]
end
section
/-! Contracts in a short form: a world of cells before, an answer, a world of cells behind; nothing new is made. -/
abbrev cPre (D : va_G) (tys : List (ClassId × FieldType)) (wc : va_W) (as : List Value) (sz : Nat) : Array Value → State → Prop :=
  va_Pc as (fun U => U.heap.size = sz ∧ va_P D vwCl wc U.heap ∧ va_K D vwCl tys U ∧ va_D (fun _ => True) wc)
abbrev cEnd (D : va_G) (tys : List (ClassId × FieldType)) (wc' : va_W) (A : Nat → Prop) (t : State) : Prop :=
  va_P D vwCl wc' t.heap ∧ va_K D vwCl tys t ∧ va_D A wc'
abbrev cQi (D : va_G) (tys : List (ClassId × FieldType)) (r : Int32) (wc' : va_W) (A : Nat → Prop) : Array Value → State → Outcome → State → Prop :=
  va_Qi (fun r' (_ : Unit) => r' = r) (fun _ t => cEnd D tys wc' A t) A
abbrev cQl (D : va_G) (tys : List (ClassId × FieldType)) (r : Int64) (wc' : va_W) (A : Nat → Prop) : Array Value → State → Outcome → State → Prop :=
  va_Ql (fun r' (_ : Unit) => r' = r) (fun _ t => cEnd D tys wc' A t) A
abbrev cQv (D : va_G) (tys : List (ClassId × FieldType)) (wc' : va_W) (A : Nat → Prop) : Array Value → State → Outcome → State → Prop :=
  va_Qv (fun (_ : Unit) => True) (fun _ t => cEnd D tys wc' A t) A
def cMi (l : Launch) (y : MethodName) (ws : List Cond) (rm : Room) (D : va_G) (tys : List (ClassId × FieldType)) (wc : va_W) (as : List Value) (r : Int32) (wc' : va_W) : Prop :=
  ∀ sz : Nat, Met l y ws rm (cPre D tys wc as sz) (cQi D tys r wc' (va_A wc sz)) 0 0 (va_A wc sz)
def cMl (l : Launch) (y : MethodName) (ws : List Cond) (rm : Room) (D : va_G) (tys : List (ClassId × FieldType)) (wc : va_W) (as : List Value) (r : Int64) (wc' : va_W) : Prop :=
  ∀ sz : Nat, Met l y ws rm (cPre D tys wc as sz) (cQl D tys r wc' (va_A wc sz)) 0 0 (va_A wc sz)
def cMv (l : Launch) (y : MethodName) (ws : List Cond) (rm : Room) (D : va_G) (tys : List (ClassId × FieldType)) (wc : va_W) (as : List Value) (wc' : va_W) : Prop :=
  ∀ sz : Nat, Met l y ws rm (cPre D tys wc as sz) (cQv D tys wc' (va_A wc sz)) 0 0 (va_A wc sz)
/-- what a body starts from -/
def cBody (l : Launch) (y : MethodName) (ws : List Cond) (rm : Room) (D : va_G) (tys : List (ClassId × FieldType)) (wc : va_W) (as : List Value) (cc : ByteArray) (maxL : Nat) (ret : Option FieldType) (Qc : (Nat → Prop) → Array Value → State → Outcome → State → Prop) : Prop :=
  ∀ (p : Program) (e : Env) (s : State) (m : MethodId) (below : List Frame) (meth : Method) (c : Code) (A : Nat → Prop) (ls : Array Slot), p.tables.exec = Jvm.exec → c.code = cc → meth.sig.returnType = ret → (∀ w ∈ ws, w.before as.toArray s = true) → s.vm.findClass y.cls = some m.cls → c.maxLocals = maxL → meth.locks = false → (∀ q : Nat, s.heap.size ≤ q → A q) → va_K D vwCl tys s → va_P D vwCl wc s.heap → va_D A wc → va_S A s.heap s.heap [] → lv_has ls maxL (lv_args 0 as) →
    W p l e rm s m as.toArray below meth c s.heap [] 0 0 (MQ below (Qc A) as.toArray s 0 0 A) (F0 m 0 ls [])
theorem cMet_of {l : Launch} {y : MethodName} {ws ws' : List Cond} {rm : Room} {D : va_G} {tys : List (ClassId × FieldType)} {wc : va_W} {as : List Value} {cc : ByteArray} {maxL : Nat} {ret : Option FieldType} {Qc : (Nat → Prop) → Array Value → State → Outcome → State → Prop}
    (hy : plainName y.cls = true) (hw : ws = Cond.code y cc maxL ret :: ws') (hlen : (lg_sl as).length ≤ maxL) (body : cBody l y ws rm D tys wc as cc maxL ret Qc) (sz : Nat) : Met l y ws rm (cPre D tys wc as sz) (Qc (va_A wc sz)) 0 0 (va_A wc sz) := by
  refine Met.ofW (cc := cc) (maxL := maxL) (ret := ret) hy hw ?_
  intro p e s m args below meth c s₁ B hml hv
  obtain ⟨rfl, hsz, hP, hK, hD0⟩ := hv
  have hD := hD0.self (sz := s.heap.size)
  subst hsz
  rw [lg_entry_eq]
  exact body p e s m below meth c (va_A wc s.heap.size) _ B.exec B.bytes B.returns (atoms_spec (ws := ws) B.pre) (findClass_of_methodNamed B.named) hml B.notSynchronized (fun q h => Or.inr h) hK hP hD va_S.rf (lv_entry as hlen)
section CR
variable {p : Program} {l : Launch} {e : Env} {R : Room} {s : State} {m : MethodId} {args : Array Value} {below : List Frame} {meth : Method} {c : Code} {H : Heap} {locs : List Loc} {Q : State → Prop} {cc : ByteArray} {pc : Nat} {ls : Array Slot} {rest : List Value} {D : va_G} {tys : List (ClassId × FieldType)} {wc wc' : va_W} {A : Nat → Prop}
theorem cRi (hx : p.tables.exec = Jvm.exec) (hb : c.code = cc) (hr : meth.sig.returnType = some .int) (hlk : meth.locks = false) (hK : va_K D vwCl tys s) (hP : va_P D vwCl wc' H) (hD : va_D A wc') (hS : va_S A s.heap H locs) {v r : Int32} (hv : v = r) (hdg : decode cc pc = .ok (.ireturn, 1)) :
    W p l e R s m args below meth c H locs 0 0 (MQ below (cQi D tys r wc' A) args s 0 0 A) (F0 m pc ls [.int v]) :=
  W.iret hx hb hr (fun t ht hW => ⟨⟨v, (), rfl, hv, by rw [ht]; exact hP, va_K.moved hW.alike hK, hD⟩, hS.F ht⟩) hS.2.2 hdg hlk
theorem cRz (hx : p.tables.exec = Jvm.exec) (hb : c.code = cc) (hr : meth.sig.returnType = some .boolean) (hlk : meth.locks = false) (hK : va_K D vwCl tys s) (hP : va_P D vwCl wc' H) (hD : va_D A wc') (hS : va_S A s.heap H locs) {v r : Int32} (h01 : v = 0 ∨ v = 1) (hv : v = r) (hdg : decode cc pc = .ok (.ireturn, 1)) :
    W p l e R s m args below meth c H locs 0 0 (MQ below (cQi D tys r wc' A) args s 0 0 A) (F0 m pc ls [.int v]) :=
  W.zret (ty := .boolean) hx hb hr (by rcases h01 with h | h <;> subst h <;> rfl) (fun t ht hW => ⟨⟨v, (), rfl, hv, by rw [ht]; exact hP, va_K.moved hW.alike hK, hD⟩, hS.F ht⟩) hS.2.2 hdg hlk
theorem cRl (hx : p.tables.exec = Jvm.exec) (hb : c.code = cc) (hr : meth.sig.returnType = some .long) (hlk : meth.locks = false) (hK : va_K D vwCl tys s) (hP : va_P D vwCl wc' H) (hD : va_D A wc') (hS : va_S A s.heap H locs) {v r : Int64} (hv : v = r) (hdg : decode cc pc = .ok (.lreturn, 1)) :
    W p l e R s m args below meth c H locs 0 0 (MQ below (cQl D tys r wc' A) args s 0 0 A) (F0 m pc ls [.long v]) :=
  W.lret hx hb hr (fun t ht hW => ⟨⟨v, (), rfl, hv, by rw [ht]; exact hP, va_K.moved hW.alike hK, hD⟩, hS.F ht⟩) hS.2.2 hdg hlk
theorem cRv (hx : p.tables.exec = Jvm.exec) (hb : c.code = cc) (hr : meth.sig.returnType = none) (hlk : meth.locks = false) (hK : va_K D vwCl tys s) (hP : va_P D vwCl wc' H) (hD : va_D A wc') (hS : va_S A s.heap H locs) (hdg : decode cc pc = .ok (.return_, 1)) :
    W p l e R s m args below meth c H locs 0 0 (MQ below (cQv D tys wc' A) args s 0 0 A) (F0 m pc ls []) :=
  W.vret hx hb hr (fun t ht hW => ⟨⟨(), rfl, trivial, by rw [ht]; exact hP, va_K.moved hW.alike hK, hD⟩, hS.F ht⟩) hS.2.2 hdg hlk
end CR
theorem cRange {α : Type} (l : List α) : (List.range l.length).map (fun i => l[i]?) = l.map some := by
  apply List.ext_getElem?
  intro i
  by_cases h : i < l.length
  · simp [h]
  · simp [Nat.not_lt.mp h]
theorem cBlind {D : va_G} {tys : List (ClassId × FieldType)} {wc : va_W} {as : List Value} {sz : Nat} : FrameBlind (cPre D tys wc as sz) := fun a U g mk q => by
  obtain ⟨q0, q1, qP, qK, qD⟩ := q
  exact ⟨q0, q1, qP, va_K.moved (u := U) (U := U.calling g mk a) (Vm.Alike.refl U.vm) qK, qD⟩
section CC
variable {p : Program} {l : Launch} {e : Env} {R : Room} {s : State} {m : MethodId} {args : Array Value} {below : List Frame} {meth : Method} {c : Code} {H : Heap} {locs : List Loc} {cells slots : Nat} {Q : State → Prop} {cc bytes : ByteArray} {pc : Nat} {ls : Array Slot} {rest st0 As : List Value} {D : va_G} {tys tys0 : List (ClassId × FieldType)} {wc wc' ws0 : va_W} {A0 : Nat → Prop} {H0 : Heap} {y : MethodName} {maxL nL n index : Nat} {ret : Option FieldType} {ws : List Cond} {rm : Room} {Ts : List Cond} {own C : String} {b : Addr}
/-- a call of this object's own method, over this object's whole world -/
theorem cVi (S : CallFix p m c cc nL s args Ts own) {r : Int32} (hM : cMi l y ws rm D tys wc (.ref b :: As) r wc') (cw : CallW R s args own C index y bytes maxL ret ws rm 0 0 n) (hrc : ∃ cell : Cell, H[b]? = some cell ∧ cell.vm.isStatics = false ∧ s.vm.findClass C = some cell.cls)
    (hn : As.length = n) (hsize : ls.size = nL) (hst : st0 = As.reverse ++ .ref b :: rest) (hW : (rest.map fun v => v.category).sum ≤ 8) (hdg : decode cc pc = .ok (.invokevirtual index, 3)) (hc : cells ≤ R.cells ∧ slots ≤ R.slots)
    (hK : va_K D vwCl tys s) (hP : va_P D vwCl wc H) (hD : va_D A0 wc) (hS : va_S A0 H0 H locs) (hA : ∀ q, H0.size ≤ q → A0 q)
    (kk : ∀ (H1 : Heap) (locs1 : List Loc), va_P D vwCl wc' H1 → va_D A0 wc' → va_S A0 H0 H1 locs1 → W p l e R s m args below meth c H1 locs1 cells slots Q (F0 m (pc + 3) ls (.int r :: rest))) : W p l e R s m args below meth c H locs cells slots Q (F0 m pc ls st0) := by
  have hFc := va_free (wc := wc) hD hS hA (List.range wc.length) (cRange wc)
  refine va_calli (va_runV (As := As) (rest := rest) (g := F0 m pc ls st0) S (hM H.size) cw ⟨cBlind, hrc, fun U hU hW => ⟨rfl, by rw [hU], by rw [hU]; exact hP, va_K.moved hW.alike hK, hD.weaken (fun _ _ _ _ => trivial)⟩⟩ rfl hn hsize hst (lv_room hW) hdg hc) hS (fun q _ h => hFc q h) hFc (fun r' u t H1 locs1 ht hvm hw hB hz1 hk1 hS1 => ?_)
  obtain ⟨hP1, -, hD1⟩ := hB
  rw [ht] at hP1
  subst hw
  exact kk H1 locs1 hP1 (hD1.weaken (fun _ q _ h => hFc q.1 h)) hS1
theorem cVl (S : CallFix p m c cc nL s args Ts own) {r : Int64} (hM : cMl l y ws rm D tys wc (.ref b :: As) r wc') (cw : CallW R s args own C index y bytes maxL ret ws rm 0 0 n) (hrc : ∃ cell : Cell, H[b]? = some cell ∧ cell.vm.isStatics = false ∧ s.vm.findClass C = some cell.cls)
    (hn : As.length = n) (hsize : ls.size = nL) (hst : st0 = As.reverse ++ .ref b :: rest) (hW : (rest.map fun v => v.category).sum ≤ 8) (hdg : decode cc pc = .ok (.invokevirtual index, 3)) (hc : cells ≤ R.cells ∧ slots ≤ R.slots)
    (hK : va_K D vwCl tys s) (hP : va_P D vwCl wc H) (hD : va_D A0 wc) (hS : va_S A0 H0 H locs) (hA : ∀ q, H0.size ≤ q → A0 q)
    (kk : ∀ (H1 : Heap) (locs1 : List Loc), va_P D vwCl wc' H1 → va_D A0 wc' → va_S A0 H0 H1 locs1 → W p l e R s m args below meth c H1 locs1 cells slots Q (F0 m (pc + 3) ls (.long r :: rest))) : W p l e R s m args below meth c H locs cells slots Q (F0 m pc ls st0) := by
  have hFc := va_free (wc := wc) hD hS hA (List.range wc.length) (cRange wc)
  refine va_calll (va_runV (As := As) (rest := rest) (g := F0 m pc ls st0) S (hM H.size) cw ⟨cBlind, hrc, fun U hU hW => ⟨rfl, by rw [hU], by rw [hU]; exact hP, va_K.moved hW.alike hK, hD.weaken (fun _ _ _ _ => trivial)⟩⟩ rfl hn hsize hst (lv_room hW) hdg hc) hS (fun q _ h => hFc q h) hFc (fun r' u t H1 locs1 ht hvm hw hB hz1 hk1 hS1 => ?_)
  obtain ⟨hP1, -, hD1⟩ := hB
  rw [ht] at hP1
  subst hw
  exact kk H1 locs1 hP1 (hD1.weaken (fun _ q _ h => hFc q.1 h)) hS1
theorem cVv (S : CallFix p m c cc nL s args Ts own) (hM : cMv l y ws rm D tys wc (.ref b :: As) wc') (cw : CallW R s args own C index y bytes maxL ret ws rm 0 0 n) (hrc : ∃ cell : Cell, H[b]? = some cell ∧ cell.vm.isStatics = false ∧ s.vm.findClass C = some cell.cls)
    (hn : As.length = n) (hsize : ls.size = nL) (hst : st0 = As.reverse ++ .ref b :: rest) (hW : (rest.map fun v => v.category).sum ≤ 8) (hdg : decode cc pc = .ok (.invokevirtual index, 3)) (hc : cells ≤ R.cells ∧ slots ≤ R.slots)
    (hK : va_K D vwCl tys s) (hP : va_P D vwCl wc H) (hD : va_D A0 wc) (hS : va_S A0 H0 H locs) (hA : ∀ q, H0.size ≤ q → A0 q)
    (kk : ∀ (H1 : Heap) (locs1 : List Loc), va_P D vwCl wc' H1 → va_D A0 wc' → va_S A0 H0 H1 locs1 → W p l e R s m args below meth c H1 locs1 cells slots Q (F0 m (pc + 3) ls rest)) : W p l e R s m args below meth c H locs cells slots Q (F0 m pc ls st0) := by
  have hFc := va_free (wc := wc) hD hS hA (List.range wc.length) (cRange wc)
  refine va_callv (va_runV (As := As) (rest := rest) (g := F0 m pc ls st0) S (hM H.size) cw ⟨cBlind, hrc, fun U hU hW => ⟨rfl, by rw [hU], by rw [hU]; exact hP, va_K.moved hW.alike hK, hD.weaken (fun _ _ _ _ => trivial)⟩⟩ rfl hn hsize hst (lv_room hW) hdg hc) hS (fun q _ h => hFc q h) hFc (fun u t H1 locs1 ht hvm hw hB hz1 hk1 hS1 => ?_)
  obtain ⟨hP1, -, hD1⟩ := hB
  rw [ht] at hP1
  exact kk H1 locs1 hP1 (hD1.weaken (fun _ q _ h => hFc q.1 h)) hS1
theorem cKeep {H1 : Heap} (hP : va_P D vwCl ws0 H) (hk : ∀ q : Nat, q < H.size → ¬ va_A [] H.size q → H1[q]? = H[q]?) : va_P D vwCl ws0 H1 :=
  hP.kept fun k q h => hk q.1 (vx_lt hP h) (fun z => by
    rcases z with ⟨k, e, z⟩ | z
    · cases z
    · exact absurd (vx_lt hP h) (Nat.not_lt.mpr z))
theorem cNil {A : Nat → Prop} : va_D A [] := ⟨fun i j p q h => by simp at h, fun k q h => by simp at h⟩
theorem cPnil : va_P D vwCl [] H := fun k q h => by simp at h
theorem cKnil (hK : va_K D vwCl tys0 s) : va_K D vwCl [] s := hK.sub [] rfl
/-- a static call that needs no cell -/
theorem cSi (S : CallFix p m c cc nL s args Ts own) {r : Int32} (hM : cMi l y ws rm D [] [] As r []) (cw : CallB R s args own index y bytes maxL ret ws rm 0 0 n ∧ (Cond.static y).before args s = true)
    (hn : As.length = n) (hsize : ls.size = nL) (hst : st0 = As.reverse ++ rest) (hW : (rest.map fun v => v.category).sum ≤ 8) (hdg : decode cc pc = .ok (.invokestatic index, 3)) (hc : cells ≤ R.cells ∧ slots ≤ R.slots)
    (hK : va_K D vwCl tys0 s) (hP : va_P D vwCl ws0 H) (hS : va_S A0 H0 H locs) (hA : ∀ q, H0.size ≤ q → A0 q)
    (kk : ∀ (H1 : Heap) (locs1 : List Loc), va_P D vwCl ws0 H1 → va_S A0 H0 H1 locs1 → W p l e R s m args below meth c H1 locs1 cells slots Q (F0 m (pc + 3) ls (.int r :: rest))) : W p l e R s m args below meth c H locs cells slots Q (F0 m pc ls st0) := by
  have hFc := va_free (wc := []) (cNil (A := A0)) hS hA [] rfl
  refine va_calli (va_runS (As := As) (rest := rest) (g := F0 m pc ls st0) S (hM H.size) cw ⟨cBlind, fun U hU hW => ⟨rfl, by rw [hU], cPnil, va_K.moved hW.alike (cKnil hK), cNil⟩⟩ rfl hn hsize hst (lv_room hW) hdg hc) hS (fun q _ h => hFc q h) hFc (fun r' u t H1 locs1 ht hvm hw hB hz1 hk1 hS1 => ?_)
  subst hw
  exact kk H1 locs1 (cKeep hP hk1) hS1
theorem cSl (S : CallFix p m c cc nL s args Ts own) {r : Int64} (hM : cMl l y ws rm D [] [] As r []) (cw : CallB R s args own index y bytes maxL ret ws rm 0 0 n ∧ (Cond.static y).before args s = true)
    (hn : As.length = n) (hsize : ls.size = nL) (hst : st0 = As.reverse ++ rest) (hW : (rest.map fun v => v.category).sum ≤ 8) (hdg : decode cc pc = .ok (.invokestatic index, 3)) (hc : cells ≤ R.cells ∧ slots ≤ R.slots)
    (hK : va_K D vwCl tys0 s) (hP : va_P D vwCl ws0 H) (hS : va_S A0 H0 H locs) (hA : ∀ q, H0.size ≤ q → A0 q)
    (kk : ∀ (H1 : Heap) (locs1 : List Loc), va_P D vwCl ws0 H1 → va_S A0 H0 H1 locs1 → W p l e R s m args below meth c H1 locs1 cells slots Q (F0 m (pc + 3) ls (.long r :: rest))) : W p l e R s m args below meth c H locs cells slots Q (F0 m pc ls st0) := by
  have hFc := va_free (wc := []) (cNil (A := A0)) hS hA [] rfl
  refine va_calll (va_runS (As := As) (rest := rest) (g := F0 m pc ls st0) S (hM H.size) cw ⟨cBlind, fun U hU hW => ⟨rfl, by rw [hU], cPnil, va_K.moved hW.alike (cKnil hK), cNil⟩⟩ rfl hn hsize hst (lv_room hW) hdg hc) hS (fun q _ h => hFc q h) hFc (fun r' u t H1 locs1 ht hvm hw hB hz1 hk1 hS1 => ?_)
  subst hw
  exact kk H1 locs1 (cKeep hP hk1) hS1
end CC
/-! The two classes' cells. Board: object o, its arrays at h 0, h 7 .. h 12 (by the field's number), the int fields F 1 .. F 6, the arrays' contents A 0, A 7 .. A 12. -/
abbrev flB (h : Nat → Nat) (F : Nat → Int32) : List Value := [.ref (h 0), .int (F 1), .int (F 2), .int (F 3), .int (F 4), .int (F 5), .int (F 6), .ref (h 7), .ref (h 8), .ref (h 9), .ref (h 10), .ref (h 11), .ref (h 12)]
abbrev wB (cI : ClassId) (o : Nat) (h : Nat → Nat) (F : Nat → Int32) (A : Nat → Nat → Int32) : va_W :=
  [(o, .inr (0, flB h F)), (h 0, .inl (cI, 64, .inl (A 0))), (h 7, .inl (cI, 600, .inl (A 7))), (h 8, .inl (cI, 600, .inl (A 8))), (h 9, .inl (cI, 600, .inl (A 9))), (h 10, .inl (cI, 600, .inl (A 10))), (h 11, .inl (cI, 600, .inl (A 11))), (h 12, .inl (cI, 600, .inl (A 12)))]
/-- BoardModel: object o, its arrays at h 1, h 8, h 9 (bytes), h 10, the int fields F 0, F 2 .. F 7 -/
abbrev flR (h : Nat → Nat) (F : Nat → Int32) : List Value := [.int (F 0), .ref (h 1), .int (F 2), .int (F 3), .int (F 4), .int (F 5), .int (F 6), .int (F 7), .ref (h 8), .ref (h 9), .ref (h 10)]
abbrev wR (cI cB : ClassId) (o : Nat) (h : Nat → Nat) (F : Nat → Int32) (A : Nat → Nat → Int32) : va_W :=
  [(o, .inr (1, flR h F)), (h 1, .inl (cI, 64, .inl (A 1))), (h 8, .inl (cI, 600, .inl (A 8))), (h 9, .inl (cB, 38400, .inl (A 9))), (h 10, .inl (cI, 3000, .inl (A 10)))]
abbrev tFA : Type := (Nat → Int32) × (Nat → Nat → Int32)
/-- a field's new value; an array's new contents -/
def uf (F : Nat → Int32) (k : Nat) (x : Int32) : Nat → Int32 := upd F k x
def ua (A : Nat → Nat → Int32) (k i : Nat) (x : Int32) : Nat → Nat → Int32 := va_up A k (upd (A k) i x)
def abI (x : Int32) : Int32 := if 0 ≤ x then x else 0 - x
def mxI (x y : Int32) : Int32 := if x < y then y else x
section CF
variable {p : Program} {l : Launch} {e : Env} {R : Room} {s : State} {m : MethodId} {args : Array Value} {below : List Frame} {meth : Method} {c : Code} {H : Heap} {locs : List Loc} {cells slots : Nat} {Q : State → Prop} {cc : ByteArray} {pc : Nat} {ls : Array Slot} {rest : List Value} {D : va_G} {tys : List (ClassId × FieldType)} {A0 : Nat → Prop} {H0 : Heap} {index o : Nat} {Ts : List Cond} {cI cB : ClassId} {h : Nat → Nat} {F : Nat → Int32} {A : Nat → Nat → Int32}
theorem gB (hx : p.tables.exec = Jvm.exec) (hb : c.code = cc) (hts : ∀ w ∈ Ts, w.before args s = true) (hin : ∀ w ∈ wsX00, w ∈ Ts) (hown : s.vm.findClass RX0 = some m.cls) (hK : va_K D vwCl tys s) (hP : va_P D vwCl (wB cI o h F A) H) (k : Nat) (hk : k < 13) {v : Value} (hv : (flB h F)[k]? = some v) (hlink : Cond.fieldLink RX0 index "Board" (TX0 k).2.1 (TX0 k).2.2.1 ∈ Ts) (hdg : decode cc pc = .ok (.getfield index, 3))
    (kk : W p l e R s m args below meth c H locs cells slots Q (F0 m (pc + 3) ls (v :: rest))) : W p l e R s m args below meth c H locs cells slots Q (F0 m pc ls (.ref o :: rest)) :=
  va_get (D := D) (ci := 0) (v := v) (C := RX0) (T := TX0) (N := 13) hx hb hts hin hown hK hP 0 rfl rfl k hk (hts _ hlink) (fun x h9 => by
    have e : (TX0 k).1 = "Board" := by
      match k, hk with
      | 0, _ => rfl | 1, _ => rfl | 2, _ => rfl | 3, _ => rfl | 4, _ => rfl | 5, _ => rfl | 6, _ => rfl | 7, _ => rfl | 8, _ => rfl | 9, _ => rfl | 10, _ => rfl | 11, _ => rfl | 12, _ => rfl
    rw [e] at h9; exact h9) hv hdg kk
theorem gR (hx : p.tables.exec = Jvm.exec) (hb : c.code = cc) (hts : ∀ w ∈ Ts, w.before args s = true) (hin : ∀ w ∈ wsX10, w ∈ Ts) (hown : s.vm.findClass RX1 = some m.cls) (hK : va_K D vwCl tys s) (hP : va_P D vwCl (wR cI cB o h F A) H) (k : Nat) (hk : k < 11) {v : Value} (hv : (flR h F)[k]? = some v) (hlink : Cond.fieldLink RX1 index "BoardModel" (TX1 k).2.1 (TX1 k).2.2.1 ∈ Ts) (hdg : decode cc pc = .ok (.getfield index, 3))
    (kk : W p l e R s m args below meth c H locs cells slots Q (F0 m (pc + 3) ls (v :: rest))) : W p l e R s m args below meth c H locs cells slots Q (F0 m pc ls (.ref o :: rest)) :=
  va_get (D := D) (ci := 1) (v := v) (C := RX1) (T := TX1) (N := 11) hx hb hts hin hown hK hP 0 rfl rfl k hk (hts _ hlink) (fun x h9 => by
    have e : (TX1 k).1 = "BoardModel" := by
      match k, hk with
      | 0, _ => rfl | 1, _ => rfl | 2, _ => rfl | 3, _ => rfl | 4, _ => rfl | 5, _ => rfl | 6, _ => rfl | 7, _ => rfl | 8, _ => rfl | 9, _ => rfl | 10, _ => rfl
    rw [e] at h9; exact h9) hv hdg kk
theorem pB (hx : p.tables.exec = Jvm.exec) (hb : c.code = cc) (hts : ∀ w ∈ Ts, w.before args s = true) (hin : ∀ w ∈ wsX00, w ∈ Ts) (hown : s.vm.findClass RX0 = some m.cls) (hK : va_K D vwCl tys s) (hP : va_P D vwCl (wB cI o h F A) H) (hD : va_D A0 (wB cI o h F A)) (hS : va_S A0 H0 H locs) (k : Nat) (hk : k < 13) {v : Int32} (hd : parseFieldDescriptor (TX0 k).2.2.1 = some .int) (hfin : (TX0 k).2.2.2 = false) (hset : (flB h F).set k (.int v) = flB h (uf F k v)) (hl : k < (flB h F).length) (hlink : Cond.fieldLink RX0 index "Board" (TX0 k).2.1 (TX0 k).2.2.1 ∈ Ts) (hdg : decode cc pc = .ok (.putfield index, 3))
    (kk : ∀ (H1 : Heap) (locs1 : List Loc), va_P D vwCl (wB cI o h (uf F k v) A) H1 → va_D A0 (wB cI o h (uf F k v) A) → va_S A0 H0 H1 locs1 → W p l e R s m args below meth c H1 locs1 cells slots Q (F0 m (pc + 3) ls rest)) : W p l e R s m args below meth c H locs cells slots Q (F0 m pc ls (.int v :: .ref o :: rest)) :=
  va_put (D := D) (ci := 0) (v := .int v) (ty := .int) (C := RX0) (T := TX0) (N := 13) hx hb hts hin tyX0 tyX0_ok nmX0 hown hK hP hD hS 0 rfl rfl k hk (hts _ hlink) (fun x h9 => by
    have e : (TX0 k).1 = "Board" := by
      match k, hk with
      | 0, _ => rfl | 1, _ => rfl | 2, _ => rfl | 3, _ => rfl | 4, _ => rfl | 5, _ => rfl | 6, _ => rfl | 7, _ => rfl | 8, _ => rfl | 9, _ => rfl | 10, _ => rfl | 11, _ => rfl | 12, _ => rfl
    rw [e] at h9; exact h9) hfin hd rfl rfl hl hdg (fun H1 locs1 hP1 hD1 hS1 => kk H1 locs1 (by rw [hset] at hP1; exact hP1) (by rw [hset] at hD1; exact hD1) hS1)
theorem pR (hx : p.tables.exec = Jvm.exec) (hb : c.code = cc) (hts : ∀ w ∈ Ts, w.before args s = true) (hin : ∀ w ∈ wsX10, w ∈ Ts) (hown : s.vm.findClass RX1 = some m.cls) (hK : va_K D vwCl tys s) (hP : va_P D vwCl (wR cI cB o h F A) H) (hD : va_D A0 (wR cI cB o h F A)) (hS : va_S A0 H0 H locs) (k : Nat) (hk : k < 11) {v : Int32} (hd : parseFieldDescriptor (TX1 k).2.2.1 = some .int) (hfin : (TX1 k).2.2.2 = false) (hset : (flR h F).set k (.int v) = flR h (uf F k v)) (hl : k < (flR h F).length) (hlink : Cond.fieldLink RX1 index "BoardModel" (TX1 k).2.1 (TX1 k).2.2.1 ∈ Ts) (hdg : decode cc pc = .ok (.putfield index, 3))
    (kk : ∀ (H1 : Heap) (locs1 : List Loc), va_P D vwCl (wR cI cB o h (uf F k v) A) H1 → va_D A0 (wR cI cB o h (uf F k v) A) → va_S A0 H0 H1 locs1 → W p l e R s m args below meth c H1 locs1 cells slots Q (F0 m (pc + 3) ls rest)) : W p l e R s m args below meth c H locs cells slots Q (F0 m pc ls (.int v :: .ref o :: rest)) :=
  va_put (D := D) (ci := 1) (v := .int v) (ty := .int) (C := RX1) (T := TX1) (N := 11) hx hb hts hin tyX1 tyX1_ok nmX1 hown hK hP hD hS 0 rfl rfl k hk (hts _ hlink) (fun x h9 => by
    have e : (TX1 k).1 = "BoardModel" := by
      match k, hk with
      | 0, _ => rfl | 1, _ => rfl | 2, _ => rfl | 3, _ => rfl | 4, _ => rfl | 5, _ => rfl | 6, _ => rfl | 7, _ => rfl | 8, _ => rfl | 9, _ => rfl | 10, _ => rfl
    rw [e] at h9; exact h9) hfin hd rfl rfl hl hdg (fun H1 locs1 hP1 hD1 hS1 => kk H1 locs1 (by rw [hset] at hP1; exact hP1) (by rw [hset] at hD1; exact hD1) hS1)
theorem mAbs (hx : p.tables.exec = Jvm.exec) (hb : c.code = cc) (hml : c.maxLocals = ls.size) {own : String} (hown : s.vm.findClass own = some m.cls) (hts : ∀ w ∈ Ts, w.before args s = true) (h1 : Cond.methodLink own index Lib.Math.abs.name ∈ Ts) (h2 : Cond.static Lib.Math.abs.name ∈ Ts) (h3 : Cond.initialized "java/lang/Math" ∈ Ts) (h4 : Cond.code Lib.Math.abs.name Lib.Math.abs.code 1 (some .int) ∈ Ts) (hf : 1 ≤ R.frames) (hlo : (rest.map fun v => v.category).sum + 13 ≤ R.locals) (hc : cells ≤ R.cells) (hs : slots ≤ R.slots) {x : Int32} (hdg : decode cc pc = .ok (.invokestatic index, 3))
    (kk : W p l e R s m args below meth c H locs cells slots Q (F0 m (pc + 3) ls (.int (abI x) :: rest))) : W p l e R s m args below meth c H locs cells slots Q (F0 m pc ls (.int x :: rest)) :=
  va_mabs hx hb hml hown (hts _ h1) (hts _ h2) (hts _ h3) (hts _ h4) hf hlo hc hs hdg kk
theorem mMax (hx : p.tables.exec = Jvm.exec) (hb : c.code = cc) (hml : c.maxLocals = ls.size) {own : String} (hown : s.vm.findClass own = some m.cls) (hts : ∀ w ∈ Ts, w.before args s = true) (h1 : Cond.methodLink own index Lib.Math.max.name ∈ Ts) (h2 : Cond.static Lib.Math.max.name ∈ Ts) (h3 : Cond.initialized "java/lang/Math" ∈ Ts) (h4 : Cond.code Lib.Math.max.name Lib.Math.max.code 2 (some .int) ∈ Ts) (hf : 1 ≤ R.frames) (hlo : (rest.map fun v => v.category).sum + 13 ≤ R.locals) (hc : cells ≤ R.cells) (hs : slots ≤ R.slots) {x y : Int32} (hdg : decode cc pc = .ok (.invokestatic index, 3))
    (kk : W p l e R s m args below meth c H locs cells slots Q (F0 m (pc + 3) ls (.int (mxI x y) :: rest))) : W p l e R s m args below meth c H locs cells slots Q (F0 m pc ls (.int y :: .int x :: rest)) :=
  va_mmax hx hb hml hown (hts _ h1) (hts _ h2) (hts _ h3) (hts _ h4) hf hlo hc hs hdg kk
end CF
end
section
theorem zz_probe : (1 : Nat) = 1 := rfl
end
