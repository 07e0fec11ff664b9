/-! make: the reference's side, step by step. -/
theorem nar_pc : ∀ q, q < 13 → vp_nar .byte (Int8.toInt32 (Int32.toInt8 (nI q))) = nI q := by decide +kernel
theorem kp_w {F : Nat → Int32} {x1 : Int32} {md : Nat} (hmd : md < 600) (h7 : F 7 = nI md) : ∀ (k n : Nat) (A : Nat → Nat → Int32), (∀ j : Nat, ∃ q : Nat, q ≤ 12 ∧ A 1 j = nI q) → n + k = 64 → (qX1_keep_w2 F x1 k n A).2 1 = A 1 ∧ (qX1_keep_w2 F x1 k n A).2 8 = upd (A 8) md x1 ∧ (∀ j : Nat, (qX1_keep_w2 F x1 k n A).2 9 j = if 64 * md + n ≤ j ∧ j < 64 * md + 64 then A 1 (j - 64 * md) else A 9 j) ∧ (qX1_keep_w2 F x1 k n A).2 10 = upd (upd (upd (upd (upd (A 10) (5 * md) (F 2)) (5 * md + 1) (F 3)) (5 * md + 2) (F 4)) (5 * md + 3) (F 5)) (5 * md + 4) (F 6) := by
  intro k
  induction k with
  | zero =>
    intro n A hv hn
    rw [qX1_keep_w2, h7, show (5 : Int32) = nI 5 from rfl, pk_mul, show (1 : Int32) = nI 1 from rfl, show (2 : Int32) = nI 2 from rfl, show (3 : Int32) = nI 3 from rfl, show (4 : Int32) = nI 4 from rfl, nI_add, nI_add, nI_add, nI_add, nI_add, nI_clamp (by omega), nI_clamp (by omega), nI_clamp (by omega), nI_clamp (by omega), nI_clamp (by omega), nI_clamp (by omega)]
    refine ⟨?_, ?_, fun j => ?_, ?_⟩
    · dsimp only
      rw [ua_n (by decide), ua_n (by decide), ua_n (by decide), ua_n (by decide), ua_n (by decide), ua_n (by decide)]
    · dsimp only
      rw [ua_s, ua_n (by decide), ua_n (by decide), ua_n (by decide), ua_n (by decide), ua_n (by decide)]
    · dsimp only
      rw [ua_n (by decide), ua_n (by decide), ua_n (by decide), ua_n (by decide), ua_n (by decide), ua_n (by decide), if_neg (by omega)]
    · dsimp only
      rw [ua_n (by decide), ua_s, ua_s, ua_s, ua_s, ua_s]
  | succ k ih =>
    intro n A hv hn
    obtain ⟨q, hq, eq⟩ := hv n
    rw [qX1_keep_w2, h7, show (64 : Int32) = nI 64 from rfl, pk_mul, nI_add, nI_clamp (by omega), nI_clamp (by omega), eq, nar_pc q (by omega), ← eq]
    obtain ⟨i1, i2, i3, i4⟩ := ih (n + 1) (ua A 9 (64 * md + n) (A 1 n)) (by rw [ua_n (by decide)]; exact hv) (by omega)
    rw [ua_n (by decide)] at i1 i2 i4
    refine ⟨i1, i2, fun j => ?_, i4⟩
    rw [i3, ua_n (by decide), ua_s]
    by_cases z : j = 64 * md + n
    · subst z
      rw [if_neg (by omega), if_pos (by omega), show 64 * md + n - 64 * md = n by omega]; exact pk_us
    · by_cases z2 : 64 * md + (n + 1) ≤ j ∧ j < 64 * md + 64
      · rw [if_pos z2, if_pos (by omega)]
      · rw [if_neg z2, if_neg (by omega)]; exact pk_un z
/-- the last steps: rights, passing, clocks, side -/
def rtB (kd rt sd cf ct : Int32) : Int32 := ((if ¬ kd = 6 then rt else (rt &&& ((3 <<< ((2 * sd) &&& 31)) ^^^ (-1)))) &&& (cf ^^^ (-1))) &&& (ct ^^^ (-1))
theorem mk_275 {F : Nat → Int32} {A : Nat → Nat → Int32} {f t p pw tk : Int32} : ∃ FF : Nat → Int32, qX1_make_j275 F A f t p pw tk = (tk, FF, A) ∧ FF 0 = F 0 ∧ FF 2 = 1 - F 2 ∧ FF 3 = rtB (qX1_kindOf p) (F 3) (F 2) (qX1_corner f) (qX1_corner t) ∧
    (∃ F' : Nat → Int32, F' 2 = F 2 ∧ FF 4 = (if pw = 0 then -1 else (if ¬ (qX1_apart (f / 8) (t / 8)) = 2 then -1 else (if qX1_pawnAttacks F' A ((f + t) / 2) (1 - F 2) = 0 then -1 else (f + t) / 2)))) ∧ FF 5 = (if ¬ pw = 0 then 0 else (if tk ≤ 0 then F 5 + 1 else 0)) ∧ FF 6 = F 6 + F 2 ∧ FF 7 = F 7 := by
  have e0 : qX1_make_j275 F A f t p pw tk = qX1_make_j308 F A f t pw tk (if ¬ qX1_kindOf p = 6 then F 3 else (F 3 &&& ((3 <<< ((2 * F 2) &&& 31)) ^^^ (-1)))) := by
    unfold qX1_make_j275; exact (apply_ite (fun z => qX1_make_j308 F A f t pw tk z) _ _ _).symm
  rw [e0]
  generalize hs : (if ¬ qX1_kindOf p = 6 then F 3 else (F 3 &&& ((3 <<< ((2 * F 2) &&& 31)) ^^^ (-1)))) = s0
  have e1 : qX1_make_j308 F A f t pw tk s0 = qX1_make_j358 (uf (uf F 3 s0) 3 ((s0 &&& ((qX1_corner f) ^^^ (-1))) &&& ((qX1_corner t) ^^^ (-1)))) A f t pw tk (if pw = 0 then 0 else (if ¬ (qX1_apart (f / 8) (t / 8)) = 2 then 0 else 1)) := by
    unfold qX1_make_j308
    by_cases c1 : pw = 0
    · rw [if_pos c1, if_pos c1]
    · rw [if_neg c1, if_neg c1]
      by_cases c2 : ¬ (qX1_apart (f / 8) (t / 8)) = 2
      · rw [if_pos c2, if_pos c2]
      · rw [if_neg c2, if_neg c2]
  rw [e1]
  generalize hF1 : (uf (uf F 3 s0) 3 ((s0 &&& ((qX1_corner f) ^^^ (-1))) &&& ((qX1_corner t) ^^^ (-1)))) = F1
  have f0 : F1 0 = F 0 := by rw [← hF1]; rfl
  have f2 : F1 2 = F 2 := by rw [← hF1]; rfl
  have f3 : F1 3 = ((s0 &&& ((qX1_corner f) ^^^ (-1))) &&& ((qX1_corner t) ^^^ (-1))) := by rw [← hF1]; rfl
  have f5 : F1 5 = F 5 := by rw [← hF1]; rfl
  have f6 : F1 6 = F 6 := by rw [← hF1]; rfl
  have f7 : F1 7 = F 7 := by rw [← hF1]; rfl
  have e2 : ∀ fl : Int32, qX1_make_j358 F1 A f t pw tk fl = qX1_make_j393 F1 A pw tk (if fl = 0 then -1 else (if qX1_pawnAttacks F1 A ((f + t) / 2) (1 - F1 2) = 0 then -1 else (f + t) / 2)) := by
    intro fl
    unfold qX1_make_j358
    by_cases c1 : fl = 0
    · rw [if_pos c1, if_pos c1]
    · rw [if_neg c1, if_neg c1]
      by_cases c2 : qX1_pawnAttacks F1 A ((f + t) / 2) (1 - F1 2) = 0
      · rw [if_pos c2, if_pos c2]
      · rw [if_neg c2, if_neg c2]
  rw [e2]
  generalize hps : (if (if pw = 0 then (0 : Int32) else (if ¬ (qX1_apart (f / 8) (t / 8)) = 2 then 0 else 1)) = 0 then -1 else (if qX1_pawnAttacks F1 A ((f + t) / 2) (1 - F1 2) = 0 then -1 else (f + t) / 2)) = ps
  have e3 : qX1_make_j393 F1 A pw tk ps = qX1_make_j417 (uf F1 4 ps) A tk (if ¬ pw = 0 then 0 else (if tk ≤ 0 then F1 5 + 1 else 0)) := by
    unfold qX1_make_j393
    by_cases c1 : ¬ pw = 0
    · rw [if_pos c1, if_pos c1]
    · rw [if_neg c1, if_neg c1]
      by_cases c2 : tk ≤ 0
      · rw [if_pos c2, if_pos c2]
      · rw [if_neg c2, if_neg c2]
  rw [e3]
  unfold qX1_make_j417
  refine ⟨_, rfl, ?_, ?_, ?_, ⟨F1, f2, ?_⟩, ?_, ?_, ?_⟩
  · exact f0
  · show 1 - F1 2 = _; rw [f2]
  · show F1 3 = _; rw [f3, ← hs]; rfl
  · show ps = _
    rw [← hps, f2]
    by_cases c1 : pw = 0
    · rw [if_pos c1, if_pos c1, if_pos rfl]
    · rw [if_neg c1, if_neg c1]
      by_cases c2 : ¬ (qX1_apart (f / 8) (t / 8)) = 2
      · rw [if_pos c2, if_pos c2, if_pos rfl]
      · rw [if_neg c2, if_neg c2, if_neg (show ¬ (1 : Int32) = 0 by decide)]
  · show (if ¬ pw = 0 then 0 else (if tk ≤ 0 then F1 5 + 1 else 0)) = _; rw [f5]
  · show F1 6 + F1 2 = _; rw [f6, f2]
  · exact f7
/-- the first steps: what is taken, where; the squares behind the move; then the castling rook -/
def bdP (bd : Nat → Int32) (tq f t : Nat) (v : Int32) : Nat → Int32 := upd (upd (upd bd tq 0) f 0) t v
def bdC (bd : Nat → Int32) (g c : Nat) : Nat → Int32 := upd (upd bd g (bd c)) c 0
theorem mk_28 {F : Nat → Int32} {A : Nat → Nat → Int32} {x1 : Int32} {f t kd : Nat} {pw cs ep : Int32} {beh : Int32} (hf : f < 64) (ht : t < 64) (ef : x1 - x1 / 64 * 64 = nI f) (et : (x1 / 64) - (x1 / 64) / 64 * 64 = nI t) (ek : x1 / 4096 = nI kd) (hpw : (if ¬ qX1_kindOf (A 1 f) = 1 then (0 : Int32) else 1) = pw) (hcs : (if ¬ qX1_kindOf (A 1 f) = 6 then (0 : Int32) else (if ¬ qX1_attacks F A (nI f) (nI t) = 0 then 0 else 1)) = cs) (hep : (if pw = 0 then (0 : Int32) else (if qX1_takesPassing F A (nI f) (nI t) = 0 then 0 else 1)) = ep) (hbeh : (if ¬ F 2 = 0 then nI t + 8 else nI t - 8) = beh) (h0 : F 0 = 0) :
    qX1_make_j28 F A x1 0 = qX1_make_j228 (qX1_keep (uf F 0 0) A x1).1 (ua (ua (qX1_keep (uf F 0 0) A x1).2 1 (Int32.toNatClampNeg (if ep = 0 then nI t else beh)) 0) 1 f 0) (nI f) (nI t) (A 1 f) pw cs (if ep = 0 then (qX1_keep (uf F 0 0) A x1).2 1 t else (qX1_keep (uf F 0 0) A x1).2 1 (Int32.toNatClampNeg beh)) (if nI kd ≤ 0 then A 1 f else nI kd + 6 * F 2) (nI t) := by
  have eF : uf F 0 0 = F := by
    funext j
    unfold uf upd
    by_cases z : j = 0
    · rw [if_pos z, z, h0]
    · rw [if_neg z]
  unfold qX1_make_j28
  rw [if_pos (show (0 : Int32) ≤ 0 by decide), ef, et, ek, nI_clamp (by omega), eF]
  have e1 : (if ¬ (qX1_kindOf (A 1 f)) = 1 then (qX1_make_j82 F A x1 (nI f) (nI t) (nI kd) (A 1 f) 0) else (qX1_make_j82 F A x1 (nI f) (nI t) (nI kd) (A 1 f) 1)) = qX1_make_j82 F A x1 (nI f) (nI t) (nI kd) (A 1 f) pw := by
    rw [← hpw]; exact (apply_ite (fun z => qX1_make_j82 F A x1 (nI f) (nI t) (nI kd) (A 1 f) z) _ _ _).symm
  rw [e1]
  have e2 : qX1_make_j82 F A x1 (nI f) (nI t) (nI kd) (A 1 f) pw = qX1_make_j108 F A x1 (nI f) (nI t) (nI kd) (A 1 f) pw cs := by
    unfold qX1_make_j82
    rw [← hcs]
    by_cases c1 : ¬ qX1_kindOf (A 1 f) = 6
    · rw [if_pos c1, if_pos c1]
    · rw [if_neg c1, if_neg c1]
      by_cases c2 : ¬ qX1_attacks F A (nI f) (nI t) = 0
      · rw [if_pos c2, if_pos c2]
      · rw [if_neg c2, if_neg c2]
  rw [e2]
  have e3 : qX1_make_j108 F A x1 (nI f) (nI t) (nI kd) (A 1 f) pw cs = qX1_make_j129 F A x1 (nI f) (nI t) (nI kd) (A 1 f) pw cs ep := by
    unfold qX1_make_j108
    rw [← hep]
    by_cases c1 : pw = 0
    · rw [if_pos c1, if_pos c1]
    · rw [if_neg c1, if_neg c1]
      by_cases c2 : qX1_takesPassing F A (nI f) (nI t) = 0
      · rw [if_pos c2, if_pos c2]
      · rw [if_neg c2, if_neg c2]
  rw [e3]
  unfold qX1_make_j129
  rw [keep_2]
  have e4 : (if ¬ F 2 = 0 then qX1_make_j154 (qX1_keep F A x1).1 (qX1_keep F A x1).2 (nI f) (nI t) (nI kd) (A 1 f) pw cs ep (nI t + 8) else qX1_make_j154 (qX1_keep F A x1).1 (qX1_keep F A x1).2 (nI f) (nI t) (nI kd) (A 1 f) pw cs ep (nI t - 8)) = qX1_make_j154 (qX1_keep F A x1).1 (qX1_keep F A x1).2 (nI f) (nI t) (nI kd) (A 1 f) pw cs ep beh := by
    rw [← hbeh]; exact (apply_ite (fun z => qX1_make_j154 (qX1_keep F A x1).1 (qX1_keep F A x1).2 (nI f) (nI t) (nI kd) (A 1 f) pw cs ep z) _ _ _).symm
  rw [e4]
  unfold qX1_make_j154 qX1_make_j177
  rw [nI_clamp (by omega)]
  have e5 : ∀ (s0 x10 : Int32), qX1_make_j194 (qX1_keep F A x1).1 (qX1_keep F A x1).2 (nI f) (nI t) (nI kd) (A 1 f) pw cs x10 s0 = qX1_make_j228 (qX1_keep F A x1).1 (ua (ua (qX1_keep F A x1).2 1 (Int32.toNatClampNeg s0) 0) 1 f 0) (nI f) (nI t) (A 1 f) pw cs x10 (if nI kd ≤ 0 then A 1 f else nI kd + 6 * F 2) (nI t) := by
    intro s0 x10
    unfold qX1_make_j194
    rw [keep_2, nI_clamp (by omega)]
    by_cases c : nI kd ≤ 0
    · rw [if_pos c, if_pos c]
    · rw [if_neg c, if_neg c]
  by_cases c : ep = 0
  · rw [if_pos c, if_pos c, if_pos c, if_pos c, e5]
  · rw [if_neg c, if_neg c, if_neg c, if_neg c, e5]
theorem mk_228 {F : Nat → Int32} {A : Nat → Nat → Int32} {f t : Nat} {p pw cs tk v : Int32} (hf : f < 64) (ht : t < 64) : qX1_make_j228 F A (nI f) (nI t) p pw cs tk v (nI t) = (if cs = 0 then qX1_make_j275 F (ua A 1 t v) (nI f) (nI t) p pw tk else qX1_make_j275 F (ua (ua (ua A 1 t v) 1 (Int32.toNatClampNeg ((nI f + nI t) / 2)) ((ua A 1 t v) 1 (Int32.toNatClampNeg (if nI t ≤ nI f then nI f - 4 else nI f + 3)))) 1 (Int32.toNatClampNeg (if nI t ≤ nI f then nI f - 4 else nI f + 3)) 0) (nI f) (nI t) p pw tk) := by
  unfold qX1_make_j228 qX1_make_j248
  rw [nI_clamp (by omega)]
  by_cases c : cs = 0
  · rw [if_pos c, if_pos c]
  · rw [if_neg c, if_neg c]
    by_cases c2 : nI t ≤ nI f
    · rw [if_pos c2, if_pos c2]
    · rw [if_neg c2, if_neg c2]
