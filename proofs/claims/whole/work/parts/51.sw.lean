/-! ===== switches, longs ===== -/
def lI (z : Int) : Int64 := Int64.ofInt z
theorem lI_toInt {z : Int} (h : -9223372036854775808 ≤ z ∧ z ≤ 9223372036854775807) : (lI z).toInt = z := by
  unfold lI
  rw [Int64.toInt_ofInt]
  have e : (Int64.size : Nat) = 18446744073709551616 := rfl
  rw [Int.bmod_eq_of_le] <;> rw [e] <;> omega
theorem lI_self (x : Int64) : lI x.toInt = x := Int64.ofInt_toInt x
theorem lI_add (a b : Int) : lI a + lI b = lI (a + b) := (Int64.ofInt_add a b).symm
theorem lI_sub (a b : Int) : lI a - lI b = lI (a - b) := (Int64.ofInt_sub a b).symm
theorem lI_mul (a b : Int) : lI a * lI b = lI (a * b) := (Int64.ofInt_mul a b).symm
theorem lI_i2l {z : Int} (h : -2147483648 ≤ z ∧ z ≤ 2147483647) : (iI z).toInt64 = lI z := by
  rw [← lI_self (iI z).toInt64, Int32.toInt_toInt64, iI_toInt h]
theorem lI_divI {a b : Int} (h : (0 ≤ a ∧ a ≤ 9223372036854775807) ∧ (0 < b ∧ b ≤ 9223372036854775807)) : lI a / lI b = lI (a / b) := by
  have e : (lI a / lI b).toInt = a / b := by
    rw [Int64.toInt_div, lI_toInt (by omega), lI_toInt (by omega), Int.tdiv_eq_ediv_of_nonneg h.1.1]
    have h1 : a / b ≤ a := Int.ediv_le_self _ h.1.1
    have h2 : 0 ≤ a / b := Int.ediv_nonneg h.1.1 (by omega)
    rw [Int.bmod_eq_of_le] <;> omega
  rw [← lI_self (lI a / lI b), e]
theorem lI_inj {a b : Int} (h : (-9223372036854775808 ≤ a ∧ a ≤ 9223372036854775807) ∧ (-9223372036854775808 ≤ b ∧ b ≤ 9223372036854775807)) : lI a = lI b ↔ a = b := by
  constructor
  · intro e
    have := congrArg Int64.toInt e
    rw [lI_toInt h.1, lI_toInt h.2] at this
    exact this
  · intro e; rw [e]
theorem lI_lt {a b : Int} (h : (-9223372036854775808 ≤ a ∧ a ≤ 9223372036854775807) ∧ (-9223372036854775808 ≤ b ∧ b ≤ 9223372036854775807)) : lI a < lI b ↔ a < b := by
  rw [Int64.lt_iff_toInt_lt, lI_toInt h.1, lI_toInt h.2]
theorem lI_cmp {a b : Int} (h : (-9223372036854775808 ≤ a ∧ a ≤ 9223372036854775807) ∧ (-9223372036854775808 ≤ b ∧ b ≤ 9223372036854775807)) : (if lI a > lI b then 1 else if lI a = lI b then 0 else -1 : Int32) = iI (cmpI a b) := by
  unfold cmpI
  by_cases h1 : a < b
  · rw [if_pos h1, if_neg (fun z => by have := (lI_lt ⟨h.2, h.1⟩).mp z; omega), if_neg (fun z => by have := (lI_inj h).mp z; omega)]
    rfl
  · rw [if_neg h1]
    by_cases h2 : a = b
    · subst h2
      rw [if_pos rfl, if_neg (fun z => by have := (lI_lt ⟨h.2, h.1⟩).mp z; omega), if_pos rfl]
      rfl
    · rw [if_neg h2, if_pos ((lI_lt ⟨h.2, h.1⟩).mpr (by omega))]
      rfl
section LCMP
variable {p : Program} {l : Launch} {e : Env} {R : Room} {s : State} {m : MethodId} {args : Array Value} {below : List Frame} {meth : Method} {c : Code} {H : Heap} {locs : List Loc} {cells slots : Nat} {Q : State → Prop}
variable {cc : ByteArray} {pc : Nat} {ls : Array Slot} {rest : List Value}
theorem lv_lcmp_ (hexec : p.tables.exec = Jvm.exec) (hb : c.code = cc) {x y : Int64} (hdg : decode cc pc = .ok (.lcmp, 1))
    (k : W p l e R s m args below meth c H locs cells slots Q (F0 m (pc + 1) ls (.int (if x > y then 1 else if x = y then 0 else -1) :: rest))) : W p l e R s m args below meth c H locs cells slots Q (F0 m pc ls (.long y :: .long x :: rest)) := by
  intro T hT X
  obtain ⟨t, a, b⟩ := k T hT X
  refine ⟨t, ?_, b⟩
  by_cases h1 : x > y
  · rw [if_pos h1] at a
    jvm_step X.here [X.here.top, hexec, hb, hdg, h1]
    exact a
  · rw [if_neg h1] at a
    by_cases h2 : x = y
    · rw [if_pos h2] at a
      subst h2
      jvm_step X.here [X.here.top, hexec, hb, hdg, h1]
      exact a
    · rw [if_neg h2] at a
      jvm_step X.here [X.here.top, hexec, hb, hdg, h1, h2]
      exact a
end LCMP
section ROWS2
variable {g : Gm} {E : Cx} {nL k n : Nat} {fs : List va_W} {pc : Nat} {lv : List (Nat × Value)} {st : List Value} {own : String} {cc : ByteArray} {d mc ms : Nat}
theorem r_tsIn (q : Nat) (hE : Ok g E nL own cc d mc ms) {dflt lo hi off : Int} {offs : Array Int} {len : Nat} {x : Int} (j : Int) (hdg : decode cc pc = .ok (.tableswitch dflt lo hi offs, len)) (hx : x = j) (hr : (-2147483648 ≤ j ∧ j ≤ 2147483647) ∧ lo ≤ j ∧ j ≤ hi) (ho : offs[(j - lo).toNat]? = some off) (ht : (pc : Int) + off = (q : Int)) (kk : G g E nL k n fs q lv st) : G g E nL k n fs pc lv (.int (iI x) :: st) := by
  subst hx
  intro H locs ls hP hD hS hl
  have e := iI_toInt hr.1
  exact lv_tableIn hE.1.1 hE.1.2.1 hdg (by rw [e]; omega) (by rw [e]; omega) (by rw [e]; exact ho) ht (kk H locs ls hP hD hS hl)
theorem r_tsOut (q : Nat) (hE : Ok g E nL own cc d mc ms) {dflt lo hi : Int} {offs : Array Int} {len : Nat} {x : Int} (hdg : decode cc pc = .ok (.tableswitch dflt lo hi offs, len)) (hr : (-2147483648 ≤ x ∧ x ≤ 2147483647) ∧ (x < lo ∨ hi < x)) (ht : (pc : Int) + dflt = (q : Int)) (kk : G g E nL k n fs q lv st) : G g E nL k n fs pc lv (.int (iI x) :: st) := by
  intro H locs ls hP hD hS hl
  have e := iI_toInt hr.1
  exact lv_tableOut hE.1.1 hE.1.2.1 hdg (by rw [e]; exact hr.2) ht (kk H locs ls hP hD hS hl)
theorem r_lconst0 (q : Nat) (hE : Ok g E nL own cc d mc ms) (hdg : decode cc pc = .ok (.lconst 0, 1)) (hq : pc + 1 = q) (kk : G g E nL k n fs q lv (.long (lI 0) :: st)) : G g E nL k n fs pc lv st := by
  subst hq
  intro H locs ls hP hD hS hl
  exact lv_lconst hE.1.1 hE.1.2.1 hdg rfl (kk H locs ls hP hD hS hl)
theorem r_i2l (q : Nat) (hE : Ok g E nL own cc d mc ms) {x : Int} (hdg : decode cc pc = .ok (.i2l, 1)) (hq : pc + 1 = q) (hr : -2147483648 ≤ x ∧ x ≤ 2147483647) (kk : G g E nL k n fs q lv (.long (lI x) :: st)) : G g E nL k n fs pc lv (.int (iI x) :: st) := by
  subst hq
  intro H locs ls hP hD hS hl
  exact lv_i2l hE.1.1 hE.1.2.1 hdg (lI_i2l hr) (kk H locs ls hP hD hS hl)
theorem r_ladd (q : Nat) (hE : Ok g E nL own cc d mc ms) {x y : Int} (hdg : decode cc pc = .ok (.ladd, 1)) (hq : pc + 1 = q) (kk : G g E nL k n fs q lv (.long (lI (x + y)) :: st)) : G g E nL k n fs pc lv (.long (lI y) :: .long (lI x) :: st) := by
  subst hq
  intro H locs ls hP hD hS hl
  refine lv_ladd hE.1.1 hE.1.2.1 hdg ?_
  rw [lI_add]
  exact kk H locs ls hP hD hS hl
theorem r_lsub (q : Nat) (hE : Ok g E nL own cc d mc ms) {x y : Int} (hdg : decode cc pc = .ok (.lsub, 1)) (hq : pc + 1 = q) (kk : G g E nL k n fs q lv (.long (lI (x - y)) :: st)) : G g E nL k n fs pc lv (.long (lI y) :: .long (lI x) :: st) := by
  subst hq
  intro H locs ls hP hD hS hl
  refine lv_lsub hE.1.1 hE.1.2.1 hdg ?_
  rw [lI_sub]
  exact kk H locs ls hP hD hS hl
theorem r_lmul (q : Nat) (hE : Ok g E nL own cc d mc ms) {x y : Int} (hdg : decode cc pc = .ok (.lmul, 1)) (hq : pc + 1 = q) (kk : G g E nL k n fs q lv (.long (lI (x * y)) :: st)) : G g E nL k n fs pc lv (.long (lI y) :: .long (lI x) :: st) := by
  subst hq
  intro H locs ls hP hD hS hl
  refine lv_lmul hE.1.1 hE.1.2.1 hdg ?_
  rw [lI_mul]
  exact kk H locs ls hP hD hS hl
theorem r_ldiv (q : Nat) (hE : Ok g E nL own cc d mc ms) {x y : Int} (hdg : decode cc pc = .ok (.ldiv, 1)) (hq : pc + 1 = q) (hr : (0 ≤ x ∧ x ≤ 9223372036854775807) ∧ (0 < y ∧ y ≤ 9223372036854775807)) (kk : G g E nL k n fs q lv (.long (lI (x / y)) :: st)) : G g E nL k n fs pc lv (.long (lI y) :: .long (lI x) :: st) := by
  subst hq
  intro H locs ls hP hD hS hl
  refine lv_ldiv hE.1.1 hE.1.2.1 hdg (fun z => by have := (lI_inj (a := y) (b := 0) (by omega)).mp z; omega) ?_
  rw [lI_divI hr]
  exact kk H locs ls hP hD hS hl
theorem r_lcmp (q : Nat) (hE : Ok g E nL own cc d mc ms) {x y : Int} (hdg : decode cc pc = .ok (.lcmp, 1)) (hq : pc + 1 = q) (hr : (-9223372036854775808 ≤ x ∧ x ≤ 9223372036854775807) ∧ (-9223372036854775808 ≤ y ∧ y ≤ 9223372036854775807)) (kk : G g E nL k n fs q lv (.int (iI (cmpI x y)) :: st)) : G g E nL k n fs pc lv (.long (lI y) :: .long (lI x) :: st) := by
  subst hq
  intro H locs ls hP hD hS hl
  refine lv_lcmp_ hE.1.1 hE.1.2.1 hdg ?_
  rw [lI_cmp hr]
  exact kk H locs ls hP hD hS hl
end ROWS2
theorem retL {x y : Int} (h : x = y) : (some (.long (lI x)) : Option Value) = some (.long (lI y)) := by rw [h]
