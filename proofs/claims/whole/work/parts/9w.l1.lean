/-! ===== the law: rows for the script, for two that are alike ===== -/
section LROWS
variable {g : Gm} {E : Cx} {nL k n : Nat} {fs : List va_W} {pc : Nat} {lv : List (Nat × Value)} {st : List Value} {own : String} {cc : ByteArray} {d mc ms : Nat}
/-- an int of the script -/
def sx (xs : Nat → Int32) (j : Int) : Int := (xs j.toNat).toInt
theorem sx_rg (xs : Nat → Int32) (j : Int) : -2147483648 ≤ sx xs j ∧ sx xs j ≤ 2147483647 := iI_rg _
def ScrOk (E : Cx) (b L : Nat) (xs : Nat → Int32) : Prop := va_X b L xs E.s E.s.heap ∧ b < E.s.heap.size ∧ ¬ E.A b ∧ L ≤ 3072
theorem r_slen (q : Nat) (hE : Ok g E nL own cc d mc ms) {b L : Nat} {xs : Nat → Int32} (hX : ScrOk E b L xs) (hdg : decode cc pc = .ok (.arraylength, 1)) (hq : pc + 1 = q) (kk : G g E nL k n fs q lv (.int (iI (L : Int)) :: st)) : G g E nL k n fs pc lv (.ref b :: st) := by
  subst hq
  intro H locs ls hP hD hS hl
  refine va_slen hE.1.1 hE.1.2.1 hX.1 hX.2.1 hX.2.2.1 hS hdg ?_
  rw [iI_nat]
  exact kk H locs ls hP hD hS hl
theorem r_sld (q : Nat) (hE : Ok g E nL own cc d mc ms) {b L : Nat} {xs : Nat → Int32} (hX : ScrOk E b L xs) {j : Int} (hj : 0 ≤ j ∧ j < (L : Int)) (hdg : decode cc pc = .ok (.iaload, 1)) (hq : pc + 1 = q) (kk : G g E nL k n fs q lv (.int (iI (sx xs j)) :: st)) : G g E nL k n fs pc lv (.int (iI j) :: .ref b :: st) := by
  subst hq
  intro H locs ls hP hD hS hl
  have hL := hX.2.2.2
  refine va_sld hE.1.1 hE.1.2.1 hX.1 hX.2.1 hX.2.2.1 hS (iI_in (by omega)) hdg ?_
  rw [iI_clamp (by omega), ← iI_self (xs j.toNat)]
  exact kk H locs ls hP hD hS hl
theorem r_icmp_same (t : Nat) (hE : Ok g E nL own cc d mc ms) {off : Int} {v : Int32} (hdg : decode cc pc = .ok (.if_icmp .eq off, 3)) (ht : (pc : Int) + off = (t : Int)) (kt : G g E nL k n fs t lv st) : G g E nL k n fs pc lv (.int v :: .int v :: st) := by
  intro H locs ls hP hD hS hl
  exact lv_icmp_eq hE.1.1 hE.1.2.1 hdg ht (fun h => kt H locs ls hP hD hS hl) (fun h => absurd rfl h)
theorem r_lcmp_same (q t : Nat) (hE : Ok g E nL own cc d mc ms) {off : Int} {v : Int64} (hdg : decode cc pc = .ok (.lcmp, 1)) (hq : pc + 1 = q) (kk : G g E nL k n fs q lv (.int (iI 0) :: st)) : G g E nL k n fs pc lv (.long v :: .long v :: st) := by
  subst hq
  intro H locs ls hP hD hS hl
  refine lv_lcmp_ hE.1.1 hE.1.2.1 hdg ?_
  have h9 := kk H locs ls hP hD hS hl
  rw [iI_0] at h9
  simpa using h9
end LROWS
