/-! ===== pure: a cleared table; the rules around a place ===== -/
theorem RT.clear {kd fi se sg le de nx he he2 : Int → Int} {cnt : Int} {R : Int → Rl} (h : RT kd fi se sg le de nx he cnt R) (q : ∀ j, 0 ≤ j → j < 4096 → he2 j = -1) : RT kd fi se sg le de nx he2 26 R := by
  obtain ⟨h1, h2, h3, h4, h5⟩ := h
  refine ⟨by omega, fun i a b => h2 i a (by omega), fun i j a b c d e => h3 i j a (by omega) c (by omega) e, fun z z0 z1 => ⟨Or.inl (q z z0 z1), fun i a b => absurd b (by omega)⟩, fun j a b => absurd b (by omega)⟩
/-- the i-th rule around a place, from the top on -/
def arN : Nat → Rl → Int → Option Rl
  | 0, r, _ => some r
  | k + 1, .mul _ a, p => arN k a (p % rlen a)
  | k + 1, .add a b, p => if p < rlen a then arN k a p else arN k b (p - rlen a)
  | _ + 1, _, _ => none
theorem arN_let (k : Nat) (c p : Int) : arN (k + 1) (rLet c) p = none := rfl
theorem arN_run (k : Nat) (n p : Int) (a : Rl) : arN (k + 1) (rRun n a) p = arN k a (p % rlen a) := rfl
theorem arN_pair (k : Nat) (p : Int) (a b : Rl) : arN (k + 1) (rPair a b) p = if p < rlen a then arN k a p else arN k b (p - rlen a) := rfl
theorem ar_s {i k : Int} (h : 0 ≤ k ∧ k < i) : (i - k).toNat = (i - (k + 1)).toNat + 1 := by omega
