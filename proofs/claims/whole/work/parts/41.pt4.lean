/-! ===== pure: the tape; acts ===== -/
theorem byI_rg (a : Int) : -128 ≤ byI a ∧ byI a ≤ 127 := by
  unfold byI
  rw [Int8.toInt_toInt32]
  have h1 := Int8.le_toInt (iI a).toInt8
  have h2 := Int8.toInt_lt (iI a).toInt8
  omega
/-- four bytes of v behind the first n -/
def FourIs (f : Int → Int) (n v : Int) (f9 : Int → Int) (j : Int) : Prop := (∀ k, 0 ≤ k → k < n → f9 k = f k) ∧ (∀ i, 0 ≤ i → i < j → f9 (n + i) = byI (ushrI v (24 - 8 * i))) ∧ BR f9
theorem FourIs.step {f f9 : Int → Int} {n v j : Int} (h : FourIs f n v f9 j) (hn : 0 ≤ n) (hj : 0 ≤ j) : FourIs f n v (up f9 (n + j) (byI (ushrI v (24 - 8 * j)))) (j + 1) := by
  obtain ⟨h1, h2, h3⟩ := h
  refine ⟨fun k a b => ?_, fun i a b => ?_, BR_up h3 _ (byI_rg _)⟩
  · rw [up_ne _ _ (by omega)]; exact h1 k a b
  · by_cases e : i = j
    · subst e; rw [up_same]
    · rw [up_ne _ _ (by omega)]; exact h2 i a (by omega)
theorem FourIs.start {f : Int → Int} {n v : Int} (h : BR f) : FourIs f n v f 0 := ⟨fun _ _ _ => rfl, fun i a b => absurd b (by omega), h⟩
/-- how a pile has been pushed upon -/
def PushIs (n : Nat) (old cn old9 cn9 : Int) (i9 : Nat) : Prop := ((cn = (n : Int) ∧ old9 = (old + 1) % (n : Int) ∧ cn9 = cn) ∨ (cn < (n : Int) ∧ old9 = old ∧ cn9 = cn + 1)) ∧ (i9 : Int) = (old9 + cn9 - 1) % (n : Int) ∧ i9 < n
theorem PushIs.rg {n : Nat} {old cn old9 cn9 : Int} {i9 : Nat} (h : PushIs n old cn old9 cn9 i9) (hn : 1 ≤ (n : Int)) (h0 : 0 ≤ old ∧ old < (n : Int) ∧ 0 ≤ cn ∧ cn ≤ (n : Int)) : 0 ≤ old9 ∧ old9 < (n : Int) ∧ 1 ≤ cn9 ∧ cn9 ≤ (n : Int) := by
  have hm1 := Int.emod_nonneg (old + 1) (show (n : Int) ≠ 0 by omega)
  have hm2 := Int.emod_lt_of_pos (old + 1) (show 0 < (n : Int) by omega)
  rcases h.1 with z | z <;> omega
theorem upS_upS (sg : Nat → ShS) (i : Nat) (s s2 : ShS) : upS (upS sg i s) i s2 = upS sg i s2 := by
  funext j
  by_cases e : j = i
  · subst e; rw [upS_same, upS_same]
  · rw [upS_ne _ _ e, upS_ne _ _ e, upS_ne _ _ e]
