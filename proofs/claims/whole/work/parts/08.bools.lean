/-! ===== yes and no as numbers ===== -/
def bI (p : Prop) [Decidable p] : Int := if p then 1 else 0
theorem bI_rg (p : Prop) [Decidable p] : -2147483648 ≤ bI p ∧ bI p ≤ 2147483647 := by unfold bI; split <;> omega
theorem bI_01 (p : Prop) [Decidable p] : bI p = 0 ∨ bI p = 1 := by unfold bI; split <;> omega
theorem bI0 {p : Prop} [Decidable p] (h : bI p = 0) : ¬ p := by intro hp; unfold bI at h; rw [if_pos hp] at h; omega
theorem bI1 {p : Prop} [Decidable p] (h : bI p ≠ 0) : p := by
  by_cases hp : p
  · exact hp
  · unfold bI at h; rw [if_neg hp] at h; omega
theorem bIt {p : Prop} [Decidable p] (h : p) : bI p = 1 := by unfold bI; rw [if_pos h]
theorem bIf {p : Prop} [Decidable p] (h : ¬ p) : bI p = 0 := by unfold bI; rw [if_neg h]
theorem retI {x y : Int} (h : x = y) : (some (.int (iI x)) : Option Value) = some (.int (iI y)) := by rw [h]
theorem ret1 {p : Prop} [Decidable p] (h : p) : (some (.int (iI 1)) : Option Value) = some (.int (iI (bI p))) := by rw [bIt h]
theorem ret0 {p : Prop} [Decidable p] (h : ¬ p) : (some (.int (iI 0)) : Option Value) = some (.int (iI (bI p))) := by rw [bIf h]
