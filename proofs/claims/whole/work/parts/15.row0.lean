/-! ===== pure: rows ===== -/
theorem cpy_0 (f h : Int → Int) (sp dp : Int) : cpy f h sp dp 0 = h := by
  funext j
  exact cpy_out f h (by omega)
theorem byI_id {v : Int} (h : -128 ≤ v ∧ v ≤ 127) : byI v = v := by
  unfold byI
  have e : (iI v).toInt8.toInt32 = iI v := by rw [← vp_nar_byte]; exact iI_byte h
  rw [e, iI_toInt (by omega)]
theorem mul_step {a b c : Int} (ha : 0 ≤ a) (h : b + 1 ≤ c) : a * b + a ≤ a * c := by
  have := Int.mul_le_mul_of_nonneg_left h ha
  rw [Int.mul_add, Int.mul_one] at this
  exact this
/-- w letters of which those from s on are those of the first ones, again and again, each m of them -/
def RepTo (RL RL' : Int → Int) (s m w : Int) : Prop := (∀ k, 0 ≤ k → k < s + m → RL' k = RL k) ∧ (∀ k, s ≤ k → k < w → RL' k = RL (s + (k - s) % m)) ∧ BR RL'
theorem RepTo.start {RL : Int → Int} {s m : Int} (hs : 0 ≤ s) (hB : BR RL) : RepTo RL RL s m (s + m) := by
  refine ⟨fun _ _ _ => rfl, fun k k0 k1 => ?_, hB⟩
  rw [Int.emod_eq_of_lt (by omega) (by omega)]
  congr 1
  omega
theorem RepTo.step {RL RL' : Int → Int} {s m j : Int} (hs : 0 ≤ s ∧ 0 < m) (hj : 1 ≤ j) (h : RepTo RL RL' s m (s + m * j)) : RepTo RL (cpy RL' RL' s (s + m * j) m) s m (s + m * (j + 1)) := by
  obtain ⟨h1, h2, h3⟩ := h
  have hm : m ≤ m * j := by
    have := Int.mul_le_mul_of_nonneg_left hj (by omega : 0 ≤ m)
    rw [Int.mul_one] at this
    exact this
  have he : m * (j + 1) = m * j + m := by rw [Int.mul_add, Int.mul_one]
  refine ⟨fun k k0 k1 => ?_, fun k k0 k1 => ?_, BR_cpy h3 h3 _ _ _⟩
  · rw [cpy_out _ _ (by omega)]
    exact h1 k k0 k1
  · by_cases q : k < s + m * j
    · rw [cpy_out _ _ (by omega)]
      exact h2 k k0 q
    · rw [cpy_in _ _ (by omega)]
      have e1 : s + (k - (s + m * j)) = s + (k - s - m * j) := by omega
      rw [e1, h1 _ (by omega) (by omega)]
      congr 1
      have : (k - s) % m = k - s - m * j := by
        have e2 : k - s = (k - s - m * j) + m * j := by omega
        rw [e2, Int.add_mul_emod_self_left, Int.emod_eq_of_lt (by omega) (by omega)]
        omega
      omega
def ExTo (RL RL' : Int → Int) (c o n i : Int) : Prop := (∀ j, 0 ≤ j → j < i → RL' j = if RL j = c then o else RL j) ∧ (∀ j, i ≤ j → j < n → RL' j = RL j) ∧ BR RL'
theorem ExTo.start {RL : Int → Int} {c o n : Int} (hB : BR RL) : ExTo RL RL c o n 0 := ⟨fun j a b => absurd b (by omega), fun _ _ _ => rfl, hB⟩
theorem ExTo.yes {RL RL' : Int → Int} {c o n i : Int} (h : ExTo RL RL' c o n i) (hi : 0 ≤ i ∧ i < n) (e : RL' i = c) (ho : -128 ≤ o ∧ o ≤ 127) : ExTo RL (up RL' i o) c o n (i + 1) := by
  obtain ⟨h1, h2, h3⟩ := h
  have e2 := h2 i (by omega) (by omega)
  refine ⟨fun j a b => ?_, fun j a b => ?_, BR_up h3 i ho⟩
  · by_cases q : j = i
    · subst q; rw [up_same, if_pos (by omega)]
    · rw [up_ne _ _ q]; exact h1 j a (by omega)
  · rw [up_ne _ _ (by omega)]; exact h2 j (by omega) b
theorem ExTo.no {RL RL' : Int → Int} {c o n i : Int} (h : ExTo RL RL' c o n i) (hi : 0 ≤ i ∧ i < n) (e : RL' i ≠ c) : ExTo RL RL' c o n (i + 1) := by
  obtain ⟨h1, h2, h3⟩ := h
  have e2 := h2 i (by omega) (by omega)
  refine ⟨fun j a b => ?_, fun j a b => h2 j (by omega) b, h3⟩
  by_cases q : j = i
  · subst q; rw [if_neg (by omega)]; exact e2
  · exact h1 j a (by omega)
/-- turned round from s on up to w, as far as the ends have come to l and r -/
def RevTo (RL RL' : Int → Int) (s w l : Int) : Prop := (∀ k, 0 ≤ k → k < s → RL' k = RL k) ∧ (∀ k, s ≤ k → k < w → RL' k = if k < l ∨ w - 1 - (l - s) < k then RL (s + w - 1 - k) else RL k) ∧ BR RL'
theorem RevTo.start {RL : Int → Int} {s w : Int} (hB : BR RL) : RevTo RL RL s w s := by
  refine ⟨fun _ _ _ => rfl, fun k a b => ?_, hB⟩
  rw [if_neg (by omega)]
theorem RevTo.step {RL RL' : Int → Int} {s w l : Int} (h : RevTo RL RL' s w l) (hs : 0 ≤ s) (hl : s ≤ l ∧ l < w - 1 - (l - s)) :
    RevTo RL (up (up RL' l (RL' (w - 1 - (l - s)))) (w - 1 - (l - s)) (RL' l)) s w (l + 1) := by
  obtain ⟨h1, h2, h3⟩ := h
  refine ⟨fun k a b => ?_, fun k a b => ?_, BR_up (BR_up h3 _ (h3 _)) _ (h3 _)⟩
  · rw [up_ne _ _ (by omega), up_ne _ _ (by omega)]; exact h1 k a b
  · by_cases q1 : k = w - 1 - (l - s)
    · subst q1
      rw [up_same, h2 l (by omega) (by omega), if_neg (by omega), if_pos (by omega)]
      congr 1
      omega
    · rw [up_ne _ _ q1]
      by_cases q2 : k = l
      · subst q2
        rw [up_same, h2 _ (by omega) (by omega), if_neg (by omega), if_pos (by omega)]
        congr 1
        omega
      · rw [up_ne _ _ q2, h2 k a b]
        by_cases q3 : k < l ∨ w - 1 - (l - s) < k
        · rw [if_pos q3, if_pos (by omega)]
        · rw [if_neg q3, if_neg (by omega)]
theorem RevTo.done {RL RL' : Int → Int} {s w l : Int} (h : RevTo RL RL' s w l) (hl : s ≤ l ∧ w - 1 - (l - s) ≤ l) : (∀ k, 0 ≤ k → k < s → RL' k = RL k) ∧ (∀ k, s ≤ k → k < w → RL' k = RL (s + w - 1 - k)) ∧ BR RL' := by
  obtain ⟨h1, h2, h3⟩ := h
  refine ⟨h1, fun k a b => ?_, h3⟩
  rw [h2 k a b]
  by_cases q : k < l ∨ w - 1 - (l - s) < k
  · rw [if_pos q]
  · rw [if_neg q]
    congr 1
    omega
