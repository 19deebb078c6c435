/-! ===== pure: lines and books ===== -/
theorem tsOf_get (L ln : Int → Int) {cnt : Int} {j : Nat} (h : (j : Int) < cnt) : (tsOf L ln cnt)[j]? = some (rowL (tx L (j : Int)) (ln (j : Int))) := by
  unfold tsOf
  rw [List.getElem?_map, List.getElem?_range (by omega)]
  rfl
theorem tsOf_no (L ln : Int → Int) {cnt : Int} {j : Nat} (hc : 0 ≤ cnt) (h : cnt ≤ (j : Int)) : (tsOf L ln cnt)[j]? = none := by
  rw [List.getElem?_eq_none_iff]
  have := tsOf_len L ln hc
  omega
theorem tsOf_write {L ln RL : Int → Int} {cnt t rl : Int} (h : ShOk L ln cnt) (ht : 0 ≤ t ∧ t ≤ cnt) (hr : 0 ≤ rl ∧ rl ≤ 600) : tsOf (cpy RL L 0 (t * 600) rl) (up ln t rl) (max cnt (t + 1)) = setT (tsOf L ln cnt) t.toNat (rowL RL rl) := by
  have hc := h.1
  have hlen := tsOf_len L ln hc.1
  have e1 : rowL (tx (cpy RL L 0 (t * 600) rl) t) (up ln t rl t) = rowL RL rl := by
    rw [up_same]
    exact rowL_cong (fun k a b => by unfold tx; rw [cpy_in _ _ (by omega)]; congr 1; omega)
  have e2 : ∀ j : Nat, (j : Int) ≠ t → (j : Int) < cnt → rowL (tx (cpy RL L 0 (t * 600) rl) (j : Int)) (up ln t rl (j : Int)) = rowL (tx L (j : Int)) (ln (j : Int)) := by
    intro j hj hjc
    have hl := h.ln j (by omega) hjc
    rw [up_ne _ _ hj]
    exact rowL_cong (fun k a b => by unfold tx; rw [cpy_out _ _ (by omega)])
  apply List.ext_getElem?
  intro j
  unfold setT
  by_cases z : t.toNat = (tsOf L ln cnt).length
  · have htc : t = cnt := by omega
    rw [if_pos z]
    by_cases w : (j : Int) < cnt
    · rw [tsOf_get _ _ (by omega), List.getElem?_append_left (by omega), tsOf_get _ _ w, e2 j (by omega) w]
    · by_cases v : (j : Int) = t
      · rw [tsOf_get _ _ (by omega), List.getElem?_append_right (by omega), show j - (tsOf L ln cnt).length = 0 by omega, v, e1]
        rfl
      · rw [tsOf_no _ _ (by omega) (by omega), eq_comm, List.getElem?_eq_none_iff, List.length_append, List.length_singleton]
        omega
  · rw [if_neg z, List.getElem?_set]
    by_cases v : t.toNat = j
    · rw [if_pos v, if_pos (by omega), tsOf_get _ _ (by omega), show (j : Int) = t by omega, e1]
    · rw [if_neg v]
      by_cases w : (j : Int) < cnt
      · rw [tsOf_get _ _ (by omega), tsOf_get _ _ w, e2 j (by omega) w]
      · rw [tsOf_no _ _ (by omega) (by omega), tsOf_no _ _ hc.1 (by omega)]
theorem body_len {b : Bk} {T : List (List Int)} {c : Nat} (hb : BkOk b T c) {k : Nat} (hk : k ≤ c) {x : List Int × Nat} (h : bodyE b T k = .ok x) : (x.1.length : Int) ≤ 600 ∧ x.2 ≤ c ∧ k < x.2 := by
  unfold bodyE at h
  cases h1 : sumOf b (core b T 6) k with
  | error e => rw [h1] at h; cases h
  | ok y =>
    rw [h1] at h
    simp only at h
    obtain ⟨g1, g2, g3, -⟩ := sumOf_ok hb (core_ok hb 6) hk h1
    by_cases w : b.K y.2 = 59
    · rw [if_pos w] at h
      injection h with h
      subst h
      exact ⟨g3, hb.nx g1 (by rw [w]; decide), by show k < y.2 + 1; omega⟩
    · rw [if_neg w] at h; cases h
theorem line_ok {b : Bk} {T : List (List Int)} {k : Nat} {h : Nat × Nat} {x : List Int × Nat} (h1 : headE b T k = .ok h) (h2 : bodyE b T h.2 = .ok x) : lineE b T k = .ok (setT T h.1 x.1, x.2) := by
  unfold lineE
  rw [h1]
  simp only
  rw [h2]
theorem line_er {b : Bk} {T : List (List Int)} {k : Nat} {h : Nat × Nat} {e : Ft} (h1 : headE b T k = .ok h) (h2 : bodyE b T h.2 = .error e) : lineE b T k = .error e := by
  unfold lineE
  rw [h1]
  simp only
  rw [h2]
theorem line_hd {b : Bk} {T : List (List Int)} {k : Nat} {e : Ft} (h1 : headE b T k = .error e) : lineE b T k = .error e := by
  unfold lineE
  rw [h1]
theorem line_step {b : Bk} {T : List (List Int)} {c : Nat} (hb : BkG b T c) {x y : PS} {R : PR} {f9 : Ft} (hF : Fin_ b T x R) (hP : PsOk x) (h3 : stg x ≠ 3) (h : StepR b T x y f9) : (f9.1 = 0 → Fin_ b T y R ∧ PsOk y) ∧ (f9.1 ≠ 0 → R = .error f9) := by
  rcases h with ⟨z, w⟩ | ⟨z, w⟩
  · exact ⟨fun _ => ⟨hF.next h3 z, hP.stp hb z⟩, fun q => absurd w q⟩
  · exact ⟨fun q => absurd q w, fun _ => hF.fail h3 z⟩
theorem book_end {b : Bk} {f : Nat} {T : List (List Int)} {k : Nat} (hf : 0 < f) (h : b.K k = 0) : bookE b f T k = .ok T := by
  cases f with
  | zero => omega
  | succ f => rw [bookE, if_pos h]
theorem book_line {b : Bk} {f : Nat} {T T2 : List (List Int)} {k k2 : Nat} (hf : 0 < f) (h : b.K k ≠ 0) (hl : lineE b T k = .ok (T2, k2)) : bookE b f T k = bookE b (f - 1) T2 k2 := by
  cases f with
  | zero => omega
  | succ f => rw [bookE, if_neg h, hl]; rfl
theorem book_er {b : Bk} {f : Nat} {T : List (List Int)} {k : Nat} {e : Ft} (hf : 0 < f) (h : b.K k ≠ 0) (hl : lineE b T k = .error e) : bookE b f T k = .error e := by
  cases f with
  | zero => omega
  | succ f => rw [bookE, if_neg h, hl]
theorem ps_init {fg : Int} {RL eo es ep : Int → Int} : psOf fg RL 0 eo es ep 0 0 0 0 = (fg.toNat, [], [], 0, 0, 0) := rfl
theorem ps_ok0 {fg : Int} {RL eo es ep : Int → Int} : PsOk (psOf fg RL 0 eo es ep 0 0 0 0) := by
  rw [ps_init]
  refine ⟨by show (0 : Nat) ≤ 6; omega, ⟨rfl, Int.le_refl 0, by show (0 : Int) ≤ 600; omega⟩, fun v hv => (by cases hv), fun _ => rfl, fun q => absurd rfl q, by show (0 : Int) ≤ 0 ∧ (0 : Int) ≤ 3; omega⟩
