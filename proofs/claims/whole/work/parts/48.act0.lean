/-! ===== pure: texts after an ACT ===== -/
def TextSet (F : Int → Int → Int) (N : Int → Int) (c t : Int) (f : Int → Int) (n : Int) (F2 : Int → Int → Int) (N2 : Int → Int) (c2 : Int) : Prop :=
  c2 = max c (t + 1) ∧ N2 t = n ∧ (∀ k, 0 ≤ k → k < n → F2 t k = f k) ∧ ∀ j, 0 ≤ j → j < c → j ≠ t → N2 j = N j ∧ ∀ k, 0 ≤ k → k < N j → F2 j k = F j k
theorem TextSet.of {L ln RL : Int → Int} {cnt t n : Int} {f : Int → Int} (hl : ∀ j, 0 ≤ j → j < cnt → 0 ≤ ln j ∧ ln j ≤ 600) (ht : 0 ≤ t) (hn : 0 ≤ n ∧ n ≤ 600) (hf : ∀ k, 0 ≤ k → k < n → RL k = f k) : TextSet (tx L) ln cnt t f n (tx (cpy RL L 0 (t * 600) n)) (up ln t n) (max cnt (t + 1)) := by
  refine ⟨rfl, up_same _ _ _, fun k a b => ?_, fun j a b e => ⟨up_ne _ _ e, fun k k0 k1 => ?_⟩⟩
  · unfold tx
    rw [cpy_in _ _ (by omega), show 0 + (600 * t + k - t * 600) = k by omega]
    exact hf k a b
  · have := hl j a b
    unfold tx
    rw [cpy_out _ _ (by omega)]
def TextGone (F : Int → Int → Int) (N : Int → Int) (c t : Int) (F2 : Int → Int → Int) (N2 : Int → Int) (c2 : Int) : Prop :=
  c2 = c - 1 ∧ ∀ j, 0 ≤ j → j < c2 → N2 j = N (if j < t then j else j + 1) ∧ ∀ k, 0 ≤ k → k < N2 j → F2 j k = F (if j < t then j else j + 1) k
def NewsF (F : Int → Int → Int) (N : Int → Int) (n : Int) (F2 : Int → Int → Int) (N2 : Int → Int) (n2 : Int) (news : Int) : Prop :=
  ∃ T T2 : Int → Rl, (∀ t, 0 ≤ t → t < n → ∃ q, BIs (lts (F t) 0 (N t)) (T t) q) ∧ (∀ t, 0 ≤ t → t < n2 → ∃ q, BIs (lts (F2 t) 0 (N2 t)) (T2 t) q) ∧ news = ((visT T2 n2.toNat (visT T n.toNat [])).length : Int) - (visT T n.toNat []).length
theorem lts_tx (L : Int → Int) (t n : Int) : lts L (t * 600) n = lts (tx L t) 0 n := lts_cong (fun k _ _ => by unfold tx; congr 1; omega)
theorem NewsIs.F {L ln : Int → Int} {n : Int} {L2 ln2 : Int → Int} {n2 news : Int} (h : NewsIs L ln n L2 ln2 n2 news) : NewsF (tx L) ln n (tx L2) ln2 n2 news := by
  obtain ⟨T, T2, h1, h2, h3⟩ := h
  refine ⟨T, T2, fun t a b => ?_, fun t a b => ?_, h3⟩
  · rw [← lts_tx]; exact h1 t a b
  · rw [← lts_tx]; exact h2 t a b
theorem part_at {L RL : Int → Int} {t p m k : Int} (h : 0 ≤ k ∧ k < m) : cpy L RL (t * 600 + p) 0 m k = tx L t (p + k) := by
  rw [cpy_in _ _ (by omega)]
  unfold tx
  congr 1
  omega
theorem whole_at {L RL : Int → Int} {t m k : Int} (h : 0 ≤ k ∧ k < m) : cpy L RL (t * 600) 0 m k = tx L t k := by
  rw [cpy_in _ _ (by omega)]
  unfold tx
  congr 1
  omega
def joinF (f : Int → Int) (n : Int) (h : Int → Int) (k : Int) : Int := if k < n then f k else h (k - n)
theorem join_at {L RL : Int → Int} {t u n m k : Int} (hn : 0 ≤ n) (h : 0 ≤ k ∧ k < n + m) : cpy L (cpy L RL (t * 600) 0 n) (u * 600) (0 + n) m k = joinF (tx L t) n (tx L u) k := by
  unfold joinF
  by_cases q : k < n
  · rw [if_pos q, cpy_out _ _ (by omega), whole_at (by omega)]
  · rw [if_neg q, cpy_in _ _ (by omega)]
    unfold tx
    congr 1
    omega
def tkF (ln : Int → Int) (cnt t p m : Int) : Int := if p < 0 ∨ m ≤ 0 then 1 else if ¬ (0 ≤ t ∧ t < cnt) then 2 else if 8 ≤ cnt then 3 else if ¬ (p ≤ ln t ∧ m ≤ ln t - p) then 5 else 0
def jnF (ln : Int → Int) (cnt t u : Int) : Int := if ¬ ((0 ≤ t ∧ t < cnt) ∧ (0 ≤ u ∧ u < cnt)) then 2 else if 8 ≤ cnt then 3 else if 600 < ln t + ln u then 6 else 0
def rpF (ln : Int → Int) (cnt t k : Int) : Int := if k < 2 ∨ 600 < k then 1 else if ¬ (0 ≤ t ∧ t < cnt) then 2 else if 600 < ln t * k then 6 else 0
def rnF (F : Int → Int → Int) (ln : Int → Int) (cnt t l o : Int) : Int := if ¬ ((0 ≤ l ∧ l < 26) ∧ (0 ≤ o ∧ o < 26)) then 1 else if ¬ (0 ≤ t ∧ t < cnt) then 2 else if l = o then 4 else if cntF (F t) l (ln t) = 0 then 5 else 0
theorem splF_rg {L ln : Int → Int} {cnt t u p m k : Int} (h : ShOk L ln cnt) (ht : 0 ≤ t ∧ t < cnt) (hu : 0 ≤ u ∧ u < cnt) (hp : 0 ≤ p ∧ 0 ≤ m ∧ p + m ≤ ln t) (k0 : 0 ≤ k) (k1 : k < ln t - m + ln u) : 0 ≤ splF (tx L t) p m (tx L u) (ln u) k ∧ splF (tx L t) p m (tx L u) (ln u) k ≤ 25 := by
  unfold splF
  split
  · exact (h.2.2 t ht.1 ht.2).2 k k0 (by omega)
  · split
    · exact (h.2.2 u hu.1 hu.2).2 _ (by omega) (by omega)
    · exact (h.2.2 t ht.1 ht.2).2 _ (by omega) (by omega)
