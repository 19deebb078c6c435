/-! ===== pure: all texts' rules; counts ===== -/
theorem nodup_lt : ∀ (n : Nat) (l : List Nat), l.Nodup → (∀ x ∈ l, x < n) → l.length ≤ n
  | 0, l, _, h => by
    cases l with
    | nil => simp
    | cons a l => exact absurd (h a List.mem_cons_self) (Nat.not_lt_zero a)
  | n + 1, l, hn, h => by
    by_cases q : n ∈ l
    · have h1 := nodup_lt n (l.erase n) (hn.erase n) (fun x hx => by
        have := h x (List.mem_of_mem_erase hx)
        have : x ≠ n := fun e => by subst e; exact absurd hx (List.Nodup.not_mem_erase hn)
        omega)
      rw [List.length_erase_of_mem q] at h1
      omega
    · have := nodup_lt n l hn (fun x hx => by
        have := h x hx
        have : x ≠ n := fun e => by subst e; exact q hx
        omega)
      omega
theorem WV.le {R : Int → Rl} {rc : Int} {V : List (Rl × Int)} {sp nb mt pl : Int → Int} {stm wc : Int} (h : WV R rc V sp nb mt pl stm wc) : wc ≤ max rc 0 := by
  obtain ⟨h1, -, -, -, -, h6, h7⟩ := h
  have hex : ∀ r : Rl, ∃ i : Nat, r ∈ V.map Prod.fst → ((i : Int) < rc ∧ R i = r) := by
    intro r
    by_cases q : r ∈ V.map Prod.fst
    · obtain ⟨x, hx, rfl⟩ := List.mem_map.mp q
      obtain ⟨i, a, b, c⟩ := h6 x hx
      exact ⟨i.toNat, fun _ => ⟨by omega, by rw [Int.toNat_of_nonneg a]; exact c⟩⟩
    · exact ⟨0, fun z => absurd z q⟩
  obtain ⟨f, hf⟩ := Classical.axiomOfChoice hex
  have hnd : ((V.map Prod.fst).map f).Nodup := by
    rw [List.Nodup, List.pairwise_map]
    refine List.Pairwise.imp_of_mem ?_ h7
    intro a b ha hb hne e
    exact hne (by rw [← (hf a ha).2, ← (hf b hb).2, e])
  have := nodup_lt rc.toNat _ hnd (fun x hx => by
    obtain ⟨r, hr, rfl⟩ := List.mem_map.mp hx
    have := (hf r hr).1
    omega)
  rw [List.length_map, List.length_map] at this
  omega
noncomputable def visT (T : Int → Rl) : Nat → List (Rl × Int) → List (Rl × Int)
  | 0, V => V
  | n + 1, V => vis (T n) 0 (visT T n V)
theorem visT_succ (T : Int → Rl) {i : Int} (h : 0 ≤ i) (V : List (Rl × Int)) : visT T (i + 1).toNat V = vis (T i) 0 (visT T i.toNat V) := by
  rw [toNat_succ h, visT, Int.toNat_of_nonneg h]
theorem visT_cong {T T2 : Int → Rl} : ∀ (n : Nat) (V : List (Rl × Int)), (∀ t : Int, 0 ≤ t → t < n → T t = T2 t) → visT T n V = visT T2 n V
  | 0, _, _ => rfl
  | n + 1, V, h => by rw [visT, visT, visT_cong n V (fun t a b => h t a (by omega)), h n (by omega) (by omega)]
/-- NEW: how many rules the texts behind have that none had ahead -/
def NewsIs (L ln : Int → Int) (n : Int) (L2 ln2 : Int → Int) (n2 : Int) (news : Int) : Prop :=
  ∃ T T2 : Int → Rl, (∀ t, 0 ≤ t → t < n → ∃ q, BIs (lts L (t * 600) (ln t)) (T t) q) ∧ (∀ t, 0 ≤ t → t < n2 → ∃ q, BIs (lts L2 (t * 600) (ln2 t)) (T2 t) q) ∧ news = ((visT T2 n2.toNat (visT T n.toNat [])).length : Int) - (visT T n.toNat []).length
def wpF (ln : Int → Int) (cnt t p e : Int) : Int := if p < 0 then 1 else if ¬ (0 ≤ t ∧ t < cnt) then 2 else if p < ln t ∨ (e ≠ 0 ∧ p = ln t) then 0 else 5
def wsF (ln : Int → Int) (cnt t p m u : Int) : Int := if p < 0 ∨ m < 0 then 1 else if ¬ ((0 ≤ t ∧ t < cnt) ∧ (0 ≤ u ∧ u < cnt)) then 2 else if ¬ (p ≤ ln t ∧ m ≤ ln t - p) then 5 else if 600 < ln t - m + ln u then 6 else 0
def lwF (v u : Int) : Int := if v = 0 ∨ u = 0 then v + u else min v u
/-- m letters of f from place p on replaced by the n of h -/
def splF (f : Int → Int) (p m : Int) (h : Int → Int) (n k : Int) : Int := if k < p then f k else if k < p + n then h (k - p) else f (k - n + m)
theorem spl_ok {L RL ln : Int → Int} {t u p m : Int} (hl1 : 0 ≤ ln t ∧ ln t ≤ 600) (hl2 : 0 ≤ ln u ∧ ln u ≤ 600) (hp : 0 ≤ p ∧ 0 ≤ m ∧ p + m ≤ ln t) {k : Int} (k0 : 0 ≤ k) (k1 : k < ln t - m + ln u) :
    cpy L (cpy L (cpy L RL (t * 600 + 0) 0 p) (u * 600) (0 + p) (ln u)) (t * 600 + (p + m)) (0 + p + ln u) (ln t - (p + m)) k = splF (tx L t) p m (tx L u) (ln u) k := by
  unfold splF tx
  by_cases q1 : k < p
  · rw [if_pos q1, cpy_out _ _ (by omega), cpy_out _ _ (by omega), cpy_in _ _ (by omega)]
    congr 1
    omega
  · rw [if_neg q1]
    by_cases q2 : k < p + ln u
    · rw [if_pos q2, cpy_out _ _ (by omega), cpy_in _ _ (by omega)]
      congr 1
      omega
    · rw [if_neg q2, cpy_in _ _ (by omega)]
      congr 1
      omega
