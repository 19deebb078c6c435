/-! ===== pure: order of texts, removal, mirrors ===== -/
def lcpN (f h : Int → Int) : Nat → Int
  | 0 => 0
  | n + 1 => if lcpN f h n = n ∧ f n = h n then n + 1 else lcpN f h n
def lcpF (f h : Int → Int) (m : Int) : Int := lcpN f h m.toNat
theorem lcpN_is (f h : Int → Int) : ∀ n : Nat, LcpIs f h n (lcpN f h n)
  | 0 => ⟨by simp [lcpN], by simp [lcpN], fun k a b => by simp [lcpN] at b; omega, Or.inl (by simp [lcpN])⟩
  | n + 1 => by
    obtain ⟨a1, a2, a3, a4⟩ := lcpN_is f h n
    unfold lcpN
    by_cases q : lcpN f h n = n ∧ f n = h n
    · rw [if_pos q]
      refine ⟨by omega, by omega, fun k k0 k1 => ?_, Or.inl (by omega)⟩
      by_cases e : k = n
      · rw [e]; exact q.2
      · exact a3 k k0 (by omega)
    · rw [if_neg q]
      refine ⟨a1, by omega, a3, Or.inr ?_⟩
      rcases a4 with a4 | a4
      · rw [a4]; exact fun z => q ⟨a4, z⟩
      · exact a4
theorem lcpF_is (f h : Int → Int) {m : Int} (hm : 0 ≤ m) : LcpIs f h m (lcpF f h m) := by
  have := lcpN_is f h m.toNat
  rw [Int.toNat_of_nonneg hm] at this
  exact this
theorem LcpIs.eq {f h : Int → Int} {m r : Int} (a : LcpIs f h m r) : r = lcpF f h m :=
  LcpIs.one (fun _ _ _ => rfl) (fun _ _ _ => rfl) a (lcpF_is f h (by obtain ⟨a1, a2, -⟩ := a; omega))
theorem lcpF_cong {f h f2 h2 : Int → Int} {m : Int} (hm : 0 ≤ m) (qf : ∀ j, 0 ≤ j → j < m → f j = f2 j) (qh : ∀ j, 0 ≤ j → j < m → h j = h2 j) : lcpF f h m = lcpF f2 h2 m :=
  LcpIs.one qf qh (lcpF_is f h hm) (lcpF_is f2 h2 hm)
/-- which of two texts is ahead: below 0 the first, above 0 the second -/
def cmpT (f : Int → Int) (n : Int) (h : Int → Int) (m : Int) : Int :=
  cmpI (if lcpF f h (min n m) < n then f (lcpF f h (min n m)) else -1) (if lcpF f h (min n m) < m then h (lcpF f h (min n m)) else -1)
theorem cmpT_cong {f h f2 h2 : Int → Int} {n m : Int} (hn : 0 ≤ n) (hm : 0 ≤ m) (qf : ∀ j, 0 ≤ j → j < n → f j = f2 j) (qh : ∀ j, 0 ≤ j → j < m → h j = h2 j) : cmpT f n h m = cmpT f2 n h2 m := by
  have e : lcpF f h (min n m) = lcpF f2 h2 (min n m) := lcpF_cong (by omega) (fun j a b => qf j a (by omega)) (fun j a b => qh j a (by omega))
  obtain ⟨p1, p2, -⟩ := lcpF_is f2 h2 (m := min n m) (by omega)
  unfold cmpT
  rw [e]
  congr 1
  · split
    · exact qf _ p1 (by omega)
    · rfl
  · split
    · exact qh _ p1 (by omega)
    · rfl
theorem cmpT_rg (f : Int → Int) (n : Int) (h : Int → Int) (m : Int) : -1 ≤ cmpT f n h m ∧ cmpT f n h m ≤ 1 := cmpI_rg _ _
def aheadCnt (L ln : Int → Int) (n t : Int) : Int := sumF (fun u => if cmpT (tx L u) (ln u) (tx L t) (ln t) < 0 ∨ cmpT (tx L u) (ln u) (tx L t) (ln t) = 0 ∧ u < t then 1 else 0) n
theorem aheadCnt_bd (L ln : Int → Int) {n : Int} (t : Int) (h : 0 ≤ n) : 0 ≤ aheadCnt L ln n t ∧ aheadCnt L ln n t ≤ n := by
  have := sumF_bd (f := fun u => if cmpT (tx L u) (ln u) (tx L t) (ln t) < 0 ∨ cmpT (tx L u) (ln u) (tx L t) (ln t) = 0 ∧ u < t then 1 else 0) (m := 1) (by omega) n.toNat (fun j _ _ => by split <;> omega)
  unfold aheadCnt sumF
  omega
theorem aheadCnt_yes {L ln : Int → Int} {i t : Int} (h : 0 ≤ i) (q : cmpT (tx L i) (ln i) (tx L t) (ln t) < 0 ∨ cmpT (tx L i) (ln i) (tx L t) (ln t) = 0 ∧ i < t) : aheadCnt L ln (i + 1) t = aheadCnt L ln i t + 1 := by
  unfold aheadCnt; rw [sumF_succ _ h, if_pos q]
theorem aheadCnt_no {L ln : Int → Int} {i t : Int} (h : 0 ≤ i) (q : ¬ (cmpT (tx L i) (ln i) (tx L t) (ln t) < 0 ∨ cmpT (tx L i) (ln i) (tx L t) (ln t) = 0 ∧ i < t)) : aheadCnt L ln (i + 1) t = aheadCnt L ln i t := by
  unfold aheadCnt; rw [sumF_succ _ h, if_neg q]; omega
/-- as far as letters are the same, leftwards from one place, rightwards from another -/
def MirIs (f : Int → Int) (n l r far : Int) : Prop := 0 ≤ far ∧ (∀ k, 0 ≤ k → k < far → 0 ≤ l - k ∧ r + k < n ∧ f (l - k) = f (r + k)) ∧ ¬ (0 ≤ l - far ∧ r + far < n ∧ f (l - far) = f (r + far))
theorem MirIs.one {f h : Int → Int} {n l r a b : Int} (q : ∀ j, 0 ≤ j → j < n → f j = h j) (hl : l < n) (hr : 0 ≤ r) (h1 : MirIs f n l r a) (h2 : MirIs h n l r b) : a = b := by
  obtain ⟨a1, a2, a3⟩ := h1
  obtain ⟨b1, b2, b3⟩ := h2
  rcases Int.lt_trichotomy a b with z | z | z
  · obtain ⟨c1, c2, c3⟩ := b2 a a1 z
    exact absurd ⟨c1, c2, by rw [q _ c1 (by omega), q _ (by omega) c2]; exact c3⟩ a3
  · exact z
  · obtain ⟨c1, c2, c3⟩ := a2 b b1 z
    exact absurd ⟨c1, c2, by rw [← q _ c1 (by omega), ← q _ (by omega) c2]; exact c3⟩ b3
def RemInv (t i n : Int) (L ln tp rd L' ln' tp' rd' : Int → Int) : Prop :=
  ShiftTo t (i - 1) L ln tp rd L' ln' tp' rd' ∧ (∀ j, i ≤ j → j < n → ln' j = ln j ∧ tp' j = tp j ∧ rd' j = rd j ∧ ∀ k, 0 ≤ k → k < ln j → L' (600 * j + k) = L (600 * j + k)) ∧ BR L'
theorem RemInv.start {t n : Int} {L ln tp rd : Int → Int} (hB : BR L) : RemInv t (t + 1) n L ln tp rd L ln tp rd := by
  refine ⟨fun j h0 h1 => ?_, fun j _ _ => ⟨rfl, rfl, rfl, fun _ _ _ => rfl⟩, hB⟩
  rw [if_pos (by omega)]
  exact ⟨rfl, rfl, rfl, fun _ _ _ => rfl⟩
theorem RemInv.step {t i n : Int} {L ln tp rd L' ln' tp' rd' : Int → Int} (h : RemInv t i n L ln tp rd L' ln' tp' rd') (hi : 0 ≤ t ∧ t < i ∧ i < n) (hl : ∀ j, 0 ≤ j → j < n → 0 ≤ ln j ∧ ln j ≤ 600) :
    RemInv t (i + 1) n L ln tp rd (cpy L' L' (i * 600) ((i - 1) * 600) (ln' i)) (up ln' (i - 1) (ln' i)) (up tp' (i - 1) (tp' i)) (up rd' (i - 1) (rd' i)) := by
  obtain ⟨h1, h2, h3⟩ := h
  obtain ⟨e1, e2, e3, e4⟩ := h2 i (by omega) (by omega)
  have hli := hl i (by omega) (by omega)
  refine ⟨fun j j0 j1 => ?_, fun j j0 j1 => ?_, BR_cpy h3 h3 _ _ _⟩
  · by_cases e : j = i - 1
    · subst e
      rw [if_neg (by omega), up_same, up_same, up_same, show i - 1 + 1 = i by omega]
      refine ⟨e1, e2, e3, fun k k0 k1 => ?_⟩
      rw [cpy_in _ _ (by omega), show i * 600 + (600 * (i - 1) + k - (i - 1) * 600) = 600 * i + k by omega]
      exact e4 k k0 (by omega)
    · obtain ⟨g1, g2, g3, g4⟩ := h1 j j0 (by omega)
      rw [up_ne _ _ e, up_ne _ _ e, up_ne _ _ e]
      refine ⟨g1, g2, g3, fun k k0 k1 => ?_⟩
      have : ln' j ≤ 600 := by
        rw [g1]
        by_cases q : j < t
        · rw [if_pos q]; exact (hl j (by omega) (by omega)).2
        · rw [if_neg q]; exact (hl (j + 1) (by omega) (by omega)).2
      rw [cpy_out _ _ (by omega)]
      exact g4 k k0 k1
  · obtain ⟨g1, g2, g3, g4⟩ := h2 j (by omega) j1
    rw [up_ne _ _ (by omega), up_ne _ _ (by omega), up_ne _ _ (by omega)]
    refine ⟨g1, g2, g3, fun k k0 k1 => ?_⟩
    rw [cpy_out _ _ (by omega)]
    exact g4 k k0 k1
theorem cmpT_at {L ln : Int → Int} {t u r : Int} (ht : 0 ≤ ln t) (hu : 0 ≤ ln u) (h : LcpIs (fun k => tx L t (0 + k)) (fun k => tx L u (0 + k)) (min (ln t - 0) (ln u - 0)) r) : cmpI (atF L ln t r) (atF L ln u r) = cmpT (tx L t) (ln t) (tx L u) (ln u) := by
  have h' : LcpIs (tx L t) (tx L u) (min (ln t) (ln u)) r := by
    have e : ∀ f : Int → Int, (fun k => f (0 + k)) = f := fun f => by funext k; rw [Int.zero_add]
    rw [e, e, Int.sub_zero, Int.sub_zero] at h
    exact h
  have e := h'.eq
  unfold cmpT
  rw [← e]
  obtain ⟨p1, p2, -⟩ := h'
  unfold atF
  congr 1
  · by_cases q : r < ln t
    · rw [if_pos ⟨p1, q⟩, if_pos q]; rfl
    · rw [if_neg (by omega), if_neg q]
  · by_cases q : r < ln u
    · rw [if_pos ⟨p1, q⟩, if_pos q]; rfl
    · rw [if_neg (by omega), if_neg q]
theorem atF_rg {L : Int → Int} (hB : BR L) (ln : Int → Int) (t p : Int) : -128 ≤ atF L ln t p ∧ atF L ln t p ≤ 127 := by
  unfold atF
  split
  · exact hB _
  · omega
theorem atF_tx {L ln : Int → Int} {t p : Int} (h : 0 ≤ p ∧ p < ln t) : atF L ln t p = tx L t p := by
  unfold atF tx; rw [if_pos h]
