/-! ===== pure: borders, where one text stands in another one ===== -/
def Bd (f : Int → Int) (i j : Int) : Prop := 0 ≤ j ∧ j ≤ i ∧ ∀ k, 0 ≤ k → k < j → f k = f (i - j + k)
theorem Bd.self {f : Int → Int} {i : Int} (h : 0 ≤ i) : Bd f i i := ⟨h, Int.le_refl i, fun k _ _ => by congr 1; omega⟩
theorem Bd.zero {f : Int → Int} {i : Int} (h : 0 ≤ i) : Bd f i 0 := ⟨Int.le_refl 0, h, fun k a b => absurd b (by omega)⟩
theorem Bd.down {f : Int → Int} {i m j : Int} (hm : Bd f i m) (hj : Bd f i j) (h : j ≤ m) : Bd f m j := by
  obtain ⟨a1, a2, a3⟩ := hm
  obtain ⟨b1, b2, b3⟩ := hj
  refine ⟨b1, h, fun k k0 k1 => ?_⟩
  rw [b3 k k0 k1, a3 (m - j + k) (by omega) (by omega)]
  congr 1
  omega
theorem Bd.trans {f : Int → Int} {i m j : Int} (hm : Bd f i m) (hj : Bd f m j) : Bd f i j := by
  obtain ⟨a1, a2, a3⟩ := hm
  obtain ⟨b1, b2, b3⟩ := hj
  refine ⟨b1, by omega, fun k k0 k1 => ?_⟩
  rw [b3 k k0 k1, a3 (m - j + k) (by omega) (by omega)]
  congr 1
  omega
/-- the longest border but the whole -/
def IsB (f : Int → Int) (i b : Int) : Prop := b < i ∧ Bd f i b ∧ ∀ j, j < i → Bd f i j → j ≤ b
def GoIs (f : Int → Int) (n q c r : Int) : Prop := 0 ≤ r ∧ r ≤ q + 1 ∧ r ≤ n ∧ (1 ≤ r → Bd f q (r - 1) ∧ f (r - 1) = c) ∧ ∀ j, r ≤ j → j ≤ q → j < n → Bd f q j → f j ≠ c
/-- one letter more of the pattern itself -/
theorem GoIs.next {f : Int → Int} {n i b r : Int} (hi : 1 ≤ i ∧ i < n) (hb : IsB f i b) (h : GoIs f n b (f i) r) : IsB f (i + 1) r := by
  obtain ⟨g0, g1, g2, g3, g4⟩ := h
  obtain ⟨b1, b2, b3⟩ := hb
  refine ⟨by omega, ?_, fun j j1 jb => ?_⟩
  · by_cases e : 1 ≤ r
    · obtain ⟨p1, p2⟩ := g3 e
      have q := b2.trans p1
      refine ⟨g0, by omega, fun k k0 k1 => ?_⟩
      by_cases ek : k = r - 1
      · rw [ek, p2]; congr 1; omega
      · rw [q.2.2 k k0 (by omega)]; congr 1; omega
    · have : r = 0 := by omega
      rw [this]; exact Bd.zero (by omega)
  · by_cases q : r < j
    · exfalso
      have hj : Bd f i (j - 1) := ⟨by omega, by omega, fun k k0 k1 => by rw [jb.2.2 k k0 (by omega)]; congr 1; omega⟩
      have hle := b3 (j - 1) (by omega) hj
      refine g4 (j - 1) (by omega) hle (by omega) (b2.down hj hle) ?_
      rw [jb.2.2 (j - 1) (by omega) (by omega)]; congr 1; omega
    · omega
/-- how many first letters of f end at place p of h, at most; those from 'fr' on alone -/
def MtIs (f : Int → Int) (n : Int) (h : Int → Int) (fr p q : Int) : Prop := 0 ≤ q ∧ q ≤ n ∧ fr ≤ p - q ∧ (∀ k, 0 ≤ k → k < q → f k = h (p - q + k)) ∧ ∀ j, q < j → j ≤ n → fr ≤ p - j → ¬ ∀ k, 0 ≤ k → k < j → f k = h (p - j + k)
theorem MtIs.start {f : Int → Int} {n : Int} {h : Int → Int} {p : Int} (hn : 0 ≤ n) : MtIs f n h p p 0 := ⟨Int.le_refl 0, hn, by omega, fun k a b => absurd b (by omega), fun j a b c => absurd c (by omega)⟩
theorem MtIs.next {f : Int → Int} {n : Int} {h : Int → Int} {fr p q r : Int} (hm : MtIs f n h fr p q) (hg : GoIs f n q (h p) r) : MtIs f n h fr (p + 1) r := by
  obtain ⟨m0, m1, m2, m3, m4⟩ := hm
  obtain ⟨g0, g1, g2, g3, g4⟩ := hg
  refine ⟨g0, g2, by omega, fun k k0 k1 => ?_, fun j j0 j1 j2 hj => ?_⟩
  · obtain ⟨p1, p2⟩ := g3 (by omega)
    by_cases ek : k = r - 1
    · rw [ek, p2]; congr 1; omega
    · rw [p1.2.2 k k0 (by omega), m3 _ (by omega) (by omega)]; congr 1; omega
  · have hv : ∀ k, 0 ≤ k → k < j - 1 → f k = h (p - (j - 1) + k) := fun k k0 k1 => by rw [hj k k0 (by omega)]; congr 1; omega
    have hle : j - 1 ≤ q := by
      by_cases z : q < j - 1
      · exact absurd hv (m4 (j - 1) z (by omega) (by omega))
      · omega
    refine g4 (j - 1) (by omega) hle (by omega) ⟨by omega, hle, fun k k0 k1 => ?_⟩ ?_
    · rw [hv k k0 k1, m3 (q - (j - 1) + k) (by omega) (by omega)]; congr 1; omega
    · rw [hj (j - 1) (by omega) (by omega)]; congr 1; omega
/-- f stands at place k of h -/
def Mch (f : Int → Int) (n : Int) (h : Int → Int) (k : Int) : Prop := ∀ j, 0 ≤ j → j < n → f j = h (k + j)
theorem Mch_iff {f : Int → Int} {n : Int} {h : Int → Int} {k : Int} (hn : 0 ≤ n) : Mch f n h k ↔ lcpF f (fun j => h (k + j)) n = n := by
  obtain ⟨a1, a2, a3, a4⟩ := lcpF_is f (fun j => h (k + j)) hn
  constructor
  · intro q
    rcases a4 with a4 | a4
    · exact a4
    · by_cases z : lcpF f (fun j => h (k + j)) n < n
      · exact absurd (q _ a1 z) a4
      · omega
  · intro q j j0 j1
    exact a3 j j0 (by omega)
theorem MtIs.yes {f : Int → Int} {n : Int} {h : Int → Int} {fr p : Int} (hm : MtIs f n h fr p n) : Mch f n h (p - n) := hm.2.2.2.1
theorem MtIs.no {f : Int → Int} {n : Int} {h : Int → Int} {fr p q : Int} (hm : MtIs f n h fr p q) (hq : q ≠ n) (hf : fr ≤ p - n) : ¬ Mch f n h (p - n) := fun z => hm.2.2.2.2 n (by have := hm.2.1; omega) (Int.le_refl n) hf z
/-- the first place of h, of N letters, from fr on, at which f stands whole; -1: none -/
def FindIs (f : Int → Int) (n : Int) (h : Int → Int) (N fr r : Int) : Prop := (r = -1 ∧ ∀ k, fr ≤ k → k + n ≤ N → ¬ Mch f n h k) ∨ (fr ≤ r ∧ r + n ≤ N ∧ Mch f n h r ∧ ∀ k, fr ≤ k → k < r → ¬ Mch f n h k)
theorem Mch_cong {f f2 h h2 : Int → Int} {n N k : Int} (qf : ∀ j, 0 ≤ j → j < n → f j = f2 j) (qh : ∀ j, 0 ≤ j → j < N → h j = h2 j) (hk : 0 ≤ k ∧ k + n ≤ N) : Mch f n h k ↔ Mch f2 n h2 k := by
  constructor
  · intro q j j0 j1
    rw [← qf j j0 j1, ← qh _ (by omega) (by omega)]; exact q j j0 j1
  · intro q j j0 j1
    rw [qf j j0 j1, qh _ (by omega) (by omega)]; exact q j j0 j1
theorem FindIs.one {f f2 h h2 : Int → Int} {n N fr r r2 : Int} (hfr : 0 ≤ fr) (qf : ∀ j, 0 ≤ j → j < n → f j = f2 j) (qh : ∀ j, 0 ≤ j → j < N → h j = h2 j) (a : FindIs f n h N fr r) (b : FindIs f2 n h2 N fr r2) : r = r2 := by
  rcases a with ⟨e1, g1⟩ | ⟨a1, a2, a3, a4⟩ <;> rcases b with ⟨e2, g2⟩ | ⟨b1, b2, b3, b4⟩
  · omega
  · exact absurd ((Mch_cong qf qh ⟨by omega, b2⟩).mpr b3) (g1 r2 b1 b2)
  · exact absurd ((Mch_cong qf qh ⟨by omega, a2⟩).mp a3) (g2 r a1 a2)
  · rcases Int.lt_trichotomy r r2 with z | z | z
    · exact absurd ((Mch_cong qf qh ⟨by omega, a2⟩).mp a3) (b4 r a1 z)
    · exact z
    · exact absurd ((Mch_cong qf qh ⟨by omega, b2⟩).mpr b3) (a4 r2 b1 z)
/-- at how many of the first m places f stands whole -/
def mtI (f : Int → Int) (n : Int) (h : Int → Int) (k : Int) : Int := if lcpF f (fun j => h (k + j)) n = n then 1 else 0
def fndCnt (f : Int → Int) (n : Int) (h : Int → Int) (m : Int) : Int := sumF (mtI f n h) m
theorem mtI_yes {f : Int → Int} {n : Int} {h : Int → Int} {k : Int} (hn : 0 ≤ n) (q : Mch f n h k) : mtI f n h k = 1 := by unfold mtI; rw [if_pos ((Mch_iff hn).mp q)]
theorem mtI_no {f : Int → Int} {n : Int} {h : Int → Int} {k : Int} (hn : 0 ≤ n) (q : ¬ Mch f n h k) : mtI f n h k = 0 := by unfold mtI; rw [if_neg (fun z => q ((Mch_iff hn).mpr z))]
theorem fndCnt_bd (f : Int → Int) (n : Int) (h : Int → Int) (m : Int) : 0 ≤ fndCnt f n h m ∧ fndCnt f n h m ≤ max m 0 := by
  have := sumF_bd (f := mtI f n h) (m := 1) (by omega) m.toNat (fun j _ _ => by unfold mtI; split <;> omega)
  unfold fndCnt sumF
  omega
theorem fndCnt_neg (f : Int → Int) (n : Int) (h : Int → Int) {m : Int} (q : m ≤ 0) : fndCnt f n h m = 0 := by
  unfold fndCnt sumF
  rw [show m.toNat = 0 by omega]
  rfl
theorem fndCnt_yes {f : Int → Int} {n : Int} {h : Int → Int} {fr p : Int} (hn : 1 ≤ n) (hp : 0 ≤ p - n) (hm : MtIs f n h fr p n) : fndCnt f n h (p - n + 1) = fndCnt f n h (p - n) + 1 := by
  unfold fndCnt
  rw [sumF_succ _ hp, mtI_yes (by omega) hm.yes]
theorem fndCnt_no {f : Int → Int} {n : Int} {h : Int → Int} {p q : Int} (hn : 1 ≤ n) (hm : MtIs f n h 0 p q) (hq : q ≠ n) : fndCnt f n h (p - n + 1) = fndCnt f n h (p - n) := by
  by_cases z : 0 ≤ p - n
  · unfold fndCnt
    rw [sumF_succ _ z, mtI_no (by omega) (hm.no hq z)]
    omega
  · rw [fndCnt_neg _ _ _ (by omega), fndCnt_neg _ _ _ (by omega)]
/-- the least p from 1 on so that all letters are the same as those p places on -/
def PerIs (f : Int → Int) (n p : Int) : Prop := 1 ≤ p ∧ (∀ k, 0 ≤ k → k + p < n → f k = f (k + p)) ∧ ∀ j, 1 ≤ j → j < p → ¬ ∀ k, 0 ≤ k → k + j < n → f k = f (k + j)
theorem PerIs.of {f : Int → Int} {n b : Int} (h : IsB f n b) : PerIs f n (n - b) := by
  obtain ⟨h1, h2, h3⟩ := h
  refine ⟨by omega, fun k k0 k1 => ?_, fun j j0 j1 q => ?_⟩
  · rw [h2.2.2 k k0 (by omega)]; congr 1; omega
  · have := h2.1
    have := h3 (n - j) (by omega) ⟨by omega, by omega, fun k k0 k1 => by rw [q k k0 (by omega)]; congr 1; omega⟩
    omega
theorem PerIs.one {f h : Int → Int} {n a b : Int} (q : ∀ j, 0 ≤ j → j < n → f j = h j) (h1 : PerIs f n a) (h2 : PerIs h n b) : a = b := by
  obtain ⟨a1, a2, a3⟩ := h1
  obtain ⟨b1, b2, b3⟩ := h2
  rcases Int.lt_trichotomy a b with z | z | z
  · exact absurd (fun k k0 k1 => by rw [← q k k0 (by omega), ← q _ (by omega) k1]; exact a2 k k0 k1) (b3 a a1 z)
  · exact z
  · exact absurd (fun k k0 k1 => by rw [q k k0 (by omega), q _ (by omega) k1]; exact b2 k k0 k1) (a3 b b1 z)
theorem IsB_one {f : Int → Int} : IsB f 1 0 := ⟨by omega, Bd.zero (by omega), fun j a b => by have := b.1; omega⟩
theorem goOn_yes {L ln : Int → Int} {t q c m : Int} (hcc : 0 ≤ c) (hi : 0 ≤ m ∧ m ≤ q) (hv : Bd (tx L t) q m) (hx : ∀ j, m < j → j ≤ q → j < ln t → Bd (tx L t) q j → tx L t j ≠ c) (e : atF L ln t m = c) : GoIs (tx L t) (ln t) q c (m + 1) := by
  by_cases z : 0 ≤ m ∧ m < ln t
  · rw [atF_tx z] at e
    exact ⟨by omega, by omega, by omega, fun _ => by rw [show m + 1 - 1 = m by omega]; exact ⟨hv, e⟩, fun j a b c d => hx j (by omega) b c d⟩
  · rw [atF_no L z] at e
    omega
theorem goOn_no {L ln : Int → Int} {t q c m : Int} (hq : 0 ≤ q ∧ q ≤ ln t) (hx : ∀ j, m < j → j ≤ q → j < ln t → Bd (tx L t) q j → tx L t j ≠ c) (he : m = 0 ∨ atF L ln t m = c) (e : atF L ln t m ≠ c) : GoIs (tx L t) (ln t) q c 0 := by
  refine ⟨by omega, by omega, by omega, fun z => absurd z (by omega), fun j a b c d => ?_⟩
  rcases he with he | he
  · by_cases ej : j = m
    · subst ej
      rw [atF_tx ⟨a, c⟩] at e
      exact e
    · exact hx j (by omega) b c d
  · exact absurd he e
