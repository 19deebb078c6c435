/-! ===== pure: sums, counts, common beginnings ===== -/
def sumN (f : Int → Int) : Nat → Int
  | 0 => 0
  | n + 1 => sumN f n + f n
def sumF (f : Int → Int) (n : Int) : Int := sumN f n.toNat
theorem sumF_0 (f : Int → Int) : sumF f 0 = 0 := rfl
theorem toNat_succ {i : Int} (h : 0 ≤ i) : (i + 1).toNat = i.toNat + 1 := by omega
theorem sumF_succ (f : Int → Int) {i : Int} (h : 0 ≤ i) : sumF f (i + 1) = sumF f i + f i := by
  unfold sumF
  rw [toNat_succ h, sumN, Int.toNat_of_nonneg h]
theorem sumF_bd {f : Int → Int} {m : Int} (hm : 0 ≤ m) : ∀ n : Nat, (∀ j : Int, 0 ≤ j → j < n → 0 ≤ f j ∧ f j ≤ m) → 0 ≤ sumN f n ∧ sumN f n ≤ n * m
  | 0, _ => by simp [sumN]
  | n + 1, h => by
    have h1 := sumF_bd hm n (fun j a b => h j a (by omega))
    have h2 := h n (by omega) (by omega)
    have e : ((n + 1 : Nat) : Int) * m = n * m + m := by
      rw [Int.natCast_add, Int.add_mul]; omega
    rw [e, sumN]
    omega
theorem sumF_cong {f h : Int → Int} : ∀ n : Nat, (∀ j : Int, 0 ≤ j → j < n → f j = h j) → sumN f n = sumN h n
  | 0, _ => rfl
  | n + 1, q => by rw [sumN, sumN, sumF_cong n (fun j a b => q j a (by omega)), q n (by omega) (by omega)]
/-- how often c stands among the first n -/
def cntF (f : Int → Int) (c n : Int) : Int := sumF (fun k => if f k = c then 1 else 0) n
theorem cntF_0 (f : Int → Int) (c : Int) : cntF f c 0 = 0 := rfl
theorem cntF_yes {f : Int → Int} {c i : Int} (h : 0 ≤ i) (e : f i = c) : cntF f c (i + 1) = cntF f c i + 1 := by
  unfold cntF; rw [sumF_succ _ h, if_pos e]
theorem cntF_no {f : Int → Int} {c i : Int} (h : 0 ≤ i) (e : f i ≠ c) : cntF f c (i + 1) = cntF f c i := by
  unfold cntF; rw [sumF_succ _ h, if_neg e]; omega
theorem cntF_bd (f : Int → Int) (c : Int) {n : Int} (h : 0 ≤ n) : 0 ≤ cntF f c n ∧ cntF f c n ≤ n := by
  have := sumF_bd (f := fun k => if f k = c then 1 else 0) (m := 1) (by omega) n.toNat (fun j _ _ => by split <;> omega)
  unfold cntF sumF
  omega
theorem cntF_cong {f h : Int → Int} {c n : Int} (q : ∀ j, 0 ≤ j → j < n → f j = h j) : cntF f c n = cntF h c n := by
  unfold cntF sumF
  refine sumF_cong _ (fun j a b => ?_)
  try dsimp only
  rw [q j a (by omega)]
theorem cntF_mono (f : Int → Int) (c : Int) {i : Int} (h : 0 ≤ i) : ∀ m : Nat, cntF f c i ≤ cntF f c (i + m)
  | 0 => by simp
  | m + 1 => by
    have h1 := cntF_mono f c h m
    have e : i + ((m + 1 : Nat) : Int) = (i + m) + 1 := by omega
    rw [e]
    by_cases q : f (i + m) = c
    · rw [cntF_yes (by omega) q]; omega
    · rw [cntF_no (by omega) q]; omega
theorem cntF_le (f : Int → Int) (c : Int) {i j : Int} (h : 0 ≤ i) (hj : i ≤ j) : cntF f c i ≤ cntF f c j := by
  have := cntF_mono f c h (j - i).toNat
  have e : i + ((j - i).toNat : Int) = j := by omega
  rw [e] at this
  exact this
/-- the i-th place of c among the first n; -1: there is none -/
def SelIs (f : Int → Int) (n c i r : Int) : Prop := (r = -1 ∧ cntF f c n ≤ i) ∨ (0 ≤ r ∧ r < n ∧ f r = c ∧ cntF f c r = i)
theorem SelIs.one {f h : Int → Int} {n c i r r2 : Int} (q : ∀ j, 0 ≤ j → j < n → f j = h j) (h1 : SelIs f n c i r) (h2 : SelIs h n c i r2) : r = r2 := by
  have key : ∀ {f : Int → Int} {a b : Int}, 0 ≤ a → a < b → f a = c → cntF f c a < cntF f c b := by
    intro f a b ha hb e
    have := cntF_le f c (i := a + 1) (j := b) (by omega) (by omega)
    rw [cntF_yes ha e] at this
    omega
  have hc : ∀ m, m ≤ n → cntF f c m = cntF h c m := fun m hm => cntF_cong (fun j a b => q j a (by omega))
  rcases h1 with ⟨e1, g1⟩ | ⟨a1, b1, e1, g1⟩ <;> rcases h2 with ⟨e2, g2⟩ | ⟨a2, b2, e2, g2⟩
  · omega
  · have := key (f := h) a2 b2 e2
    rw [hc n (Int.le_refl n)] at g1
    omega
  · have := key (f := f) a1 b1 e1
    rw [hc n (Int.le_refl n)] at this
    omega
  · rcases Int.lt_trichotomy r r2 with z | z | z
    · have := key (f := h) a1 z (by rw [← q r a1 b1]; exact e1)
      rw [← hc r (by omega)] at this
      omega
    · exact z
    · have := key (f := h) a2 z e2
      rw [← hc r (by omega)] at this
      omega
/-- how many are the same from the beginning, of at most m -/
def LcpIs (f h : Int → Int) (m r : Int) : Prop := 0 ≤ r ∧ r ≤ m ∧ (∀ k, 0 ≤ k → k < r → f k = h k) ∧ (r = m ∨ f r ≠ h r)
theorem LcpIs.one {f h f2 h2 : Int → Int} {m r r2 : Int} (qf : ∀ j, 0 ≤ j → j < m → f j = f2 j) (qh : ∀ j, 0 ≤ j → j < m → h j = h2 j) (a : LcpIs f h m r) (b : LcpIs f2 h2 m r2) : r = r2 := by
  obtain ⟨a1, a2, a3, a4⟩ := a
  obtain ⟨b1, b2, b3, b4⟩ := b
  rcases Int.lt_trichotomy r r2 with z | z | z
  · have := b3 r a1 z
    rw [← qf r a1 (by omega), ← qh r a1 (by omega)] at this
    rcases a4 with a4 | a4
    · omega
    · exact absurd this a4
  · exact z
  · have := a3 r2 b1 z
    rw [qf r2 b1 (by omega), qh r2 b1 (by omega)] at this
    rcases b4 with b4 | b4
    · omega
    · exact absurd this b4
def cmpI (x y : Int) : Int := if x < y then -1 else if x = y then 0 else 1
theorem cmpI_rg (x y : Int) : -1 ≤ cmpI x y ∧ cmpI x y ≤ 1 := by unfold cmpI; split <;> (try split) <;> omega
theorem cmpI_lt {x y : Int} : cmpI x y < 0 ↔ x < y := by unfold cmpI; split <;> (try split) <;> omega
theorem cmpI_gt {x y : Int} : 0 < cmpI x y ↔ y < x := by unfold cmpI; split <;> (try split) <;> omega
theorem cmpI_0 {x y : Int} : cmpI x y = 0 ↔ x = y := by unfold cmpI; split <;> (try split) <;> omega
/-- letters of a text of a shelf -/
def tx (L : Int → Int) (t : Int) : Int → Int := fun k => L (600 * t + k)
def BR (L : Int → Int) : Prop := ∀ j, -128 ≤ L j ∧ L j ≤ 127
theorem BR_cpy {f h : Int → Int} (hf : BR f) (hh : BR h) (sp dp n : Int) : BR (cpy f h sp dp n) := fun j => by
  by_cases q : dp ≤ j ∧ j < dp + n
  · rw [cpy_in f h q]; exact hf _
  · rw [cpy_out f h q]; exact hh _
theorem BR_up {f : Int → Int} (hf : BR f) (i : Int) {v : Int} (hv : -128 ≤ v ∧ v ≤ 127) : BR (up f i v) := fun j => by
  by_cases q : j = i
  · rw [q, up_same]; exact hv
  · rw [up_ne f v q]; exact hf j
def R32 (f : Int → Int) : Prop := ∀ j, -2147483648 ≤ f j ∧ f j ≤ 2147483647
theorem R32_up {f : Int → Int} (hf : R32 f) (i : Int) {v : Int} (hv : -2147483648 ≤ v ∧ v ≤ 2147483647) : R32 (up f i v) := fun j => by
  by_cases q : j = i
  · rw [q, up_same]; exact hv
  · rw [up_ne f v q]; exact hf j
/-- the first n texts are the other shelf's -/
def CopyTo (n : Int) (L2 ln2 tp2 rd2 L ln tp rd : Int → Int) : Prop := ∀ t, 0 ≤ t → t < n → ln t = ln2 t ∧ tp t = tp2 t ∧ rd t = rd2 t ∧ ∀ k, 0 ≤ k → k < ln2 t → L (600 * t + k) = L2 (600 * t + k)
theorem CopyTo.step {n : Int} {L2 ln2 tp2 rd2 L ln tp rd : Int → Int} (h : CopyTo n L2 ln2 tp2 rd2 L ln tp rd) (hn : 0 ≤ n) (hl : ∀ t, 0 ≤ t → t ≤ n → ln2 t ≤ 600) :
    CopyTo (n + 1) L2 ln2 tp2 rd2 (cpy L2 L (n * 600) (n * 600) (ln2 n)) (up ln n (ln2 n)) (up tp n (tp2 n)) (up rd n (rd2 n)) := by
  intro t h0 h1
  by_cases e : t = n
  · subst e
    refine ⟨up_same _ _ _, up_same _ _ _, up_same _ _ _, fun k k0 k1 => ?_⟩
    rw [cpy_in _ _ (by omega)]
    congr 1
    omega
  · obtain ⟨g1, g2, g3, g4⟩ := h t h0 (by omega)
    refine ⟨by rw [up_ne _ _ e]; exact g1, by rw [up_ne _ _ e]; exact g2, by rw [up_ne _ _ e]; exact g3, fun k k0 k1 => ?_⟩
    have := hl t h0 (by omega)
    rw [cpy_out _ _ (by omega)]
    exact g4 k k0 k1
/-- the texts behind t are numbered less -/
def ShiftTo (t n : Int) (L ln tp rd L' ln' tp' rd' : Int → Int) : Prop := ∀ j, 0 ≤ j → j < n →
  ln' j = ln (if j < t then j else j + 1) ∧ tp' j = tp (if j < t then j else j + 1) ∧ rd' j = rd (if j < t then j else j + 1) ∧ ∀ k, 0 ≤ k → k < ln' j → L' (600 * j + k) = L (600 * (if j < t then j else j + 1) + k)
