/-! ===== the model's texts ===== -/
def mF (al : Int → Int) : Int → Int → Int := fun t k => al (9 + 600 * t + k)
def mN (al : Int → Int) : Int → Int := fun t => al (1 + t)
def TOk (F : Int → Int → Int) (N : Int → Int) (c : Int) : Prop := (0 ≤ c ∧ c ≤ 8) ∧ ∀ t, 0 ≤ t → t < c → (1 ≤ N t ∧ N t ≤ 600) ∧ ∀ k, 0 ≤ k → k < N t → 0 ≤ F t k ∧ F t k ≤ 25
abbrev MTx (al : Int → Int) : Prop := TOk (mF al) (mN al) (al 0)
theorem TOk.ln {F : Int → Int → Int} {N : Int → Int} {c : Int} (h : TOk F N c) : ∀ j, 0 ≤ j → j < c → 0 ≤ N j ∧ N j ≤ 600 := fun j a b => by have := (h.2 j a b).1; omega
theorem TOk.nn {F : Int → Int → Int} {N : Int → Int} {c : Int} (h : TOk F N c) {t : Int} (ht : 0 ≤ t ∧ t < c) : ∀ k, 0 ≤ k → k < N t → 0 ≤ F t k := fun k a b => ((h.2 t ht.1 ht.2).2 k a b).1
theorem lcp0 {f h : Int → Int} {n m r : Int} (l : LcpIs (fun k => f (0 + k)) (fun k => h (0 + k)) (min (n - 0) (m - 0)) r) : LcpIs f h (min n m) r := by
  have e1 : (fun k => f (0 + k)) = f := by funext k; rw [Int.zero_add]
  have e2 : (fun k => h (0 + k)) = h := by funext k; rw [Int.zero_add]
  rw [e1, e2, Int.sub_zero, Int.sub_zero] at l
  exact l
theorem lcp_same {f h : Int → Int} {n m r : Int} (hf : ∀ k, 0 ≤ k → k < n → 0 ≤ f k) (hh : ∀ k, 0 ≤ k → k < m → 0 ≤ h k) (l : LcpIs f h (min n m) r) :
    (cmpT f n h m = 0 ↔ n = m ∧ r = n) ∧ (cmpT f n h m < 0 ↔ ((r = n ∧ r < m) ∨ (r ≠ n ∧ r < m ∧ f r < h r))) := by
  have e := l.eq
  obtain ⟨l1, l2, -, l4⟩ := l
  unfold cmpT
  rw [← e, cmpI_0, cmpI_lt]
  by_cases a : r < n
  · have ha := hf r l1 a
    by_cases b : r < m
    · have hb := hh r l1 b
      rw [if_pos a, if_pos b]
      omega
    · rw [if_pos a, if_neg b]
      omega
  · by_cases b : r < m
    · have hb := hh r l1 b
      rw [if_neg a, if_pos b]
      omega
    · rw [if_neg a, if_neg b]
      omega
theorem wp_cases (N : Int → Int) (c t : Int) {p : Int} (hp : 0 ≤ p) : (¬ HasT c t ∧ wpF N c t p 1 = 2) ∨ (HasT c t ∧ p ≤ N t ∧ wpF N c t p 1 = 0) ∨ (HasT c t ∧ N t < p ∧ wpF N c t p 1 = 5) := by
  unfold wpF HasT
  rw [if_neg (by omega)]
  by_cases a : 0 ≤ t ∧ t < c
  · rw [if_neg (fun z => z a)]
    by_cases b : p ≤ N t
    · rw [if_pos (by omega)]; exact Or.inr (Or.inl ⟨a, b, rfl⟩)
    · rw [if_neg (by omega)]; exact Or.inr (Or.inr ⟨a, by omega, rfl⟩)
  · rw [if_pos a]; exact Or.inl ⟨a, rfl⟩
theorem lw1 {N : Int → Int} {c t p u q : Int} (h : p < 0 ∨ q < 0) : 1 = lwF (wpF N c t p 1) (wpF N c u q 1) := by
  have a := wpF_rg N c t p 1
  have b := wpF_rg N c u q 1
  have z : wpF N c t p 1 = 1 ∨ wpF N c u q 1 = 1 := by
    rcases h with z | z
    · left; unfold wpF; rw [if_pos z]
    · right; unfold wpF; rw [if_pos z]
  unfold lwF
  split <;> omega
theorem lw2 {N : Int → Int} {c t p u q : Int} (hp : 0 ≤ p) (hq : 0 ≤ q) (h : ¬ (HasT c t ∧ HasT c u)) : 2 = lwF (wpF N c t p 1) (wpF N c u q 1) := by
  rcases wp_cases N c t hp with a | a | a <;> rcases wp_cases N c u hq with b | b | b
  · rw [a.2, b.2]; decide
  · rw [a.2, b.2.2]; decide
  · rw [a.2, b.2.2]; decide
  · rw [a.2.2, b.2]; decide
  · exact absurd ⟨a.1, b.1⟩ h
  · exact absurd ⟨a.1, b.1⟩ h
  · rw [a.2.2, b.2]; decide
  · exact absurd ⟨a.1, b.1⟩ h
  · exact absurd ⟨a.1, b.1⟩ h
theorem lw5 {N : Int → Int} {c t p u q : Int} (hp : 0 ≤ p) (hq : 0 ≤ q) (h : HasT c t ∧ HasT c u) (z : N t < p ∨ N u < q) : 5 = lwF (wpF N c t p 1) (wpF N c u q 1) := by
  rcases wp_cases N c t hp with a | a | a <;> rcases wp_cases N c u hq with b | b | b
  · exact absurd h.1 a.1
  · exact absurd h.1 a.1
  · exact absurd h.1 a.1
  · exact absurd h.2 b.1
  · omega
  · rw [a.2.2, b.2.2]; decide
  · exact absurd h.2 b.1
  · rw [a.2.2, b.2.2]; decide
  · rw [a.2.2, b.2.2]; decide
theorem lw0 {N : Int → Int} {c t p u q : Int} (hp : 0 ≤ p) (hq : 0 ≤ q) (h : HasT c t ∧ HasT c u) (z : p ≤ N t ∧ q ≤ N u) : 0 = lwF (wpF N c t p 1) (wpF N c u q 1) := by
  rcases wp_cases N c t hp with a | a | a <;> rcases wp_cases N c u hq with b | b | b
  · exact absurd h.1 a.1
  · exact absurd h.1 a.1
  · exact absurd h.1 a.1
  · exact absurd h.2 b.1
  · rw [a.2.2, b.2.2]; decide
  · omega
  · exact absurd h.2 b.1
  · omega
  · omega
theorem aheadF_yes {F : Int → Int → Int} {N : Int → Int} {i t : Int} (h : 0 ≤ i) (q : cmpT (F i) (N i) (F t) (N t) < 0 ∨ cmpT (F i) (N i) (F t) (N t) = 0 ∧ i < t) : aheadF F N (i + 1) t = aheadF F N i t + 1 := by
  unfold aheadF; rw [sumF_succ _ h, if_pos q]
theorem aheadF_no {F : Int → Int → Int} {N : Int → Int} {i t : Int} (h : 0 ≤ i) (q : ¬ (cmpT (F i) (N i) (F t) (N t) < 0 ∨ cmpT (F i) (N i) (F t) (N t) = 0 ∧ i < t)) : aheadF F N (i + 1) t = aheadF F N i t := by
  unfold aheadF; rw [sumF_succ _ h, if_neg q]; omega
theorem aheadF_bd (F : Int → Int → Int) (N : Int → Int) {n : Int} (t : Int) (h : 0 ≤ n) : 0 ≤ aheadF F N n t ∧ aheadF F N n t ≤ n := by
  have := sumF_bd (f := fun u => if cmpT (F u) (N u) (F t) (N t) < 0 ∨ cmpT (F u) (N u) (F t) (N t) = 0 ∧ u < t then 1 else 0) (m := 1) (by omega) n.toNat (fun j _ _ => by split <;> omega)
  unfold aheadF sumF
  omega
theorem Mch_lcp {f h : Int → Int} {n N k r : Int} (hk : 0 ≤ k ∧ k + n ≤ N) (l : LcpIs (fun j => h (k + j)) (fun j => f (0 + j)) (min (N - k) (n - 0)) r) : Mch f n h k ↔ r = n := by
  obtain ⟨l1, l2, l3, l4⟩ := l
  constructor
  · intro q
    rcases l4 with l4 | l4
    · omega
    · by_cases z : r < n
      · exact absurd (by have := q r l1 z; simp only [Int.zero_add]; exact this.symm) l4
      · omega
  · intro q j j0 j1
    have := l3 j j0 (by omega)
    simp only [Int.zero_add] at this
    exact this.symm
theorem fnd_skip {f : Int → Int} {n : Int} {h : Int → Int} (hn : 0 ≤ n) {a : Int} (ha : 0 ≤ a) : ∀ m : Nat, (∀ j, a ≤ j → j < a + m → ¬ Mch f n h j) → fndCnt f n h (a + m) = fndCnt f n h a
  | 0, _ => by simp
  | m + 1, q => by
    rw [show a + ((m + 1 : Nat) : Int) = (a + m) + 1 by omega]
    have e := fnd_skip hn ha m (fun j x y => q j x (by omega))
    unfold fndCnt at e ⊢
    rw [sumF_succ _ (by omega), mtI_no hn (q (a + m) (by omega) (by omega)), e]
    omega
theorem fnd_to {f : Int → Int} {n : Int} {h : Int → Int} (hn : 0 ≤ n) {a b : Int} (ha : 0 ≤ a ∧ a ≤ b) (q : ∀ j, a ≤ j → j < b → ¬ Mch f n h j) : fndCnt f n h b = fndCnt f n h a := by
  have := fnd_skip (f := f) (h := h) hn ha.1 (b - a).toNat (fun j x y => q j x (by omega))
  rw [show a + ((b - a).toNat : Int) = b by omega] at this
  exact this
theorem fnd_one {f : Int → Int} {n : Int} {h : Int → Int} (hn : 0 ≤ n) {a : Int} (ha : 0 ≤ a) (q : Mch f n h a) : fndCnt f n h (a + 1) = fndCnt f n h a + 1 := by
  unfold fndCnt
  rw [sumF_succ _ ha, mtI_yes hn q]
/-- how far the search for all places has come -/
def FdS (f : Int → Int) (n : Int) (h : Int → Int) (N k c : Int) : Prop := (k = -1 ∧ c = fndCnt f n h (N - n + 1)) ∨ (0 ≤ k ∧ k + n ≤ N ∧ Mch f n h k ∧ c = fndCnt f n h k)
theorem FdS.start {f : Int → Int} {n : Int} {h : Int → Int} {N k : Int} (hn : 0 ≤ n) (q : FindIs f n h N 0 k) : FdS f n h N k 0 := by
  rcases q with ⟨e, q⟩ | ⟨a1, a2, a3, a4⟩
  · left
    refine ⟨e, ?_⟩
    by_cases z : N - n + 1 ≤ 0
    · rw [fndCnt_neg _ _ _ z]
    · rw [fnd_to (a := 0) hn (by omega) (fun j x y => q j x (by omega)), fndCnt_neg _ _ _ (by omega)]
  · right
    exact ⟨a1, a2, a3, by rw [fnd_to (a := 0) hn (by omega) (fun j x y => a4 j x y), fndCnt_neg _ _ _ (by omega)]⟩
theorem FdS.step {f : Int → Int} {n : Int} {h : Int → Int} {N k k2 c : Int} (hn : 0 ≤ n) (s : FdS f n h N k c) (hk : k ≠ -1) (q : FindIs f n h N (k + 1) k2) : FdS f n h N k2 (c + 1) := by
  rcases s with s | ⟨s1, s2, s3, s4⟩
  · exact absurd s.1 hk
  · have e := fnd_one hn s1 s3
    rcases q with ⟨e2, q⟩ | ⟨a1, a2, a3, a4⟩
    · left
      exact ⟨e2, by rw [fnd_to (a := k + 1) hn (by omega) (fun j x y => q j x (by omega)), e, s4]⟩
    · right
      exact ⟨by omega, a2, a3, by rw [fnd_to (a := k + 1) hn (by omega) (fun j x y => a4 j x y), e, s4]⟩
def unlN (f : Int → Int) (n c : Int) : Int := sumF (fun c => if 0 < cntF f c n then 1 else 0) c
theorem unlN_yes {f : Int → Int} {n c : Int} (h : 0 ≤ c) (q : 0 < cntF f c n) : unlN f n (c + 1) = unlN f n c + 1 := by
  unfold unlN; rw [sumF_succ _ h, if_pos q]
theorem unlN_no {f : Int → Int} {n c : Int} (h : 0 ≤ c) (q : ¬ 0 < cntF f c n) : unlN f n (c + 1) = unlN f n c := by
  unfold unlN; rw [sumF_succ _ h, if_neg q]; omega
/-- is p a period as far as k -/
def PeU (f : Int → Int) (n p k b : Int) : Prop := (b = 1 ∧ ∀ j, 0 ≤ j → j < k → f j = f (j + p)) ∨ (b = 0 ∧ ∃ j, 0 ≤ j ∧ j + p < n ∧ f j ≠ f (j + p))
def wMo (g : Gm) (mo : Nat → Nat) (mst : Int) (mac : Int) (mmk : Int) (mr : Int) (mrd : Int) (mrm : Int) (mcm : Int) (mtp : Int) (msz : Int) (mtk : Int) (mbg : Int) (men : Int) (mls : Int) (mvl : Int) (mft : Int) (mfp : Int) (mfk : Int) (mdp : Int) (mto : Int) : va_W := [ob (mo 0) 9 [.ref (mo 1), .ref (mo 2), .int (iI mst), .int (iI mac), .int (iI mmk), .ref (mo 3), .ref (mo 4), .ref (mo 5), .ref (mo 6), .ref (mo 7), .ref (mo 8), .ref (mo 9), .int (iI mr), .int (iI mrd), .ref (mo 10), .int (iI mrm), .ref (mo 11), .ref (mo 12), .ref (mo 13), .ref (mo 14), .ref (mo 15), .ref (mo 16), .int (iI mcm), .ref (mo 17), .ref (mo 18), .int (iI mtp), .int (iI msz), .int (iI mtk), .int (iI mbg), .int (iI men), .int (iI mls), .int (iI mvl), .int (iI mft), .int (iI mfp), .int (iI mfk), .int (iI mdp), .ref (mo 19), .int (iI mto)]]
def wMAll (g : Gm) (mo : Nat → Nat) (al : Int → Int) : va_W := [ia g (mo 1) 62517 al]
def wMNew (g : Gm) (mo : Nat → Nat) (nf : Int → Int) : va_W := [ia g (mo 2) 8 nf]
def wMTab (g : Gm) (mo : Nat → Nat) (kd : Int → Int) (on : Int → Int) (tw : Int → Int) (sg : Int → Int) (le : Int → Int) (de : Int → Int) (so : Int → Int) : va_W := [ia g (mo 3) 10400 kd, ia g (mo 4) 10400 on, ia g (mo 5) 10400 tw, ia g (mo 6) 10400 sg, ia g (mo 7) 10400 le, ia g (mo 8) 10400 de, ia g (mo 9) 32768 so]
def wMRow (g : Gm) (mo : Nat → Nat) (ro : Int → Int) : va_W := [ia g (mo 10) 600 ro]
def wMCom (g : Gm) (mo : Nat → Nat) (cm : Int → Int) : va_W := [ia g (mo 11) 1300 cm]
def wMNum (g : Gm) (mo : Nat → Nat) (nu : Int → Int) (fa : Int → Int) (oft : Int → Int) : va_W := [ia g (mo 12) 10400 nu, ia g (mo 13) 10400 fa, ia g (mo 14) 10400 oft]
def wMHea (g : Gm) (mo : Nat → Nat) (hp : Int → Int) (ha : Int → Int) : va_W := [ia g (mo 15) 2600 hp, ia g (mo 16) 2600 ha]
def wMTap (g : Gm) (mo : Nat → Nat) (tp : Int → Int) : va_W := [ba g (mo 17) 900 tp]
def wMTxt (g : Gm) (mo : Nat → Nat) (tt : Int → Int) : va_W := [ba g (mo 18) 900 tt]
def wMPil (g : Gm) (mo : Nat → Nat) (pl : Int → Int) : va_W := [ia g (mo 19) 14000 pl]
