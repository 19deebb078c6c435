/-! ===== pure: words, the rows of TOKENS ===== -/
theorem tx_iff {B : Int → Int} {n p e : Int} : isTx B n p e ↔ e - p = 4 ∧ ∀ k, 0 ≤ k → k < ((sLen 0 : Nat) : Int) → bA B n (p + k) = sByt 0 k := by
  have e0 : sByt 0 0 = 116 := by decide
  have e1 : sByt 0 1 = 101 := by decide
  have e2 : sByt 0 2 = 120 := by decide
  have e3 : sByt 0 3 = 116 := by decide
  constructor
  · rintro ⟨h, h0, h1, h2, h3⟩
    refine ⟨h, fun k a b => ?_⟩
    have b' : k < ((4 : Nat) : Int) := b
    have hk : k = 0 ∨ k = 1 ∨ k = 2 ∨ k = 3 := by omega
    rcases hk with rfl | rfl | rfl | rfl
    · rw [Int.add_zero, e0]; exact h0
    · rw [e1]; exact h1
    · rw [e2]; exact h2
    · rw [e3]; exact h3
  · rintro ⟨h, q⟩
    have q0 := q 0 (by decide) (by decide)
    have q1 := q 1 (by decide) (by decide)
    have q2 := q 2 (by decide) (by decide)
    have q3 := q 3 (by decide) (by decide)
    rw [Int.add_zero, e0] at q0
    rw [e1] at q1
    rw [e2] at q2
    rw [e3] at q3
    exact ⟨h, q0, q1, q2, q3⟩
theorem pt_iff {B : Int → Int} {n p e : Int} : isPt B n p e ↔ e - p = 3 ∧ ∀ k, 0 ≤ k → k < ((sLen 1 : Nat) : Int) → bA B n (p + k) = sByt 1 k := by
  have e0 : sByt 1 0 = 112 := by decide
  have e1 : sByt 1 1 = 117 := by decide
  have e2 : sByt 1 2 = 116 := by decide
  constructor
  · rintro ⟨h, h0, h1, h2⟩
    refine ⟨h, fun k a b => ?_⟩
    have b' : k < ((3 : Nat) : Int) := b
    have hk : k = 0 ∨ k = 1 ∨ k = 2 := by omega
    rcases hk with rfl | rfl | rfl
    · rw [Int.add_zero, e0]; exact h0
    · rw [e1]; exact h1
    · rw [e2]; exact h2
  · rintro ⟨h, q⟩
    have q0 := q 0 (by decide) (by decide)
    have q1 := q 1 (by decide) (by decide)
    have q2 := q 2 (by decide) (by decide)
    rw [Int.add_zero, e0] at q0
    rw [e1] at q1
    rw [e2] at q2
    exact ⟨h, q0, q1, q2⟩
theorem sL0 : ((sLen 0 : Nat) : Int) = 4 := rfl
theorem sL1 : ((sLen 1 : Nat) : Int) = 3 := rfl
theorem smB_iff {c : Int} : smB c = true ↔ 97 ≤ c ∧ c ≤ 122 := by unfold smB; rw [decide_eq_true_eq]
theorem dgB_iff {c : Int} : dgB c = true ↔ 48 ≤ c ∧ c ≤ 57 := by unfold dgB; rw [decide_eq_true_eq]
theorem blB_iff {c : Int} : blB c = true ↔ c = 32 ∨ c = 10 := by unfold blB; rw [decide_eq_true_eq]
theorem smB_no {c : Int} (h : ¬ (97 ≤ c ∧ c ≤ 122)) : smB c = false := bF (fun z => h (smB_iff.mp z))
theorem dgB_no {c : Int} (h : ¬ (48 ≤ c ∧ c ≤ 57)) : dgB c = false := bF (fun z => h (dgB_iff.mp z))
theorem blB_no {c : Int} (h : ¬ (c = 32 ∨ c = 10)) : blB c = false := bF (fun z => h (blB_iff.mp z))
/-- the rows of the first m TOKENS -/
def TkArr (B : Int → Int) (n : Int) (kk kp kn : Int → Int) (m : Int) : Prop := ∀ k : Nat, (k : Int) < m → kk k = tkK B n k ∧ kp k = tkB B n k ∧ kn k = tkV B n k
theorem TkArr.push {B : Int → Int} {n : Int} {kk kp kn : Int → Int} {m a b c : Int} (h : TkArr B n kk kp kn m) (hm : 0 ≤ m) (e1 : a = tkK B n m.toNat) (e2 : b = tkB B n m.toNat) (e3 : c = tkV B n m.toNat) : TkArr B n (up kk m a) (up kp m b) (up kn m c) (m + 1) := by
  intro k hk
  by_cases z : (k : Int) = m
  · rw [z, up_same, up_same, up_same]
    have : m.toNat = k := by omega
    rw [this] at e1 e2 e3
    exact ⟨e1, e2, e3⟩
  · rw [up_ne _ _ z, up_ne _ _ z, up_ne _ _ z]
    exact h k (by omega)
theorem sq_next {B : Int → Int} {n b : Int} {m : Int} (hm : 0 ≤ m) (h : skp B n (sq B n m.toNat) = b) : sq B n (m + 1).toNat = tE B n b := by
  rw [show (m + 1).toNat = m.toNat + 1 by omega, sq, h]
theorem tk_here {B : Int → Int} {n b : Int} {m : Nat} (h : skp B n (sq B n m) = b) (hb : b < n) : tK B n b = tkK B n m ∧ b = tkB B n m ∧ tV B n b = tkV B n m := by
  unfold tkK tkB tkV
  rw [h]
  exact ⟨rfl, by omega, rfl⟩
theorem tk_end {B : Int → Int} {n b : Int} {m : Nat} (h : skp B n (sq B n m) = b) (hb : n ≤ b) : 0 = tkK B n m ∧ n = tkB B n m ∧ 0 = tkV B n m := by
  unfold tkK tkB tkV
  rw [h, (t_end hb).2.1, (t_end hb).2.2]
  exact ⟨rfl, by omega, rfl⟩
theorem sm_step {B : Int → Int} {n i : Int} (h : i < n) (q : 97 ≤ B i ∧ B i ≤ 122) : smE B n i = smE B n (i + 1) := fwd_yes h (smB_iff.mpr q)
theorem sm_stop {B : Int → Int} {n i : Int} (h : n ≤ i ∨ ¬ (97 ≤ B i ∧ B i ≤ 122)) : smE B n i = i := by
  rcases h with h | h
  · exact fwd_stop h
  · exact fwd_no (smB_no h)
theorem dg_step {B : Int → Int} {n i : Int} (h : i < n) (q : 48 ≤ B i ∧ B i ≤ 57) : dgE B n i = dgE B n (i + 1) := fwd_yes h (dgB_iff.mpr q)
theorem dg_stop {B : Int → Int} {n i : Int} (h : n ≤ i ∨ ¬ (48 ≤ B i ∧ B i ≤ 57)) : dgE B n i = i := by
  rcases h with h | h
  · exact fwd_stop h
  · exact fwd_no (dgB_no h)
theorem bl_step {B : Int → Int} {n i : Int} (h : i < n) (q : B i = 32 ∨ B i = 10) : skp B n i = skp B n (i + 1) := fwd_yes h (blB_iff.mpr q)
theorem bl_stop {B : Int → Int} {n i : Int} (h : n ≤ i ∨ ¬ (B i = 32 ∨ B i = 10)) : skp B n i = i := by
  rcases h with h | h
  · exact fwd_stop h
  · exact fwd_no (blB_no h)
theorem dcN_next {B : Int → Int} {p i : Int} (h : p ≤ i) : dcN B p (i + 1 - p).toNat = dcN B p (i - p).toNat % 1000 * 10 + B i - 48 := by
  rw [show (i + 1 - p).toNat = (i - p).toNat + 1 by omega, dcN, show p + (((i - p).toNat : Nat) : Int) = i by omega]
def wTok (g : Gm) (k : Nat → Nat) (tpa : Nat) (kk : Int → Int) (kp : Int → Int) (kn : Int → Int) (sz : Int) (kc : Int) (fg : Int) (ps : Int) : va_W := [ob (k 0) 6 [.ref tpa, .ref (k 1), .ref (k 2), .ref (k 3), .int (iI sz), .int (iI kc), .int (iI fg), .int (iI ps)], ia g (k 1) 901 kk, ia g (k 2) 901 kp, ia g (k 3) 901 kn]
