/-! ===== pure: the TOKENS of a BOOK ===== -/
def fwdN (P : Int → Bool) : Nat → Int → Int
  | 0, p => p
  | m + 1, p => if P p = true then fwdN P m (p + 1) else p
def fwd (P : Int → Bool) (n p : Int) : Int := fwdN P (n - p).toNat p
theorem fwd_stop {P : Int → Bool} {n p : Int} (h : n ≤ p) : fwd P n p = p := by
  unfold fwd
  rw [show (n - p).toNat = 0 by omega]
  rfl
theorem fwd_yes {P : Int → Bool} {n p : Int} (h : p < n) (q : P p = true) : fwd P n p = fwd P n (p + 1) := by
  unfold fwd
  rw [show (n - p).toNat = (n - (p + 1)).toNat + 1 by omega, fwdN, if_pos q]
theorem fwd_no {P : Int → Bool} {n p : Int} (q : P p = false) : fwd P n p = p := by
  unfold fwd
  cases (n - p).toNat with
  | zero => rfl
  | succ m => rw [fwdN, if_neg (by rw [q]; decide)]
theorem fwdN_rg (P : Int → Bool) : ∀ (m : Nat) (p : Int), p ≤ fwdN P m p ∧ fwdN P m p ≤ p + m
  | 0, p => by rw [fwdN]; omega
  | m + 1, p => by
    rw [fwdN]
    have := fwdN_rg P m (p + 1)
    split <;> omega
theorem fwd_ge (P : Int → Bool) (n p : Int) : p ≤ fwd P n p := (fwdN_rg P _ p).1
theorem fwd_le (P : Int → Bool) {n p : Int} (h : p ≤ n) : fwd P n p ≤ n := by
  have := (fwdN_rg P (n - p).toNat p).2
  unfold fwd
  omega
theorem fwdN_all (P : Int → Bool) : ∀ (m : Nat) (p : Int), (∀ q, p ≤ q → q < fwdN P m p → P q = true) ∧ (fwdN P m p < p + m → P (fwdN P m p) = false)
  | 0, p => by
    rw [fwdN]
    exact ⟨fun q a b => by omega, fun h => by omega⟩
  | m + 1, p => by
    rw [fwdN]
    by_cases h : P p = true
    · rw [if_pos h]
      obtain ⟨h1, h2⟩ := fwdN_all P m (p + 1)
      refine ⟨fun q a b => ?_, fun z => h2 (by omega)⟩
      by_cases e : q = p
      · subst e; exact h
      · exact h1 q (by omega) b
    · rw [if_neg h]
      exact ⟨fun q a b => by omega, fun _ => by simpa using h⟩
theorem fwd_all (P : Int → Bool) (n p : Int) : ∀ q, p ≤ q → q < fwd P n p → P q = true := (fwdN_all P _ p).1
theorem fwd_end (P : Int → Bool) {n p : Int} (hp : p ≤ n) (h : fwd P n p < n) : P (fwd P n p) = false := (fwdN_all P (n - p).toNat p).2 (by unfold fwd at h; omega)
def blB (c : Int) : Bool := decide (c = 32 ∨ c = 10)
def smB (c : Int) : Bool := decide (97 ≤ c ∧ c ≤ 122)
def dgB (c : Int) : Bool := decide (48 ≤ c ∧ c ≤ 57)
abbrev isSg (c : Int) : Prop := c = 43 ∨ c = 42 ∨ c = 91 ∨ c = 44 ∨ c = 93 ∨ c = 40 ∨ c = 41 ∨ c = 126 ∨ c = 35 ∨ c = 59 ∨ c = 61
/-- the byte at a place, -1 where there is none -/
def bA (B : Int → Int) (n q : Int) : Int := if 0 ≤ q ∧ q < n then B q else -1
theorem bA_in {B : Int → Int} {n q : Int} (h : 0 ≤ q ∧ q < n) : bA B n q = B q := by unfold bA; rw [if_pos h]
theorem bA_no {B : Int → Int} {n q : Int} (h : ¬ (0 ≤ q ∧ q < n)) : bA B n q = -1 := by unfold bA; rw [if_neg h]
theorem bA_rg {B : Int → Int} (hB : BR B) (n q : Int) : -128 ≤ bA B n q ∧ bA B n q ≤ 127 := by
  unfold bA
  split
  · exact hB q
  · omega
def skp (B : Int → Int) (n p : Int) : Int := fwd (fun q => blB (B q)) n p
def smE (B : Int → Int) (n p : Int) : Int := fwd (fun q => smB (B q)) n p
def dgE (B : Int → Int) (n p : Int) : Int := fwd (fun q => dgB (B q)) n p
/-- so many digits as a number; of more than four the last ones alone matter to no one -/
def dcN (B : Int → Int) (p : Int) : Nat → Int
  | 0 => 0
  | m + 1 => dcN B p m % 1000 * 10 + B (p + m) - 48
abbrev isTx (B : Int → Int) (n b e : Int) : Prop := e - b = 4 ∧ bA B n b = 116 ∧ bA B n (b + 1) = 101 ∧ bA B n (b + 2) = 120 ∧ bA B n (b + 3) = 116
abbrev isPt (B : Int → Int) (n b e : Int) : Prop := e - b = 3 ∧ bA B n b = 112 ∧ bA B n (b + 1) = 117 ∧ bA B n (b + 2) = 116
/-- the end of the TOKEN that begins at b -/
def tE (B : Int → Int) (n b : Int) : Int := if n ≤ b then n else if smB (B b) = true then smE B n b else if dgB (B b) = true then dgE B n b else if B b = 34 then smE B n (b + 1) + 1 else b + 1
def tK (B : Int → Int) (n b : Int) : Int := if n ≤ b then 0 else if smB (B b) = true then (if isTx B n b (smE B n b) then 3 else if isPt B n b (smE B n b) then 4 else 2) else if dgB (B b) = true then (if dgE B n b - b ≤ 4 then 5 else 1) else if B b = 34 then (if 0 < smE B n (b + 1) - b - 1 ∧ bA B n (smE B n (b + 1)) = 34 then 6 else 1) else if isSg (B b) then B b else 1
def tV (B : Int → Int) (n b : Int) : Int := if n ≤ b then 0 else if smB (B b) = true then 0 else if dgB (B b) = true then dcN B b (dgE B n b - b).toNat else if B b = 34 then smE B n (b + 1) - b - 1 else 0
/-- where the k-th one is looked for -/
def sq (B : Int → Int) (n : Int) : Nat → Int
  | 0 => 0
  | k + 1 => tE B n (skp B n (sq B n k))
def tkB (B : Int → Int) (n : Int) (k : Nat) : Int := min n (skp B n (sq B n k))
def tkK (B : Int → Int) (n : Int) (k : Nat) : Int := tK B n (skp B n (sq B n k))
def tkV (B : Int → Int) (n : Int) (k : Nat) : Int := tV B n (skp B n (sq B n k))
theorem smE_gt {B : Int → Int} {n b : Int} (h : b < n) (q : smB (B b) = true) : b + 1 ≤ smE B n b := by
  unfold smE
  rw [fwd_yes h q]
  exact fwd_ge _ _ _
theorem dgE_gt {B : Int → Int} {n b : Int} (h : b < n) (q : dgB (B b) = true) : b + 1 ≤ dgE B n b := by
  unfold dgE
  rw [fwd_yes h q]
  exact fwd_ge _ _ _
theorem t_sm {B : Int → Int} {n b : Int} (h : b < n) (z : smB (B b) = true) : tE B n b = smE B n b ∧ tK B n b = (if isTx B n b (smE B n b) then 3 else if isPt B n b (smE B n b) then 4 else 2) ∧ tV B n b = 0 := by
  unfold tE tK tV
  rw [if_neg (show ¬ n ≤ b by omega), if_neg (show ¬ n ≤ b by omega), if_neg (show ¬ n ≤ b by omega), if_pos z, if_pos z, if_pos z]
  exact ⟨rfl, rfl, rfl⟩
theorem t_dg {B : Int → Int} {n b : Int} (h : b < n) (z : smB (B b) = false) (z2 : dgB (B b) = true) : tE B n b = dgE B n b ∧ tK B n b = (if dgE B n b - b ≤ 4 then 5 else 1) ∧ tV B n b = dcN B b (dgE B n b - b).toNat := by
  unfold tE tK tV
  rw [if_neg (show ¬ n ≤ b by omega), if_neg (show ¬ n ≤ b by omega), if_neg (show ¬ n ≤ b by omega), if_neg (show ¬ smB (B b) = true by rw [z]; decide), if_neg (show ¬ smB (B b) = true by rw [z]; decide), if_neg (show ¬ smB (B b) = true by rw [z]; decide), if_pos z2, if_pos z2, if_pos z2]
  exact ⟨rfl, rfl, rfl⟩
theorem t_qt {B : Int → Int} {n b : Int} (h : b < n) (z3 : B b = 34) : tE B n b = smE B n (b + 1) + 1 ∧ tK B n b = (if 0 < smE B n (b + 1) - b - 1 ∧ bA B n (smE B n (b + 1)) = 34 then 6 else 1) ∧ tV B n b = smE B n (b + 1) - b - 1 := by
  have z : ¬ smB (B b) = true := by rw [z3]; decide
  have z2 : ¬ dgB (B b) = true := by rw [z3]; decide
  unfold tE tK tV
  rw [if_neg (show ¬ n ≤ b by omega), if_neg (show ¬ n ≤ b by omega), if_neg (show ¬ n ≤ b by omega), if_neg z, if_neg z, if_neg z, if_neg z2, if_neg z2, if_neg z2, if_pos z3, if_pos z3, if_pos z3]
  exact ⟨rfl, rfl, rfl⟩
theorem t_sg {B : Int → Int} {n b : Int} (h : b < n) (z : smB (B b) = false) (z2 : dgB (B b) = false) (z3 : B b ≠ 34) : tE B n b = b + 1 ∧ tK B n b = (if isSg (B b) then B b else 1) ∧ tV B n b = 0 := by
  have z' : ¬ smB (B b) = true := by rw [z]; decide
  have z2' : ¬ dgB (B b) = true := by rw [z2]; decide
  unfold tE tK tV
  rw [if_neg (show ¬ n ≤ b by omega), if_neg (show ¬ n ≤ b by omega), if_neg (show ¬ n ≤ b by omega), if_neg z', if_neg z', if_neg z', if_neg z2', if_neg z2', if_neg z2', if_neg z3, if_neg z3, if_neg z3]
  exact ⟨rfl, rfl, rfl⟩
theorem t_end {B : Int → Int} {n b : Int} (h : n ≤ b) : tE B n b = n ∧ tK B n b = 0 ∧ tV B n b = 0 := by
  unfold tE tK tV
  rw [if_pos h, if_pos h, if_pos h]
  exact ⟨rfl, rfl, rfl⟩
theorem bF {b : Bool} (h : ¬ b = true) : b = false := by cases b <;> simp_all
theorem tE_gt {B : Int → Int} {n b : Int} (h : b < n) : b + 1 ≤ tE B n b := by
  by_cases z1 : smB (B b) = true
  · rw [(t_sm h z1).1]; exact smE_gt h z1
  · by_cases z2 : dgB (B b) = true
    · rw [(t_dg h (bF z1) z2).1]; exact dgE_gt h z2
    · by_cases z3 : B b = 34
      · rw [(t_qt h z3).1]
        have : b + 1 ≤ smE B n (b + 1) := fwd_ge _ _ _
        omega
      · rw [(t_sg h (bF z1) (bF z2) z3).1]; omega
theorem tE_le {B : Int → Int} {n b : Int} (h : b < n) : tE B n b ≤ n + 1 ∧ (tK B n b ≠ 1 → tE B n b ≤ n) := by
  have h1 : smE B n b ≤ n := fwd_le _ (by omega)
  have h2 : dgE B n b ≤ n := fwd_le _ (by omega)
  have h3 : smE B n (b + 1) ≤ n := fwd_le _ (by omega)
  by_cases z1 : smB (B b) = true
  · rw [(t_sm h z1).1]; exact ⟨by omega, fun _ => by omega⟩
  · by_cases z2 : dgB (B b) = true
    · rw [(t_dg h (bF z1) z2).1]; exact ⟨by omega, fun _ => by omega⟩
    · by_cases z3 : B b = 34
      · rw [(t_qt h z3).1, (t_qt h z3).2.1]
        refine ⟨by omega, fun z => ?_⟩
        by_cases z4 : 0 < smE B n (b + 1) - b - 1 ∧ bA B n (smE B n (b + 1)) = 34
        · have : smE B n (b + 1) < n := by
            apply Decidable.byContradiction
            intro q
            have := z4.2
            rw [bA_no (by omega)] at this
            omega
          omega
        · rw [if_neg z4] at z; exact absurd rfl z
      · rw [(t_sg h (bF z1) (bF z2) z3).1]; exact ⟨by omega, fun _ => by omega⟩
theorem tK_0 {B : Int → Int} {n b : Int} : tK B n b = 0 ↔ n ≤ b := by
  refine ⟨fun z => ?_, fun z => (t_end z).2.1⟩
  apply Decidable.byContradiction
  intro h
  have h : b < n := by omega
  by_cases z1 : smB (B b) = true
  · rw [(t_sm h z1).2.1] at z; split at z <;> (try split at z) <;> omega
  · by_cases z2 : dgB (B b) = true
    · rw [(t_dg h (bF z1) z2).2.1] at z; split at z <;> omega
    · by_cases z3 : B b = 34
      · rw [(t_qt h z3).2.1] at z; split at z <;> omega
      · rw [(t_sg h (bF z1) (bF z2) z3).2.1] at z; split at z <;> omega
theorem dcN_rg {B : Int → Int} {p : Int} : ∀ m : Nat, (∀ q, p ≤ q → q < p + m → dgB (B q) = true) → 0 ≤ dcN B p m ∧ dcN B p m ≤ 9999
  | 0, _ => by rw [dcN]; omega
  | m + 1, h => by
    have h1 := dcN_rg m (fun q a b => h q a (by omega))
    have h2 := h (p + m) (by omega) (by omega)
    unfold dgB at h2
    rw [decide_eq_true_eq] at h2
    rw [dcN]
    omega
