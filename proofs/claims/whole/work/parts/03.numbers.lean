/-! ===== numbers: an int is iI z, z a whole number ===== -/
def iI (z : Int) : Int32 := Int32.ofInt z
theorem iI_add (a b : Int) : iI a + iI b = iI (a + b) := (Int32.ofInt_add a b).symm
theorem iI_sub (a b : Int) : iI a - iI b = iI (a - b) := (Int32.ofInt_sub a b).symm
theorem iI_mul (a b : Int) : iI a * iI b = iI (a * b) := (Int32.ofInt_mul a b).symm
theorem iI_self (x : Int32) : iI x.toInt = x := Int32.ofInt_toInt x
theorem iI_rg (x : Int32) : -2147483648 ≤ x.toInt ∧ x.toInt ≤ 2147483647 := by
  have h1 := Int32.le_toInt x
  have h2 := Int32.toInt_lt x
  constructor <;> omega
theorem iI_toInt {z : Int} (h : -2147483648 ≤ z ∧ z ≤ 2147483647) : (iI z).toInt = z := by
  unfold iI
  rw [Int32.toInt_ofInt]
  have e : (Int32.size : Nat) = 4294967296 := rfl
  rw [Int.bmod_eq_of_le] <;> rw [e] <;> omega
theorem iI_lt {a b : Int} (h : (-2147483648 ≤ a ∧ a ≤ 2147483647) ∧ (-2147483648 ≤ b ∧ b ≤ 2147483647)) : iI a < iI b ↔ a < b := by
  rw [Int32.lt_iff_toInt_lt, iI_toInt h.1, iI_toInt h.2]
theorem iI_le {a b : Int} (h : (-2147483648 ≤ a ∧ a ≤ 2147483647) ∧ (-2147483648 ≤ b ∧ b ≤ 2147483647)) : iI a ≤ iI b ↔ a ≤ b := by
  rw [Int32.le_iff_toInt_le, iI_toInt h.1, iI_toInt h.2]
theorem iI_inj {a b : Int} (h : (-2147483648 ≤ a ∧ a ≤ 2147483647) ∧ (-2147483648 ≤ b ∧ b ≤ 2147483647)) : iI a = iI b ↔ a = b := by
  constructor
  · intro e
    have := congrArg Int32.toInt e
    rw [iI_toInt h.1, iI_toInt h.2] at this
    exact this
  · intro e; rw [e]
theorem iI_0 : iI 0 = 0 := rfl
theorem iI_nat (n : Nat) : Int32.ofNat n = iI n := by
  unfold iI
  exact (Int32.ofInt_eq_ofNat).symm
theorem iI_clamp {z : Int} (h : 0 ≤ z ∧ z ≤ 2147483647) : (iI z).toNatClampNeg = z.toNat := by
  unfold Int32.toNatClampNeg
  rw [iI_toInt (by omega)]
theorem iI_in {z : Int} {n : Nat} (h : 0 ≤ z ∧ z < n ∧ z ≤ 2147483647) : vp_in (iI z) n := by
  rw [vp_in_iff, iI_toInt (by omega)]
  omega
def aI (g : Int → Int) : Nat → Int32 := fun j => iI (g j)
theorem aI_at (g : Int → Int) {z : Int} (h : 0 ≤ z ∧ z ≤ 2147483647) : aI g (iI z).toNatClampNeg = iI (g z) := by
  rw [iI_clamp h]
  unfold aI
  rw [Int.toNat_of_nonneg h.1]
def up (g : Int → Int) (i v : Int) : Int → Int := fun j => if j = i then v else g j
theorem up_same (g : Int → Int) (i v : Int) : up g i v i = v := by simp [up]
theorem up_ne (g : Int → Int) {i j : Int} (v : Int) (h : j ≠ i) : up g i v j = g j := by simp [up, h]
theorem aI_up (g : Int → Int) {z : Int} (v : Int) (h : 0 ≤ z ∧ z ≤ 2147483647) : upd (aI g) (iI z).toNatClampNeg (iI v) = aI (up g z v) := by
  rw [iI_clamp h]
  funext j
  by_cases e : j = z.toNat
  · subst e
    rw [pk_us]
    unfold aI up
    rw [Int.toNat_of_nonneg h.1, if_pos rfl]
  · rw [pk_un e]
    unfold aI up
    rw [if_neg (by omega)]
theorem iI_byte {v : Int} (h : -128 ≤ v ∧ v ≤ 127) : vp_nar .byte (iI v) = iI v := by
  rw [vp_nar_byte]
  have e : (iI v).toInt8.toInt32.toInt = v := by
    rw [Int8.toInt_toInt32, Int32.toInt_toInt8, iI_toInt (by omega)]
    rw [Int.bmod_eq_of_le] <;> omega
  rw [← iI_self (iI v).toInt8.toInt32, e]
def andI (a b : Int) : Int := (iI a &&& iI b).toInt
def orI (a b : Int) : Int := (iI a ||| iI b).toInt
def xorI (a b : Int) : Int := (iI a ^^^ iI b).toInt
def shlI (a b : Int) : Int := (iI a <<< (iI b &&& 31)).toInt
def shrI (a b : Int) : Int := (iI a >>> (iI b &&& 31)).toInt
def ushrI (a b : Int) : Int := ((iI a).toUInt32 >>> ((iI b).toUInt32 &&& Int32.toUInt32 31)).toInt32.toInt
def byI (a : Int) : Int := (iI a).toInt8.toInt32.toInt
def mulI (a b : Int) : Int := (iI a * iI b).toInt
theorem mulI_eq (a b : Int) : iI (a * b) = iI (mulI a b) := by
  unfold mulI
  rw [iI_self, iI_mul]
theorem iI_divI {a b : Int} (h : (0 ≤ a ∧ a ≤ 2147483647) ∧ (0 < b ∧ b ≤ 2147483647)) : iI a / iI b = iI (a / b) := by
  have e : (iI a / iI b).toInt = a / b := by
    rw [Int32.toInt_div, iI_toInt (by omega), iI_toInt (by omega), Int.tdiv_eq_ediv_of_nonneg h.1.1]
    have h1 : a / b ≤ a := Int.ediv_le_self _ h.1.1
    have h2 : 0 ≤ a / b := Int.ediv_nonneg h.1.1 (by omega)
    rw [Int.bmod_eq_of_le] <;> omega
  rw [← iI_self (iI a / iI b), e]
theorem iI_remI {a b : Int} (h : (0 ≤ a ∧ a ≤ 2147483647) ∧ (0 < b ∧ b ≤ 2147483647)) : iI a - iI a / iI b * iI b = iI (a % b) := by
  rw [iI_divI h, iI_mul, iI_sub]
  congr 1
  have := Int.emod_def a b
  rw [Int.mul_comm] at this
  exact this.symm
