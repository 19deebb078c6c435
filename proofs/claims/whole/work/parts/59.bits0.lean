/-! ===== pure: how many bits ===== -/
theorem iI_nI (n : Nat) : iI n = nI n := (iI_nat n).symm
theorem andN {a b : Nat} (ha : a < 2 ^ 31) (hb : b < 2 ^ 31) : andI a b = ((a &&& b : Nat) : Int) := by
  unfold andI
  rw [iI_nI, iI_nI]
  have e : nI a &&& nI b = nI (a &&& b) := by
    apply Int32.toBitVec_inj.mp
    rw [Int32.toBitVec_and]
    exact (BitVec.ofNat_and).symm
  rw [e, nI_toInt (Nat.and_lt_two_pow _ hb)]
theorem orN {a b : Nat} (ha : a < 2 ^ 31) (hb : b < 2 ^ 31) : orI a b = ((a ||| b : Nat) : Int) := by
  unfold orI
  rw [iI_nI, iI_nI]
  have e : nI a ||| nI b = nI (a ||| b) := by
    apply Int32.toBitVec_inj.mp
    rw [Int32.toBitVec_or]
    exact (BitVec.ofNat_or).symm
  rw [e, nI_toInt (Nat.or_lt_two_pow ha hb)]
theorem ushrN {a : Nat} (ha : a < 2 ^ 31) (s : Int) (k : Nat) (hs : (((iI s).toUInt32 &&& Int32.toUInt32 31).toBitVec % 32).toNat = k) : ushrI a s = ((a / 2 ^ k : Nat) : Int) := by
  unfold ushrI
  rw [iI_nI, pk_ushrN (by omega) _ k hs, nI_toInt (Nat.lt_of_le_of_lt (Nat.div_le_self _ _) ha)]
theorem shl1 : ∀ d : Fin 26, shlI 1 (d.val : Int) = ((2 ^ d.val : Nat) : Int) := by decide +kernel
def bcI (v : Int) : Int :=
  let a := v - andI (ushrI v 1) 1431655765
  let b := andI a 858993459 + andI (ushrI a 2) 858993459
  let c := andI (b + ushrI b 4) 252645135
  let e := c + ushrI c 8
  andI (e + ushrI e 16) 63
def q1 (d : Nat) : Nat := d - (d / 2 &&& 85)
def q2 (d : Nat) : Nat := (d &&& 51) + (d / 4 &&& 51)
def q3 (d : Nat) : Nat := (d + d / 16) &&& 15
def bt8 (d : Nat) : Nat := d % 2 + d / 2 % 2 + d / 4 % 2 + d / 8 % 2 + d / 16 % 2 + d / 32 % 2 + d / 64 % 2 + d / 128 % 2
theorem q_all : ∀ d : Fin 256, (d.val / 2 &&& 85) ≤ d.val ∧ q1 d.val < 256 ∧ q2 (q1 d.val) % 16 ≤ 4 ∧ q2 (q1 d.val) ≤ 68 ∧ q3 (q2 (q1 d.val)) = bt8 d.val := by decide +kernel
theorem sp1_all : ∀ d : Fin 256, ((128 + d.val / 2) &&& 85) = (d.val / 2 &&& 85) := by decide +kernel
theorem sp2_all : ∀ d : Fin 256, ((64 + d.val / 4) &&& 51) = (d.val / 4 &&& 51) ∧ ((128 + d.val / 4) &&& 51) = (d.val / 4 &&& 51) ∧ ((192 + d.val / 4) &&& 51) = (d.val / 4 &&& 51) := by decide +kernel
theorem sp3_all : ∀ d : Fin 256, (d.val &&& 15) = d.val % 16 := by decide +kernel
theorem and256 (A D M K : Nat) (hD : D < 256) (hK : K < 256) : (256 * A + D) &&& (256 * M + K) = 256 * (A &&& M) + (D &&& K) := by
  have h1 : ((256 * A + D) &&& (256 * M + K)) / 2 ^ 8 = (A &&& M) := by
    rw [Nat.and_div_two_pow]
    congr 1 <;> omega
  have h2 : ((256 * A + D) &&& (256 * M + K)) % 2 ^ 8 = (D &&& K) := by
    rw [Nat.and_mod_two_pow]
    congr 1 <;> omega
  omega
theorem sp1 (a d M : Nat) (hd : d < 256) : ((256 * a + d) / 2) &&& (256 * M + 85) = 256 * (a / 2 &&& M) + (d / 2 &&& 85) := by
  rw [show (256 * a + d) / 2 = 256 * (a / 2) + (128 * (a % 2) + d / 2) by omega, and256 _ _ _ _ (by omega) (by omega)]
  have h := sp1_all ⟨d, hd⟩
  rcases Nat.mod_two_eq_zero_or_one a with z | z <;> rw [z]
  · rw [Nat.mul_zero, Nat.zero_add]
  · rw [Nat.mul_one]; simp only at h; rw [h]
theorem sp2 (a d M : Nat) (hd : d < 256) : ((256 * a + d) / 4) &&& (256 * M + 51) = 256 * (a / 4 &&& M) + (d / 4 &&& 51) := by
  rw [show (256 * a + d) / 4 = 256 * (a / 4) + (64 * (a % 4) + d / 4) by omega, and256 _ _ _ _ (by omega) (by omega)]
  have h := sp2_all ⟨d, hd⟩
  simp only at h
  have h4 : a % 4 = 0 ∨ a % 4 = 1 ∨ a % 4 = 2 ∨ a % 4 = 3 := by omega
  rcases h4 with z | z | z | z <;> rw [z]
  · rw [Nat.mul_zero, Nat.zero_add]
  · rw [h.1]
  · rw [h.2.1]
  · rw [h.2.2]
theorem fin4 {s0 s1 s2 s3 C D : Nat} (h0 : s0 ≤ 8) (h1 : s1 ≤ 8) (h2 : s2 ≤ 8) (h3 : s3 ≤ 8) (hC : 256 * (256 * (256 * s3 + s2) + s1) + s0 = C) (hD : C + C / 256 = D) : (D + D / 65536) % 64 = s0 + s1 + s2 + s3 := by
  have e1 : C / 256 = 65536 * s3 + 256 * s2 + s1 := by omega
  have e2 : D = 16777216 * s3 + 65536 * (s2 + s3) + 256 * (s1 + s2) + (s0 + s1) := by omega
  have e3 : D / 65536 = 256 * s3 + (s2 + s3) := by omega
  omega
theorem by4 {b0 b1 b2 b3 : Nat} {x : Nat} (e : x = 256 * (256 * (256 * b3 + b2) + b1) + b0) (h0 : b0 < 256) (h1 : b1 < 256) (h2 : b2 < 256) (h3 : b3 < 4) : bcI x = ((bt8 b0 + bt8 b1 + bt8 b2 + bt8 b3 : Nat) : Int) := by
  have a0 := q_all ⟨b0, h0⟩
  have a1 := q_all ⟨b1, h1⟩
  have a2 := q_all ⟨b2, h2⟩
  have a3 := q_all ⟨b3, by omega⟩
  simp only at a0 a1 a2 a3
  have hx : x < 2 ^ 26 := by omega
  have e1 : x / 2 &&& 1431655765 = 256 * (256 * (256 * (b3 / 2 &&& 85) + (b2 / 2 &&& 85)) + (b1 / 2 &&& 85)) + (b0 / 2 &&& 85) := by
    rw [e, show (1431655765 : Nat) = 256 * (256 * (256 * 85 + 85) + 85) + 85 from rfl, sp1 _ _ _ h0, sp1 _ _ _ h1, sp1 _ _ _ h2]
  have e2 : x - (x / 2 &&& 1431655765) = 256 * (256 * (256 * q1 b3 + q1 b2) + q1 b1) + q1 b0 := by
    rw [e1, e]; unfold q1; omega
  have hy : x / 2 &&& 1431655765 ≤ x := by rw [e1]; omega
  have e3 : ∀ y : Nat, y = 256 * (256 * (256 * q1 b3 + q1 b2) + q1 b1) + q1 b0 → (y &&& 858993459) + (y / 4 &&& 858993459) = 256 * (256 * (256 * q2 (q1 b3) + q2 (q1 b2)) + q2 (q1 b1)) + q2 (q1 b0) := by
    intro y hy
    have f1 : y / 4 &&& 858993459 = 256 * (256 * (256 * (q1 b3 / 4 &&& 51) + (q1 b2 / 4 &&& 51)) + (q1 b1 / 4 &&& 51)) + (q1 b0 / 4 &&& 51) := by
      rw [hy, show (858993459 : Nat) = 256 * (256 * (256 * 51 + 51) + 51) + 51 from rfl, sp2 _ _ _ a0.2.1, sp2 _ _ _ a1.2.1, sp2 _ _ _ a2.2.1]
    have f2 : y &&& 858993459 = 256 * (256 * (256 * (q1 b3 &&& 51) + (q1 b2 &&& 51)) + (q1 b1 &&& 51)) + (q1 b0 &&& 51) := by
      rw [hy, show (858993459 : Nat) = 256 * (256 * (256 * 51 + 51) + 51) + 51 from rfl, and256 _ _ _ _ a0.2.1 (by omega), and256 _ _ _ _ a1.2.1 (by omega), and256 _ _ _ _ a2.2.1 (by omega)]
    rw [f1, f2]
    unfold q2
    omega
  have e4 : ∀ y : Nat, y = 256 * (256 * (256 * q2 (q1 b3) + q2 (q1 b2)) + q2 (q1 b1)) + q2 (q1 b0) → (y + y / 16) &&& 252645135 = 256 * (256 * (256 * bt8 b3 + bt8 b2) + bt8 b1) + bt8 b0 := by
    intro y hy
    rw [← a0.2.2.2.2, ← a1.2.2.2.2, ← a2.2.2.2.2, ← a3.2.2.2.2]
    generalize q2 (q1 b0) = c0 at *
    generalize q2 (q1 b1) = c1 at *
    generalize q2 (q1 b2) = c2 at *
    generalize q2 (q1 b3) = c3 at *
    rw [show y + y / 16 = 256 * (256 * (256 * (c3 + c3 / 16) + (c2 + c2 / 16 + 16 * (c3 % 16))) + (c1 + c1 / 16 + 16 * (c2 % 16))) + (c0 + c0 / 16 + 16 * (c1 % 16)) by omega, show (252645135 : Nat) = 256 * (256 * (256 * 15 + 15) + 15) + 15 from rfl,
      and256 _ _ _ _ (by omega) (by omega), and256 _ _ _ _ (by omega) (by omega), and256 _ _ _ _ (by omega) (by omega)]
    have g0 := sp3_all ⟨c0 + c0 / 16 + 16 * (c1 % 16), by omega⟩
    have g1 := sp3_all ⟨c1 + c1 / 16 + 16 * (c2 % 16), by omega⟩
    have g2 := sp3_all ⟨c2 + c2 / 16 + 16 * (c3 % 16), by omega⟩
    have k0 := sp3_all ⟨c0 + c0 / 16, by omega⟩
    have k1 := sp3_all ⟨c1 + c1 / 16, by omega⟩
    have k2 := sp3_all ⟨c2 + c2 / 16, by omega⟩
    simp only at g0 g1 g2 k0 k1 k2
    unfold q3
    rw [g0, g1, g2, k0, k1, k2]
    omega
  have hb : ∀ d : Nat, bt8 d ≤ 8 := fun d => by unfold bt8; omega
  have p0 := hb b0
  have p1 := hb b1
  have p2 := hb b2
  have p3 := hb b3
  unfold bcI
  have n1 : ushrI (x : Int) 1 = ((x / 2 : Nat) : Int) := ushrN (by omega) 1 1 (by decide)
  have n2 : andI ((x / 2 : Nat) : Int) 1431655765 = ((x / 2 &&& 1431655765 : Nat) : Int) := andN (b := 1431655765) (by omega) (by omega)
  simp only
  rw [n1, n2]
  generalize hA : x - (x / 2 &&& 1431655765) = A at e2
  have hA2 : (x : Int) - ((x / 2 &&& 1431655765 : Nat) : Int) = (A : Int) := by omega
  have f3 := e3 A e2
  rw [hA2]
  have hAl : A < 2 ^ 27 := by omega
  rw [show ushrI (A : Int) 2 = ((A / 4 : Nat) : Int) from ushrN (by omega) 2 2 (by decide), show andI ((A / 4 : Nat) : Int) 858993459 = ((A / 4 &&& 858993459 : Nat) : Int) from andN (b := 858993459) (by omega) (by omega), show andI (A : Int) 858993459 = ((A &&& 858993459 : Nat) : Int) from andN (b := 858993459) (by omega) (by omega)]
  generalize hBq : (A &&& 858993459) + (A / 4 &&& 858993459) = B at f3
  have hB2 : ((A &&& 858993459 : Nat) : Int) + ((A / 4 &&& 858993459 : Nat) : Int) = (B : Int) := by omega
  have f4 := e4 B f3
  rw [hB2]
  have hBl : B < 2 ^ 31 - 2 ^ 28 := by omega
  rw [show ushrI (B : Int) 4 = ((B / 16 : Nat) : Int) from ushrN (by omega) 4 4 (by decide), show (B : Int) + ((B / 16 : Nat) : Int) = ((B + B / 16 : Nat) : Int) by omega, show andI ((B + B / 16 : Nat) : Int) 252645135 = (((B + B / 16) &&& 252645135 : Nat) : Int) from andN (b := 252645135) (by omega) (by omega), f4]
  generalize hC : 256 * (256 * (256 * bt8 b3 + bt8 b2) + bt8 b1) + bt8 b0 = C
  rw [show ushrI (C : Int) 8 = ((C / 256 : Nat) : Int) from ushrN (by omega) 8 8 (by decide), show (C : Int) + ((C / 256 : Nat) : Int) = ((C + C / 256 : Nat) : Int) by omega]
  generalize hD : C + C / 256 = D
  rw [show ushrI (D : Int) 16 = ((D / 65536 : Nat) : Int) from ushrN (by omega) 16 16 (by decide), show (D : Int) + ((D / 65536 : Nat) : Int) = ((D + D / 65536 : Nat) : Int) by omega, show andI ((D + D / 65536 : Nat) : Int) 63 = (((D + D / 65536) &&& 63 : Nat) : Int) from andN (b := 63) (by omega) (by omega)]
  have h63 : (D + D / 65536) &&& 63 = (D + D / 65536) % 2 ^ 6 := Nat.and_two_pow_sub_one_eq_mod _ 6
  rw [h63, show (2 : Nat) ^ 6 = 64 from rfl, fin4 p0 p1 p2 p3 hC hD]
