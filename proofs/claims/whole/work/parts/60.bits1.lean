/-! ===== pure: the letters that are met, as bits ===== -/
def MaskIs (f : Int → Int) (i M : Int) : Prop := ∃ X : Nat, M = (X : Int) ∧ X < 2 ^ 26 ∧ ∀ c : Nat, c < 26 → (X.testBit c = true ↔ 0 < cntF f c i)
theorem MaskIs.start (f : Int → Int) : MaskIs f 0 0 := ⟨0, rfl, by decide, fun c _ => by rw [Nat.zero_testBit, cntF_0]; simp⟩
theorem MaskIs.step {f : Int → Int} {i M d : Int} (h : MaskIs f i M) (hi : 0 ≤ i) (hd : 0 ≤ d ∧ d ≤ 25) (e : f i = d) : MaskIs f (i + 1) (orI M (shlI 1 d)) := by
  obtain ⟨X, rfl, hX, hb⟩ := h
  have h1 := shl1 ⟨d.toNat, by omega⟩
  simp only at h1
  rw [Int.toNat_of_nonneg hd.1] at h1
  have hp : 2 ^ d.toNat < 2 ^ 26 := Nat.pow_lt_pow_right (by decide) (by omega)
  have hp26 : (2 : Nat) ^ 26 < 2 ^ 31 := by decide
  rw [h1, orN (by omega) (by omega)]
  refine ⟨_, rfl, Nat.or_lt_two_pow hX hp, fun c hc => ?_⟩
  rw [Nat.testBit_or, Nat.testBit_two_pow, Bool.or_eq_true, hb c hc, decide_eq_true_eq]
  have hn := cntF_bd f (c : Int) hi
  by_cases z : f i = (c : Int)
  · rw [cntF_yes hi z]
    exact ⟨fun _ => by omega, fun _ => Or.inr (by omega)⟩
  · rw [cntF_no hi z]
    exact ⟨fun q => by rcases q with q | q; exact q; omega, fun q => Or.inl q⟩
theorem kb_0 (X : Nat) : X / 1 % 2 = (X % 256) / 1 % 2 := by omega
theorem kb_1 (X : Nat) : X / 2 % 2 = (X % 256) / 2 % 2 := by omega
theorem kb_2 (X : Nat) : X / 4 % 2 = (X % 256) / 4 % 2 := by omega
theorem kb_3 (X : Nat) : X / 8 % 2 = (X % 256) / 8 % 2 := by omega
theorem kb_4 (X : Nat) : X / 16 % 2 = (X % 256) / 16 % 2 := by omega
theorem kb_5 (X : Nat) : X / 32 % 2 = (X % 256) / 32 % 2 := by omega
theorem kb_6 (X : Nat) : X / 64 % 2 = (X % 256) / 64 % 2 := by omega
theorem kb_7 (X : Nat) : X / 128 % 2 = (X % 256) / 128 % 2 := by omega
theorem kb_8 (X : Nat) : X / 256 % 2 = (X / 256 % 256) / 1 % 2 := by omega
theorem kb_9 (X : Nat) : X / 512 % 2 = (X / 256 % 256) / 2 % 2 := by omega
theorem kb_10 (X : Nat) : X / 1024 % 2 = (X / 256 % 256) / 4 % 2 := by omega
theorem kb_11 (X : Nat) : X / 2048 % 2 = (X / 256 % 256) / 8 % 2 := by omega
theorem kb_12 (X : Nat) : X / 4096 % 2 = (X / 256 % 256) / 16 % 2 := by omega
theorem kb_13 (X : Nat) : X / 8192 % 2 = (X / 256 % 256) / 32 % 2 := by omega
theorem kb_14 (X : Nat) : X / 16384 % 2 = (X / 256 % 256) / 64 % 2 := by omega
theorem kb_15 (X : Nat) : X / 32768 % 2 = (X / 256 % 256) / 128 % 2 := by omega
theorem kb_16 (X : Nat) : X / 65536 % 2 = (X / 65536 % 256) / 1 % 2 := by omega
theorem kb_17 (X : Nat) : X / 131072 % 2 = (X / 65536 % 256) / 2 % 2 := by omega
theorem kb_18 (X : Nat) : X / 262144 % 2 = (X / 65536 % 256) / 4 % 2 := by omega
theorem kb_19 (X : Nat) : X / 524288 % 2 = (X / 65536 % 256) / 8 % 2 := by omega
theorem kb_20 (X : Nat) : X / 1048576 % 2 = (X / 65536 % 256) / 16 % 2 := by omega
theorem kb_21 (X : Nat) : X / 2097152 % 2 = (X / 65536 % 256) / 32 % 2 := by omega
theorem kb_22 (X : Nat) : X / 4194304 % 2 = (X / 65536 % 256) / 64 % 2 := by omega
theorem kb_23 (X : Nat) : X / 8388608 % 2 = (X / 65536 % 256) / 128 % 2 := by omega
theorem kb_24 (X : Nat) : X / 16777216 % 2 = (X / 16777216) / 1 % 2 := by omega
theorem kb_25 (X : Nat) : X / 33554432 % 2 = (X / 16777216) / 2 % 2 := by omega
theorem kb_all {X : Nat} (hX : X < 2 ^ 26) : bt8 (X % 256) + bt8 (X / 256 % 256) + bt8 (X / 65536 % 256) + bt8 (X / 16777216) = 0 + X / 1 % 2 + X / 2 % 2 + X / 4 % 2 + X / 8 % 2 + X / 16 % 2 + X / 32 % 2 + X / 64 % 2 + X / 128 % 2 + X / 256 % 2 + X / 512 % 2 + X / 1024 % 2 + X / 2048 % 2 + X / 4096 % 2 + X / 8192 % 2 + X / 16384 % 2 + X / 32768 % 2 + X / 65536 % 2 + X / 131072 % 2 + X / 262144 % 2 + X / 524288 % 2 + X / 1048576 % 2 + X / 2097152 % 2 + X / 4194304 % 2 + X / 8388608 % 2 + X / 16777216 % 2 + X / 33554432 % 2 := by
  rw [kb_0 X, kb_1 X, kb_2 X, kb_3 X, kb_4 X, kb_5 X, kb_6 X, kb_7 X, kb_8 X, kb_9 X, kb_10 X, kb_11 X, kb_12 X, kb_13 X, kb_14 X, kb_15 X, kb_16 X, kb_17 X, kb_18 X, kb_19 X, kb_20 X, kb_21 X, kb_22 X, kb_23 X, kb_24 X, kb_25 X]
  have h3 : X / 16777216 < 4 := by omega
  generalize X % 256 = b0
  generalize X / 256 % 256 = b1
  generalize X / 65536 % 256 = b2
  generalize X / 16777216 = b3 at h3
  unfold bt8
  simp only [Nat.div_one]
  have z : b3 / 4 % 2 = 0 := by omega
  have z1 : b3 / 8 % 2 = 0 := by omega
  have z2 : b3 / 16 % 2 = 0 := by omega
  have z3 : b3 / 32 % 2 = 0 := by omega
  have z4 : b3 / 64 % 2 = 0 := by omega
  have z5 : b3 / 128 % 2 = 0 := by omega
  rw [z, z1, z2, z3, z4, z5]
  ac_rfl
theorem mask_cnt {f : Int → Int} {n M : Int} (h : MaskIs f n M) : bcI M = unlF f n := by
  obtain ⟨X, rfl, hX, hb⟩ := h
  have hg : ∀ c : Nat, c < 26 → (if 0 < cntF f (c : Int) n then 1 else 0 : Int) = ((X / 2 ^ c % 2 : Nat) : Int) := by
    intro c hc
    have h1 := hb c hc
    rw [Nat.testBit_eq_decide_div_mod_eq, decide_eq_true_eq] at h1
    by_cases z : 0 < cntF f (c : Int) n
    · rw [if_pos z, h1.mpr z]; rfl
    · rw [if_neg z]
      have : ¬ X / 2 ^ c % 2 = 1 := fun q => z (h1.mp q)
      omega
  rw [by4 (x := X) (b0 := X % 256) (b1 := X / 256 % 256) (b2 := X / 65536 % 256) (b3 := X / 16777216) (by omega) (by omega) (by omega) (by omega) (by omega)]
  have g0 : (if 0 < cntF f ((0 : Nat) : Int) n then 1 else 0 : Int) = ((X / 1 % 2 : Nat) : Int) := hg 0 (by decide)
  have g1 : (if 0 < cntF f ((1 : Nat) : Int) n then 1 else 0 : Int) = ((X / 2 % 2 : Nat) : Int) := hg 1 (by decide)
  have g2 : (if 0 < cntF f ((2 : Nat) : Int) n then 1 else 0 : Int) = ((X / 4 % 2 : Nat) : Int) := hg 2 (by decide)
  have g3 : (if 0 < cntF f ((3 : Nat) : Int) n then 1 else 0 : Int) = ((X / 8 % 2 : Nat) : Int) := hg 3 (by decide)
  have g4 : (if 0 < cntF f ((4 : Nat) : Int) n then 1 else 0 : Int) = ((X / 16 % 2 : Nat) : Int) := hg 4 (by decide)
  have g5 : (if 0 < cntF f ((5 : Nat) : Int) n then 1 else 0 : Int) = ((X / 32 % 2 : Nat) : Int) := hg 5 (by decide)
  have g6 : (if 0 < cntF f ((6 : Nat) : Int) n then 1 else 0 : Int) = ((X / 64 % 2 : Nat) : Int) := hg 6 (by decide)
  have g7 : (if 0 < cntF f ((7 : Nat) : Int) n then 1 else 0 : Int) = ((X / 128 % 2 : Nat) : Int) := hg 7 (by decide)
  have g8 : (if 0 < cntF f ((8 : Nat) : Int) n then 1 else 0 : Int) = ((X / 256 % 2 : Nat) : Int) := hg 8 (by decide)
  have g9 : (if 0 < cntF f ((9 : Nat) : Int) n then 1 else 0 : Int) = ((X / 512 % 2 : Nat) : Int) := hg 9 (by decide)
  have g10 : (if 0 < cntF f ((10 : Nat) : Int) n then 1 else 0 : Int) = ((X / 1024 % 2 : Nat) : Int) := hg 10 (by decide)
  have g11 : (if 0 < cntF f ((11 : Nat) : Int) n then 1 else 0 : Int) = ((X / 2048 % 2 : Nat) : Int) := hg 11 (by decide)
  have g12 : (if 0 < cntF f ((12 : Nat) : Int) n then 1 else 0 : Int) = ((X / 4096 % 2 : Nat) : Int) := hg 12 (by decide)
  have g13 : (if 0 < cntF f ((13 : Nat) : Int) n then 1 else 0 : Int) = ((X / 8192 % 2 : Nat) : Int) := hg 13 (by decide)
  have g14 : (if 0 < cntF f ((14 : Nat) : Int) n then 1 else 0 : Int) = ((X / 16384 % 2 : Nat) : Int) := hg 14 (by decide)
  have g15 : (if 0 < cntF f ((15 : Nat) : Int) n then 1 else 0 : Int) = ((X / 32768 % 2 : Nat) : Int) := hg 15 (by decide)
  have g16 : (if 0 < cntF f ((16 : Nat) : Int) n then 1 else 0 : Int) = ((X / 65536 % 2 : Nat) : Int) := hg 16 (by decide)
  have g17 : (if 0 < cntF f ((17 : Nat) : Int) n then 1 else 0 : Int) = ((X / 131072 % 2 : Nat) : Int) := hg 17 (by decide)
  have g18 : (if 0 < cntF f ((18 : Nat) : Int) n then 1 else 0 : Int) = ((X / 262144 % 2 : Nat) : Int) := hg 18 (by decide)
  have g19 : (if 0 < cntF f ((19 : Nat) : Int) n then 1 else 0 : Int) = ((X / 524288 % 2 : Nat) : Int) := hg 19 (by decide)
  have g20 : (if 0 < cntF f ((20 : Nat) : Int) n then 1 else 0 : Int) = ((X / 1048576 % 2 : Nat) : Int) := hg 20 (by decide)
  have g21 : (if 0 < cntF f ((21 : Nat) : Int) n then 1 else 0 : Int) = ((X / 2097152 % 2 : Nat) : Int) := hg 21 (by decide)
  have g22 : (if 0 < cntF f ((22 : Nat) : Int) n then 1 else 0 : Int) = ((X / 4194304 % 2 : Nat) : Int) := hg 22 (by decide)
  have g23 : (if 0 < cntF f ((23 : Nat) : Int) n then 1 else 0 : Int) = ((X / 8388608 % 2 : Nat) : Int) := hg 23 (by decide)
  have g24 : (if 0 < cntF f ((24 : Nat) : Int) n then 1 else 0 : Int) = ((X / 16777216 % 2 : Nat) : Int) := hg 24 (by decide)
  have g25 : (if 0 < cntF f ((25 : Nat) : Int) n then 1 else 0 : Int) = ((X / 33554432 % 2 : Nat) : Int) := hg 25 (by decide)
  have e : unlF f n = 0 + (if 0 < cntF f ((0 : Nat) : Int) n then 1 else 0 : Int) + (if 0 < cntF f ((1 : Nat) : Int) n then 1 else 0 : Int) + (if 0 < cntF f ((2 : Nat) : Int) n then 1 else 0 : Int) + (if 0 < cntF f ((3 : Nat) : Int) n then 1 else 0 : Int) + (if 0 < cntF f ((4 : Nat) : Int) n then 1 else 0 : Int) + (if 0 < cntF f ((5 : Nat) : Int) n then 1 else 0 : Int) + (if 0 < cntF f ((6 : Nat) : Int) n then 1 else 0 : Int) + (if 0 < cntF f ((7 : Nat) : Int) n then 1 else 0 : Int) + (if 0 < cntF f ((8 : Nat) : Int) n then 1 else 0 : Int) + (if 0 < cntF f ((9 : Nat) : Int) n then 1 else 0 : Int) + (if 0 < cntF f ((10 : Nat) : Int) n then 1 else 0 : Int) + (if 0 < cntF f ((11 : Nat) : Int) n then 1 else 0 : Int) + (if 0 < cntF f ((12 : Nat) : Int) n then 1 else 0 : Int) + (if 0 < cntF f ((13 : Nat) : Int) n then 1 else 0 : Int) + (if 0 < cntF f ((14 : Nat) : Int) n then 1 else 0 : Int) + (if 0 < cntF f ((15 : Nat) : Int) n then 1 else 0 : Int) + (if 0 < cntF f ((16 : Nat) : Int) n then 1 else 0 : Int) + (if 0 < cntF f ((17 : Nat) : Int) n then 1 else 0 : Int) + (if 0 < cntF f ((18 : Nat) : Int) n then 1 else 0 : Int) + (if 0 < cntF f ((19 : Nat) : Int) n then 1 else 0 : Int) + (if 0 < cntF f ((20 : Nat) : Int) n then 1 else 0 : Int) + (if 0 < cntF f ((21 : Nat) : Int) n then 1 else 0 : Int) + (if 0 < cntF f ((22 : Nat) : Int) n then 1 else 0 : Int) + (if 0 < cntF f ((23 : Nat) : Int) n then 1 else 0 : Int) + (if 0 < cntF f ((24 : Nat) : Int) n then 1 else 0 : Int) + (if 0 < cntF f ((25 : Nat) : Int) n then 1 else 0 : Int) := rfl
  rw [e, g0, g1, g2, g3, g4, g5, g6, g7, g8, g9, g10, g11, g12, g13, g14, g15, g16, g17, g18, g19, g20, g21, g22, g23, g24, g25]
  rw [kb_all hX]
  clear e g0 g1 g2 g3 g4 g5 g6 g7 g8 g9 g10 g11 g12 g13 g14 g15 g16 g17 g18 g19 g20 g21 g22 g23 g24 g25 hg hb
  simp only [Int.natCast_add]
  rfl
