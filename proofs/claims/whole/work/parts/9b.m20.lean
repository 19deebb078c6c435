/-! ===== the model's reader: bytes and TOKENS ===== -/
theorem and255 {c : Int} (h : -128 ≤ c ∧ c ≤ 127) : andI c 255 = if c < 0 then c + 256 else c := by
  have q : ∀ i : Fin 256, andI ((i.val : Int) - 128) 255 = if ((i.val : Int) - 128) < 0 then ((i.val : Int) - 128) + 256 else ((i.val : Int) - 128) := by decide +kernel
  have h9 := q ⟨(c + 128).toNat, by omega⟩
  have e : (((c + 128).toNat : Nat) : Int) - 128 = c := by omega
  simp only [e] at h9
  exact h9
/-- a byte as the model reads it, -1 behind the end -/
def mbA (B : Int → Int) (n q : Int) : Int := if q < n then (if B q < 0 then B q + 256 else B q) else -1
theorem mbA_rg {B : Int → Int} (hB : BR B) (n q : Int) : -1 ≤ mbA B n q ∧ mbA B n q ≤ 255 := by
  have := hB q
  unfold mbA
  split
  · split <;> omega
  · omega
theorem mbA_no {B : Int → Int} {n q : Int} (hB : BR B) (h : mbA B n q = -1) : n ≤ q := by
  have := hB q
  unfold mbA at h
  split at h
  · split at h <;> omega
  · omega
theorem mbA_in {B : Int → Int} {n q : Int} (hB : BR B) (h : mbA B n q ≠ -1) : q < n := by
  unfold mbA at h
  split at h
  · assumption
  · exact absurd rfl h
theorem mbA_iff {B : Int → Int} {n q : Int} (hB : BR B) {lo hi : Int} (hl : 0 ≤ lo ∧ hi ≤ 127) : (lo ≤ mbA B n q ∧ mbA B n q ≤ hi) ↔ q < n ∧ lo ≤ B q ∧ B q ≤ hi := by
  have := hB q
  unfold mbA
  split
  · split <;> omega
  · omega
theorem mbA_eq {B : Int → Int} {n q : Int} (hB : BR B) {c : Int} (hc : 0 ≤ c ∧ c ≤ 127) : mbA B n q = c ↔ q < n ∧ B q = c := by
  have := hB q
  unfold mbA
  split
  · split <;> omega
  · omega
def tkM (K : Int) : Int := if K = 0 then 0 else if K = 1 then 1 else if K ≤ 4 then 2 else if K = 5 then 3 else if K = 6 then 4 else 5
theorem tkM_rg (K : Int) : 0 ≤ tkM K ∧ tkM K ≤ 5 := by
  unfold tkM
  split
  · omega
  · split
    · omega
    · split
      · omega
      · split
        · omega
        · split <;> omega
theorem tkM_iff {K : Int} (h : 0 ≤ K) : (tkM K = 0 ↔ K = 0) ∧ (tkM K = 1 ↔ K = 1) ∧ (tkM K = 2 ↔ 2 ≤ K ∧ K ≤ 4) ∧ (tkM K = 3 ↔ K = 5) ∧ (tkM K = 4 ↔ K = 6) ∧ (tkM K = 5 ↔ 6 < K) := by
  unfold tkM
  split
  · omega
  · split
    · omega
    · split
      · omega
      · split
        · omega
        · split <;> omega
/-- what looking ahead from the place e makes -/
def AhIs (B : Int → Int) (n e tk bg en vl : Int) : Prop := bg = skp B n e ∧ bg ≤ n ∧ tk = tkM (tK B n bg) ∧ en = tE B n bg ∧ (tK B n bg = 5 → vl = tV B n bg) ∧ True
theorem ah_end {B : Int → Int} {n e b v : Int} (hb : b = skp B n e) (h1 : b ≤ n) (h2 : n ≤ b) (hv : True) : AhIs B n e 0 b b v := by
  have h := t_end (B := B) h2
  refine ⟨hb, h1, ?_, ?_, fun z => ?_, hv⟩
  · rw [h.2.1]; rfl
  · rw [h.1]; omega
  · rw [h.2.1] at z; omega
theorem ah_sm {B : Int → Int} {n e b en v : Int} (hb : b = skp B n e) (h : b < n) (hs : 97 ≤ B b ∧ B b ≤ 122) (he : smE B n b = en) (hv : True) : AhIs B n e 2 b en v := by
  have q := t_sm h (smB_iff.mpr hs)
  refine ⟨hb, by omega, ?_, by rw [q.1, he], fun z => ?_, hv⟩
  · rw [q.2.1]
    split
    · rfl
    · split <;> rfl
  · rw [q.2.1] at z
    split at z
    · omega
    · split at z <;> omega
theorem ah_dg {B : Int → Int} {n e b en v : Int} (hb : b = skp B n e) (h : b < n) (hs : 48 ≤ B b ∧ B b ≤ 57) (he : dgE B n b = en) (hv : True) (hd : en - b ≤ 4 → v = dcN B b (en - b).toNat) {tk : Int} (ht : (en - b ≤ 4 ∧ tk = 3) ∨ (4 < en - b ∧ tk = 1)) : AhIs B n e tk b en v := by
  have q := t_dg h (smB_no (by omega)) (dgB_iff.mpr hs)
  rw [he] at q
  refine ⟨hb, by omega, ?_, q.1.symm, fun z => ?_, hv⟩
  · rw [q.2.1]
    rcases ht with ⟨a, rfl⟩ | ⟨a, rfl⟩
    · rw [if_pos a]; rfl
    · rw [if_neg (by omega)]; rfl
  · rw [q.2.1] at z
    rw [q.2.2]
    split at z
    · exact hd (by assumption)
    · omega
theorem ah_qt {B : Int → Int} {n e b e2 v : Int} (hB : BR B) (hb : b = skp B n e) (h0 : 0 ≤ b) (h : b < n) (hs : B b = 34) (he : smE B n (b + 1) = e2) (hv : True) {tk : Int} (ht : ((mbA B n e2 = 34 ∧ b + 1 < e2) ∧ tk = 4) ∨ (¬ (mbA B n e2 = 34 ∧ b + 1 < e2) ∧ tk = 1)) : AhIs B n e tk b (e2 + 1) v := by
  have q := t_qt h hs
  have hge : b + 1 ≤ smE B n (b + 1) := fwd_ge _ _ _
  rw [he] at q hge
  have hbA : bA B n e2 = 34 ↔ mbA B n e2 = 34 := by
    rw [mbA_eq hB (by omega)]
    unfold bA
    split
    · constructor
      · intro z; exact ⟨by omega, z⟩
      · intro z; exact z.2
    · constructor
      · intro z; omega
      · intro z; omega
  refine ⟨hb, by omega, ?_, q.1.symm, fun z => ?_, hv⟩
  · rw [q.2.1]
    rcases ht with ⟨a, rfl⟩ | ⟨a, rfl⟩
    · rw [if_pos ⟨by omega, hbA.mpr a.1⟩]; rfl
    · rw [if_neg (fun z => a ⟨hbA.mp z.2, by omega⟩)]; rfl
  · rw [q.2.1] at z
    split at z <;> omega
theorem ah_sg {B : Int → Int} {n e b v : Int} (hB : BR B) (hb : b = skp B n e) (h : b < n) (h1 : ¬ (97 ≤ B b ∧ B b ≤ 122)) (h2 : ¬ (48 ≤ B b ∧ B b ≤ 57)) (h3 : B b ≠ 34) (hv : True) {tk : Int} (ht : (isSg (mbA B n b) ∧ tk = 5) ∨ (¬ isSg (mbA B n b) ∧ tk = 1)) : AhIs B n e tk b (b + 1) v := by
  have q := t_sg h (smB_no h1) (dgB_no h2) h3
  have hr := hB b
  have hm : isSg (mbA B n b) ↔ isSg (B b) := by
    unfold mbA isSg
    rw [if_pos h]
    split <;> omega
  refine ⟨hb, by omega, ?_, q.1.symm, fun z => ?_, hv⟩
  · rw [q.2.1]
    rcases ht with ⟨a, rfl⟩ | ⟨a, rfl⟩
    · have hs := hm.mp a
      rw [if_pos hs]
      unfold isSg at hs
      have h6 : 6 < B b := by omega
      exact ((tkM_iff (by omega)).2.2.2.2.2.mpr h6).symm
    · rw [if_neg (fun z => a (hm.mpr z))]; rfl
  · rw [q.2.1] at z
    by_cases w : isSg (B b)
    · rw [if_pos w] at z
      unfold isSg at w
      omega
    · rw [if_neg w] at z; omega
theorem tK_sg {B : Int → Int} {n b : Int} (z : 6 < tK B n b) : b < n ∧ tK B n b = B b := by
  have h : b < n := by
    apply Decidable.byContradiction
    intro q
    have := (t_end (B := B) (show n ≤ b by omega)).2.1
    omega
  refine ⟨h, ?_⟩
  by_cases z1 : smB (B b) = true
  · rw [(t_sm h z1).2.1] at z; split at z <;> (try split at z) <;> omega
  · by_cases z2 : dgB (B b) = true
    · rw [(t_dg h (bF z1) z2).2.1] at z; split at z <;> omega
    · by_cases z3 : B b = 34
      · rw [(t_qt h z3).2.1] at z; split at z <;> omega
      · rw [(t_sg h (bF z1) (bF z2) z3).2.1] at z ⊢
        by_cases w : isSg (B b)
        · rw [if_pos w]
        · rw [if_neg w] at z; omega
/-- the model looks at the k-th TOKEN -/
def RdAt (B : Int → Int) (n : Int) (k : Nat) (tk bg en ls vl : Int) : Prop :=
  (bg = tkB B n k ∧ bg = skp B n (sq B n k) ∧ 0 ≤ bg ∧ bg ≤ n) ∧ tk = tkM (tkK B n k) ∧ (tkK B n k ≠ 1 → en = sq B n (k + 1) ∧ 0 ≤ en ∧ en ≤ n) ∧ (tkK B n k = 5 → vl = tkV B n k) ∧ True ∧ (1 ≤ k → ls = tkB B n (k - 1)) ∧ (tkK B n k = 6 → en - bg - 2 = tkV B n k)
theorem AhIs.at {B : Int → Int} {n : Int} {k : Nat} {tk bg en ls vl : Int} (h : AhIs B n (sq B n k) tk bg en vl) (h0 : 0 ≤ sq B n k) (hn : 0 ≤ n) (hl : 1 ≤ k → ls = tkB B n (k - 1)) : RdAt B n k tk bg en ls vl := by
  obtain ⟨h1, h2, h3, h4, h5, h6⟩ := h
  have hge : sq B n k ≤ skp B n (sq B n k) := fwd_ge _ _ _
  have hK : tkK B n k = tK B n bg := by unfold tkK; rw [← h1]
  have hV : tkV B n k = tV B n bg := by unfold tkV; rw [← h1]
  have hb : bg = tkB B n k := by unfold tkB; rw [← h1]; omega
  refine ⟨⟨hb, h1, by omega, h2⟩, by rw [hK]; exact h3, fun z => ?_, fun z => ?_, h6, hl, fun z => ?_⟩
  · rw [hK] at z
    have e : en = sq B n (k + 1) := by rw [sq, ← h1]; exact h4
    refine ⟨e, ?_⟩
    by_cases q : bg < n
    · have a := tE_gt (B := B) q
      have b := (tE_le (B := B) q).2 z
      omega
    · have := (t_end (B := B) (show n ≤ bg by omega)).1
      omega
  · rw [hV]; rw [hK] at z; exact h5 z
  · rw [hV]; rw [hK] at z
    have q := tk_qt z
    have w := t_qt q.1 q.2.1
    rw [h4, w.1, w.2.2]
    omega
theorem AhIs.rd {B : Int → Int} {n : Int} {k : Nat} {tk bg en ls vl tk9 bg9 en9 vl9 : Int} (r : RdAt B n k tk bg en ls vl) (hk : tkK B n k ≠ 1) (hn : 0 ≤ n) (h : AhIs B n en tk9 bg9 en9 vl9) : RdAt B n (k + 1) tk9 bg9 en9 bg vl9 := by
  obtain ⟨e1, e2, e3⟩ := r.2.2.1 hk
  rw [e1] at h
  exact h.at (by omega) hn (fun _ => by rw [Nat.add_sub_cancel]; exact r.1.1)
theorem AhIs.first {B : Int → Int} {n tk bg en ls vl : Int} (hn : 0 ≤ n) (h : AhIs B n 0 tk bg en vl) : RdAt B n 0 tk bg en ls vl := AhIs.at (k := 0) h (Int.le_refl 0) hn (fun z => absurd z (by omega))
section RDAT
variable {B : Int → Int} {n : Int} {k : Nat} {tk bg en ls vl : Int}
theorem RdAt.kr (h : RdAt B n k tk bg en ls vl) : 0 ≤ tkK B n k := by unfold tkK; exact (tK_rg B n _).1
theorem RdAt.tr (h : RdAt B n k tk bg en ls vl) : 0 ≤ tk ∧ tk ≤ 5 := by rw [h.2.1]; exact tkM_rg _
theorem RdAt.i0 (h : RdAt B n k tk bg en ls vl) : tk = 0 ↔ (bkOf B n).K k = 0 := by rw [h.2.1]; exact (tkM_iff h.kr).1
theorem RdAt.i1 (h : RdAt B n k tk bg en ls vl) : tk = 1 ↔ (bkOf B n).K k = 1 := by rw [h.2.1]; exact (tkM_iff h.kr).2.1
theorem RdAt.i2 (h : RdAt B n k tk bg en ls vl) : tk = 2 ↔ 2 ≤ (bkOf B n).K k ∧ (bkOf B n).K k ≤ 4 := by rw [h.2.1]; exact (tkM_iff h.kr).2.2.1
theorem RdAt.i3 (h : RdAt B n k tk bg en ls vl) : tk = 3 ↔ (bkOf B n).K k = 5 := by rw [h.2.1]; exact (tkM_iff h.kr).2.2.2.1
theorem RdAt.i4 (h : RdAt B n k tk bg en ls vl) : tk = 4 ↔ (bkOf B n).K k = 6 := by rw [h.2.1]; exact (tkM_iff h.kr).2.2.2.2.1
theorem RdAt.sg (h : RdAt B n k tk bg en ls vl) (hB : BR B) {c : Int} (hc : isSg c) : (tk = 5 ∧ mbA B n bg = c) ↔ (bkOf B n).K k = c := by
  have h5 := (tkM_iff h.kr).2.2.2.2.2
  have hK : tkK B n k = tK B n bg := by unfold tkK; rw [← h.1.2.1]
  have hKc : (bkOf B n).K k = tkK B n k := rfl
  rw [h.2.1, h5, hKc]
  unfold isSg at hc
  constructor
  · rintro ⟨a, b⟩
    rw [hK] at a ⊢
    obtain ⟨q1, q2⟩ := tK_sg a
    rw [mbA_eq hB (by omega)] at b
    rw [q2]
    exact b.2
  · intro a
    have h6 : 6 < tkK B n k := by omega
    refine ⟨h6, ?_⟩
    rw [hK] at h6 a
    obtain ⟨q1, q2⟩ := tK_sg h6
    rw [mbA_eq hB (by omega)]
    exact ⟨q1, by rw [← q2]; exact a⟩
theorem RdAt.v5 (h : RdAt B n k tk bg en ls vl) (z : (bkOf B n).K k = 5) : vl = (bkOf B n).V k := h.2.2.2.1 z
theorem RdAt.P (h : RdAt B n k tk bg en ls vl) : bg = (bkOf B n).P k := h.1.1
theorem RdAt.ft (h : RdAt B n k tk bg en ls vl) (q : Int) : ((if tk = 1 then 1 else q, bg) : Ft) = ftAt (bkOf B n) k q := by
  unfold ftAt
  rw [← h.P]
  by_cases z : tk = 1
  · rw [if_pos z, if_pos (h.i1.mp z)]
  · rw [if_neg z, if_neg (fun w => z (h.i1.mpr w))]
end RDAT
/-- there is an END -/
theorem sq_up (B : Int → Int) (n : Int) : ∀ k : Nat, (∀ j, j < k → tkK B n j ≠ 0) → (k : Int) ≤ sq B n k
  | 0, _ => by show ((0 : Nat) : Int) ≤ 0; omega
  | k + 1, h => by
    have ih := sq_up B n k (fun j hj => h j (by omega))
    have hk := h k (by omega)
    unfold tkK at hk
    have hb : skp B n (sq B n k) < n := by
      apply Decidable.byContradiction
      intro q
      exact hk (tK_0.mpr (by omega))
    have hge : sq B n k ≤ skp B n (sq B n k) := fwd_ge _ _ _
    have := tE_gt (B := B) hb
    rw [sq]
    omega
theorem has_end (B : Int → Int) {n : Int} (hn : n ≤ 900) : ∃ c : Nat, c ≤ 900 ∧ tkK B n c = 0 := by
  apply Classical.byContradiction
  intro h
  have h1 : ∀ j, j < 901 → tkK B n j ≠ 0 := fun j hj z => h ⟨j, by omega, z⟩
  have h2 := sq_up B n 900 (fun j hj => h1 j (by omega))
  have h3 := h1 900 (by omega)
  unfold tkK at h3
  have hge : sq B n 900 ≤ skp B n (sq B n 900) := fwd_ge _ _ _
  exact h3 (tK_0.mpr (by omega))
/-! the bytes that are fed -/
theorem byI_bm (a : Int) : byI a = Int.bmod (iI a).toInt 256 := by
  have h := Int32.toInt_toInt8 (iI a)
  unfold byI
  rw [Int8.toInt_toInt32]
  exact h
theorem bm_eq {a b : Int} (h : a % ((256 : Nat) : Int) = b % ((256 : Nat) : Int)) : Int.bmod a 256 = Int.bmod b 256 := by
  rw [← Int.emod_bmod a 256, ← Int.emod_bmod b 256, h]
theorem by_shr (x : Int) {s : Int} (hs : s = 0 ∨ s = 8 ∨ s = 16 ∨ s = 24) : byI (shrI x s) = byI (ushrI x s) := by
  obtain ⟨k, hk, rfl⟩ : ∃ k : Nat, (k = 0 ∨ k = 8 ∨ k = 16 ∨ k = 24) ∧ s = (k : Int) := ⟨s.toNat, by omega, by omega⟩
  rw [byI_bm, byI_bm]
  apply bm_eq
  have h1 : (iI (shrI x k)).toInt = (iI x).toInt >>> k := by
    unfold shrI
    rw [iI_self]
    have hs : ((iI (k : Int) &&& 31).toBitVec.smod 32).toNat = k := by rcases hk with rfl | rfl | rfl | rfl <;> decide
    rw [pk_shr _ _ k hs]
  have h2 : (iI (ushrI x k)).toBitVec.toNat = (iI x).toBitVec.toNat / 2 ^ k := by
    unfold ushrI
    rw [iI_self]
    have hs : (((iI (k : Int)).toUInt32 &&& Int32.toUInt32 31).toBitVec % 32).toNat = k := by rcases hk with rfl | rfl | rfl | rfl <;> decide
    rw [pk_ushr _ _ k hs]
  have h3 : (iI x).toInt = if 2 * (iI x).toBitVec.toNat < 2 ^ 32 then ((iI x).toBitVec.toNat : Int) else ((iI x).toBitVec.toNat : Int) - ((2 ^ 32 : Nat) : Int) := BitVec.toInt_eq_toNat_cond _
  have h4 : (iI (ushrI x k)).toInt = if 2 * (iI (ushrI x k)).toBitVec.toNat < 2 ^ 32 then ((iI (ushrI x k)).toBitVec.toNat : Int) else ((iI (ushrI x k)).toBitVec.toNat : Int) - ((2 ^ 32 : Nat) : Int) := BitVec.toInt_eq_toNat_cond _
  rw [h1, h4, h2, h3, Int.shiftRight_eq_div_pow]
  have hlt : (iI x).toBitVec.toNat < 2 ^ 32 := (iI x).toBitVec.isLt
  generalize (iI x).toBitVec.toNat = m at hlt
  rcases hk with rfl | rfl | rfl | rfl <;> (split <;> split <;> omega)
theorem FourIs.stepM {f f9 : Int → Int} {n v j : Int} (h : FourIs f n v f9 j) (hn : 0 ≤ n) (hj : 0 ≤ j ∧ j < 4) : FourIs f n v (up f9 (n + j) (byI (shrI v (8 * (3 - j))))) (j + 1) := by
  rw [by_shr v (s := 8 * (3 - j)) (by omega), show 8 * (3 - j) = 24 - 8 * j by omega]
  exact h.step hn hj.1
/-- the words -/
theorem mw_iff {B : Int → Int} {n : Int} (hB : BR B) {k : Nat} {tk bg en ls vl : Int} (h : RdAt B n k tk bg en ls vl) : ((tk = 2 ∧ en - bg = 4 ∧ ∀ q, 0 ≤ q → q < 4 → mbA B n (bg + q) = sByt 0 q) ↔ (bkOf B n).K k = 3) ∧ ((tk = 2 ∧ en - bg = 3 ∧ ∀ q, 0 ≤ q → q < 3 → mbA B n (bg + q) = sByt 1 q) ↔ (bkOf B n).K k = 4) := by
  have hK : (bkOf B n).K k = tK B n bg := by show tkK B n k = _; unfold tkK; rw [← h.1.2.1]
  have h0 := h.1.2.2.1
  have hbA : ∀ q c, 0 ≤ q → 0 ≤ c ∧ c ≤ 127 → (mbA B n (bg + q) = c ↔ bA B n (bg + q) = c) := fun q c hq hc => by
    rw [mbA_eq hB hc]
    unfold bA
    split
    · constructor
      · intro z; exact z.2
      · intro z; exact ⟨by omega, z⟩
    · constructor
      · intro z; omega
      · intro z; omega
  have hs0 : ∀ q, 0 ≤ q → q < 4 → 0 ≤ sByt 0 q ∧ sByt 0 q ≤ 127 := fun q a b => by
    rcases (show q = 0 ∨ q = 1 ∨ q = 2 ∨ q = 3 by omega) with rfl | rfl | rfl | rfl <;> decide
  have hs1 : ∀ q, 0 ≤ q → q < 3 → 0 ≤ sByt 1 q ∧ sByt 1 q ≤ 127 := fun q a b => by
    rcases (show q = 0 ∨ q = 1 ∨ q = 2 by omega) with rfl | rfl | rfl <;> decide
  have e0 : (∀ q, 0 ≤ q → q < 4 → mbA B n (bg + q) = sByt 0 q) ↔ (∀ q, 0 ≤ q → q < ((sLen 0 : Nat) : Int) → bA B n (bg + q) = sByt 0 q) := by
    rw [sL0]
    exact ⟨fun z q a b => (hbA q _ a (hs0 q a b)).mp (z q a b), fun z q a b => (hbA q _ a (hs0 q a b)).mpr (z q a b)⟩
  have e1 : (∀ q, 0 ≤ q → q < 3 → mbA B n (bg + q) = sByt 1 q) ↔ (∀ q, 0 ≤ q → q < ((sLen 1 : Nat) : Int) → bA B n (bg + q) = sByt 1 q) := by
    rw [sL1]
    exact ⟨fun z q a b => (hbA q _ a (hs1 q a b)).mp (z q a b), fun z q a b => (hbA q _ a (hs1 q a b)).mpr (z q a b)⟩
  rw [h.i2, hK, e0, e1]
  by_cases w : 2 ≤ tK B n bg ∧ tK B n bg ≤ 4
  · have hne : tkK B n k ≠ 1 := by show (bkOf B n).K k ≠ 1; rw [hK]; omega
    have hlt : bg < n := by
      apply Decidable.byContradiction
      intro z
      have := (t_end (B := B) (show n ≤ bg by omega)).2.1
      omega
    have hsm : smB (B bg) = true := by
      apply Decidable.byContradiction
      intro z1
      by_cases z2 : dgB (B bg) = true
      · rw [(t_dg hlt (bF z1) z2).2.1] at w; split at w <;> omega
      · by_cases z3 : B bg = 34
        · rw [(t_qt hlt z3).2.1] at w; split at w <;> omega
        · rw [(t_sg hlt (bF z1) (bF z2) z3).2.1] at w
          by_cases y : isSg (B bg)
          · rw [if_pos y] at w; unfold isSg at y; omega
          · rw [if_neg y] at w; omega
    have q := t_sm hlt hsm
    have hen : en = smE B n bg := by rw [(h.2.2.1 hne).1, sq, ← h.1.2.1, q.1]
    rw [q.2.1]
    have i0 : (en - bg = 4 ∧ ∀ q, 0 ≤ q → q < ((sLen 0 : Nat) : Int) → bA B n (bg + q) = sByt 0 q) ↔ isTx B n bg (smE B n bg) := by rw [hen]; exact tx_iff.symm
    have i1 : (en - bg = 3 ∧ ∀ q, 0 ≤ q → q < ((sLen 1 : Nat) : Int) → bA B n (bg + q) = sByt 1 q) ↔ isPt B n bg (smE B n bg) := by rw [hen]; exact pt_iff.symm
    rw [i0, i1]
    by_cases y : isTx B n bg (smE B n bg)
    · have ny : ¬ isPt B n bg (smE B n bg) := fun z => by have a := y.1; have b := z.1; omega
      rw [if_pos y]
      exact ⟨⟨fun _ => rfl, fun _ => ⟨by omega, y⟩⟩, ⟨fun z => absurd z.2 ny, fun z => by omega⟩⟩
    · rw [if_neg y]
      by_cases x : isPt B n bg (smE B n bg)
      · rw [if_pos x]
        exact ⟨⟨fun z => absurd z.2 y, fun z => by omega⟩, ⟨fun _ => rfl, fun _ => ⟨by omega, x⟩⟩⟩
      · rw [if_neg x]
        exact ⟨⟨fun z => absurd z.2 y, fun z => by omega⟩, ⟨fun z => absurd z.2 x, fun z => by omega⟩⟩
  · exact ⟨⟨fun z => absurd z.1 w, fun z => absurd (by omega) w⟩, ⟨fun z => absurd z.1 w, fun z => absurd (by omega) w⟩⟩
