/-! ===== pure: what each question asks, of texts F with lengths N, c of them; r: the answer, s: the STATUS ===== -/
def HasT (c t : Int) : Prop := 0 ≤ t ∧ t < c
def QLetter (F : Int → Int → Int) (N : Int → Int) (c t p r s : Int) : Prop := s = wpF N c t p 0 ∧ ((s = 0 ∧ r = F t p) ∨ (s ≠ 0 ∧ r = -1))
def QAlike (F : Int → Int → Int) (N : Int → Int) (c t p u q r s : Int) : Prop := s = lwF (wpF N c t p 1) (wpF N c u q 1) ∧ ((s = 0 ∧ LcpIs (fun k => F t (p + k)) (fun k => F u (q + k)) (min (N t - p) (N u - q)) r) ∨ (s ≠ 0 ∧ r = -1))
def QRank (F : Int → Int → Int) (N : Int → Int) (c t l p r s : Int) : Prop := s = (if 0 ≤ l ∧ l < 26 then wpF N c t p 1 else 1) ∧ ((s = 0 ∧ r = cntF (F t) l p) ∨ (s ≠ 0 ∧ r = -1))
def QSelect (F : Int → Int → Int) (N : Int → Int) (c t l i r s : Int) : Prop := (¬ ((0 ≤ l ∧ l < 26) ∧ 0 ≤ i) ∧ s = 1 ∧ r = -1) ∨ (((0 ≤ l ∧ l < 26) ∧ 0 ≤ i) ∧ ¬ HasT c t ∧ s = 2 ∧ r = -1) ∨ (((0 ≤ l ∧ l < 26) ∧ 0 ≤ i) ∧ HasT c t ∧ SelIs (F t) (N t) l i r ∧ s = if r = -1 then 5 else 0)
def QMirror (F : Int → Int → Int) (N : Int → Int) (c t p e r s : Int) : Prop := s = wpF N c t p 0 ∧ ((s = 0 ∧ ∃ far, MirIs (F t) (N t) (p - 1) (if e = 0 then p + 1 else p) far ∧ r = 2 * far + if e = 0 then 1 else 0) ∨ (s ≠ 0 ∧ r = -1))
def QFind (F : Int → Int → Int) (N : Int → Int) (c t u fr r s : Int) : Prop := (fr < 0 ∧ s = 1 ∧ r = -1) ∨ (0 ≤ fr ∧ ¬ (HasT c t ∧ HasT c u) ∧ s = 2 ∧ r = -1) ∨ (0 ≤ fr ∧ (HasT c t ∧ HasT c u) ∧ FindIs (F u) (N u) (F t) (N t) fr r ∧ s = if r = -1 then 5 else 0)
def QFinds (F : Int → Int → Int) (N : Int → Int) (c t u r s : Int) : Prop := (¬ (HasT c t ∧ HasT c u) ∧ s = 2 ∧ r = -1) ∨ ((HasT c t ∧ HasT c u) ∧ r = fndCnt (F u) (N u) (F t) (N t - N u + 1) ∧ s = 0)
def aheadF (F : Int → Int → Int) (N : Int → Int) (n t : Int) : Int := sumF (fun u => if cmpT (F u) (N u) (F t) (N t) < 0 ∨ cmpT (F u) (N u) (F t) (N t) = 0 ∧ u < t then 1 else 0) n
theorem aheadF_eq (L ln : Int → Int) (n t : Int) : aheadCnt L ln n t = aheadF (tx L) ln n t := rfl
def QSorted (F : Int → Int → Int) (N : Int → Int) (c i r s : Int) : Prop := (i < 0 ∧ s = 1 ∧ r = -1) ∨ (0 ≤ i ∧ s = 5 ∧ r = -1 ∧ ∀ t, 0 ≤ t → t < c → aheadF F N c t ≠ i) ∨ (0 ≤ i ∧ s = 0 ∧ 0 ≤ r ∧ r < c ∧ aheadF F N c r = i ∧ ∀ t, 0 ≤ t → t < r → aheadF F N c t ≠ i)
theorem wpF_ok {ln : Int → Int} {cnt t p e : Int} (h : wpF ln cnt t p e = 0) : 0 ≤ p ∧ (0 ≤ t ∧ t < cnt) ∧ (p < ln t ∨ (e ≠ 0 ∧ p = ln t)) := by
  unfold wpF at h
  split at h
  · omega
  · split at h
    · omega
    · split at h
      · rename_i h1 h2 h3
        exact ⟨by omega, Decidable.of_not_not h2, h3⟩
      · omega
theorem wpF_rg (ln : Int → Int) (cnt t p e : Int) : 0 ≤ wpF ln cnt t p e ∧ wpF ln cnt t p e ≤ 5 := by
  unfold wpF
  split
  · omega
  · split
    · omega
    · split <;> omega
theorem lwF_0 {v u : Int} (hv : 0 ≤ v) (hu : 0 ≤ u) (h : lwF v u = 0) : v = 0 ∧ u = 0 := by
  unfold lwF at h
  split at h <;> omega
theorem lwF_n {v u : Int} (hv : 0 ≤ v) (hu : 0 ≤ u) (h : v ≠ 0 ∨ u ≠ 0) : lwF v u ≠ 0 := by
  unfold lwF
  split <;> omega
theorem lwF_z {v u : Int} (hv : v = 0) (hu : u = 0) : lwF v u = 0 := by subst hv; subst hu; rfl
theorem lwF_rg {v u : Int} (hv : 0 ≤ v ∧ v ≤ 9) (hu : 0 ≤ u ∧ u ≤ 9) : 0 ≤ lwF v u ∧ lwF v u ≤ 18 := by
  unfold lwF
  split <;> omega
