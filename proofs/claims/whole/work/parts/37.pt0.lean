/-! ===== pure: the tops of a shelf ===== -/
def TopsOk (R : Int → Rl) (rc : Int) (L ln tp rd : Int → Int) (n : Int) : Prop := ∀ t, 0 ≤ t → t < n → (0 ≤ tp t ∧ tp t < rc) ∧ BIs (lts L (t * 600) (ln t)) (R (tp t)) (rd t)
theorem TopsOk.ext {R R2 : Int → Rl} {rc rc2 : Int} {L ln tp rd : Int → Int} {n : Int} (h : TopsOk R rc L ln tp rd n) (hr : rc ≤ rc2) (hag : ∀ i, 0 ≤ i → i < rc → R2 i = R i) : TopsOk R2 rc2 L ln tp rd n := fun t a b => by
  obtain ⟨h1, h2⟩ := h t a b
  exact ⟨by omega, by rw [hag _ h1.1 h1.2]; exact h2⟩
theorem TopsOk.step {R : Int → Rl} {rc : Int} {L ln tp rd : Int → Int} {n x q : Int} (h : TopsOk R rc L ln tp rd n) (hx : 0 ≤ x ∧ x < rc) (hb : BIs (lts L (n * 600) (ln n)) (R x) q) : TopsOk R rc L ln (up tp n x) (up rd n q) (n + 1) := fun t a b => by
  by_cases e : t = n
  · subst e; rw [up_same, up_same]; exact ⟨hx, hb⟩
  · rw [up_ne _ _ e, up_ne _ _ e]; exact h t a (by omega)
/-- a shelf's letters and lengths -/
def ShOk (L ln : Int → Int) (cnt : Int) : Prop := (0 ≤ cnt ∧ cnt ≤ 8) ∧ BR L ∧ ∀ t, 0 ≤ t → t < cnt → (1 ≤ ln t ∧ ln t ≤ 600) ∧ ∀ k, 0 ≤ k → k < ln t → 0 ≤ tx L t k ∧ tx L t k ≤ 25
theorem ShOk.ln {L ln : Int → Int} {cnt : Int} (h : ShOk L ln cnt) : ∀ j, 0 ≤ j → j < cnt → 0 ≤ ln j ∧ ln j ≤ 600 := fun j a b => by have := (h.2.2 j a b).1; omega
theorem sumF_mono {f : Int → Int} {n : Int} (h : ∀ j, 0 ≤ j → j < n → 0 ≤ f j) : ∀ (m : Nat) {i : Int}, 0 ≤ i → i + m ≤ n → sumF f i ≤ sumF f (i + m)
  | 0, i, _, _ => by simp
  | m + 1, i, a, b => by
    have h1 := sumF_mono h m a (by omega)
    rw [show i + ((m + 1 : Nat) : Int) = (i + m) + 1 by omega, sumF_succ _ (by omega)]
    have := h (i + m) (by omega) (by omega)
    omega
theorem sumF_le {f : Int → Int} {i n : Int} (h : ∀ j, 0 ≤ j → j < n → 0 ≤ f j) (a : 0 ≤ i) (b : i ≤ n) : sumF f i ≤ sumF f n := by
  have := sumF_mono h (n - i).toNat a (by omega)
  rw [show i + ((n - i).toNat : Int) = n by omega] at this
  exact this
theorem sumF_600 {f : Int → Int} {n : Int} (h : ∀ j, 0 ≤ j → j < n → 0 ≤ f j ∧ f j ≤ 600) (hn : 0 ≤ n ∧ n ≤ 8) : 0 ≤ sumF f n ∧ sumF f n ≤ 4800 := by
  have := sumF_bd (f := f) (m := 600) (by omega) n.toNat (fun j a b => h j a (by omega))
  unfold sumF
  omega
