/-! ===== laying a text ===== -/
theorem rnd_prs {r : Int} {l : List Rl} : rnd r l = if r < 31 then prs r (gather l) else prs r l := by
  unfold rnd prs
  by_cases h : r < 31
  · rw [if_pos h, if_pos h, if_pos h]
  · rw [if_neg h, if_neg h, if_neg h]
theorem prs_len {r : Int} (h : 31 ≤ r) {f f2 : Int → Rl} {z z2 : Int} (hz : 0 ≤ z2 ∧ 0 ≤ z) (e : seg f2 0 z2 = prs r (seg f 0 z)) : z2 = (z + 1) / 2 := by
  unfold prs at e
  rw [if_neg (by omega)] at e
  exact pairP_seg hz e
/-- the letters of a text, as rules of the table -/
def LetIn (al : Int → Int) (pc b : Int) (R9 : Int → Rl) (ro9 : Int → Int) (rc9 n : Int) : Prop :=
  (∀ j, 0 ≤ j → j < n → (0 ≤ ro9 j ∧ ro9 j < rc9) ∧ R9 (ro9 j) = rLet (al (pc + j))) ∧ (∀ i, b ≤ i → i < rc9 → ∃ c, 0 ≤ c ∧ c ≤ 25 ∧ R9 i = rLet c) ∧ Cov R9 b rc9 (seg (rw_ R9 ro9) 0 n)
theorem LetIn.start {al : Int → Int} {pc b : Int} {R : Int → Rl} {ro : Int → Int} : LetIn al pc b R ro b 0 := ⟨fun j a c => absurd c (by omega), fun i a c => absurd c (by omega), fun i a c => absurd c (by omega)⟩
theorem LetIn.step {al : Int → Int} {pc b : Int} {R9 R10 : Int → Rl} {ro9 : Int → Int} {rc9 rc10 n x : Int} (h : LetIn al pc b R9 ro9 rc9 n) (hn : 0 ≤ n) (hb : 0 ≤ b) (hl : 0 ≤ al (pc + n) ∧ al (pc + n) ≤ 25) (hr : rc9 ≤ rc10 ∧ rc10 ≤ rc9 + 1) (hR : ∀ i, 0 ≤ i → i < rc9 → R10 i = R9 i) (hx : 0 ≤ x ∧ x < rc10) (ht : R10 x = rLet (al (pc + n))) (hx2 : rc10 = rc9 ∨ x = rc9) : LetIn al pc b R10 (up ro9 n x) rc10 (n + 1) := by
  obtain ⟨h1, h2, h3⟩ := h
  refine ⟨fun j a c => ?_, fun i a c => ?_, ?_⟩
  · by_cases z : j = n
    · rw [z, up_same]; exact ⟨hx, ht⟩
    · rw [up_ne _ _ z]
      have := h1 j a (by omega)
      exact ⟨by omega, by rw [hR _ this.1.1 this.1.2]; exact this.2⟩
  · by_cases z : i < rc9
    · obtain ⟨c1, c2, c3, c4⟩ := h2 i a z
      exact ⟨c1, c2, c3, by rw [hR i (by omega) z]; exact c4⟩
    · have e : i = x := by omega
      exact ⟨_, hl.1, hl.2, by rw [e]; exact ht⟩
  · have h9 := Cov.step (f := fun _ => rLet (al (pc + n))) (s := 0) (e := 1) (sz := 1) (t := rLet (al (pc + n))) (R9 := R9) (R10 := R10) (ro9 := ro9) (k := n) (x := x) (rc10 := rc10) (h3.mono (fun a ha => ⟨a, List.mem_append_left _ ha, Sub.self a⟩)) hn hb (by omega) (fun j a c => (h1 j a c).1) hr hx2 hR ht (fun j a c => Sub.self _)
    rw [seg_nil (fun _ => rLet (al (pc + n))) (Int.le_refl 1), List.append_nil] at h9
    exact h9
theorem LetIn.seg {al : Int → Int} {pc b : Int} {R9 : Int → Rl} {ro9 : Int → Int} {rc9 n : Int} (h : LetIn al pc b R9 ro9 rc9 n) : seg (rw_ R9 ro9) 0 n = lts al pc n := seg_cong (fun j a c => (h.1 j a c).2)
theorem lts_sum (al : Int → Int) (pc : Int) {n : Int} (h : 0 ≤ n) : sumLen (lts al pc n) = n := by
  have := sumLen_lts al pc n.toNat (s := 0) (c := n) (by omega) (by omega)
  show sumLen (seg (fun k => rLet (al (pc + k))) 0 n) = n
  omega
theorem lts_b (al : Int → Int) (b t n : Int) : lts al (b + 9 + 600 * t) n = lts (oF al b t) 0 n := lts_cong (fun k _ _ => by unfold oF; rw [Int.zero_add])
/-- the rules of the new ones all stand in the top -/
theorem Cov.top {R : Int → Rl} {b rc : Int} {t : Rl} (h : Cov R b rc [t]) : ∀ i, b ≤ i → i < rc → Sub (R i) t := fun i a c => by
  obtain ⟨x, hx, hs⟩ := h i a c
  rw [List.mem_singleton.mp hx] at hs
  exact hs
theorem visT_b {al : Int → Int} {b i q : Int} {t : Rl} (hi : 0 ≤ i) (h : BIs (lts (oF al b i) 0 (oN al b i)) t q) (V : List (Rl × Int)) : visT (topsB al b) (i + 1).toNat V = vis t 0 (visT (topsB al b) i.toNat V) := by
  rw [visT_succ _ hi]
  unfold topsB
  rw [topF_is h]
