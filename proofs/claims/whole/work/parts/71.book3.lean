/-! ===== pure: a step keeps the state; the TOKENS as a book ===== -/
theorem leafE_G {b : Bk} {T : List (List Int)} {c : Nat} (hb : BkG b T c) {k : Nat} {x : List Int × Nat} (h : leafE b T k = .ok x) : (1 ≤ (x.1.length : Int) ∧ (x.1.length : Int) ≤ 600) ∧ LtOk x.1 := by
  unfold leafE at h
  by_cases z : b.K k = 6
  · rw [if_pos z] at h
    by_cases w : 600 < b.V k
    · rw [if_pos w] at h; cases h
    · rw [if_neg w] at h
      injection h with h
      subst h
      exact hb.2.2.2 k z (by omega)
  · rw [if_neg z] at h
    by_cases y : b.K k = 35
    · rw [if_pos y] at h
      cases h1 : numE b (k + 1) 0 ((T.length : Int) - 1) 3 with
      | error e => rw [h1] at h; cases h
      | ok v =>
        rw [h1] at h
        injection h with h
        subst h
        have g := numE_ok h1
        exact hb.2.2.1 _ (getD_mem (by omega))
    · rw [if_neg y] at h; cases h
theorem timesE_G {b : Bk} {k : Nat} {u : List Int} {x : List Int × Nat} (hu : 1 ≤ (u.length : Int)) (hl : LtOk u) (h : timesE b u k = .ok x) : (1 ≤ (x.1.length : Int) ∧ (x.1.length : Int) ≤ 600) ∧ LtOk x.1 := by
  unfold timesE at h
  cases h1 : numE b (k + 1) 1 600 4 with
  | error e => rw [h1] at h; cases h
  | ok v =>
    rw [h1] at h
    simp only at h
    by_cases z : 600 < (u.length : Int) * v
    · rw [if_pos z] at h; cases h
    · rw [if_neg z] at h
      injection h with h
      subst h
      have g1 := numE_ok h1
      refine ⟨?_, hl.rp v⟩
      show 1 ≤ ((rep v u).length : Int) ∧ ((rep v u).length : Int) ≤ 600
      rw [rep_len v u (by omega)]
      have := Int.mul_le_mul hu (show (1 : Int) ≤ v by omega) (by omega) (by omega)
      omega
theorem cutE_G {b : Bk} {k : Nat} {u : List Int} {x : List Int × Nat} (hu : (u.length : Int) ≤ 600) (hl : LtOk u) (h : cutE b u k = .ok x) : (1 ≤ (x.1.length : Int) ∧ (x.1.length : Int) ≤ 600) ∧ LtOk x.1 := by
  unfold cutE at h
  cases h1 : numE b (k + 1) 0 ((u.length : Int) - 1) 4 with
  | error e => rw [h1] at h; cases h
  | ok a =>
    rw [h1] at h
    simp only at h
    by_cases z : b.K (k + 2) = 44
    · rw [if_pos z] at h
      cases h2 : numE b (k + 3) 1 ((u.length : Int) - a) 4 with
      | error e => rw [h2] at h; cases h
      | ok m =>
        rw [h2] at h
        simp only at h
        by_cases w : b.K (k + 4) = 93
        · rw [if_pos w] at h
          injection h with h
          subst h
          have g1 := numE_ok h1
          have g2 := numE_ok h2
          refine ⟨?_, (hl.drop _).take _⟩
          show 1 ≤ (((u.drop a.toNat).take m.toNat).length : Int) ∧ (((u.drop a.toNat).take m.toNat).length : Int) ≤ 600
          rw [List.length_take, List.length_drop]
          omega
        · rw [if_neg w] at h; cases h
    · rw [if_neg z] at h; cases h
theorem PsOk.stp {b : Bk} {T : List (List Int)} {c : Nat} (hb : BkG b T c) {x y : PS} (hx : PsOk x) (h : stp b T x = .ok y) : PsOk y := by
  obtain ⟨k, l, st, s, p, g⟩ := x
  obtain ⟨h6, hB, hl, h0, h1, hg⟩ := hx
  simp only [stg] at h0 h1 hg
  simp only at h6 hB hl
  have hle := hB.le
  rw [stp_eq] at h
  by_cases g0 : g = 0
  · rw [if_pos g0] at h
    have hlp := h0 g0
    unfold stpC at h
    by_cases z : b.K k = 40 ∨ b.K k = 126
    · rw [if_pos z] at h
      by_cases w : 6 ≤ st.length
      · rw [if_pos w] at h; cases h
      · rw [if_neg w] at h
        by_cases v : b.K k = 40
        · rw [if_pos v] at h
          injection h with h
          subst h
          refine ⟨by show (_ :: st).length ≤ 6; rw [List.length_cons]; omega, ⟨by show 0 ≤ (l.length : Int) - (l.length : Int) ∧ (l.length : Int) - (l.length : Int) ≤ 600; omega, Or.inl ⟨rfl, hlp, hB⟩⟩, hl, fun _ => rfl, fun q => absurd rfl q, by show (0 : Int) ≤ 0 ∧ (0 : Int) ≤ 3; omega⟩
        · rw [if_neg v] at h
          injection h with h
          subst h
          refine ⟨by show (_ :: st).length ≤ 6; rw [List.length_cons]; omega, ⟨⟨hle.2.2.1, hle.2.2.2⟩, Or.inr ⟨rfl, rfl, rfl, hB⟩⟩, hl, fun _ => hlp, fun q => absurd rfl q, by show (0 : Int) ≤ 0 ∧ (0 : Int) ≤ 3; omega⟩
    · rw [if_neg z] at h
      cases hx : leafE b T k with
      | error e => rw [hx] at h; cases h
      | ok x =>
        rw [hx] at h
        injection h with h
        subst h
        have gx := leafE_G hb hx
        refine PsOk.eC h6 hB (hl.app gx.2) ?_
        rw [List.length_append]
        omega
  · rw [if_neg g0] at h
    obtain ⟨hn, hnt⟩ := h1 g0
    have hpl : p.toNat ≤ l.length := by omega
    have hdl : ((l.drop p.toNat).length : Int) = (l.length : Int) - p := by rw [List.length_drop]; omega
    have htl : ((l.take p.toNat).length : Int) = p := by rw [List.length_take]; omega
    by_cases z : b.K k = 42
    · rw [if_pos z] at h
      cases hx : timesE b (l.drop p.toNat) k with
      | error e => rw [hx] at h; cases h
      | ok x =>
        rw [hx] at h
        injection h with h
        subst h
        have gx := timesE_G (by omega) (hl.drop _) hx
        refine ⟨h6, hB, (hl.take _).app gx.2, fun q => ?_, fun _ => ⟨?_, hnt⟩, by show (0 : Int) ≤ 2 ∧ (2 : Int) ≤ 3; omega⟩
        · have : (2 : Int) = 0 := q
          omega
        · show 1 ≤ ((l.take p.toNat ++ x.1).length : Int) - p ∧ ((l.take p.toNat ++ x.1).length : Int) - p ≤ 600
          rw [List.length_append]
          omega
    · rw [if_neg z] at h
      by_cases w : b.K k = 91 ∧ g = 1
      · rw [if_pos w] at h
        cases hx : cutE b (l.drop p.toNat) k with
        | error e => rw [hx] at h; cases h
        | ok x =>
          rw [hx] at h
          injection h with h
          subst h
          have gx := cutE_G (by omega) (hl.drop _) hx
          refine ⟨h6, hB, (hl.take _).app gx.2, fun q => ?_, fun _ => ⟨?_, hnt⟩, by show (0 : Int) ≤ 1 ∧ (1 : Int) ≤ 3; omega⟩
          · have : (1 : Int) = 0 := q
            omega
          · show 1 ≤ ((l.take p.toNat ++ x.1).length : Int) - p ∧ ((l.take p.toNat ++ x.1).length : Int) - p ≤ 600
            rw [List.length_append]
            omega
      · rw [if_neg w] at h
        unfold stpP at h
        by_cases v : 600 < (l.length : Int) - s
        · rw [if_pos v] at h; cases h
        · rw [if_neg v] at h
          by_cases u : b.K k = 43
          · rw [if_pos u] at h
            injection h with h
            subst h
            refine ⟨h6, ?_, hl, fun _ => rfl, fun q => absurd rfl q, by show (0 : Int) ≤ 0 ∧ (0 : Int) ≤ 3; omega⟩
            show BdOk st s (l.length : Int)
            cases st with
            | nil => exact ⟨hB.1, by omega, by have := hB.1; omega⟩
            | cons e st =>
              obtain ⟨q1, q2⟩ := hB
              refine ⟨by omega, ?_⟩
              rcases q2 with q2 | q2
              · exact Or.inl q2
              · exact absurd q2.1 (hnt e st rfl)
          · rw [if_neg u] at h
            cases st with
            | nil =>
              simp only at h
              by_cases t : b.K k = 59
              · rw [if_pos t] at h
                injection h with h
                subst h
                refine ⟨h6, hB, hl, fun q => ?_, fun _ => ⟨hn, hnt⟩, by show (0 : Int) ≤ 3 ∧ (3 : Int) ≤ 3; omega⟩
                have : (3 : Int) = 0 := q
                omega
              · rw [if_neg t] at h; cases h
            | cons e st =>
              simp only at h
              by_cases t : b.K k = 41
              · rw [if_pos t] at h
                injection h with h
                subst h
                obtain ⟨q1, q2⟩ := hB
                rw [List.length_cons] at h6
                rcases q2 with q2 | q2
                · exact PsOk.eC (by omega) q2.2.2 hl (by omega)
                · exact absurd q2.1 (hnt e st rfl)
              · rw [if_neg t] at h; cases h
theorem numE_er {b : Bk} {k : Nat} {lo hi q : Int} {e : Ft} (hq : q ≠ 0) (h : numE b k lo hi q = .error e) : e.1 ≠ 0 := by
  unfold numE ftAt at h
  split at h
  · split at h
    · cases h
    · injection h with h; subst h; exact hq
  · injection h with h
    subst h
    show (if b.K k = 1 then 1 else 2 : Int) ≠ 0
    split <;> omega
theorem ftAt_ne (b : Bk) (k : Nat) : (ftAt b k 2).1 ≠ 0 := by
  show (if b.K k = 1 then 1 else 2 : Int) ≠ 0
  split <;> omega
theorem leafE_er {b : Bk} {T : List (List Int)} {k : Nat} {e : Ft} (h : leafE b T k = .error e) : e.1 ≠ 0 := by
  unfold leafE at h
  by_cases z : b.K k = 6
  · rw [if_pos z] at h
    split at h
    · injection h with h; subst h; show (5 : Int) ≠ 0; decide
    · cases h
  · rw [if_neg z] at h
    by_cases y : b.K k = 35
    · rw [if_pos y] at h
      cases h1 : numE b (k + 1) 0 ((T.length : Int) - 1) 3 with
      | error e2 => rw [h1] at h; injection h with h; subst h; exact numE_er (by decide) h1
      | ok v => rw [h1] at h; cases h
    · rw [if_neg y] at h; injection h with h; subst h; exact ftAt_ne b k
/-- the TOKENS of the bytes B, n of them, as a book -/
def bkOf (B : Int → Int) (n : Int) : Bk := (tkK B n, tkB B n, tkV B n, fun k => rowL (fun i => B (tkB B n k + 1 + i) - 97) (tkV B n k))
theorem sq_nn (B : Int → Int) {n : Int} (hn : 0 ≤ n) : ∀ k : Nat, 0 ≤ sq B n k
  | 0 => Int.le_refl 0
  | k + 1 => by
    have h1 := sq_nn B hn k
    have h2 : sq B n k ≤ skp B n (sq B n k) := fwd_ge _ _ _
    rw [sq]
    by_cases z : skp B n (sq B n k) < n
    · have := tE_gt (B := B) z; omega
    · rw [(t_end (by omega)).1]; exact hn
theorem tkB_rg (B : Int → Int) {n : Int} (hn : 0 ≤ n) (k : Nat) : 0 ≤ tkB B n k ∧ tkB B n k ≤ n := by
  have h1 := sq_nn B hn k
  have h2 : sq B n k ≤ skp B n (sq B n k) := fwd_ge _ _ _
  unfold tkB
  omega
theorem tK_rg (B : Int → Int) (n b : Int) : 0 ≤ tK B n b ∧ tK B n b ≤ 126 := by
  by_cases h : n ≤ b
  · rw [(t_end h).2.1]; omega
  · have h : b < n := by omega
    by_cases z1 : smB (B b) = true
    · rw [(t_sm h z1).2.1]; split <;> (try split) <;> omega
    · by_cases z2 : dgB (B b) = true
      · rw [(t_dg h (bF z1) z2).2.1]; split <;> omega
      · by_cases z3 : B b = 34
        · rw [(t_qt h z3).2.1]; split <;> omega
        · rw [(t_sg h (bF z1) (bF z2) z3).2.1]
          by_cases w : isSg (B b)
          · rw [if_pos w]; omega
          · rw [if_neg w]; omega
theorem tV_rg {B : Int → Int} {n b : Int} (hb : 0 ≤ b) (hn : n ≤ 900) : 0 ≤ tV B n b ∧ tV B n b ≤ 9999 := by
  by_cases h : n ≤ b
  · rw [(t_end h).2.2]; omega
  · have h : b < n := by omega
    by_cases z1 : smB (B b) = true
    · rw [(t_sm h z1).2.2]; omega
    · by_cases z2 : dgB (B b) = true
      · rw [(t_dg h (bF z1) z2).2.2]
        have hg : b ≤ dgE B n b := fwd_ge _ _ _
        exact dcN_rg _ (fun q a c => fwd_all (fun q => dgB (B q)) n b q a (by unfold dgE at c; unfold dgE at hg; omega))
      · by_cases z3 : B b = 34
        · rw [(t_qt h z3).2.2]
          have h1 : b + 1 ≤ smE B n (b + 1) := fwd_ge _ _ _
          have h2 : smE B n (b + 1) ≤ n := fwd_le _ (by omega)
          omega
        · rw [(t_sg h (bF z1) (bF z2) z3).2.2]; omega
theorem tkV_rg (B : Int → Int) {n : Int} (hn : 0 ≤ n ∧ n ≤ 900) (k : Nat) : 0 ≤ tkV B n k ∧ tkV B n k ≤ 9999 := by
  have h1 := sq_nn B hn.1 k
  have h2 : sq B n k ≤ skp B n (sq B n k) := fwd_ge _ _ _
  exact tV_rg (by omega) hn.2
theorem tk_qt {B : Int → Int} {n b : Int} (h : tK B n b = 6) : b < n ∧ B b = 34 ∧ 0 < smE B n (b + 1) - b - 1 := by
  by_cases hb : n ≤ b
  · rw [(t_end hb).2.1] at h; omega
  · have hb : b < n := by omega
    by_cases z1 : smB (B b) = true
    · rw [(t_sm hb z1).2.1] at h; split at h <;> (try split at h) <;> omega
    · by_cases z2 : dgB (B b) = true
      · rw [(t_dg hb (bF z1) z2).2.1] at h; split at h <;> omega
      · by_cases z3 : B b = 34
        · rw [(t_qt hb z3).2.1] at h
          split at h
          · exact ⟨hb, z3, ‹_ ∧ _›.1⟩
          · omega
        · rw [(t_sg hb (bF z1) (bF z2) z3).2.1] at h
          by_cases w : isSg (B b)
          · rw [if_pos w] at h; omega
          · rw [if_neg w] at h; omega
/-- the letters of a QUOTE -/
theorem qt_at {B : Int → Int} {n : Int} {k : Nat} (h : tkK B n k = 6) : (1 ≤ tkV B n k) ∧ ∀ i, 0 ≤ i → i < tkV B n k → (97 ≤ B (tkB B n k + 1 + i) ∧ B (tkB B n k + 1 + i) ≤ 122) ∧ tkB B n k + 1 + i < n := by
  unfold tkK at h
  obtain ⟨h1, h2, h3⟩ := tk_qt h
  have hv := (t_qt h1 h2).2.2
  have hB : tkB B n k = skp B n (sq B n k) := by unfold tkB; omega
  have hV : tkV B n k = smE B n (skp B n (sq B n k) + 1) - skp B n (sq B n k) - 1 := hv
  rw [hB, hV]
  have hle : smE B n (skp B n (sq B n k) + 1) ≤ n := fwd_le _ (by omega)
  refine ⟨by omega, fun i a c => ⟨?_, by omega⟩⟩
  have := fwd_all (fun q => smB (B q)) n (skp B n (sq B n k) + 1) (skp B n (sq B n k) + 1 + i) (by omega) (by unfold smE at c; omega)
  exact smB_iff.mp this
theorem bkOf_Q {B : Int → Int} {n : Int} : QOk (bkOf B n) := by
  intro k hk hv
  have h := qt_at (B := B) (n := n) (k := k) hk
  have hl : ((rowL (fun i => B (tkB B n k + 1 + i) - 97) (tkV B n k)).length : Int) = tkV B n k := rowL_lenI _ (by omega)
  have hl : (((bkOf B n).Q k).length : Int) = tkV B n k := hl
  have hv' : tkV B n k ≤ 600 := hv
  refine ⟨by omega, fun v hv => ?_⟩
  have hv2 : v ∈ (List.range (tkV B n k).toNat).map (fun j : Nat => B (tkB B n k + 1 + (j : Int)) - 97) := hv
  obtain ⟨j, hj, rfl⟩ := List.mem_map.mp hv2
  rw [List.mem_range] at hj
  have := (h.2 j (by omega) (by omega)).1
  omega
