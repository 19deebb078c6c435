/-! ===== pure: the steps out of what the class's methods tell ===== -/
theorem ftAt_rg (b : Bk) (k : Nat) : 1 ≤ (ftAt b k 2).1 ∧ (ftAt b k 2).1 ≤ 2 := by
  show 1 ≤ (if b.K k = 1 then 1 else 2 : Int) ∧ (if b.K k = 1 then 1 else 2 : Int) ≤ 2
  split <;> omega
theorem blm_rg {f e f9 : Ft} (h : f9 = blm f e) (hf : -1 ≤ f.1 ∧ f.1 ≤ 9) (he : 1 ≤ e.1 ∧ e.1 ≤ 9) : -1 ≤ f9.1 ∧ f9.1 ≤ 9 := by
  subst h
  unfold blm
  split <;> omega
theorem head_sim {b : Bk} {T : List (List Int)} {i i1 r i2 i3 : Int} {f f1 f2 f3 : Ft} (hi : 0 ≤ i) (hf : f.1 = 0) (h0 : b.K i.toNat ≠ 3) (h1 : ExpR b i 4 f i1 f1) (h2 : NumR b i1 0 ((T.length : Int) - 1) 3 f1 r i2 f2) (h3 : ExpR b i2 61 f2 i3 f3) :
    (f3.1 = 0 → headE b T i.toNat = .ok (r.toNat, i3.toNat) ∧ i3 = i + 3 ∧ (0 ≤ r ∧ r ≤ (T.length : Int) - 1)) ∧ (f3.1 ≠ 0 → headE b T i.toNat = .error f3) := by
  unfold headE
  rw [if_neg h0]
  rcases h1 with ⟨e1, j1, g1⟩ | ⟨e1, j1, g1⟩
  · rw [if_pos e1]
    subst j1
    subst g1
    rcases h2 with ⟨e2, j2, g2⟩ | ⟨e, e2, j2, g2⟩
    · rw [show (i + 1).toNat = i.toNat + 1 by omega] at e2
      rw [e2]
      simp only
      subst j2
      subst g2
      rcases h3 with ⟨e3, j3, g3⟩ | ⟨e3, j3, g3⟩
      · rw [show (i + 1 + 1).toNat = i.toNat + 2 by omega] at e3
        rw [if_pos e3]
        subst j3
        subst g3
        have n2 := numE_ok e2
        exact ⟨fun _ => ⟨by rw [show (i + 1 + 1 + 1).toNat = i.toNat + 3 by omega], by omega, by omega⟩, fun z => absurd hf z⟩
      · rw [show (i + 1 + 1).toNat = i.toNat + 2 by omega] at e3 g3
        rw [if_neg e3, g3, blm_0 hf]
        exact ⟨fun z => absurd z (ftAt_ne _ _), fun _ => rfl⟩
    · rw [show (i + 1).toNat = i.toNat + 1 by omega] at e2
      rw [e2]
      simp only
      rw [blm_0 hf] at g2
      have hn := numE_er (by decide) e2
      have g3 : f3 = e := by
        rw [g2] at h3
        rcases h3 with ⟨_, _, g3⟩ | ⟨_, _, g3⟩
        · exact g3
        · rw [g3, blm_n hn]
      rw [g3]
      exact ⟨fun z => absurd z hn, fun _ => rfl⟩
  · rw [if_neg e1]
    rw [blm_0 hf] at g1
    have hn : f1.1 ≠ 0 := by rw [g1]; exact ftAt_ne _ _
    have g2 : f2 = f1 := by
      rcases h2 with ⟨_, _, g2⟩ | ⟨_, _, _, g2⟩
      · exact g2
      · rw [g2, blm_n hn]
    have g3 : f3 = f1 := by
      rw [g2] at h3
      rcases h3 with ⟨_, _, g3⟩ | ⟨_, _, g3⟩
      · exact g3
      · rw [g3, blm_n hn]
    rw [g3]
    exact ⟨fun z => absurd z hn, fun _ => by rw [g1]⟩
section STEPS
variable {b : Bk} {T : List (List Int)} {fg fg9 rl rl9 dp dp9 ss pp sg : Int} {RL RL8 RL9 eo es ep : Int → Int}
theorem leaf_step {c : List Int} (hk : ¬ (b.K fg.toNat = 40 ∨ b.K fg.toNat = 126)) (hl : leafE b T fg.toNat = .ok (c, fg9.toNat)) (hrow : rowL RL9 rl9 = rowL RL rl ++ c) (hpop : popT pp.toNat (rowL RL9 rl9) (stkO eo es ep dp.toNat) = (rowL RL8 rl9, stkO eo es ep dp9.toNat)) : stp b T (psOf fg RL rl eo es ep dp ss pp 0) = .ok (psOf fg9 RL8 rl9 eo es ep dp9 ss pp 1) := by
  unfold psOf
  rw [stp_0]
  unfold stpC
  rw [if_neg hk, hl]
  simp only
  unfold endC
  rw [← hrow, hpop]
theorem leaf_err {e : Ft} (hk : ¬ (b.K fg.toNat = 40 ∨ b.K fg.toNat = 126)) (hl : leafE b T fg.toNat = .error e) : stp b T (psOf fg RL rl eo es ep dp ss pp 0) = .error e := by
  unfold psOf
  rw [stp_0]
  unfold stpC
  rw [if_neg hk, hl]
theorem leaf_q (h : b.K fg.toNat = 6) (hv : b.V fg.toNat ≤ 600) (hg : 0 ≤ fg) : leafE b T fg.toNat = .ok (b.Q fg.toNat, (fg + 1).toNat) := by
  unfold leafE
  rw [if_pos h, if_neg (by omega), toNat_succ hg]
theorem leaf_qe (h : b.K fg.toNat = 6) (hv : 600 < b.V fg.toNat) : leafE b T fg.toNat = .error (5, b.P fg.toNat) := by
  unfold leafE
  rw [if_pos h, if_pos hv]
theorem leaf_n (h : b.K fg.toNat = 35) (hg : 0 ≤ fg) {v : Int} (hv : numE b (fg + 1).toNat 0 ((T.length : Int) - 1) 3 = .ok v) : leafE b T fg.toNat = .ok (T.getD v.toNat [], (fg + 1 + 1).toNat) := by
  unfold leafE
  rw [toNat_succ hg] at hv
  rw [if_neg (by rw [h]; decide), if_pos h, hv, show (fg + 1 + 1).toNat = fg.toNat + 2 by omega]
theorem leaf_ne (h : b.K fg.toNat = 35) (hg : 0 ≤ fg) {e : Ft} (hv : numE b (fg + 1).toNat 0 ((T.length : Int) - 1) 3 = .error e) : leafE b T fg.toNat = .error e := by
  unfold leafE
  rw [toNat_succ hg] at hv
  rw [if_neg (by rw [h]; decide), if_pos h, hv]
theorem leaf_no (h6 : b.K fg.toNat ≠ 6) (h35 : b.K fg.toNat ≠ 35) : leafE b T fg.toNat = .error (ftAt b fg.toNat 2) := by
  unfold leafE
  rw [if_neg h6, if_neg h35]
theorem open_err (h : b.K fg.toNat = 40 ∨ b.K fg.toNat = 126) (hd : 6 ≤ dp) : stp b T (psOf fg RL rl eo es ep dp ss pp 0) = .error (6, b.P fg.toNat) := by
  unfold psOf
  rw [stp_0]
  unfold stpC
  rw [if_pos h, if_pos (by rw [stkO_len]; omega)]
theorem open_par (h : b.K fg.toNat = 40) (hd : 0 ≤ dp ∧ dp < 6) (hg : 0 ≤ fg) (hr : 0 ≤ rl) : stp b T (psOf fg RL rl eo es ep dp ss pp 0) = .ok (psOf (fg + 1) RL rl (up eo dp 40) (up es dp ss) (up ep dp pp) (dp + 1) rl rl 0) := by
  unfold psOf
  rw [stp_0]
  unfold stpC
  rw [if_pos (Or.inl h), if_neg (by rw [stkO_len]; omega), if_pos h, stkO_push _ _ _ _ _ _ hd.1, rowL_lenI _ hr, toNat_succ hg]
theorem open_til (h : b.K fg.toNat = 126) (hd : 0 ≤ dp ∧ dp < 6) (hg : 0 ≤ fg) : stp b T (psOf fg RL rl eo es ep dp ss pp 0) = .ok (psOf (fg + 1) RL rl (up eo dp 126) (up es dp ss) (up ep dp pp) (dp + 1) ss pp 0) := by
  unfold psOf
  rw [stp_0]
  unfold stpC
  rw [if_pos (Or.inr h), if_neg (by rw [stkO_len]; omega), if_neg (by rw [h]; decide), stkO_push _ _ _ _ _ _ hd.1, toNat_succ hg]
theorem times_err {e : Ft} (h0 : sg ≠ 0) (hk : b.K fg.toNat = 42) (ht : timesE b ((rowL RL rl).drop pp.toNat) fg.toNat = .error e) : stp b T (psOf fg RL rl eo es ep dp ss pp sg) = .error e := by
  unfold psOf
  rw [stp_eq, if_neg h0, if_pos hk, ht]
theorem times_ok {c : List Int} (h0 : sg ≠ 0) (hk : b.K fg.toNat = 42) (ht : timesE b ((rowL RL rl).drop pp.toNat) fg.toNat = .ok (c, fg9.toNat)) (hr : rowL RL9 rl9 = (rowL RL rl).take pp.toNat ++ c) : stp b T (psOf fg RL rl eo es ep dp ss pp sg) = .ok (psOf fg9 RL9 rl9 eo es ep dp ss pp 2) := by
  unfold psOf
  rw [stp_eq, if_neg h0, if_pos hk, ht]
  simp only
  rw [hr]
theorem cut_err {e : Ft} (hk : b.K fg.toNat = 91) (ht : cutE b ((rowL RL rl).drop pp.toNat) fg.toNat = .error e) : stp b T (psOf fg RL rl eo es ep dp ss pp 1) = .error e := by
  unfold psOf
  rw [stp_eq, if_neg (by decide), if_neg (by rw [hk]; decide), if_pos ⟨hk, rfl⟩, ht]
theorem cut_ok {c : List Int} (hk : b.K fg.toNat = 91) (ht : cutE b ((rowL RL rl).drop pp.toNat) fg.toNat = .ok (c, fg9.toNat)) (hr : rowL RL9 rl9 = (rowL RL rl).take pp.toNat ++ c) : stp b T (psOf fg RL rl eo es ep dp ss pp 1) = .ok (psOf fg9 RL9 rl9 eo es ep dp ss pp 1) := by
  unfold psOf
  rw [stp_eq, if_neg (by decide), if_neg (by rw [hk]; decide), if_pos ⟨hk, rfl⟩, ht]
  simp only
  rw [hr]
theorem end_eq (h0 : sg ≠ 0) (h42 : b.K fg.toNat ≠ 42) (h91 : ¬ (b.K fg.toNat = 91 ∧ sg = 1)) : stp b T (psOf fg RL rl eo es ep dp ss pp sg) = stpP b fg.toNat (rowL RL rl) (stkO eo es ep dp.toNat) ss pp := by
  unfold psOf
  rw [stp_eq, if_neg h0, if_neg h42, if_neg h91]
theorem end_long (hr : 0 ≤ rl) (h : 600 < rl - ss) : stpP b fg.toNat (rowL RL rl) (stkO eo es ep dp.toNat) ss pp = .error (5, b.P (fg.toNat - 1)) := by
  unfold stpP
  rw [if_pos (by rw [rowL_lenI _ hr]; exact h)]
theorem end_plus (hr : 0 ≤ rl) (h : rl - ss ≤ 600) (hg : 0 ≤ fg) (hk : b.K fg.toNat = 43) : stpP b fg.toNat (rowL RL rl) (stkO eo es ep dp.toNat) ss pp = .ok (psOf (fg + 1) RL rl eo es ep dp ss rl 0) := by
  unfold stpP psOf
  rw [if_neg (by rw [rowL_lenI _ hr]; omega), if_pos hk, rowL_lenI _ hr, toNat_succ hg]
theorem end_par (hr : 0 ≤ rl) (h : rl - ss ≤ 600) (hg : 0 ≤ fg) (hk : b.K fg.toNat = 41) (hd : 0 < dp) {pp9 : Int} (hp : pp9 = ep (dp - 1)) (hpop : popT pp9.toNat (rowL RL rl) (stkO eo es ep (dp - 1).toNat) = (rowL RL9 rl, stkO eo es ep dp9.toNat)) : stpP b fg.toNat (rowL RL rl) (stkO eo es ep dp.toNat) ss pp = .ok (psOf (fg + 1) RL9 rl eo es ep dp9 (es (dp - 1)) pp9 1) := by
  unfold stpP psOf
  rw [if_neg (by rw [rowL_lenI _ hr]; omega), if_neg (by rw [hk]; decide), stkO_pop _ _ _ hd]
  simp only
  rw [if_pos hk]
  unfold endC
  rw [← hp, hpop, toNat_succ hg]
theorem end_semi (hr : 0 ≤ rl) (h : rl - ss ≤ 600) (hg : 0 ≤ fg) (hk : b.K fg.toNat = 59) (hd : dp = 0) : stpP b fg.toNat (rowL RL rl) (stkO eo es ep dp.toNat) ss pp = .ok (psOf (fg + 1) RL rl eo es ep dp ss pp 3) := by
  subst hd
  unfold stpP psOf
  rw [if_neg (by rw [rowL_lenI _ hr]; omega), if_neg (by rw [hk]; decide)]
  show (if b.K fg.toNat = 59 then _ else _) = _
  rw [if_pos hk, toNat_succ hg]
  rfl
theorem end_bad (hr : 0 ≤ rl) (h : rl - ss ≤ 600) (hd : 0 ≤ dp) (h43 : b.K fg.toNat ≠ 43) (h41 : ¬ (b.K fg.toNat = 41 ∧ 0 < dp)) (h59 : ¬ (b.K fg.toNat = 59 ∧ dp = 0)) : stpP b fg.toNat (rowL RL rl) (stkO eo es ep dp.toNat) ss pp = .error (ftAt b fg.toNat 2) := by
  unfold stpP
  rw [if_neg (by rw [rowL_lenI _ hr]; omega), if_neg h43]
  by_cases z : dp = 0
  · subst z
    show (if b.K fg.toNat = 59 then _ else _) = _
    rw [if_neg (fun q => h59 ⟨q, rfl⟩)]
  · rw [stkO_pop _ _ _ (by omega)]
    simp only
    rw [if_neg (fun q => h41 ⟨q, by omega⟩)]
end STEPS
theorem times_e {b : Bk} {u : List Int} {i r i9 : Int} {f f9 : Ft} (hi : 0 ≤ i) (hf : f.1 = 0) (h : NumR b (i + 1) 1 600 4 f r i9 f9) :
    (f9.1 ≠ 0 → timesE b u i.toNat = .error f9) ∧ (f9.1 = 0 → i9 = i + 2 ∧ f9 = f ∧ (1 ≤ r ∧ r ≤ 600) ∧ (600 < (u.length : Int) * r → timesE b u i.toNat = .error (5, b.P (i + 1).toNat)) ∧ ((u.length : Int) * r ≤ 600 → timesE b u i.toNat = .ok (rep r u, i9.toNat))) := by
  unfold timesE
  rcases h with ⟨e1, j1, g1⟩ | ⟨e, e1, j1, g1⟩
  · rw [show (i + 1).toNat = i.toNat + 1 by omega] at e1
    rw [e1]
    simp only
    subst j1
    subst g1
    have n1 := numE_ok e1
    refine ⟨fun z => absurd hf z, fun _ => ⟨by omega, rfl, by omega, fun z => ?_, fun z => ?_⟩⟩
    · rw [if_pos z, show (i + 1).toNat = i.toNat + 1 by omega]
    · rw [if_neg (by omega), show (i + 1 + 1).toNat = i.toNat + 2 by omega]
  · rw [show (i + 1).toNat = i.toNat + 1 by omega] at e1
    rw [e1]
    simp only
    rw [blm_0 hf] at g1
    rw [g1]
    exact ⟨fun _ => rfl, fun z => absurd z (numE_er (by decide) e1)⟩
