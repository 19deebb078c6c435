theorem RowOk.let {kd fi se sg le de : Int → Int} {R : Int → Rl} {i : Int} (h : RowOk kd fi se sg le de R i) (k : kd i = 0) : R i = rLet i ∧ i < 26 ∧ fi i = i ∧ se i = -1 := by
  rcases h.1 with z | z | z
  · exact ⟨z.2.1, z.1, z.2.2.2.1, z.2.2.2.2⟩
  · omega
  · omega
theorem RowOk.pair {kd fi se sg le de : Int → Int} {R : Int → Rl} {i : Int} (h : RowOk kd fi se sg le de R i) (k : kd i = 1) : R i = rPair (R (fi i)) (R (se i)) ∧ 0 ≤ fi i ∧ fi i < i ∧ 0 ≤ se i ∧ se i < i := by
  rcases h.1 with z | z | z
  · omega
  · exact ⟨z.2.2.2.2.2.2, z.2.2.1, z.2.2.2.1, z.2.2.2.2.1, z.2.2.2.2.2.1⟩
  · omega
theorem RowOk.run {kd fi se sg le de : Int → Int} {R : Int → Rl} {i : Int} (h : RowOk kd fi se sg le de R i) (k : kd i ≠ 0) (k2 : kd i ≠ 1) : R i = rRun (se i) (R (fi i)) ∧ 0 ≤ fi i ∧ fi i < i ∧ 2 ≤ se i ∧ se i ≤ 600 ∧ kd i = 2 := by
  rcases h.1 with z | z | z
  · omega
  · omega
  · exact ⟨z.2.2.2.2.2.2, z.2.2.1, z.2.2.2.1, z.2.2.2.2.1, z.2.2.2.2.2.1, z.2.1⟩
section VS
variable {R : Int → Rl} {op no : Int → Int} {m i K : Int} {r : Rl} {p : Int} {V T : List (Rl × Int)} {L : List (Rl × Int)}
theorem vs_old (hpop : L = (r, p) :: stk R op no m) (hvs : visS L V = T) (h : InV V r) : visS (stk R op no m) V = T := by
  rw [hpop] at hvs
  rw [← hvs]
  show _ = visS _ (vis r p V)
  rw [vis_old h]
theorem vs_let {c : Int} (hpop : L = (r, p) :: stk R op no m) (hvs : visS L V = T) (h : ¬ InV V r) (e : r = rLet c) : visS (stk R op no m) (V ++ [(r, p)]) = T := by
  subst e
  rw [hpop] at hvs
  rw [← hvs]
  show _ = visS _ (vis _ p V)
  rw [vis_let h]
theorem vs_run {n y : Int} (hpop : L = (r, p) :: stk R op no m) (hvs : visS L V = T) (h : ¬ InV V r) (e : r = rRun n (R y)) (hm : 0 ≤ m) : visS (stk R (up op m y) (up no m p) (m + 1)) (V ++ [(r, p)]) = T := by
  subst e
  rw [hpop] at hvs
  rw [← hvs, stk_push hm]
  show visS _ (vis (R y) p _) = visS _ (vis _ p V)
  rw [vis_run h]
theorem vs_pair {y z q : Int} (hpop : L = (r, p) :: stk R op no m) (hvs : visS L V = T) (h : ¬ InV V r) (e : r = rPair (R y) (R z)) (hm : 0 ≤ m) (hq : q = rlen (R y)) : visS (stk R (up (up op m z) (m + 1) y) (up (up no m (p + q)) (m + 1) p) (m + 1 + 1)) (V ++ [(r, p)]) = T := by
  subst e
  rw [hpop] at hvs
  rw [← hvs, stk_push (by omega), stk_push hm]
  show visS _ (vis (R z) (p + q) (vis (R y) p _)) = visS _ (vis _ p V)
  rw [vis_pair h, hq]
theorem nn_old (hpop : L = (r, p) :: stk R op no m) (h : i + nodS L ≤ K) : i + 1 + nodS (stk R op no m) ≤ K := by
  rw [hpop] at h
  have h1 : i + (nod r + nodS (stk R op no m)) ≤ K := h
  have := nod_pos r
  omega
theorem nn_run {n y q : Int} (hpop : L = (r, p) :: stk R op no m) (h : i + nodS L ≤ K) (e : r = rRun n (R y)) (hm : 0 ≤ m) : i + 1 + nodS (stk R (up op m y) (up no m q) (m + 1)) ≤ K := by
  subst e
  rw [hpop] at h
  have h1 : i + (1 + nod (R y) + nodS (stk R op no m)) ≤ K := h
  rw [stk_push hm]
  show i + 1 + (nod (R y) + nodS _) ≤ K
  omega
theorem nn_pair {y z q q2 : Int} (hpop : L = (r, p) :: stk R op no m) (h : i + nodS L ≤ K) (e : r = rPair (R y) (R z)) (hm : 0 ≤ m) : i + 1 + nodS (stk R (up (up op m z) (m + 1) y) (up (up no m q) (m + 1) q2) (m + 1 + 1)) ≤ K := by
  subst e
  rw [hpop] at h
  have h1 : i + (1 + nod (R y) + nod (R z) + nodS (stk R op no m)) ≤ K := h
  rw [stk_push (by omega), stk_push hm]
  show i + 1 + (nod (R y) + (nod (R z) + nodS _)) ≤ K
  omega
theorem en_push {f : Int → Int} {n y c : Int} (h : ∀ j, 0 ≤ j → j < n → 0 ≤ f j ∧ f j < c) (hy : 0 ≤ y ∧ y < c) : ∀ j, 0 ≤ j → j < n + 1 → 0 ≤ up f n y j ∧ up f n y j < c := fun j a b => by
  by_cases e : j = n
  · rw [e, up_same]; exact hy
  · rw [up_ne _ _ e]; exact h j a (by omega)
end VS
