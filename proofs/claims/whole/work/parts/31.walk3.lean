section OC
variable {R : Int → Rl} {op no : Int → Int} {m i K o T : Int} {r w : Rl} {p : Int} {L : List (Rl × Int)}
theorem oc_self (hpop : L = (r, p) :: stk R op no m) (h : o + occS w L = T) (e : r = w) : o + p + occS w (stk R op no m) = T := by
  subst e
  rw [hpop] at h
  have h1 : o + (p * occ r r + occS r (stk R op no m)) = T := h
  rw [occ_self, Int.mul_one] at h1
  omega
theorem oc_let {c : Int} (hpop : L = (r, p) :: stk R op no m) (h : o + occS w L = T) (e : r = rLet c) (n : r ≠ w) : o + occS w (stk R op no m) = T := by
  subst e
  rw [hpop] at h
  have h1 : o + (p * occ w (rLet c) + occS w (stk R op no m)) = T := h
  rw [occ_let n, Int.mul_zero] at h1
  omega
theorem oc_run {n y : Int} (hpop : L = (r, p) :: stk R op no m) (h : o + occS w L = T) (e : r = rRun n (R y)) (ne : r ≠ w) (hn : 0 ≤ n) (hm : 0 ≤ m) : o + occS w (stk R (up op m y) (up no m (p * n)) (m + 1)) = T := by
  subst e
  rw [hpop] at h
  have h1 : o + (p * occ w (rRun n (R y)) + occS w (stk R op no m)) = T := h
  rw [occ_run hn ne, ← Int.mul_assoc] at h1
  rw [stk_push hm]
  exact h1
theorem oc_pair {y z : Int} (hpop : L = (r, p) :: stk R op no m) (h : o + occS w L = T) (e : r = rPair (R y) (R z)) (ne : r ≠ w) (hm : 0 ≤ m) : o + occS w (stk R (up (up op m y) (m + 1) z) (up (up no m p) (m + 1) p) (m + 1 + 1)) = T := by
  subst e
  rw [hpop] at h
  have h1 : o + (p * occ w (rPair (R y) (R z)) + occS w (stk R op no m)) = T := h
  rw [occ_pair ne, Int.mul_add] at h1
  rw [stk_push (by omega), stk_push hm]
  show o + (p * occ w (R z) + (p * occ w (R y) + occS w (stk R op no m))) = T
  omega
theorem nn_pair2 {y z q q2 : Int} (hpop : L = (r, p) :: stk R op no m) (h : i + nodS L ≤ K) (e : r = rPair (R y) (R z)) (hm : 0 ≤ m) : i + 1 + nodS (stk R (up (up op m y) (m + 1) z) (up (up no m q) (m + 1) q2) (m + 1 + 1)) ≤ K := by
  subst e
  rw [hpop] at h
  have h1 : i + (1 + nod (R y) + nod (R z) + nodS (stk R op no m)) ≤ K := h
  rw [stk_push (by omega), stk_push hm]
  show i + 1 + (nod (R z) + (nod (R y) + nodS _)) ≤ K
  omega
end OC
