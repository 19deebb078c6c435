theorem seg_two {f : Int → Rl} {s e : Int} (h : s + 1 < e) : seg f s e = f s :: f (s + 1) :: seg f (s + 2) e ∧ sumLen (seg f s e) = rlen (rPair (f s) (f (s + 1))) + sumLen (seg f (s + 2) e) := by
  have e1 : seg f s e = f s :: f (s + 1) :: seg f (s + 2) e := by rw [seg_cons f (by omega), seg_cons f (by omega), show s + 1 + 1 = s + 2 by omega]
  refine ⟨e1, ?_⟩
  rw [e1]
  show rlen (f s) + (rlen (f (s + 1)) + _) = rlen (f s) + rlen (f (s + 1)) + _
  omega
theorem pb_yes {b : Int} {f : Int → Rl} {s e : Int} (h : s + 1 < e) (q : bt b (f s) = 0 ∧ bt b (f (s + 1)) = 1) : pairB b (seg f s e) = rPair (f s) (f (s + 1)) :: pairB b (seg f (s + 2) e) := by
  rw [(seg_two h).1, pairB_yes q]
theorem pb_no {b : Int} {f : Int → Rl} {s e : Int} (h : s < e) (q : ¬ (s + 1 < e ∧ bt b (f s) = 0 ∧ bt b (f (s + 1)) = 1)) : pairB b (seg f s e) = f s :: pairB b (seg f (s + 1) e) := by
  by_cases z : s + 1 < e
  · rw [(seg_two z).1, pairB_no (fun w => q ⟨z, w⟩), seg_cons (s := s + 1) f z, show s + 1 + 1 = s + 2 by omega]
  · rw [seg_cons f h, seg_nil (s := s + 1) f (by omega), pairB_one, pairB_nil]
theorem pp_two {f : Int → Rl} {s e : Int} (h : s + 1 < e) : pairP (seg f s e) = rPair (f s) (f (s + 1)) :: pairP (seg f (s + 2) e) := by
  rw [(seg_two h).1, pairP_two]
theorem pp_one {f : Int → Rl} {s e : Int} (h : s < e) (q : e ≤ s + 1) : pairP (seg f s e) = f s :: pairP (seg f (s + 1) e) := by
  rw [seg_cons f h, seg_nil (s := s + 1) f q, pairP_one, pairP_nil]
