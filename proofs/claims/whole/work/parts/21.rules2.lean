/-! ===== pure: rows of rules as lists; runs and pairs ===== -/
def seg (f : Int → Rl) (s e : Int) : List Rl := (List.range (e - s).toNat).map (fun k : Nat => f (s + (k : Int)))
theorem seg_nil (f : Int → Rl) {s e : Int} (h : e ≤ s) : seg f s e = [] := by
  unfold seg
  rw [show (e - s).toNat = 0 by omega]
  rfl
theorem seg_cons (f : Int → Rl) {s e : Int} (h : s < e) : seg f s e = f s :: seg f (s + 1) e := by
  unfold seg
  rw [show (e - s).toNat = (e - (s + 1)).toNat + 1 by omega, List.range_succ_eq_map, List.map_cons, List.map_map]
  congr 1
  · congr 1
    simp
  · refine List.map_congr_left (fun k _ => ?_)
    show f (s + ((k + 1 : Nat) : Int)) = f (s + 1 + (k : Int))
    congr 1
    omega
theorem seg_cong {f h : Int → Rl} {s e : Int} (q : ∀ k, s ≤ k → k < e → f k = h k) : seg f s e = seg h s e := by
  unfold seg
  refine List.map_congr_left (fun k hk => ?_)
  have := List.mem_range.mp hk
  exact q _ (by omega) (by omega)
theorem seg_snoc (f : Int → Rl) {s e : Int} (h : s ≤ e) : seg f s (e + 1) = seg f s e ++ [f e] := by
  unfold seg
  rw [show (e + 1 - s).toNat = (e - s).toNat + 1 by omega, List.range_succ, List.map_append, List.map_singleton]
  congr 3
  omega
theorem seg_rep (f : Int → Rl) (a : Rl) : ∀ (n : Nat) {s e : Int}, s + n ≤ e → (∀ k, s ≤ k → k < s + n → f k = a) → seg f s e = List.replicate n a ++ seg f (s + n) e
  | 0, s, e, _, _ => by simp
  | n + 1, s, e, h, q => by
    rw [seg_cons f (by omega), q s (by omega) (by omega), seg_rep f a n (s := s + 1) (by omega) (fun k a b => q k (by omega) (by omega)), List.replicate_succ, List.cons_append]
    congr 3
    omega
theorem seg_len (f : Int → Rl) (s e : Int) : (seg f s e).length = (e - s).toNat := by
  unfold seg
  rw [List.length_map, List.length_range]
def sumLen : List Rl → Int
  | [] => 0
  | a :: l => rlen a + sumLen l
theorem sumLen_app : ∀ (l m : List Rl), sumLen (l ++ m) = sumLen l + sumLen m
  | [], m => by simp [sumLen]
  | a :: l, m => by
    rw [List.cons_append, sumLen, sumLen, sumLen_app l m]
    omega
theorem sumLen_rep (a : Rl) : ∀ n : Nat, sumLen (List.replicate n a) = rlen a * n
  | 0 => by simp [sumLen]
  | n + 1 => by
    rw [List.replicate_succ, sumLen, sumLen_rep a n, Int.natCast_add, Int.mul_add]
    simp
    omega
noncomputable def eqB (a b : Rl) : Bool := @decide (b = a) (Classical.propDecidable _)
theorem eqB_t {a b : Rl} (h : b = a) : eqB a b = true := by unfold eqB; exact @decide_eq_true _ (Classical.propDecidable _) h
theorem eqB_f {a b : Rl} (h : b ≠ a) : eqB a b = false := by unfold eqB; exact @decide_eq_false _ (Classical.propDecidable _) h
theorem dropW_len (p : Rl → Bool) : ∀ l : List Rl, (l.dropWhile p).length ≤ l.length
  | [] => by simp
  | a :: l => by
    rw [List.dropWhile_cons]
    have := dropW_len p l
    split
    · rw [List.length_cons]; omega
    · exact Nat.le_refl _
/-- a rule that stands more than once side by side becomes a RUN -/
noncomputable def gather (l : List Rl) : List Rl := match l with
  | [] => []
  | a :: l => (if (l.takeWhile (eqB a)).length = 0 then a else rRun ((l.takeWhile (eqB a)).length + 1 : Nat) a) :: gather (l.dropWhile (eqB a))
termination_by l.length
decreasing_by
  have := dropW_len (eqB a) l
  simp only [List.length_cons]
  omega
theorem tw_rep {a : Rl} {l : List Rl} (h : ∀ b l', l = b :: l' → b ≠ a) : ∀ m : Nat, (List.replicate m a ++ l).takeWhile (eqB a) = List.replicate m a ∧ (List.replicate m a ++ l).dropWhile (eqB a) = l
  | 0 => by
    cases l with
    | nil => simp
    | cons b l' =>
      have := eqB_f (h b l' rfl)
      simp [List.takeWhile_cons, List.dropWhile_cons, this]
  | m + 1 => by
    obtain ⟨h1, h2⟩ := tw_rep h m
    rw [List.replicate_succ, List.cons_append, List.takeWhile_cons, List.dropWhile_cons, if_pos (eqB_t rfl), if_pos (eqB_t rfl), h1, h2]
    exact ⟨rfl, rfl⟩
theorem gather_nil : gather [] = [] := by rw [gather]
theorem gather_run {a : Rl} {l : List Rl} (h : ∀ b l', l = b :: l' → b ≠ a) (m : Nat) : gather (a :: (List.replicate m a ++ l)) = (if m = 0 then a else rRun (m + 1 : Nat) a) :: gather l := by
  obtain ⟨h1, h2⟩ := tw_rep h m
  rw [gather, h1, h2, List.length_replicate]
/-- the same, of a row: from s to e one rule, another one behind -/
theorem gather_seg {f : Int → Rl} {s e n : Int} (hs : s < e ∧ e ≤ n) (h1 : ∀ k, s ≤ k → k < e → f k = f s) (h2 : e < n → f e ≠ f s) : gather (seg f s n) = (if e - s = 1 then f s else rRun (e - s) (f s)) :: gather (seg f e n) := by
  have e1 : seg f s n = f s :: (List.replicate (e - s - 1).toNat (f s) ++ seg f e n) := by
    rw [seg_cons f (by omega), seg_rep f (f s) (e - s - 1).toNat (by omega) (fun k a b => h1 k (by omega) (by omega))]
    congr 3
    omega
  rw [e1, gather_run (fun b l' q => ?_) _]
  · congr 1
    by_cases z : e - s = 1
    · rw [if_pos z, if_pos (by omega)]
    · rw [if_neg z, if_neg (by omega)]
      congr 1
      omega
  · by_cases z : e < n
    · rw [seg_cons f z] at q
      injection q with q1
      rw [← q1]
      exact h2 z
    · rw [seg_nil f (by omega)] at q
      cases q
def bt (b : Int) (r : Rl) : Int := andI (ushrI (rsign r) b) 1
/-- each two side by side that the bit tells become a PAIR -/
def pairB (b : Int) : List Rl → List Rl
  | x :: y :: l => if bt b x = 0 ∧ bt b y = 1 then rPair x y :: pairB b l else x :: pairB b (y :: l)
  | l => l
theorem pairB_yes {b : Int} {x y : Rl} {l : List Rl} (h : bt b x = 0 ∧ bt b y = 1) : pairB b (x :: y :: l) = rPair x y :: pairB b l := by rw [pairB, if_pos h]
theorem pairB_no {b : Int} {x y : Rl} {l : List Rl} (h : ¬ (bt b x = 0 ∧ bt b y = 1)) : pairB b (x :: y :: l) = x :: pairB b (y :: l) := by rw [pairB, if_neg h]
theorem pairB_one (b : Int) (x : Rl) : pairB b [x] = [x] := by rw [pairB]; intros; simp_all
theorem pairB_nil (b : Int) : pairB b [] = [] := by rw [pairB]; intros; simp_all
def pairP : List Rl → List Rl
  | x :: y :: l => rPair x y :: pairP l
  | l => l
theorem pairP_two (x y : Rl) (l : List Rl) : pairP (x :: y :: l) = rPair x y :: pairP l := by rw [pairP]
theorem pairP_one (x : Rl) : pairP [x] = [x] := by rw [pairP]; intros; simp_all
theorem pairP_nil : pairP [] = [] := by rw [pairP]; intros; simp_all
theorem sumLen_seg1 {f : Int → Rl} {s e : Int} (h : s < e) : sumLen (seg f s e) = rlen (f s) + sumLen (seg f (s + 1) e) := by rw [seg_cons f h]; rfl
/-- a row of the table's numbers: each is held, and they are at most 600 letters -/
def RowIn (R : Int → Rl) (ro : Int → Int) (rc s e : Int) : Prop := ∀ k, s ≤ k → k < e → 0 ≤ ro k ∧ ro k < rc
theorem sumLen_nn {f : Int → Rl} : ∀ (n : Nat) {s e : Int}, (e - s).toNat = n → (∀ k, s ≤ k → k < e → Wf (f k)) → 0 ≤ sumLen (seg f s e)
  | 0, s, e, h, _ => by rw [seg_nil f (by omega)]; exact Int.le_refl 0
  | n + 1, s, e, h, q => by
    rw [sumLen_seg1 (by omega)]
    have := rlen_pos (q s (by omega) (by omega))
    have := sumLen_nn n (s := s + 1) (e := e) (by omega) (fun k a b => q k (by omega) b)
    omega
theorem RT.wf {kd fi se sg le de nx he : Int → Int} {cnt : Int} {R : Int → Rl} (h : RT kd fi se sg le de nx he cnt R) {i : Int} (h0 : 0 ≤ i ∧ i < cnt) : Wf (R i) := (h.2.1 i h0.1 h0.2).2.2.2.2.1
theorem seg_run {f : Int → Rl} {s e n : Int} (hs : s < e ∧ e ≤ n) (h1 : ∀ k, s ≤ k → k < e → f k = f s) : sumLen (seg f s n) = rlen (f s) * (e - s) + sumLen (seg f e n) := by
  rw [seg_rep f (f s) (e - s).toNat (by omega) (fun k a b => h1 k a (by omega)), sumLen_app, sumLen_rep, show ((e - s).toNat : Int) = e - s by omega, show s + (e - s) = e by omega]
