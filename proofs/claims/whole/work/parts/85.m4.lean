/-! ===== what the table holds is what stands in the rows ===== -/
theorem Sub.trans {r a : Rl} : ∀ {b : Rl}, Sub r a → Sub a b → Sub r b := by
  intro b
  induction b with
  | mul n c _ ih =>
    intro h k
    rcases k with rfl | k
    · exact h
    · exact Or.inr (ih h k)
  | add c d ihc ihd =>
    intro h k
    rcases k with rfl | k | k
    · exact h
    · exact Or.inr (Or.inl (ihc h k))
    · exact Or.inr (Or.inr (ihd h k))
  | _ =>
    intro h k
    cases k
    exact h
theorem mem_seg {f : Int → Rl} {s e : Int} {a : Rl} : a ∈ seg f s e ↔ ∃ j, s ≤ j ∧ j < e ∧ a = f j := by
  unfold seg
  rw [List.mem_map]
  constructor
  · rintro ⟨k, hk, rfl⟩
    have := List.mem_range.mp hk
    exact ⟨s + k, by omega, by omega, rfl⟩
  · rintro ⟨j, h1, h2, rfl⟩
    exact ⟨(j - s).toNat, List.mem_range.mpr (by omega), by congr 1; omega⟩
/-- the rules from b on up to rc stand in the row l -/
def Cov (R : Int → Rl) (b rc : Int) (l : List Rl) : Prop := ∀ i, b ≤ i → i < rc → ∃ a ∈ l, Sub (R i) a
theorem Cov.mono {R : Int → Rl} {b rc : Int} {l m : List Rl} (h : Cov R b rc l) (q : ∀ a ∈ l, ∃ c ∈ m, Sub a c) : Cov R b rc m := fun i i0 i1 => by
  obtain ⟨a, ha, hs⟩ := h i i0 i1
  obtain ⟨c, hc, hs2⟩ := q a ha
  exact ⟨c, hc, hs.trans hs2⟩
theorem Cov.step {R9 R10 : Int → Rl} {ro9 : Int → Int} {b rc9 rc10 k s e sz x : Int} {f : Int → Rl} {t : Rl} (h : Cov R9 b rc9 (seg (rw_ R9 ro9) 0 k ++ seg f s sz)) (hk : 0 ≤ k) (hb : 0 ≤ b) (he : s < e ∧ e ≤ sz) (hin : ∀ j, 0 ≤ j → j < k → 0 ≤ ro9 j ∧ ro9 j < rc9) (hr : rc9 ≤ rc10 ∧ rc10 ≤ rc9 + 1) (hx : rc10 = rc9 ∨ x = rc9) (hR : ∀ i, 0 ≤ i → i < rc9 → R10 i = R9 i) (ht : R10 x = t) (hs : ∀ j, s ≤ j → j < e → Sub (f j) t) :
    Cov R10 b rc10 (seg (rw_ R10 (up ro9 k x)) 0 (k + 1) ++ seg f e sz) := by
  have hout : seg (rw_ R10 (up ro9 k x)) 0 (k + 1) = seg (rw_ R9 ro9) 0 k ++ [t] := by
    rw [seg_snoc _ hk]
    congr 1
    · refine seg_cong (fun j a b => ?_)
      unfold rw_
      rw [up_ne _ _ (by omega)]
      have := hin j a b
      exact hR _ this.1 this.2
    · unfold rw_
      rw [up_same, ht]
  rw [hout]
  intro i i0 i1
  by_cases q : i < rc9
  · obtain ⟨a, ha, hsu⟩ := h i i0 q
    rw [hR i (by omega) q]
    rcases List.mem_append.mp ha with ha | ha
    · exact ⟨a, List.mem_append_left _ (List.mem_append_left _ ha), hsu⟩
    · obtain ⟨j, j0, j1, rfl⟩ := mem_seg.mp ha
      by_cases z : j < e
      · exact ⟨t, List.mem_append_left _ (List.mem_append_right _ (List.mem_singleton.mpr rfl)), hsu.trans (hs j j0 z)⟩
      · exact ⟨f j, List.mem_append_right _ (mem_seg.mpr ⟨j, by omega, j1, rfl⟩), hsu⟩
  · have e1 : i = x := by omega
    rw [e1, ht]
    exact ⟨t, List.mem_append_left _ (List.mem_append_right _ (List.mem_singleton.mpr rfl)), Sub.self t⟩
theorem OpInv.restW {op : List Rl → List Rl} {R : Int → Rl} {ro : Int → Int} {rc sz k s : Int} {R9 : Int → Rl} {ro9 : Int → Int} {rc9 : Int} (h : OpInv op R ro rc sz k s R9 ro9 rc9) (hw : ∀ i, 0 ≤ i → i < rc9 → Wf (R9 i)) (hsum : sumLen (seg (rw_ R ro) 0 sz) ≤ 600) : sumLen (seg (rw_ R ro) s sz) ≤ 600 := by
  obtain ⟨h1, h2, h3, h4, h5, h6, h7⟩ := h
  have := sumLen_nn (f := rw_ R9 ro9) _ (s := 0) (e := k) rfl (fun j a b => hw _ (h5 j a b).1 (h5 j a b).2)
  omega
theorem tailW {R : Int → Rl} {ro : Int → Int} {rc s e : Int} (hw : ∀ i, 0 ≤ i → i < rc → Wf (R i)) (hin : ∀ k, 0 ≤ k → k < e → 0 ≤ ro k ∧ ro k < rc) (h0 : 0 ≤ s) : 0 ≤ sumLen (seg (rw_ R ro) s e) := sumLen_nn _ rfl (fun k a b => hw _ (hin k (by omega) b).1 (hin k (by omega) b).2)
/-- a round's pairs -/
def prs (r : Int) (l : List Rl) : List Rl := if r < 31 then pairB r l else pairP l
theorem prs_nil (r : Int) : prs r [] = [] := by unfold prs; rw [pairB_nil, pairP_nil]; split <;> rfl
def isP (r : Int) (a b : Rl) : Prop := 31 ≤ r ∨ (bt r a = 0 ∧ bt r b = 1)
theorem prs_yes {r : Int} {f : Int → Rl} {s e : Int} (h : s + 1 < e) (q : isP r (f s) (f (s + 1))) : prs r (seg f s e) = rPair (f s) (f (s + 1)) :: prs r (seg f (s + 2) e) := by
  unfold prs
  by_cases z : r < 31
  · rw [if_pos z, if_pos z, pb_yes h (by rcases q with q | q; omega; exact q)]
  · rw [if_neg z, if_neg z, pp_two h]
theorem prs_no {r : Int} {f : Int → Rl} {s e : Int} (h : s < e) (q : ¬ (s + 1 < e ∧ isP r (f s) (f (s + 1)))) : prs r (seg f s e) = f s :: prs r (seg f (s + 1) e) := by
  unfold prs
  by_cases z : r < 31
  · rw [if_pos z, if_pos z, pb_no h (fun w => q ⟨w.1, Or.inr w.2⟩)]
  · rw [if_neg z, if_neg z, pp_one h (Decidable.byContradiction fun w => q ⟨by omega, Or.inl (by omega)⟩)]
/-! the bit that a round tells, shifted with its sign or without -/
theorem andI_1m (x : Int) : andI x 1 = ((iI x).toBitVec.toNat % 2 : Nat) := by
  unfold andI
  rw [show iI 1 = (1 : Int32) from rfl, pk_and (iI x) (m := 1) 1 (by decide), nI_toInt (by omega)]
theorem bv_par (y : Int32) : ((y.toBitVec.toNat % 2 : Nat) : Int) = y.toInt % 2 := by
  have h : y.toInt = y.toBitVec.toInt := rfl
  rw [h, BitVec.toInt_eq_toNat_cond]
  split <;> omega
set_option maxHeartbeats 4000000 in
theorem bit_eq (x : Int) {r : Int} (hr : 0 ≤ r ∧ r ≤ 30) : andI (shrI x r) 1 = andI (ushrI x r) 1 := by
  obtain ⟨k, rfl⟩ : ∃ k : Nat, r = (k : Int) := ⟨r.toNat, by omega⟩
  have hk : k ≤ 30 := by omega
  have h1 : andI (shrI x k) 1 = ((iI x).toInt >>> k) % 2 := by
    rw [andI_1m]
    unfold shrI
    rw [iI_self, bv_par]
    have hs : ((iI (k : Int) &&& 31).toBitVec.smod 32).toNat = k := by
      rcases (show k = 0 ∨ k = 1 ∨ k = 2 ∨ k = 3 ∨ k = 4 ∨ k = 5 ∨ k = 6 ∨ k = 7 ∨ k = 8 ∨ k = 9 ∨ k = 10 ∨ k = 11 ∨ k = 12 ∨ k = 13 ∨ k = 14 ∨ k = 15 ∨ k = 16 ∨ k = 17 ∨ k = 18 ∨ k = 19 ∨ k = 20 ∨ k = 21 ∨ k = 22 ∨ k = 23 ∨ k = 24 ∨ k = 25 ∨ k = 26 ∨ k = 27 ∨ k = 28 ∨ k = 29 ∨ k = 30 by omega) with rfl | rfl | rfl | rfl | rfl | rfl | rfl | rfl | rfl | rfl | rfl | rfl | rfl | rfl | rfl | rfl | rfl | rfl | rfl | rfl | rfl | rfl | rfl | rfl | rfl | rfl | rfl | rfl | rfl | rfl | rfl <;> decide
    rw [pk_shr _ _ k hs]
  have h2 : andI (ushrI x k) 1 = ((((iI x).toBitVec.toNat / 2 ^ k) % 2 : Nat) : Int) := by
    rw [andI_1m]
    unfold ushrI
    rw [iI_self]
    have hs : (((iI (k : Int)).toUInt32 &&& Int32.toUInt32 31).toBitVec % 32).toNat = k := by
      rcases (show k = 0 ∨ k = 1 ∨ k = 2 ∨ k = 3 ∨ k = 4 ∨ k = 5 ∨ k = 6 ∨ k = 7 ∨ k = 8 ∨ k = 9 ∨ k = 10 ∨ k = 11 ∨ k = 12 ∨ k = 13 ∨ k = 14 ∨ k = 15 ∨ k = 16 ∨ k = 17 ∨ k = 18 ∨ k = 19 ∨ k = 20 ∨ k = 21 ∨ k = 22 ∨ k = 23 ∨ k = 24 ∨ k = 25 ∨ k = 26 ∨ k = 27 ∨ k = 28 ∨ k = 29 ∨ k = 30 by omega) with rfl | rfl | rfl | rfl | rfl | rfl | rfl | rfl | rfl | rfl | rfl | rfl | rfl | rfl | rfl | rfl | rfl | rfl | rfl | rfl | rfl | rfl | rfl | rfl | rfl | rfl | rfl | rfl | rfl | rfl | rfl <;> decide
    rw [pk_ushr _ _ k hs]
  rw [h1, h2]
  have h3 : (iI x).toInt = if 2 * (iI x).toBitVec.toNat < 2 ^ 32 then ((iI x).toBitVec.toNat : Int) else ((iI x).toBitVec.toNat : Int) - ((2 ^ 32 : Nat) : Int) := BitVec.toInt_eq_toNat_cond _
  rw [h3, Int.shiftRight_eq_div_pow]
  generalize (iI x).toBitVec.toNat = m
  rcases (show k = 0 ∨ k = 1 ∨ k = 2 ∨ k = 3 ∨ k = 4 ∨ k = 5 ∨ k = 6 ∨ k = 7 ∨ k = 8 ∨ k = 9 ∨ k = 10 ∨ k = 11 ∨ k = 12 ∨ k = 13 ∨ k = 14 ∨ k = 15 ∨ k = 16 ∨ k = 17 ∨ k = 18 ∨ k = 19 ∨ k = 20 ∨ k = 21 ∨ k = 22 ∨ k = 23 ∨ k = 24 ∨ k = 25 ∨ k = 26 ∨ k = 27 ∨ k = 28 ∨ k = 29 ∨ k = 30 by omega) with rfl | rfl | rfl | rfl | rfl | rfl | rfl | rfl | rfl | rfl | rfl | rfl | rfl | rfl | rfl | rfl | rfl | rfl | rfl | rfl | rfl | rfl | rfl | rfl | rfl | rfl | rfl | rfl | rfl | rfl | rfl <;> (split <;> omega)
/-! the table as the list of what is met -/
def ClosedV (V : List (Rl × Int)) : Prop := ∀ q, InV V q → PartsIn V q
theorem ClosedV.sub {V : List (Rl × Int)} (h : ClosedV V) : ∀ {t r : Rl}, InV V t → Sub r t → InV V r := by
  intro t
  induction t with
  | mul n a _ ih =>
    intro r ht hs
    rcases hs with rfl | hs
    · exact ht
    · exact ih (h _ ht) hs
  | add a b iha ihb =>
    intro r ht hs
    have hp : InV V a ∧ InV V b := h _ ht
    rcases hs with rfl | hs | hs
    · exact ht
    · exact iha hp.1 hs
    · exact ihb hp.2 hs
  | _ =>
    intro r ht hs
    cases hs
    exact ht
theorem ClosedV.vis {V : List (Rl × Int)} (h : ClosedV V) (t : Rl) (p : Int) : ClosedV (vis t p V) := fun q hq => by
  obtain ⟨c1, c2, c3⟩ := vis_closed t p V
  rcases c3 q hq with z | z
  · exact (h q z).mono c1
  · exact z
theorem vis_in : ∀ {t : Rl} {p : Int} {V : List (Rl × Int)} {r : Rl}, InV (vis t p V) r → InV V r ∨ Sub r t := by
  intro t
  induction t with
  | mul n a _ ih =>
    intro p V r h
    by_cases q : InV V (.mul n a)
    · rw [vis_old q] at h; exact Or.inl h
    · rw [vis, if_neg (dcF q)] at h
      rcases ih h with z | z
      · rcases InV.app.mp z with z | rfl
        · exact Or.inl z
        · exact Or.inr (Or.inl rfl)
      · exact Or.inr (Or.inr z)
  | add a b iha ihb =>
    intro p V r h
    by_cases q : InV V (.add a b)
    · rw [vis_old q] at h; exact Or.inl h
    · rw [vis, if_neg (dcF q)] at h
      rcases ihb h with z | z
      · rcases iha z with z | z
        · rcases InV.app.mp z with z | rfl
          · exact Or.inl z
          · exact Or.inr (Or.inl rfl)
        · exact Or.inr (Or.inr (Or.inl z))
      · exact Or.inr (Or.inr (Or.inr z))
  | _ =>
    intro p V r h
    unfold vis at h
    split at h
    · exact Or.inl h
    · exact InV.app.mp h
theorem vis_mem {V : List (Rl × Int)} (h : ClosedV V) {t r : Rl} {p : Int} : InV (vis t p V) r ↔ InV V r ∨ Sub r t := by
  constructor
  · exact vis_in
  · rintro (z | z)
    · exact (vis_closed t p V).1 r z
    · exact (h.vis t p).sub (vis_closed t p V).2.1 z
theorem nd_snoc {V : List (Rl × Int)} {r : Rl} {p : Int} (h : (V.map Prod.fst).Nodup) (q : ¬ InV V r) : ((V ++ [(r, p)]).map Prod.fst).Nodup := by
  rw [List.map_append, List.nodup_append]
  refine ⟨h, by simp, ?_⟩
  intro a ha b hb e
  have hb' : b = r := by simpa using hb
  subst e
  obtain ⟨x, hx, hx2⟩ := List.mem_map.mp ha
  exact q ⟨x.2, by rw [← hb', ← hx2]; exact hx⟩
theorem vis_nd : ∀ {t : Rl} {p : Int} {V : List (Rl × Int)}, (V.map Prod.fst).Nodup → ((vis t p V).map Prod.fst).Nodup := by
  intro t
  induction t with
  | mul n a _ ih =>
    intro p V h
    by_cases q : InV V (.mul n a)
    · rw [vis_old q]; exact h
    · rw [vis, if_neg (dcF q)]; exact ih (nd_snoc h q)
  | add a b iha ihb =>
    intro p V h
    by_cases q : InV V (.add a b)
    · rw [vis_old q]; exact h
    · rw [vis, if_neg (dcF q)]; exact ihb (iha (nd_snoc h q))
  | _ =>
    intro p V h
    unfold vis
    split
    · exact h
    · exact nd_snoc h (fun z => by rename_i w; exact w (dcT z))
/-- the table is just V -/
def TabV (R : Int → Rl) (rc : Int) (V : List (Rl × Int)) : Prop := 0 ≤ rc ∧ rc = V.length ∧ (V.map Prod.fst).Nodup ∧ ClosedV V ∧ ∀ r, (∃ i, 0 ≤ i ∧ i < rc ∧ R i = r) ↔ InV V r
theorem TabV.nil (R : Int → Rl) : TabV R 0 [] := ⟨by omega, rfl, List.nodup_nil, fun q h => by obtain ⟨p, hp⟩ := h; simp at hp, fun r => ⟨fun ⟨i, a, b, _⟩ => by omega, fun h => by obtain ⟨p, hp⟩ := h; simp at hp⟩⟩
theorem TabV.lay {R R9 : Int → Rl} {rc rc9 x : Int} {V : List (Rl × Int)} (h : TabV R rc V) (hr : rc ≤ rc9) (hag : ∀ i, 0 ≤ i → i < rc → R9 i = R i) (hinj : ∀ i j, 0 ≤ i → i < rc9 → 0 ≤ j → j < rc9 → R9 i = R9 j → i = j) (hx : 0 ≤ x ∧ x < rc9) (hsub : ∀ r, Sub r (R9 x) → ∃ i, 0 ≤ i ∧ i < rc9 ∧ R9 i = r) (hnew : ∀ i, rc ≤ i → i < rc9 → Sub (R9 i) (R9 x)) (p : Int) : TabV R9 rc9 (vis (R9 x) p V) := by
  obtain ⟨h1, h2, h3, h4, h5⟩ := h
  have hm : ∀ r, (∃ i, 0 ≤ i ∧ i < rc9 ∧ R9 i = r) ↔ InV (vis (R9 x) p V) r := by
    intro r
    rw [vis_mem h4]
    constructor
    · rintro ⟨i, i0, i1, rfl⟩
      by_cases q : i < rc
      · left; rw [hag i i0 q]; exact (h5 _).mp ⟨i, i0, q, rfl⟩
      · right; exact hnew i (by omega) i1
    · rintro (z | z)
      · obtain ⟨i, i0, i1, rfl⟩ := (h5 r).mpr z
        exact ⟨i, i0, by omega, hag i i0 i1⟩
      · exact hsub r z
  have hnd := vis_nd (t := R9 x) (p := p) h3
  refine ⟨by omega, ?_, hnd, h4.vis _ _, hm⟩
  have hnd2 : ((List.range rc9.toNat).map (fun i : Nat => R9 (i : Int))).Nodup := by
    rw [List.Nodup, List.pairwise_map]
    refine List.Pairwise.imp_of_mem ?_ (List.nodup_range (n := rc9.toNat))
    intro a b ha hb hne e
    have a1 := List.mem_range.mp ha
    have b1 := List.mem_range.mp hb
    have := hinj a b (by omega) (by omega) (by omega) (by omega) e
    omega
  have hp := (List.perm_ext_iff_of_nodup hnd2 hnd).mpr (fun r => by
    rw [List.mem_map, List.mem_map]
    constructor
    · rintro ⟨i, hi, rfl⟩
      have := List.mem_range.mp hi
      obtain ⟨p, hp⟩ := (hm _).mp ⟨(i : Int), by omega, by omega, rfl⟩
      exact ⟨_, hp, rfl⟩
    · rintro ⟨q, hq, rfl⟩
      obtain ⟨i, i0, i1, e⟩ := (hm q.1).mpr ⟨q.2, hq⟩
      exact ⟨i.toNat, List.mem_range.mpr (by omega), by rw [Int.toNat_of_nonneg i0]; exact e⟩)
  have := hp.length_eq
  rw [List.length_map, List.length_map, List.length_range] at this
  omega
theorem MT.sub {kd on tw sg le de so : Int → Int} {rc : Int} {R : Int → Rl} (h : MT kd on tw sg le de so rc R) : ∀ (n : Nat) {x : Int}, x.toNat ≤ n → 0 ≤ x → x < rc → ∀ r, Sub r (R x) → ∃ i, 0 ≤ i ∧ i < rc ∧ R i = r
  | n, x, hn, h0, h1, r, hs => by
    rcases (h.2.1 x h0 h1).1 with z | z | z
    · rw [z.2.2.2.2] at hs
      exact ⟨x, h0, h1, by rw [z.2.2.2.2]; exact hs.symm⟩
    · rw [z.2.2.2.2.2] at hs
      rcases hs with hs | hs | hs
      · exact ⟨x, h0, h1, by rw [z.2.2.2.2.2]; exact hs.symm⟩
      · cases n with
        | zero => omega
        | succ n => exact MT.sub h n (by omega) z.2.1 (by omega) r hs
      · cases n with
        | zero => omega
        | succ n => exact MT.sub h n (by omega) z.2.2.2.1 (by omega) r hs
    · rw [z.2.2.2.2.2] at hs
      rcases hs with hs | hs
      · exact ⟨x, h0, h1, by rw [z.2.2.2.2.2]; exact hs.symm⟩
      · cases n with
        | zero => omega
        | succ n => exact MT.sub h n (by omega) z.2.1 (by omega) r hs
/-- letters are at most 26 -/
theorem let26 {R : Int → Rl} {b rc : Int} (hb : 0 ≤ b) (hinj : ∀ i j, 0 ≤ i → i < rc → 0 ≤ j → j < rc → R i = R j → i = j) (h : ∀ i, b ≤ i → i < rc → ∃ c, 0 ≤ c ∧ c ≤ 25 ∧ R i = rLet c) : rc ≤ b + 26 := by
  by_cases hz : rc ≤ b
  · omega
  have hex : ∀ i : Nat, ∃ c : Nat, (b + (i : Int) < rc → c < 26 ∧ R (b + (i : Int)) = rLet (c : Int)) := by
    intro i
    by_cases q : b + (i : Int) < rc
    · obtain ⟨c, c0, c1, e⟩ := h (b + i) (by omega) q
      exact ⟨c.toNat, fun _ => ⟨by omega, by rw [Int.toNat_of_nonneg c0]; exact e⟩⟩
    · exact ⟨0, fun z => absurd z q⟩
  obtain ⟨f, hf⟩ := Classical.axiomOfChoice hex
  have hnd : ((List.range (rc - b).toNat).map f).Nodup := by
    rw [List.Nodup, List.pairwise_map]
    refine List.Pairwise.imp_of_mem ?_ (List.nodup_range (n := (rc - b).toNat))
    intro i j hi hj hne e
    have i1 := List.mem_range.mp hi
    have j1 := List.mem_range.mp hj
    have a1 := hf i (by omega)
    have a2 := hf j (by omega)
    have := hinj (b + i) (b + j) (by omega) (by omega) (by omega) (by omega) (by rw [a1.2, a2.2, e])
    omega
  have := nodup_lt 26 _ hnd (fun x hx => by
    obtain ⟨i, hi, rfl⟩ := List.mem_map.mp hx
    have := List.mem_range.mp hi
    exact (hf i (by omega)).1)
  rw [List.length_map, List.length_range] at this
  omega
/-- the TOP of a text -/
noncomputable def topF (f : Int → Int) (n : Int) : Rl := @dite Rl (∃ t q, BIs (lts f 0 n) t q) (Classical.propDecidable _) (fun h => h.choose) (fun _ => rLet 0)
theorem topF_is {f : Int → Int} {n q : Int} {t : Rl} (h : BIs (lts f 0 n) t q) : topF f n = t := by
  unfold topF
  have hh : ∃ t q, BIs (lts f 0 n) t q := ⟨t, q, h⟩
  rw [dif_pos hh]
  obtain ⟨q2, h2⟩ := hh.choose_spec
  exact (h2.one h).1
def oF (al : Int → Int) (b : Int) : Int → Int → Int := fun t k => al (b + 9 + 600 * t + k)
def oN (al : Int → Int) (b : Int) : Int → Int := fun t => al (b + 1 + t)
theorem oF_0 (al : Int → Int) : oF al 0 = mF al := by funext t k; show al (0 + 9 + 600 * t + k) = al (9 + 600 * t + k); rw [Int.zero_add]
theorem oN_0 (al : Int → Int) : oN al 0 = mN al := by funext t; show al (0 + 1 + t) = al (1 + t); rw [Int.zero_add]
noncomputable def topsB (al : Int → Int) (b : Int) : Int → Rl := fun t => topF (oF al b t) (oN al b t)
