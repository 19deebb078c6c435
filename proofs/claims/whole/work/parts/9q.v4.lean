/-! ===== each call, as a step from a view to a view ===== -/
section STEPS
variable {F F2 : Int → Int → Int} {N N2 : Int → Int} {c c2 : Int}
theorem tkF_teq (e : TEq F N c F2 N2 c2) (t p m : Int) : tkF N2 c2 t p m = tkF N c t p m := by
  unfold tkF
  rw [e.1]
  by_cases h : 0 ≤ t ∧ t < c
  · rw [e.n h]
  · by_cases q : p < 0 ∨ m ≤ 0
    · rw [if_pos q, if_pos q]
    · rw [if_neg q, if_neg q, if_pos h, if_pos h]
theorem tkF_0 {t p m : Int} (h : tkF N c t p m = 0) : (0 ≤ t ∧ t < c) ∧ 0 ≤ p ∧ 1 ≤ m ∧ p + m ≤ N t ∧ c < 8 := by
  unfold tkF at h
  split at h
  · omega
  · split at h
    · omega
    · split at h
      · omega
      · split at h
        · omega
        · rename_i h1 h2 h3 h4
          have h5 := Decidable.of_not_not h2
          have h6 := Decidable.of_not_not h4
          omega
theorem wsF_teq (e : TEq F N c F2 N2 c2) (t p m u : Int) : wsF N2 c2 t p m u = wsF N c t p m u := by
  unfold wsF
  rw [e.1]
  by_cases h : (0 ≤ t ∧ t < c) ∧ (0 ≤ u ∧ u < c)
  · rw [e.n h.1, e.n h.2]
  · by_cases q : p < 0 ∨ m < 0
    · rw [if_pos q, if_pos q]
    · rw [if_neg q, if_neg q, if_pos h, if_pos h]
theorem wsF_0 {t p m u : Int} (h : wsF N c t p m u = 0) : (0 ≤ t ∧ t < c) ∧ (0 ≤ u ∧ u < c) ∧ (0 ≤ p ∧ 0 ≤ m ∧ p + m ≤ N t) ∧ N t - m + N u ≤ 600 := by
  unfold wsF at h
  split at h
  · omega
  · split at h
    · omega
    · split at h
      · omega
      · split at h
        · omega
        · rename_i h1 h2 h3 h4
          have h5 := Decidable.of_not_not h2
          have h6 := Decidable.of_not_not h3
          omega
theorem wsF_rg (N : Int → Int) (c t p m u : Int) : 0 ≤ wsF N c t p m u ∧ wsF N c t p m u ≤ 9 := by
  unfold wsF
  split
  · omega
  · split
    · omega
    · split
      · omega
      · split <;> omega
theorem jnF_teq (e : TEq F N c F2 N2 c2) (t u : Int) : jnF N2 c2 t u = jnF N c t u := by
  unfold jnF
  rw [e.1]
  by_cases h : (0 ≤ t ∧ t < c) ∧ (0 ≤ u ∧ u < c)
  · rw [e.n h.1, e.n h.2]
  · rw [if_pos h, if_pos h]
theorem jnF_0 {t u : Int} (h : jnF N c t u = 0) : (0 ≤ t ∧ t < c) ∧ (0 ≤ u ∧ u < c) ∧ N t + N u ≤ 600 ∧ c < 8 := by
  unfold jnF at h
  split at h
  · omega
  · split at h
    · omega
    · split at h
      · omega
      · rename_i h1 h2 h3
        have h5 := Decidable.of_not_not h1
        omega
theorem rpF_teq (e : TEq F N c F2 N2 c2) (t k : Int) : rpF N2 c2 t k = rpF N c t k := by
  unfold rpF
  rw [e.1]
  by_cases h : 0 ≤ t ∧ t < c
  · rw [e.n h]
  · by_cases q : k < 2 ∨ 600 < k
    · rw [if_pos q, if_pos q]
    · rw [if_neg q, if_neg q, if_pos h, if_pos h]
theorem rpF_0 {t k : Int} (h : rpF N c t k = 0) : (0 ≤ t ∧ t < c) ∧ (2 ≤ k ∧ k ≤ 600) ∧ N t * k ≤ 600 := by
  unfold rpF at h
  split at h
  · omega
  · split at h
    · omega
    · split at h
      · omega
      · rename_i h1 h2 h3
        have h5 := Decidable.of_not_not h2
        omega
theorem rnF_teq (e : TEq F N c F2 N2 c2) (t l o : Int) : rnF F2 N2 c2 t l o = rnF F N c t l o := by
  unfold rnF
  rw [e.1]
  by_cases h : 0 ≤ t ∧ t < c
  · rw [e.n h, cntF_cong (fun j a b => (e.f h j a b).symm)]
  · by_cases q : ¬ ((0 ≤ l ∧ l < 26) ∧ (0 ≤ o ∧ o < 26))
    · rw [if_pos q, if_pos q]
    · rw [if_neg q, if_neg q, if_pos h, if_pos h]
theorem rnF_0 {t l o : Int} (h : rnF F N c t l o = 0) : (0 ≤ t ∧ t < c) ∧ ((0 ≤ l ∧ l < 26) ∧ (0 ≤ o ∧ o < 26) ∧ l ≠ o) ∧ cntF (F t) l (N t) ≠ 0 := by
  unfold rnF at h
  split at h
  · omega
  · split at h
    · omega
    · split at h
      · omega
      · split at h
        · omega
        · rename_i h1 h2 h3 h4
          have h5 := Decidable.of_not_not h1
          have h6 := Decidable.of_not_not h2
          exact ⟨h6, ⟨h5.1, h5.2, h3⟩, h4⟩
theorem hasF_0 {t : Int} (h : (if 0 ≤ t ∧ t < c then (0 : Int) else 2) = 0) : 0 ≤ t ∧ t < c := by
  split at h
  · assumption
  · omega
end STEPS
def TR_status (V : Vw) (r : Int) (V' : Vw) : Prop := TrS V r V'
def TR_feed (u1 u2 u3 u4 u5 : Int) (V : Vw) (r : Int) (V' : Vw) : Prop := TrF u1 u2 u3 u4 u5 V r V'
def TR_load (u1 : Int) (V : Vw) (r : Int) (V' : Vw) : Prop := TrL u1 V r V'
def TR_fault (u1 : Int) (V : Vw) (r : Int) (V' : Vw) : Prop := TrE u1 V r V'
def TR_many (u1 : Int) (V : Vw) (r : Int) (V' : Vw) : Prop := TrQ (fun r s => QMany V.T.F V.T.N V.T.c V.hn V.kn (if V.hn = 0 then 0 else (V.H (V.hn - 1)).w) u1 r s) V r V'
def TR_of (u1 u2 : Int) (V : Vw) (r : Int) (V' : Vw) : Prop := TrQ (fun r s => QOf V.T.F V.T.N V.T.c u1 u2 r s) V r V'
def TR_letter (u1 u2 : Int) (V : Vw) (r : Int) (V' : Vw) : Prop := TrQ (fun r s => QLetter V.T.F V.T.N V.T.c u1 u2 r s) V r V'
def TR_rule (u1 u2 u3 : Int) (V : Vw) (r : Int) (V' : Vw) : Prop := TrQ (fun r s => QRule V.T.F V.T.N V.T.c u1 u2 u3 r s) V r V'
def TR_around (u1 u2 u3 : Int) (V : Vw) (r : Int) (V' : Vw) : Prop := TrQ (fun r s => QAround V.T.F V.T.N V.T.c u1 u2 u3 r s) V r V'
def TR_value (u1 : Int) (V : Vw) (r : Int) (V' : Vw) : Prop := TrQ (fun r s => ValIs V.T.F V.T.N V.T.c u1 r s) V r V'
def TR_take (u1 u2 u3 : Int) (V : Vw) (r : Int) (V' : Vw) : Prop := TrA (tkF V.T.N V.T.c u1 u2 u3) (fun r W => r = V.T.c ∧ TextSet V.T.F V.T.N V.T.c V.T.c (fun k => V.T.F u1 (u2 + k)) u3 W.T.F W.T.N W.T.c) V r V'
def TR_splice (u1 u2 u3 u4 : Int) (V : Vw) (r : Int) (V' : Vw) : Prop := TrA (wsF V.T.N V.T.c u1 u2 u3 u4) (fun r W => r = V.T.N u1 - u3 + V.T.N u4 ∧ TextSet V.T.F V.T.N V.T.c u1 (splF (V.T.F u1) u2 u3 (V.T.F u4) (V.T.N u4)) (V.T.N u1 - u3 + V.T.N u4) W.T.F W.T.N W.T.c) V r V'
def TR_join (u1 u2 : Int) (V : Vw) (r : Int) (V' : Vw) : Prop := TrA (jnF V.T.N V.T.c u1 u2) (fun r W => r = V.T.c ∧ TextSet V.T.F V.T.N V.T.c V.T.c (joinF (V.T.F u1) (V.T.N u1) (V.T.F u2)) (V.T.N u1 + V.T.N u2) W.T.F W.T.N W.T.c) V r V'
def TR_repeat (u1 u2 : Int) (V : Vw) (r : Int) (V' : Vw) : Prop := TrA (rpF V.T.N V.T.c u1 u2) (fun r W => r = V.T.N u1 * u2 ∧ TextSet V.T.F V.T.N V.T.c u1 (fun k => V.T.F u1 (k % V.T.N u1)) (V.T.N u1 * u2) W.T.F W.T.N W.T.c) V r V'
def TR_turn (u1 : Int) (V : Vw) (r : Int) (V' : Vw) : Prop := TrA (if 0 ≤ u1 ∧ u1 < V.T.c then 0 else 2) (fun r W => (r = 0 ∨ r = 1) ∧ (r = 1 ↔ ∀ k, 0 ≤ k → k < V.T.N u1 → V.T.F u1 (V.T.N u1 - 1 - k) = V.T.F u1 k) ∧ TextSet V.T.F V.T.N V.T.c u1 (fun k => V.T.F u1 (V.T.N u1 - 1 - k)) (V.T.N u1) W.T.F W.T.N W.T.c) V r V'
def TR_rename (u1 u2 u3 : Int) (V : Vw) (r : Int) (V' : Vw) : Prop := TrA (rnF V.T.F V.T.N V.T.c u1 u2 u3) (fun r W => r = cntF (V.T.F u1) u2 (V.T.N u1) ∧ TextSet V.T.F V.T.N V.T.c u1 (fun k => if V.T.F u1 k = u2 then u3 else V.T.F u1 k) (V.T.N u1) W.T.F W.T.N W.T.c) V r V'
def TR_drop (u1 : Int) (V : Vw) (r : Int) (V' : Vw) : Prop := TrA (if 0 ≤ u1 ∧ u1 < V.T.c then 0 else 2) (fun r W => r = V.T.c - 1 ∧ TextGone V.T.F V.T.N V.T.c u1 W.T.F W.T.N W.T.c) V r V'
def TR_undo (V : Vw) (r : Int) (V' : Vw) : Prop := TrU V r V'
def TR_mark (V : Vw) (r : Int) (V' : Vw) : Prop := TrM V r V'
def TR_back (V : Vw) (r : Int) (V' : Vw) : Prop := TrB V r V'
def TR_alike (u1 u2 u3 u4 : Int) (V : Vw) (r : Int) (V' : Vw) : Prop := TrQ (fun r s => QAlike V.T.F V.T.N V.T.c u1 u2 u3 u4 r s) V r V'
def TR_against (u1 u2 u3 : Int) (V : Vw) (r : Int) (V' : Vw) : Prop := TrQ (fun r s => QAg V.T.F V.T.N V.T.c u1 u2 u3 r s) V r V'
def TR_find (u1 u2 u3 : Int) (V : Vw) (r : Int) (V' : Vw) : Prop := TrQ (fun r s => QFind V.T.F V.T.N V.T.c u1 u2 u3 r s) V r V'
def TR_finds (u1 u2 : Int) (V : Vw) (r : Int) (V' : Vw) : Prop := TrQ (fun r s => QFinds V.T.F V.T.N V.T.c u1 u2 r s) V r V'
def TR_mirror (u1 u2 u3 : Int) (V : Vw) (r : Int) (V' : Vw) : Prop := TrQ (fun r s => QMirror V.T.F V.T.N V.T.c u1 u2 u3 r s) V r V'
def TR_rank (u1 u2 u3 : Int) (V : Vw) (r : Int) (V' : Vw) : Prop := TrQ (fun r s => QRank V.T.F V.T.N V.T.c u1 u2 u3 r s) V r V'
def TR_select (u1 u2 u3 : Int) (V : Vw) (r : Int) (V' : Vw) : Prop := TrQ (fun r s => QSelect V.T.F V.T.N V.T.c u1 u2 u3 r s) V r V'
def TR_sorted (u1 : Int) (V : Vw) (r : Int) (V' : Vw) : Prop := TrQ (fun r s => QSorted V.T.F V.T.N V.T.c u1 r s) V r V'
def QWould (F : Int → Int → Int) (N : Int → Int) (c t p m u r s : Int) : Prop := (wsF N c t p m u ≠ 0 ∧ r = -1 ∧ s = wsF N c t p m u) ∨ (wsF N c t p m u = 0 ∧ WouldF F N c (splF (F t) p m (F u) (N u)) (N t - m + N u) r ∧ s = 0)
def TR_would (u1 u2 u3 u4 : Int) (V : Vw) (r : Int) (V' : Vw) : Prop := TrQ (fun r s => QWould V.T.F V.T.N V.T.c u1 u2 u3 u4 r s) V r V'
section ONES
variable {V V2 V' V2' : Vw} {r r2 u1 u2 u3 u4 u5 : Int} (ho : VOk V) (e : VEq V V2)
theorem TR_status.one (ho : VOk V) (e : VEq V V2) (a : TR_status V r V') (b : TR_status V2 r2 V2') : r = r2 ∧ VEq V' V2' := TrS.one e a b
theorem TR_feed.one (ho : VOk V) (e : VEq V V2) (a : TR_feed u1 u2 u3 u4 u5 V r V') (b : TR_feed u1 u2 u3 u4 u5 V2 r2 V2') : r = r2 ∧ VEq V' V2' := TrF.one e a b
theorem TR_load.one (ho : VOk V) (e : VEq V V2) (a : TR_load u1 V r V') (b : TR_load u1 V2 r2 V2') : r = r2 ∧ VEq V' V2' := TrL.one ho e a b
theorem TR_fault.one (ho : VOk V) (e : VEq V V2) (a : TR_fault u1 V r V') (b : TR_fault u1 V2 r2 V2') : r = r2 ∧ VEq V' V2' := TrE.one e a b
theorem TR_many.one (ho : VOk V) (e : VEq V V2) (a : TR_many u1 V r V') (b : TR_many u1 V2 r2 V2') : r = r2 ∧ VEq V' V2' := by
  refine TrQ.one e (fun r s r2 s2 p q => ?_) a b
  have eh := e.2.2.2.1
  have hw : (if V2.hn = 0 then 0 else (V2.H (V2.hn - 1)).w) = (if V.hn = 0 then 0 else (V.H (V.hn - 1)).w) := by
    rw [eh.1]
    by_cases z : V.hn = 0
    · rw [if_pos z, if_pos z]
    · have h9 := ho.2.1
      rw [if_neg z, if_neg z, (eh.2 (V.hn - 1) (by omega) (by omega)).2]
  rw [hw, eh.1, e.2.2.2.2.1.1] at q
  exact QMany.one ho.1.1.1 e.2.2.1 p q
theorem TR_of.one (ho : VOk V) (e : VEq V V2) (a : TR_of u1 u2 V r V') (b : TR_of u1 u2 V2 r2 V2') : r = r2 ∧ VEq V' V2' := TrQ.one e (fun _ _ _ _ p q => QOf.one e.2.2.1 p q) a b
theorem TR_letter.one (ho : VOk V) (e : VEq V V2) (a : TR_letter u1 u2 V r V') (b : TR_letter u1 u2 V2 r2 V2') : r = r2 ∧ VEq V' V2' := TrQ.one e (fun _ _ _ _ p q => QLetter.one e.2.2.1 p q) a b
theorem TR_rule.one (ho : VOk V) (e : VEq V V2) (a : TR_rule u1 u2 u3 V r V') (b : TR_rule u1 u2 u3 V2 r2 V2') : r = r2 ∧ VEq V' V2' := TrQ.one e (fun _ _ _ _ p q => QRule.one e.2.2.1 p q) a b
theorem TR_around.one (ho : VOk V) (e : VEq V V2) (a : TR_around u1 u2 u3 V r V') (b : TR_around u1 u2 u3 V2 r2 V2') : r = r2 ∧ VEq V' V2' := TrQ.one e (fun _ _ _ _ p q => QAround.one e.2.2.1 p q) a b
theorem TR_value.one (ho : VOk V) (e : VEq V V2) (a : TR_value u1 V r V') (b : TR_value u1 V2 r2 V2') : r = r2 ∧ VEq V' V2' := TrQ.one e (fun _ _ _ _ p q => ValIs.one e.2.2.1 p q) a b
theorem TR_undo.one (ho : VOk V) (e : VEq V V2) (a : TR_undo V r V') (b : TR_undo V2 r2 V2') : r = r2 ∧ VEq V' V2' := TrU.one e a b
theorem TR_mark.one (ho : VOk V) (e : VEq V V2) (a : TR_mark V r V') (b : TR_mark V2 r2 V2') : r = r2 ∧ VEq V' V2' := TrM.one e a b
theorem TR_back.one (ho : VOk V) (e : VEq V V2) (a : TR_back V r V') (b : TR_back V2 r2 V2') : r = r2 ∧ VEq V' V2' := TrB.one e a b
theorem TR_alike.one (ho : VOk V) (e : VEq V V2) (a : TR_alike u1 u2 u3 u4 V r V') (b : TR_alike u1 u2 u3 u4 V2 r2 V2') : r = r2 ∧ VEq V' V2' := TrQ.one e (fun _ _ _ _ p q => QAlike.one e.2.2.1 p q) a b
theorem TR_against.one (ho : VOk V) (e : VEq V V2) (a : TR_against u1 u2 u3 V r V') (b : TR_against u1 u2 u3 V2 r2 V2') : r = r2 ∧ VEq V' V2' := TrQ.one e (fun _ _ _ _ p q => QAg.one ho.1 e.2.2.1 p q) a b
theorem TR_find.one (ho : VOk V) (e : VEq V V2) (a : TR_find u1 u2 u3 V r V') (b : TR_find u1 u2 u3 V2 r2 V2') : r = r2 ∧ VEq V' V2' := TrQ.one e (fun _ _ _ _ p q => QFind.one e.2.2.1 p q) a b
theorem TR_finds.one (ho : VOk V) (e : VEq V V2) (a : TR_finds u1 u2 V r V') (b : TR_finds u1 u2 V2 r2 V2') : r = r2 ∧ VEq V' V2' := TrQ.one e (fun _ _ _ _ p q => QFinds.one ho.1 e.2.2.1 p q) a b
theorem TR_mirror.one (ho : VOk V) (e : VEq V V2) (a : TR_mirror u1 u2 u3 V r V') (b : TR_mirror u1 u2 u3 V2 r2 V2') : r = r2 ∧ VEq V' V2' := TrQ.one e (fun _ _ _ _ p q => QMirror.one e.2.2.1 p q) a b
theorem TR_rank.one (ho : VOk V) (e : VEq V V2) (a : TR_rank u1 u2 u3 V r V') (b : TR_rank u1 u2 u3 V2 r2 V2') : r = r2 ∧ VEq V' V2' := TrQ.one e (fun _ _ _ _ p q => QRank.one e.2.2.1 p q) a b
theorem TR_select.one (ho : VOk V) (e : VEq V V2) (a : TR_select u1 u2 u3 V r V') (b : TR_select u1 u2 u3 V2 r2 V2') : r = r2 ∧ VEq V' V2' := TrQ.one e (fun _ _ _ _ p q => QSelect.one e.2.2.1 p q) a b
theorem TR_sorted.one (ho : VOk V) (e : VEq V V2) (a : TR_sorted u1 V r V') (b : TR_sorted u1 V2 r2 V2') : r = r2 ∧ VEq V' V2' := TrQ.one e (fun _ _ _ _ p q => QSorted.one ho.1 e.2.2.1 p q) a b
theorem splF_teq {F F2 : Int → Int → Int} {N N2 : Int → Int} {c c2 : Int} (e : TEq F N c F2 N2 c2) {t p m u : Int} (h : wsF N c t p m u = 0) : N2 t - m + N2 u = N t - m + N u ∧ ∀ k, 0 ≤ k → k < N t - m + N u → splF (F2 t) p m (F2 u) (N2 u) k = splF (F t) p m (F u) (N u) k := by
  obtain ⟨h1, h2, h3, h4⟩ := wsF_0 h
  rw [e.n h1, e.n h2]
  refine ⟨rfl, fun k k0 k1 => ?_⟩
  unfold splF
  split
  · exact (e.f h1 k k0 (by omega)).symm
  · split
    · exact (e.f h2 _ (by omega) (by omega)).symm
    · exact (e.f h1 _ (by omega) (by omega)).symm
theorem TR_would.one (ho : VOk V) (e : VEq V V2) (a : TR_would u1 u2 u3 u4 V r V') (b : TR_would u1 u2 u3 u4 V2 r2 V2') : r = r2 ∧ VEq V' V2' := by
  refine TrQ.one e (fun r s r2 s2 p q => ?_) a b
  have hw := wsF_teq e.2.2.1 u1 u2 u3 u4
  unfold QWould at q
  rw [hw] at q
  rcases p with p | p <;> rcases q with q | q
  · omega
  · exact absurd q.1 p.1
  · exact absurd p.1 q.1
  · have hs := splF_teq e.2.2.1 p.1
    exact ⟨WouldF.one ho.1.1.1 e.2.2.1 hs.1 (fun k x y => (hs.2 k x y).symm) p.2.1 q.2.1, by omega⟩
theorem TR_take.one (ho : VOk V) (e : VEq V V2) (a : TR_take u1 u2 u3 V r V') (b : TR_take u1 u2 u3 V2 r2 V2') : r = r2 ∧ VEq V' V2' := by
  refine TrA.one ho e (tkF_teq e.2.2.1 u1 u2 u3) (fun hw p q => ?_) a b
  obtain ⟨h1, h2, h3, h4, h5⟩ := tkF_0 hw
  have hc := e.2.2.1.1
  have hc0 := ho.1.1
  have q2 := q.2
  rw [hc] at q2
  refine ⟨by rw [p.1, q.1, hc], by have := p.2.1; omega, ?_⟩
  rw [← hc] at q2
  have q3 : TextSet V2.T.F V2.T.N V2.T.c V.T.c (fun k => V2.T.F u1 (u2 + k)) u3 V2'.T.F V2'.T.N V2'.T.c := by rw [← hc]; exact q.2
  exact TextSet.teq e.2.2.1 rfl (fun k x y => (e.2.2.1.f h1 _ (by omega) (by omega)).symm) p.2 q3 (by omega)
theorem TR_splice.one (ho : VOk V) (e : VEq V V2) (a : TR_splice u1 u2 u3 u4 V r V') (b : TR_splice u1 u2 u3 u4 V2 r2 V2') : r = r2 ∧ VEq V' V2' := by
  refine TrA.one ho e (wsF_teq e.2.2.1 u1 u2 u3 u4) (fun hw p q => ?_) a b
  have h1 := wsF_0 hw
  have hs := splF_teq e.2.2.1 hw
  have hc0 := ho.1.1
  exact ⟨by rw [p.1, q.1, hs.1], by have := p.2.1; omega, TextSet.teq e.2.2.1 hs.1 hs.2 p.2 q.2 (by omega)⟩
theorem TR_join.one (ho : VOk V) (e : VEq V V2) (a : TR_join u1 u2 V r V') (b : TR_join u1 u2 V2 r2 V2') : r = r2 ∧ VEq V' V2' := by
  refine TrA.one ho e (jnF_teq e.2.2.1 u1 u2) (fun hw p q => ?_) a b
  obtain ⟨h1, h2, h3, h4⟩ := jnF_0 hw
  have hc := e.2.2.1.1
  have hc0 := ho.1.1
  refine ⟨by rw [p.1, q.1, hc], by have := p.2.1; omega, ?_⟩
  have q3 : TextSet V2.T.F V2.T.N V2.T.c V.T.c (joinF (V2.T.F u1) (V2.T.N u1) (V2.T.F u2)) (V2.T.N u1 + V2.T.N u2) V2'.T.F V2'.T.N V2'.T.c := by rw [← hc]; exact q.2
  rw [e.2.2.1.n h1, e.2.2.1.n h2] at q3
  refine TextSet.teq e.2.2.1 rfl (fun k x y => ?_) p.2 q3 (by omega)
  unfold joinF
  split
  · exact (e.2.2.1.f h1 k x (by omega)).symm
  · exact (e.2.2.1.f h2 _ (by omega) (by omega)).symm
theorem TR_repeat.one (ho : VOk V) (e : VEq V V2) (a : TR_repeat u1 u2 V r V') (b : TR_repeat u1 u2 V2 r2 V2') : r = r2 ∧ VEq V' V2' := by
  refine TrA.one ho e (rpF_teq e.2.2.1 u1 u2) (fun hw p q => ?_) a b
  obtain ⟨h1, h2, h3⟩ := rpF_0 hw
  have hc0 := ho.1.1
  have hl := (ho.1.2 u1 h1.1 h1.2).1
  obtain ⟨q1, q2⟩ := q
  rw [e.2.2.1.n h1] at q1 q2
  exact ⟨by rw [p.1, q1], by have := p.2.1; omega, TextSet.teq e.2.2.1 rfl (fun k x y => (e.2.2.1.f h1 _ (Int.emod_nonneg _ (by omega)) (Int.emod_lt_of_pos _ (by omega))).symm) p.2 q2 (by omega)⟩
theorem TR_turn.one (ho : VOk V) (e : VEq V V2) (a : TR_turn u1 V r V') (b : TR_turn u1 V2 r2 V2') : r = r2 ∧ VEq V' V2' := by
  refine TrA.one ho e (by rw [e.2.2.1.1]) (fun hw p q => ?_) a b
  have h1 := hasF_0 hw
  have hc0 := ho.1.1
  obtain ⟨p1, p2, p3⟩ := p
  obtain ⟨q1, q2, q3⟩ := q
  rw [e.2.2.1.n h1] at q2 q3
  refine ⟨?_, by have := p3.1; omega, TextSet.teq e.2.2.1 rfl (fun k x y => (e.2.2.1.f h1 _ (by omega) (by omega)).symm) p3 q3 (by omega)⟩
  have hiff : r = 1 ↔ r2 = 1 := by
    rw [p2, q2]
    constructor
    · intro z k x y
      rw [← e.2.2.1.f h1 _ (by omega) (by omega), ← e.2.2.1.f h1 k x y]; exact z k x y
    · intro z k x y
      rw [e.2.2.1.f h1 _ (by omega) (by omega), e.2.2.1.f h1 k x y]; exact z k x y
  omega
theorem TR_rename.one (ho : VOk V) (e : VEq V V2) (a : TR_rename u1 u2 u3 V r V') (b : TR_rename u1 u2 u3 V2 r2 V2') : r = r2 ∧ VEq V' V2' := by
  refine TrA.one ho e (rnF_teq e.2.2.1 u1 u2 u3) (fun hw p q => ?_) a b
  obtain ⟨h1, h2, h3⟩ := rnF_0 hw
  have hc0 := ho.1.1
  obtain ⟨q1, q2⟩ := q
  rw [e.2.2.1.n h1] at q1 q2
  exact ⟨by rw [p.1, q1]; exact cntF_cong (e.2.2.1.f h1), by have := p.2.1; omega, TextSet.teq e.2.2.1 rfl (fun k x y => by show (if V2.T.F u1 k = u2 then u3 else V2.T.F u1 k) = (if V.T.F u1 k = u2 then u3 else V.T.F u1 k); rw [e.2.2.1.f h1 k x y]) p.2 q2 (by omega)⟩
theorem TR_drop.one (ho : VOk V) (e : VEq V V2) (a : TR_drop u1 V r V') (b : TR_drop u1 V2 r2 V2') : r = r2 ∧ VEq V' V2' := by
  refine TrA.one ho e (by rw [e.2.2.1.1]) (fun hw p q => ?_) a b
  have h1 := hasF_0 hw
  have hc0 := ho.1.1
  exact ⟨by rw [p.1, q.1, e.2.2.1.1], by have := p.2.1; omega, TextGone.teq e.2.2.1 p.2 q.2 h1⟩
end ONES
