/-! ===== pure: the rules of a text, numbered as one comes to them ===== -/
def InV (V : List (Rl × Int)) (r : Rl) : Prop := ∃ p, (r, p) ∈ V
noncomputable def vis : Rl → Int → List (Rl × Int) → List (Rl × Int)
  | .mul n a, p, V => if @decide (InV V (.mul n a)) (Classical.propDecidable _) = true then V else vis a p (V ++ [(.mul n a, p)])
  | .add a b, p, V => if @decide (InV V (.add a b)) (Classical.propDecidable _) = true then V else vis b (p + rlen a) (vis a p (V ++ [(.add a b, p)]))
  | r, p, V => if @decide (InV V r) (Classical.propDecidable _) = true then V else V ++ [(r, p)]
theorem dcT {c : Prop} (h : c) : @decide c (Classical.propDecidable _) = true := @decide_eq_true _ (Classical.propDecidable _) h
theorem dcF {c : Prop} (h : ¬ c) : ¬ @decide c (Classical.propDecidable _) = true := fun e => h (@of_decide_eq_true _ (Classical.propDecidable _) e)
theorem vis_old {r : Rl} {p : Int} {V : List (Rl × Int)} (h : InV V r) : vis r p V = V := by
  cases r <;> (unfold vis; rw [if_pos (dcT h)])
theorem vis_let {c p : Int} {V : List (Rl × Int)} (h : ¬ InV V (rLet c)) : vis (rLet c) p V = V ++ [(rLet c, p)] := by
  unfold rLet at h ⊢
  unfold vis
  rw [if_neg (dcF h)]
theorem vis_run {n p : Int} {a : Rl} {V : List (Rl × Int)} (h : ¬ InV V (rRun n a)) : vis (rRun n a) p V = vis a p (V ++ [(rRun n a, p)]) := by
  unfold rRun at h ⊢
  rw [vis, if_neg (dcF h)]
theorem vis_pair {p : Int} {a b : Rl} {V : List (Rl × Int)} (h : ¬ InV V (rPair a b)) : vis (rPair a b) p V = vis b (p + rlen a) (vis a p (V ++ [(rPair a b, p)])) := by
  unfold rPair at h ⊢
  rw [vis, if_neg (dcF h)]
noncomputable def visS : List (Rl × Int) → List (Rl × Int) → List (Rl × Int)
  | [], V => V
  | q :: s, V => visS s (vis q.1 q.2 V)
def nod : Rl → Int
  | .mul _ a => 1 + nod a
  | .add a b => 1 + nod a + nod b
  | _ => 1
def nodS : List (Rl × Int) → Int
  | [] => 0
  | q :: s => nod q.1 + nodS s
theorem nod_pos (r : Rl) : 1 ≤ nod r := by
  induction r with
  | mul n a _ ih => show 1 ≤ 1 + nod a; omega
  | add a b iha ihb => show 1 ≤ 1 + nod a + nod b; omega
  | _ => show (1 : Int) ≤ 1; omega
theorem nod_le : ∀ {r : Rl}, Wf r → nod r ≤ 2 * rlen r - 1 := by
  intro r
  induction r with
  | arg c => intro _; show (1 : Int) ≤ 2 * 1 - 1; omega
  | mul n a _ ih =>
    intro h
    have h0 := rlen_run h
    have h1 := ih h.2
    have h2 := rlen_pos h.2
    show 1 + nod a ≤ _
    omega
  | add a b iha ihb =>
    intro h
    have h1 := iha h.1
    have h2 := ihb h.2
    show 1 + nod a + nod b ≤ 2 * (rlen a + rlen b) - 1
    omega
  | _ => intro h; exact h.elim
theorem nodS_nn : ∀ s : List (Rl × Int), (s.length : Int) ≤ nodS s
  | [] => by simp [nodS]
  | q :: s => by
    have h1 := nodS_nn s
    have h2 := nod_pos q.1
    rw [List.length_cons]
    show _ ≤ nod q.1 + nodS s
    omega
/-- the stack, its top first -/
def stkN (R : Int → Rl) (op no : Int → Int) : Nat → List (Rl × Int)
  | 0 => []
  | n + 1 => (R (op n), no n) :: stkN R op no n
def stk (R : Int → Rl) (op no : Int → Int) (n : Int) : List (Rl × Int) := stkN R op no n.toNat
theorem stkN_cong {R R2 : Int → Rl} {op no op2 no2 : Int → Int} : ∀ n : Nat, (∀ j : Int, 0 ≤ j → j < n → R (op j) = R2 (op2 j) ∧ no j = no2 j) → stkN R op no n = stkN R2 op2 no2 n
  | 0, _ => rfl
  | n + 1, h => by
    have h1 := h n (by omega) (by omega)
    rw [stkN, stkN, stkN_cong n (fun j a b => h j a (by omega)), h1.1, h1.2]
theorem stk_push {R : Int → Rl} {op no : Int → Int} {n x p : Int} (h : 0 ≤ n) : stk R (up op n x) (up no n p) (n + 1) = (R x, p) :: stk R op no n := by
  unfold stk
  rw [show (n + 1).toNat = n.toNat + 1 by omega, stkN, Int.toNat_of_nonneg h, up_same, up_same]
  congr 1
  exact stkN_cong _ (fun j a b => by rw [up_ne _ _ (by omega), up_ne _ _ (by omega)]; exact ⟨rfl, rfl⟩)
theorem stk_pop {R : Int → Rl} {op no : Int → Int} {n : Int} (h : 0 < n) : stk R op no n = (R (op (n - 1)), no (n - 1)) :: stk R op no (n - 1) := by
  unfold stk
  rw [show n.toNat = (n - 1).toNat + 1 by omega, stkN, Int.toNat_of_nonneg (by omega)]
theorem stk_0 (R : Int → Rl) (op no : Int → Int) {n : Int} (h : n ≤ 0) : stk R op no n = [] := by
  unfold stk
  rw [show n.toNat = 0 by omega]
  rfl
theorem stk_len (R : Int → Rl) (op no : Int → Int) {n : Int} (h : 0 ≤ n) : ((stk R op no n).length : Int) = n := by
  have : ∀ m : Nat, (stkN R op no m).length = m := fun m => by
    induction m with
    | zero => rfl
    | succ m ih => rw [stkN, List.length_cons, ih]
  unfold stk
  rw [this]
  omega
/-- what a walk holds: V are the rules met, in their order, with their places -/
def WV (R : Int → Rl) (rc : Int) (V : List (Rl × Int)) (sp nb mt pl : Int → Int) (stm wc : Int) : Prop :=
  wc = V.length ∧ (0 ≤ stm ∧ ∀ i, 0 ≤ i → i < 10240 → 0 ≤ sp i ∧ sp i ≤ stm) ∧ (∀ i, 0 ≤ i → i < 10240 → (sp i = stm ↔ i < rc ∧ InV V (R i))) ∧
  (∀ i, 0 ≤ i → i < rc → sp i = stm → 0 ≤ nb i ∧ nb i < wc ∧ ∃ p, V[(nb i).toNat]? = some (R i, p)) ∧ (∀ k, 0 ≤ k → k < 626 → k < wc → (0 ≤ mt k ∧ mt k < rc) ∧ V[k.toNat]? = some (R (mt k), pl k)) ∧
  (∀ q ∈ V, ∃ i, 0 ≤ i ∧ i < rc ∧ R i = q.1) ∧ (V.map Prod.fst).Nodup
theorem WV.new {R : Int → Rl} {rc : Int} {sp nb mt pl : Int → Int} {stm : Int} (hrc : rc ≤ 10240) (h : 0 ≤ stm ∧ ∀ i, 0 ≤ i → i < 10240 → 0 ≤ sp i ∧ sp i ≤ stm) : WV R rc [] sp nb mt pl (stm + 1) 0 := by
  refine ⟨rfl, ⟨by omega, fun i a b => ?_⟩, fun i a b => ?_, fun i a b e => ?_, fun k a b c => ?_, fun q hq => ?_, ?_⟩
  · have := h.2 i a b
    omega
  · constructor
    · intro e
      have := h.2 i a b
      omega
    · rintro ⟨_, p, q⟩
      cases q
  · have := h.2 i a (by omega)
    omega
  · omega
  · cases hq
  · exact List.nodup_nil
/-- the table has grown -/
theorem WV.ext {R R2 : Int → Rl} {rc rc2 : Int} {V : List (Rl × Int)} {sp nb mt pl : Int → Int} {stm wc : Int} (h : WV R rc V sp nb mt pl stm wc) (hr : rc ≤ rc2 ∧ rc2 ≤ 10240) (hag : ∀ i, 0 ≤ i → i < rc → R2 i = R i) (hin : ∀ i j, 0 ≤ i → i < rc2 → 0 ≤ j → j < rc2 → R2 i = R2 j → i = j) : WV R2 rc2 V sp nb mt pl stm wc := by
  obtain ⟨h1, h2, h3, h4, h5, h6, h7⟩ := h
  refine ⟨h1, h2, fun i a b => ?_, fun i a b e => ?_, fun k a b c => ?_, fun q hq => ?_, h7⟩
  · constructor
    · intro e
      obtain ⟨g1, g2⟩ := (h3 i a b).mp e
      exact ⟨by omega, by rw [hag i a g1]; exact g2⟩
    · rintro ⟨g1, p, g2⟩
      obtain ⟨j, j0, j1, j2⟩ := h6 _ g2
      have e : i = j := hin i j a g1 j0 (by omega) (by rw [hag j j0 j1]; exact j2.symm)
      subst e
      exact (h3 i a b).mpr ⟨j1, p, by rw [← hag i a j1]; exact g2⟩
  · obtain ⟨g1, g2⟩ := (h3 i a (by omega)).mp e
    rw [hag i a g1]
    exact h4 i a g1 e
  · obtain ⟨g1, g2⟩ := h5 k a b c
    exact ⟨by omega, by rw [hag _ g1.1 g1.2]; exact g2⟩
  · obtain ⟨j, j0, j1, j2⟩ := h6 q hq
    exact ⟨j, j0, by omega, by rw [hag j j0 j1]; exact j2⟩
/-- a rule more is met -/
theorem WV.meet {R : Int → Rl} {rc : Int} {V : List (Rl × Int)} {sp nb mt pl : Int → Int} {stm wc : Int} (h : WV R rc V sp nb mt pl stm wc) {x p : Int} (hrc : rc ≤ 10240) (hx : 0 ≤ x ∧ x < rc) (hn : sp x ≠ stm) (hin : ∀ i j, 0 ≤ i → i < rc → 0 ≤ j → j < rc → R i = R j → i = j) :
    WV R rc (V ++ [(R x, p)]) (up sp x stm) (up nb x wc) (if wc < 626 then up mt wc x else mt) (if wc < 626 then up pl wc p else pl) stm (wc + 1) := by
  obtain ⟨h1, h2, h3, h4, h5, h6, h7⟩ := h
  have hw : 0 ≤ wc := by omega
  have hnv : ¬ InV V (R x) := fun z => hn ((h3 x hx.1 (by omega)).mpr ⟨hx.2, z⟩)
  have hget : ∀ k : Int, 0 ≤ k → k < wc → (V ++ [(R x, p)])[k.toNat]? = V[k.toNat]? := fun k a b => List.getElem?_append_left (by omega)
  have hlast : (V ++ [(R x, p)])[wc.toNat]? = some (R x, p) := by
    rw [List.getElem?_append_right (by omega), show wc.toNat - V.length = 0 by omega]
    rfl
  refine ⟨by rw [List.length_append, List.length_singleton]; omega, ⟨h2.1, fun i a b => ?_⟩, fun i a b => ?_, fun i a b e => ?_, fun k a b c => ?_, fun q hq => ?_, ?_⟩
  · by_cases e : i = x
    · subst e; rw [up_same]; exact ⟨h2.1, Int.le_refl _⟩
    · rw [up_ne _ _ e]; exact h2.2 i a b
  · by_cases e : i = x
    · subst e
      rw [up_same]
      exact ⟨fun _ => ⟨hx.2, p, List.mem_append_right _ (List.mem_singleton.mpr rfl)⟩, fun _ => rfl⟩
    · rw [up_ne _ _ e, h3 i a b]
      constructor
      · rintro ⟨g1, q, g2⟩
        exact ⟨g1, q, List.mem_append_left _ g2⟩
      · rintro ⟨g1, q, g2⟩
        rcases List.mem_append.mp g2 with z | z
        · exact ⟨g1, q, z⟩
        · have := List.mem_singleton.mp z
          injection this with z1 z2
          exact absurd (hin i x a g1 hx.1 hx.2 z1) e
  · by_cases e2 : i = x
    · subst e2
      rw [up_same]
      exact ⟨hw, by omega, p, hlast⟩
    · rw [up_ne _ _ e2] at e ⊢
      obtain ⟨g1, g2, q, g3⟩ := h4 i a b e
      exact ⟨g1, by omega, q, by rw [hget _ g1 g2]; exact g3⟩
  · by_cases e : k = wc
    · subst e
      rw [if_pos b, if_pos b, up_same, up_same]
      exact ⟨hx, hlast⟩
    · have hm : (if wc < 626 then up mt wc x else mt) k = mt k := by split; exact up_ne _ _ e; rfl
      have hp : (if wc < 626 then up pl wc p else pl) k = pl k := by split; exact up_ne _ _ e; rfl
      rw [hm, hp, hget k a (by omega)]
      exact h5 k a b (by omega)
  · rcases List.mem_append.mp hq with z | z
    · exact h6 q z
    · rw [List.mem_singleton.mp z]
      exact ⟨x, hx.1, hx.2, rfl⟩
  · rw [List.map_append, List.nodup_append]
    refine ⟨h7, by simp, fun a ha b hb e => ?_⟩
    obtain ⟨q, hq, rfl⟩ := List.mem_map.mp ha
    have hb2 : b = R x := by simpa using hb
    exact hnv ⟨q.2, by rw [← hb2, ← e]; exact hq⟩
/-- how often w stands in a tree -/
noncomputable def occ (w : Rl) : Rl → Int
  | .mul n a => if @decide (Jvm.Term.mul n a = w) (Classical.propDecidable _) = true then 1 else cntOf n * occ w a
  | .add a b => if @decide (Jvm.Term.add a b = w) (Classical.propDecidable _) = true then 1 else occ w a + occ w b
  | r => if @decide (r = w) (Classical.propDecidable _) = true then 1 else 0
theorem occ_self (w : Rl) : occ w w = 1 := by cases w <;> (unfold occ; rw [if_pos (dcT rfl)])
theorem occ_run {n : Int} (hn : 0 ≤ n) {a w : Rl} (h : rRun n a ≠ w) : occ w (rRun n a) = n * occ w a := by
  unfold rRun at h ⊢
  rw [occ, if_neg (dcF h)]
  show ((n.toNat : Nat) : Int) * _ = _
  rw [Int.toNat_of_nonneg hn]
theorem occ_pair {a b w : Rl} (h : rPair a b ≠ w) : occ w (rPair a b) = occ w a + occ w b := by
  unfold rPair at h ⊢
  rw [occ, if_neg (dcF h)]
theorem occ_let {c : Int} {w : Rl} (h : rLet c ≠ w) : occ w (rLet c) = 0 := by
  unfold rLet at h ⊢
  unfold occ
  rw [if_neg (dcF h)]
noncomputable def occS (w : Rl) : List (Rl × Int) → Int
  | [] => 0
  | q :: s => q.2 * occ w q.1 + occS w s
