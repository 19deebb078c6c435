/-! ===== the model numbers the rules of a text ===== -/
def NV (R : Int → Rl) (rc : Int) (V : List (Rl × Int)) (nu fa cm : Int → Int) (wc : Int) : Prop :=
  wc = V.length ∧ (∀ i, 0 ≤ i → i < rc → (nu i = -1 ∧ ¬ InV V (R i)) ∨ (0 ≤ nu i ∧ nu i < wc ∧ V[(nu i).toNat]? = some (R i, fa i))) ∧
  (∀ k, 0 ≤ k → k < wc → (0 ≤ cm k ∧ cm k < rc) ∧ V[k.toNat]? = some (R (cm k), fa (cm k))) ∧ (V.map Prod.fst).Nodup
theorem NV.new {R : Int → Rl} {rc : Int} {nu fa cm : Int → Int} (h : ∀ i, 0 ≤ i → i < rc → nu i = -1) : NV R rc [] nu fa cm 0 :=
  ⟨rfl, fun i a b => Or.inl ⟨h i a b, fun z => by obtain ⟨p, hp⟩ := z; simp at hp⟩, fun k a b => absurd b (by omega), List.nodup_nil⟩
theorem NV.meet {R : Int → Rl} {rc : Int} {V : List (Rl × Int)} {nu fa cm : Int → Int} {wc x : Int} (h : NV R rc V nu fa cm wc) (p : Int) (hx : 0 ≤ x ∧ x < rc) (hn : nu x = -1) (hinj : ∀ i j, 0 ≤ i → i < rc → 0 ≤ j → j < rc → R i = R j → i = j) :
    NV R rc (V ++ [(R x, p)]) (up nu x wc) (up fa x p) (up cm wc x) (wc + 1) := by
  obtain ⟨h1, h2, h3, h4⟩ := h
  have hnx : ¬ InV V (R x) := by
    rcases h2 x hx.1 hx.2 with z | z
    · exact z.2
    · omega
  have hw : 0 ≤ wc := by omega
  refine ⟨by rw [List.length_append, List.length_singleton]; omega, fun i a b => ?_, fun k a b => ?_, nd_snoc h4 hnx⟩
  · by_cases q : i = x
    · right
      rw [q, up_same, up_same]
      refine ⟨hw, by omega, ?_⟩
      rw [show wc.toNat = V.length by omega, List.getElem?_append_right (Nat.le_refl _), Nat.sub_self]
      rfl
    · rw [up_ne _ _ q, up_ne _ _ q]
      rcases h2 i a b with z | z
      · refine Or.inl ⟨z.1, fun w => ?_⟩
        rcases InV.app.mp w with w | w
        · exact z.2 w
        · exact q (hinj i x a b hx.1 hx.2 w)
      · refine Or.inr ⟨z.1, by omega, ?_⟩
        rw [List.getElem?_append_left (by omega)]
        exact z.2.2
  · by_cases q : k = wc
    · rw [q, up_same, up_same]
      refine ⟨hx, ?_⟩
      rw [show wc.toNat = V.length by omega, List.getElem?_append_right (Nat.le_refl _), Nat.sub_self]
      rfl
    · have h9 := h3 k a (by omega)
      rw [up_ne _ _ q, up_ne _ _ (fun z => hnx (by rw [← z]; exact ⟨_, List.mem_of_getElem? h9.2⟩))]
      refine ⟨h9.1, ?_⟩
      rw [List.getElem?_append_left (by omega)]
      exact h9.2
theorem NV.old {R : Int → Rl} {rc : Int} {V : List (Rl × Int)} {nu fa cm : Int → Int} {wc x : Int} (h : NV R rc V nu fa cm wc) (hx : 0 ≤ x ∧ x < rc) (hn : nu x ≠ -1) : InV V (R x) := by
  rcases h.2.1 x hx.1 hx.2 with z | z
  · exact absurd z.1 hn
  · exact ⟨_, List.mem_of_getElem? z.2.2⟩
theorem NV.no {R : Int → Rl} {rc : Int} {V : List (Rl × Int)} {nu fa cm : Int → Int} {wc x : Int} (h : NV R rc V nu fa cm wc) (hx : 0 ≤ x ∧ x < rc) (hn : nu x = -1) : ¬ InV V (R x) := by
  rcases h.2.1 x hx.1 hx.2 with z | z
  · exact z.2
  · omega
theorem NV.idx {R : Int → Rl} {rc : Int} {V : List (Rl × Int)} {nu fa cm : Int → Int} {wc x : Int} (h : NV R rc V nu fa cm wc) (hx : 0 ≤ x ∧ x < rc) (hv : InV V (R x)) : IdxV V (R x) (nu x) := by
  rcases h.2.1 x hx.1 hx.2 with z | z
  · exact absurd hv z.2
  · exact ⟨z.1, _, z.2.2⟩
theorem NV.rg {R : Int → Rl} {rc : Int} {V : List (Rl × Int)} {nu fa cm : Int → Int} {wc x : Int} (h : NV R rc V nu fa cm wc) (hx : 0 ≤ x ∧ x < rc) : -1 ≤ nu x ∧ nu x < max wc 0 := by
  rcases h.2.1 x hx.1 hx.2 with z | z <;> omega
theorem TRow.kind {kd on tw sg le de : Int → Int} {R : Int → Rl} {i : Int} (h : TRow kd on tw sg le de R i) : kd i = rkind (R i) := by
  rcases h.1 with z | z | z
  · rw [z.1, z.2.2.2.2]; rfl
  · rw [z.1, z.2.2.2.2.2]; rfl
  · rw [z.1, z.2.2.2.2.2]; rfl
theorem TRow.p1 {kd on tw sg le de : Int → Int} {R : Int → Rl} {i : Int} (h : TRow kd on tw sg le de R i) {V : List (Rl × Int)} {r : Int} (h1 : kd i = 0 → r = on i) (h2 : kd i ≠ 0 → IdxV V (R (on i)) r) : part1 V (R i) r := by
  rcases h.1 with z | z | z
  · rw [z.2.2.2.2]; show r = ((on i).toNat : Int); rw [h1 z.1]; omega
  · rw [z.2.2.2.2.2]; exact h2 (by omega)
  · rw [z.2.2.2.2.2]; exact h2 (by omega)
theorem TRow.p2 {kd on tw sg le de : Int → Int} {R : Int → Rl} {i : Int} (h : TRow kd on tw sg le de R i) {V : List (Rl × Int)} {r : Int} (h0 : kd i = 0 → r = -1) (h1 : kd i = 2 → r = tw i) (h2 : kd i = 1 → IdxV V (R (tw i)) r) : part2 V (R i) r := by
  rcases h.1 with z | z | z
  · rw [z.2.2.2.2]; exact h0 z.1
  · rw [z.2.2.2.2.2]; exact h2 z.1
  · rw [z.2.2.2.2.2]; show r = ((tw i).toNat : Int); rw [h1 z.1]; omega
/-! what each of the questions on rules asks -/
def QOf (F : Int → Int → Int) (N : Int → Int) (c t w r s : Int) : Prop := (¬ (0 ≤ w ∧ w ≤ 6) ∧ s = 1 ∧ r = -1) ∨ ((0 ≤ w ∧ w ≤ 6) ∧ ¬ HasT c t ∧ s = 2 ∧ r = -1) ∨ ((0 ≤ w ∧ w ≤ 6) ∧ HasT c t ∧ OfIs (F t) (N t) w r ∧ s = 0)
def QRule (F : Int → Int → Int) (N : Int → Int) (c t k w r s : Int) : Prop := (¬ (0 ≤ k ∧ 0 ≤ w ∧ w ≤ 6) ∧ s = 1 ∧ r = -1) ∨ ((0 ≤ k ∧ 0 ≤ w ∧ w ≤ 6) ∧ ¬ HasT c t ∧ s = 2 ∧ r = -1) ∨
  ((0 ≤ k ∧ 0 ≤ w ∧ w ≤ 6) ∧ HasT c t ∧ ∃ T q, BIs (lts (F t) 0 (N t)) T q ∧ ((((vis T 0 []).length : Int) ≤ k ∧ s = 5 ∧ r = -1) ∨ (k < ((vis T 0 []).length : Int) ∧ RuleIs (vis T 0 []) T k w r ∧ s = 0)))
def QAround (F : Int → Int → Int) (N : Int → Int) (c t p i r s : Int) : Prop := (¬ (0 ≤ p ∧ 0 ≤ i) ∧ s = 1 ∧ r = -1) ∨ ((0 ≤ p ∧ 0 ≤ i) ∧ ¬ HasT c t ∧ s = 2 ∧ r = -1) ∨ ((0 ≤ p ∧ 0 ≤ i) ∧ HasT c t ∧ N t ≤ p ∧ s = 5 ∧ r = -1) ∨
  ((0 ≤ p ∧ 0 ≤ i) ∧ HasT c t ∧ p < N t ∧ ∃ T q, BIs (lts (F t) 0 (N t)) T q ∧ ((arN i.toNat T p = none ∧ s = 5 ∧ r = -1) ∨ (∃ a, arN i.toNat T p = some a ∧ IdxV (vis T 0 []) a r ∧ s = 0)))
def QAg (F : Int → Int → Int) (N : Int → Int) (c t u w r s : Int) : Prop := (¬ (0 ≤ w ∧ w ≤ 3) ∧ s = 1 ∧ r = -1) ∨ ((0 ≤ w ∧ w ≤ 3) ∧ ¬ (HasT c t ∧ HasT c u) ∧ s = 2 ∧ r = -1) ∨ ((0 ≤ w ∧ w ≤ 3) ∧ (HasT c t ∧ HasT c u) ∧ AgIs (F t) (N t) (F u) (N u) w r ∧ s = 0)
