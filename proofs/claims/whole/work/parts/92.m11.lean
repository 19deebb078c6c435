/-! ===== how often each rule stands there, by the model's way ===== -/
theorem sumF_bump (f : Int → Int) (a d : Int) : ∀ n : Nat, sumN (fun j => f j + if j = a then d else 0) n = sumN f n + (if 0 ≤ a ∧ a < n then d else 0)
  | 0 => by rw [if_neg (by omega)]; rfl
  | n + 1 => by
    show sumN _ n + (f n + if (n : Int) = a then d else 0) = sumN f n + f n + _
    rw [sumF_bump f a d n]
    by_cases h : (n : Int) = a
    · rw [if_pos h, if_neg (by omega), if_pos (by omega)]; omega
    · rw [if_neg h]
      by_cases q : 0 ≤ a ∧ a < n
      · rw [if_pos q, if_pos (by omega)]; omega
      · rw [if_neg q, if_neg (by omega)]; omega
theorem sumF_b {f : Int → Int} {a d n : Int} (h : 0 ≤ a ∧ a < n) : sumF (fun j => f j + if j = a then d else 0) n = sumF f n + d := by
  unfold sumF
  rw [sumF_bump, if_pos (by omega)]
theorem sumF_cg {f h : Int → Int} {n : Int} (q : ∀ j, 0 ≤ j → j < n → f j = h j) : sumF f n = sumF h n := by
  unfold sumF
  exact sumF_cong n.toNat (fun j a b => q j a (by omega))
theorem sumN_z : ∀ n : Nat, sumN (fun _ => (0 : Int)) n = 0
  | 0 => rfl
  | n + 1 => by show sumN _ n + 0 = 0; rw [sumN_z n]; rfl
theorem sumF_pick {f : Int → Int} {a n : Int} (ha : 0 ≤ a ∧ a < n) (h : ∀ j, 0 ≤ j → j < n → j ≠ a → f j = 0) : sumF f n = f a := by
  have e : sumF f n = sumF (fun j => (fun _ => (0 : Int)) j + if j = a then f a else 0) n := sumF_cg (fun j j0 j1 => by
    by_cases q : j = a
    · rw [if_pos q, q]; show f a = (0 : Int) + f a; omega
    · rw [if_neg q, h j j0 j1 q]; rfl)
  rw [e, sumF_b ha]
  unfold sumF
  rw [sumN_z]
  omega
theorem occ_zero {a : Rl} : ∀ {b : Rl}, Wf b → rlen b ≤ rlen a → b ≠ a → occ a b = 0 := by
  intro b
  induction b with
  | mul n c _ ih =>
    intro hw hl hn
    unfold occ
    rw [if_neg (dcF hn)]
    have h1 := rlen_run hw
    have h2 := rlen_pos hw.2
    rw [ih hw.2 (by omega) (fun e => by have h9 := congrArg rlen e; omega), Int.mul_zero]
  | add c d ihc ihd =>
    intro hw hl hn
    unfold occ
    rw [if_neg (dcF hn)]
    have h1 : rlen (Jvm.Term.add c d) = rlen c + rlen d := rfl
    have h2 := rlen_pos hw.1
    have h3 := rlen_pos hw.2
    rw [ihc hw.1 (by omega) (fun e => by have h9 := congrArg rlen e; omega), ihd hw.2 (by omega) (fun e => by have h9 := congrArg rlen e; omega)]
    rfl
  | arg c =>
    intro hw hl hn
    unfold occ
    rw [if_neg (dcF hn)]
  | _ => intro hw; exact hw.elim
abbrev prc (le cm : Int → Int) (l k j : Int) : Prop := l < le (cm j) ∨ (le (cm j) = l ∧ j < k)
noncomputable def cT (R : Int → Rl) (cm le oft : Int → Int) (l k : Int) (w : Rl) (j : Int) : Int := if prc le cm l k j then 0 else oft (cm j) * occ w (R (cm j))
def CI (R : Int → Rl) (cm le oft : Int → Int) (wc l k : Int) (T : Rl) : Prop := ∀ a, 0 ≤ a → a < wc → (prc le cm l k a → oft (cm a) = occ (R (cm a)) T) ∧ (¬ prc le cm l k a → sumF (cT R cm le oft l k (R (cm a))) wc = occ (R (cm a)) T)
/-- what the rows of the numbers must be -/
def CB (R : Int → Rl) (cm le : Int → Int) (wc : Int) : Prop := (∀ a, 0 ≤ a → a < wc → Wf (R (cm a)) ∧ le (cm a) = rlen (R (cm a))) ∧ (∀ a b, 0 ≤ a → a < wc → 0 ≤ b → b < wc → R (cm a) = R (cm b) → a = b)
theorem CI.pick {R : Int → Rl} {cm le oft : Int → Int} {wc l k : Int} {T : Rl} (hb : CB R cm le wc) (h : CI R cm le oft wc l k T) {a : Int} (ha : 0 ≤ a ∧ a < wc) (hn : ¬ prc le cm l k a) (hm : l ≤ le (cm a)) : oft (cm a) = occ (R (cm a)) T := by
  have h1 := (h a ha.1 ha.2).2 hn
  have h0 := hb.1 a ha.1 ha.2
  rw [sumF_pick ha (fun j j0 j1 q => by
    unfold cT
    split
    · rfl
    · rename_i z
      have hj := hb.1 j j0 j1
      rw [occ_zero hj.1 (by rw [← hj.2, ← h0.2]; unfold prc at z; omega) (fun e => q (hb.2 j a j0 j1 ha.1 ha.2 e)), Int.mul_zero])] at h1
  unfold cT at h1
  rw [if_neg hn, occ_self, Int.mul_one] at h1
  exact h1
theorem CI.skip {R : Int → Rl} {cm le oft : Int → Int} {wc l k : Int} {T : Rl} (h : CI R cm le oft wc l k T) (hk : le (cm k) ≠ l) : CI R cm le oft wc l (k + 1) T := by
  have hp : ∀ j, prc le cm l (k + 1) j ↔ prc le cm l k j := fun j => by
    unfold prc
    by_cases q : j = k
    · subst q; omega
    · omega
  intro a a0 a1
  obtain ⟨h1, h2⟩ := h a a0 a1
  refine ⟨fun z => h1 ((hp a).mp z), fun z => ?_⟩
  rw [← h2 (fun w => z ((hp a).mpr w))]
  refine sumF_cg (fun j _ _ => ?_)
  unfold cT
  by_cases q : prc le cm l k j
  · rw [if_pos q, if_pos ((hp j).mpr q)]
  · rw [if_neg q, if_neg (fun w => q ((hp j).mp w))]
theorem CI.down {R : Int → Rl} {cm le oft : Int → Int} {wc l k : Int} {T : Rl} (h : CI R cm le oft wc l k T) (hk : wc ≤ k) : CI R cm le oft wc (l - 1) 0 T := by
  have hp : ∀ j, 0 ≤ j → j < wc → (prc le cm (l - 1) 0 j ↔ prc le cm l k j) := fun j a b => by unfold prc; omega
  intro a a0 a1
  obtain ⟨h1, h2⟩ := h a a0 a1
  refine ⟨fun z => h1 ((hp a a0 a1).mp z), fun z => ?_⟩
  rw [← h2 (fun w => z ((hp a a0 a1).mpr w))]
  refine sumF_cg (fun j j0 j1 => ?_)
  unfold cT
  by_cases q : prc le cm l k j
  · rw [if_pos q, if_pos ((hp j j0 j1).mpr q)]
  · rw [if_neg q, if_neg (fun w => q ((hp j j0 j1).mp w))]
theorem CI.step {R : Int → Rl} {cm le oft oft2 : Int → Int} {wc l k a1 a2 d1 d2 : Int} {T : Rl} (hb : CB R cm le wc) (h : CI R cm le oft wc l k T) (hk : 0 ≤ k ∧ k < wc) (hl : le (cm k) = l) (h1 : 0 ≤ a1 ∧ a1 < wc) (h2 : 0 ≤ a2 ∧ a2 < wc) (l1 : le (cm a1) < l) (l2 : le (cm a2) < l)
    (ho : ∀ j, 0 ≤ j → j < wc → oft2 (cm j) = oft (cm j) + (if j = a1 then d1 else 0) + (if j = a2 then d2 else 0)) (hd : ∀ w, R (cm k) ≠ w → oft (cm k) * occ w (R (cm k)) = d1 * occ w (R (cm a1)) + d2 * occ w (R (cm a2))) : CI R cm le oft2 wc l (k + 1) T := by
  have hxk := h.pick hb hk (by unfold prc; omega) (by omega)
  intro a a0 a1'
  obtain ⟨g1, g2⟩ := h a a0 a1'
  constructor
  · intro z
    have e1 : a ≠ a1 := fun e => by subst e; unfold prc at z; omega
    have e2 : a ≠ a2 := fun e => by subst e; unfold prc at z; omega
    rw [ho a a0 a1', if_neg e1, if_neg e2, Int.add_zero, Int.add_zero]
    by_cases q : a = k
    · rw [q]; exact hxk
    · exact g1 (by unfold prc at z ⊢; omega)
  · intro z
    have hak : a ≠ k := fun e => by subst e; exact z (by unfold prc; omega)
    have hne : R (cm k) ≠ R (cm a) := fun e => hak (hb.2 a k a0 a1' hk.1 hk.2 e.symm)
    rw [← g2 (fun w => z (by unfold prc at w ⊢; omega))]
    have e : sumF (cT R cm le oft2 l (k + 1) (R (cm a))) wc = sumF (fun j => (fun j => (fun j => cT R cm le oft l k (R (cm a)) j + if j = k then -(oft (cm k) * occ (R (cm a)) (R (cm k))) else 0) j + if j = a1 then d1 * occ (R (cm a)) (R (cm a1)) else 0) j + if j = a2 then d2 * occ (R (cm a)) (R (cm a2)) else 0) wc := by
      refine sumF_cg (fun j j0 j1 => ?_)
      show cT R cm le oft2 l (k + 1) (R (cm a)) j = cT R cm le oft l k (R (cm a)) j + (if j = k then -(oft (cm k) * occ (R (cm a)) (R (cm k))) else 0) + (if j = a1 then d1 * occ (R (cm a)) (R (cm a1)) else 0) + (if j = a2 then d2 * occ (R (cm a)) (R (cm a2)) else 0)
      unfold cT
      by_cases q : j = k
      · subst q
        rw [if_pos (by unfold prc; omega), if_neg (by unfold prc; omega), if_pos rfl, if_neg (fun e => by subst e; omega), if_neg (fun e => by subst e; omega)]
        omega
      · rw [if_neg q]
        by_cases w : prc le cm l k j
        · rw [if_pos w, if_pos (by unfold prc at w ⊢; omega), if_neg (fun e => by subst e; unfold prc at w; omega), if_neg (fun e => by subst e; unfold prc at w; omega)]
          rfl
        · rw [if_neg w, if_neg (by unfold prc at w ⊢; omega), ho j j0 j1, Int.add_mul, Int.add_mul]
          by_cases e1 : j = a1
          · rw [if_pos e1, if_pos e1, ← e1]
            by_cases e2 : j = a2
            · rw [if_pos e2, if_pos e2, ← e2]; omega
            · rw [if_neg e2, if_neg e2]; omega
          · rw [if_neg e1, if_neg e1]
            by_cases e2 : j = a2
            · rw [if_pos e2, if_pos e2, ← e2]; omega
            · rw [if_neg e2, if_neg e2]; omega
    rw [e, sumF_b h2, sumF_b h1, sumF_b hk]
    have := hd _ hne
    omega
theorem CI.start {R : Int → Rl} {cm le oft : Int → Int} {wc t x : Int} (hb : CB R cm le wc) (hx : 0 ≤ x ∧ x < wc) (e : cm x = t) (hm : ∀ a, 0 ≤ a → a < wc → le (cm a) ≤ le t) (ho : ∀ a, 0 ≤ a → a < wc → a ≠ x → oft (cm a) = 0) (h1 : oft t = 1) : CI R cm le oft wc (le t) 0 (R t) := by
  have hp : ∀ a, 0 ≤ a → a < wc → ¬ prc le cm (le t) 0 a := fun a a0 a1 z => by have := hm a a0 a1; unfold prc at z; omega
  intro a a0 a1
  refine ⟨fun z => absurd z (hp a a0 a1), fun z => ?_⟩
  rw [sumF_pick hx (fun j j0 j1 q => by unfold cT; rw [if_neg (hp j j0 j1), ho j j0 j1 q, Int.zero_mul])]
  unfold cT
  rw [if_neg (hp x hx.1 hx.2), e, h1, Int.one_mul]
theorem CI.done {R : Int → Rl} {cm le oft : Int → Int} {wc l : Int} {T : Rl} (hb : CB R cm le wc) (h : CI R cm le oft wc l 0 T) (hl : l ≤ 1) : ∀ a, 0 ≤ a → a < wc → oft (cm a) = occ (R (cm a)) T := fun a a0 a1 => by
  by_cases z : prc le cm l 0 a
  · exact (h a a0 a1).1 z
  · exact h.pick hb ⟨a0, a1⟩ z (by have := rlen_pos (hb.1 a a0 a1).1; rw [← (hb.1 a a0 a1).2] at this; omega)
theorem Sub.len : ∀ {b r : Rl}, Wf b → Sub r b → rlen r ≤ rlen b := by
  intro b
  induction b with
  | mul n c _ ih =>
    intro r hw hs
    rcases hs with rfl | hs
    · exact Int.le_refl _
    · have := ih hw.2 hs
      have h1 := rlen_run hw
      have h2 := rlen_pos hw.2
      omega
  | add c d ihc ihd =>
    intro r hw hs
    have h1 : rlen (Jvm.Term.add c d) = rlen c + rlen d := rfl
    have h2 := rlen_pos hw.1
    have h3 := rlen_pos hw.2
    rcases hs with rfl | hs | hs
    · exact Int.le_refl _
    · have := ihc hw.1 hs; omega
    · have := ihd hw.2 hs; omega
  | _ => intro r hw hs; cases hs; exact Int.le_refl _
theorem ClosedV.nil : ClosedV [] := fun q h => by obtain ⟨p, hp⟩ := h; simp at hp
/-- out of what numbers() gives -/
theorem NV.cb {kd on tw sg le de so : Int → Int} {rc : Int} {R : Int → Rl} (hT : MT kd on tw sg le de so rc R) {V : List (Rl × Int)} {nu fa cm : Int → Int} {wc : Int} (h : NV R rc V nu fa cm wc) : CB R cm le wc := by
  obtain ⟨h1, h2, h3, h4⟩ := h
  refine ⟨fun a a0 a1 => ?_, fun a b a0 a1 b0 b1 e => ?_⟩
  · have := (h3 a a0 a1).1
    have hr := hT.2.1 _ this.1 this.2
    exact ⟨hr.2.2.2.2.1, hr.2.2.1⟩
  · have ea := (h3 a a0 a1).2
    have eb := (h3 b b0 b1).2
    have : a.toNat = b.toNat := by
      have la : (V.map Prod.fst)[a.toNat]? = some (R (cm a)) := by rw [List.getElem?_map, ea]; rfl
      have lb : (V.map Prod.fst)[b.toNat]? = some (R (cm b)) := by rw [List.getElem?_map, eb]; rfl
      rw [e] at la
      exact (List.getElem?_inj (i := a.toNat) (j := b.toNat) (by rw [List.length_map]; omega) h4).mp (la.trans lb.symm)
    omega
theorem NV.pos {R : Int → Rl} {rc : Int} {V : List (Rl × Int)} {nu fa cm : Int → Int} {wc x : Int} (h : NV R rc V nu fa cm wc) (hx : 0 ≤ x ∧ x < rc) (hinj : ∀ i j, 0 ≤ i → i < rc → 0 ≤ j → j < rc → R i = R j → i = j) (hv : InV V (R x)) : ∃ a, (0 ≤ a ∧ a < wc) ∧ cm a = x := by
  obtain ⟨h1, h2, h3, h4⟩ := h
  rcases h2 x hx.1 hx.2 with z | z
  · exact absurd hv z.2
  · refine ⟨nu x, ⟨z.1, z.2.1⟩, ?_⟩
    have h9 := h3 (nu x) z.1 z.2.1
    rw [z.2.2] at h9
    have e : R x = R (cm (nu x)) := congrArg Prod.fst (Option.some.inj h9.2)
    exact (hinj x _ hx.1 hx.2 h9.1.1 h9.1.2 e).symm
