/-! ===== the model's table of rules ===== -/
theorem andI_32767 {x : Int} (h : 0 ≤ x ∧ x ≤ 2147483647) : andI x 32767 = x % 32768 := by
  obtain ⟨n, rfl⟩ : ∃ n : Nat, x = (n : Int) := ⟨x.toNat, by omega⟩
  unfold andI
  rw [← iI_nat n]
  show (nI n &&& iI 32767).toInt = _
  rw [pk_andN (n := n) (by omega) 15 (by decide), nI_toInt (by omega)]
  omega
def slt (h d : Int) : Int := (h + d) % 32768
theorem slt_rg (h d : Int) : 0 ≤ slt h d ∧ slt h d < 32768 := by unfold slt; omega
theorem slt_0 {h : Int} (q : 0 ≤ h ∧ h < 32768) : h = slt h 0 := by unfold slt; omega
theorem slt_s (h d : Int) : andI (slt h d + 1) 32767 = slt h (d + 1) := by
  have := slt_rg h d
  rw [andI_32767 (by omega)]
  unfold slt
  omega
theorem slt_inj {h d e : Int} (hd : 0 ≤ d ∧ d < 32768) (he : 0 ≤ e ∧ e < 32768) (q : slt h d = slt h e) : d = e := by
  unfold slt at q
  omega
def hmS (k a b : Int) : Int := andI (mixI (mixI k a) b) 32767
theorem hmS_rg (k a b : Int) : 0 ≤ hmS k a b ∧ hmS k a b < 32768 := andI_mask _ 15 (by decide) (by decide)
/-- the places where rules are sought -/
def SoOk (kd on tw so : Int → Int) (rc : Int) : Prop :=
  (∀ p, 0 ≤ p → p < 32768 → so p = -1 ∨ (0 ≤ so p ∧ so p < rc)) ∧ (∀ p q, 0 ≤ p → p < 32768 → 0 ≤ q → q < 32768 → so p = so q → so p ≠ -1 → p = q) ∧
  ∀ i, 0 ≤ i → i < rc → ∃ d, (0 ≤ d ∧ d < 32768) ∧ so (slt (hmS (kd i) (on i) (tw i)) d) = i ∧ ∀ e, 0 ≤ e → e < d → so (slt (hmS (kd i) (on i) (tw i)) e) ≠ -1
theorem SoOk.probe {kd on tw so : Int → Int} {rc : Int} (hs : SoOk kd on tw so rc) (hr : 0 ≤ rc) {h d : Int} (hd : 0 ≤ d ∧ d ≤ 32768) (hp : ∀ e, 0 ≤ e → e < d → so (slt h e) ≠ -1) : d ≤ rc := by
  have hb : ∀ e : Nat, (e : Int) < d → 0 ≤ so (slt h e) ∧ so (slt h e) < rc := fun e he => (hs.1 _ (slt_rg h e).1 (slt_rg h e).2).resolve_left (hp e (by omega) he)
  have hnd : ((List.range d.toNat).map (fun e : Nat => (so (slt h e)).toNat)).Nodup := by
    rw [List.Nodup, List.pairwise_map]
    refine List.Pairwise.imp_of_mem ?_ (List.nodup_range (n := d.toNat))
    intro a b ha hb' hne e
    have a1 := List.mem_range.mp ha
    have b1 := List.mem_range.mp hb'
    have a2 := hb a (by omega)
    have b2 := hb b (by omega)
    have := hs.2.1 _ _ (slt_rg h a).1 (slt_rg h a).2 (slt_rg h b).1 (slt_rg h b).2 (by omega) (by omega)
    have := slt_inj (h := h) (d := a) (e := b) (by omega) (by omega) this
    omega
  have := nodup_lt rc.toNat _ hnd (fun x hx => by
    obtain ⟨e, he, rfl⟩ := List.mem_map.mp hx
    have := hb e (by have := List.mem_range.mp he; omega)
    omega)
  rw [List.length_map, List.length_range] at this
  omega
def TRow (kd on tw sg le de : Int → Int) (R : Int → Rl) (i : Int) : Prop :=
  ((kd i = 0 ∧ 0 ≤ on i ∧ on i ≤ 25 ∧ tw i = 0 ∧ R i = rLet (on i)) ∨
   (kd i = 1 ∧ 0 ≤ on i ∧ on i < i ∧ 0 ≤ tw i ∧ tw i < i ∧ R i = rPair (R (on i)) (R (tw i))) ∨
   (kd i = 2 ∧ 0 ≤ on i ∧ on i < i ∧ 2 ≤ tw i ∧ tw i ≤ 600 ∧ R i = rRun (tw i) (R (on i)))) ∧
  sg i = rsign (R i) ∧ le i = rlen (R i) ∧ de i = rdep (R i) ∧ Wf (R i) ∧ rlen (R i) ≤ 600
/-- THE MODEL'S TABLE -/
def MT (kd on tw sg le de so : Int → Int) (rc : Int) (R : Int → Rl) : Prop :=
  (0 ≤ rc ∧ rc ≤ 10400) ∧ (∀ i, 0 ≤ i → i < rc → TRow kd on tw sg le de R i) ∧ (∀ i j, 0 ≤ i → i < rc → 0 ≤ j → j < rc → R i = R j → i = j) ∧ SoOk kd on tw so rc
theorem MT.wf {kd on tw sg le de so : Int → Int} {rc : Int} {R : Int → Rl} (h : MT kd on tw sg le de so rc R) {i : Int} (h0 : 0 ≤ i ∧ i < rc) : Wf (R i) := (h.2.1 i h0.1 h0.2).2.2.2.2.1
theorem TRow.rg {kd on tw sg le de : Int → Int} {R : Int → Rl} {i : Int} (h : TRow kd on tw sg le de R i) (h0 : 0 ≤ i ∧ i < 10400) : (0 ≤ kd i ∧ kd i ≤ 2) ∧ (0 ≤ on i ∧ on i ≤ 10400) ∧ (0 ≤ tw i ∧ tw i ≤ 10400) ∧ (0 ≤ de i ∧ de i ≤ 600) ∧ (1 ≤ le i ∧ le i ≤ 600) ∧ (-2147483648 ≤ sg i ∧ sg i ≤ 2147483647) := by
  obtain ⟨h1, h2, h3, h4, h5, h6⟩ := h
  have a := rlen_pos h5
  have b := rdep_lt h5
  have c := rsign_rg (R i)
  rw [h2, h3, h4]
  refine ⟨?_, ?_, ?_, by omega, by omega, c⟩ <;> rcases h1 with z | z | z <;> omega
theorem TRow.let {kd on tw sg le de : Int → Int} {R : Int → Rl} {i : Int} (h : TRow kd on tw sg le de R i) (k : kd i = 0) : R i = rLet (on i) ∧ 0 ≤ on i ∧ on i ≤ 25 ∧ tw i = 0 := by
  rcases h.1 with z | z | z
  · exact ⟨z.2.2.2.2, z.2.1, z.2.2.1, z.2.2.2.1⟩
  · omega
  · omega
theorem TRow.pair {kd on tw sg le de : Int → Int} {R : Int → Rl} {i : Int} (h : TRow kd on tw sg le de R i) (k : kd i = 1) : R i = rPair (R (on i)) (R (tw i)) ∧ 0 ≤ on i ∧ on i < i ∧ 0 ≤ tw i ∧ tw i < i := by
  rcases h.1 with z | z | z
  · omega
  · exact ⟨z.2.2.2.2.2, z.2.1, z.2.2.1, z.2.2.2.1, z.2.2.2.2.1⟩
  · omega
theorem TRow.run {kd on tw sg le de : Int → Int} {R : Int → Rl} {i : Int} (h : TRow kd on tw sg le de R i) (k : kd i ≠ 0) (k2 : kd i ≠ 1) : R i = rRun (tw i) (R (on i)) ∧ 0 ≤ on i ∧ on i < i ∧ 2 ≤ tw i ∧ tw i ≤ 600 ∧ kd i = 2 := by
  rcases h.1 with z | z | z
  · omega
  · omega
  · exact ⟨z.2.2.2.2.2, z.2.1, z.2.2.1, z.2.2.2.1, z.2.2.2.2.1, z.1⟩
def mkM (R : Int → Rl) (k a b : Int) : Rl := if k = 0 then rLet a else if k = 2 then rRun b (R a) else rPair (R a) (R b)
def mkMOk (R : Int → Rl) (rc k a b : Int) : Prop := ((k = 0 ∧ 0 ≤ a ∧ a ≤ 25 ∧ b = 0) ∨ (k = 1 ∧ 0 ≤ a ∧ a < rc ∧ 0 ≤ b ∧ b < rc) ∨ (k = 2 ∧ 0 ≤ a ∧ a < rc ∧ 2 ≤ b ∧ b ≤ 600)) ∧ rlen (mkM R k a b) ≤ 600
theorem mkM_0 (R : Int → Rl) (a b : Int) : mkM R 0 a b = rLet a := rfl
theorem mkM_1 (R : Int → Rl) (a b : Int) : mkM R 1 a b = rPair (R a) (R b) := rfl
theorem mkM_2 (R : Int → Rl) (a b : Int) : mkM R 2 a b = rRun b (R a) := rfl
theorem MT.hit {kd on tw sg le de so : Int → Int} {rc : Int} {R : Int → Rl} (h : MT kd on tw sg le de so rc R) {k a b x : Int} (hk : mkMOk R rc k a b) (hx : 0 ≤ x ∧ x < rc) (e1 : kd x = k) (e2 : on x = a) (e3 : tw x = b) : R x = mkM R k a b := by
  subst e1 e2 e3
  rcases (h.2.1 x hx.1 hx.2).1 with z | z | z
  · rw [z.1, mkM_0]; exact z.2.2.2.2
  · rw [z.1, mkM_1]; exact z.2.2.2.2.2
  · rw [z.1, mkM_2]; exact z.2.2.2.2.2
/-- none that is wanted, where a free place is come to -/
theorem MT.miss {kd on tw sg le de so : Int → Int} {rc : Int} {R : Int → Rl} (h : MT kd on tw sg le de so rc R) {k a b d : Int} (hk : mkMOk R rc k a b) (hd : 0 ≤ d ∧ d < 32768) (hf : so (slt (hmS k a b) d) = -1)
    (hp : ∀ e, 0 ≤ e → e < d → so (slt (hmS k a b) e) ≠ -1 ∧ ¬ (kd (so (slt (hmS k a b) e)) = k ∧ on (so (slt (hmS k a b) e)) = a ∧ tw (so (slt (hmS k a b) e)) = b)) : ∀ i, 0 ≤ i → i < rc → R i ≠ mkM R k a b := by
  intro i i0 i1 e
  have key : kd i = k ∧ on i = a ∧ tw i = b := by
    have hr := (h.2.1 i i0 i1).1
    rcases hk.1 with ⟨rfl, z1, z2, rfl⟩ | ⟨rfl, z1, z2, z3, z4⟩ | ⟨rfl, z1, z2, z3, z4⟩
    · rw [mkM_0] at e
      rcases hr with w | w | w
      · rw [w.2.2.2.2] at e
        exact ⟨w.1, rLet_inj w.2.1 z1 e, w.2.2.2.1⟩
      · rw [w.2.2.2.2.2] at e; cases e
      · rw [w.2.2.2.2.2] at e; cases e
    · rw [mkM_1] at e
      rcases hr with w | w | w
      · rw [w.2.2.2.2] at e; cases e
      · rw [w.2.2.2.2.2] at e
        have := rPair_inj e
        exact ⟨w.1, h.2.2.1 _ _ w.2.1 (by omega) z1 z2 this.1, h.2.2.1 _ _ w.2.2.2.1 (by omega) z3 z4 this.2⟩
      · rw [w.2.2.2.2.2] at e; cases e
    · rw [mkM_2] at e
      rcases hr with w | w | w
      · rw [w.2.2.2.2] at e; cases e
      · rw [w.2.2.2.2.2] at e; cases e
      · rw [w.2.2.2.2.2] at e
        have := rRun_inj (by omega) (by omega) e
        exact ⟨w.1, h.2.2.1 _ _ w.2.1 (by omega) z1 z2 this.2, this.1⟩
  obtain ⟨d2, hd2, h1, h2⟩ := h.2.2.2.2.2 i i0 i1
  rw [key.1, key.2.1, key.2.2] at h1 h2
  rcases Int.lt_trichotomy d2 d with z | z | z
  · exact (hp d2 hd2.1 z).2 (by rw [h1]; exact key)
  · rw [z, hf] at h1; omega
  · exact h2 d hd.1 z hf
theorem MT.push {kd on tw sg le de so : Int → Int} {rc : Int} {R : Int → Rl} (h : MT kd on tw sg le de so rc R) {k a b d s l e9 : Int} (hk : mkMOk R rc k a b) (hc : rc < 10400) (hm : ∀ i, 0 ≤ i → i < rc → R i ≠ mkM R k a b) (hd : 0 ≤ d ∧ d < 32768) (hf : so (slt (hmS k a b) d) = -1) (hp : ∀ e, 0 ≤ e → e < d → so (slt (hmS k a b) e) ≠ -1)
    (hs : s = rsign (mkM R k a b)) (hl : l = rlen (mkM R k a b)) (he : e9 = rdep (mkM R k a b)) :
    MT (up kd rc k) (up on rc a) (up tw rc b) (up sg rc s) (up le rc l) (up de rc e9) (up so (slt (hmS k a b) d) rc) (rc + 1) (upR R rc (mkM R k a b)) := by
  obtain ⟨h1, h2, h3, h4, h5, h6⟩ := h
  have hwf : Wf (mkM R k a b) := by
    rcases hk.1 with ⟨rfl, z1, z2, rfl⟩ | ⟨rfl, z1, z2, z3, z4⟩ | ⟨rfl, z1, z2, z3, z4⟩
    · rw [mkM_0]; show a.toNat < 26; omega
    · rw [mkM_1]; exact ⟨(h2 a z1 z2).2.2.2.2.1, (h2 b z3 z4).2.2.2.2.1⟩
    · rw [mkM_2]; exact Wf_run z3 (h2 a z1 z2).2.2.2.2.1
  have old : ∀ i, 0 ≤ i → i < rc → i ≠ rc := fun i a b e => by omega
  have hsr := slt_rg (hmS k a b) d
  refine ⟨by omega, fun i i0 i1 => ?_, fun i j i0 i1 j0 j1 e => ?_, fun p p0 p1 => ?_, fun p q p0 p1 q0 q1 e ne => ?_, fun i i0 i1 => ?_⟩
  · by_cases q : i = rc
    · subst q
      unfold TRow
      rw [up_same, up_same, up_same, up_same, up_same, up_same, upR_same]
      refine ⟨?_, hs, hl, he, hwf, hk.2⟩
      rcases hk.1 with ⟨rfl, z1, z2, rfl⟩ | ⟨rfl, z1, z2, z3, z4⟩ | ⟨rfl, z1, z2, z3, z4⟩
      · exact Or.inl ⟨rfl, z1, z2, rfl, rfl⟩
      · exact Or.inr (Or.inl ⟨rfl, z1, z2, z3, z4, by rw [upR_ne _ _ (old a z1 z2), upR_ne _ _ (old b z3 z4)]; rfl⟩)
      · exact Or.inr (Or.inr ⟨rfl, z1, z2, z3, z4, by rw [upR_ne _ _ (old a z1 z2)]; rfl⟩)
    · have hr := h2 i i0 (by omega)
      unfold TRow
      rw [up_ne _ _ q, up_ne _ _ q, up_ne _ _ q, up_ne _ _ q, up_ne _ _ q, up_ne _ _ q, upR_ne _ _ q]
      refine ⟨?_, hr.2⟩
      rcases hr.1 with z | z | z
      · exact Or.inl z
      · refine Or.inr (Or.inl ?_)
        rw [upR_ne _ _ (show on i ≠ rc by omega), upR_ne _ _ (show tw i ≠ rc by omega)]
        exact z
      · refine Or.inr (Or.inr ?_)
        rw [upR_ne _ _ (show on i ≠ rc by omega)]
        exact z
  · by_cases qi : i = rc
    · by_cases qj : j = rc
      · omega
      · subst qi
        rw [upR_same, upR_ne _ _ qj] at e
        exact absurd e.symm (hm j j0 (by omega))
    · by_cases qj : j = rc
      · subst qj
        rw [upR_same, upR_ne _ _ qi] at e
        exact absurd e (hm i i0 (by omega))
      · rw [upR_ne _ _ qi, upR_ne _ _ qj] at e
        exact h3 i j i0 (by omega) j0 (by omega) e
  · by_cases q : p = slt (hmS k a b) d
    · right; rw [q, up_same]; omega
    · rw [up_ne _ _ q]
      rcases h4 p p0 p1 with z | z
      · exact Or.inl z
      · right; omega
  · by_cases qp : p = slt (hmS k a b) d
    · by_cases qq : q = slt (hmS k a b) d
      · omega
      · rw [qp, up_same, up_ne _ _ qq] at e
        rcases h4 q q0 q1 with z | z <;> omega
    · by_cases qq : q = slt (hmS k a b) d
      · rw [qq, up_same, up_ne _ _ qp] at e
        rcases h4 p p0 p1 with z | z <;> omega
      · rw [up_ne _ _ qp, up_ne _ _ qq] at e
        rw [up_ne _ _ qp] at ne
        exact h5 p q p0 p1 q0 q1 e ne
  · by_cases q : i = rc
    · subst q
      rw [up_same, up_same, up_same]
      refine ⟨d, hd, up_same _ _ _, fun e e0 e1 => ?_⟩
      rw [up_ne _ _ (fun z => by have := slt_inj ⟨e0, by omega⟩ hd z; omega)]
      exact hp e e0 e1
    · rw [up_ne _ _ q, up_ne _ _ q, up_ne _ _ q]
      obtain ⟨d2, hd2, g1, g2⟩ := h6 i i0 (by omega)
      refine ⟨d2, hd2, ?_, fun e e0 e1 => ?_⟩
      · rw [up_ne _ _ (fun z => by rw [z, hf] at g1; omega)]
        exact g1
      · by_cases z : slt (hmS (kd i) (on i) (tw i)) e = slt (hmS k a b) d
        · rw [z, up_same]; omega
        · rw [up_ne _ _ z]; exact g2 e e0 e1
theorem MT.new {kd on tw sg le de so : Int → Int} {R : Int → Rl} (h : ∀ p, 0 ≤ p → p < 32768 → so p = -1) : MT kd on tw sg le de so 0 R :=
  ⟨by omega, fun i a b => absurd b (by omega), fun i j a b => absurd b (by omega), fun p a b => Or.inl (h p a b), fun p q p0 p1 _ _ _ ne => absurd (h p p0 p1) ne, fun i a b => absurd b (by omega)⟩
/-! a rule and what it is made of -/
def Sub (r : Rl) : Rl → Prop
  | .mul n a => r = .mul n a ∨ Sub r a
  | .add a b => r = .add a b ∨ Sub r a ∨ Sub r b
  | t => r = t
theorem Sub.self (r : Rl) : Sub r r := by cases r <;> first | rfl | exact Or.inl rfl
theorem Sub.runI {r a : Rl} (n : Int) (h : Sub r a) : Sub r (rRun n a) := Or.inr h
theorem Sub.pair1 {r a : Rl} (b : Rl) (h : Sub r a) : Sub r (rPair a b) := Or.inr (Or.inl h)
theorem Sub.pair2 {r b : Rl} (a : Rl) (h : Sub r b) : Sub r (rPair a b) := Or.inr (Or.inr h)
