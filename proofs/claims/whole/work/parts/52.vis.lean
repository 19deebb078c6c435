/-! ===== pure: what is numbered is whole, and how much it is ===== -/
def PartsIn (V : List (Rl × Int)) : Rl → Prop
  | .mul _ a => InV V a
  | .add a b => InV V a ∧ InV V b
  | _ => True
theorem PartsIn.mono {V X : List (Rl × Int)} (h : ∀ q, InV V q → InV X q) : ∀ {r : Rl}, PartsIn V r → PartsIn X r := by
  intro r
  cases r <;> intro z <;> first | exact h _ z | exact ⟨h _ z.1, h _ z.2⟩ | exact z
theorem InV.app {V : List (Rl × Int)} {r q : Rl} {p : Int} : InV (V ++ [(r, p)]) q ↔ InV V q ∨ q = r := by
  constructor
  · rintro ⟨x, hx⟩
    rcases List.mem_append.mp hx with z | z
    · exact Or.inl ⟨x, z⟩
    · rw [List.mem_singleton] at z
      exact Or.inr (congrArg Prod.fst z)
  · rintro (⟨x, z⟩ | rfl)
    · exact ⟨x, List.mem_append.mpr (Or.inl z)⟩
    · exact ⟨p, List.mem_append.mpr (Or.inr (List.mem_singleton.mpr rfl))⟩
theorem cl_leaf {r : Rl} {p : Int} {V : List (Rl × Int)} (e : vis r p V = if @decide (InV V r) (Classical.propDecidable _) = true then V else V ++ [(r, p)]) (hp : ∀ X, PartsIn X r) : (∀ q, InV V q → InV (vis r p V) q) ∧ InV (vis r p V) r ∧ ∀ q, InV (vis r p V) q → InV V q ∨ PartsIn (vis r p V) q := by
  by_cases h : InV V r
  · rw [vis_old h]
    exact ⟨fun _ z => z, h, fun _ z => Or.inl z⟩
  · rw [if_neg (dcF h)] at e
    rw [e]
    refine ⟨fun q z => InV.app.mpr (Or.inl z), InV.app.mpr (Or.inr rfl), fun q z => ?_⟩
    rcases InV.app.mp z with z | rfl
    · exact Or.inl z
    · exact Or.inr (hp _)
theorem vis_closed : ∀ (r : Rl) (p : Int) (V : List (Rl × Int)), (∀ q, InV V q → InV (vis r p V) q) ∧ InV (vis r p V) r ∧ ∀ q, InV (vis r p V) q → InV V q ∨ PartsIn (vis r p V) q := by
  intro r
  induction r with
  | mul n a _ ih =>
    intro p V
    by_cases h : InV V (.mul n a)
    · rw [vis_old h]
      exact ⟨fun _ z => z, h, fun _ z => Or.inl z⟩
    · rw [vis, if_neg (dcF h)]
      obtain ⟨i1, i2, i3⟩ := ih p (V ++ [(.mul n a, p)])
      refine ⟨fun q z => i1 q (InV.app.mpr (Or.inl z)), i1 _ (InV.app.mpr (Or.inr rfl)), fun q z => ?_⟩
      rcases i3 q z with z | z
      · rcases InV.app.mp z with z | rfl
        · exact Or.inl z
        · exact Or.inr i2
      · exact Or.inr z
  | add a b iha ihb =>
    intro p V
    by_cases h : InV V (.add a b)
    · rw [vis_old h]
      exact ⟨fun _ z => z, h, fun _ z => Or.inl z⟩
    · rw [vis, if_neg (dcF h)]
      obtain ⟨i1, i2, i3⟩ := iha p (V ++ [(.add a b, p)])
      obtain ⟨j1, j2, j3⟩ := ihb (p + rlen a) (vis a p (V ++ [(.add a b, p)]))
      refine ⟨fun q z => j1 q (i1 q (InV.app.mpr (Or.inl z))), j1 _ (i1 _ (InV.app.mpr (Or.inr rfl))), fun q z => ?_⟩
      rcases j3 q z with z | z
      · rcases i3 q z with z | z
        · rcases InV.app.mp z with z | rfl
          · exact Or.inl z
          · exact Or.inr ⟨j1 _ i2, j2⟩
        · exact Or.inr (PartsIn.mono j1 z)
      · exact Or.inr z
  | _ => intro p V; exact cl_leaf (by unfold vis; rfl) (fun _ => trivial)
theorem vis_parts {r : Rl} {p : Int} {q : Rl} (h : InV (vis r p []) q) : PartsIn (vis r p []) q := by
  rcases (vis_closed r p []).2.2 q h with ⟨_, z⟩ | z
  · cases z
  · exact z
/-- parts that are met on the way to a place are numbered -/
theorem ar_in {V : List (Rl × Int)} (hc : ∀ q, InV V q → PartsIn V q) : ∀ (k : Nat) {r : Rl} {p : Int} {q : Rl}, InV V r → arN k r p = some q → InV V q
  | 0, r, p, q, h, e => by
    have : r = q := by
      unfold arN at e
      injection e
    exact this ▸ h
  | k + 1, r, p, q, h, e => by
    cases r with
    | mul n a => exact ar_in hc k (hc _ h) e
    | add a b =>
      have h2 := hc _ h
      have e2 : (if p < rlen a then arN k a p else arN k b (p - rlen a)) = some q := e
      by_cases z : p < rlen a
      · rw [if_pos z] at e2; exact ar_in hc k h2.1 e2
      · rw [if_neg z] at e2; exact ar_in hc k h2.2 e2
    | _ => exact absurd e (by unfold arN; intro z; cases z)
def notLet : Rl → Bool
  | .arg _ => false
  | _ => true
def nin : Rl → Nat
  | .mul _ a => 1 + nin a
  | .add a b => 1 + nin a + nin b
  | _ => 0
def nlt (V : List (Rl × Int)) : Nat := (V.filter (fun q => notLet q.1)).length
theorem nlt_app (V : List (Rl × Int)) (r : Rl) (p : Int) : nlt (V ++ [(r, p)]) = nlt V + (if notLet r = true then 1 else 0) := by
  unfold nlt
  rw [List.filter_append, List.length_append]
  by_cases h : notLet r = true
  · rw [if_pos h, List.filter_cons_of_pos (by exact h)]; rfl
  · rw [if_neg h, List.filter_cons_of_neg (by exact h)]; rfl
theorem nlt_vis : ∀ {r : Rl}, Wf r → ∀ (p : Int) (V : List (Rl × Int)), nlt (vis r p V) ≤ nlt V + nin r := by
  intro r
  induction r with
  | arg c =>
    intro _ p V
    by_cases h : InV V (.arg c)
    · rw [vis_old h]; omega
    · have e : vis (.arg c) p V = V ++ [(.arg c, p)] := by unfold vis; rw [if_neg (dcF h)]
      rw [e, nlt_app, if_neg (by simp [notLet])]; omega
  | mul n a _ ih =>
    intro hw p V
    by_cases h : InV V (.mul n a)
    · rw [vis_old h]; omega
    · rw [vis, if_neg (dcF h)]
      have h1 := ih hw.2 p (V ++ [(.mul n a, p)])
      rw [nlt_app, if_pos (show notLet (.mul n a) = true from rfl)] at h1
      show _ ≤ nlt V + (1 + nin a)
      omega
  | add a b iha ihb =>
    intro hw p V
    by_cases h : InV V (.add a b)
    · rw [vis_old h]; omega
    · rw [vis, if_neg (dcF h)]
      have h1 := iha hw.1 p (V ++ [(.add a b, p)])
      rw [nlt_app, if_pos (show notLet (.add a b) = true from rfl)] at h1
      have h2 := ihb hw.2 (p + rlen a) (vis a p (V ++ [(.add a b, p)]))
      show _ ≤ nlt V + (1 + nin a + nin b)
      omega
  | _ => intro h; exact h.elim
theorem nin_le : ∀ {r : Rl}, Wf r → ((nin r : Nat) : Int) ≤ rlen r - 1 := by
  intro r
  induction r with
  | arg c => intro _; show (0 : Int) ≤ 1 - 1; omega
  | mul n a _ ih =>
    intro h
    have h0 := rlen_run h
    have h1 := ih h.2
    have h2 := rlen_pos h.2
    show (((1 + nin a : Nat)) : Int) ≤ _
    omega
  | add a b iha ihb =>
    intro h
    have h1 := iha h.1
    have h2 := ihb h.2
    show (((1 + nin a + nin b : Nat)) : Int) ≤ (rlen a + rlen b) - 1
    omega
  | _ => intro h; exact h.elim
theorem filt_len (P : (Rl × Int) → Bool) : ∀ V : List (Rl × Int), V.length = (V.filter P).length + (V.filter (fun q => !P q)).length
  | [] => rfl
  | q :: V => by
    have := filt_len P V
    rw [List.length_cons]
    cases h : P q
    · rw [List.filter_cons_of_neg (by simp [h]), List.filter_cons_of_pos (by simp [h]), List.length_cons]; omega
    · rw [List.filter_cons_of_pos (by simp [h]), List.filter_cons_of_neg (by simp [h]), List.length_cons]; omega
/-- the letters among them are at most 26 -/
theorem WV.lets {kd fi se sg le de nx he : Int → Int} {R : Int → Rl} {rc : Int} {V : List (Rl × Int)} {sp nb mt pl : Int → Int} {stm wc : Int} (hT : RT kd fi se sg le de nx he rc R) (h : WV R rc V sp nb mt pl stm wc) : wc ≤ nlt V + 26 := by
  obtain ⟨h1, -, -, -, -, h6, h7⟩ := h
  have hl : ∀ q ∈ (V.filter (fun q => !notLet q.1)), ∃ i : Nat, i < 26 ∧ R i = q.1 := by
    intro q hq
    rw [List.mem_filter] at hq
    obtain ⟨i, a, b, c⟩ := h6 q hq.1
    have hr := hT.2.1 i a b
    rcases hr.1 with z | z | z
    · exact ⟨i.toNat, by omega, by rw [Int.toNat_of_nonneg a]; exact c⟩
    · exfalso; rw [← c, z.2.2.2.2.2.2] at hq; exact absurd hq.2 (by simp [rPair, notLet])
    · exfalso; rw [← c, z.2.2.2.2.2.2] at hq; exact absurd hq.2 (by simp [rRun, notLet])
  have hex : ∀ r : Rl, ∃ i : Nat, r ∈ (V.filter (fun q => !notLet q.1)).map Prod.fst → (i < 26 ∧ R i = r) := by
    intro r
    by_cases q : r ∈ (V.filter (fun q => !notLet q.1)).map Prod.fst
    · obtain ⟨x, hx, rfl⟩ := List.mem_map.mp q
      obtain ⟨i, a, b⟩ := hl x hx
      exact ⟨i, fun _ => ⟨a, b⟩⟩
    · exact ⟨0, fun z => absurd z q⟩
  obtain ⟨f, hf⟩ := Classical.axiomOfChoice hex
  have hn2 : ((V.filter (fun q => !notLet q.1)).map Prod.fst).Nodup := h7.sublist ((List.filter_sublist).map _)
  have hnd : (((V.filter (fun q => !notLet q.1)).map Prod.fst).map f).Nodup := by
    rw [List.Nodup, List.pairwise_map]
    refine List.Pairwise.imp_of_mem ?_ hn2
    intro a b ha hb hne e
    exact hne (by rw [← (hf a ha).2, ← (hf b hb).2, e])
  have := nodup_lt 26 _ hnd (fun x hx => by
    obtain ⟨r, hr, rfl⟩ := List.mem_map.mp hx
    exact (hf r hr).1)
  rw [List.length_map, List.length_map] at this
  have h9 := filt_len (fun q => notLet q.1) V
  unfold nlt
  omega
theorem WV.le625 {kd fi se sg le de nx he : Int → Int} {R : Int → Rl} {rc : Int} {V : List (Rl × Int)} {sp nb mt pl : Int → Int} {stm wc : Int} (hT : RT kd fi se sg le de nx he rc R) (h : WV R rc V sp nb mt pl stm wc) {i : Int} (hi : 0 ≤ i ∧ i < rc) (e : V = vis (R i) 0 []) : wc ≤ 625 := by
  have h1 := h.lets hT
  have hr := hT.2.1 i hi.1 hi.2
  have h2 := nlt_vis hr.2.2.2.2.1 0 []
  have h3 := nin_le hr.2.2.2.2.1
  have h4 := hr.2.2.2.2.2
  rw [← e] at h2
  have h5 : nlt [] = 0 := rfl
  omega
/-- rule by rule, what is told -/
def rkind : Rl → Int
  | .mul _ _ => 2
  | .add _ _ => 1
  | _ => 0
def IdxV (V : List (Rl × Int)) (a : Rl) (j : Int) : Prop := 0 ≤ j ∧ ∃ p, V[j.toNat]? = some (a, p)
def part1 (V : List (Rl × Int)) : Rl → Int → Prop
  | .arg c, r => r = c
  | .mul _ a, r => IdxV V a r
  | .add a _, r => IdxV V a r
  | _, _ => False
def part2 (V : List (Rl × Int)) : Rl → Int → Prop
  | .arg _, r => r = -1
  | .mul n _, r => r = cntOf n
  | .add _ b, r => IdxV V b r
  | _, _ => False
theorem IdxV.one {V : List (Rl × Int)} (hn : (V.map Prod.fst).Nodup) {a : Rl} {i j : Int} (h1 : IdxV V a i) (h2 : IdxV V a j) : i = j := by
  obtain ⟨a1, p, e1⟩ := h1
  obtain ⟨a2, q, e2⟩ := h2
  have g1 : (V.map Prod.fst)[i.toNat]? = some a := by rw [List.getElem?_map, e1]; rfl
  have g2 : (V.map Prod.fst)[j.toNat]? = some a := by rw [List.getElem?_map, e2]; rfl
  have hl : i.toNat < (V.map Prod.fst).length := (List.getElem?_eq_some_iff.mp g1).1
  have : i.toNat = j.toNat := (List.getElem?_inj (j := j.toNat) hl hn).mp (g1.trans g2.symm)
  omega
theorem part1.one {V : List (Rl × Int)} (hn : (V.map Prod.fst).Nodup) : ∀ {r : Rl} {i j : Int}, part1 V r i → part1 V r j → i = j := by
  intro r i j a b
  cases r <;> first | exact IdxV.one hn a b | exact a.trans b.symm | exact a.elim
theorem part2.one {V : List (Rl × Int)} (hn : (V.map Prod.fst).Nodup) : ∀ {r : Rl} {i j : Int}, part2 V r i → part2 V r j → i = j := by
  intro r i j a b
  cases r <;> first | exact IdxV.one hn a b | exact a.trans b.symm | exact a.elim
/-- what rule(t, k, w) tells of the text f of n letters -/
def RuleIs (V : List (Rl × Int)) (T : Rl) (k w r : Int) : Prop :=
  ∃ q p, V[k.toNat]? = some (q, p) ∧ ((w = 0 ∧ r = rkind q) ∨ (w = 1 ∧ r = rlen q) ∨ (w = 2 ∧ part1 V q r) ∨ (w = 3 ∧ part2 V q r) ∨ (w = 4 ∧ r = occ q T) ∨ (w = 5 ∧ r = rsign q) ∨ (w = 6 ∧ r = p))
theorem RuleIs.one {V : List (Rl × Int)} (hn : (V.map Prod.fst).Nodup) {T : Rl} {k w r s : Int} (h1 : RuleIs V T k w r) (h2 : RuleIs V T k w s) : r = s := by
  obtain ⟨q, p, e, h1⟩ := h1
  obtain ⟨q2, p2, e2, h2⟩ := h2
  rw [e] at e2
  injection e2 with e3
  injection e3 with e4 e5
  subst e4
  subst e5
  rcases h1 with a | a | a | a | a | a | a <;> rcases h2 with b | b | b | b | b | b | b <;> first
    | (exfalso; have := a.1; have := b.1; omega)
    | exact part1.one hn a.2 b.2
    | exact part2.one hn a.2 b.2
    | exact a.2.trans b.2.symm
theorem RowOk.p1 {kd fi se sg le de : Int → Int} {R : Int → Rl} {i : Int} (h : RowOk kd fi se sg le de R i) (h0 : 0 ≤ i) {V : List (Rl × Int)} {r : Int} (h1 : kd i = 0 → r = fi i) (h2 : kd i ≠ 0 → IdxV V (R (fi i)) r) : part1 V (R i) r := by
  rcases h.1 with z | z | z
  · rw [z.2.1]
    show r = ((i.toNat : Nat) : Int)
    have := h1 z.2.2.1
    omega
  · rw [z.2.2.2.2.2.2]
    exact h2 (by omega)
  · rw [z.2.2.2.2.2.2]
    exact h2 (by omega)
theorem RowOk.p2 {kd fi se sg le de : Int → Int} {R : Int → Rl} {i : Int} (h : RowOk kd fi se sg le de R i) {V : List (Rl × Int)} {r : Int} (h1 : kd i ≠ 1 → r = se i) (h2 : kd i = 1 → IdxV V (R (se i)) r) : part2 V (R i) r := by
  rcases h.1 with z | z | z
  · rw [z.2.1]
    show r = -1
    have := h1 (by omega)
    omega
  · rw [z.2.2.2.2.2.2]
    exact h2 z.2.1
  · rw [z.2.2.2.2.2.2]
    show r = ((((se i).toNat : Nat)) : Int)
    have := h1 (by omega)
    omega
theorem RowOk.kind {kd fi se sg le de : Int → Int} {R : Int → Rl} {i : Int} (h : RowOk kd fi se sg le de R i) : kd i = rkind (R i) := by
  rcases h.1 with z | z | z
  · rw [z.2.1]; exact z.2.2.1
  · rw [z.2.2.2.2.2.2]; exact z.2.1
  · rw [z.2.2.2.2.2.2]; exact z.2.1
theorem WV.idx {R : Int → Rl} {rc : Int} {V : List (Rl × Int)} {sp nb mt pl : Int → Int} {stm wc : Int} (h : WV R rc V sp nb mt pl stm wc) {i : Int} (hi : 0 ≤ i ∧ i < rc) (e : sp i = stm) : IdxV V (R i) (nb i) :=
  ⟨(h.2.2.2.1 i hi.1 hi.2 e).1, (h.2.2.2.1 i hi.1 hi.2 e).2.2⟩
theorem WV.stamp {R : Int → Rl} {rc : Int} {V : List (Rl × Int)} {sp nb mt pl : Int → Int} {stm wc : Int} (h : WV R rc V sp nb mt pl stm wc) {i : Int} (hi : 0 ≤ i ∧ i < rc) (hr : rc ≤ 10240) (e : InV V (R i)) : sp i = stm := (h.2.2.1 i hi.1 (by omega)).mpr ⟨hi.2, e⟩
theorem WV.parts {kd fi se sg le de nx he : Int → Int} {R : Int → Rl} {rc : Int} {V : List (Rl × Int)} {sp nb mt pl : Int → Int} {stm wc : Int} (hT : RT kd fi se sg le de nx he rc R) (h : WV R rc V sp nb mt pl stm wc) {r : Rl} (e : V = vis r 0 []) {i : Int} (hi : 0 ≤ i ∧ i < rc) (hv : InV V (R i)) : (kd i ≠ 0 → sp (fi i) = stm) ∧ (kd i = 1 → sp (se i) = stm) := by
  have hp : PartsIn V (R i) := by rw [e] at hv ⊢; exact vis_parts hv
  have hr := hT.1
  rcases (hT.2.1 i hi.1 hi.2).1 with z | z | z
  · exact ⟨fun q => by omega, fun q => by omega⟩
  · rw [z.2.2.2.2.2.2] at hp
    exact ⟨fun _ => h.stamp (by omega) hr.2 hp.1, fun _ => h.stamp (by omega) hr.2 hp.2⟩
  · rw [z.2.2.2.2.2.2] at hp
    exact ⟨fun _ => h.stamp (by omega) hr.2 hp, fun q => by omega⟩
