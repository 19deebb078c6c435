/-! ===== pure: rules are trees: LETTER c is arg c, a RUN of n is mul (index n), a PAIR is add ===== -/
abbrev Rl := Jvm.Term
def mixI (h x : Int) : Int := xorI (xorI h x * 16777619) (ushrI (xorI h x * 16777619) 15)
theorem xorI_rg (a b : Int) : -2147483648 ≤ xorI a b ∧ xorI a b ≤ 2147483647 := iI_rg _
theorem andI_rg (a b : Int) : -2147483648 ≤ andI a b ∧ andI a b ≤ 2147483647 := iI_rg _
theorem ushrI_rg (a b : Int) : -2147483648 ≤ ushrI a b ∧ ushrI a b ≤ 2147483647 := iI_rg _
theorem mixI_rg (h x : Int) : -2147483648 ≤ mixI h x ∧ mixI h x ≤ 2147483647 := xorI_rg _ _
theorem andI_mask (x : Int) {m : Int} (k : Nat) (hk : k ≤ 30) (hm : (iI m).toBitVec.toNat = 2 ^ k - 1) : 0 ≤ andI x m ∧ andI x m < 2 ^ k := by
  obtain ⟨j, hj, e⟩ := pk_andE (iI x) k hm
  have h30 : (2 : Nat) ^ k ≤ 2 ^ 30 := Nat.pow_le_pow_right (by decide) hk
  have h31 : j < 2 ^ 31 := by have : (2 : Nat) ^ 30 < 2 ^ 31 := by decide
                              omega
  unfold andI
  rw [e, nI_toInt h31]
  have : ((2 ^ k : Nat) : Int) = (2 : Int) ^ k := by simp
  omega
theorem andI_4095 (x : Int) : 0 ≤ andI x 4095 ∧ andI x 4095 < 4096 := andI_mask x 12 (by decide) (by decide)
theorem andI_1 (x : Int) : 0 ≤ andI x 1 ∧ andI x 1 < 2 := andI_mask x 1 (by decide) (by decide)
def rLet (c : Int) : Rl := .arg c.toNat
def rRun (n : Int) (r : Rl) : Rl := .mul (.index n.toNat) r
def rPair (a b : Rl) : Rl := .add a b
def cntOf : Rl → Int
  | .index n => n
  | _ => 1
def rsign : Rl → Int
  | .arg c => mixI 7 (c + 1)
  | .mul n r => mixI (mixI 11 (rsign r)) (cntOf n)
  | .add a b => mixI (mixI 13 (rsign a)) (rsign b)
  | _ => 0
def rlen : Rl → Int
  | .mul n r => rlen r * cntOf n
  | .add a b => rlen a + rlen b
  | _ => 1
def rdep : Rl → Int
  | .mul _ r => 1 + rdep r
  | .add a b => 1 + max (rdep a) (rdep b)
  | _ => 0
def Wf : Rl → Prop
  | .arg c => c < 26
  | .mul n r => (∃ k : Nat, n = .index k ∧ 2 ≤ k) ∧ Wf r
  | .add a b => Wf a ∧ Wf b
  | _ => False
theorem rsign_run {n : Int} (h : 0 ≤ n) (r : Rl) : rsign (rRun n r) = mixI (mixI 11 (rsign r)) n := by
  show mixI (mixI 11 (rsign r)) ((n.toNat : Nat) : Int) = _
  rw [Int.toNat_of_nonneg h]
theorem rlen_run' {n : Int} (h : 0 ≤ n) (r : Rl) : rlen (rRun n r) = rlen r * n := by
  show rlen r * ((n.toNat : Nat) : Int) = _
  rw [Int.toNat_of_nonneg h]
theorem Wf_run {n : Int} (h : 2 ≤ n) {r : Rl} (hr : Wf r) : Wf (rRun n r) := ⟨⟨n.toNat, rfl, by omega⟩, hr⟩
theorem rRun_inj {n m : Int} (hn : 0 ≤ n) (hm : 0 ≤ m) {r s : Rl} (e : rRun n r = rRun m s) : n = m ∧ r = s := by
  unfold rRun at e
  injection e with e1 e2
  injection e1 with e3
  exact ⟨by omega, e2⟩
theorem rPair_inj {a b c d : Rl} (e : rPair a b = rPair c d) : a = c ∧ b = d := by
  unfold rPair at e
  injection e with e1 e2
  exact ⟨e1, e2⟩
theorem rLet_inj {c d : Int} (hc : 0 ≤ c) (hd : 0 ≤ d) (e : rLet c = rLet d) : c = d := by
  unfold rLet at e
  injection e with e1
  omega
theorem rsign_rg (r : Rl) : -2147483648 ≤ rsign r ∧ rsign r ≤ 2147483647 := by
  cases r <;> first | exact mixI_rg _ _ | (unfold rsign; omega)
theorem rlen_pos : ∀ {r : Rl}, Wf r → 1 ≤ rlen r := by
  intro r
  induction r with
  | arg c => intro _; show (1 : Int) ≤ 1; omega
  | mul n r _ ih =>
    intro h
    obtain ⟨⟨k, rfl, hk⟩, h2⟩ := h
    have h1 := ih h2
    show 1 ≤ rlen r * ((k : Nat) : Int)
    have := Int.mul_le_mul_of_nonneg_left (show (2 : Int) ≤ (k : Int) by omega) (by omega : 0 ≤ rlen r)
    omega
  | add a b iha ihb =>
    intro h
    have h1 := iha h.1
    have h2 := ihb h.2
    show 1 ≤ rlen a + rlen b
    omega
  | _ => intro h; exact h.elim
theorem rlen_run {n r : Rl} (h : Wf (.mul n r)) : 2 * rlen r ≤ rlen (.mul n r) := by
  obtain ⟨⟨k, rfl, hk⟩, h2⟩ := h
  have h1 := rlen_pos h2
  have := Int.mul_le_mul_of_nonneg_left (show (2 : Int) ≤ (k : Int) by omega) (by omega : 0 ≤ rlen r)
  show _ ≤ rlen r * ((k : Nat) : Int)
  omega
theorem rdep_lt : ∀ {r : Rl}, Wf r → 0 ≤ rdep r ∧ rdep r < rlen r := by
  intro r
  induction r with
  | arg c => intro _; show (0 : Int) ≤ 0 ∧ (0 : Int) < 1; omega
  | mul n r _ ih =>
    intro h
    have h0 := rlen_run h
    have h1 := ih h.2
    have h2 := rlen_pos h.2
    have e : rdep (.mul n r) = 1 + rdep r := rfl
    omega
  | add a b iha ihb =>
    intro h
    have h1 := iha h.1
    have h2 := ihb h.2
    have h3 := rlen_pos h.1
    have h4 := rlen_pos h.2
    have e1 : rdep (.add a b) = 1 + max (rdep a) (rdep b) := rfl
    have e2 : rlen (.add a b) = rlen a + rlen b := rfl
    omega
  | _ => intro h; exact h.elim
/-- x is the greatest number from 26 on, below lim, of which p holds; -1: there is none -/
def Mx (p : Int → Prop) (lim x : Int) : Prop := (x = -1 ∨ (26 ≤ x ∧ x < lim ∧ p x)) ∧ ∀ i, 26 ≤ i → i < lim → p i → i ≤ x
/-- what stands at place i of the table is the tree R i -/
def RowOk (kd fi se sg le de : Int → Int) (R : Int → Rl) (i : Int) : Prop :=
  ((i < 26 ∧ R i = rLet i ∧ kd i = 0 ∧ fi i = i ∧ se i = -1) ∨
   (26 ≤ i ∧ kd i = 1 ∧ 0 ≤ fi i ∧ fi i < i ∧ 0 ≤ se i ∧ se i < i ∧ R i = rPair (R (fi i)) (R (se i))) ∨
   (26 ≤ i ∧ kd i = 2 ∧ 0 ≤ fi i ∧ fi i < i ∧ 2 ≤ se i ∧ se i ≤ 600 ∧ R i = rRun (se i) (R (fi i)))) ∧
  sg i = rsign (R i) ∧ le i = rlen (R i) ∧ de i = rdep (R i) ∧ Wf (R i) ∧ rlen (R i) ≤ 600
/-- THE TABLE of the rules -/
def RT (kd fi se sg le de nx he : Int → Int) (cnt : Int) (R : Int → Rl) : Prop :=
  (26 ≤ cnt ∧ cnt ≤ 10240) ∧ (∀ i, 0 ≤ i → i < cnt → RowOk kd fi se sg le de R i) ∧ (∀ i j, 0 ≤ i → i < cnt → 0 ≤ j → j < cnt → R i = R j → i = j) ∧
  (∀ h, 0 ≤ h → h < 4096 → Mx (fun i => andI (sg i) 4095 = h) cnt (he h)) ∧ (∀ j, 26 ≤ j → j < cnt → Mx (fun i => andI (sg i) 4095 = andI (sg j) 4095) j (nx j))
/-- the tree that make(kind, first, second) makes -/
def mkT (R : Int → Rl) (k a b : Int) : Rl := if k = 2 then rRun b (R a) else rPair (R a) (R b)
def mkOk (R : Int → Rl) (cnt k a b : Int) : Prop := (0 ≤ a ∧ a < cnt) ∧ ((k = 1 ∧ 0 ≤ b ∧ b < cnt) ∨ (k = 2 ∧ 2 ≤ b ∧ b ≤ 600)) ∧ rlen (mkT R k a b) ≤ 600
def mkSign (sg : Int → Int) (k a b : Int) : Int := mixI (mixI (if k = 2 then 11 else 13) (sg a)) (if k = 2 then b else sg b)
theorem mkSign_eq {kd fi se sg le de nx he : Int → Int} {cnt : Int} {R : Int → Rl} (h : RT kd fi se sg le de nx he cnt R) {k a b : Int} (hk : mkOk R cnt k a b) : mkSign sg k a b = rsign (mkT R k a b) := by
  obtain ⟨⟨a0, a1⟩, hb, -⟩ := hk
  have ha := (h.2.1 a a0 a1).2.1
  unfold mkSign mkT
  rcases hb with ⟨rfl, b0, b1⟩ | ⟨rfl, b0, b1⟩
  · rw [if_neg (by decide), if_neg (by decide), if_neg (by decide), ha, (h.2.1 b b0 b1).2.1]; rfl
  · rw [if_pos rfl, if_pos rfl, if_pos rfl, ha, rsign_run (by omega)]
/-- a rule that the chain shows is the one that is wanted -/
theorem RT.hit {kd fi se sg le de nx he : Int → Int} {cnt : Int} {R : Int → Rl} (h : RT kd fi se sg le de nx he cnt R) {k a b x : Int} (hk : mkOk R cnt k a b) (hx : 26 ≤ x ∧ x < cnt) (e1 : kd x = k) (e2 : fi x = a) (e3 : se x = b) : R x = mkT R k a b := by
  obtain ⟨hr, -⟩ := h.2.1 x (by omega) hx.2
  unfold mkT
  rcases hr with ⟨q, -⟩ | ⟨-, q1, -, -, -, -, q⟩ | ⟨-, q1, -, -, -, -, q⟩
  · omega
  · rw [if_neg (by omega), q, e2, e3]
  · rw [if_pos (by omega), q, e2, e3]
/-- none that is wanted, if none in the chain is -/
theorem RT.miss {kd fi se sg le de nx he : Int → Int} {cnt : Int} {R : Int → Rl} (h : RT kd fi se sg le de nx he cnt R) {k a b : Int} (hk : mkOk R cnt k a b) (hn : ∀ i, 26 ≤ i → i < cnt → andI (sg i) 4095 = andI (mkSign sg k a b) 4095 → ¬ (kd i = k ∧ fi i = a ∧ se i = b)) : ∀ i, 0 ≤ i → i < cnt → R i ≠ mkT R k a b := by
  intro i i0 i1 e
  have hs := mkSign_eq h hk
  obtain ⟨⟨a0, a1⟩, hb, -⟩ := hk
  obtain ⟨hr, hsg, -⟩ := h.2.1 i i0 i1
  have hin := h.2.2.1
  have hh : andI (sg i) 4095 = andI (mkSign sg k a b) 4095 := by rw [hs, ← e, hsg]
  unfold mkT at e
  rcases hr with ⟨q, q2, -⟩ | ⟨q0, q1, f0, f1, s0, s1, q⟩ | ⟨q0, q1, f0, f1, s0, s1, q⟩
  · rw [q2] at e
    rcases hb with ⟨rfl, -⟩ | ⟨rfl, -⟩
    · rw [if_neg (by decide)] at e; cases e
    · rw [if_pos rfl] at e; cases e
  · rw [q] at e
    rcases hb with ⟨rfl, b0, b1⟩ | ⟨rfl, -⟩
    · rw [if_neg (by decide)] at e
      obtain ⟨e1, e2⟩ := rPair_inj e
      exact hn i q0 i1 hh ⟨q1, hin _ _ f0 (by omega) a0 a1 e1, hin _ _ s0 (by omega) b0 b1 e2⟩
    · rw [if_pos rfl] at e; cases e
  · rw [q] at e
    rcases hb with ⟨rfl, b0, b1⟩ | ⟨rfl, b0, b1⟩
    · rw [if_neg (by decide)] at e; cases e
    · rw [if_pos rfl] at e
      obtain ⟨e1, e2⟩ := rRun_inj (by omega) (by omega) e
      exact hn i q0 i1 hh ⟨q1, hin _ _ f0 (by omega) a0 a1 e2, e1⟩
def upR (R : Int → Rl) (i : Int) (r : Rl) : Int → Rl := fun j => if j = i then r else R j
theorem upR_same (R : Int → Rl) (i : Int) (r : Rl) : upR R i r i = r := by simp [upR]
theorem upR_ne (R : Int → Rl) {i j : Int} (r : Rl) (h : j ≠ i) : upR R i r j = R j := by simp [upR, h]
theorem Mx.cong {p q : Int → Prop} {lim x : Int} (h : Mx p lim x) (e : ∀ i, 26 ≤ i → i < lim → (p i ↔ q i)) : Mx q lim x := by
  refine ⟨?_, fun i a b c => h.2 i a b ((e i a b).mpr c)⟩
  rcases h.1 with g | ⟨g1, g2, g3⟩
  · exact Or.inl g
  · exact Or.inr ⟨g1, g2, (e x g1 g2).mp g3⟩
/-- one rule more -/
theorem RT.push {kd fi se sg le de nx he : Int → Int} {cnt : Int} {R : Int → Rl} (h : RT kd fi se sg le de nx he cnt R) {k a b : Int} (hk : mkOk R cnt k a b) (hc : cnt < 10240) (hm : ∀ i, 0 ≤ i → i < cnt → R i ≠ mkT R k a b) :
    RT (up kd cnt k) (up fi cnt a) (up se cnt b) (up sg cnt (mkSign sg k a b)) (up le cnt (if k = 2 then le a * b else le a + le b)) (up de cnt (1 + if k = 2 then de a else max (de a) (de b))) (up nx cnt (he (andI (mkSign sg k a b) 4095))) (up he (andI (mkSign sg k a b) 4095) cnt) (cnt + 1) (upR R cnt (mkT R k a b)) := by
  have hs := mkSign_eq h hk
  obtain ⟨h1, h2, h3, h4, h5⟩ := h
  obtain ⟨⟨a0, a1⟩, hb, hlen⟩ := hk
  have hra := h2 a a0 a1
  have hH := andI_4095 (mkSign sg k a b)
  refine ⟨by omega, fun i i0 i1 => ?_, fun i j i0 i1 j0 j1 e => ?_, fun z z0 z1 => ?_, fun j j0 j1 => ?_⟩
  · by_cases e : i = cnt
    · subst e
      unfold RowOk
      rw [up_same, up_same, up_same, up_same, up_same, up_same, upR_same, upR_ne _ _ (by omega : a ≠ i), hs]
      rcases hb with ⟨rfl, b0, b1⟩ | ⟨rfl, b0, b1⟩
      · have hrb := h2 b b0 b1
        rw [upR_ne _ _ (by omega : b ≠ i), if_neg (by decide), if_neg (by decide)]
        unfold mkT at hlen ⊢
        rw [if_neg (by decide)] at hlen ⊢
        exact ⟨Or.inr (Or.inl ⟨h1.1, rfl, a0, a1, b0, b1, rfl⟩), rfl, by rw [hra.2.2.1, hrb.2.2.1]; rfl, by rw [hra.2.2.2.1, hrb.2.2.2.1]; rfl, ⟨hra.2.2.2.2.1, hrb.2.2.2.2.1⟩, hlen⟩
      · rw [if_pos rfl, if_pos rfl]
        unfold mkT at hlen ⊢
        rw [if_pos rfl] at hlen ⊢
        refine ⟨Or.inr (Or.inr ⟨h1.1, rfl, a0, a1, b0, b1, rfl⟩), rfl, ?_, by rw [hra.2.2.2.1]; rfl, Wf_run b0 hra.2.2.2.2.1, hlen⟩
        rw [hra.2.2.1, rlen_run' (by omega)]
    · have hi := h2 i i0 (by omega)
      unfold RowOk at hi ⊢
      rw [up_ne _ _ e, up_ne _ _ e, up_ne _ _ e, up_ne _ _ e, up_ne _ _ e, up_ne _ _ e, upR_ne _ _ e]
      obtain ⟨g1, g2⟩ := hi
      refine ⟨?_, g2⟩
      rcases g1 with g | g | g
      · exact Or.inl g
      · obtain ⟨x1, x2, x3, x4, x5, x6, x7⟩ := g
        refine Or.inr (Or.inl ⟨x1, x2, x3, x4, x5, x6, ?_⟩)
        rw [upR_ne _ _ (by omega), upR_ne _ _ (by omega)]; exact x7
      · obtain ⟨x1, x2, x3, x4, x5, x6, x7⟩ := g
        refine Or.inr (Or.inr ⟨x1, x2, x3, x4, x5, x6, ?_⟩)
        rw [upR_ne _ _ (by omega)]; exact x7
  · by_cases ei : i = cnt <;> by_cases ej : j = cnt
    · omega
    · subst ei
      rw [upR_same, upR_ne _ _ ej] at e
      exact absurd e.symm (hm j j0 (by omega))
    · subst ej
      rw [upR_same, upR_ne _ _ ei] at e
      exact absurd e (hm i i0 (by omega))
    · rw [upR_ne _ _ ei, upR_ne _ _ ej] at e
      exact h3 i j i0 (by omega) j0 (by omega) e
  · by_cases e : z = andI (mkSign sg k a b) 4095
    · subst e
      rw [up_same]
      refine ⟨Or.inr ⟨h1.1, by omega, by show andI (up sg cnt (mkSign sg k a b) cnt) 4095 = _; rw [up_same]⟩, fun i i0 i1 _ => by omega⟩
    · rw [up_ne _ _ e]
      have := h4 z z0 z1
      refine ⟨?_, fun i i0 i1 q => ?_⟩
      · rcases this.1 with g | ⟨g1, g2, g3⟩
        · exact Or.inl g
        · exact Or.inr ⟨g1, by omega, by show andI (up sg cnt (mkSign sg k a b) (he z)) 4095 = z; rw [up_ne _ _ (by omega)]; exact g3⟩
      · by_cases ei : i = cnt
        · subst ei; rw [up_same] at q; exact absurd q.symm e
        · have q2 : andI (up sg cnt (mkSign sg k a b) i) 4095 = z := q
          rw [up_ne _ _ ei] at q2
          exact this.2 i i0 (by omega) q2
  · by_cases e : j = cnt
    · subst e
      rw [up_same, up_same]
      exact (h4 _ hH.1 hH.2).cong (fun i _ i1 => by rw [up_ne _ _ (by omega)])
    · rw [up_ne _ _ e, up_ne _ _ e]
      exact (h5 j j0 (by omega)).cong (fun i _ i1 => by rw [up_ne _ _ (by omega)])
