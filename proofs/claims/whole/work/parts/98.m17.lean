/-! ===== the model's acts: a state made ready, then kept ===== -/
theorem TextSet.ok {F : Int → Int → Int} {N : Int → Int} {c t : Int} {f : Int → Int} {n : Int} {F2 : Int → Int → Int} {N2 : Int → Int} {c2 : Int} (s : TextSet F N c t f n F2 N2 c2) (h : TOk F N c) (ht : 0 ≤ t ∧ t ≤ c ∧ t < 8) (hn : 1 ≤ n ∧ n ≤ 600) (hf : ∀ k, 0 ≤ k → k < n → 0 ≤ f k ∧ f k ≤ 25) : TOk F2 N2 c2 := by
  obtain ⟨s1, s2, s3, s4⟩ := s
  have hc := h.1
  refine ⟨by omega, fun j a b => ?_⟩
  by_cases e : j = t
  · subst e
    rw [s2]
    exact ⟨hn, fun k k0 k1 => by rw [s3 k k0 k1]; exact hf k k0 k1⟩
  · have hj : j < c := by omega
    obtain ⟨q1, q2⟩ := s4 j a hj e
    have h9 := h.2 j a hj
    rw [q1]
    exact ⟨h9.1, fun k k0 k1 => by rw [q2 k k0 k1]; exact h9.2 k k0 k1⟩
theorem TextSet.cg {F : Int → Int → Int} {N : Int → Int} {c t : Int} {f h : Int → Int} {n m : Int} {F2 : Int → Int → Int} {N2 : Int → Int} {c2 : Int} (s : TextSet F N c t f n F2 N2 c2) (e : n = m) (q : ∀ k, 0 ≤ k → k < n → f k = h k) : TextSet F N c t h m F2 N2 c2 := by
  subst e
  obtain ⟨s1, s2, s3, s4⟩ := s
  exact ⟨s1, s2, fun k a b => by rw [s3 k a b]; exact q k a b, s4⟩
theorem TextGone.ok {F : Int → Int → Int} {N : Int → Int} {c t : Int} {F2 : Int → Int → Int} {N2 : Int → Int} {c2 : Int} (s : TextGone F N c t F2 N2 c2) (h : TOk F N c) (ht : 0 ≤ t ∧ t < c) : TOk F2 N2 c2 := by
  obtain ⟨s1, s2⟩ := s
  have hc := h.1
  refine ⟨by omega, fun j a b => ?_⟩
  obtain ⟨q1, q2⟩ := s2 j a b
  obtain ⟨u1, u2⟩ := sh_ix (j := j) ht ⟨a, by omega⟩
  have h9 := h.2 _ u1 u2
  rw [← q1] at h9
  exact ⟨h9.1, fun k k0 k1 => by rw [q2 k k0 k1]; exact h9.2 k k0 k1⟩
abbrev PSet (al : Int → Int) (t : Int) (f : Int → Int) (n : Int) (al9 : Int → Int) : Prop := TextSet (mF al) (mN al) (al 0) t f n (mF al9) (mN al9) (al9 0)
abbrev PGone (al : Int → Int) (t : Int) (al9 : Int → Int) : Prop := TextGone (mF al) (mN al) (al 0) t (mF al9) (mN al9) (al9 0)
/-- the state as it is behind an act, the one ahead of it kept aside -/
def PreAct (al : Int → Int) (P : (Int → Int) → Prop) (al2 : Int → Int) : Prop :=
  (∀ j, 0 ≤ j → j < 4809 → al2 (4809 + j) = al (0 + j)) ∧ (∀ j, 9618 ≤ j → al2 j = al j) ∧ ∀ al3 : Int → Int, (∀ j, 0 ≤ j → j < 4809 → al3 j = al2 j) → P al3 ∧ MTx al3
theorem PreAct.ok {al : Int → Int} {P : (Int → Int) → Prop} {al2 : Int → Int} (h : PreAct al P al2) : MTx al2 := (h.2.2 al2 (fun _ _ _ => rfl)).2
theorem PreAct.now {al : Int → Int} {P : (Int → Int) → Prop} {al2 : Int → Int} (h : PreAct al P al2) : P al2 := (h.2.2 al2 (fun _ _ _ => rfl)).1
theorem PreAct.aside {al : Int → Int} {P : (Int → Int) → Prop} {al2 : Int → Int} (h : PreAct al P al2) (hM : MTx al) : TOk (oF al2 4809) (oN al2 4809) (al2 (4809 + 0)) :=
  (TOk.at0.mpr hM).reg (b2 := 4809) (fun j a b => h.1 j a b)
theorem PreAct.act {al : Int → Int} {P : (Int → Int) → Prop} {al2 nf : Int → Int} {mac : Int} {al9 nf9 : Int → Int} {mac9 news : Int} (h : PreAct al P al2) (hM : MTx al) (hm : 0 ≤ mac ∧ mac ≤ 8) (r : AcR al2 nf 4809 mac al9 nf9 mac9 news) (hs : ∀ j, j < 9618 → al9 j = al2 j) (hn : NewsF (oF al9 4809) (oN al9 4809) (al9 (4809 + 0)) (mF al9) (mN al9) (al9 0) news) : ActIs al nf mac al9 nf9 mac9 news ∧ P al9 :=
  ⟨ActIs.of hM h.1 h.2.1 r hs hm h.ok hn, (h.2.2 al9 (fun j _ b => hs j (by omega))).1⟩
theorem PutIs.pre {al al1 al2 pl : Int → Int} {n t : Int} (hM : MTx al) (h1 : ∀ k, 0 ≤ k → k < 4809 → al1 (4809 + k) = al (0 + k)) (h2 : ∀ j, ¬ (4809 ≤ j ∧ j < 4809 + 4809) → al1 j = al j) (hp : PutIs al1 pl n t al2) (ht : 0 ≤ t ∧ t ≤ al 0 ∧ t < 8) (hn : 1 ≤ n ∧ n ≤ 600) (hf : ∀ k, 0 ≤ k → k < n → 0 ≤ pl k ∧ pl k ≤ 25) {al3 : Int → Int} (e : ∀ j, j ≠ 0 → al3 j = al2 j) (e0 : al3 0 = max (al 0) (t + 1)) : PreAct al (PSet al t pl n) al3 := by
  obtain ⟨p1, p2, p3⟩ := hp
  refine ⟨fun j a b => by rw [e _ (by omega), p3 _ (by omega) (by omega)]; exact h1 j a b, fun j a => by rw [e _ (by omega), p3 _ (by omega) (by omega), h2 _ (by omega)], fun al4 q => ?_⟩
  have hS : PSet al t pl n al4 := by
    refine ⟨by rw [q 0 (by omega) (by omega), e0], ?_, fun k a b => ?_, fun j a b z => ⟨?_, fun k k0 k1 => ?_⟩⟩
    · unfold mN; rw [q _ (by omega) (by omega), e _ (by omega), p1]
    · unfold mF; rw [q _ (by omega) (by omega), e _ (by omega)]; exact p2 k a b
    · have hc := hM.1
      unfold mN; rw [q _ (by omega) (by omega), e _ (by omega), p3 _ (by omega) (by omega), h2 _ (by omega)]
    · have hc := hM.1
      have hl := (hM.2 j a b).1
      unfold mF; rw [q _ (by omega) (by omega), e _ (by omega), p3 _ (by omega) (by omega), h2 _ (by omega)]
  exact ⟨hS, hS.ok hM ht hn hf⟩
theorem PutIs.zero {al al1 al2 pl : Int → Int} {n t : Int} (h2 : ∀ j, ¬ (4809 ≤ j ∧ j < 4809 + 4809) → al1 j = al j) (hp : PutIs al1 pl n t al2) (ht : 0 ≤ t) : al2 0 = al 0 := by
  rw [hp.2.2 0 (by omega) (by omega), h2 0 (by omega)]
theorem PreAct.cg {al : Int → Int} {t : Int} {f h : Int → Int} {n m : Int} {al2 : Int → Int} (p : PreAct al (PSet al t f n) al2) (e : n = m) (q : ∀ k, 0 ≤ k → k < n → f k = h k) : PreAct al (PSet al t h m) al2 :=
  ⟨p.1, p.2.1, fun al3 z => ⟨(p.2.2 al3 z).1.cg e q, (p.2.2 al3 z).2⟩⟩
/-- a text changed in its place, letter by letter -/
theorem PreAct.ofMap {al al1 al2 : Int → Int} {t : Int} {f : Int → Int} (hM : MTx al) (h1 : ∀ k, 0 ≤ k → k < 4809 → al1 (4809 + k) = al (0 + k)) (h2 : ∀ j, ¬ (4809 ≤ j ∧ j < 4809 + 4809) → al1 j = al j) (ht : 0 ≤ t ∧ t < al 0) (g1 : ∀ k, 0 ≤ k → k < mN al t → al2 (9 + 600 * t + k) = f k) (g2 : ∀ j, ¬ (9 + 600 * t ≤ j ∧ j < 9 + 600 * t + mN al t) → al2 j = al1 j) (hf : ∀ k, 0 ≤ k → k < mN al t → 0 ≤ f k ∧ f k ≤ 25) : PreAct al (PSet al t f (mN al t)) al2 := by
  have hc := hM.1
  have hl := (hM.2 t ht.1 ht.2).1
  refine ⟨fun j a b => by rw [g2 _ (by omega)]; exact h1 j a b, fun j a => by rw [g2 _ (by omega), h2 _ (by omega)], fun al4 q => ?_⟩
  have hS : PSet al t f (mN al t) al4 := by
    refine ⟨by rw [q 0 (by omega) (by omega), g2 _ (by omega), h2 _ (by omega)]; omega, ?_, fun k a b => ?_, fun j a b z => ⟨?_, fun k k0 k1 => ?_⟩⟩
    · show al4 (1 + t) = al (1 + t)
      rw [q _ (by omega) (by omega), g2 _ (by omega), h2 _ (by omega)]
    · show al4 (9 + 600 * t + k) = f k
      rw [q _ (by omega) (by omega)]; exact g1 k a b
    · show al4 (1 + j) = al (1 + j)
      rw [q _ (by omega) (by omega), g2 _ (by omega), h2 _ (by omega)]
    · have hl2 := (hM.2 j a b).1
      show al4 (9 + 600 * j + k) = al (9 + 600 * j + k)
      rw [q _ (by omega) (by omega), g2 _ (by omega), h2 _ (by omega)]
  exact ⟨hS, hS.ok hM (by omega) hl hf⟩
/-- a text dropped -/
theorem PreAct.ofGone {al al1 al2 al3 : Int → Int} {t : Int} (hM : MTx al) (h1 : ∀ k, 0 ≤ k → k < 4809 → al1 (4809 + k) = al (0 + k)) (h2 : ∀ j, ¬ (4809 ≤ j ∧ j < 4809 + 4809) → al1 j = al j) (ht : 0 ≤ t ∧ t < al 0) (g1 : ∀ j, t ≤ j → j < al 0 - 1 → al2 (1 + j) = al (1 + (j + 1)) ∧ ∀ k, 0 ≤ k → k < 600 → al2 (9 + 600 * j + k) = al (9 + 600 * (j + 1) + k)) (g2 : ∀ j, ¬ (1 + t ≤ j ∧ j < al 0) → ¬ (9 + 600 * t ≤ j ∧ j < 9 + 600 * (al 0 - 1)) → al2 j = al1 j) (e : ∀ j, j ≠ 0 → al3 j = al2 j) (e0 : al3 0 = al 0 - 1) : PreAct al (PGone al t) al3 := by
  have hc := hM.1
  refine ⟨fun j a b => by rw [e _ (by omega), g2 _ (by omega) (by omega)]; exact h1 j a b, fun j a => by rw [e _ (by omega), g2 _ (by omega) (by omega), h2 _ (by omega)], fun al4 q => ?_⟩
  have hS : PGone al t al4 := by
    have c0 : al4 0 = al 0 - 1 := by rw [q 0 (by omega) (by omega), e0]
    refine ⟨c0, fun j a b => ?_⟩
    rw [c0] at b
    by_cases z : j < t
    · rw [if_pos z]
      have hN : mN al4 j = mN al j := by
        show al4 (1 + j) = al (1 + j)
        rw [q _ (by omega) (by omega), e _ (by omega), g2 _ (by omega) (by omega), h2 _ (by omega)]
      refine ⟨hN, fun k k0 k1 => ?_⟩
      rw [hN] at k1
      have hl := (hM.2 j a (by omega)).1
      show al4 (9 + 600 * j + k) = al (9 + 600 * j + k)
      rw [q _ (by omega) (by omega), e _ (by omega), g2 _ (by omega) (by omega), h2 _ (by omega)]
    · rw [if_neg z]
      obtain ⟨w1, w2⟩ := g1 j (by omega) b
      have hN : mN al4 j = mN al (j + 1) := by
        show al4 (1 + j) = al (1 + (j + 1))
        rw [q _ (by omega) (by omega), e _ (by omega)]; exact w1
      refine ⟨hN, fun k k0 k1 => ?_⟩
      rw [hN] at k1
      have hl := (hM.2 (j + 1) (by omega) (by omega)).1
      show al4 (9 + 600 * j + k) = al (9 + 600 * (j + 1) + k)
      rw [q _ (by omega) (by omega), e _ (by omega)]; exact w2 k k0 (by omega)
  exact ⟨hS, hS.ok hM ht⟩
theorem spl_rg {F : Int → Int → Int} {N : Int → Int} {c t u p m k : Int} (h : TOk F N c) (ht : 0 ≤ t ∧ t < c) (hu : 0 ≤ u ∧ u < c) (hp : 0 ≤ p ∧ 0 ≤ m ∧ p + m ≤ N t) (k0 : 0 ≤ k) (k1 : k < N t - m + N u) : 0 ≤ splF (F t) p m (F u) (N u) k ∧ splF (F t) p m (F u) (N u) k ≤ 25 := by
  unfold splF
  split
  · exact (h.2 t ht.1 ht.2).2 k k0 (by omega)
  · split
    · exact (h.2 u hu.1 hu.2).2 _ (by omega) (by omega)
    · exact (h.2 t ht.1 ht.2).2 _ (by omega) (by omega)
/-- three parts piled -/
theorem pile3 {pl1 pl2 pl3 f h : Int → Int} {p m n w : Int} (hp : 0 ≤ p ∧ 0 ≤ n) (a1 : ∀ k, 0 ≤ k → k < p → pl1 (0 + k) = f (0 + k)) (b1 : ∀ k, 0 ≤ k → k < n → pl2 (0 + p + k) = h (0 + k)) (b2 : ∀ j, ¬ (0 + p ≤ j ∧ j < 0 + p + n) → pl2 j = pl1 j) (c1 : ∀ k, 0 ≤ k → k < w → pl3 (0 + p + n + k) = f (p + m + k)) (c2 : ∀ j, ¬ (0 + p + n ≤ j ∧ j < 0 + p + n + w) → pl3 j = pl2 j) : ∀ k, 0 ≤ k → k < 0 + p + n + w → pl3 k = splF f p m h n k := fun k k0 k1 => by
  unfold splF
  by_cases z : k < p
  · rw [if_pos z, c2 _ (by omega), b2 _ (by omega)]
    have := a1 k k0 z
    rw [Int.zero_add] at this
    exact this
  · rw [if_neg z]
    by_cases y : k < p + n
    · rw [if_pos y, c2 _ (by omega)]
      have := b1 (k - p) (by omega) (by omega)
      rw [show 0 + p + (k - p) = k by omega, Int.zero_add] at this
      exact this
    · rw [if_neg y]
      have := c1 (k - p - n) (by omega) (by omega)
      rw [show 0 + p + n + (k - p - n) = k by omega, show p + m + (k - p - n) = k - n + m by omega] at this
      exact this
theorem pile2 {pl1 pl2 f h : Int → Int} {p n : Int} (hp : 0 ≤ p ∧ 0 ≤ n) (a1 : ∀ k, 0 ≤ k → k < p → pl1 (0 + k) = f (0 + k)) (b1 : ∀ k, 0 ≤ k → k < n → pl2 (0 + p + k) = h (0 + k)) (b2 : ∀ j, ¬ (0 + p ≤ j ∧ j < 0 + p + n) → pl2 j = pl1 j) : ∀ k, 0 ≤ k → k < 0 + p + n → pl2 k = joinF f p h k := fun k k0 k1 => by
  unfold joinF
  by_cases z : k < p
  · rw [if_pos z, b2 _ (by omega)]
    have := a1 k k0 z
    rw [Int.zero_add] at this
    exact this
  · rw [if_neg z]
    have := b1 (k - p) (by omega) (by omega)
    rw [show 0 + p + (k - p) = k by omega, Int.zero_add] at this
    exact this
/-- one part piled again and again -/
def RepIs (f : Int → Int) (n i : Int) (pl : Int → Int) : Prop := ∀ k, 0 ≤ k → k < n * i → pl k = f (k % n)
theorem RepIs.step {f : Int → Int} {n i : Int} {pl pl2 : Int → Int} (h : RepIs f n i pl) (hn : 1 ≤ n) (hi : 0 ≤ i) (b1 : ∀ k, 0 ≤ k → k < n → pl2 (n * i + k) = f (0 + k)) (b2 : ∀ j, ¬ (n * i ≤ j ∧ j < n * i + n) → pl2 j = pl j) : RepIs f n (i + 1) pl2 := fun k k0 k1 => by
  rw [Int.mul_add, Int.mul_one] at k1
  by_cases z : k < n * i
  · rw [b2 _ (by omega)]; exact h k k0 z
  · have := b1 (k - n * i) (by omega) (by omega)
    rw [show n * i + (k - n * i) = k by omega, Int.zero_add] at this
    rw [this]
    congr 1
    have e : k = (k - n * i) + n * i := by omega
    rw [e, Int.add_mul_emod_self_left, Int.emod_eq_of_lt (by omega) (by omega)]
    omega
theorem NewsF.aside {al al2 : Int → Int} {G : Int → Int → Int} {M : Int → Int} {d w : Int} (hM : MTx al) (e : ∀ j, 0 ≤ j → j < 4809 → al2 (4809 + j) = al (0 + j)) (h : NewsF (oF al2 4809) (oN al2 4809) (al2 (4809 + 0)) G M d w) : NewsF (mF al) (mN al) (al 0) G M d w := by
  have hc := hM.1
  have c0 : al2 (4809 + 0) = al 0 := e 0 (by omega) (by omega)
  have hN : ∀ t, 0 ≤ t → t < al 0 → oN al2 4809 t = mN al t := fun t a b => by
    show al2 (4809 + 1 + t) = al (1 + t)
    rw [show (4809 : Int) + 1 + t = 4809 + (1 + t) by omega, e (1 + t) (by omega) (by omega), Int.zero_add]
  refine h.cong c0.symm (fun t a b => ?_) (fun t a b k k0 k1 => ?_) rfl (fun _ _ _ => rfl) (fun _ _ _ _ _ _ => rfl)
  · rw [c0] at b
    exact (hN t a b).symm
  · rw [c0] at b
    rw [hN t a b] at k1
    have hl := (hM.2 t a b).1
    show al (9 + 600 * t + k) = al2 (4809 + 9 + 600 * t + k)
    rw [show (4809 : Int) + 9 + 600 * t + k = 4809 + (9 + 600 * t + k) by omega, e (9 + 600 * t + k) (by omega) (by omega), Int.zero_add]
