/-! ===== the model's acts ===== -/
theorem NV.prt {kd on tw sg le de : Int → Int} {R : Int → Rl} {i : Int} {V : List (Rl × Int)} (h : TRow kd on tw sg le de R i) (hp : PartsIn V (R i)) : (kd i ≠ 0 → InV V (R (on i))) ∧ (kd i = 1 → InV V (R (tw i))) := by
  rcases h.1 with z | z | z
  · exact ⟨fun q => absurd z.1 q, fun q => by omega⟩
  · rw [z.2.2.2.2.2] at hp; exact ⟨fun _ => hp.1, fun _ => hp.2⟩
  · rw [z.2.2.2.2.2] at hp; exact ⟨fun _ => hp, fun q => by omega⟩
def QMany (F : Int → Int → Int) (N : Int → Int) (c ac mk nw w r s : Int) : Prop := (w = 0 ∧ r = c ∧ s = 0) ∨ (w = 1 ∧ AllRules F N c r ∧ s = 0) ∨ (w = 2 ∧ r = sumF N c ∧ s = 0) ∨ (w = 3 ∧ r = ac ∧ s = 0) ∨ (w = 4 ∧ r = mk ∧ s = 0) ∨ (w = 5 ∧ r = nw ∧ s = 0) ∨ (¬ (0 ≤ w ∧ w ≤ 5) ∧ r = -1 ∧ s = 1)
theorem TOk.cong {F F2 : Int → Int → Int} {N N2 : Int → Int} {c c2 : Int} (h : TOk F N c) (hc : c2 = c) (hN : ∀ t, 0 ≤ t → t < c → N2 t = N t) (hF : ∀ t, 0 ≤ t → t < c → ∀ k, 0 ≤ k → k < N t → F2 t k = F t k) : TOk F2 N2 c2 := by
  subst hc
  refine ⟨h.1, fun t a b => ?_⟩
  have h9 := h.2 t a b
  rw [hN t a b]
  exact ⟨h9.1, fun k k0 k1 => by rw [hF t a b k k0 k1]; exact h9.2 k k0 k1⟩
theorem TOk.reg {al al2 : Int → Int} {b b2 : Int} (h : TOk (oF al b) (oN al b) (al (b + 0))) (e : ∀ j, 0 ≤ j → j < 4809 → al2 (b2 + j) = al (b + j)) : TOk (oF al2 b2) (oN al2 b2) (al2 (b2 + 0)) := by
  have hc := h.1
  refine h.cong (e 0 (by omega) (by omega)) (fun t a q => ?_) (fun t a q k k0 k1 => ?_)
  · unfold oN
    have := e (1 + t) (by omega) (by omega)
    rw [← Int.add_assoc, ← Int.add_assoc] at this
    exact this
  · unfold oF
    have h9 := (h.2 t a q).1
    have := e (9 + 600 * t + k) (by omega) (by omega)
    rw [show b2 + 9 + 600 * t + k = b2 + (9 + 600 * t + k) by omega, show b + 9 + 600 * t + k = b + (9 + 600 * t + k) by omega]
    exact this
theorem TOk.at0 {al : Int → Int} : TOk (oF al 0) (oN al 0) (al (0 + 0)) ↔ MTx al := by rw [oF_0, oN_0]; exact Iff.rfl
theorem NewsF.cong {F F2 G G2 : Int → Int → Int} {N N2 M M2 : Int → Int} {c c2 d d2 w : Int} (h : NewsF F N c G M d w) (hc : c2 = c) (hN : ∀ t, 0 ≤ t → t < c → N2 t = N t) (hF : ∀ t, 0 ≤ t → t < c → ∀ k, 0 ≤ k → k < N t → F2 t k = F t k) (hd : d2 = d) (hM : ∀ t, 0 ≤ t → t < d → M2 t = M t) (hG : ∀ t, 0 ≤ t → t < d → ∀ k, 0 ≤ k → k < M t → G2 t k = G t k) : NewsF F2 N2 c2 G2 M2 d2 w := by
  subst hc hd
  obtain ⟨T, T2, h1, h2, h3⟩ := h
  refine ⟨T, T2, fun t a b => ?_, fun t a b => ?_, h3⟩
  · obtain ⟨q, hq⟩ := h1 t a b
    refine ⟨q, ?_⟩
    rw [hN t a b, lts_cong (h := F t) (q := 0) (fun k k0 k1 => by rw [Int.zero_add]; exact hF t a b k k0 k1)]
    exact hq
  · obtain ⟨q, hq⟩ := h2 t a b
    refine ⟨q, ?_⟩
    rw [hM t a b, lts_cong (h := G t) (q := 0) (fun k k0 k1 => by rw [Int.zero_add]; exact hG t a b k k0 k1)]
    exact hq
/-- as far as the oldest one has made room -/
def AcM (al nf : Int → Int) (mac : Int) (al8 nf8 : Int → Int) (m8 : Int) : Prop :=
  ∃ d, d = (if mac = 8 then 1 else 0) ∧ m8 = mac - d ∧ (∀ k, 0 ≤ k → k < m8 → nf8 k = nf (k + d) ∧ ∀ j, 0 ≤ j → j < 4809 → al8 (9618 + 4809 * k + j) = al (9618 + 4809 * (k + d) + j)) ∧ ∀ j, j < 9618 ∨ 48090 ≤ j → al8 j = al j
/-- what is kept to be undone, of the state al, its texts as they were at the place b -/
def AcR (al nf : Int → Int) (b mac : Int) (al9 nf9 : Int → Int) (mac9 news : Int) : Prop :=
  ∃ d, d = (if mac = 8 then 1 else 0) ∧ mac9 = mac + 1 - d ∧ (∀ k, 0 ≤ k → k < mac9 - 1 → nf9 k = nf (k + d) ∧ ∀ j, 0 ≤ j → j < 4809 → al9 (9618 + 4809 * k + j) = al (9618 + 4809 * (k + d) + j)) ∧ nf9 (mac9 - 1) = news ∧ (∀ j, 0 ≤ j → j < 4809 → al9 (9618 + 4809 * (mac9 - 1) + j) = al (b + j)) ∧ ∀ j, 48090 ≤ j → al9 j = al j
theorem AcM.rg {al nf : Int → Int} {mac : Int} {al8 nf8 : Int → Int} {m8 : Int} (h : AcM al nf mac al8 nf8 m8) (hm : 0 ≤ mac ∧ mac ≤ 8) : 0 ≤ m8 ∧ m8 ≤ 7 := by
  obtain ⟨d, h1, h2, -⟩ := h
  split at h1 <;> omega
theorem AcM.fin {al nf : Int → Int} {mac : Int} {al8 nf8 al9 : Int → Int} {m8 news : Int} (h : AcM al nf mac al8 nf8 m8) (hm : 0 ≤ mac ∧ mac ≤ 8) (c1 : ∀ k, 0 ≤ k → k < 4809 → al9 (9618 + 4809 * m8 + k) = al8 (4809 + k)) (c2 : ∀ j, ¬ (9618 + 4809 * m8 ≤ j ∧ j < 9618 + 4809 * m8 + 4809) → al9 j = al8 j) :
    AcR al nf 4809 mac al9 (up nf8 m8 news) (m8 + 1) news ∧ ∀ j, j < 9618 → al9 j = al j := by
  have hr := h.rg hm
  obtain ⟨d, h1, h2, h3, h4⟩ := h
  refine ⟨⟨d, h1, by omega, fun k a b => ?_, by rw [show m8 + 1 - 1 = m8 by omega, up_same], fun j a b => ?_, fun j a => ?_⟩, fun j a => ?_⟩
  · have h9 := h3 k a (by omega)
    refine ⟨by rw [up_ne _ _ (by omega)]; exact h9.1, fun j j0 j1 => ?_⟩
    rw [c2 _ (by omega)]
    exact h9.2 j j0 j1
  · rw [show m8 + 1 - 1 = m8 by omega, c1 j a b, h4 _ (by omega)]
  · rw [c2 _ (by omega), h4 _ (by omega)]
  · rw [c2 _ (by omega), h4 _ (by omega)]
/-- an act: what was there before is kept, and what is new is told -/
def ActIs (al nf : Int → Int) (mac : Int) (al9 nf9 : Int → Int) (mac9 news : Int) : Prop := AcR al nf 0 mac al9 nf9 mac9 news ∧ NewsF (mF al) (mN al) (al 0) (mF al9) (mN al9) (al9 0) news ∧ MTx al9
theorem ActIs.of {al al2 nf : Int → Int} {mac : Int} {al9 nf9 : Int → Int} {mac9 news : Int} (hM : MTx al) (h1 : ∀ j, 0 ≤ j → j < 4809 → al2 (4809 + j) = al (0 + j)) (h2 : ∀ j, 9618 ≤ j → al2 j = al j) (h : AcR al2 nf 4809 mac al9 nf9 mac9 news) (hs : ∀ j, j < 9618 → al9 j = al2 j) (hm : 0 ≤ mac ∧ mac ≤ 8) (hM2 : MTx al2) (hn : NewsF (oF al9 4809) (oN al9 4809) (al9 (4809 + 0)) (mF al9) (mN al9) (al9 0) news) : ActIs al nf mac al9 nf9 mac9 news := by
  have hc := hM.1
  refine ⟨?_, ?_, ?_⟩
  · obtain ⟨d, g1, g2, g3, g4, g5, g6⟩ := h
    have hd : 0 ≤ d := by split at g1 <;> omega
    refine ⟨d, g1, g2, fun k a b => ⟨(g3 k a b).1, fun j j0 j1 => ?_⟩, g4, fun j a b => ?_, fun j a => ?_⟩
    · rw [(g3 k a b).2 j j0 j1, h2 _ (by omega)]
    · rw [g5 j a b, h1 j a b]
    · rw [g6 j a, h2 j (by omega)]
  · have e : ∀ j, 0 ≤ j → j < 4809 → al9 (4809 + j) = al (0 + j) := fun j a b => by rw [hs _ (by omega), h1 j a b]
    refine hn.cong ?_ (fun t a b => ?_) (fun t a b k k0 k1 => ?_) rfl (fun _ _ _ => rfl) (fun _ _ _ _ _ _ => rfl)
    · rw [e 0 (by omega) (by omega)]; rfl
    · rw [e 0 (by omega) (by omega)] at b
      have b' : t < al 0 := b
      unfold oN mN
      have h9 := e (1 + t) (by omega) (by omega)
      rw [show (4809 : Int) + 1 + t = 4809 + (1 + t) by omega, h9, Int.zero_add]
    · rw [e 0 (by omega) (by omega)] at b
      have b' : t < al 0 := b
      have hl := (hM.2 t a b').1
      have hN : oN al9 4809 t = mN al t := by
        unfold oN mN
        rw [show (4809 : Int) + 1 + t = 4809 + (1 + t) by omega, e (1 + t) (by omega) (by omega), Int.zero_add]
      rw [hN] at k1
      unfold oF mF
      rw [show (4809 : Int) + 9 + 600 * t + k = 4809 + (9 + 600 * t + k) by omega, e (9 + 600 * t + k) (by omega) (by omega), Int.zero_add]
  · have h9 := (TOk.at0.mpr hM2).reg (al2 := al9) (b2 := 0) (fun j a b => by rw [hs _ (by omega)])
    exact TOk.at0.mp h9
/-- a text put into the state -/
def PutIs (al pl : Int → Int) (n t : Int) (al9 : Int → Int) : Prop := al9 (1 + t) = n ∧ (∀ k, 0 ≤ k → k < n → al9 (9 + 600 * t + k) = pl k) ∧ ∀ j, j ≠ 1 + t → ¬ (9 + 600 * t ≤ j ∧ j < 9 + 600 * t + n) → al9 j = al j
