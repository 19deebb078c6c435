/-! ===== what is shown of a state ===== -/
def Kp : Type := (Int → Int → Int) × (Int → Int) × Int × Int
def Kp.F (k : Kp) : Int → Int → Int := k.1
def Kp.N (k : Kp) : Int → Int := k.2.1
def Kp.c (k : Kp) : Int := k.2.2.1
def Kp.w (k : Kp) : Int := k.2.2.2
def mkK (F : Int → Int → Int) (N : Int → Int) (c w : Int) : Kp := (F, N, c, w)
def Vw : Type := (Int × Int × (Int → Int)) × Kp × (Int × (Int → Kp)) × (Int × (Int → Kp)) × (Int × Int × Int)
def Vw.st (V : Vw) : Int := V.1.1
def Vw.tn (V : Vw) : Int := V.1.2.1
def Vw.tf (V : Vw) : Int → Int := V.1.2.2
def Vw.T (V : Vw) : Kp := V.2.1
def Vw.hn (V : Vw) : Int := V.2.2.1.1
def Vw.H (V : Vw) : Int → Kp := V.2.2.1.2
def Vw.kn (V : Vw) : Int := V.2.2.2.1.1
def Vw.K (V : Vw) : Int → Kp := V.2.2.2.1.2
def Vw.us (V : Vw) : Int := V.2.2.2.2.1
def Vw.fk (V : Vw) : Int := V.2.2.2.2.2.1
def Vw.fp (V : Vw) : Int := V.2.2.2.2.2.2
def mkV (st tn : Int) (tf : Int → Int) (T : Kp) (hn : Int) (H : Int → Kp) (kn : Int) (K : Int → Kp) (us fk fp : Int) : Vw := ((st, tn, tf), T, (hn, H), (kn, K), (us, fk, fp))
def Vw.set (V : Vw) (s : Int) : Vw := mkV s V.tn V.tf V.T V.hn V.H V.kn V.K V.us V.fk V.fp
def KEq (a b : Kp) : Prop := TEq a.F a.N a.c b.F b.N b.c
theorem KEq.refl (a : Kp) : KEq a a := TEq.refl _ _ _
/-- alike but for the STATUS and the texts -/
def TpEq (V W : Vw) : Prop := W.tn = V.tn ∧ ∀ k, 0 ≤ k → k < V.tn → W.tf k = V.tf k
def HEq_ (V W : Vw) : Prop := W.hn = V.hn ∧ ∀ k, 0 ≤ k → k < V.hn → KEq (V.H k) (W.H k) ∧ (W.H k).w = (V.H k).w
def MEq (V W : Vw) : Prop := W.kn = V.kn ∧ ∀ k, 0 ≤ k → k < V.kn → KEq (V.K k) (W.K k)
def FEq (V W : Vw) : Prop := W.us = V.us ∧ (V.us ≠ 0 → W.fk = V.fk ∧ W.fp = V.fp)
def VEq (V W : Vw) : Prop := W.st = V.st ∧ TpEq V W ∧ KEq V.T W.T ∧ HEq_ V W ∧ MEq V W ∧ FEq V W
theorem TpEq.refl (V : Vw) : TpEq V V := ⟨rfl, fun _ _ _ => rfl⟩
theorem HEq_.refl (V : Vw) : HEq_ V V := ⟨rfl, fun _ _ _ => ⟨KEq.refl _, rfl⟩⟩
theorem MEq.refl (V : Vw) : MEq V V := ⟨rfl, fun _ _ _ => KEq.refl _⟩
theorem FEq.refl (V : Vw) : FEq V V := ⟨rfl, fun _ => ⟨rfl, rfl⟩⟩
theorem VEq.refl (V : Vw) : VEq V V := ⟨rfl, TpEq.refl V, KEq.refl _, HEq_.refl V, MEq.refl V, FEq.refl V⟩
theorem TpEq.symm {V W : Vw} (h : TpEq V W) : TpEq W V := ⟨h.1.symm, fun k a b => (h.2 k a (by rw [← h.1]; exact b)).symm⟩
theorem TpEq.trans {V W X : Vw} (h : TpEq V W) (q : TpEq W X) : TpEq V X := ⟨q.1.trans h.1, fun k a b => (q.2 k a (by rw [h.1]; exact b)).trans (h.2 k a b)⟩
theorem HEq_.symm {V W : Vw} (h : HEq_ V W) : HEq_ W V := ⟨h.1.symm, fun k a b => ⟨(h.2 k a (by rw [← h.1]; exact b)).1.symm, (h.2 k a (by rw [← h.1]; exact b)).2.symm⟩⟩
theorem HEq_.trans {V W X : Vw} (h : HEq_ V W) (q : HEq_ W X) : HEq_ V X := ⟨q.1.trans h.1, fun k a b => ⟨(h.2 k a b).1.trans (q.2 k a (by rw [h.1]; exact b)).1, (q.2 k a (by rw [h.1]; exact b)).2.trans (h.2 k a b).2⟩⟩
theorem MEq.symm {V W : Vw} (h : MEq V W) : MEq W V := ⟨h.1.symm, fun k a b => (h.2 k a (by rw [← h.1]; exact b)).symm⟩
theorem MEq.trans {V W X : Vw} (h : MEq V W) (q : MEq W X) : MEq V X := ⟨q.1.trans h.1, fun k a b => (h.2 k a b).trans (q.2 k a (by rw [h.1]; exact b))⟩
theorem FEq.symm {V W : Vw} (h : FEq V W) : FEq W V := ⟨h.1.symm, fun z => by have h9 := h.2 (by rw [← h.1]; exact z); exact ⟨h9.1.symm, h9.2.symm⟩⟩
theorem FEq.trans {V W X : Vw} (h : FEq V W) (q : FEq W X) : FEq V X := ⟨q.1.trans h.1, fun z => by have h9 := h.2 z; have h8 := q.2 (by rw [h.1]; exact z); exact ⟨h8.1.trans h9.1, h8.2.trans h9.2⟩⟩
theorem VEq.symm {V W : Vw} (h : VEq V W) : VEq W V := ⟨h.1.symm, h.2.1.symm, h.2.2.1.symm, h.2.2.2.1.symm, h.2.2.2.2.1.symm, h.2.2.2.2.2.symm⟩
theorem VEq.trans {V W X : Vw} (h : VEq V W) (q : VEq W X) : VEq V X := ⟨q.1.trans h.1, h.2.1.trans q.2.1, h.2.2.1.trans q.2.2.1, h.2.2.2.1.trans q.2.2.2.1, h.2.2.2.2.1.trans q.2.2.2.2.1, h.2.2.2.2.2.trans q.2.2.2.2.2⟩
theorem VEq.sets {V W : Vw} (h : VEq V W) (s : Int) : VEq (V.set s) (W.set s) := ⟨rfl, h.2.1, h.2.2.1, h.2.2.2.1, h.2.2.2.2.1, h.2.2.2.2.2⟩
def VOk (V : Vw) : Prop := TOk V.T.F V.T.N V.T.c ∧ (0 ≤ V.hn ∧ V.hn ≤ 8) ∧ (0 ≤ V.kn ∧ V.kn ≤ 3) ∧ (0 ≤ V.tn ∧ V.tn ≤ 900)
/-- a question: the answer r, the STATUS s, nothing else -/
def TrQ (Q : Int → Int → Prop) (V : Vw) (r : Int) (V' : Vw) : Prop := ∃ s, Q r s ∧ VEq (V.set s) V'
theorem TrQ.one {Q Q2 : Int → Int → Prop} {V V2 V' V2' : Vw} {r r2 : Int} (e : VEq V V2) (h : ∀ r s r2 s2, Q r s → Q2 r2 s2 → r = r2 ∧ s = s2) (a : TrQ Q V r V') (b : TrQ Q2 V2 r2 V2') : r = r2 ∧ VEq V' V2' := by
  obtain ⟨s, a1, a2⟩ := a
  obtain ⟨s2, b1, b2⟩ := b
  obtain ⟨h1, rfl⟩ := h _ _ _ _ a1 b1
  exact ⟨h1, (a2.symm.trans (e.sets s)).trans b2⟩
/-- what was there is kept to be undone -/
def VPush (V V' : Vw) : Prop := ∃ d, d = (if V.hn = 8 then 1 else 0) ∧ V'.hn = V.hn + 1 - d ∧ (∀ k, 0 ≤ k → k < V'.hn - 1 → KEq (V.H (k + d)) (V'.H k) ∧ (V'.H k).w = (V.H (k + d)).w) ∧ KEq V.T (V'.H (V'.hn - 1)) ∧ NewsF V.T.F V.T.N V.T.c V'.T.F V'.T.N V'.T.c (V'.H (V'.hn - 1)).w
theorem VPush.one {V V2 V' V2' : Vw} (hc : 0 ≤ V.T.c) (hc' : 0 ≤ V'.T.c) (e : KEq V.T V2.T) (eh : HEq_ V V2) (hh : 0 ≤ V.hn ∧ V.hn ≤ 8) (e' : KEq V'.T V2'.T) (a : VPush V V') (b : VPush V2 V2') : HEq_ V' V2' := by
  obtain ⟨d, a1, a2, a3, a4, a5⟩ := a
  obtain ⟨d2, b1, b2, b3, b4, b5⟩ := b
  rw [eh.1] at b1 b2
  have hd : d2 = d := by rw [a1, b1]
  subst hd
  have hd : (0 ≤ d2 ∧ d2 ≤ 1) ∧ (V.hn = 8 → d2 = 1) := by
    by_cases z : V.hn = 8
    · rw [if_pos z] at a1; omega
    · rw [if_neg z] at a1; omega
  have hn : V2'.hn = V'.hn := by omega
  rw [hn] at b3 b4 b5
  refine ⟨hn, fun k k0 k1 => ?_⟩
  by_cases z : k < V'.hn - 1
  · have g1 := a3 k k0 z
    have g2 := b3 k k0 z
    have g3 := eh.2 (k + d2) (by omega) (by omega)
    exact ⟨(g1.1.symm.trans g3.1).trans g2.1, by rw [g2.2, g1.2, g3.2]⟩
  · have hk : k = V'.hn - 1 := by omega
    subst hk
    exact ⟨(a4.symm.trans e).trans b4, (NewsF.one hc hc' e e' a5 b5).symm⟩
/-- an ACT: what it makes of the texts tells P -/
def TrA (w : Int) (P : Int → Vw → Prop) (V : Vw) (r : Int) (V' : Vw) : Prop := (w ≠ 0 ∧ r = -1 ∧ VEq (V.set w) V') ∨ (w = 0 ∧ P r V' ∧ V'.st = 0 ∧ TpEq V V' ∧ MEq V V' ∧ FEq V V' ∧ VPush V V')
theorem TrA.one {w w2 : Int} {P P2 : Int → Vw → Prop} {V V2 V' V2' : Vw} {r r2 : Int} (ho : VOk V) (e : VEq V V2) (hw : w2 = w) (hr : w = 0 → P r V' → P2 r2 V2' → r = r2 ∧ 0 ≤ V'.T.c ∧ KEq V'.T V2'.T) (a : TrA w P V r V') (b : TrA w2 P2 V2 r2 V2') : r = r2 ∧ VEq V' V2' := by
  subst hw
  rcases a with ⟨a1, a2, a3⟩ | ⟨a1, a8, a3, a4, a5, a6, a7⟩ <;> rcases b with ⟨b1, b2, b3⟩ | ⟨b1, b8, b3, b4, b5, b6, b7⟩
  · exact ⟨by omega, (a3.symm.trans (e.sets _)).trans b3⟩
  · exact absurd b1 a1
  · exact absurd a1 b1
  · obtain ⟨h1, h2, h3⟩ := hr a1 a8 b8
    exact ⟨h1, by omega, (a4.symm.trans e.2.1).trans b4, h3, VPush.one ho.1.1.1 h2 e.2.2.1 e.2.2.2.1 ho.2.1 h3 a7 b7, (a5.symm.trans e.2.2.2.2.1).trans b5, (a6.symm.trans e.2.2.2.2.2).trans b6⟩
/-- undone: from the latest one of those that are kept -/
def TrU (V : Vw) (r : Int) (V' : Vw) : Prop := (V.hn = 0 ∧ r = -1 ∧ VEq (V.set 5) V') ∨ (1 ≤ V.hn ∧ r = V.hn - 1 ∧ V'.st = 0 ∧ TpEq V V' ∧ MEq V V' ∧ FEq V V' ∧ KEq (V.H (V.hn - 1)) V'.T ∧ V'.hn = V.hn - 1 ∧ ∀ k, 0 ≤ k → k < V.hn - 1 → KEq (V.H k) (V'.H k) ∧ (V'.H k).w = (V.H k).w)
theorem TrU.one {V V2 V' V2' : Vw} {r r2 : Int} (e : VEq V V2) (a : TrU V r V') (b : TrU V2 r2 V2') : r = r2 ∧ VEq V' V2' := by
  have eh := e.2.2.2.1
  rcases a with ⟨a1, a2, a3⟩ | ⟨a1, a2, a3, a4, a5, a6, a7, a8, a9⟩ <;> rcases b with ⟨b1, b2, b3⟩ | ⟨b1, b2, b3, b4, b5, b6, b7, b8, b9⟩
  · exact ⟨by omega, (a3.symm.trans (e.sets 5)).trans b3⟩
  · have := eh.1; omega
  · have := eh.1; omega
  · have h1 := eh.1
    rw [h1] at b2 b7 b8 b9
    refine ⟨by omega, by omega, (a4.symm.trans e.2.1).trans b4, (a7.symm.trans (eh.2 _ (by omega) (by omega)).1).trans b7, ⟨by omega, fun k k0 k1 => ?_⟩, (a5.symm.trans e.2.2.2.2.1).trans b5, (a6.symm.trans e.2.2.2.2.2).trans b6⟩
    have g1 := a9 k k0 (by omega)
    have g2 := b9 k k0 (by omega)
    have g3 := eh.2 k k0 (by omega)
    exact ⟨(g1.1.symm.trans g3.1).trans g2.1, by rw [g2.2, g1.2, g3.2]⟩
/-- back to the latest mark -/
def TrB (V : Vw) (r : Int) (V' : Vw) : Prop := (V.kn = 0 ∧ r = -1 ∧ VEq (V.set 5) V') ∨ (1 ≤ V.kn ∧ r = V.kn - 1 ∧ V'.st = 0 ∧ TpEq V V' ∧ HEq_ V V' ∧ FEq V V' ∧ KEq (V.K (V.kn - 1)) V'.T ∧ V'.kn = V.kn - 1 ∧ ∀ k, 0 ≤ k → k < V.kn - 1 → KEq (V.K k) (V'.K k))
theorem TrB.one {V V2 V' V2' : Vw} {r r2 : Int} (e : VEq V V2) (a : TrB V r V') (b : TrB V2 r2 V2') : r = r2 ∧ VEq V' V2' := by
  have eh := e.2.2.2.2.1
  rcases a with ⟨a1, a2, a3⟩ | ⟨a1, a2, a3, a4, a5, a6, a7, a8, a9⟩ <;> rcases b with ⟨b1, b2, b3⟩ | ⟨b1, b2, b3, b4, b5, b6, b7, b8, b9⟩
  · exact ⟨by omega, (a3.symm.trans (e.sets 5)).trans b3⟩
  · have := eh.1; omega
  · have := eh.1; omega
  · have h1 := eh.1
    rw [h1] at b2 b7 b8 b9
    refine ⟨by omega, by omega, (a4.symm.trans e.2.1).trans b4, (a7.symm.trans (eh.2 _ (by omega) (by omega))).trans b7, (a5.symm.trans e.2.2.2.1).trans b5, ⟨by omega, fun k k0 k1 => ?_⟩, (a6.symm.trans e.2.2.2.2.2).trans b6⟩
    exact ((a9 k k0 (by omega)).symm.trans (eh.2 k k0 (by omega))).trans (b9 k k0 (by omega))
/-- a mark -/
def TrM (V : Vw) (r : Int) (V' : Vw) : Prop := (V.kn = 3 ∧ r = -1 ∧ VEq (V.set 3) V') ∨ (V.kn < 3 ∧ r = V.kn + 1 ∧ V'.st = 0 ∧ TpEq V V' ∧ HEq_ V V' ∧ FEq V V' ∧ KEq V.T V'.T ∧ V'.kn = V.kn + 1 ∧ (∀ k, 0 ≤ k → k < V.kn → KEq (V.K k) (V'.K k)) ∧ KEq V.T (V'.K V.kn))
theorem TrM.one {V V2 V' V2' : Vw} {r r2 : Int} (e : VEq V V2) (a : TrM V r V') (b : TrM V2 r2 V2') : r = r2 ∧ VEq V' V2' := by
  have eh := e.2.2.2.2.1
  rcases a with ⟨a1, a2, a3⟩ | ⟨a1, a2, a3, a4, a5, a6, a7, a8, a9, a0⟩ <;> rcases b with ⟨b1, b2, b3⟩ | ⟨b1, b2, b3, b4, b5, b6, b7, b8, b9, b0⟩
  · exact ⟨by omega, (a3.symm.trans (e.sets 3)).trans b3⟩
  · have := eh.1; omega
  · have := eh.1; omega
  · have h1 := eh.1
    rw [h1] at b2 b8 b9 b0
    refine ⟨by omega, by omega, (a4.symm.trans e.2.1).trans b4, (a7.symm.trans e.2.2.1).trans b7, (a5.symm.trans e.2.2.2.1).trans b5, ⟨by omega, fun k k0 k1 => ?_⟩, (a6.symm.trans e.2.2.2.2.2).trans b6⟩
    by_cases z : k < V.kn
    · exact ((a9 k k0 z).symm.trans (eh.2 k k0 z)).trans (b9 k k0 z)
    · have hk : k = V.kn := by omega
      subst hk
      exact (a0.symm.trans e.2.2.1).trans b0
theorem FourIs.one {f f2 g g2 : Int → Int} {n v : Int} (h : ∀ k, 0 ≤ k → k < n → f2 k = f k) (a : FourIs f n v g 4) (b : FourIs f2 n v g2 4) : ∀ k, 0 ≤ k → k < n + 4 → g2 k = g k := fun k k0 k1 => by
  by_cases z : k < n
  · rw [b.1 k k0 z, a.1 k k0 z, h k k0 z]
  · have h1 := a.2.1 (k - n) (by omega) (by omega)
    have h2 := b.2.1 (k - n) (by omega) (by omega)
    rw [show n + (k - n) = k by omega] at h1 h2
    rw [h1, h2]
def Feed (f : Int → Int) (n v1 v2 v3 v4 v5 : Int) (g : Int → Int) : Prop := ∃ f1 f2 f3 f4, FourIs f n v1 f1 4 ∧ FourIs f1 (n + 4) v2 f2 4 ∧ FourIs f2 (n + 8) v3 f3 4 ∧ FourIs f3 (n + 12) v4 f4 4 ∧ FourIs f4 (n + 16) v5 g 4
def TrF (v1 v2 v3 v4 v5 : Int) (V : Vw) (r : Int) (V' : Vw) : Prop := (880 < V.tn ∧ r = -1 ∧ VEq V V') ∨ (V.tn ≤ 880 ∧ r = V.tn + 20 ∧ V'.st = V.st ∧ V'.tn = V.tn + 20 ∧ Feed V.tf V.tn v1 v2 v3 v4 v5 V'.tf ∧ KEq V.T V'.T ∧ HEq_ V V' ∧ MEq V V' ∧ FEq V V')
theorem TrF.one {v1 v2 v3 v4 v5 : Int} {V V2 V' V2' : Vw} {r r2 : Int} (e : VEq V V2) (a : TrF v1 v2 v3 v4 v5 V r V') (b : TrF v1 v2 v3 v4 v5 V2 r2 V2') : r = r2 ∧ VEq V' V2' := by
  have et := e.2.1.1
  rcases a with ⟨a1, a2, a3⟩ | ⟨a1, a2, a3, a4, a5, a6, a7, a8, a9⟩ <;> rcases b with ⟨b1, b2, b3⟩ | ⟨b1, b2, b3, b4, b5, b6, b7, b8, b9⟩
  · exact ⟨by omega, (a3.symm.trans e).trans b3⟩
  · omega
  · omega
  · have e1 := e.1
    rw [et] at b2 b4 b5
    refine ⟨by omega, by omega, ⟨by omega, ?_⟩, (a6.symm.trans e.2.2.1).trans b6, (a7.symm.trans e.2.2.2.1).trans b7, (a8.symm.trans e.2.2.2.2.1).trans b8, (a9.symm.trans e.2.2.2.2.2).trans b9⟩
    obtain ⟨f1, f2, f3, f4, g1, g2, g3, g4, g5⟩ := a5
    obtain ⟨h1, h2, h3, h4, k1, k2, k3, k4, k5⟩ := b5
    have q1 := FourIs.one e.2.1.2 g1 k1
    have q2 := FourIs.one q1 g2 k2
    rw [show V.tn + 4 + 4 = V.tn + 8 by omega] at q2
    have q3 := FourIs.one q2 g3 k3
    rw [show V.tn + 8 + 4 = V.tn + 12 by omega] at q3
    have q4 := FourIs.one q3 g4 k4
    rw [show V.tn + 12 + 4 = V.tn + 16 by omega] at q4
    have q5 := FourIs.one q4 g5 k5
    rw [show V.tn + 16 + 4 = V.tn + 20 by omega] at q5
    intro k k0 k1
    exact q5 k k0 (by omega)
def TrL (v : Int) (V : Vw) (r : Int) (V' : Vw) : Prop := (¬ (0 ≤ v ∧ v ≤ V.tn) ∧ r = -1 ∧ VEq (V.set 1) V') ∨
  ((0 ≤ v ∧ v ≤ V.tn) ∧ r = -1 ∧ V'.st = 9 ∧ V'.tn = 0 ∧ KEq V.T V'.T ∧ HEq_ V V' ∧ MEq V V' ∧ V'.us = 1 ∧ ∃ e : Ft, bookE (bkOf V.tf v) 901 [] 0 = .error e ∧ V'.fk = e.1 ∧ V'.fp = if e.1 = 0 then -1 else e.2) ∨
  ((0 ≤ v ∧ v ≤ V.tn) ∧ r = V'.T.c ∧ V'.st = 0 ∧ V'.tn = 0 ∧ MEq V V' ∧ VPush V V' ∧ TOk V'.T.F V'.T.N V'.T.c ∧ V'.us = 1 ∧ V'.fk = 0 ∧ V'.fp = -1 ∧ bookE (bkOf V.tf v) 901 [] 0 = .ok (tsF V'.T.F V'.T.N V'.T.c))
theorem TrL.one {v : Int} {V V2 V' V2' : Vw} {r r2 : Int} (ho : VOk V) (e : VEq V V2) (a : TrL v V r V') (b : TrL v V2 r2 V2') : r = r2 ∧ VEq V' V2' := by
  have et := e.2.1.1
  have hbe : 0 ≤ v ∧ v ≤ V.tn → bookE (bkOf V2.tf v) 901 [] 0 = bookE (bkOf V.tf v) 901 [] 0 := fun h => bookE_E (bkOf_E (fun q x y => e.2.1.2 q x (by omega)) h.1) _ _ _
  rcases a with ⟨a1, a2, a3⟩ | ⟨a1, a2, a3, a4, a5, a6, a7, a8, x, a9, a10, a11⟩ | ⟨a1, a2, a3, a4, a5, a6, a7, a8, a9, a10, a11⟩ <;> rcases b with ⟨b1, b2, b3⟩ | ⟨b1, b2, b3, b4, b5, b6, b7, b8, y, b9, b10, b11⟩ | ⟨b1, b2, b3, b4, b5, b6, b7, b8, b9, b10, b11⟩
  · exact ⟨by omega, (a3.symm.trans (e.sets 1)).trans b3⟩
  · omega
  · omega
  · omega
  · rw [hbe a1, a9] at b9
    injection b9 with b9
    subst b9
    exact ⟨by omega, by omega, ⟨by omega, fun k k0 k1 => by omega⟩, (a5.symm.trans e.2.2.1).trans b5, (a6.symm.trans e.2.2.2.1).trans b6, (a7.symm.trans e.2.2.2.2.1).trans b7, by omega, fun _ => ⟨by rw [b10, a10], by rw [b11, a11]⟩⟩
  · rw [hbe a1, a9] at b11
    cases b11
  · omega
  · rw [hbe a1, a11] at b9
    cases b9
  · rw [hbe a1, a11] at b11
    injection b11 with b11
    have hk : KEq V'.T V2'.T := tsF_teq a7 b7 b11.symm
    exact ⟨by rw [a2, b2]; exact hk.1.symm, by omega, ⟨by omega, fun k k0 k1 => by omega⟩, hk, VPush.one ho.1.1.1 a7.1.1 e.2.2.1 e.2.2.2.1 ho.2.1 hk a6 b6, (a5.symm.trans e.2.2.2.2.1).trans b5, by omega, fun _ => ⟨by omega, by omega⟩⟩
/-- what fault() tells -/
def TrE (w : Int) (V : Vw) (r : Int) (V' : Vw) : Prop := VEq V V' ∧ ((V.us = 0 ∧ r = -1) ∨ (V.us ≠ 0 ∧ ((w = 0 ∧ r = V.fk) ∨ (w = 1 ∧ r = V.fp) ∨ (w = 2 ∧ r = (V.fk + 1) / 2) ∨ ((w < 0 ∨ 2 < w) ∧ r = -1))))
theorem TrE.one {w : Int} {V V2 V' V2' : Vw} {r r2 : Int} (e : VEq V V2) (a : TrE w V r V') (b : TrE w V2 r2 V2') : r = r2 ∧ VEq V' V2' := by
  obtain ⟨a1, a2⟩ := a
  obtain ⟨b1, b2⟩ := b
  refine ⟨?_, (a1.symm.trans e).trans b1⟩
  have ef := e.2.2.2.2.2
  rw [ef.1] at b2
  rcases a2 with a2 | a2 <;> rcases b2 with b2 | b2
  · omega
  · omega
  · omega
  · obtain ⟨g1, g2⟩ := ef.2 a2.1
    rw [g1, g2] at b2
    omega
def TrS (V : Vw) (r : Int) (V' : Vw) : Prop := r = V.st ∧ VEq V V'
theorem TrS.one {V V2 V' V2' : Vw} {r r2 : Int} (e : VEq V V2) (a : TrS V r V') (b : TrS V2 r2 V2') : r = r2 ∧ VEq V' V2' := ⟨by rw [a.1, b.1, e.1], (a.2.symm.trans e).trans b.2⟩
/-- would(): how many rules the text would bring -/
def WouldF (F : Int → Int → Int) (N : Int → Int) (c : Int) (f : Int → Int) (n r : Int) : Prop := ∃ (T : Int → Rl) (T2 : Rl) (q : Int), (∀ j, 0 ≤ j → j < c → ∃ q, BIs (lts (F j) 0 (N j)) (T j) q) ∧ BIs (lts f 0 n) T2 q ∧ r = ((vis T2 0 (visT T c.toNat [])).length : Int) - (visT T c.toNat []).length
theorem WouldF.one {F F2 : Int → Int → Int} {N N2 : Int → Int} {c c2 : Int} (hc : 0 ≤ c) (e : TEq F N c F2 N2 c2) {f f2 : Int → Int} {n n2 r r2 : Int} (hn : n2 = n) (hf : ∀ k, 0 ≤ k → k < n → f k = f2 k) (a : WouldF F N c f n r) (b : WouldF F2 N2 c2 f2 n2 r2) : r = r2 := by
  subst hn
  obtain ⟨T, U, q, a1, a2, a3⟩ := a
  obtain ⟨T2, U2, q2, b1, b2, b3⟩ := b
  rw [a3, b3, visT_teq hc e a1 b1, (a2.tx hf b2).1]
theorem NewsF.would {F : Int → Int → Int} {N : Int → Int} {c t n r : Int} {f : Int → Int} {G : Int → Int → Int} {M : Int → Int} {d : Int} (hc : 0 ≤ c) (ht : 0 ≤ t ∧ t < c) (s : TextSet F N c t f n G M d) (h : NewsF F N c G M d r) : WouldF F N c f n r := by
  obtain ⟨T, T2, h1, h2, h3⟩ := h
  obtain ⟨s1, s2, s3, s4⟩ := s
  have hd : d = c := by omega
  subst hd
  obtain ⟨q, g1⟩ := h2 t ht.1 ht.2
  rw [s2, lts_cong (h := f) (q := 0) (fun k x y => by rw [Int.zero_add]; exact s3 k x y)] at g1
  refine ⟨T, T2 t, q, h1, g1, ?_⟩
  have e := visT_one (T := T) (T2 := T2) (V := visT T d.toNat []) (t := t.toNat) d.toNat (fun j x y => ?_)
  · rw [if_pos (by omega)] at e
    rw [h3, e, Int.toNat_of_nonneg ht.1]
  · have hj : (j : Int) < d := by omega
    refine ⟨?_, visT_in T [] d.toNat j (by omega)⟩
    obtain ⟨q1, k1⟩ := h1 j (by omega) hj
    obtain ⟨q2, k2⟩ := h2 j (by omega) hj
    obtain ⟨p1, p2⟩ := s4 j (by omega) hj (by omega)
    rw [p1] at k2
    exact (k2.tx p2 k1).1
