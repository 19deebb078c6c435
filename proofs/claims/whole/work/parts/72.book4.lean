/-! ===== pure: how the class blames, and what its parts do ===== -/
def blm (f e : Ft) : Ft := if f.1 = 0 then e else f
theorem blm_0 {f e : Ft} (h : f.1 = 0) : blm f e = e := by unfold blm; rw [if_pos h]
theorem blm_n {f e : Ft} (h : f.1 ≠ 0) : blm f e = f := by unfold blm; rw [if_neg h]
theorem blm_ne {f e : Ft} (h : e.1 ≠ 0) : (blm f e).1 ≠ 0 := by
  unfold blm
  split
  · exact h
  · assumption
def TkG (B : Int → Int) (n : Int) (kk kp kn : Int → Int) (kc : Int) : Prop := (1 ≤ kc ∧ kc ≤ 901) ∧ TkArr B n kk kp kn kc ∧ tkK B n (kc - 1).toNat = 0 ∧ (0 ≤ n ∧ n ≤ 900) ∧ BR B
theorem TkG.at {B : Int → Int} {n : Int} {kk kp kn : Int → Int} {kc : Int} (h : TkG B n kk kp kn kc) {i : Int} (hi : 0 ≤ i ∧ i < kc) : (kk i = (bkOf B n).K i.toNat ∧ kp i = (bkOf B n).P i.toNat ∧ kn i = (bkOf B n).V i.toNat) ∧ (0 ≤ kk i ∧ kk i ≤ 126) ∧ (0 ≤ kp i ∧ kp i ≤ 900) ∧ (0 ≤ kn i ∧ kn i ≤ 9999) := by
  have h1 := h.2.1 i.toNat (by omega)
  rw [Int.toNat_of_nonneg hi.1] at h1
  have h2 : 0 ≤ tkK B n i.toNat ∧ tkK B n i.toNat ≤ 126 := tK_rg _ _ _
  have h3 := tkB_rg B h.2.2.2.1.1 i.toNat
  have h4 := tkV_rg B h.2.2.2.1 i.toNat
  have h5 := h.2.2.2.1
  rw [h1.1, h1.2.1, h1.2.2]
  exact ⟨⟨rfl, rfl, rfl⟩, h2, by omega, h4⟩
theorem TkG.nx {B : Int → Int} {n : Int} {kk kp kn : Int → Int} {kc : Int} (h : TkG B n kk kp kn kc) {i : Int} (hi : 0 ≤ i ∧ i < kc) (e : kk i ≠ 0) : i + 1 < kc ∧ i < 900 := by
  have h1 := h.1
  have : i ≠ kc - 1 := fun z => e (by rw [(h.at hi).1.1, z]; exact h.2.2.1)
  omega
def ExpR (b : Bk) (i w : Int) (f : Ft) (i9 : Int) (f9 : Ft) : Prop := (b.K i.toNat = w ∧ i9 = i + 1 ∧ f9 = f) ∨ (b.K i.toNat ≠ w ∧ i9 = i ∧ f9 = blm f (ftAt b i.toNat 2))
def NumR (b : Bk) (i lo hi q : Int) (f : Ft) (r i9 : Int) (f9 : Ft) : Prop := (numE b i.toNat lo hi q = .ok r ∧ i9 = i + 1 ∧ f9 = f) ∨ (∃ e, numE b i.toNat lo hi q = .error e ∧ (i9 = i ∨ i9 = i + 1) ∧ f9 = blm f e)
def PasR (b : Bk) (i ps i9 ps9 : Int) : Prop := (i9 = i + 1 ∧ ps9 = b.P i.toNat) ∨ (i9 = i ∧ ps9 = ps)
theorem num_y {b : Bk} {i lo hi q v : Int} (h : b.K i.toNat = 5) (hv : v = b.V i.toNat) (hr : lo ≤ v ∧ v ≤ hi) : numE b i.toNat lo hi q = .ok v := by
  unfold numE
  rw [if_pos h, ← hv, if_pos hr]
theorem num_r {b : Bk} {i lo hi q v : Int} (h : b.K i.toNat = 5) (hv : v = b.V i.toNat) (hr : ¬ (lo ≤ v ∧ v ≤ hi)) : numE b i.toNat lo hi q = .error (q, b.P i.toNat) := by
  unfold numE
  rw [if_pos h, ← hv, if_neg hr]
theorem num_n {b : Bk} {i lo hi q : Int} (h : b.K i.toNat ≠ 5) : numE b i.toNat lo hi q = .error (ftAt b i.toNat 2) := by
  unfold numE
  rw [if_neg h]
theorem cut_sim {b : Bk} {u : List Int} {i r1 i1 i2 r3 i3 i4 : Int} {f f1 f2 f3 f4 : Ft} (hi : 0 ≤ i) (hf : f.1 = 0) (h1 : NumR b (i + 1) 0 ((u.length : Int) - 1) 4 f r1 i1 f1) (h2 : ExpR b i1 44 f1 i2 f2) (h3 : NumR b i2 1 ((u.length : Int) - r1) 4 f2 r3 i3 f3) (h4 : ExpR b i3 93 f3 i4 f4) :
    (f4.1 = 0 → cutE b u i.toNat = .ok ((u.drop r1.toNat).take r3.toNat, i4.toNat) ∧ i4 = i + 5 ∧ (0 ≤ r1 ∧ r1 ≤ (u.length : Int) - 1) ∧ (1 ≤ r3 ∧ r3 ≤ (u.length : Int) - r1)) ∧ (f4.1 ≠ 0 → cutE b u i.toNat = .error f4) := by
  unfold cutE
  rcases h1 with ⟨e1, j1, g1⟩ | ⟨e, e1, j1, g1⟩
  · rw [show (i + 1).toNat = i.toNat + 1 by omega] at e1
    rw [e1]
    simp only
    subst j1
    subst g1
    rcases h2 with ⟨e2, j2, g2⟩ | ⟨e2, j2, g2⟩
    · rw [show (i + 1 + 1).toNat = i.toNat + 2 by omega] at e2
      rw [if_pos e2]
      subst j2
      subst g2
      rcases h3 with ⟨e3, j3, g3⟩ | ⟨e, e3, j3, g3⟩
      · rw [show (i + 1 + 1 + 1).toNat = i.toNat + 3 by omega] at e3
        rw [e3]
        simp only
        subst j3
        subst g3
        rcases h4 with ⟨e4, j4, g4⟩ | ⟨e4, j4, g4⟩
        · rw [show (i + 1 + 1 + 1 + 1).toNat = i.toNat + 4 by omega] at e4
          rw [if_pos e4]
          subst j4
          subst g4
          have n1 := numE_ok e1
          have n3 := numE_ok e3
          refine ⟨fun _ => ⟨by rw [show (i + 1 + 1 + 1 + 1 + 1).toNat = i.toNat + 5 by omega], by omega, by omega, by omega⟩, fun z => absurd hf z⟩
        · rw [show (i + 1 + 1 + 1 + 1).toNat = i.toNat + 4 by omega] at e4 g4
          rw [if_neg e4, g4, blm_0 hf]
          exact ⟨fun z => absurd z (ftAt_ne _ _), fun _ => rfl⟩
      · rw [show (i + 1 + 1 + 1).toNat = i.toNat + 3 by omega] at e3
        rw [e3]
        simp only
        have g4 : f4 = e := by
          rw [g3, blm_0 hf] at h4
          have hn := numE_er (by decide) e3
          rcases h4 with ⟨_, _, g4⟩ | ⟨_, _, g4⟩
          · exact g4
          · rw [g4, blm_n hn]
        rw [g4]
        exact ⟨fun z => absurd z (numE_er (by decide) e3), fun _ => rfl⟩
    · rw [show (i + 1 + 1).toNat = i.toNat + 2 by omega] at e2 g2
      rw [if_neg e2]
      rw [blm_0 hf] at g2
      have hn : f2.1 ≠ 0 := by rw [g2]; exact ftAt_ne _ _
      have g3 : f3 = f2 := by
        rcases h3 with ⟨_, _, g3⟩ | ⟨_, _, _, g3⟩
        · exact g3
        · rw [g3, blm_n hn]
      have g4 : f4 = f2 := by
        rw [g3] at h4
        rcases h4 with ⟨_, _, g4⟩ | ⟨_, _, g4⟩
        · exact g4
        · rw [g4, blm_n hn]
      rw [g4]
      exact ⟨fun z => absurd z hn, fun _ => by rw [g2]⟩
  · rw [show (i + 1).toNat = i.toNat + 1 by omega] at e1
    rw [e1]
    simp only
    rw [blm_0 hf] at g1
    have hn : f1.1 ≠ 0 := by rw [g1]; exact numE_er (by decide) e1
    have g2 : f2 = f1 := by
      rcases h2 with ⟨_, _, g2⟩ | ⟨_, _, g2⟩
      · exact g2
      · rw [g2, blm_n hn]
    have g3 : f3 = f1 := by
      rw [g2] at h3
      rcases h3 with ⟨_, _, g3⟩ | ⟨_, _, _, g3⟩
      · exact g3
      · rw [g3, blm_n hn]
    have g4 : f4 = f1 := by
      rw [g3] at h4
      rcases h4 with ⟨_, _, g4⟩ | ⟨_, _, g4⟩
      · exact g4
      · rw [g4, blm_n hn]
    rw [g4]
    exact ⟨fun z => absurd z hn, fun _ => by rw [g1]⟩
def tsOf (L ln : Int → Int) (cnt : Int) : List (List Int) := (List.range cnt.toNat).map (fun t : Nat => rowL (tx L (t : Int)) (ln (t : Int)))
theorem tsOf_len (L ln : Int → Int) {cnt : Int} (h : 0 ≤ cnt) : ((tsOf L ln cnt).length : Int) = cnt := by
  unfold tsOf
  rw [List.length_map, List.length_range]
  omega
theorem tsOf_at (L ln : Int → Int) {cnt t : Int} (h : 0 ≤ t ∧ t < cnt) : (tsOf L ln cnt).getD t.toNat [] = rowL (tx L t) (ln t) := by
  unfold tsOf
  rw [List.getD_eq_getElem?_getD, List.getElem?_map, List.getElem?_range (by omega)]
  show rowL (tx L ((t.toNat : Nat) : Int)) (ln ((t.toNat : Nat) : Int)) = _
  rw [Int.toNat_of_nonneg h.1]
theorem rowL_Lt {f : Int → Int} {n : Int} (h : ∀ k, 0 ≤ k → k < n → 0 ≤ f k ∧ f k ≤ 25) : LtOk (rowL f n) := fun v hv => by
  unfold rowL at hv
  obtain ⟨j, hj, rfl⟩ := List.mem_map.mp hv
  rw [List.mem_range] at hj
  exact h j (by omega) (by omega)
theorem tsOf_ok {L ln : Int → Int} {cnt : Int} (h : ShOk L ln cnt) : TsOk (tsOf L ln cnt) := fun t ht => by
  unfold tsOf at ht
  obtain ⟨j, hj, rfl⟩ := List.mem_map.mp ht
  rw [List.mem_range] at hj
  obtain ⟨h1, h2⟩ := h.2.2 j (by omega) (by omega)
  rw [rowL_lenI _ (by omega)]
  exact ⟨h1, rowL_Lt h2⟩
theorem bkG_of {B : Int → Int} {n : Int} {kk kp kn : Int → Int} {kc : Int} (h : TkG B n kk kp kn kc) {L ln : Int → Int} {cnt : Int} (hs : ShOk L ln cnt) : BkG (bkOf B n) (tsOf L ln cnt) (kc - 1).toNat := ⟨h.2.2.1, by have := h.1; omega, tsOf_ok hs, bkOf_Q⟩
/-- the step, as the class has done it -/
def StepR (b : Bk) (T : List (List Int)) (x y : PS) (f9 : Ft) : Prop := (stp b T x = .ok y ∧ f9.1 = 0) ∨ (stp b T x = .error f9 ∧ f9.1 ≠ 0)
/-- the room that the row needs -/
theorem PsOk.room {x : PS} (h : PsOk x) : 0 ≤ x.2.2.2.2.1 ∧ x.2.2.2.2.1 ≤ 4200 ∧ (x.2.1.length : Int) ≤ 4800 ∧ x.2.2.2.2.1 ≤ (x.2.1.length : Int) ∧ 0 ≤ x.2.2.2.1 := by
  obtain ⟨h6, hB, -, h0, h1, -⟩ := h
  have hle := hB.le
  by_cases z : stg x = 0
  · have := h0 z; omega
  · have := (h1 z).1; omega
