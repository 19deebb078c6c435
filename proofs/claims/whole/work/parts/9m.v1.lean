/-! ===== texts alike; one answer to each question ===== -/
def TEq (F : Int → Int → Int) (N : Int → Int) (c : Int) (F2 : Int → Int → Int) (N2 : Int → Int) (c2 : Int) : Prop := c2 = c ∧ ∀ t, 0 ≤ t → t < c → N2 t = N t ∧ ∀ k, 0 ≤ k → k < N t → F2 t k = F t k
section TEQ
variable {F F2 : Int → Int → Int} {N N2 : Int → Int} {c c2 : Int}
theorem TEq.refl (F : Int → Int → Int) (N : Int → Int) (c : Int) : TEq F N c F N c := ⟨rfl, fun _ _ _ => ⟨rfl, fun _ _ _ => rfl⟩⟩
theorem TEq.n (e : TEq F N c F2 N2 c2) {t : Int} (h : 0 ≤ t ∧ t < c) : N2 t = N t := (e.2 t h.1 h.2).1
theorem TEq.f (e : TEq F N c F2 N2 c2) {t : Int} (h : 0 ≤ t ∧ t < c) : ∀ k, 0 ≤ k → k < N t → F t k = F2 t k := fun k a b => ((e.2 t h.1 h.2).2 k a b).symm
theorem TEq.symm (e : TEq F N c F2 N2 c2) : TEq F2 N2 c2 F N c := by
  obtain ⟨h, e⟩ := e
  subst h
  exact ⟨rfl, fun t a b => ⟨(e t a b).1.symm, fun k k0 k1 => ((e t a b).2 k k0 (by rw [← (e t a b).1]; exact k1)).symm⟩⟩
theorem TEq.trans {F3 : Int → Int → Int} {N3 : Int → Int} {c3 : Int} (e : TEq F N c F2 N2 c2) (d : TEq F2 N2 c2 F3 N3 c3) : TEq F N c F3 N3 c3 := by
  obtain ⟨h, e⟩ := e
  obtain ⟨h2, d⟩ := d
  subst h
  subst h2
  refine ⟨rfl, fun t a b => ⟨(d t a b).1.trans (e t a b).1, fun k k0 k1 => ?_⟩⟩
  rw [(d t a b).2 k k0 (by rw [(e t a b).1]; exact k1), (e t a b).2 k k0 k1]
theorem TOk.teq (h : TOk F N c) (e : TEq F N c F2 N2 c2) : TOk F2 N2 c2 := h.cong e.1 (fun t a b => (e.2 t a b).1) (fun t a b => (e.2 t a b).2)
theorem wpF_teq (e : TEq F N c F2 N2 c2) (t p x : Int) : wpF N2 c2 t p x = wpF N c t p x := by
  unfold wpF
  rw [e.1]
  by_cases h : 0 ≤ t ∧ t < c
  · rw [e.n h]
  · rw [if_pos h, if_pos h]
theorem QLetter.one (e : TEq F N c F2 N2 c2) {t p r s r2 s2 : Int} (a : QLetter F N c t p r s) (b : QLetter F2 N2 c2 t p r2 s2) : r = r2 ∧ s = s2 := by
  obtain ⟨a1, a2⟩ := a
  obtain ⟨b1, b2⟩ := b
  rw [wpF_teq e] at b1
  have hs : s = s2 := by omega
  refine ⟨?_, hs⟩
  rcases a2 with a2 | a2 <;> rcases b2 with b2 | b2
  · have h := wpF_ok (show wpF N c t p 0 = 0 by omega)
    rw [a2.2, b2.2]
    exact e.f h.2.1 p h.1 (by omega)
  · omega
  · omega
  · omega
theorem QAlike.one (e : TEq F N c F2 N2 c2) {t p u q r s r2 s2 : Int} (a : QAlike F N c t p u q r s) (b : QAlike F2 N2 c2 t p u q r2 s2) : r = r2 ∧ s = s2 := by
  obtain ⟨a1, a2⟩ := a
  obtain ⟨b1, b2⟩ := b
  rw [wpF_teq e, wpF_teq e] at b1
  have hs : s = s2 := by omega
  refine ⟨?_, hs⟩
  rcases a2 with a2 | a2 <;> rcases b2 with b2 | b2
  · have hz := lwF_0 (wpF_rg N c t p 1).1 (wpF_rg N c u q 1).1 (show lwF (wpF N c t p 1) (wpF N c u q 1) = 0 by omega)
    have h1 := wpF_ok hz.1
    have h2 := wpF_ok hz.2
    have b3 := b2.2
    rw [e.n h1.2.1, e.n h2.2.1] at b3
    exact LcpIs.one (fun j x y => e.f h1.2.1 _ (by omega) (by omega)) (fun j x y => e.f h2.2.1 _ (by omega) (by omega)) a2.2 b3
  · omega
  · omega
  · omega
theorem QRank.one (e : TEq F N c F2 N2 c2) {t l p r s r2 s2 : Int} (a : QRank F N c t l p r s) (b : QRank F2 N2 c2 t l p r2 s2) : r = r2 ∧ s = s2 := by
  obtain ⟨a1, a2⟩ := a
  obtain ⟨b1, b2⟩ := b
  rw [wpF_teq e] at b1
  have hs : s = s2 := a1.trans b1.symm
  refine ⟨?_, hs⟩
  rcases a2 with a2 | a2 <;> rcases b2 with b2 | b2
  · by_cases z : 0 ≤ l ∧ l < 26
    · rw [if_pos z] at a1
      have h := wpF_ok (show wpF N c t p 1 = 0 by omega)
      rw [a2.2, b2.2]
      exact cntF_cong (fun j x y => e.f h.2.1 j x (by omega))
    · rw [if_neg z] at a1; omega
  · omega
  · omega
  · omega
theorem HasT_eq (e : TEq F N c F2 N2 c2) (t : Int) : HasT c2 t ↔ HasT c t := by unfold HasT; rw [e.1]
theorem QSelect.one (e : TEq F N c F2 N2 c2) {t l i r s r2 s2 : Int} (a : QSelect F N c t l i r s) (b : QSelect F2 N2 c2 t l i r2 s2) : r = r2 ∧ s = s2 := by
  unfold QSelect at b
  rw [HasT_eq e] at b
  rcases a with a | a | a <;> rcases b with b | b | b
  · omega
  · exact absurd b.1 a.1
  · exact absurd b.1 a.1
  · exact absurd a.1 b.1
  · omega
  · exact absurd b.2.1 a.2.1
  · exact absurd a.1 b.1
  · exact absurd a.2.1 b.2.1
  · have b3 := b.2.2.1
    rw [e.n a.2.1] at b3
    have hr := SelIs.one (e.f a.2.1) a.2.2.1 b3
    exact ⟨hr, by rw [a.2.2.2, b.2.2.2, hr]⟩
theorem QMirror.one (e : TEq F N c F2 N2 c2) {t p x r s r2 s2 : Int} (a : QMirror F N c t p x r s) (b : QMirror F2 N2 c2 t p x r2 s2) : r = r2 ∧ s = s2 := by
  obtain ⟨a1, a2⟩ := a
  obtain ⟨b1, b2⟩ := b
  rw [wpF_teq e] at b1
  have hs : s = s2 := by omega
  refine ⟨?_, hs⟩
  rcases a2 with a2 | a2 <;> rcases b2 with b2 | b2
  · have h := wpF_ok (show wpF N c t p 0 = 0 by omega)
    obtain ⟨-, f1, g1, g2⟩ := a2
    obtain ⟨-, f2, k1, k2⟩ := b2
    rw [e.n h.2.1] at k1
    have hf := MirIs.one (e.f h.2.1) (by omega) (by split <;> omega) g1 k1
    rw [g2, k2, hf]
  · omega
  · omega
  · omega
theorem QFind.one (e : TEq F N c F2 N2 c2) {t u fr r s r2 s2 : Int} (a : QFind F N c t u fr r s) (b : QFind F2 N2 c2 t u fr r2 s2) : r = r2 ∧ s = s2 := by
  unfold QFind at b
  rw [HasT_eq e, HasT_eq e] at b
  rcases a with a | a | a <;> rcases b with b | b | b
  · omega
  · omega
  · omega
  · omega
  · omega
  · exact absurd b.2.1 a.2.1
  · omega
  · exact absurd a.2.1 b.2.1
  · have b3 := b.2.2.1
    rw [e.n a.2.1.1, e.n a.2.1.2] at b3
    have hr := FindIs.one a.1 (e.f a.2.1.2) (e.f a.2.1.1) a.2.2.1 b3
    exact ⟨hr, by rw [a.2.2.2, b.2.2.2, hr]⟩
theorem fndCnt_cong {f f2 h h2 : Int → Int} {n M : Int} (hn : 0 ≤ n) (qf : ∀ j, 0 ≤ j → j < n → f j = f2 j) (qh : ∀ j, 0 ≤ j → j < M → h j = h2 j) : fndCnt f n h (M - n + 1) = fndCnt f2 n h2 (M - n + 1) := by
  unfold fndCnt
  refine sumF_cg (fun k a b => ?_)
  unfold mtI
  rw [lcpF_cong hn qf (fun j x y => qh (k + j) (by omega) (by omega))]
theorem QFinds.one (h : TOk F N c) (e : TEq F N c F2 N2 c2) {t u r s r2 s2 : Int} (a : QFinds F N c t u r s) (b : QFinds F2 N2 c2 t u r2 s2) : r = r2 ∧ s = s2 := by
  unfold QFinds at b
  rw [HasT_eq e, HasT_eq e] at b
  rcases a with a | a <;> rcases b with b | b
  · omega
  · exact absurd b.1 a.1
  · exact absurd a.1 b.1
  · have b3 := b.2.1
    rw [e.n a.1.1, e.n a.1.2] at b3
    have hl := (h.2 u a.1.2.1 a.1.2.2).1
    refine ⟨?_, by omega⟩
    rw [a.2.1, b3]
    exact fndCnt_cong (by omega) (e.f a.1.2) (e.f a.1.1)
theorem aheadF_teq (h : TOk F N c) (e : TEq F N c F2 N2 c2) {t : Int} (ht : 0 ≤ t ∧ t < c) : aheadF F2 N2 c2 t = aheadF F N c t := by
  unfold aheadF
  rw [e.1]
  refine sumF_cg (fun u a b => ?_)
  have hu := (h.2 u a b).1
  have hv := (h.2 t ht.1 ht.2).1
  rw [e.n ⟨a, b⟩, e.n ht, cmpT_cong (by omega) (by omega) (fun j x y => (e.f ⟨a, b⟩ j x y).symm) (fun j x y => (e.f ht j x y).symm)]
theorem QSorted.one (h : TOk F N c) (e : TEq F N c F2 N2 c2) {i r s r2 s2 : Int} (a : QSorted F N c i r s) (b : QSorted F2 N2 c2 i r2 s2) : r = r2 ∧ s = s2 := by
  have hc := e.1
  rcases a with a | a | a <;> rcases b with b | b | b
  · omega
  · omega
  · omega
  · omega
  · omega
  · exact absurd (by rw [← aheadF_teq h e (by omega)]; exact b.2.2.2.2.1) (a.2.2.2 r2 (by omega) (by omega))
  · omega
  · exact absurd (by rw [aheadF_teq h e (by omega)]; exact a.2.2.2.2.1) (b.2.2.2 r (by omega) (by omega))
  · refine ⟨?_, by omega⟩
    by_cases z : r < r2
    · exact absurd (by rw [aheadF_teq h e (by omega)]; exact a.2.2.2.2.1) (b.2.2.2.2.2 r (by omega) z)
    · by_cases y : r2 < r
      · exact absurd (by rw [← aheadF_teq h e (by omega)]; exact b.2.2.2.2.1) (a.2.2.2.2.2 r2 (by omega) y)
      · omega
theorem ValIs.one (e : TEq F N c F2 N2 c2) {t r s r2 s2 : Int} (a : ValIs F N c t r s) (b : ValIs F2 N2 c2 t r2 s2) : r = r2 ∧ s = s2 := by
  unfold ValIs at b
  rw [HasT_eq e] at b
  have hv : HasT c t → valF (F2 t) (N2 t) = valF (F t) (N t) := fun h => by
    unfold valF
    rw [e.n h]
    exact valN_cong _ (fun k x y => (e.f h k x (by omega)).symm)
  rcases a with a | a | a <;> rcases b with b | b | b
  · omega
  · exact absurd b.1 a.1
  · exact absurd b.1 a.1
  · exact absurd a.1 b.1
  · omega
  · have b3 := b.2.1
    rw [hv a.1, a.2.1] at b3
    cases b3
  · exact absurd a.1 b.1
  · have b3 := b.2.1
    rw [hv a.1, a.2.1] at b3
    cases b3
  · have b3 := b.2.1
    rw [hv a.1, a.2.1] at b3
    injection b3 with b3
    exact ⟨b3, by omega⟩
theorem BIs.tx {f f2 : Int → Int} {n : Int} {T T2 : Rl} {q q2 : Int} (e : ∀ k, 0 ≤ k → k < n → f k = f2 k) (a : BIs (lts f 0 n) T q) (b : BIs (lts f2 0 n) T2 q2) : T = T2 ∧ q = q2 := by
  rw [lts_cong (h := f2) (q := 0) (fun k x y => by rw [Int.zero_add]; exact e k x y)] at a
  exact a.one b
theorem OfIs.one {f f2 : Int → Int} {n w r r2 : Int} (e : ∀ k, 0 ≤ k → k < n → f k = f2 k) (a : OfIs f n w r) (b : OfIs f2 n w r2) : r = r2 := by
  obtain ⟨T, q, a1, a2⟩ := a
  obtain ⟨T2, q2, b1, b2⟩ := b
  obtain ⟨rfl, rfl⟩ := a1.tx e b1
  rcases a2 with a | a | a | a | a | a | a <;> rcases b2 with b | b | b | b | b | b | b <;> first
    | omega
    | (rw [a.2, b.2]; done)
    | exact PerIs.one e a.2 b.2
    | (rw [a.2, b.2]; unfold unlF; exact sumF_cg (fun j _ _ => by rw [cntF_cong e]))
theorem QOf.one (e : TEq F N c F2 N2 c2) {t w r s r2 s2 : Int} (a : QOf F N c t w r s) (b : QOf F2 N2 c2 t w r2 s2) : r = r2 ∧ s = s2 := by
  unfold QOf at b
  rw [HasT_eq e] at b
  rcases a with a | a | a <;> rcases b with b | b | b
  · omega
  · omega
  · omega
  · omega
  · omega
  · exact absurd b.2.1 a.2.1
  · omega
  · exact absurd a.2.1 b.2.1
  · have b3 := b.2.2.1
    rw [e.n a.2.1] at b3
    exact ⟨OfIs.one (e.f a.2.1) a.2.2.1 b3, by omega⟩
theorem vis_nd0 (T : Rl) (p : Int) : ((vis T p []).map Prod.fst).Nodup := vis_nd (by simp)
theorem QRule.one (e : TEq F N c F2 N2 c2) {t k w r s r2 s2 : Int} (a : QRule F N c t k w r s) (b : QRule F2 N2 c2 t k w r2 s2) : r = r2 ∧ s = s2 := by
  unfold QRule at b
  rw [HasT_eq e] at b
  rcases a with a | a | a <;> rcases b with b | b | b
  · omega
  · exact absurd b.1 a.1
  · exact absurd b.1 a.1
  · exact absurd a.1 b.1
  · omega
  · exact absurd b.2.1 a.2.1
  · exact absurd a.1 b.1
  · exact absurd a.2.1 b.2.1
  · obtain ⟨-, h1, T, q, a1, a2⟩ := a
    obtain ⟨-, -, T2, q2, b1, b2⟩ := b
    rw [e.n h1] at b1
    obtain ⟨rfl, rfl⟩ := a1.tx (e.f h1) b1
    rcases a2 with a | a <;> rcases b2 with b | b
    · omega
    · omega
    · omega
    · exact ⟨RuleIs.one (vis_nd0 T 0) a.2.1 b.2.1, by omega⟩
theorem QAround.one (e : TEq F N c F2 N2 c2) {t p i r s r2 s2 : Int} (a : QAround F N c t p i r s) (b : QAround F2 N2 c2 t p i r2 s2) : r = r2 ∧ s = s2 := by
  unfold QAround at b
  rw [HasT_eq e] at b
  rcases a with a | a | a | a <;> rcases b with b | b | b | b
  · omega
  · omega
  · omega
  · omega
  · omega
  · omega
  · exact absurd b.2.1 a.2.1
  · exact absurd b.2.1 a.2.1
  · omega
  · exact absurd a.2.1 b.2.1
  · omega
  · have h1 := e.n a.2.1
    have h2 := b.2.2.1
    omega
  · omega
  · exact absurd a.2.1 b.2.1
  · have h1 := e.n a.2.1
    have h2 := b.2.2.1
    omega
  · obtain ⟨-, h1, h0, T, q, a1, a2⟩ := a
    obtain ⟨-, -, -, T2, q2, b1, b2⟩ := b
    rw [e.n h1] at b1
    obtain ⟨rfl, rfl⟩ := a1.tx (e.f h1) b1
    rcases a2 with a | ⟨x, a, a3, a4⟩ <;> rcases b2 with b | ⟨y, b, b3, b4⟩
    · omega
    · rw [a.1] at b; cases b
    · rw [b.1] at a; cases a
    · rw [a] at b
      injection b with b
      subst b
      exact ⟨IdxV.one (vis_nd0 T 0) a3 b3, by omega⟩
theorem AgIs.one {f f2 h h2 : Int → Int} {n m w r r2 : Int} (hn : 0 ≤ n) (hm : 0 ≤ m) (e : ∀ k, 0 ≤ k → k < n → f k = f2 k) (e2 : ∀ k, 0 ≤ k → k < m → h k = h2 k) (a : AgIs f n h m w r) (b : AgIs f2 n h2 m w r2) : r = r2 := by
  have hc := cmpT_cong hn hm e e2
  rcases a with a | a | a | a <;> rcases b with b | b | b | b <;> first
    | omega
    | (rw [a.2, b.2, hc]; done)
    | (rw [a.2, b.2, hc, lcpF_cong (by omega) (fun j x y => e j x (by omega)) (fun j x y => e2 j x (by omega))]; done)
    | (obtain ⟨T, U, ⟨q, a1⟩, ⟨q2, a2⟩, a3⟩ := a.2; obtain ⟨T2, U2, ⟨p, b1⟩, ⟨p2, b2⟩, b3⟩ := b.2; rw [a3, b3, (a1.tx e b1).1, (a2.tx e2 b2).1])
theorem QAg.one (h : TOk F N c) (e : TEq F N c F2 N2 c2) {t u w r s r2 s2 : Int} (a : QAg F N c t u w r s) (b : QAg F2 N2 c2 t u w r2 s2) : r = r2 ∧ s = s2 := by
  unfold QAg at b
  rw [HasT_eq e, HasT_eq e] at b
  rcases a with a | a | a <;> rcases b with b | b | b
  · omega
  · omega
  · omega
  · omega
  · omega
  · exact absurd b.2.1 a.2.1
  · omega
  · exact absurd a.2.1 b.2.1
  · have b3 := b.2.2.1
    rw [e.n a.2.1.1, e.n a.2.1.2] at b3
    have h1 := (h.2 t a.2.1.1.1 a.2.1.1.2).1
    have h2 := (h.2 u a.2.1.2.1 a.2.1.2.2).1
    exact ⟨AgIs.one (by omega) (by omega) (e.f a.2.1.1) (e.f a.2.1.2) a.2.2.1 b3, by omega⟩
theorem visT_teq (hc : 0 ≤ c) (e : TEq F N c F2 N2 c2) {T T2 : Int → Rl} (a : ∀ t, 0 ≤ t → t < c → ∃ q, BIs (lts (F t) 0 (N t)) (T t) q) (b : ∀ t, 0 ≤ t → t < c2 → ∃ q, BIs (lts (F2 t) 0 (N2 t)) (T2 t) q) (V : List (Rl × Int)) : visT T2 c2.toNat V = visT T c.toNat V := by
  rw [e.1]
  refine visT_cong _ _ (fun t x y => ?_)
  obtain ⟨q, h1⟩ := a t x (by omega)
  obtain ⟨q2, h2⟩ := b t x (by rw [e.1]; omega)
  rw [e.n ⟨x, by omega⟩] at h2
  exact (h1.tx (e.f ⟨x, by omega⟩) h2).1.symm
theorem AllRules.one (hc : 0 ≤ c) (e : TEq F N c F2 N2 c2) {r r2 : Int} (a : AllRules F N c r) (b : AllRules F2 N2 c2 r2) : r = r2 := by
  obtain ⟨T, a1, a2⟩ := a
  obtain ⟨T2, b1, b2⟩ := b
  rw [a2, b2, visT_teq hc e a1 b1]
theorem NewsF.one {G G2 : Int → Int → Int} {M M2 : Int → Int} {d d2 : Int} (hc : 0 ≤ c) (hd : 0 ≤ d) (e : TEq F N c F2 N2 c2) (e2 : TEq G M d G2 M2 d2) {w w2 : Int} (a : NewsF F N c G M d w) (b : NewsF F2 N2 c2 G2 M2 d2 w2) : w = w2 := by
  obtain ⟨T, U, a1, a2, a3⟩ := a
  obtain ⟨T2, U2, b1, b2, b3⟩ := b
  rw [a3, b3, visT_teq hc e a1 b1, visT_teq hd e2 a2 b2]
theorem sumF_teq (e : TEq F N c F2 N2 c2) : sumF N2 c2 = sumF N c := by rw [e.1]; exact sumF_cg (fun j a b => e.n ⟨a, b⟩)
theorem QMany.one (hc : 0 ≤ c) (e : TEq F N c F2 N2 c2) {ac mk nw w r s r2 s2 : Int} (a : QMany F N c ac mk nw w r s) (b : QMany F2 N2 c2 ac mk nw w r2 s2) : r = r2 ∧ s = s2 := by
  have h1 := e.1
  rcases a with a | a | a | a | a | a | a <;> rcases b with b | b | b | b | b | b | b <;> first
    | omega
    | exact ⟨AllRules.one hc e a.2.1 b.2.1, by omega⟩
    | exact ⟨by rw [a.2.1, b.2.1, sumF_teq e], by omega⟩
theorem TextSet.teq {t n n2 : Int} {f f2 : Int → Int} {G G2 : Int → Int → Int} {M M2 : Int → Int} {d d2 : Int} (e : TEq F N c F2 N2 c2) (hn : n2 = n) (hf : ∀ k, 0 ≤ k → k < n → f2 k = f k) (a : TextSet F N c t f n G M d) (b : TextSet F2 N2 c2 t f2 n2 G2 M2 d2) (ht : 0 ≤ t ∧ t ≤ c) : TEq G M d G2 M2 d2 := by
  subst hn
  obtain ⟨h, e⟩ := e
  subst h
  obtain ⟨a1, a2, a3, a4⟩ := a
  obtain ⟨b1, b2, b3, b4⟩ := b
  refine ⟨by omega, fun j x y => ?_⟩
  by_cases z : j = t
  · subst z
    rw [a2, b2]
    exact ⟨rfl, fun k k0 k1 => by rw [b3 k k0 k1, a3 k k0 k1, hf k k0 k1]⟩
  · have hj : j < c2 := by omega
    obtain ⟨p1, p2⟩ := a4 j x hj z
    obtain ⟨q1, q2⟩ := b4 j x hj z
    obtain ⟨r1, r2⟩ := e j x hj
    refine ⟨by rw [q1, p1, r1], fun k k0 k1 => ?_⟩
    rw [p1] at k1
    rw [q2 k k0 (by rw [r1]; exact k1), p2 k k0 k1, r2 k k0 k1]
theorem TextGone.teq {t : Int} {G G2 : Int → Int → Int} {M M2 : Int → Int} {d d2 : Int} (e : TEq F N c F2 N2 c2) (a : TextGone F N c t G M d) (b : TextGone F2 N2 c2 t G2 M2 d2) (ht : 0 ≤ t ∧ t < c) : TEq G M d G2 M2 d2 := by
  obtain ⟨h, e⟩ := e
  subst h
  obtain ⟨a1, a2⟩ := a
  obtain ⟨b1, b2⟩ := b
  refine ⟨by omega, fun j x y => ?_⟩
  obtain ⟨p1, p2⟩ := a2 j x y
  obtain ⟨q1, q2⟩ := b2 j x (by omega)
  obtain ⟨u1, u2⟩ := sh_ix (j := j) ht ⟨x, by omega⟩
  obtain ⟨r1, r2⟩ := e _ u1 u2
  have hM : M2 j = M j := by rw [q1, p1, r1]
  refine ⟨hM, fun k k0 k1 => ?_⟩
  rw [q2 k k0 (by rw [hM]; exact k1), p2 k k0 k1, r2 k k0 (by rw [← p1]; exact k1)]
theorem tsF_teq {G G2 : Int → Int → Int} {M M2 : Int → Int} {d d2 : Int} (hM : TOk G M d) (hM2 : TOk G2 M2 d2) (e : tsF G2 M2 d2 = tsF G M d) : TEq G M d G2 M2 d2 := by
  have hl : ((tsF G2 M2 d2).length : Int) = ((tsF G M d).length : Int) := by rw [e]
  rw [tsF_len _ _ hM2.1.1, tsF_len _ _ hM.1.1] at hl
  refine ⟨hl, fun t a b => ?_⟩
  have h9 : (tsF G2 M2 d2).getD t.toNat [] = (tsF G M d).getD t.toNat [] := by rw [e]
  rw [tsF_at _ _ ⟨a, by omega⟩, tsF_at _ _ ⟨a, b⟩] at h9
  have h1 := (hM.2 t a b).1
  have h2 := (hM2.2 t a (by omega)).1
  have h8 : ((rowL (G2 t) (M2 t)).length : Int) = ((rowL (G t) (M t)).length : Int) := by rw [h9]
  rw [rowL_lenI _ (by omega), rowL_lenI _ (by omega)] at h8
  refine ⟨h8, fun k k0 k1 => ?_⟩
  have h7 : (rowL (G2 t) (M2 t))[k.toNat]? = (rowL (G t) (M t))[k.toNat]? := by rw [h9]
  rw [rowL_get _ (by omega), rowL_get _ (by omega)] at h7
  injection h7 with h7
  rw [Int.toNat_of_nonneg k0] at h7
  exact h7
end TEQ
