/-! ===== the model's reader: what is piled ===== -/
/-- behind the first m letters of pl stands l, as far as to -/
def PlIs (pl : Int → Int) (m : Int) (pl9 : Int → Int) (to : Int) (l : List Int) : Prop := m ≤ to ∧ l = rowL (fun k => pl9 (m + k)) (to - m) ∧ ∀ j, 0 ≤ j → j < m → pl9 j = pl j
theorem PlIs.len {pl : Int → Int} {m : Int} {pl9 : Int → Int} {to : Int} {l : List Int} (h : PlIs pl m pl9 to l) : (l.length : Int) = to - m := by
  obtain ⟨h1, h2, -⟩ := h
  rw [h2, rowL_lenI _ (by omega)]
theorem PlIs.nil (pl : Int → Int) (m : Int) : PlIs pl m pl m [] := ⟨Int.le_refl _, by rw [rowL_nil _ (by omega)], fun _ _ _ => rfl⟩
theorem PlIs.app {pl pl1 pl2 : Int → Int} {m t1 t2 : Int} {l1 l2 : List Int} (hm : 0 ≤ m) (h : PlIs pl m pl1 t1 l1) (q : PlIs pl1 t1 pl2 t2 l2) : PlIs pl m pl2 t2 (l1 ++ l2) := by
  obtain ⟨h1, h2, h3⟩ := h
  obtain ⟨q1, q2, q3⟩ := q
  refine ⟨by omega, ?_, fun j a b => by rw [q3 j a (by omega), h3 j a b]⟩
  have e := rowL_app (fun k => pl2 (m + k)) (n := t1 - m) (m := t2 - t1) (by omega) (by omega)
  rw [show t1 - m + (t2 - t1) = t2 - m by omega] at e
  rw [e, h2, q2]
  congr 1
  · exact rowL_cong (fun k a b => (q3 _ (by omega) (by omega)).symm)
  · exact rowL_cong (fun k a b => by congr 1; omega)
theorem PlIs.cut {pl pl9 pl8 : Int → Int} {m to a q : Int} {l : List Int} (hm : 0 ≤ m) (h : PlIs pl m pl9 to l) (ha : 0 ≤ a ∧ 0 ≤ q ∧ a + q ≤ to - m) (g1 : ∀ j, 0 ≤ j → j < q → pl8 (m + j) = pl9 (m + a + j)) (g2 : ∀ j, ¬ (m ≤ j ∧ j < m + q) → pl8 j = pl9 j) : PlIs pl m pl8 (m + q) ((l.drop a.toNat).take q.toNat) := by
  obtain ⟨h1, h2, h3⟩ := h
  refine ⟨by omega, ?_, fun j x y => by rw [g2 j (by omega), h3 j x y]⟩
  rw [h2, rowL_drop _ (by omega), rowL_take _ (by omega), show m + q - m = q by omega]
  exact rowL_cong (fun k x y => by show pl9 (m + (a + k)) = _; rw [g1 k x y]; congr 1; omega)
theorem PlIs.rep {pl pl9 pl8 : Int → Int} {m to v : Int} {l : List Int} (hm : 0 ≤ m) (h : PlIs pl m pl9 to l) (hl : m < to) (hv : 1 ≤ v) (g1 : ∀ j, 0 ≤ j → j < (to - m) * v → pl8 (m + j) = pl9 (m + j % (to - m))) (g2 : ∀ j, 0 ≤ j → j < m → pl8 j = pl9 j) : PlIs pl m pl8 (m + (to - m) * v) (rep v l) := by
  obtain ⟨h1, h2, h3⟩ := h
  have hp : 0 ≤ (to - m) * v := Int.mul_nonneg (by omega) (by omega)
  refine ⟨by omega, ?_, fun j x y => by rw [g2 j x y, h3 j x y]⟩
  have e := rep_row (fun k => pl9 (m + k)) (m := to - m) (by omega) v.toNat
  rw [Int.toNat_of_nonneg (by omega)] at e
  rw [h2, e, show m + (to - m) * v - m = (to - m) * v by omega]
  exact rowL_cong (fun k x y => (g1 k x y).symm)
theorem PlIs.rev {pl pl9 pl8 : Int → Int} {m to : Int} {l : List Int} (hm : 0 ≤ m) (h : PlIs pl m pl9 to l) (g1 : ∀ j, m ≤ j → j < to → pl8 j = pl9 (m + to - 1 - j)) (g2 : ∀ j, 0 ≤ j → j < m → pl8 j = pl9 j) : PlIs pl m pl8 to l.reverse := by
  obtain ⟨h1, h2, h3⟩ := h
  refine ⟨h1, ?_, fun j x y => by rw [g2 j x y, h3 j x y]⟩
  rw [h2]
  apply rowL_ext
  · rw [List.length_reverse, rowL_len]; omega
  · intro i hi
    rw [List.getElem?_reverse (by rw [rowL_len]; omega), rowL_len, rowL_get _ (by omega), g1 _ (by omega) (by omega)]
    congr 2
    omega
theorem ftAt_r9 (b : Bk) (k : Nat) : 1 ≤ (ftAt b k 2).1 ∧ (ftAt b k 2).1 ≤ 9 := by
  have := ftAt_rg b k
  omega
/-- what the model's part of a reader tells: S, as it must be -/
def PrR (S : PR) (B : Int → Int) (n : Int) (pl : Int → Int) (to dp fp0 r tk bg en ls vl ft fp dp9 to9 : Int) (pl9 : Int → Int) : Prop :=
  (r = 1 ∧ ft = 0 ∧ dp9 = dp ∧ fp = fp0 ∧ ∃ l k9, S = .ok (l, k9) ∧ RdAt B n k9 tk bg en ls vl ∧ PlIs pl to pl9 to9 l) ∨ (r = 0 ∧ ∃ e, S = .error e ∧ ft = e.1 ∧ fp = e.2 ∧ (1 ≤ e.1 ∧ e.1 ≤ 9))
section PRR
variable {S S2 : PR} {B : Int → Int} {n : Int} {pl : Int → Int} {to dp fp0 r tk bg en ls vl ft fp dp9 to9 : Int} {pl9 : Int → Int}
theorem PrR.rg (h : PrR S B n pl to dp fp0 r tk bg en ls vl ft fp dp9 to9 pl9) : 0 ≤ r ∧ r ≤ 1 := by rcases h with z | z <;> omega
theorem PrR.ok (h : PrR S B n pl to dp fp0 r tk bg en ls vl ft fp dp9 to9 pl9) (q : r ≠ 0) : ft = 0 ∧ dp9 = dp ∧ fp = fp0 ∧ ∃ l k9, S = .ok (l, k9) ∧ RdAt B n k9 tk bg en ls vl ∧ PlIs pl to pl9 to9 l := by
  rcases h with z | z
  · exact z.2
  · exact absurd z.1 q
theorem PrR.er (h : PrR S B n pl to dp fp0 r tk bg en ls vl ft fp dp9 to9 pl9) (q : r = 0) : ∃ e, S = .error e ∧ ft = e.1 ∧ fp = e.2 ∧ (1 ≤ e.1 ∧ e.1 ≤ 9) := by
  rcases h with z | z
  · omega
  · exact z.2
theorem PrR.no {e : Ft} (h : S = .error e) (h1 : ft = e.1) (h2 : fp = e.2) (h3 : 1 ≤ e.1 ∧ e.1 ≤ 9) : PrR S B n pl to dp fp0 0 tk bg en ls vl ft fp dp9 to9 pl9 := Or.inr ⟨rfl, e, h, h1, h2, h3⟩
theorem PrR.yes {l : List Int} {k9 : Nat} (h : S = .ok (l, k9)) (hR : RdAt B n k9 tk bg en ls vl) (hp : PlIs pl to pl9 to9 l) (h0 : ft = 0) (hd : dp9 = dp) (hq : fp = fp0) : PrR S B n pl to dp fp0 1 tk bg en ls vl ft fp dp9 to9 pl9 := Or.inl ⟨rfl, h0, hd, hq, l, k9, h, hR, hp⟩
end PRR
/-- what the model's look at a NUMBER tells -/
def NuR (b : Bk) (k : Nat) (lo hi q v fp0 r ft fp : Int) : Prop := (r = 1 ∧ numE b k lo hi q = .ok v ∧ ft = 0 ∧ fp = fp0) ∨ (r = 0 ∧ ∃ e, numE b k lo hi q = .error e ∧ ft = e.1 ∧ fp = e.2 ∧ (1 ≤ e.1 ∧ e.1 ≤ 9))
theorem NuR.ok {b : Bk} {k : Nat} {lo hi q v fp0 r ft fp : Int} (h : NuR b k lo hi q v fp0 r ft fp) (z : r ≠ 0) : numE b k lo hi q = .ok v ∧ ft = 0 ∧ fp = fp0 := by
  rcases h with w | w
  · exact w.2
  · exact absurd w.1 z
theorem NuR.er {b : Bk} {k : Nat} {lo hi q v fp0 r ft fp : Int} (h : NuR b k lo hi q v fp0 r ft fp) (z : r = 0) : ∃ e, numE b k lo hi q = .error e ∧ ft = e.1 ∧ fp = e.2 ∧ (1 ≤ e.1 ∧ e.1 ≤ 9) := by
  rcases h with w | w
  · omega
  · exact w.2
/-- what is told where a sign must stand -/
def TkR (B : Int → Int) (n : Int) (k : Nat) (c fp0 r tk bg en ls vl ft fp : Int) : Prop := (r = 1 ∧ (bkOf B n).K k = c ∧ RdAt B n (k + 1) tk bg en ls vl ∧ ft = 0 ∧ fp = fp0) ∨ (r = 0 ∧ (bkOf B n).K k ≠ c ∧ ft = (ftAt (bkOf B n) k 2).1 ∧ fp = (ftAt (bkOf B n) k 2).2)
theorem TkR.ok {B : Int → Int} {n : Int} {k : Nat} {c fp0 r tk bg en ls vl ft fp : Int} (h : TkR B n k c fp0 r tk bg en ls vl ft fp) (z : r ≠ 0) : (bkOf B n).K k = c ∧ RdAt B n (k + 1) tk bg en ls vl ∧ ft = 0 ∧ fp = fp0 := by
  rcases h with w | w
  · exact w.2
  · exact absurd w.1 z
theorem TkR.er {B : Int → Int} {n : Int} {k : Nat} {c fp0 r tk bg en ls vl ft fp : Int} (h : TkR B n k c fp0 r tk bg en ls vl ft fp) (z : r = 0) : (bkOf B n).K k ≠ c ∧ ft = (ftAt (bkOf B n) k 2).1 ∧ fp = (ftAt (bkOf B n) k 2).2 := by
  rcases h with w | w
  · omega
  · exact w.2
/-! the reader, step by step -/
section RSTEP
variable {b : Bk} {T : List (List Int)}
theorem unitOf_e {co : Nat → PR} {k : Nat} {e : Ft} (h : co k = .error e) : unitOf b co k = .error e := by unfold unitOf; rw [h]
theorem unitOf_o {co : Nat → PR} {k : Nat} {l : List Int} {k9 : Nat} (h : co k = .ok (l, k9)) : unitOf b co k = unitL b 1000 l k9 := by unfold unitOf; rw [h]
theorem prodOf_e {co : Nat → PR} {k : Nat} {e : Ft} (h : unitOf b co k = .error e) : prodOf b co k = .error e := by unfold prodOf; rw [h]
theorem prodOf_o {co : Nat → PR} {k : Nat} {l : List Int} {k9 : Nat} (h : unitOf b co k = .ok (l, k9)) : prodOf b co k = prodL b 1000 l k9 := by unfold prodOf; rw [h]
theorem sumOf_e {co : Nat → PR} {k : Nat} {e : Ft} (h : prodOf b co k = .error e) : sumOf b co k = .error e := by unfold sumOf; rw [h]
theorem sumOf_o {co : Nat → PR} {k : Nat} {l : List Int} {k9 : Nat} (h : prodOf b co k = .ok (l, k9)) : sumOf b co k = sumL b (prodOf b co) 1000 l k9 := by unfold sumOf; rw [h]
theorem unitL_n {f : Nat} (hf : 0 < f) {l : List Int} {k : Nat} (h : b.K k ≠ 91) : unitL b f l k = .ok (l, k) := by
  obtain ⟨m, rfl⟩ : ∃ m, f = m + 1 := ⟨f - 1, by omega⟩
  rw [unitL, if_neg h]
theorem unitL_e {f : Nat} (hf : 0 < f) {l : List Int} {k : Nat} {e : Ft} (h : b.K k = 91) (q : cutE b l k = .error e) : unitL b f l k = .error e := by
  obtain ⟨m, rfl⟩ : ∃ m, f = m + 1 := ⟨f - 1, by omega⟩
  rw [unitL, if_pos h, q]
theorem unitL_o {f : Nat} (hf : 0 < f) {l l9 : List Int} {k k9 : Nat} (h : b.K k = 91) (q : cutE b l k = .ok (l9, k9)) : unitL b f l k = unitL b (f - 1) l9 k9 := by
  obtain ⟨m, rfl⟩ : ∃ m, f = m + 1 := ⟨f - 1, by omega⟩
  rw [unitL, if_pos h, q]
  rfl
theorem prodL_n {f : Nat} (hf : 0 < f) {l : List Int} {k : Nat} (h : b.K k ≠ 42) : prodL b f l k = .ok (l, k) := by
  obtain ⟨m, rfl⟩ : ∃ m, f = m + 1 := ⟨f - 1, by omega⟩
  rw [prodL, if_neg h]
theorem prodL_e {f : Nat} (hf : 0 < f) {l : List Int} {k : Nat} {e : Ft} (h : b.K k = 42) (q : timesE b l k = .error e) : prodL b f l k = .error e := by
  obtain ⟨m, rfl⟩ : ∃ m, f = m + 1 := ⟨f - 1, by omega⟩
  rw [prodL, if_pos h, q]
theorem prodL_o {f : Nat} (hf : 0 < f) {l l9 : List Int} {k k9 : Nat} (h : b.K k = 42) (q : timesE b l k = .ok (l9, k9)) : prodL b f l k = prodL b (f - 1) l9 k9 := by
  obtain ⟨m, rfl⟩ : ∃ m, f = m + 1 := ⟨f - 1, by omega⟩
  rw [prodL, if_pos h, q]
  rfl
theorem sumL_n {pr : Nat → PR} {f : Nat} (hf : 0 < f) {l : List Int} {k : Nat} (h : b.K k ≠ 43) : sumL b pr f l k = .ok (l, k) := by
  obtain ⟨m, rfl⟩ : ∃ m, f = m + 1 := ⟨f - 1, by omega⟩
  rw [sumL, if_neg h]
theorem sumL_e {pr : Nat → PR} {f : Nat} (hf : 0 < f) {l : List Int} {k : Nat} {e : Ft} (h : b.K k = 43) (q : pr (k + 1) = .error e) : sumL b pr f l k = .error e := by
  obtain ⟨m, rfl⟩ : ∃ m, f = m + 1 := ⟨f - 1, by omega⟩
  rw [sumL, if_pos h, q]
theorem sumL_l {pr : Nat → PR} {f : Nat} (hf : 0 < f) {l x : List Int} {k k9 : Nat} (h : b.K k = 43) (q : pr (k + 1) = .ok (x, k9)) (w : 600 < ((l ++ x).length : Int)) : sumL b pr f l k = .error (5, b.P (k9 - 1)) := by
  obtain ⟨m, rfl⟩ : ∃ m, f = m + 1 := ⟨f - 1, by omega⟩
  rw [sumL, if_pos h, q]
  show (if 600 < ((l ++ x).length : Int) then _ else _) = _
  rw [if_pos w]
theorem sumL_o {pr : Nat → PR} {f : Nat} (hf : 0 < f) {l x : List Int} {k k9 : Nat} (h : b.K k = 43) (q : pr (k + 1) = .ok (x, k9)) (w : ¬ 600 < ((l ++ x).length : Int)) : sumL b pr f l k = sumL b pr (f - 1) (l ++ x) k9 := by
  obtain ⟨m, rfl⟩ : ∃ m, f = m + 1 := ⟨f - 1, by omega⟩
  rw [sumL, if_pos h, q]
  show (if 600 < ((l ++ x).length : Int) then _ else _) = _
  rw [if_neg w]
  rfl
theorem times_e1 {l : List Int} {k : Nat} {e : Ft} (h : numE b (k + 1) 1 600 4 = .error e) : timesE b l k = .error e := by unfold timesE; rw [h]
theorem times_e2 {l : List Int} {k : Nat} {v : Int} (h : numE b (k + 1) 1 600 4 = .ok v) (w : 600 < (l.length : Int) * v) : timesE b l k = .error (5, b.P (k + 1)) := by
  unfold timesE; rw [h]
  show (if 600 < (l.length : Int) * v then _ else _) = _
  rw [if_pos w]
theorem times_o {l : List Int} {k : Nat} {v : Int} (h : numE b (k + 1) 1 600 4 = .ok v) (w : ¬ 600 < (l.length : Int) * v) : timesE b l k = .ok (rep v l, k + 2) := by
  unfold timesE; rw [h]
  show (if 600 < (l.length : Int) * v then _ else _) = _
  rw [if_neg w]
theorem cut_e1 {l : List Int} {k : Nat} {e : Ft} (h : numE b (k + 1) 0 ((l.length : Int) - 1) 4 = .error e) : cutE b l k = .error e := by unfold cutE; rw [h]
theorem cut_e2 {l : List Int} {k : Nat} {a : Int} (h : numE b (k + 1) 0 ((l.length : Int) - 1) 4 = .ok a) (w : b.K (k + 2) ≠ 44) : cutE b l k = .error (ftAt b (k + 2) 2) := by
  unfold cutE; rw [h]
  show (if b.K (k + 2) = 44 then _ else _) = _
  rw [if_neg w]
theorem cut_e3 {l : List Int} {k : Nat} {a : Int} {e : Ft} (h : numE b (k + 1) 0 ((l.length : Int) - 1) 4 = .ok a) (w : b.K (k + 2) = 44) (q : numE b (k + 3) 1 ((l.length : Int) - a) 4 = .error e) : cutE b l k = .error e := by
  unfold cutE; rw [h]
  show (if b.K (k + 2) = 44 then _ else _) = _
  rw [if_pos w, q]
theorem cut_e4 {l : List Int} {k : Nat} {a m : Int} (h : numE b (k + 1) 0 ((l.length : Int) - 1) 4 = .ok a) (w : b.K (k + 2) = 44) (q : numE b (k + 3) 1 ((l.length : Int) - a) 4 = .ok m) (z : b.K (k + 4) ≠ 93) : cutE b l k = .error (ftAt b (k + 4) 2) := by
  unfold cutE; rw [h]
  show (if b.K (k + 2) = 44 then _ else _) = _
  rw [if_pos w, q]
  show (if b.K (k + 4) = 93 then _ else _) = _
  rw [if_neg z]
theorem cut_o {l : List Int} {k : Nat} {a m : Int} (h : numE b (k + 1) 0 ((l.length : Int) - 1) 4 = .ok a) (w : b.K (k + 2) = 44) (q : numE b (k + 3) 1 ((l.length : Int) - a) 4 = .ok m) (z : b.K (k + 4) = 93) : cutE b l k = .ok ((l.drop a.toNat).take m.toNat, k + 5) := by
  unfold cutE; rw [h]
  show (if b.K (k + 2) = 44 then _ else _) = _
  rw [if_pos w, q]
  show (if b.K (k + 4) = 93 then _ else _) = _
  rw [if_pos z]
theorem core_leaf {r k : Nat} (h1 : b.K k ≠ 40) (h2 : b.K k ≠ 126) : core b T r k = leafE b T k := by
  cases r with
  | zero => rw [core, if_neg (fun z => z.elim h1 h2)]
  | succ r => rw [core, if_neg h1, if_neg h2]
theorem core_deep {k : Nat} (h : b.K k = 40 ∨ b.K k = 126) : core b T 0 k = .error (6, b.P k) := by rw [core, if_pos h]
theorem core_par {r k : Nat} (h : b.K k = 40) : core b T (r + 1) k = parE b (core b T r) k := by rw [core, if_pos h]
theorem core_til {r k : Nat} (h : b.K k = 126) : core b T (r + 1) k = tilE (core b T r) k := by rw [core, if_neg (by rw [h]; decide), if_pos h]
theorem par_e1 {co : Nat → PR} {k : Nat} {e : Ft} (h : sumOf b co (k + 1) = .error e) : parE b co k = .error e := by unfold parE; rw [h]
theorem par_e2 {co : Nat → PR} {k k9 : Nat} {l : List Int} (h : sumOf b co (k + 1) = .ok (l, k9)) (w : b.K k9 ≠ 41) : parE b co k = .error (ftAt b k9 2) := by
  unfold parE; rw [h]
  show (if b.K k9 = 41 then _ else _) = _
  rw [if_neg w]
theorem par_o {co : Nat → PR} {k k9 : Nat} {l : List Int} (h : sumOf b co (k + 1) = .ok (l, k9)) (w : b.K k9 = 41) : parE b co k = .ok (l, k9 + 1) := by
  unfold parE; rw [h]
  show (if b.K k9 = 41 then _ else _) = _
  rw [if_pos w]
theorem til_e {co : Nat → PR} {k : Nat} {e : Ft} (h : co (k + 1) = .error e) : tilE co k = .error e := by unfold tilE; rw [h]
theorem til_o {co : Nat → PR} {k k9 : Nat} {l : List Int} (h : co (k + 1) = .ok (l, k9)) : tilE co k = .ok (l.reverse, k9) := by unfold tilE; rw [h]
theorem leaf_q1 {k : Nat} (h : b.K k = 6) (w : 600 < b.V k) : leafE b T k = .error (5, b.P k) := by unfold leafE; rw [if_pos h, if_pos w]
theorem leaf_q2 {k : Nat} (h : b.K k = 6) (w : ¬ 600 < b.V k) : leafE b T k = .ok (b.Q k, k + 1) := by unfold leafE; rw [if_pos h, if_neg w]
theorem leaf_n1 {k : Nat} {e : Ft} (h : b.K k = 35) (w : numE b (k + 1) 0 ((T.length : Int) - 1) 3 = .error e) : leafE b T k = .error e := by unfold leafE; rw [if_neg (by rw [h]; decide), if_pos h, w]
theorem leaf_n2 {k : Nat} {v : Int} (h : b.K k = 35) (w : numE b (k + 1) 0 ((T.length : Int) - 1) 3 = .ok v) : leafE b T k = .ok (T.getD v.toNat [], k + 2) := by unfold leafE; rw [if_neg (by rw [h]; decide), if_pos h, w]
theorem leaf_0 {k : Nat} (h : b.K k ≠ 6) (w : b.K k ≠ 35) : leafE b T k = .error (ftAt b k 2) := by unfold leafE; rw [if_neg h, if_neg w]
/-! what is read are letters, at least one, at most 600 -/
def GoodL (l : List Int) : Prop := (1 ≤ (l.length : Int) ∧ (l.length : Int) ≤ 600) ∧ LtOk l
def CoG (b : Bk) (c : Nat) (co : Nat → PR) : Prop := ∀ (k : Nat) (x : List Int × Nat), k ≤ c → co k = .ok x → x.2 ≤ c ∧ k < x.2 ∧ GoodL x.1
theorem unitL_G {c : Nat} (hb : BkG b T c) : ∀ (f : Nat) {l : List Int} {k : Nat} {x : List Int × Nat}, k ≤ c → GoodL l → unitL b f l k = .ok x → x.2 ≤ c ∧ k ≤ x.2 ∧ GoodL x.1
  | 0, l, k, x, hk, hl, h => by cases h
  | f + 1, l, k, x, hk, hl, h => by
    rw [unitL] at h
    by_cases z : b.K k = 91
    · rw [if_pos z] at h
      cases h1 : cutE b l k with
      | error e => rw [h1] at h; cases h
      | ok y =>
        rw [h1] at h
        obtain ⟨g1, g2, g3⟩ := cutE_ok hb.ok (hb.ok.nx hk (by rw [z]; decide)) h1
        obtain ⟨i1, i2, i3⟩ := unitL_G hb f g1 (cutE_G hl.1.2 hl.2 h1) h
        exact ⟨i1, by omega, i3⟩
    · rw [if_neg z] at h
      injection h with h
      subst h
      exact ⟨hk, Nat.le_refl _, hl⟩
theorem prodL_G {c : Nat} (hb : BkG b T c) : ∀ (f : Nat) {l : List Int} {k : Nat} {x : List Int × Nat}, k ≤ c → GoodL l → prodL b f l k = .ok x → x.2 ≤ c ∧ k ≤ x.2 ∧ GoodL x.1
  | 0, l, k, x, hk, hl, h => by cases h
  | f + 1, l, k, x, hk, hl, h => by
    rw [prodL] at h
    by_cases z : b.K k = 42
    · rw [if_pos z] at h
      cases h1 : timesE b l k with
      | error e => rw [h1] at h; cases h
      | ok y =>
        rw [h1] at h
        obtain ⟨g1, g2, g3⟩ := timesE_ok hb.ok (hb.ok.nx hk (by rw [z]; decide)) h1
        obtain ⟨i1, i2, i3⟩ := prodL_G hb f g1 (timesE_G hl.1.1 hl.2 h1) h
        exact ⟨i1, by omega, i3⟩
    · rw [if_neg z] at h
      injection h with h
      subst h
      exact ⟨hk, Nat.le_refl _, hl⟩
theorem unitOf_G {c : Nat} (hb : BkG b T c) {co : Nat → PR} (hc : CoG b c co) : CoG b c (unitOf b co) := by
  intro k x hk h
  unfold unitOf at h
  cases h1 : co k with
  | error e => rw [h1] at h; cases h
  | ok y =>
    rw [h1] at h
    obtain ⟨g1, g2, g3⟩ := hc _ _ hk h1
    obtain ⟨i1, i2, i3⟩ := unitL_G hb _ g1 g3 h
    exact ⟨i1, by omega, i3⟩
theorem prodOf_G {c : Nat} (hb : BkG b T c) {co : Nat → PR} (hc : CoG b c co) : CoG b c (prodOf b co) := by
  intro k x hk h
  unfold prodOf at h
  cases h1 : unitOf b co k with
  | error e => rw [h1] at h; cases h
  | ok y =>
    rw [h1] at h
    obtain ⟨g1, g2, g3⟩ := unitOf_G hb hc _ _ hk h1
    obtain ⟨i1, i2, i3⟩ := prodL_G hb _ g1 g3 h
    exact ⟨i1, by omega, i3⟩
theorem GoodL.app {l x : List Int} (h : GoodL l) (q : GoodL x) (w : ¬ 600 < ((l ++ x).length : Int)) : GoodL (l ++ x) := by
  refine ⟨?_, h.2.app q.2⟩
  have h1 := h.1
  rw [List.length_append] at w ⊢
  omega
theorem sumL_G {c : Nat} (hb : BkG b T c) {pr : Nat → PR} (hp : CoG b c pr) : ∀ (f : Nat) {l : List Int} {k : Nat} {x : List Int × Nat}, k ≤ c → GoodL l → sumL b pr f l k = .ok x → x.2 ≤ c ∧ k ≤ x.2 ∧ GoodL x.1
  | 0, l, k, x, hk, hl, h => by cases h
  | f + 1, l, k, x, hk, hl, h => by
    rw [sumL] at h
    by_cases z : b.K k = 43
    · rw [if_pos z] at h
      cases h1 : pr (k + 1) with
      | error e => rw [h1] at h; cases h
      | ok y =>
        rw [h1] at h
        simp only at h
        obtain ⟨g1, g2, g3⟩ := hp _ _ (hb.ok.nx hk (by rw [z]; decide)) h1
        by_cases w : 600 < ((l ++ y.1).length : Int)
        · rw [if_pos w] at h; cases h
        · rw [if_neg w] at h
          obtain ⟨i1, i2, i3⟩ := sumL_G hb hp f g1 (hl.app g3 w) h
          exact ⟨i1, by omega, i3⟩
    · rw [if_neg z] at h
      injection h with h
      subst h
      exact ⟨hk, Nat.le_refl _, hl⟩
theorem sumOf_G {c : Nat} (hb : BkG b T c) {co : Nat → PR} (hc : CoG b c co) : CoG b c (sumOf b co) := by
  intro k x hk h
  unfold sumOf at h
  cases h1 : prodOf b co k with
  | error e => rw [h1] at h; cases h
  | ok y =>
    rw [h1] at h
    obtain ⟨g1, g2, g3⟩ := prodOf_G hb hc _ _ hk h1
    obtain ⟨i1, i2, i3⟩ := sumL_G hb (prodOf_G hb hc) _ g1 g3 h
    exact ⟨i1, by omega, i3⟩
theorem core_G {c : Nat} (hb : BkG b T c) : ∀ r : Nat, CoG b c (core b T r)
  | 0 => by
    intro k x hk h
    by_cases z : b.K k = 40 ∨ b.K k = 126
    · rw [core_deep z] at h; cases h
    · rw [core, if_neg z] at h
      obtain ⟨g1, g2, -⟩ := leafE_ok hb.ok hk h
      exact ⟨g1, g2, leafE_G hb h⟩
  | r + 1 => by
    intro k x hk h
    have ih := core_G hb r
    by_cases z : b.K k = 40
    · rw [core_par z] at h
      unfold parE at h
      have g0 := hb.ok.nx hk (by rw [z]; decide)
      cases h1 : sumOf b (core b T r) (k + 1) with
      | error e => rw [h1] at h; cases h
      | ok y =>
        rw [h1] at h
        simp only at h
        obtain ⟨g1, g2, g3⟩ := sumOf_G hb ih _ _ g0 h1
        by_cases w : b.K y.2 = 41
        · rw [if_pos w] at h
          injection h with h
          subst h
          exact ⟨hb.ok.nx g1 (by rw [w]; decide), by show k < y.2 + 1; omega, g3⟩
        · rw [if_neg w] at h; cases h
    · by_cases y : b.K k = 126
      · rw [core_til y] at h
        unfold tilE at h
        have g0 := hb.ok.nx hk (by rw [y]; decide)
        cases h1 : core b T r (k + 1) with
        | error e => rw [h1] at h; cases h
        | ok y =>
          rw [h1] at h
          injection h with h
          subst h
          obtain ⟨g1, g2, g3⟩ := ih _ _ g0 h1
          refine ⟨g1, by show k < y.2; omega, ?_, g3.2.rev⟩
          rw [List.length_reverse]
          exact g3.1
      · rw [core_leaf z y] at h
        obtain ⟨g1, g2, -⟩ := leafE_ok hb.ok hk h
        exact ⟨g1, g2, leafE_G hb h⟩
end RSTEP
/-- texts as lists -/
def tsF (F : Int → Int → Int) (N : Int → Int) (c : Int) : List (List Int) := (List.range c.toNat).map (fun t : Nat => rowL (F (t : Int)) (N (t : Int)))
theorem tsF_len (F : Int → Int → Int) (N : Int → Int) {c : Int} (h : 0 ≤ c) : ((tsF F N c).length : Int) = c := by
  unfold tsF
  rw [List.length_map, List.length_range]
  omega
theorem tsF_at (F : Int → Int → Int) (N : Int → Int) {c t : Int} (h : 0 ≤ t ∧ t < c) : (tsF F N c).getD t.toNat [] = rowL (F t) (N t) := by
  unfold tsF
  rw [List.getD_eq_getElem?_getD, List.getElem?_map, List.getElem?_range (by omega)]
  show rowL (F ((t.toNat : Nat) : Int)) (N ((t.toNat : Nat) : Int)) = _
  rw [Int.toNat_of_nonneg h.1]
theorem tsF_ok {F : Int → Int → Int} {N : Int → Int} {c : Int} (h : TOk F N c) : TsOk (tsF F N c) := fun l hl => by
  unfold tsF at hl
  obtain ⟨t, ht, rfl⟩ := List.mem_map.mp hl
  rw [List.mem_range] at ht
  have h9 := h.2 (t : Int) (by omega) (by omega)
  refine ⟨?_, rowL_Lt h9.2⟩
  rw [rowL_lenI _ (by omega)]
  exact h9.1
theorem bkG_m {B : Int → Int} {n : Int} {F : Int → Int → Int} {N : Int → Int} {c : Int} (h : TOk F N c) {m : Nat} (hm : m ≤ 900) (h0 : tkK B n m = 0) : BkG (bkOf B n) (tsF F N c) m := ⟨h0, hm, tsF_ok h, bkOf_Q⟩
theorem quo_pl {B : Int → Int} {n : Int} {k : Nat} {pl pl9 : Int → Int} {to v : Int} (hv : v = tkV B n k) (h0 : 0 ≤ v) (g1 : ∀ i, 0 ≤ i → i < v → pl9 (to + i) = B (tkB B n k + 1 + i) - 97) (g2 : ∀ j, ¬ (to ≤ j ∧ j < to + v) → pl9 j = pl j) : PlIs pl to pl9 (to + v) ((bkOf B n).Q k) := by
  refine ⟨by omega, ?_, fun j a b => g2 j (by omega)⟩
  show rowL (fun i => B (tkB B n k + 1 + i) - 97) (tkV B n k) = _
  rw [← hv, show to + v - to = v by omega]
  exact rowL_cong (fun i a b => (g1 i a b).symm)
theorem num_pl {pl pl9 : Int → Int} {to v : Int} {f : Int → Int} (h0 : 0 ≤ v) (g1 : ∀ i, 0 ≤ i → i < v → pl9 (to + i) = f i) (g2 : ∀ j, ¬ (to ≤ j ∧ j < to + v) → pl9 j = pl j) : PlIs pl to pl9 (to + v) (rowL f v) := by
  refine ⟨by omega, ?_, fun j a b => g2 j (by omega)⟩
  rw [show to + v - to = v by omega]
  exact rowL_cong (fun i a b => (g1 i a b).symm)
theorem PrR.eq {S S2 : PR} {B : Int → Int} {n : Int} {pl : Int → Int} {to dp fp0 r tk bg en ls vl ft fp dp9 to9 : Int} {pl9 : Int → Int} (h : PrR S B n pl to dp fp0 r tk bg en ls vl ft fp dp9 to9 pl9) (e : S2 = S) : PrR S2 B n pl to dp fp0 r tk bg en ls vl ft fp dp9 to9 pl9 := by rw [e]; exact h
theorem emod_step (i n : Int) : i % n = (i - n) % n := by
  have h9 := Int.add_mul_emod_self_left (i - n) n 1
  rw [Int.mul_one, show i - n + n = i by omega] at h9
  exact h9
/-- two exchanged, from both ends on -/
def RvIs (m to a b : Int) (pl8 pl7 : Int → Int) : Prop := b = m + to - 1 - a ∧ (∀ j, m ≤ j → j < a → pl7 j = pl8 (m + to - 1 - j)) ∧ (∀ j, b < j → j < to → pl7 j = pl8 (m + to - 1 - j)) ∧ (∀ j, a ≤ j → j ≤ b → pl7 j = pl8 j) ∧ (∀ j, 0 ≤ j → j < m → pl7 j = pl8 j)
theorem RvIs.start {m to : Int} {pl8 : Int → Int} : RvIs m to m (to - 1) pl8 pl8 := ⟨by omega, fun j a b => absurd b (by omega), fun j a b => absurd b (by omega), fun _ _ _ => rfl, fun _ _ _ => rfl⟩
theorem RvIs.step {m to a b : Int} {pl8 pl7 : Int → Int} (h : RvIs m to a b pl8 pl7) (ha : m ≤ a) (hab : a < b) : RvIs m to (a + 1) (b - 1) pl8 (up (up pl7 a (pl7 b)) b (pl7 a)) := by
  obtain ⟨h1, h2, h3, h4, h5⟩ := h
  refine ⟨by omega, fun j x y => ?_, fun j x y => ?_, fun j x y => ?_, fun j x y => ?_⟩
  · by_cases z : j = a
    · subst z
      rw [up_ne _ _ (by omega), up_same, h4 b (by omega) (by omega)]
      congr 1
      try omega
    · rw [up_ne _ _ (by omega), up_ne _ _ z]; exact h2 j x (by omega)
  · by_cases z : j = b
    · subst z
      rw [up_same, h4 a (by omega) (by omega)]
      congr 1
      omega
    · rw [up_ne _ _ z, up_ne _ _ (by omega)]; exact h3 j (by omega) y
  · rw [up_ne _ _ (by omega), up_ne _ _ (by omega)]; exact h4 j (by omega) (by omega)
  · rw [up_ne _ _ (by omega), up_ne _ _ (by omega)]; exact h5 j x y
theorem RvIs.done {m to a b : Int} {pl8 pl7 : Int → Int} (h : RvIs m to a b pl8 pl7) (hab : b ≤ a) : ∀ j, m ≤ j → j < to → pl7 j = pl8 (m + to - 1 - j) := fun j x y => by
  obtain ⟨h1, h2, h3, h4, h5⟩ := h
  by_cases z : j < a
  · exact h2 j x z
  · by_cases w : b < j
    · exact h3 j w y
    · rw [h4 j (by omega) (by omega)]
      congr 1
      omega
/-! what is read hangs on the bytes ahead of the end alone -/
theorem fwdN_cong {P Q : Int → Bool} : ∀ (m : Nat) (p : Int), (∀ q, p ≤ q → q < p + m → P q = Q q) → fwdN P m p = fwdN Q m p
  | 0, _, _ => rfl
  | m + 1, p, h => by
    rw [fwdN, fwdN, h p (by omega) (by omega), fwdN_cong m (p + 1) (fun q a b => h q (by omega) (by omega))]
theorem fwd_cong {P Q : Int → Bool} {n p : Int} (h : ∀ q, p ≤ q → q < n → P q = Q q) : fwd P n p = fwd Q n p := by
  unfold fwd
  exact fwdN_cong _ _ (fun q a b => h q a (by omega))
section CONG
variable {B C : Int → Int} {n : Int} (h : ∀ q, 0 ≤ q → q < n → B q = C q)
theorem skp_cong {p : Int} (hp : 0 ≤ p) (h : ∀ q, 0 ≤ q → q < n → B q = C q) : skp B n p = skp C n p := fwd_cong (fun q a b => by rw [h q (by omega) b])
theorem smE_cong {p : Int} (hp : 0 ≤ p) (h : ∀ q, 0 ≤ q → q < n → B q = C q) : smE B n p = smE C n p := fwd_cong (fun q a b => by rw [h q (by omega) b])
theorem dgE_cong {p : Int} (hp : 0 ≤ p) (h : ∀ q, 0 ≤ q → q < n → B q = C q) : dgE B n p = dgE C n p := fwd_cong (fun q a b => by rw [h q (by omega) b])
theorem bA_cong (h : ∀ q, 0 ≤ q → q < n → B q = C q) (q : Int) : bA B n q = bA C n q := by
  unfold bA
  split
  · rename_i z; exact h q z.1 z.2
  · rfl
theorem dcN_cong (h : ∀ q, 0 ≤ q → q < n → B q = C q) {p : Int} (hp : 0 ≤ p) : ∀ m : Nat, p + m ≤ n → dcN B p m = dcN C p m
  | 0, _ => rfl
  | m + 1, hm => by rw [dcN, dcN, dcN_cong h hp m (by omega), h (p + m) (by omega) (by omega)]
theorem t_cong (h : ∀ q, 0 ≤ q → q < n → B q = C q) {b : Int} (hb : 0 ≤ b) : tE B n b = tE C n b ∧ tK B n b = tK C n b ∧ tV B n b = tV C n b := by
  by_cases z : n ≤ b
  · have h1 := t_end (B := B) z
    have h2 := t_end (B := C) z
    exact ⟨by rw [h1.1, h2.1], by rw [h1.2.1, h2.2.1], by rw [h1.2.2, h2.2.2]⟩
  · have zb := h b hb (by omega)
    have e1 := smE_cong (n := n) hb h
    have e2 := dgE_cong (n := n) hb h
    have e3 := smE_cong (n := n) (p := b + 1) (by omega) h
    have hd : dgE B n b ≤ n := fwd_le _ (by omega)
    have hd0 : b ≤ dgE B n b := fwd_ge _ _ _
    have e4 := dcN_cong h hb (dgE B n b - b).toNat (by omega)
    unfold tE tK tV isTx isPt
    rw [← zb, ← e1, ← e2, ← e3, ← e4]
    exact ⟨rfl, by simp only [bA_cong h], rfl⟩
theorem sq_cong (h : ∀ q, 0 ≤ q → q < n → B q = C q) (hn : 0 ≤ n) : ∀ k : Nat, sq B n k = sq C n k
  | 0 => rfl
  | k + 1 => by
    have h0 := sq_nn B hn k
    have hge : sq B n k ≤ skp B n (sq B n k) := fwd_ge _ _ _
    rw [sq, sq, ← sq_cong h hn k, ← skp_cong h0 h, (t_cong h (by omega)).1]
theorem tk_cong (h : ∀ q, 0 ≤ q → q < n → B q = C q) (hn : 0 ≤ n) (k : Nat) : tkK B n k = tkK C n k ∧ tkB B n k = tkB C n k ∧ tkV B n k = tkV C n k := by
  have h0 := sq_nn B hn k
  have hge : sq B n k ≤ skp B n (sq B n k) := fwd_ge _ _ _
  unfold tkK tkB tkV
  rw [← sq_cong h hn k, ← skp_cong h0 h]
  have q := t_cong h (b := skp B n (sq B n k)) (by omega)
  exact ⟨q.2.1, rfl, q.2.2⟩
end CONG
/-- two that tell the same TOKENS -/
def BkE (b d : Bk) : Prop := b.K = d.K ∧ b.P = d.P ∧ b.V = d.V ∧ ∀ k, b.K k = 6 → b.Q k = d.Q k
theorem bkOf_E {B C : Int → Int} {n : Int} (h : ∀ q, 0 ≤ q → q < n → B q = C q) (hn : 0 ≤ n) : BkE (bkOf B n) (bkOf C n) := by
  refine ⟨funext fun k => (tk_cong h hn k).1, funext fun k => (tk_cong h hn k).2.1, funext fun k => (tk_cong h hn k).2.2, fun k hk => ?_⟩
  have q := qt_at (B := B) (n := n) (k := k) hk
  have hb := tkB_rg B hn k
  show rowL (fun i => B (tkB B n k + 1 + i) - 97) (tkV B n k) = rowL (fun i => C (tkB C n k + 1 + i) - 97) (tkV C n k)
  rw [← (tk_cong h hn k).2.1, ← (tk_cong h hn k).2.2]
  exact rowL_cong (fun i a w => by rw [h _ (by omega) (q.2 i a w).2])
section BKE
variable {b d : Bk} (E : BkE b d)
theorem numE_E (E : BkE b d) (k : Nat) (lo hi q : Int) : numE b k lo hi q = numE d k lo hi q := by unfold numE ftAt; rw [E.1, E.2.1, E.2.2.1]
theorem ftAt_E (E : BkE b d) (k : Nat) (q : Int) : ftAt b k q = ftAt d k q := by unfold ftAt; rw [E.1, E.2.1]
theorem cutE_E (E : BkE b d) (l : List Int) (k : Nat) : cutE b l k = cutE d l k := by unfold cutE; simp only [numE_E E, ftAt_E E, E.1]
theorem timesE_E (E : BkE b d) (l : List Int) (k : Nat) : timesE b l k = timesE d l k := by unfold timesE; simp only [numE_E E, E.2.1]
theorem unitL_E (E : BkE b d) : ∀ (f : Nat) (l : List Int) (k : Nat), unitL b f l k = unitL d f l k
  | 0, _, _ => rfl
  | f + 1, l, k => by
    rw [unitL, unitL, cutE_E E, E.1]
    cases cutE d l k with
    | error e => rfl
    | ok x => simp only [unitL_E E f]
theorem prodL_E (E : BkE b d) : ∀ (f : Nat) (l : List Int) (k : Nat), prodL b f l k = prodL d f l k
  | 0, _, _ => rfl
  | f + 1, l, k => by
    rw [prodL, prodL, timesE_E E, E.1]
    cases timesE d l k with
    | error e => rfl
    | ok x => simp only [prodL_E E f]
theorem sumL_E (E : BkE b d) {pr : Nat → PR} : ∀ (f : Nat) (l : List Int) (k : Nat), sumL b pr f l k = sumL d pr f l k
  | 0, _, _ => rfl
  | f + 1, l, k => by
    rw [sumL, sumL, E.1, E.2.1]
    cases pr (k + 1) with
    | error e => rfl
    | ok x => simp only [sumL_E E f]
theorem unitOf_E (E : BkE b d) (co : Nat → PR) : unitOf b co = unitOf d co := by
  funext k
  unfold unitOf
  cases co k with
  | error e => rfl
  | ok x => exact unitL_E E _ _ _
theorem prodOf_E (E : BkE b d) (co : Nat → PR) : prodOf b co = prodOf d co := by
  funext k
  unfold prodOf
  rw [unitOf_E E]
  cases unitOf d co k with
  | error e => rfl
  | ok x => exact prodL_E E _ _ _
theorem sumOf_E (E : BkE b d) (co : Nat → PR) : sumOf b co = sumOf d co := by
  funext k
  unfold sumOf
  rw [prodOf_E E]
  cases prodOf d co k with
  | error e => rfl
  | ok x => exact sumL_E E _ _ _
theorem leafE_E (E : BkE b d) (T : List (List Int)) (k : Nat) : leafE b T k = leafE d T k := by
  unfold leafE
  simp only [numE_E E, ftAt_E E]
  rw [← E.1, E.2.1, E.2.2.1]
  by_cases z : b.K k = 6
  · rw [if_pos z, if_pos z, E.2.2.2 k z]
  · rw [if_neg z, if_neg z]
theorem core_E (E : BkE b d) (T : List (List Int)) : ∀ r : Nat, core b T r = core d T r
  | 0 => by
    funext k
    rw [core, core, leafE_E E, E.1, E.2.1]
  | r + 1 => by
    funext k
    rw [core, core, leafE_E E, core_E E T r, E.1]
    unfold parE
    rw [sumOf_E E]
    simp only [ftAt_E E, E.1]
theorem headE_E (E : BkE b d) (T : List (List Int)) (k : Nat) : headE b T k = headE d T k := by unfold headE; simp only [numE_E E, ftAt_E E, E.1, E.2.1]
theorem bodyE_E (E : BkE b d) (T : List (List Int)) (k : Nat) : bodyE b T k = bodyE d T k := by unfold bodyE; simp only [sumOf_E E, core_E E, ftAt_E E, E.1]
theorem lineE_E (E : BkE b d) (T : List (List Int)) (k : Nat) : lineE b T k = lineE d T k := by unfold lineE; simp only [headE_E E, bodyE_E E]
theorem bookE_E (E : BkE b d) : ∀ (f : Nat) (T : List (List Int)) (k : Nat), bookE b f T k = bookE d f T k
  | 0, _, _ => rfl
  | f + 1, T, k => by
    rw [bookE, bookE, lineE_E E, E.1]
    cases lineE d T k with
    | error e => rfl
    | ok x => simp only [bookE_E E f]
end BKE
/-! lines and books of the model -/
theorem tsF_get (F : Int → Int → Int) (N : Int → Int) {c : Int} {j : Nat} (h : (j : Int) < c) : (tsF F N c)[j]? = some (rowL (F (j : Int)) (N (j : Int))) := by
  unfold tsF
  rw [List.getElem?_map, List.getElem?_range (by omega)]
  rfl
theorem tsF_no (F : Int → Int → Int) (N : Int → Int) {c : Int} {j : Nat} (hc : 0 ≤ c) (h : c ≤ (j : Int)) : (tsF F N c)[j]? = none := by
  rw [List.getElem?_eq_none_iff]
  have := tsF_len F N hc
  omega
theorem tsF_set {F : Int → Int → Int} {N : Int → Int} {c t : Int} {f : Int → Int} {n : Int} {F2 : Int → Int → Int} {N2 : Int → Int} {c2 : Int} (s : TextSet F N c t f n F2 N2 c2) (hc : 0 ≤ c) (ht : 0 ≤ t ∧ t ≤ c) : tsF F2 N2 c2 = setT (tsF F N c) t.toNat (rowL f n) := by
  obtain ⟨s1, s2, s3, s4⟩ := s
  have hlen := tsF_len F N hc
  have e1 : rowL (F2 t) (N2 t) = rowL f n := by rw [s2]; exact rowL_cong s3
  have e2 : ∀ j : Nat, (j : Int) ≠ t → (j : Int) < c → rowL (F2 (j : Int)) (N2 (j : Int)) = rowL (F (j : Int)) (N (j : Int)) := fun j hj hjc => by
    obtain ⟨q1, q2⟩ := s4 j (by omega) hjc hj
    rw [q1]
    exact rowL_cong q2
  apply List.ext_getElem?
  intro j
  unfold setT
  by_cases z : t.toNat = (tsF F N c).length
  · have htc : t = c := by omega
    rw [if_pos z]
    by_cases w : (j : Int) < c
    · rw [tsF_get _ _ (by omega), List.getElem?_append_left (by omega), tsF_get _ _ w, e2 j (by omega) w]
    · by_cases v : (j : Int) = t
      · rw [tsF_get _ _ (by omega), List.getElem?_append_right (by omega), show j - (tsF F N c).length = 0 by omega, v, e1]
        rfl
      · rw [tsF_no _ _ (by omega) (by omega), eq_comm, List.getElem?_eq_none_iff, List.length_append, List.length_singleton]
        omega
  · rw [if_neg z, List.getElem?_set]
    by_cases v : t.toNat = j
    · rw [if_pos v, if_pos (by omega), tsF_get _ _ (by omega), show (j : Int) = t by omega, e1]
    · rw [if_neg v]
      by_cases w : (j : Int) < c
      · rw [tsF_get _ _ (by omega), tsF_get _ _ w, e2 j (by omega) w]
      · rw [tsF_no _ _ (by omega) (by omega), tsF_no _ _ hc (by omega)]
theorem PutIs.line {al al2 pl : Int → Int} {n t : Int} (hM : MTx al) (hp : PutIs al pl n t al2) (ht : 0 ≤ t ∧ t ≤ al 0 ∧ t < 8) (hn : 1 ≤ n ∧ n ≤ 600) (hf : ∀ k, 0 ≤ k → k < n → 0 ≤ pl k ∧ pl k ≤ 25) : PSet al t pl n (up al2 0 (max (al2 0) (t + 1))) ∧ MTx (up al2 0 (max (al2 0) (t + 1))) ∧ ∀ j, 4809 ≤ j → up al2 0 (max (al2 0) (t + 1)) j = al j := by
  obtain ⟨p1, p2, p3⟩ := hp
  have hc := hM.1
  have hz : al2 0 = al 0 := p3 0 (by omega) (by omega)
  have hS : PSet al t pl n (up al2 0 (max (al2 0) (t + 1))) := by
    refine ⟨by rw [up_same, hz], ?_, fun k a b => ?_, fun j a b z => ⟨?_, fun k k0 k1 => ?_⟩⟩
    · unfold mN; rw [up_ne _ _ (by omega), p1]
    · unfold mF; rw [up_ne _ _ (by omega)]; exact p2 k a b
    · unfold mN; rw [up_ne _ _ (by omega), p3 _ (by omega) (by omega)]
    · have hl := (hM.2 j a b).1
      unfold mF; rw [up_ne _ _ (by omega), p3 _ (by omega) (by omega)]
  exact ⟨hS, hS.ok hM ht hn hf, fun j a => by rw [up_ne _ _ (by omega), p3 _ (by omega) (by omega)]⟩
/-- what a line of the model tells -/
def LnR (b : Bk) (T : List (List Int)) (k c : Nat) (B : Int → Int) (n fp0 r tk bg en ls vl ft fp : Int) (al9 : Int → Int) : Prop := (r = 1 ∧ ft = 0 ∧ fp = fp0 ∧ ∃ k9, lineE b T k = .ok (tsF (mF al9) (mN al9) (al9 0), k9) ∧ RdAt B n k9 tk bg en ls vl ∧ MTx al9 ∧ k9 ≤ c ∧ k < k9) ∨ (r = 0 ∧ ∃ e, lineE b T k = .error e ∧ ft = e.1 ∧ fp = e.2 ∧ (1 ≤ e.1 ∧ e.1 ≤ 9))
theorem LnR.no {b : Bk} {T : List (List Int)} {k c : Nat} {B : Int → Int} {n fp0 tk bg en ls vl ft fp : Int} {al9 : Int → Int} {e : Ft} (h : lineE b T k = .error e) (h1 : ft = e.1) (h2 : fp = e.2) (h3 : 1 ≤ e.1 ∧ e.1 ≤ 9) : LnR b T k c B n fp0 0 tk bg en ls vl ft fp al9 := Or.inr ⟨rfl, e, h, h1, h2, h3⟩
section HEAD
variable {b : Bk} {T : List (List Int)} {k : Nat}
theorem head_t6 (h : b.K k = 3) (w : 8 ≤ T.length) : headE b T k = .error (6, b.P k) := by unfold headE; rw [if_pos h, if_pos w]
theorem head_t (h : b.K k = 3) (w : ¬ 8 ≤ T.length) : headE b T k = .ok (T.length, k + 1) := by unfold headE; rw [if_pos h, if_neg w]
theorem head_0 (h : b.K k ≠ 3) (w : b.K k ≠ 4) : headE b T k = .error (ftAt b k 2) := by unfold headE; rw [if_neg h, if_neg w]
theorem head_n {e : Ft} (h : b.K k = 4) (w : numE b (k + 1) 0 ((T.length : Int) - 1) 3 = .error e) : headE b T k = .error e := by unfold headE; rw [if_neg (by rw [h]; decide), if_pos h, w]
theorem head_s {v : Int} (h : b.K k = 4) (w : numE b (k + 1) 0 ((T.length : Int) - 1) 3 = .ok v) (z : b.K (k + 2) ≠ 61) : headE b T k = .error (ftAt b (k + 2) 2) := by
  unfold headE; rw [if_neg (by rw [h]; decide), if_pos h, w]
  show (if b.K (k + 2) = 61 then _ else _) = _
  rw [if_neg z]
theorem head_p {v : Int} (h : b.K k = 4) (w : numE b (k + 1) 0 ((T.length : Int) - 1) 3 = .ok v) (z : b.K (k + 2) = 61) : headE b T k = .ok (v.toNat, k + 3) := by
  unfold headE; rw [if_neg (by rw [h]; decide), if_pos h, w]
  show (if b.K (k + 2) = 61 then _ else _) = _
  rw [if_pos z]
theorem body_e {e : Ft} (h : sumOf b (core b T 6) k = .error e) : bodyE b T k = .error e := by unfold bodyE; rw [h]
theorem body_s {l : List Int} {k9 : Nat} (h : sumOf b (core b T 6) k = .ok (l, k9)) (z : b.K k9 ≠ 59) : bodyE b T k = .error (ftAt b k9 2) := by
  unfold bodyE; rw [h]
  show (if b.K k9 = 59 then _ else _) = _
  rw [if_neg z]
theorem body_o {l : List Int} {k9 : Nat} (h : sumOf b (core b T 6) k = .ok (l, k9)) (z : b.K k9 = 59) : bodyE b T k = .ok (l, k9 + 1) := by
  unfold bodyE; rw [h]
  show (if b.K k9 = 59 then _ else _) = _
  rw [if_pos z]
end HEAD
/-- how far the model has read a book -/
def BkS (B : Int → Int) (v : Int) (c k f : Nat) (g tk bg en ls vl ft fp : Int) (al8 : Int → Int) : Prop :=
  (g = 1 ∧ ft = 0 ∧ fp = -1 ∧ RdAt B v k tk bg en ls vl ∧ MTx al8 ∧ k ≤ c ∧ c + 1 ≤ k + f ∧ bookE (bkOf B v) 901 [] 0 = bookE (bkOf B v) f (tsF (mF al8) (mN al8) (al8 0)) k) ∨ (g = 0 ∧ ∃ e, bookE (bkOf B v) 901 [] 0 = .error e ∧ ft = e.1 ∧ fp = e.2 ∧ (1 ≤ e.1 ∧ e.1 ≤ 9))
theorem BkS.step {B : Int → Int} {v : Int} {c k f : Nat} {g tk bg en ls vl ft fp : Int} {al8 : Int → Int} {r tk9 bg9 en9 ls9 vl9 ft9 fp9 : Int} {al9 : Int → Int} (h : BkS B v c k f g tk bg en ls vl ft fp al8) (hg : g ≠ 0) (ht : tk ≠ 0) (q : LnR (bkOf B v) (tsF (mF al8) (mN al8) (al8 0)) k c B v fp r tk9 bg9 en9 ls9 vl9 ft9 fp9 al9) : ∃ k9 f9 : Nat, BkS B v c k9 f9 r tk9 bg9 en9 ls9 vl9 ft9 fp9 al9 ∧ k < k9 ∧ k9 ≤ c + 1 := by
  rcases h with ⟨g1, g2, g0, g3, g4, g5, g6, g7⟩ | h
  · have hK : (bkOf B v).K k ≠ 0 := fun z => ht (g3.i0.mpr z)
    rcases q with ⟨q1, q2, q0, k9, q3, q4, q5, q6, q7⟩ | ⟨q1, e, q2, q3, q4, q5⟩
    · exact ⟨k9, f - 1, Or.inl ⟨q1, q2, by omega, q4, q5, q6, by omega, g7.trans (book_line (by omega) hK q3)⟩, q7, by omega⟩
    · exact ⟨k + 1, 0, Or.inr ⟨q1, e, g7.trans (book_er (by omega) hK q2), q3, q4, q5⟩, by omega, by omega⟩
  · exact absurd h.1 hg
theorem tsF_cong {F F2 : Int → Int → Int} {N N2 : Int → Int} {c c2 : Int} (hc : c2 = c) (hN : ∀ t, 0 ≤ t → t < c → N2 t = N t) (hF : ∀ t, 0 ≤ t → t < c → ∀ k, 0 ≤ k → k < N t → F2 t k = F t k) : tsF F2 N2 c2 = tsF F N c := by
  subst hc
  unfold tsF
  apply List.map_congr_left
  intro t ht
  rw [List.mem_range] at ht
  rw [hN t (by omega) (by omega)]
  exact rowL_cong (fun k a b => hF t (by omega) (by omega) k a b)
theorem PreAct.ts {al8 al3 : Int → Int} {T : List (List Int)} (h : MTx al8) (hT : tsF (mF al8) (mN al8) (al8 0) = T) (q : ∀ j, 0 ≤ j → j < 4809 → al3 j = al8 j) : tsF (mF al3) (mN al3) (al3 0) = T ∧ MTx al3 := by
  have hc := h.1
  have h0 : al3 0 = al8 0 := q 0 (by omega) (by omega)
  have hN : ∀ t, 0 ≤ t → t < al8 0 → mN al3 t = mN al8 t := fun t a b => by unfold mN; exact q _ (by omega) (by omega)
  have hF : ∀ t, 0 ≤ t → t < al8 0 → ∀ k, 0 ≤ k → k < mN al8 t → mF al3 t k = mF al8 t k := fun t a b k k0 k1 => by
    have hl := (h.2 t a b).1
    unfold mF
    exact q _ (by omega) (by omega)
  exact ⟨by rw [← hT]; exact tsF_cong h0 hN hF, h.cong h0 hN hF⟩
