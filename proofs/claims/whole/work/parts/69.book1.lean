/-! ===== pure: both readers tell the same ===== -/
def revN : Nat → List Int → List Int
  | 0, c => c
  | m + 1, c => revN m c.reverse
def noT (st : Sk) : Prop := ∀ e st', st = e :: st' → e.1 ≠ 126
theorem popT_no {p : Nat} {l : List Int} {st : Sk} (h : noT st) : popT p l st = (l, st) := by
  cases st with
  | nil => rfl
  | cons e st => rw [popT, if_neg (h e st rfl)]
theorem revP_app (l c : List Int) : revP l.length (l ++ c) = l ++ c.reverse := by
  unfold revP
  rw [List.take_left, List.drop_left]
theorem popT_rep {st : Sk} (h : noT st) (l : List Int) (s p : Int) : ∀ (m : Nat) (c : List Int), popT l.length (l ++ c) (List.replicate m (126, s, p) ++ st) = (l ++ revN m c, st)
  | 0, c => by rw [List.replicate_zero, List.nil_append, popT_no h]; rfl
  | m + 1, c => by
    rw [List.replicate_succ, List.cons_append, popT, if_pos rfl, revP_app, popT_rep h l s p m]
    rfl
/-- a state ahead of the end of a product -/
def sgOk (b : Bk) (k : Nat) (g : Int) : Prop := (g = 1 ∧ b.K k ≠ 91) ∨ g = 2
section MACH
variable {b : Bk} {T : List (List Int)} {c : Nat} {R : PR}
theorem stp_eq (k : Nat) (l : List Int) (st : Sk) (s p g : Int) : stp b T (k, l, st, s, p, g) = (if g = 0 then stpC b T k l st s p
    else if b.K k = 42 then (match timesE b (l.drop p.toNat) k with
      | .error e => .error e
      | .ok y => .ok (y.2, l.take p.toNat ++ y.1, st, s, p, 2))
    else if b.K k = 91 ∧ g = 1 then (match cutE b (l.drop p.toNat) k with
      | .error e => .error e
      | .ok y => .ok (y.2, l.take p.toNat ++ y.1, st, s, p, 1))
    else stpP b k l st s p) := rfl
theorem stp_0 (k : Nat) (l : List Int) (st : Sk) (s p : Int) : stp b T (k, l, st, s, p, 0) = stpC b T k l st s p := by rw [stp_eq, if_pos rfl]
theorem stg_ne {k : Nat} {l : List Int} {st : Sk} {s p g : Int} (h : g = 0 ∨ g = 1 ∨ g = 2) : stg (k, l, st, s, p, g) ≠ 3 := by
  show g ≠ 3
  omega
theorem m_unit (hb : BkOk b T c) : ∀ (f : Nat) {k : Nat} {l u : List Int} {st : Sk} {s : Int}, k ≤ c → c + 1 ≤ k + f →
    (∀ x, unitL b f u k = .ok x → Fin_ b T (x.2, l ++ x.1, st, s, l.length, 1) R) → (∀ e, unitL b f u k = .error e → R = .error e) → Fin_ b T (k, l ++ u, st, s, l.length, 1) R
  | 0, k, l, u, st, s, hk, hf, _, _ => by omega
  | f + 1, k, l, u, st, s, hk, hf, h1, h2 => by
    by_cases z : b.K k = 91
    · have es : stp b T (k, l ++ u, st, s, (l.length : Int), 1) = (match cutE b u k with
          | .error e => .error e
          | .ok y => .ok (y.2, l ++ y.1, st, s, (l.length : Int), 1)) := by
        rw [stp_eq, if_neg (by decide), if_neg (by rw [z]; decide), if_pos ⟨z, rfl⟩, Int.toNat_natCast, List.drop_left, List.take_left]
      rw [unitL, if_pos z] at h1 h2
      cases hc : cutE b u k with
      | error e =>
        rw [hc] at es h2
        rw [h2 e rfl]
        exact Fin_.er (stg_ne (by omega)) es
      | ok y =>
        rw [hc] at es h1 h2
        obtain ⟨g1, g2, g3⟩ := cutE_ok hb (hb.nx hk (by rw [z]; decide)) hc
        exact Fin_.st (stg_ne (by omega)) es (m_unit hb f g1 (by omega) h1 h2)
    · rw [unitL, if_neg z] at h1
      exact h1 (u, k) rfl
theorem m_prod (hb : BkOk b T c) : ∀ (f : Nat) {k : Nat} {l u : List Int} {st : Sk} {s g : Int}, k ≤ c → c + 1 ≤ k + f → sgOk b k g →
    (∀ x g', prodL b f u k = .ok x → sgOk b x.2 g' → Fin_ b T (x.2, l ++ x.1, st, s, l.length, g') R) → (∀ e, prodL b f u k = .error e → R = .error e) → Fin_ b T (k, l ++ u, st, s, l.length, g) R
  | 0, k, l, u, st, s, g, hk, hf, _, _, _ => by omega
  | f + 1, k, l, u, st, s, g, hk, hf, hg, h1, h2 => by
    have hg' : g = 1 ∨ g = 2 := by rcases hg with z | z <;> omega
    by_cases z : b.K k = 42
    · have es : stp b T (k, l ++ u, st, s, (l.length : Int), g) = (match timesE b u k with
          | .error e => .error e
          | .ok y => .ok (y.2, l ++ y.1, st, s, (l.length : Int), 2)) := by
        rw [stp_eq, if_neg (by omega), if_pos z, Int.toNat_natCast, List.drop_left, List.take_left]
      rw [prodL, if_pos z] at h1 h2
      cases hc : timesE b u k with
      | error e =>
        rw [hc] at es h2
        rw [h2 e rfl]
        exact Fin_.er (stg_ne (by omega)) es
      | ok y =>
        rw [hc] at es h1 h2
        obtain ⟨g1, g2, g3⟩ := timesE_ok hb (hb.nx hk (by rw [z]; decide)) hc
        exact Fin_.st (stg_ne (by omega)) es (m_prod hb f g1 (by omega) (Or.inr rfl) h1 h2)
    · rw [prodL, if_neg z] at h1
      exact h1 (u, k) g rfl hg
/-- what is asked of the steps through a CORE -/
def CoM (b : Bk) (T : List (List Int)) (c r : Nat) : Prop := ∀ (R : PR) (k m : Nat) (l : List Int) (st : Sk) (s : Int), k ≤ c → noT st → m + st.length + r = 6 →
    (∀ x, core b T r k = .ok x → Fin_ b T (x.2, l ++ revN m x.1, st, s, l.length, 1) R) → (∀ e, core b T r k = .error e → R = .error e) → Fin_ b T (k, l, List.replicate m (126, s, (l.length : Int)) ++ st, s, l.length, 0) R
theorem m_prodOf (hb : BkOk b T c) {r : Nat} (hc : CoM b T c r) {k : Nat} {l : List Int} {st : Sk} {s : Int} (hk : k ≤ c) (hn : noT st) (hr : st.length + r = 6)
    (h1 : ∀ x g', prodOf b (core b T r) k = .ok x → sgOk b x.2 g' → Fin_ b T (x.2, l ++ x.1, st, s, l.length, g') R) (h2 : ∀ e, prodOf b (core b T r) k = .error e → R = .error e) : Fin_ b T (k, l, st, s, l.length, 0) R := by
  have hc9 := hb.2.2.2
  refine hc R k 0 l st s hk hn (by omega) (fun x hx => ?_) (fun e he => ?_)
  · show Fin_ b T (x.2, l ++ x.1, st, s, l.length, 1) R
    have g := core_ok hb r k x hk hx
    unfold prodOf unitOf at h1 h2
    rw [hx] at h1 h2
    simp only at h1 h2
    refine m_unit hb 1000 g.1 (by omega) (fun y hy => ?_) (fun e he => ?_)
    · have gy := unitL_ok hb _ g.1 hy
      rw [hy] at h1 h2
      simp only at h1 h2
      exact m_prod hb 1000 gy.1 (by omega) (Or.inl ⟨rfl, gy.2.2.2⟩) h1 h2
    · rw [he] at h2
      exact h2 e rfl
  · unfold prodOf unitOf at h2
    rw [he] at h2
    exact h2 e rfl
theorem len_sub (l u : List Int) : ((l ++ u).length : Int) - (l.length : Int) = (u.length : Int) := by
  rw [List.length_append]
  omega
theorem m_sumL (hb : BkOk b T c) {r : Nat} (hc : CoM b T c r) {l : List Int} {st : Sk} (hn : noT st) (hr : st.length + r = 6) : ∀ (f : Nat) {k : Nat} {u : List Int} {p g : Int}, k ≤ c → c + 1 ≤ k + f → sgOk b k g → b.K k ≠ 42 → (u.length : Int) ≤ 600 →
    (∀ x p' g', sumL b (prodOf b (core b T r)) f u k = .ok x → sgOk b x.2 g' → Fin_ b T (x.2, l ++ x.1, st, l.length, p', g') R) → (∀ e, sumL b (prodOf b (core b T r)) f u k = .error e → R = .error e) → Fin_ b T (k, l ++ u, st, l.length, p, g) R
  | 0, k, u, p, g, hk, hf, _, _, _, _, _ => by omega
  | f + 1, k, u, p, g, hk, hf, hg, h42, hu, h1, h2 => by
    have hg' : g = 1 ∨ g = 2 := by rcases hg with z | z <;> omega
    by_cases z : b.K k = 43
    · have es : stp b T (k, l ++ u, st, (l.length : Int), p, g) = .ok (k + 1, l ++ u, st, (l.length : Int), ((l ++ u).length : Int), 0) := by
        rw [stp_eq, if_neg (by omega), if_neg h42, if_neg (fun q => by rw [z] at q; exact absurd q.1 (by decide))]
        unfold stpP
        rw [if_neg (by rw [len_sub]; omega), if_pos z]
      rw [sumL, if_pos z] at h1 h2
      refine Fin_.st (stg_ne (by omega)) es (m_prodOf hb hc (hb.nx hk (by rw [z]; decide)) hn hr (fun y g' hy hgy => ?_) (fun e he => ?_))
      · have gy := prodOf_ok hb (core_ok hb r) (hb.nx hk (by rw [z]; decide)) hy
        rw [hy] at h1 h2
        simp only at h1 h2
        rw [List.append_assoc]
        by_cases w : 600 < ((u ++ y.1).length : Int)
        · rw [if_pos w] at h2
          rw [h2 _ rfl]
          refine Fin_.er (stg_ne (by rcases hgy with q | q <;> omega)) ?_
          rw [stp_eq, if_neg (by rcases hgy with q | q <;> omega), if_neg gy.2.2.2, if_neg (by rcases hgy with q | q <;> (intro q2; first | exact q.2 q2.1 | omega))]
          unfold stpP
          rw [if_pos (by rw [len_sub]; exact w)]
        · rw [if_neg w] at h1 h2
          exact m_sumL hb hc hn hr f gy.1 (by omega) hgy gy.2.2.2 (by omega) h1 h2
      · rw [he] at h2
        exact h2 e rfl
    · rw [sumL, if_neg z] at h1
      exact h1 (u, k) p g rfl hg
theorem m_sumOf (hb : BkOk b T c) {r : Nat} (hc : CoM b T c r) {k : Nat} {l : List Int} {st : Sk} (hk : k ≤ c) (hn : noT st) (hr : st.length + r = 6)
    (h1 : ∀ x p' g', sumOf b (core b T r) k = .ok x → sgOk b x.2 g' → Fin_ b T (x.2, l ++ x.1, st, l.length, p', g') R) (h2 : ∀ e, sumOf b (core b T r) k = .error e → R = .error e) : Fin_ b T (k, l, st, l.length, l.length, 0) R := by
  have hc9 := hb.2.2.2
  refine m_prodOf hb hc hk hn hr (fun y g' hy hgy => ?_) (fun e he => ?_)
  · have gy := prodOf_ok hb (core_ok hb r) hk hy
    unfold sumOf at h1 h2
    rw [hy] at h1 h2
    simp only at h1 h2
    exact m_sumL hb hc hn hr 1000 gy.1 (by omega) hgy gy.2.2.2 gy.2.2.1 h1 h2
  · unfold sumOf at h2
    rw [he] at h2
    exact h2 e rfl
/-- the step behind a SUM -/
theorem stp_end {k : Nat} {l u : List Int} {st : Sk} {p g : Int} (hg : sgOk b k g) (h42 : b.K k ≠ 42) (h43 : b.K k ≠ 43) (hu : (u.length : Int) ≤ 600) : stp b T (k, l ++ u, st, (l.length : Int), p, g) = (match st with
    | [] => if b.K k = 59 then .ok (k + 1, l ++ u, [], (l.length : Int), p, 3) else .error (ftAt b k 2)
    | e :: st' => if b.K k = 41 then .ok (endC (k + 1) (l ++ u) st' e.2.1 e.2.2) else .error (ftAt b k 2)) := by
  rw [stp_eq, if_neg (by rcases hg with q | q <;> omega), if_neg h42, if_neg (by rcases hg with q | q <;> (intro q2; first | exact q.2 q2.1 | omega))]
  unfold stpP
  rw [if_neg (by rw [len_sub]; omega), if_neg h43]
  cases st <;> rfl
theorem m_leaf (hb : BkOk b T c) {k m : Nat} {l : List Int} {st : Sk} {s : Int} (hk : k ≤ c) (hn : noT st) (z : ¬ (b.K k = 40 ∨ b.K k = 126))
    (h1 : ∀ x, leafE b T k = .ok x → Fin_ b T (x.2, l ++ revN m x.1, st, s, l.length, 1) R) (h2 : ∀ e, leafE b T k = .error e → R = .error e) : Fin_ b T (k, l, List.replicate m (126, s, (l.length : Int)) ++ st, s, l.length, 0) R := by
  have es : stp b T (k, l, List.replicate m (126, s, (l.length : Int)) ++ st, s, (l.length : Int), 0) = (match leafE b T k with
      | .error e => .error e
      | .ok x => .ok (endC x.2 (l ++ x.1) (List.replicate m (126, s, (l.length : Int)) ++ st) s (l.length : Int))) := by
    rw [stp_0]
    unfold stpC
    rw [if_neg z]
    cases leafE b T k <;> rfl
  cases hx : leafE b T k with
  | error e =>
    rw [hx] at es
    rw [h2 e hx]
    exact Fin_.er (stg_ne (by omega)) es
  | ok x =>
    rw [hx] at es
    refine Fin_.st (stg_ne (by omega)) es ?_
    unfold endC
    rw [Int.toNat_natCast, popT_rep hn]
    exact h1 x hx
theorem m_core (hb : BkOk b T c) : ∀ r : Nat, CoM b T c r
  | 0 => by
    intro R k m l st s hk hn hr h1 h2
    rw [core] at h1 h2
    by_cases z : b.K k = 40 ∨ b.K k = 126
    · rw [if_pos z] at h2
      rw [h2 _ rfl]
      refine Fin_.er (stg_ne (by omega)) ?_
      rw [stp_0]
      unfold stpC
      rw [if_pos z, if_pos (by rw [List.length_append, List.length_replicate]; omega)]
    · rw [if_neg z] at h1 h2
      exact m_leaf hb hk hn z h1 h2
  | r + 1 => by
    intro R k m l st s hk hn hr h1 h2
    have ih := m_core hb r
    rw [core] at h1 h2
    by_cases z : b.K k = 40
    · rw [if_pos z] at h1 h2
      have es : stp b T (k, l, List.replicate m (126, s, (l.length : Int)) ++ st, s, (l.length : Int), 0) = .ok (k + 1, l, (40, s, (l.length : Int)) :: (List.replicate m (126, s, (l.length : Int)) ++ st), (l.length : Int), (l.length : Int), 0) := by
        rw [stp_0]
        unfold stpC
        rw [if_pos (Or.inl z), if_neg (by rw [List.length_append, List.length_replicate]; omega), if_pos z]
      have g0 := hb.nx hk (by rw [z]; decide)
      refine Fin_.st (stg_ne (by omega)) es (m_sumOf hb ih g0 (fun e st' he => ?_) ?_ (fun x p' g' hx hg => ?_) (fun e he => ?_))
      · injection he with he _
        rw [← he]
        show (40 : Int) ≠ 126
        decide
      · rw [List.length_cons, List.length_append, List.length_replicate]
        omega
      · obtain ⟨g1, g2, g3, g4, g5⟩ := sumOf_ok hb (core_ok hb r) g0 hx
        unfold parE at h1 h2
        rw [hx] at h1 h2
        simp only at h1 h2
        have es2 := stp_end (T := T) (l := l) (u := x.1) (st := (40, s, (l.length : Int)) :: (List.replicate m (126, s, (l.length : Int)) ++ st)) (p := p') hg g4 g5 g3
        simp only at es2
        by_cases w : b.K x.2 = 41
        · rw [if_pos w] at h1 es2
          refine Fin_.st (stg_ne (by rcases hg with q | q <;> omega)) es2 ?_
          unfold endC
          rw [Int.toNat_natCast, popT_rep hn]
          exact h1 _ rfl
        · rw [if_neg w] at h2 es2
          rw [h2 _ rfl]
          exact Fin_.er (stg_ne (by rcases hg with q | q <;> omega)) es2
      · unfold parE at h2
        rw [he] at h2
        exact h2 e rfl
    · rw [if_neg z] at h1 h2
      by_cases y : b.K k = 126
      · rw [if_pos y] at h1 h2
        have es : stp b T (k, l, List.replicate m (126, s, (l.length : Int)) ++ st, s, (l.length : Int), 0) = .ok (k + 1, l, List.replicate (m + 1) (126, s, (l.length : Int)) ++ st, s, (l.length : Int), 0) := by
          rw [stp_0]
          unfold stpC
          rw [if_pos (Or.inr y), if_neg (by rw [List.length_append, List.length_replicate]; omega), if_neg z]
          rfl
        refine Fin_.st (stg_ne (by omega)) es (ih R (k + 1) (m + 1) l st s (hb.nx hk (by rw [y]; decide)) hn (by omega) (fun x hx => ?_) (fun e he => ?_))
        · unfold tilE at h1
          rw [hx] at h1
          exact h1 _ rfl
        · unfold tilE at h2
          rw [he] at h2
          exact h2 e rfl
      · rw [if_neg y] at h1 h2
        exact m_leaf hb hk hn (by omega) h1 h2
end MACH
/-- a line behind its head: the letters, and the TOKEN behind the ; -/
def bodyE (b : Bk) (T : List (List Int)) (k : Nat) : PR := match sumOf b (core b T 6) k with
  | .error e => .error e
  | .ok x => if b.K x.2 = 59 then .ok (x.1, x.2 + 1) else .error (ftAt b x.2 2)
theorem m_body {b : Bk} {T : List (List Int)} {c : Nat} (hb : BkOk b T c) {k : Nat} (hk : k ≤ c) : Fin_ b T (k, [], [], 0, 0, 0) (bodyE b T k) := by
  have := m_sumOf (R := bodyE b T k) hb (m_core hb 6) (l := []) (st := []) hk (fun e st' he => by cases he) rfl (fun x p' g' hx hg => ?_) (fun e he => ?_)
  · exact this
  · obtain ⟨g1, g2, g3, g4, g5⟩ := sumOf_ok hb (core_ok hb 6) hk hx
    have es2 := stp_end (T := T) (l := []) (u := x.1) (st := []) (p := p') hg g4 g5 g3
    simp only at es2
    unfold bodyE
    rw [hx]
    simp only
    by_cases w : b.K x.2 = 59
    · rw [if_pos w] at es2 ⊢
      exact Fin_.st (stg_ne (by rcases hg with q | q <;> omega)) es2 (Fin_.ok rfl)
    · rw [if_neg w] at es2 ⊢
      exact Fin_.er (stg_ne (by rcases hg with q | q <;> omega)) es2
  · unfold bodyE
    rw [he]
/-- the head of a line: which text, and the TOKEN behind it -/
def headE (b : Bk) (T : List (List Int)) (k : Nat) : Except Ft (Nat × Nat) := if b.K k = 3 then (if 8 ≤ T.length then .error (6, b.P k) else .ok (T.length, k + 1))
  else if b.K k = 4 then (match numE b (k + 1) 0 ((T.length : Int) - 1) 3 with
    | .error e => .error e
    | .ok v => if b.K (k + 2) = 61 then .ok (v.toNat, k + 3) else .error (ftAt b (k + 2) 2)) else .error (ftAt b k 2)
def setT (T : List (List Int)) (t : Nat) (l : List Int) : List (List Int) := if t = T.length then T ++ [l] else T.set t l
def lineE (b : Bk) (T : List (List Int)) (k : Nat) : Except Ft (List (List Int) × Nat) := match headE b T k with
  | .error e => .error e
  | .ok h => match bodyE b T h.2 with
    | .error e => .error e
    | .ok x => .ok (setT T h.1 x.1, x.2)
def bookE (b : Bk) : Nat → List (List Int) → Nat → Except Ft (List (List Int))
  | 0, _, _ => .error (0, 0)
  | f + 1, T, k => if b.K k = 0 then .ok T else match lineE b T k with
    | .error e => .error e
    | .ok x => bookE b f x.1 x.2
