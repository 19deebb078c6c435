/-! ===== pure: what a BOOK tells: one reader that calls itself, one that goes step by step ===== -/
abbrev Ft : Type := Int × Int
abbrev PR : Type := Except Ft (List Int × Nat)
/-- kinds, places, numbers, quoted letters of the TOKENS -/
def Bk : Type := (Nat → Int) × (Nat → Int) × (Nat → Int) × (Nat → List Int)
def Bk.K (b : Bk) : Nat → Int := b.1
def Bk.P (b : Bk) : Nat → Int := b.2.1
def Bk.V (b : Bk) : Nat → Int := b.2.2.1
def Bk.Q (b : Bk) : Nat → List Int := b.2.2.2
def ftAt (b : Bk) (k : Nat) (q : Int) : Ft := (if b.K k = 1 then 1 else q, b.P k)
def numE (b : Bk) (k : Nat) (lo hi q : Int) : Except Ft Int := if b.K k = 5 then (if lo ≤ b.V k ∧ b.V k ≤ hi then .ok (b.V k) else .error (q, b.P k)) else .error (ftAt b k 2)
def cutE (b : Bk) (l : List Int) (k : Nat) : PR := match numE b (k + 1) 0 ((l.length : Int) - 1) 4 with
  | .error e => .error e
  | .ok a => if b.K (k + 2) = 44 then (match numE b (k + 3) 1 ((l.length : Int) - a) 4 with
      | .error e => .error e
      | .ok m => if b.K (k + 4) = 93 then .ok ((l.drop a.toNat).take m.toNat, k + 5) else .error (ftAt b (k + 4) 2)) else .error (ftAt b (k + 2) 2)
def unitL (b : Bk) : Nat → List Int → Nat → PR
  | 0, _, _ => .error (0, 0)
  | f + 1, l, k => if b.K k = 91 then (match cutE b l k with
    | .error e => .error e
    | .ok x => unitL b f x.1 x.2) else .ok (l, k)
def rep (v : Int) (l : List Int) : List Int := (List.replicate v.toNat l).flatten
def timesE (b : Bk) (l : List Int) (k : Nat) : PR := match numE b (k + 1) 1 600 4 with
  | .error e => .error e
  | .ok v => if 600 < (l.length : Int) * v then .error (5, b.P (k + 1)) else .ok (rep v l, k + 2)
def prodL (b : Bk) : Nat → List Int → Nat → PR
  | 0, _, _ => .error (0, 0)
  | f + 1, l, k => if b.K k = 42 then (match timesE b l k with
    | .error e => .error e
    | .ok x => prodL b f x.1 x.2) else .ok (l, k)
def sumL (b : Bk) (pr : Nat → PR) : Nat → List Int → Nat → PR
  | 0, _, _ => .error (0, 0)
  | f + 1, l, k => if b.K k = 43 then (match pr (k + 1) with
    | .error e => .error e
    | .ok x => if 600 < ((l ++ x.1).length : Int) then .error (5, b.P (x.2 - 1)) else sumL b pr f (l ++ x.1) x.2) else .ok (l, k)
def unitOf (b : Bk) (co : Nat → PR) (k : Nat) : PR := match co k with
  | .error e => .error e
  | .ok x => unitL b 1000 x.1 x.2
def prodOf (b : Bk) (co : Nat → PR) (k : Nat) : PR := match unitOf b co k with
  | .error e => .error e
  | .ok x => prodL b 1000 x.1 x.2
def sumOf (b : Bk) (co : Nat → PR) (k : Nat) : PR := match prodOf b co k with
  | .error e => .error e
  | .ok x => sumL b (prodOf b co) 1000 x.1 x.2
def leafE (b : Bk) (T : List (List Int)) (k : Nat) : PR := if b.K k = 6 then (if 600 < b.V k then .error (5, b.P k) else .ok (b.Q k, k + 1))
  else if b.K k = 35 then (match numE b (k + 1) 0 ((T.length : Int) - 1) 3 with
    | .error e => .error e
    | .ok v => .ok (T.getD v.toNat [], k + 2)) else .error (ftAt b k 2)
def parE (b : Bk) (co : Nat → PR) (k : Nat) : PR := match sumOf b co (k + 1) with
  | .error e => .error e
  | .ok x => if b.K x.2 = 41 then .ok (x.1, x.2 + 1) else .error (ftAt b x.2 2)
def tilE (co : Nat → PR) (k : Nat) : PR := match co (k + 1) with
  | .error e => .error e
  | .ok x => .ok (x.1.reverse, x.2)
def core (b : Bk) (T : List (List Int)) : Nat → Nat → PR
  | 0, k => if b.K k = 40 ∨ b.K k = 126 then .error (6, b.P k) else leafE b T k
  | r + 1, k => if b.K k = 40 then parE b (core b T r) k else if b.K k = 126 then tilE (core b T r) k else leafE b T k
/-! the step by step one -/
abbrev Sk : Type := List (Int × Int × Int)
/-- finger, row, brackets, where the SUM and the PRODUCT begin, stage -/
abbrev PS : Type := Nat × List Int × Sk × Int × Int × Int
def revP (p : Nat) (l : List Int) : List Int := l.take p ++ (l.drop p).reverse
def popT (p : Nat) : List Int → Sk → List Int × Sk
  | l, [] => (l, [])
  | l, e :: st => if e.1 = 126 then popT p (revP p l) st else (l, e :: st)
def endC (k : Nat) (l : List Int) (st : Sk) (s p : Int) : PS := (k, (popT p.toNat l st).1, (popT p.toNat l st).2, s, p, 1)
def stpC (b : Bk) (T : List (List Int)) (k : Nat) (l : List Int) (st : Sk) (s p : Int) : Except Ft PS :=
  if b.K k = 40 ∨ b.K k = 126 then (if 6 ≤ st.length then .error (6, b.P k) else if b.K k = 40 then .ok (k + 1, l, (40, s, p) :: st, l.length, l.length, 0) else .ok (k + 1, l, (126, s, p) :: st, s, p, 0))
  else match leafE b T k with
    | .error e => .error e
    | .ok x => .ok (endC x.2 (l ++ x.1) st s p)
def stpP (b : Bk) (k : Nat) (l : List Int) (st : Sk) (s p : Int) : Except Ft PS :=
  if 600 < (l.length : Int) - s then .error (5, b.P (k - 1))
  else if b.K k = 43 then .ok (k + 1, l, st, s, l.length, 0)
  else match st with
    | [] => if b.K k = 59 then .ok (k + 1, l, [], s, p, 3) else .error (ftAt b k 2)
    | e :: st' => if b.K k = 41 then .ok (endC (k + 1) l st' e.2.1 e.2.2) else .error (ftAt b k 2)
def stp (b : Bk) (T : List (List Int)) (x : PS) : Except Ft PS := match x with
  | (k, l, st, s, p, g) => if g = 0 then stpC b T k l st s p
    else if b.K k = 42 then (match timesE b (l.drop p.toNat) k with
      | .error e => .error e
      | .ok y => .ok (y.2, l.take p.toNat ++ y.1, st, s, p, 2))
    else if b.K k = 91 ∧ g = 1 then (match cutE b (l.drop p.toNat) k with
      | .error e => .error e
      | .ok y => .ok (y.2, l.take p.toNat ++ y.1, st, s, p, 1))
    else stpP b k l st s p
def stg (x : PS) : Int := x.2.2.2.2.2
def runF (b : Bk) (T : List (List Int)) : Nat → PS → Option PR
  | 0, x => if stg x = 3 then some (.ok (x.2.1, x.1)) else none
  | n + 1, x => if stg x = 3 then some (.ok (x.2.1, x.1)) else match stp b T x with
    | .error e => some (.error e)
    | .ok y => runF b T n y
def Fin_ (b : Bk) (T : List (List Int)) (x : PS) (r : PR) : Prop := ∃ n, runF b T n x = some r
theorem Fin_.done {b : Bk} {T : List (List Int)} {x : PS} {r : PR} (h : Fin_ b T x r) (q : stg x = 3) : r = .ok (x.2.1, x.1) := by
  obtain ⟨n, h⟩ := h
  cases n with
  | zero => rw [runF, if_pos q] at h; exact (Option.some.inj h).symm
  | succ n => rw [runF, if_pos q] at h; exact (Option.some.inj h).symm
theorem Fin_.next {b : Bk} {T : List (List Int)} {x y : PS} {r : PR} (h : Fin_ b T x r) (q : stg x ≠ 3) (e : stp b T x = .ok y) : Fin_ b T y r := by
  obtain ⟨n, h⟩ := h
  cases n with
  | zero => rw [runF, if_neg q] at h; cases h
  | succ n => rw [runF, if_neg q, e] at h; exact ⟨n, h⟩
theorem Fin_.fail {b : Bk} {T : List (List Int)} {x : PS} {r : PR} {f : Ft} (h : Fin_ b T x r) (q : stg x ≠ 3) (e : stp b T x = .error f) : r = .error f := by
  obtain ⟨n, h⟩ := h
  cases n with
  | zero => rw [runF, if_neg q] at h; cases h
  | succ n => rw [runF, if_neg q, e] at h; exact (Option.some.inj h).symm
theorem Fin_.ok {b : Bk} {T : List (List Int)} {x : PS} (q : stg x = 3) : Fin_ b T x (.ok (x.2.1, x.1)) := ⟨0, by rw [runF, if_pos q]⟩
theorem Fin_.st {b : Bk} {T : List (List Int)} {x y : PS} {r : PR} (q : stg x ≠ 3) (e : stp b T x = .ok y) (h : Fin_ b T y r) : Fin_ b T x r := by
  obtain ⟨n, h⟩ := h
  exact ⟨n + 1, by rw [runF, if_neg q, e]; exact h⟩
theorem Fin_.er {b : Bk} {T : List (List Int)} {x : PS} {f : Ft} (q : stg x ≠ 3) (e : stp b T x = .error f) : Fin_ b T x (.error f) := ⟨1, by rw [runF, if_neg q, e]⟩
/-- the last TOKEN is END; quotes and texts are no longer than 600 -/
def BkOk (b : Bk) (T : List (List Int)) (c : Nat) : Prop := b.K c = 0 ∧ (∀ k, b.K k = 6 → b.V k ≤ 600 → ((b.Q k).length : Int) ≤ 600) ∧ (∀ t ∈ T, (t.length : Int) ≤ 600) ∧ c ≤ 900
theorem BkOk.nx {b : Bk} {T : List (List Int)} {c k : Nat} (h : BkOk b T c) (hk : k ≤ c) (e : b.K k ≠ 0) : k + 1 ≤ c := by
  have : k ≠ c := fun z => e (by rw [z]; exact h.1)
  omega
theorem numE_ok {b : Bk} {k : Nat} {lo hi q a : Int} (h : numE b k lo hi q = .ok a) : b.K k = 5 ∧ lo ≤ b.V k ∧ b.V k ≤ hi ∧ a = b.V k := by
  unfold numE at h
  by_cases z : b.K k = 5
  · rw [if_pos z] at h
    by_cases w : lo ≤ b.V k ∧ b.V k ≤ hi
    · rw [if_pos w] at h
      injection h with h
      exact ⟨z, w.1, w.2, h.symm⟩
    · rw [if_neg w] at h; cases h
  · rw [if_neg z] at h; cases h
theorem cutE_ok {b : Bk} {T : List (List Int)} {c : Nat} (hb : BkOk b T c) {l : List Int} {k : Nat} {x : List Int × Nat} (hk : k + 1 ≤ c) (h : cutE b l k = .ok x) : x.2 ≤ c ∧ x.2 = k + 5 ∧ x.1.length ≤ l.length := by
  unfold cutE at h
  cases h1 : numE b (k + 1) 0 ((l.length : Int) - 1) 4 with
  | error e => rw [h1] at h; cases h
  | ok a =>
    rw [h1] at h
    simp only at h
    by_cases z : b.K (k + 2) = 44
    · rw [if_pos z] at h
      cases h2 : numE b (k + 3) 1 ((l.length : Int) - a) 4 with
      | error e => rw [h2] at h; cases h
      | ok m =>
        rw [h2] at h
        simp only at h
        by_cases w : b.K (k + 4) = 93
        · rw [if_pos w] at h
          injection h with h
          subst h
          have g1 := hb.nx hk (by rw [(numE_ok h1).1]; decide)
          have g2 := hb.nx g1 (by rw [z]; decide)
          have g3 := hb.nx g2 (by rw [(numE_ok h2).1]; decide)
          have g4 := hb.nx g3 (by rw [w]; decide)
          refine ⟨g4, rfl, ?_⟩
          rw [List.length_take, List.length_drop]
          omega
        · rw [if_neg w] at h; cases h
    · rw [if_neg z] at h; cases h
theorem rep_lenN (l : List Int) : ∀ n : Nat, ((List.replicate n l).flatten).length = l.length * n
  | 0 => rfl
  | n + 1 => by rw [List.replicate_succ, List.flatten_cons, List.length_append, rep_lenN l n, Nat.mul_succ, Nat.add_comm]
theorem rep_len (v : Int) (l : List Int) (hv : 0 ≤ v) : ((rep v l).length : Int) = l.length * v := by
  unfold rep
  rw [rep_lenN, Int.natCast_mul, Int.toNat_of_nonneg hv]
theorem timesE_ok {b : Bk} {T : List (List Int)} {c : Nat} (hb : BkOk b T c) {l : List Int} {k : Nat} {x : List Int × Nat} (hk : k + 1 ≤ c) (h : timesE b l k = .ok x) : x.2 ≤ c ∧ x.2 = k + 2 ∧ (x.1.length : Int) ≤ 600 := by
  unfold timesE at h
  cases h1 : numE b (k + 1) 1 600 4 with
  | error e => rw [h1] at h; cases h
  | ok v =>
    rw [h1] at h
    simp only at h
    by_cases z : 600 < (l.length : Int) * v
    · rw [if_pos z] at h; cases h
    · rw [if_neg z] at h
      injection h with h
      subst h
      have g1 := numE_ok h1
      refine ⟨hb.nx hk (by rw [g1.1]; decide), rfl, ?_⟩
      show ((rep v l).length : Int) ≤ 600
      rw [rep_len v l (by omega)]
      omega
theorem unitL_ok {b : Bk} {T : List (List Int)} {c : Nat} (hb : BkOk b T c) : ∀ (f : Nat) {l : List Int} {k : Nat} {x : List Int × Nat}, k ≤ c → unitL b f l k = .ok x → x.2 ≤ c ∧ k ≤ x.2 ∧ x.1.length ≤ l.length ∧ b.K x.2 ≠ 91
  | 0, l, k, x, hk, h => by cases h
  | f + 1, l, k, x, hk, h => by
    rw [unitL] at h
    by_cases z : b.K k = 91
    · rw [if_pos z] at h
      cases h1 : cutE b l k with
      | error e => rw [h1] at h; cases h
      | ok y =>
        rw [h1] at h
        obtain ⟨g1, g2, g3⟩ := cutE_ok hb (hb.nx hk (by rw [z]; decide)) h1
        obtain ⟨i1, i2, i3, i4⟩ := unitL_ok hb f g1 h
        exact ⟨i1, by omega, by omega, i4⟩
    · rw [if_neg z] at h
      injection h with h
      subst h
      exact ⟨hk, Nat.le_refl _, Nat.le_refl _, z⟩
theorem prodL_ok {b : Bk} {T : List (List Int)} {c : Nat} (hb : BkOk b T c) : ∀ (f : Nat) {l : List Int} {k : Nat} {x : List Int × Nat}, k ≤ c → (l.length : Int) ≤ 600 → prodL b f l k = .ok x → x.2 ≤ c ∧ k ≤ x.2 ∧ (x.1.length : Int) ≤ 600 ∧ b.K x.2 ≠ 42
  | 0, l, k, x, hk, hl, h => by cases h
  | f + 1, l, k, x, hk, hl, h => by
    rw [prodL] at h
    by_cases z : b.K k = 42
    · rw [if_pos z] at h
      cases h1 : timesE b l k with
      | error e => rw [h1] at h; cases h
      | ok y =>
        rw [h1] at h
        obtain ⟨g1, g2, g3⟩ := timesE_ok hb (hb.nx hk (by rw [z]; decide)) h1
        obtain ⟨i1, i2, i3, i4⟩ := prodL_ok hb f g1 g3 h
        exact ⟨i1, by omega, i3, i4⟩
    · rw [if_neg z] at h
      injection h with h
      subst h
      exact ⟨hk, Nat.le_refl _, hl, z⟩
/-- what is told of a CORE's reader -/
def CoOk (c : Nat) (co : Nat → PR) : Prop := ∀ (k : Nat) (x : List Int × Nat), k ≤ c → co k = .ok x → x.2 ≤ c ∧ k < x.2 ∧ (x.1.length : Int) ≤ 600
theorem unitOf_ok {b : Bk} {T : List (List Int)} {c : Nat} (hb : BkOk b T c) {co : Nat → PR} (hc : CoOk c co) {k : Nat} {x : List Int × Nat} (hk : k ≤ c) (h : unitOf b co k = .ok x) : x.2 ≤ c ∧ k < x.2 ∧ (x.1.length : Int) ≤ 600 ∧ b.K x.2 ≠ 91 := by
  unfold unitOf at h
  cases h1 : co k with
  | error e => rw [h1] at h; cases h
  | ok y =>
    rw [h1] at h
    obtain ⟨g1, g2, g3⟩ := hc _ _ hk h1
    obtain ⟨i1, i2, i3, i4⟩ := unitL_ok hb _ g1 h
    exact ⟨i1, by omega, by omega, i4⟩
theorem prodOf_ok {b : Bk} {T : List (List Int)} {c : Nat} (hb : BkOk b T c) {co : Nat → PR} (hc : CoOk c co) {k : Nat} {x : List Int × Nat} (hk : k ≤ c) (h : prodOf b co k = .ok x) : x.2 ≤ c ∧ k < x.2 ∧ (x.1.length : Int) ≤ 600 ∧ b.K x.2 ≠ 42 := by
  unfold prodOf at h
  cases h1 : unitOf b co k with
  | error e => rw [h1] at h; cases h
  | ok y =>
    rw [h1] at h
    obtain ⟨g1, g2, g3, -⟩ := unitOf_ok hb hc hk h1
    obtain ⟨i1, i2, i3, i4⟩ := prodL_ok hb _ g1 g3 h
    exact ⟨i1, by omega, i3, i4⟩
theorem sumL_ok {b : Bk} {T : List (List Int)} {c : Nat} (hb : BkOk b T c) {pr : Nat → PR} (hp : ∀ {k : Nat} {x : List Int × Nat}, k ≤ c → pr k = .ok x → x.2 ≤ c ∧ k < x.2 ∧ (x.1.length : Int) ≤ 600 ∧ b.K x.2 ≠ 42) : ∀ (f : Nat) {l : List Int} {k : Nat} {x : List Int × Nat}, k ≤ c → (l.length : Int) ≤ 600 → b.K k ≠ 42 → sumL b pr f l k = .ok x → x.2 ≤ c ∧ k ≤ x.2 ∧ (x.1.length : Int) ≤ 600 ∧ b.K x.2 ≠ 42 ∧ b.K x.2 ≠ 43
  | 0, l, k, x, hk, hl, h4, h => by cases h
  | f + 1, l, k, x, hk, hl, h4, h => by
    rw [sumL] at h
    by_cases z : b.K k = 43
    · rw [if_pos z] at h
      cases h1 : pr (k + 1) with
      | error e => rw [h1] at h; cases h
      | ok y =>
        rw [h1] at h
        simp only at h
        obtain ⟨g1, g2, g3, g4⟩ := hp (hb.nx hk (by rw [z]; decide)) h1
        by_cases w : 600 < ((l ++ y.1).length : Int)
        · rw [if_pos w] at h; cases h
        · rw [if_neg w] at h
          obtain ⟨i1, i2, i3, i4, i5⟩ := sumL_ok hb hp f g1 (by omega) g4 h
          exact ⟨i1, by omega, i3, i4, i5⟩
    · rw [if_neg z] at h
      injection h with h
      subst h
      exact ⟨hk, Nat.le_refl _, hl, h4, z⟩
theorem sumOf_ok {b : Bk} {T : List (List Int)} {c : Nat} (hb : BkOk b T c) {co : Nat → PR} (hc : CoOk c co) {k : Nat} {x : List Int × Nat} (hk : k ≤ c) (h : sumOf b co k = .ok x) : x.2 ≤ c ∧ k < x.2 ∧ (x.1.length : Int) ≤ 600 ∧ b.K x.2 ≠ 42 ∧ b.K x.2 ≠ 43 := by
  unfold sumOf at h
  cases h1 : prodOf b co k with
  | error e => rw [h1] at h; cases h
  | ok y =>
    rw [h1] at h
    obtain ⟨g1, g2, g3, g4⟩ := prodOf_ok hb hc hk h1
    obtain ⟨i1, i2, i3, i4, i5⟩ := sumL_ok hb (fun hk h => prodOf_ok hb hc hk h) _ g1 g3 g4 h
    exact ⟨i1, by omega, i3, i4, i5⟩
theorem getD_mem {T : List (List Int)} {v : Nat} (h : v < T.length) : T.getD v [] ∈ T := by
  rw [List.getD_eq_getElem?_getD, List.getElem?_eq_getElem h]
  exact List.getElem_mem h
theorem leafE_ok {b : Bk} {T : List (List Int)} {c : Nat} (hb : BkOk b T c) {k : Nat} {x : List Int × Nat} (hk : k ≤ c) (h : leafE b T k = .ok x) : x.2 ≤ c ∧ k < x.2 ∧ (x.1.length : Int) ≤ 600 := by
  unfold leafE at h
  by_cases z : b.K k = 6
  · rw [if_pos z] at h
    by_cases w : 600 < b.V k
    · rw [if_pos w] at h; cases h
    · rw [if_neg w] at h
      injection h with h
      subst h
      exact ⟨hb.nx hk (by rw [z]; decide), Nat.lt_succ_self _, hb.2.1 k z (by omega)⟩
  · rw [if_neg z] at h
    by_cases y : b.K k = 35
    · rw [if_pos y] at h
      cases h1 : numE b (k + 1) 0 ((T.length : Int) - 1) 3 with
      | error e => rw [h1] at h; cases h
      | ok v =>
        rw [h1] at h
        injection h with h
        subst h
        have g := numE_ok h1
        have g1 := hb.nx hk (by rw [y]; decide)
        refine ⟨hb.nx g1 (by rw [g.1]; decide), by show k < k + 2; omega, hb.2.2.1 _ (getD_mem (by omega))⟩
    · rw [if_neg y] at h; cases h
theorem core_ok {b : Bk} {T : List (List Int)} {c : Nat} (hb : BkOk b T c) : ∀ r : Nat, CoOk c (core b T r)
  | 0 => by
    intro k x hk h
    rw [core] at h
    by_cases z : b.K k = 40 ∨ b.K k = 126
    · rw [if_pos z] at h; cases h
    · rw [if_neg z] at h; exact leafE_ok hb hk h
  | r + 1 => by
    intro k x hk h
    have ih := core_ok hb r
    rw [core] at h
    by_cases z : b.K k = 40
    · rw [if_pos z] at h
      unfold parE at h
      have g0 := hb.nx hk (by rw [z]; decide)
      cases h1 : sumOf b (core b T r) (k + 1) with
      | error e => rw [h1] at h; cases h
      | ok y =>
        rw [h1] at h
        simp only at h
        obtain ⟨g1, g2, g3, -⟩ := sumOf_ok hb ih g0 h1
        by_cases w : b.K y.2 = 41
        · rw [if_pos w] at h
          injection h with h
          subst h
          exact ⟨hb.nx g1 (by rw [w]; decide), by show k < y.2 + 1; omega, g3⟩
        · rw [if_neg w] at h; cases h
    · rw [if_neg z] at h
      by_cases y : b.K k = 126
      · rw [if_pos y] at h
        unfold tilE at h
        have g0 := hb.nx hk (by rw [y]; decide)
        cases h1 : core b T r (k + 1) with
        | error e => rw [h1] at h; cases h
        | ok y =>
          rw [h1] at h
          injection h with h
          subst h
          obtain ⟨g1, g2, g3⟩ := ih _ _ g0 h1
          exact ⟨g1, by show k < y.2; omega, by rw [List.length_reverse]; exact g3⟩
      · rw [if_neg y] at h; exact leafE_ok hb hk h
