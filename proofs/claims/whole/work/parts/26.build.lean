/-! ===== pure: the rounds ===== -/
noncomputable def rnd (r : Int) (l : List Rl) : List Rl := if r < 31 then pairB r (gather l) else pairP l
noncomputable def bld : Nat → Int → List Rl → List Rl × Int
  | 0, r, l => (l, r)
  | n + 1, r, l => if l.length ≤ 1 then (l, r) else bld n (r + 1) (rnd r l)
/-- t is the TOP of the row l, behind q rounds -/
def BIs (l : List Rl) (t : Rl) (q : Int) : Prop := ∃ n, bld n 0 l = ([t], q)
theorem bld_stay {r : Int} {l : List Rl} (h : l.length ≤ 1) : ∀ n, bld n r l = (l, r)
  | 0 => rfl
  | n + 1 => by rw [bld, if_pos h]
theorem bld_more : ∀ (n : Nat) {r : Int} {l : List Rl} {t : Rl} {q : Int}, bld n r l = ([t], q) → ∀ m, bld (n + m) r l = ([t], q)
  | 0, r, l, t, q, h, m => by
    have h1 : (l, r) = ([t], q) := h
    injection h1 with e1 e2
    subst e1; subst e2
    exact bld_stay (by simp) _
  | n + 1, r, l, t, q, h, m => by
    rw [show n + 1 + m = (n + m) + 1 by omega, bld]
    rw [bld] at h
    by_cases z : l.length ≤ 1
    · rw [if_pos z] at h ⊢; exact h
    · rw [if_neg z] at h ⊢; exact bld_more n h m
theorem BIs.one {l : List Rl} {t t2 : Rl} {q q2 : Int} (a : BIs l t q) (b : BIs l t2 q2) : t = t2 ∧ q = q2 := by
  obtain ⟨n, a⟩ := a
  obtain ⟨m, b⟩ := b
  have h1 := bld_more n a m
  have h2 := bld_more m b n
  rw [Nat.add_comm, h2] at h1
  injection h1 with e1 e2
  injection e1 with e3
  exact ⟨e3.symm, e2.symm⟩
/-- the row cur, at round r, comes from the row l -/
def BTo (l : List Rl) (r : Int) (cur : List Rl) : Prop := ∃ m, ∀ n, bld (m + n) 0 l = bld n r cur
theorem BTo.start (l : List Rl) : BTo l 0 l := ⟨0, fun n => by rw [Nat.zero_add]⟩
theorem BTo.step {l : List Rl} {r : Int} {cur : List Rl} (h : BTo l r cur) (hc : 1 < cur.length) : BTo l (r + 1) (rnd r cur) := by
  obtain ⟨m, h⟩ := h
  refine ⟨m + 1, fun n => ?_⟩
  rw [show m + 1 + n = m + (n + 1) by omega, h (n + 1), bld, if_neg (by omega)]
theorem BTo.done {l : List Rl} {r : Int} {t : Rl} (h : BTo l r [t]) : BIs l t r := by
  obtain ⟨m, h⟩ := h
  exact ⟨m + 0, h 0⟩
theorem pairP_len : ∀ l : List Rl, (pairP l).length = (l.length + 1) / 2
  | [] => by rw [pairP_nil]; rfl
  | [x] => by rw [pairP_one]; simp
  | x :: y :: l => by
    rw [pairP_two, List.length_cons, pairP_len l, List.length_cons, List.length_cons]
    omega
/-- the letters of a text as rules -/
def lts (f : Int → Int) (p c : Int) : List Rl := seg (fun k => rLet (f (p + k))) 0 c
theorem sumLen_lts (f : Int → Int) (p : Int) : ∀ (n : Nat) {s c : Int}, (c - s).toNat = n → s ≤ c → sumLen (seg (fun k => rLet (f (p + k))) s c) = c - s
  | 0, s, c, h, hs => by rw [seg_nil _ (by omega)]; show (0 : Int) = _; omega
  | n + 1, s, c, h, hs => by
    rw [sumLen_seg1 (by omega), sumLen_lts f p n (s := s + 1) (by omega) (by omega)]
    show (1 : Int) + _ = _
    omega
theorem lts_cong {f h : Int → Int} {p q c : Int} (e : ∀ k, 0 ≤ k → k < c → f (p + k) = h (q + k)) : lts f p c = lts h q c := seg_cong (fun k a b => by rw [e k a b])
def hb_ (z r : Int) : Prop := 31 ≤ r ∧ r ≤ 41 ∧ z ≤ ((2 ^ (41 - r).toNat : Nat) : Int)
theorem hb_step {z z2 r : Int} (h : hb_ z r) (h1 : 1 < z) (h2 : z2 = (z + 1) / 2) : hb_ z2 (r + 1) := by
  obtain ⟨a, b, c⟩ := h
  by_cases q : r = 41
  · subst q
    have : ((2 ^ ((41 : Int) - 41).toNat : Nat) : Int) = 1 := rfl
    omega
  · have e : (41 - r).toNat = (41 - (r + 1)).toNat + 1 := by omega
    rw [e, Nat.pow_succ] at c
    exact ⟨by omega, by omega, by omega⟩
theorem hb_start {z : Int} (h : z ≤ 600) : hb_ z 31 := by
  refine ⟨by omega, by omega, ?_⟩
  have : ((2 ^ ((41 : Int) - 31).toNat : Nat) : Int) = 1024 := rfl
  omega
theorem hb_rg {z r : Int} (h : hb_ z r) : 31 ≤ r ∧ r ≤ 41 ∧ (64 ≤ r → z ≤ 1) := ⟨h.1, h.2.1, fun q => by have := h.2.1; omega⟩
theorem RT.letter {kd fi se sg le de nx he : Int → Int} {cnt : Int} {R : Int → Rl} (h : RT kd fi se sg le de nx he cnt R) {i : Int} (h0 : 0 ≤ i ∧ i < 26) : R i = rLet i := by
  have hc := h.1
  obtain ⟨hr, -⟩ := h.2.1 i h0.1 (by omega)
  rcases hr with z | z | z
  · exact z.2.1
  · omega
  · omega
theorem pairP_seg {f h : Int → Rl} {z z2 : Int} (hz : 0 ≤ z2 ∧ 0 ≤ z) (e : seg h 0 z2 = pairP (seg f 0 z)) : z2 = (z + 1) / 2 := by
  have := congrArg List.length e
  rw [seg_len, pairP_len, seg_len] at this
  omega
