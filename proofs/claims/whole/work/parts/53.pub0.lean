/-! ===== pure: what the public questions tell ===== -/
theorem r_ldc2I (q : Nat) {g : Gm} {E : Cx} {nL k n : Nat} {fs : List va_W} {pc : Nat} {lv : List (Nat × Value)} {st : List Value} {own : String} {cc : ByteArray} {d mc ms : Nat} (hE : Ok g E nL own cc d mc ms) {i : Nat} {v : Int64} {c : Int} (hdg : decode cc pc = .ok (.ldc2_w i, 3)) (hq : pc + 3 = q) (hw : Cond.constantLong own i v ∈ Wt) (hv : v = lI c) (kk : G g E nL k n fs q lv (.long (lI c) :: st)) : G g E nL k n fs pc lv st := by
  subst hv
  exact r_ldc2 q hE hdg hq hw kk
theorem sh_ix {t j n : Int} (ht : 0 ≤ t ∧ t < n) (hj : 0 ≤ j ∧ j < n - 1) : 0 ≤ (if j < t then j else j + 1) ∧ (if j < t then j else j + 1) < n := by split <;> omega
theorem TopsOk.gone {R : Int → Rl} {rc : Int} {L ln tp rd L' ln' tp' rd' : Int → Int} {cnt t : Int} (h : TopsOk R rc L ln tp rd cnt) (c : ShiftTo t (cnt - 1) L ln tp rd L' ln' tp' rd') (ht : 0 ≤ t ∧ t < cnt) : TopsOk R rc L' ln' tp' rd' (cnt - 1) := fun j a b => by
  obtain ⟨c1, c2, c3, c4⟩ := c j a b
  obtain ⟨u1, u2⟩ := sh_ix ht ⟨a, b⟩
  obtain ⟨h1, h2⟩ := h _ u1 u2
  rw [c2, c3]
  refine ⟨h1, ?_⟩
  have e : lts L' (j * 600) (ln' j) = lts L ((if j < t then j else j + 1) * 600) (ln (if j < t then j else j + 1)) := by
    rw [← c1]
    exact lts_cong (fun k k0 k1 => by rw [show j * 600 + k = 600 * j + k by omega, c4 k k0 k1]; congr 1; omega)
  rw [e]
  exact h2
theorem ShOk.gone {L ln tp rd L' ln' tp' rd' : Int → Int} {cnt t : Int} (h : ShOk L ln cnt) (c : ShiftTo t (cnt - 1) L ln tp rd L' ln' tp' rd') (hB : BR L') (ht : 0 ≤ t ∧ t < cnt) : ShOk L' ln' (cnt - 1) := by
  have hc := h.1
  refine ⟨by omega, hB, fun j a b => ?_⟩
  obtain ⟨c1, -, -, c4⟩ := c j a b
  obtain ⟨u1, u2⟩ := sh_ix ht ⟨a, b⟩
  obtain ⟨h1, h2⟩ := h.2.2 _ u1 u2
  refine ⟨by rw [c1]; exact h1, fun k k0 k1 => ?_⟩
  have e := c4 k k0 k1
  have := h2 k k0 (by rw [← c1]; exact k1)
  unfold tx at this ⊢
  rw [e]
  exact this
theorem TextGone.of {L ln tp rd L' ln' tp' rd' : Int → Int} {cnt t : Int} (c : ShiftTo t (cnt - 1) L ln tp rd L' ln' tp' rd') : TextGone (tx L) ln cnt t (tx L') ln' (cnt - 1) :=
  ⟨rfl, fun j a b => ⟨(c j a b).1, (c j a b).2.2.2⟩⟩
theorem InV.vis {r q : Rl} {p : Int} {V : List (Rl × Int)} (h : InV V q) : InV (vis r p V) q := (vis_closed r p V).1 q h
theorem InV.vT {T : Int → Rl} {q : Rl} {V : List (Rl × Int)} (h : InV V q) : ∀ n : Nat, InV (visT T n V) q
  | 0 => h
  | n + 1 => (InV.vT h n).vis
theorem visT_in (T : Int → Rl) (V : List (Rl × Int)) : ∀ n : Nat, ∀ j : Nat, j < n → InV (visT T n V) (T j)
  | 0, j, h => absurd h (Nat.not_lt_zero j)
  | n + 1, j, h => by
    rw [visT]
    by_cases e : j = n
    · subst e; exact (vis_closed _ _ _).2.1
    · exact (visT_in T V n j (by omega)).vis
/-- one text alone is another one -/
theorem visT_one {T T2 : Int → Rl} {V : List (Rl × Int)} {t : Nat} : ∀ n : Nat, (∀ j : Nat, j < n → j ≠ t → T2 j = T j ∧ InV V (T j)) → visT T2 n V = if t < n then vis (T2 t) 0 V else V
  | 0, _ => by rw [visT, if_neg (by omega)]
  | n + 1, h => by
    rw [visT, visT_one n (fun j a b => h j (by omega) b)]
    by_cases e : n = t
    · subst e
      rw [if_neg (by omega), if_pos (by omega)]
    · obtain ⟨h1, h2⟩ := h n (by omega) e
      rw [h1]
      by_cases q : t < n
      · rw [if_pos q, if_pos (by omega), vis_old h2.vis]
      · rw [if_neg q, if_neg (by omega), vis_old h2]
def AllRules (F : Int → Int → Int) (N : Int → Int) (n r : Int) : Prop :=
  ∃ T : Int → Rl, (∀ t, 0 ≤ t → t < n → ∃ q, BIs (lts (F t) 0 (N t)) (T t) q) ∧ r = ((visT T n.toNat []).length : Int)
def unlF (f : Int → Int) (n : Int) : Int := sumF (fun c => if 0 < cntF f c n then 1 else 0) 26
def OfIs (f : Int → Int) (n w r : Int) : Prop := ∃ T q, BIs (lts f 0 n) T q ∧ ((w = 0 ∧ r = n) ∨ (w = 1 ∧ r = ((vis T 0 []).length : Int)) ∨ (w = 2 ∧ r = rdep T) ∨ (w = 3 ∧ r = q) ∨ (w = 4 ∧ r = rsign T) ∨ (w = 5 ∧ PerIs f n r) ∨ (w = 6 ∧ r = unlF f n))
def SharedIs (f : Int → Int) (n : Int) (h : Int → Int) (m r : Int) : Prop := ∃ T U, (∃ q, BIs (lts f 0 n) T q) ∧ (∃ q, BIs (lts h 0 m) U q) ∧ r = ((vis U 0 []).length : Int) - (((vis U 0 (vis T 0 [])).length : Int) - (vis T 0 []).length)
def AgIs (f : Int → Int) (n : Int) (h : Int → Int) (m w r : Int) : Prop :=
  (w = 0 ∧ r = if cmpT f n h m = 0 then -1 else lcpF f h (min n m)) ∨ (w = 1 ∧ r = if cmpT f n h m < 0 then 1 else if 0 < cmpT f n h m then 2 else 0) ∨ (w = 2 ∧ SharedIs f n h m r) ∨ (w = 3 ∧ r = if cmpT f n h m = 0 then 1 else 0)
/-! what a rule spells -/
def ex : Rl → List Int
  | .arg c => [(c : Int)]
  | .mul n a => (List.replicate (cntOf n).toNat (ex a)).flatten
  | .add a b => ex a ++ ex b
  | _ => []
def exL (l : List Rl) : List Int := (l.map ex).flatten
theorem exL_cons (a : Rl) (l : List Rl) : exL (a :: l) = ex a ++ exL l := rfl
theorem exL_app (l m : List Rl) : exL (l ++ m) = exL l ++ exL m := by unfold exL; rw [List.map_append, List.flatten_append]
theorem exL_rep (a : Rl) (n : Nat) : exL (List.replicate n a) = (List.replicate n (ex a)).flatten := by unfold exL; rw [List.map_replicate]
theorem tw_same (a : Rl) : ∀ l : List Rl, l.takeWhile (eqB a) = List.replicate (l.takeWhile (eqB a)).length a
  | [] => rfl
  | b :: l => by
    by_cases h : b = a
    · rw [List.takeWhile_cons_of_pos (by rw [eqB_t h]), List.length_cons, List.replicate_succ, ← tw_same a l, h]
    · rw [List.takeWhile_cons_of_neg (by rw [eqB_f h]; simp)]; rfl
theorem ex_gather : ∀ (n : Nat) (l : List Rl), l.length ≤ n → exL (gather l) = exL l
  | 0, l, h => by
    have : l = [] := List.eq_nil_of_length_eq_zero (by omega)
    subst this
    rw [gather_nil]
  | n + 1, [], _ => by rw [gather_nil]
  | n + 1, a :: l, h => by
    rw [gather, exL_cons]
    rw [List.length_cons] at h
    rw [ex_gather n _ (Nat.le_trans (dropW_len (eqB a) l) (by omega))]
    have e : exL l = exL (l.takeWhile (eqB a)) ++ exL (l.dropWhile (eqB a)) := by rw [← exL_app, List.takeWhile_append_dropWhile]
    rw [exL_cons, e, ← List.append_assoc]
    congr 1
    rw [tw_same a l, List.length_replicate, exL_rep]
    by_cases z : (l.takeWhile (eqB a)).length = 0
    · rw [if_pos z, z]; simp
    · rw [if_neg z]
      show (List.replicate ((((((l.takeWhile (eqB a)).length + 1 : Nat) : Int).toNat : Nat)) : Int).toNat (ex a)).flatten = _
      rw [Int.toNat_natCast, Int.toNat_natCast, List.replicate_succ, List.flatten_cons]
theorem ex_pairB (b : Int) : ∀ (n : Nat) (l : List Rl), l.length ≤ n → exL (pairB b l) = exL l
  | 0, l, h => by
    have : l = [] := List.eq_nil_of_length_eq_zero (by omega)
    subst this
    rw [pairB_nil]
  | n + 1, [], _ => by rw [pairB_nil]
  | n + 1, [x], _ => by rw [pairB_one]
  | n + 1, x :: y :: l, h => by
    rw [List.length_cons, List.length_cons] at h
    by_cases q : bt b x = 0 ∧ bt b y = 1
    · rw [pairB_yes q, exL_cons, ex_pairB b n l (by omega), exL_cons, exL_cons, ← List.append_assoc]; rfl
    · rw [pairB_no q, exL_cons, ex_pairB b n (y :: l) (by rw [List.length_cons]; omega)]; rfl
theorem ex_pairP : ∀ (n : Nat) (l : List Rl), l.length ≤ n → exL (pairP l) = exL l
  | 0, l, h => by
    have : l = [] := List.eq_nil_of_length_eq_zero (by omega)
    subst this
    rw [pairP_nil]
  | n + 1, [], _ => by rw [pairP_nil]
  | n + 1, [x], _ => by rw [pairP_one]
  | n + 1, x :: y :: l, h => by
    rw [List.length_cons, List.length_cons] at h
    rw [pairP_two, exL_cons, ex_pairP n l (by omega), exL_cons, exL_cons, ← List.append_assoc]; rfl
theorem ex_rnd (r : Int) (l : List Rl) : exL (rnd r l) = exL l := by
  unfold rnd
  split
  · rw [ex_pairB _ _ _ (Nat.le_refl _), ex_gather _ _ (Nat.le_refl _)]
  · exact ex_pairP _ _ (Nat.le_refl _)
theorem ex_bld : ∀ (n : Nat) (r : Int) (l : List Rl), exL (bld n r l).1 = exL l
  | 0, _, _ => rfl
  | n + 1, r, l => by
    rw [bld]
    split
    · rfl
    · rw [ex_bld n, ex_rnd]
theorem BIs.ex {l : List Rl} {t : Rl} {q : Int} (h : BIs l t q) : ex t = exL l := by
  obtain ⟨n, h⟩ := h
  have := ex_bld n 0 l
  rw [h] at this
  rw [← this]
  unfold exL
  simp
theorem exL_lts {f : Int → Int} {n : Int} (h : ∀ k, 0 ≤ k → k < n → 0 ≤ f k) : exL (lts f 0 n) = (List.range n.toNat).map (fun k : Nat => f k) := by
  unfold exL lts seg
  rw [List.map_map, Int.sub_zero]
  have : ∀ l : List Nat, (∀ k ∈ l, (k : Int) < n) → (l.map (ex ∘ fun k : Nat => rLet (f (0 + (0 + (k : Int)))))).flatten = l.map (fun k : Nat => f k) := by
    intro l
    induction l with
    | nil => intro _; rfl
    | cons a l ih =>
      intro hl
      rw [List.map_cons, List.flatten_cons, List.map_cons, ih (fun k hk => hl k (List.mem_cons_of_mem _ hk))]
      have e : (ex ∘ fun k : Nat => rLet (f (0 + (0 + (k : Int))))) a = [f a] := by
        show [((f (0 + (0 + (a : Int)))).toNat : Int)] = [f a]
        rw [Int.zero_add, Int.zero_add, Int.toNat_of_nonneg (h a (by omega) (hl a List.mem_cons_self))]
      rw [e]
      rfl
  refine this _ (fun k hk => ?_)
  rw [List.mem_range] at hk
  omega
/-- one TOP, one text -/
theorem top_text {f h : Int → Int} {n m q q2 : Int} {T : Rl} (hn : 0 ≤ n) (hm : 0 ≤ m) (hf : ∀ k, 0 ≤ k → k < n → 0 ≤ f k) (hh : ∀ k, 0 ≤ k → k < m → 0 ≤ h k) (a : BIs (lts f 0 n) T q) (b : BIs (lts h 0 m) T q2) : n = m ∧ ∀ k, 0 ≤ k → k < n → f k = h k := by
  have e := a.ex.symm.trans b.ex
  rw [exL_lts hf, exL_lts hh] at e
  have hl := congrArg List.length e
  rw [List.length_map, List.length_map, List.length_range, List.length_range] at hl
  refine ⟨by omega, fun k k0 k1 => ?_⟩
  have h9 := congrArg (fun l : List Int => l[k.toNat]?) e
  simp only [List.getElem?_map] at h9
  rw [List.getElem?_range (by omega), List.getElem?_range (by omega)] at h9
  have h8 : some (f (k.toNat : Int)) = some (h (k.toNat : Int)) := h9
  injection h8 with h8
  rw [Int.toNat_of_nonneg k0] at h8
  exact h8
theorem cmpT_0 {f h : Int → Int} {n m : Int} (hn : 0 ≤ n) (hm : 0 ≤ m) (hf : ∀ k, 0 ≤ k → k < n → 0 ≤ f k) (hh : ∀ k, 0 ≤ k → k < m → 0 ≤ h k) : cmpT f n h m = 0 ↔ n = m ∧ ∀ k, 0 ≤ k → k < n → f k = h k := by
  obtain ⟨p1, p2, p3, p4⟩ := lcpF_is f h (m := min n m) (by omega)
  unfold cmpT
  rw [cmpI_0]
  constructor
  · intro e
    by_cases z : lcpF f h (min n m) < min n m
    · rw [if_pos (by omega), if_pos (by omega)] at e
      rcases p4 with p4 | p4
      · omega
      · exact absurd e p4
    · have hz : lcpF f h (min n m) = min n m := by omega
      rw [hz] at e p3
      by_cases q : n = m
      · exact ⟨q, fun k a b => p3 k a (by omega)⟩
      · exfalso
        by_cases q2 : n < m
        · rw [if_neg (by omega), if_pos (by omega)] at e
          have := hh (min n m) (by omega) (by omega)
          omega
        · rw [if_pos (by omega), if_neg (by omega)] at e
          have := hf (min n m) (by omega) (by omega)
          omega
  · rintro ⟨rfl, e⟩
    have hz : lcpF f h (min n n) = min n n := by
      rcases p4 with p4 | p4
      · exact p4
      · by_cases z : lcpF f h (min n n) < n
        · exact absurd (e _ p1 z) p4
        · omega
    rw [hz, if_neg (by omega), if_neg (by omega)]
/-! what a text is as a number -/
def valN (f : Int → Int) : Nat → Option Int
  | 0 => some 0
  | n + 1 => match valN f n with
    | none => none
    | some v => if (9223372036854775807 - f n) / 26 < v then none else some (v * 26 + f n)
def valF (f : Int → Int) (n : Int) : Option Int := valN f n.toNat
theorem valF_0 (f : Int → Int) : valF f 0 = some 0 := rfl
theorem valF_yes {f : Int → Int} {i v : Int} (hi : 0 ≤ i) (h : valF f i = some v) (q : v ≤ (9223372036854775807 - f i) / 26) : valF f (i + 1) = some (v * 26 + f i) := by
  unfold valF at h ⊢
  rw [toNat_succ hi, valN, h]
  show (if (9223372036854775807 - f ((i.toNat : Nat) : Int)) / 26 < v then none else some (v * 26 + f ((i.toNat : Nat) : Int))) = _
  rw [Int.toNat_of_nonneg hi, if_neg (by omega)]
theorem valN_none (f : Int → Int) (n : Nat) (h : valN f n = none) : ∀ m : Nat, valN f (n + m) = none
  | 0 => h
  | m + 1 => by rw [show n + (m + 1) = (n + m) + 1 by omega, valN, valN_none f n h m]
theorem valF_no {f : Int → Int} {i v n : Int} (hi : 0 ≤ i ∧ i < n) (h : valF f i = some v) (q : (9223372036854775807 - f i) / 26 < v) : valF f n = none := by
  unfold valF at h ⊢
  have e : valN f (i.toNat + 1) = none := by
    rw [valN, h]
    show (if (9223372036854775807 - f ((i.toNat : Nat) : Int)) / 26 < v then none else some (v * 26 + f ((i.toNat : Nat) : Int))) = _
    rw [Int.toNat_of_nonneg hi.1, if_pos q]
  have := valN_none f _ e (n.toNat - (i.toNat + 1))
  rw [show i.toNat + 1 + (n.toNat - (i.toNat + 1)) = n.toNat by omega] at this
  exact this
def ValIs (F : Int → Int → Int) (N : Int → Int) (c t r s : Int) : Prop := (¬ HasT c t ∧ r = -1 ∧ s = 2) ∨ (HasT c t ∧ valF (F t) (N t) = none ∧ r = -1 ∧ s = 7) ∨ (HasT c t ∧ valF (F t) (N t) = some r ∧ s = 0)
theorem valN_cong {f h : Int → Int} : ∀ n : Nat, (∀ k : Int, 0 ≤ k → k < n → f k = h k) → valN f n = valN h n
  | 0, _ => rfl
  | n + 1, e => by rw [valN, valN, valN_cong n (fun k a b => e k a (by omega)), e n (by omega) (by omega)]
