/-! ===== pure: rows as lists; the state of the reader ===== -/
def rowL (f : Int → Int) (n : Int) : List Int := (List.range n.toNat).map (fun k : Nat => f (k : Int))
theorem rowL_len (f : Int → Int) (n : Int) : (rowL f n).length = n.toNat := by unfold rowL; rw [List.length_map, List.length_range]
theorem rowL_lenI (f : Int → Int) {n : Int} (h : 0 ≤ n) : ((rowL f n).length : Int) = n := by rw [rowL_len]; omega
theorem rowL_get (f : Int → Int) {n : Int} {i : Nat} (h : (i : Int) < n) : (rowL f n)[i]? = some (f (i : Int)) := by
  unfold rowL
  rw [List.getElem?_map, List.getElem?_range (by omega)]
  rfl
theorem rowL_no (f : Int → Int) {n : Int} {i : Nat} (h : n ≤ (i : Int)) : (rowL f n)[i]? = none := by
  rw [List.getElem?_eq_none_iff, rowL_len]
  omega
theorem rowL_ext {f : Int → Int} {n : Int} {l : List Int} (h1 : (l.length : Int) = max n 0) (h2 : ∀ i : Nat, (i : Int) < n → l[i]? = some (f (i : Int))) : l = rowL f n := by
  apply List.ext_getElem?
  intro i
  by_cases z : (i : Int) < n
  · rw [h2 i z, rowL_get f z]
  · rw [rowL_no f (by omega), List.getElem?_eq_none_iff]
    omega
theorem rowL_cong {f h : Int → Int} {n : Int} (e : ∀ k, 0 ≤ k → k < n → f k = h k) : rowL f n = rowL h n := rowL_ext (by rw [rowL_len]; omega) (fun i hi => by rw [rowL_get f hi, e i (by omega) hi])
theorem rowL_nil (f : Int → Int) {n : Int} (h : n ≤ 0) : rowL f n = [] := by
  unfold rowL
  rw [show n.toNat = 0 by omega]
  rfl
theorem rowL_app (f : Int → Int) {n m : Int} (hn : 0 ≤ n) (hm : 0 ≤ m) : rowL f (n + m) = rowL f n ++ rowL (fun k => f (n + k)) m := by
  symm
  apply rowL_ext
  · rw [List.length_append, rowL_len, rowL_len]; omega
  · intro i hi
    by_cases z : (i : Int) < n
    · rw [List.getElem?_append_left (by rw [rowL_len]; omega), rowL_get f z]
    · rw [List.getElem?_append_right (by rw [rowL_len]; omega), rowL_len, rowL_get _ (by omega)]
      congr 2
      omega
theorem rowL_one (f : Int → Int) : rowL f 1 = [f 0] := rfl
theorem rowL_take (f : Int → Int) {n p : Int} (h : 0 ≤ p ∧ p ≤ n) : (rowL f n).take p.toNat = rowL f p := by
  have e := rowL_app f h.1 (show 0 ≤ n - p by omega)
  rw [show p + (n - p) = n by omega] at e
  rw [e, show p.toNat = (rowL f p).length by rw [rowL_len], List.take_left]
theorem rowL_drop (f : Int → Int) {n p : Int} (h : 0 ≤ p ∧ p ≤ n) : (rowL f n).drop p.toNat = rowL (fun k => f (p + k)) (n - p) := by
  have e := rowL_app f h.1 (show 0 ≤ n - p by omega)
  rw [show p + (n - p) = n by omega] at e
  rw [e, show p.toNat = (rowL f p).length by rw [rowL_len], List.drop_left]
theorem rowL_cpy (L RL : Int → Int) {sp dp m : Int} (hd : 0 ≤ dp) (hm : 0 ≤ m) : rowL (cpy L RL sp dp m) (dp + m) = rowL RL dp ++ rowL (fun k => L (sp + k)) m := by
  rw [rowL_app _ hd hm]
  congr 1
  · exact rowL_cong (fun k a b => cpy_out _ _ (by omega))
  · exact rowL_cong (fun k a b => by rw [cpy_in _ _ (by omega)]; congr 1; omega)
theorem rowL_up (RL : Int → Int) {n : Int} (v : Int) (hn : 0 ≤ n) : rowL (up RL n v) (n + 1) = rowL RL n ++ [v] := by
  rw [rowL_app _ hn (by omega), rowL_one, Int.add_zero, up_same]
  congr 1
  exact rowL_cong (fun k a b => up_ne _ _ (by omega))
theorem rep_succ {t : Int} (h : 0 ≤ t) (l : List Int) : rep (t + 1) l = rep t l ++ l := by
  unfold rep
  rw [toNat_succ h, List.replicate_succ', List.flatten_append]
  simp
theorem rep_row (f : Int → Int) {m : Int} (hm : 0 < m) : ∀ t : Nat, rep (t : Int) (rowL f m) = rowL (fun k => f (k % m)) (m * t)
  | 0 => by
    show rep 0 (rowL f m) = rowL _ (m * 0)
    rw [Int.mul_zero, rowL_nil _ (Int.le_refl 0)]
    rfl
  | t + 1 => by
    have hp : 0 ≤ m * (t : Int) := Int.mul_nonneg (by omega) (by omega)
    rw [show ((t + 1 : Nat) : Int) = (t : Int) + 1 by omega, rep_succ (by omega), rep_row f hm t, Int.mul_add, Int.mul_one, rowL_app _ hp (by omega)]
    congr 1
    refine rowL_cong (fun k a b => ?_)
    rw [Int.add_comm, Int.add_mul_emod_self_left, Int.emod_eq_of_lt a b]
theorem rowL_rep {RL RL9 : Int → Int} {s m t : Int} (hs : 0 ≤ s) (hm : 0 < m) (ht : 1 ≤ t) (h : RepTo RL RL9 s m (s + m * t)) : rowL RL9 (s + m * t) = rowL RL s ++ rep t (rowL (fun k => RL (s + k)) m) := by
  have hp : 0 ≤ m * t := Int.mul_nonneg (by omega) (by omega)
  rw [rowL_app _ hs hp]
  congr 1
  · exact rowL_cong (fun k a b => h.1 k a (by omega))
  · have e := rep_row (fun k => RL (s + k)) hm t.toNat
    rw [Int.toNat_of_nonneg (by omega)] at e
    rw [e]
    exact rowL_cong (fun k a b => by
      rw [h.2.1 (s + k) (by omega) (by omega), show s + k - s = k by omega])
theorem rowL_rev {RL RL9 : Int → Int} {s w : Int} (hs : 0 ≤ s ∧ s ≤ w) (h1 : ∀ k, 0 ≤ k → k < s → RL9 k = RL k) (h2 : ∀ k, s ≤ k → k < w → RL9 k = RL (s + w - 1 - k)) : rowL RL9 w = revP s.toNat (rowL RL w) := by
  unfold revP
  rw [rowL_take _ hs, rowL_drop _ hs]
  have e := rowL_app RL9 hs.1 (show 0 ≤ w - s by omega)
  rw [show s + (w - s) = w by omega] at e
  rw [e]
  congr 1
  · exact rowL_cong h1
  · symm
    apply rowL_ext
    · rw [List.length_reverse, rowL_len]; omega
    · intro i hi
      rw [List.getElem?_reverse (by rw [rowL_len]; omega), rowL_len, rowL_get _ (by omega), h2 (s + i) (by omega) (by omega)]
      congr 2
      omega
def stkO (oo os op : Int → Int) : Nat → Sk
  | 0 => []
  | d + 1 => (oo d, os d, op d) :: stkO oo os op d
theorem stkO_len (oo os op : Int → Int) : ∀ d : Nat, (stkO oo os op d).length = d
  | 0 => rfl
  | d + 1 => by rw [stkO, List.length_cons, stkO_len]
theorem stkO_cong {oo os op o2 s2 p2 : Int → Int} : ∀ d : Nat, (∀ j : Int, 0 ≤ j → j < d → oo j = o2 j ∧ os j = s2 j ∧ op j = p2 j) → stkO oo os op d = stkO o2 s2 p2 d
  | 0, _ => rfl
  | d + 1, h => by
    have h1 := h d (by omega) (by omega)
    rw [stkO, stkO, stkO_cong d (fun j a b => h j a (by omega)), h1.1, h1.2.1, h1.2.2]
theorem stkO_push (oo os op : Int → Int) {d : Int} (a b c : Int) (hd : 0 ≤ d) : stkO (up oo d a) (up os d b) (up op d c) (d + 1).toNat = (a, b, c) :: stkO oo os op d.toNat := by
  rw [toNat_succ hd, stkO, Int.toNat_of_nonneg hd, up_same, up_same, up_same]
  congr 1
  exact stkO_cong _ (fun j x y => ⟨up_ne _ _ (by omega), up_ne _ _ (by omega), up_ne _ _ (by omega)⟩)
theorem stkO_pop (oo os op : Int → Int) {d : Int} (hd : 0 < d) : stkO oo os op d.toNat = (oo (d - 1), os (d - 1), op (d - 1)) :: stkO oo os op (d - 1).toNat := by
  rw [show d.toNat = (d - 1).toNat + 1 by omega, stkO, Int.toNat_of_nonneg (by omega)]
def psOf (fg : Int) (RL : Int → Int) (rl : Int) (oo os op : Int → Int) (dp ss pp sg : Int) : PS := (fg.toNat, rowL RL rl, stkO oo os op dp.toNat, ss, pp, sg)
def BdOk : Sk → Int → Int → Prop
  | [], s, p => s = 0 ∧ 0 ≤ p ∧ p ≤ 600
  | e :: st, s, p => (0 ≤ p - s ∧ p - s ≤ 600) ∧ ((e.1 = 40 ∧ s = e.2.2 ∧ BdOk st e.2.1 e.2.2) ∨ (e.1 = 126 ∧ s = e.2.1 ∧ p = e.2.2 ∧ BdOk st s p))
theorem BdOk.le : ∀ {st : Sk} {s p : Int}, BdOk st s p → 0 ≤ s ∧ s ≤ 600 * (st.length : Int) ∧ 0 ≤ p - s ∧ p - s ≤ 600
  | [], s, p, h => by
    obtain ⟨h1, h2, h3⟩ := h
    rw [List.length_nil]
    omega
  | e :: st, s, p, h => by
    obtain ⟨h1, h2⟩ := h
    rw [List.length_cons]
    rcases h2 with ⟨_, z, w⟩ | ⟨_, _, _, w⟩
    · have := BdOk.le w
      omega
    · have := BdOk.le w
      omega
def LtOk (l : List Int) : Prop := ∀ v ∈ l, 0 ≤ v ∧ v ≤ 25
theorem LtOk.app {l m : List Int} (h : LtOk l) (h2 : LtOk m) : LtOk (l ++ m) := fun v hv => by
  rcases List.mem_append.mp hv with z | z
  · exact h v z
  · exact h2 v z
theorem LtOk.take {l : List Int} (h : LtOk l) (n : Nat) : LtOk (l.take n) := fun v hv => h v (List.mem_of_mem_take hv)
theorem LtOk.drop {l : List Int} (h : LtOk l) (n : Nat) : LtOk (l.drop n) := fun v hv => h v (List.mem_of_mem_drop hv)
theorem LtOk.rev {l : List Int} (h : LtOk l) : LtOk l.reverse := fun v hv => h v (List.mem_reverse.mp hv)
theorem LtOk.rp {l : List Int} (h : LtOk l) (t : Int) : LtOk (rep t l) := fun v hv => by
  unfold rep at hv
  obtain ⟨m, h1, h2⟩ := List.mem_flatten.mp hv
  rw [(List.mem_replicate.mp h1).2] at h2
  exact h v h2
theorem LtOk.rvP {l : List Int} (h : LtOk l) (p : Nat) : LtOk (revP p l) := (h.take p).app (h.drop p).rev
theorem revP_len (p : Nat) (l : List Int) : (revP p l).length = l.length := by
  unfold revP
  rw [List.length_append, List.length_reverse, ← List.length_append, List.take_append_drop]
def TsOk (T : List (List Int)) : Prop := ∀ t ∈ T, (1 ≤ (t.length : Int) ∧ (t.length : Int) ≤ 600) ∧ LtOk t
def QOk (b : Bk) : Prop := ∀ k, b.K k = 6 → b.V k ≤ 600 → (1 ≤ ((b.Q k).length : Int) ∧ ((b.Q k).length : Int) ≤ 600) ∧ LtOk (b.Q k)
def BkG (b : Bk) (T : List (List Int)) (c : Nat) : Prop := b.K c = 0 ∧ c ≤ 900 ∧ TsOk T ∧ QOk b
theorem BkG.ok {b : Bk} {T : List (List Int)} {c : Nat} (h : BkG b T c) : BkOk b T c := ⟨h.1, fun k a d => (h.2.2.2 k a d).1.2, fun t ht => (h.2.2.1 t ht).1.2, h.2.1⟩
def PsOk (x : PS) : Prop := x.2.2.1.length ≤ 6 ∧ BdOk x.2.2.1 x.2.2.2.1 x.2.2.2.2.1 ∧ LtOk x.2.1 ∧ (stg x = 0 → (x.2.1.length : Int) = x.2.2.2.2.1) ∧ (stg x ≠ 0 → (1 ≤ (x.2.1.length : Int) - x.2.2.2.2.1 ∧ (x.2.1.length : Int) - x.2.2.2.2.1 ≤ 600) ∧ noT x.2.2.1) ∧ (0 ≤ stg x ∧ stg x ≤ 3)
theorem popT_ok : ∀ {st : Sk} {l : List Int} {s p : Int}, BdOk st s p → LtOk l → BdOk (popT p.toNat l st).2 s p ∧ LtOk (popT p.toNat l st).1 ∧ (popT p.toNat l st).1.length = l.length ∧ noT (popT p.toNat l st).2 ∧ (popT p.toNat l st).2.length ≤ st.length
  | [], l, s, p, h, hl => ⟨h, hl, rfl, (fun e st' he => by cases he), Nat.le_refl _⟩
  | e :: st, l, s, p, h, hl => by
    rw [popT]
    by_cases z : e.1 = 126
    · rw [if_pos z]
      obtain ⟨-, h2⟩ := h
      rcases h2 with ⟨q, _⟩ | ⟨_, _, _, w⟩
      · omega
      · obtain ⟨i1, i2, i3, i4, i5⟩ := popT_ok w (hl.rvP p.toNat)
        exact ⟨i1, i2, by rw [i3, revP_len], i4, by rw [List.length_cons]; omega⟩
    · rw [if_neg z]
      exact ⟨h, hl, rfl, fun e' st' he => by injection he with he _; rw [← he]; exact z, Nat.le_refl _⟩
theorem PsOk.eC {k : Nat} {l : List Int} {st : Sk} {s p : Int} (h6 : st.length ≤ 6) (hb : BdOk st s p) (hl : LtOk l) (hn : 1 ≤ (l.length : Int) - p ∧ (l.length : Int) - p ≤ 600) : PsOk (endC k l st s p) := by
  obtain ⟨i1, i2, i3, i4, i5⟩ := popT_ok (st := st) (l := l) hb hl
  refine ⟨?_, i1, i2, fun z => ?_, fun _ => ⟨?_, i4⟩, by show (0 : Int) ≤ 1 ∧ (1 : Int) ≤ 3; omega⟩
  · show (popT p.toNat l st).2.length ≤ 6
    omega
  · have : (1 : Int) = 0 := z
    omega
  · show 1 ≤ ((popT p.toNat l st).1.length : Int) - p ∧ ((popT p.toNat l st).1.length : Int) - p ≤ 600
    rw [i3]
    exact hn
