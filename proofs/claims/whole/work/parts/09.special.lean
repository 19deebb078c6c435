/-! ===== Math.max, Math.min, System.arraycopy ===== -/
def cpy (f h : Int → Int) (sp dp n : Int) : Int → Int := fun j => if dp ≤ j ∧ j < dp + n then f (sp + (j - dp)) else h j
theorem cpy_in (f h : Int → Int) {sp dp n j : Int} (q : dp ≤ j ∧ j < dp + n) : cpy f h sp dp n j = f (sp + (j - dp)) := by unfold cpy; rw [if_pos q]
theorem cpy_out (f h : Int → Int) {sp dp n j : Int} (q : ¬ (dp ≤ j ∧ j < dp + n)) : cpy f h sp dp n j = h j := by unfold cpy; rw [if_neg q]
theorem aI_cpy (f h : Int → Int) {sp dp n : Int} (q : 0 ≤ sp ∧ 0 ≤ dp ∧ 0 ≤ n) : va_cpy (aI f) (aI h) sp.toNat dp.toNat n.toNat = aI (cpy f h sp dp n) := by
  funext j
  unfold va_cpy aI cpy
  by_cases e : dp ≤ (j : Int) ∧ (j : Int) < dp + n
  · rw [if_pos e, if_pos (by omega)]
    have : ((sp.toNat + (j - dp.toNat) : Nat) : Int) = sp + ((j : Int) - dp) := by omega
    rw [this]
  · rw [if_neg e, if_neg (by omega)]
theorem fit_byte {v : Int} (h : -128 ≤ v ∧ v ≤ 127) : fits .byte (.int (iI v)) = true := by
  have e : (iI v).toInt8.toInt32 = iI v := by rw [← vp_nar_byte]; exact iI_byte h
  have := pk_fb (iI v)
  rw [e] at this
  exact this
section SPECIAL
variable {g : Gm} {E : Cx} {nL k n : Nat} {fs : List va_W} {pc : Nat} {lv : List (Nat × Value)} {st : List Value} {own : String} {cc : ByteArray} {d mc ms : Nat}
theorem r_max (q : Nat) (hE : Ok g E nL own cc d mc ms) {i : Nat} {x y : Int} (hdg : decode cc pc = .ok (.invokestatic i, 3)) (hq : pc + 3 = q) (w1 : Cond.methodLink own i Lib.Math.max.name ∈ Wt) (w2 : Cond.static Lib.Math.max.name ∈ Wt) (w3 : Cond.initialized "java/lang/Math" ∈ Wt) (w4 : Cond.code Lib.Math.max.name Lib.Math.max.code 2 (some .int) ∈ Wt) (hd : 1 ≤ d) (hk : k ≤ mc) (hn : n ≤ ms) (hs : (st.map fun v => v.category).sum ≤ 8)
    (hr : (-2147483648 ≤ x ∧ x ≤ 2147483647) ∧ (-2147483648 ≤ y ∧ y ≤ 2147483647)) (kk : G g E nL k n fs q lv (.int (iI (max x y)) :: st)) : G g E nL k n fs pc lv (.int (iI y) :: .int (iI x) :: st) := by
  subst hq
  intro H locs ls hP hD hS hl
  have hW := hE.1.2.2.2.2
  refine va_mmax hE.1.1 hE.1.2.1 (hE.1.2.2.1.trans hl.1.symm) hE.1.2.2.2.1 (hW _ w1) (hW _ w2) (hW _ w3) (hW _ w4) (by rw [hE.2.2.2.2.2]; exact hd) (by rw [hE.2.2.2.2.2]; show _ ≤ 40 * d; omega) (by rw [hE.2.2.2.2.2]; exact hk) (by rw [hE.2.2.2.2.2]; exact hn) hdg ?_
  have e : (if iI x < iI y then iI y else iI x) = iI (max x y) := by
    by_cases h : x < y
    · rw [if_pos ((iI_lt hr).mpr h)]; congr 1; omega
    · rw [if_neg (fun z => h ((iI_lt hr).mp z))]; congr 1; omega
  rw [e]
  exact kk H locs ls hP hD hS hl
theorem r_min (q : Nat) (hE : Ok g E nL own cc d mc ms) {i : Nat} {x y : Int} (hdg : decode cc pc = .ok (.invokestatic i, 3)) (hq : pc + 3 = q) (w1 : Cond.methodLink own i Lib.Math.min.name ∈ Wt) (w2 : Cond.static Lib.Math.min.name ∈ Wt) (w3 : Cond.initialized "java/lang/Math" ∈ Wt) (w4 : Cond.code Lib.Math.min.name Lib.Math.min.code 2 (some .int) ∈ Wt) (hd : 1 ≤ d) (hk : k ≤ mc) (hn : n ≤ ms) (hs : (st.map fun v => v.category).sum ≤ 8)
    (hr : (-2147483648 ≤ x ∧ x ≤ 2147483647) ∧ (-2147483648 ≤ y ∧ y ≤ 2147483647)) (kk : G g E nL k n fs q lv (.int (iI (min x y)) :: st)) : G g E nL k n fs pc lv (.int (iI y) :: .int (iI x) :: st) := by
  subst hq
  intro H locs ls hP hD hS hl
  have hW := hE.1.2.2.2.2
  refine va_mmin hE.1.1 hE.1.2.1 (hE.1.2.2.1.trans hl.1.symm) hE.1.2.2.2.1 (hW _ w1) (hW _ w2) (hW _ w3) (hW _ w4) (by rw [hE.2.2.2.2.2]; exact hd) (by rw [hE.2.2.2.2.2]; show _ ≤ 40 * d; omega) (by rw [hE.2.2.2.2.2]; exact hk) (by rw [hE.2.2.2.2.2]; exact hn) hdg ?_
  have e : (if iI y < iI x then iI y else iI x) = iI (min x y) := by
    by_cases h : y < x
    · rw [if_pos ((iI_lt ⟨hr.2, hr.1⟩).mpr h)]; congr 1; omega
    · rw [if_neg (fun z => h ((iI_lt ⟨hr.2, hr.1⟩).mp z))]; congr 1; omega
  rw [e]
  exact kk H locs ls hP hD hS hl
theorem r_copyB (q : Nat) (hE : Ok g E nL own cc d mc ms) (q0 q1 p0 p1 : Nat) {fg fh : va_W} {i : Nat} {a a0 n0 n1 : Nat} {f h : Int → Int} {sp dp m : Int} (fh2 : va_W) (fs2 : List va_W) (hdg : decode cc pc = .ok (.invokestatic i, 3)) (hq : pc + 3 = q) (w1 : Cond.methodLink own i arraycopyName ∈ Wt) (w2 : Cond.native arraycopyName ∈ Wt) (w3 : Cond.static arraycopyName ∈ Wt) (w4 : Cond.initialized "java/lang/System" ∈ Wt) (hd : 1 ≤ d) (hloc : (st.map fun v => v.category).sum + (nativeFrameWords "java/lang/System" "arraycopy" 5 + 11) ≤ 40 * d)
    (h0 : fs[q0]? = some fg) (h1 : fg[q1]? = some (ba g a0 n0 f)) (h0' : fs[p0]? = some fh) (h1' : fh[p1]? = some (ba g a n1 h)) (hr : 0 ≤ sp ∧ 0 ≤ dp ∧ 0 ≤ m ∧ sp + m ≤ n0 ∧ dp + m ≤ n1 ∧ sp ≤ 2147483647 ∧ dp ≤ 2147483647 ∧ m ≤ 2147483647) (hb : ∀ j, -128 ≤ f j ∧ f j ≤ 127) (hg : fh.set p1 (ba g a n1 (cpy f h sp dp m)) = fh2) (h2 : fs.set p0 fh2 = fs2)
    (kk : G g E nL k n fs2 q lv st) : G g E nL k n fs pc lv (.int (iI m) :: .int (iI dp) :: .ref a :: .int (iI sp) :: .ref a0 :: st) := by
  subst hq
  subst h2
  subst hg
  intro H locs ls hP hD hS hl
  have hW := hE.1.2.2.2.2
  obtain ⟨j0, e0, -⟩ := fl_at2 fs q0 q1 _ _ h0 h1
  obtain ⟨j1, e1, e2⟩ := fl_at2 fs p0 p1 _ _ h0' h1'
  have c1 := iI_clamp (z := sp) (by omega)
  have c2 := iI_clamp (z := dp) (by omega)
  have c3 := iI_clamp (z := m) (by omega)
  have nn : ∀ z : Int, 0 ≤ z → z ≤ 2147483647 → ¬ iI z < 0 := fun z z1 z2 q => by
    have := (iI_lt (a := z) (b := 0) (by omega)).mp q
    omega
  refine va_copyi (tys := g.tys) (ty := .byte) hE.1.1 hE.1.2.1 (hE.1.2.2.1.trans hl.1.symm) hE.1.2.2.2.1 (hW _ w1) (hW _ w2) (hW _ w3) (hW _ w4) hE.2.1 hP hD hS j0 j1 0 0 e0 e1 rfl rfl rfl (nn sp (by omega) (by omega)) (nn dp (by omega) (by omega)) (nn m (by omega) (by omega)) (by rw [c1, c3]; omega) (by rw [c2, c3]; omega) (fun i _ => fit_byte (hb _)) (by rw [hE.2.2.2.2.2]; exact hd) (by rw [hE.2.2.2.2.2]; exact hloc) hdg (fun H1 locs1 hP1 hD1 hS1 => ?_)
  rw [c1, c2, c3, aI_cpy f h ⟨hr.1, hr.2.1, hr.2.2.1⟩, show ((a, .inl (g.cB, n1, .inl (aI (cpy f h sp dp m)))) : Nat × va_E) = ba g a n1 (cpy f h sp dp m) from rfl, e2] at hP1 hD1
  exact kk H1 locs1 ls hP1 hD1 hS1 hl
end SPECIAL
