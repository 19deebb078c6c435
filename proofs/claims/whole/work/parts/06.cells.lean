/-! ===== cells: pictures, fields, arrays ===== -/
def ob (a ci : Nat) (vs : List Value) : Nat × va_E := (a, .inr (ci, vs))
def ia (g : Gm) (a n : Nat) (f : Int → Int) : Nat × va_E := (a, .inl (g.cI, n, .inl (aI f)))
def ba (g : Gm) (a n : Nat) (f : Int → Int) : Nat × va_E := (a, .inl (g.cB, n, .inl (aI f)))
def oa (g : Gm) (a n : Nat) (f : Nat → Option Nat) : Nat × va_E := (a, .inl (g.cO, n, .inr (.inr (.inr (.inr f)))))
def ClsOk (ci : Nat) (C : String) (T : u_T) (N : Nat) (ty : Nat → FieldType) : Prop :=
  classes[ci]? = some (C, T, N) ∧ (∀ w ∈ u_ws C T N, w ∈ Wt) ∧ (∀ k, k < N → parseFieldDescriptor (T k).2.2.1 = some (ty k)) ∧ (∀ a, a < N → ∀ b, b < N → a ≠ b → (T a).2.1 ≠ (T b).2.1)
theorem ok0 : ClsOk 0 RX0 TX0 13 tyX0 := ⟨rfl, by decide +kernel, tyX0_ok, nmX0⟩
theorem ok1 : ClsOk 1 RX1 TX1 3 tyX1 := ⟨rfl, by decide +kernel, tyX1_ok, nmX1⟩
theorem ok2 : ClsOk 2 RX2 TX2 2 tyX2 := ⟨rfl, by decide +kernel, tyX2_ok, nmX2⟩
theorem ok3 : ClsOk 3 RX3 TX3 12 tyX3 := ⟨rfl, by decide +kernel, tyX3_ok, nmX3⟩
theorem ok4 : ClsOk 4 RX4 TX4 2 tyX4 := ⟨rfl, by decide +kernel, tyX4_ok, nmX4⟩
theorem ok5 : ClsOk 5 RX5 TX5 7 tyX5 := ⟨rfl, by decide +kernel, tyX5_ok, nmX5⟩
theorem ok6 : ClsOk 6 RX6 TX6 8 tyX6 := ⟨rfl, by decide +kernel, tyX6_ok, nmX6⟩
theorem ok7 : ClsOk 7 RX7 TX7 10 tyX7 := ⟨rfl, by decide +kernel, tyX7_ok, nmX7⟩
theorem ok8 : ClsOk 8 RX8 TX8 11 tyX8 := ⟨rfl, by decide +kernel, tyX8_ok, nmX8⟩
theorem ok9 : ClsOk 9 RX9 TX9 38 tyX9 := ⟨rfl, by decide +kernel, tyX9_ok, nmX9⟩
theorem fl_at2 : ∀ (fs : List va_W) (q0 q1 : Nat) (f : va_W) (x : Nat × va_E), fs[q0]? = some f → f[q1]? = some x → ∃ i, fs.flatten[i]? = some x ∧ ∀ y, fs.flatten.set i y = (fs.set q0 (f.set q1 y)).flatten
  | [], q0, q1, f, x, h, _ => by simp at h
  | f :: fs, 0, q1, f', x, h, hx => by
    have e : f = f' := by simpa using h
    subst e
    have hl : q1 < f.length := (List.getElem?_eq_some_iff.mp hx).1
    refine ⟨q1, ?_, fun y => ?_⟩
    · rw [List.flatten_cons, List.getElem?_append_left hl]
      exact hx
    · rw [List.flatten_cons, List.set_append_left _ _ hl]
      simp
  | f :: fs, q0 + 1, q1, f', x, h, hx => by
    obtain ⟨i, h1, h2⟩ := fl_at2 fs q0 q1 f' x (by simpa using h) hx
    refine ⟨f.length + i, ?_, fun y => ?_⟩
    · rw [List.flatten_cons, List.getElem?_append_right (by omega)]
      rw [Nat.add_sub_cancel_left]
      exact h1
    · rw [List.flatten_cons, List.set_append_right _ _ (by omega)]
      rw [Nat.add_sub_cancel_left, h2 y]
      simp
section CELLROWS
variable {g : Gm} {E : Cx} {nL k n : Nat} {fs : List va_W} {pc : Nat} {lv : List (Nat × Value)} {st : List Value} {own : String} {cc : ByteArray} {d mc ms : Nat}
theorem r_get (q : Nat) (hE : Ok g E nL own cc d mc ms) (q0 q1 : Nat) {fg : va_W} {ci : Nat} {C : String} {T : u_T} {N : Nat} {ty : Nat → FieldType} (hC : ClsOk ci C T N ty) (f : Nat) {a : Nat} {vs : List Value} {v : Value} {i : Nat} (hdg : decode cc pc = .ok (.getfield i, 3)) (hq : pc + 3 = q) (hw : Cond.fieldLink own i (T f).1 (T f).2.1 (T f).2.2.1 ∈ Wt) (h0 : fs[q0]? = some fg) (h1 : fg[q1]? = some (ob a ci vs)) (hf : f < N) (hv : vs[f]? = some v)
    (kk : G g E nL k n fs q lv (v :: st)) : G g E nL k n fs pc lv (.ref a :: st) := by
  subst hq
  intro H locs ls hP hD hS hl
  obtain ⟨j, h1, -⟩ := fl_at2 fs q0 q1 _ _ h0 h1
  exact va_get hE.1.1 hE.1.2.1 hE.1.2.2.2.2 hC.2.1 hE.1.2.2.2.1 hE.2.1 hP j h1 hC.1 f hf (hE.1.2.2.2.2 _ hw) (fun _ h => h) hv hdg (kk H locs ls hP hD hS hl)
theorem r_put (q : Nat) (hE : Ok g E nL own cc d mc ms) (q0 q1 : Nat) {fg : va_W} {ci : Nat} {C : String} {T : u_T} {N : Nat} {ty : Nat → FieldType} (hC : ClsOk ci C T N ty) (f : Nat) {a : Nat} {vs : List Value} {v : Value} {i : Nat} (fg2 : va_W) (fs2 : List va_W) (hdg : decode cc pc = .ok (.putfield i, 3)) (hq : pc + 3 = q) (hw : Cond.fieldLink own i (T f).1 (T f).2.1 (T f).2.2.1 ∈ Wt) (h0 : fs[q0]? = some fg) (h1 : fg[q1]? = some (ob a ci vs)) (hf : f < N) (hfin : (T f).2.2.2 = false) (hn : narrow (ty f) v = v) (hfit : fits (ty f) v = true) (hlen : f < vs.length) (hg : fg.set q1 (ob a ci (vs.set f v)) = fg2) (h2 : fs.set q0 fg2 = fs2)
    (kk : G g E nL k n fs2 q lv st) : G g E nL k n fs pc lv (v :: .ref a :: st) := by
  subst hq
  subst h2
  subst hg
  intro H locs ls hP hD hS hl
  obtain ⟨j, h1, h2⟩ := fl_at2 fs q0 q1 _ _ h0 h1
  refine va_put (ty := ty f) hE.1.1 hE.1.2.1 hE.1.2.2.2.2 hC.2.1 ty hC.2.2.1 hC.2.2.2 hE.1.2.2.2.1 hE.2.1 hP hD hS j h1 hC.1 f hf (hE.1.2.2.2.2 _ hw) (fun _ h => h) hfin (hC.2.2.1 f hf) hn hfit hlen hdg (fun H1 locs1 hP1 hD1 hS1 => ?_)
  rw [show ((a, .inr (ci, vs.set f v)) : Nat × va_E) = ob a ci (vs.set f v) from rfl, h2] at hP1 hD1
  exact kk H1 locs1 ls hP1 hD1 hS1 hl
theorem r_putF (q : Nat) (hE : Ok g E nL own cc d mc ms) (hin : E.meth.name = "<init>") (q0 q1 : Nat) {fg : va_W} {ci : Nat} {C : String} {T : u_T} {N : Nat} {ty : Nat → FieldType} (hC : ClsOk ci C T N ty) (f : Nat) {a : Nat} {vs : List Value} {v : Value} {i : Nat} (fg2 : va_W) (fs2 : List va_W) (hdg : decode cc pc = .ok (.putfield i, 3)) (hq : pc + 3 = q) (hw : Cond.fieldLink own i (T f).1 (T f).2.1 (T f).2.2.1 ∈ Wt) (h0 : fs[q0]? = some fg) (h1 : fg[q1]? = some (ob a ci vs)) (hf : f < N) (hfin : (T f).2.2.2 = true) (hdecl : (T f).1 = own) (hn : narrow (ty f) v = v) (hfit : fits (ty f) v = true) (hlen : f < vs.length) (hg : fg.set q1 (ob a ci (vs.set f v)) = fg2) (h2 : fs.set q0 fg2 = fs2)
    (kk : G g E nL k n fs2 q lv st) : G g E nL k n fs pc lv (v :: .ref a :: st) := by
  subst hq
  subst h2
  subst hg
  intro H locs ls hP hD hS hl
  obtain ⟨j, h1, h2⟩ := fl_at2 fs q0 q1 _ _ h0 h1
  refine va_putF (ty := ty f) hE.1.1 hE.1.2.1 hE.1.2.2.2.2 hC.2.1 ty hC.2.2.1 hC.2.2.2 hE.1.2.2.2.1 hE.2.1 hP hD hS j h1 hC.1 f hf (hE.1.2.2.2.2 _ hw) (fun _ h => h) hfin hin hdecl (hC.2.2.1 f hf) hn hfit hlen hdg (fun H1 locs1 hP1 hD1 hS1 => ?_)
  rw [show ((a, .inr (ci, vs.set f v)) : Nat × va_E) = ob a ci (vs.set f v) from rfl, h2] at hP1 hD1
  exact kk H1 locs1 ls hP1 hD1 hS1 hl
theorem r_iald (q : Nat) (hE : Ok g E nL own cc d mc ms) (q0 q1 : Nat) {fg : va_W} {a m : Nat} {f : Int → Int} {i : Int} (hdg : decode cc pc = .ok (.iaload, 1)) (hq : pc + 1 = q) (h0 : fs[q0]? = some fg) (h1 : fg[q1]? = some (ia g a m f)) (hi : 0 ≤ i ∧ i < m ∧ i ≤ 2147483647)
    (kk : G g E nL k n fs q lv (.int (iI (f i)) :: st)) : G g E nL k n fs pc lv (.int (iI i) :: .ref a :: st) := by
  subst hq
  intro H locs ls hP hD hS hl
  obtain ⟨j, h1, -⟩ := fl_at2 fs q0 q1 _ _ h0 h1
  refine va_iald (tys := g.tys) hE.1.1 hE.1.2.1 hE.2.1 hP j 1 h1 rfl (iI_in hi) hdg ?_
  rw [aI_at f ⟨hi.1, hi.2.2⟩]
  exact kk H locs ls hP hD hS hl
theorem r_bald (q : Nat) (hE : Ok g E nL own cc d mc ms) (q0 q1 : Nat) {fg : va_W} {a m : Nat} {f : Int → Int} {i : Int} (hdg : decode cc pc = .ok (.baload, 1)) (hq : pc + 1 = q) (h0 : fs[q0]? = some fg) (h1 : fg[q1]? = some (ba g a m f)) (hi : 0 ≤ i ∧ i < m ∧ i ≤ 2147483647)
    (kk : G g E nL k n fs q lv (.int (iI (f i)) :: st)) : G g E nL k n fs pc lv (.int (iI i) :: .ref a :: st) := by
  subst hq
  intro H locs ls hP hD hS hl
  obtain ⟨j, h1, -⟩ := fl_at2 fs q0 q1 _ _ h0 h1
  refine va_bald (tys := g.tys) hE.1.1 hE.1.2.1 hE.2.1 hP j 0 h1 rfl (iI_in hi) hdg ?_
  rw [aI_at f ⟨hi.1, hi.2.2⟩]
  exact kk H locs ls hP hD hS hl
theorem r_iast (q : Nat) (hE : Ok g E nL own cc d mc ms) (q0 q1 : Nat) {fg : va_W} {a m : Nat} {f : Int → Int} {i v : Int} (fg2 : va_W) (fs2 : List va_W) (hdg : decode cc pc = .ok (.iastore, 1)) (hq : pc + 1 = q) (h0 : fs[q0]? = some fg) (h1 : fg[q1]? = some (ia g a m f)) (hi : 0 ≤ i ∧ i < m ∧ i ≤ 2147483647) (hg : fg.set q1 (ia g a m (up f i v)) = fg2) (h2 : fs.set q0 fg2 = fs2)
    (kk : G g E nL k n fs2 q lv st) : G g E nL k n fs pc lv (.int (iI v) :: .int (iI i) :: .ref a :: st) := by
  subst hq
  subst h2
  subst hg
  intro H locs ls hP hD hS hl
  obtain ⟨j, h1, h2⟩ := fl_at2 fs q0 q1 _ _ h0 h1
  refine va_iast (tys := g.tys) hE.1.1 hE.1.2.1 hE.2.1 hP hD hS j 1 h1 rfl (iI_in hi) hdg (fun H1 locs1 hP1 hD1 hS1 => ?_)
  rw [aI_up f v ⟨hi.1, hi.2.2⟩, show ((a, .inl (g.cI, m, .inl (aI (up f i v)))) : Nat × va_E) = ia g a m (up f i v) from rfl, h2] at hP1 hD1
  exact kk H1 locs1 ls hP1 hD1 hS1 hl
theorem r_bast (q : Nat) (hE : Ok g E nL own cc d mc ms) (q0 q1 : Nat) {fg : va_W} {a m : Nat} {f : Int → Int} {i v : Int} (fg2 : va_W) (fs2 : List va_W) (hdg : decode cc pc = .ok (.bastore, 1)) (hq : pc + 1 = q) (h0 : fs[q0]? = some fg) (h1 : fg[q1]? = some (ba g a m f)) (hi : 0 ≤ i ∧ i < m ∧ i ≤ 2147483647) (hb : -128 ≤ v ∧ v ≤ 127) (hg : fg.set q1 (ba g a m (up f i v)) = fg2) (h2 : fs.set q0 fg2 = fs2)
    (kk : G g E nL k n fs2 q lv st) : G g E nL k n fs pc lv (.int (iI v) :: .int (iI i) :: .ref a :: st) := by
  subst hq
  subst h2
  subst hg
  intro H locs ls hP hD hS hl
  obtain ⟨j, h1, h2⟩ := fl_at2 fs q0 q1 _ _ h0 h1
  refine va_bast (tys := g.tys) hE.1.1 hE.1.2.1 hE.2.1 hP hD hS j 0 h1 rfl (iI_in hi) hdg (fun H1 locs1 hP1 hD1 hS1 => ?_)
  rw [iI_byte hb, aI_up f v ⟨hi.1, hi.2.2⟩, show ((a, .inl (g.cB, m, .inl (aI (up f i v)))) : Nat × va_E) = ba g a m (up f i v) from rfl, h2] at hP1 hD1
  exact kk H1 locs1 ls hP1 hD1 hS1 hl
theorem r_alen (q : Nat) (hE : Ok g E nL own cc d mc ms) (q0 q1 : Nat) {fg : va_W} {a m : Nat} {f : Int → Int} (hdg : decode cc pc = .ok (.arraylength, 1)) (hq : pc + 1 = q) (h0 : fs[q0]? = some fg) (h1 : fg[q1]? = some (ia g a m f))
    (kk : G g E nL k n fs q lv (.int (iI (m : Int)) :: st)) : G g E nL k n fs pc lv (.ref a :: st) := by
  subst hq
  intro H locs ls hP hD hS hl
  obtain ⟨j, h1, -⟩ := fl_at2 fs q0 q1 _ _ h0 h1
  exact va_alen (tys := g.tys) hE.1.1 hE.1.2.1 hE.2.1 hP j 1 h1 rfl (iI_nat m) hdg (kk H locs ls hP hD hS hl)
theorem r_alenB (q : Nat) (hE : Ok g E nL own cc d mc ms) (q0 q1 : Nat) {fg : va_W} {a m : Nat} {f : Int → Int} (hdg : decode cc pc = .ok (.arraylength, 1)) (hq : pc + 1 = q) (h0 : fs[q0]? = some fg) (h1 : fg[q1]? = some (ba g a m f))
    (kk : G g E nL k n fs q lv (.int (iI (m : Int)) :: st)) : G g E nL k n fs pc lv (.ref a :: st) := by
  subst hq
  intro H locs ls hP hD hS hl
  obtain ⟨j, h1, -⟩ := fl_at2 fs q0 q1 _ _ h0 h1
  exact va_alen (tys := g.tys) hE.1.1 hE.1.2.1 hE.2.1 hP j 0 h1 rfl (iI_nat m) hdg (kk H locs ls hP hD hS hl)
theorem r_alenO (q : Nat) (hE : Ok g E nL own cc d mc ms) (q0 q1 : Nat) {fg : va_W} {a m : Nat} {f : Nat → Option Nat} (hdg : decode cc pc = .ok (.arraylength, 1)) (hq : pc + 1 = q) (h0 : fs[q0]? = some fg) (h1 : fg[q1]? = some (oa g a m f))
    (kk : G g E nL k n fs q lv (.int (iI (m : Int)) :: st)) : G g E nL k n fs pc lv (.ref a :: st) := by
  subst hq
  intro H locs ls hP hD hS hl
  obtain ⟨j, h1, -⟩ := fl_at2 fs q0 q1 _ _ h0 h1
  exact va_alen (tys := g.tys) hE.1.1 hE.1.2.1 hE.2.1 hP j 2 h1 rfl (iI_nat m) hdg (kk H locs ls hP hD hS hl)
theorem r_aald (q : Nat) (hE : Ok g E nL own cc d mc ms) (q0 q1 : Nat) {fg : va_W} {a m : Nat} {f : Nat → Option Nat} {i : Int} (hdg : decode cc pc = .ok (.aaload, 1)) (hq : pc + 1 = q) (h0 : fs[q0]? = some fg) (h1 : fg[q1]? = some (oa g a m f)) (hi : 0 ≤ i ∧ i < m ∧ i ≤ 2147483647)
    (kk : G g E nL k n fs q lv (va_rf (f i.toNat) :: st)) : G g E nL k n fs pc lv (.int (iI i) :: .ref a :: st) := by
  subst hq
  intro H locs ls hP hD hS hl
  obtain ⟨j, h1, -⟩ := fl_at2 fs q0 q1 _ _ h0 h1
  refine va_aldq (tys := g.tys) hE.1.1 hE.1.2.1 hE.2.1 hP j 2 h1 rfl (iI_in hi) hdg ?_
  rw [iI_clamp ⟨hi.1, hi.2.2⟩]
  exact kk H locs ls hP hD hS hl
/-! the ends -/
theorem r_ireturn (hE : Ok g E nL own cc d mc ms) {Post : Option Value → List va_W → Prop} (hR : Rt g E (some .int) mc ms Post) {v : Int32} (w : List va_W) (hdg : decode cc pc = .ok (.ireturn, 1)) (hk : k ≤ mc) (hn : n ≤ ms) (hw : fs.flatten = w.flatten) (hp : Post (some (.int v)) w) : G g E nL k n fs pc lv [.int v] := by
  intro H locs ls hP hD hS hl
  rw [hw] at hP hD
  refine W.widen hk hn ?_
  rw [hR.2]
  exact W.iret hE.1.1 hE.1.2.1 hR.1 (fun t ht hW => ⟨⟨_, w, rfl, hp, by rw [ht]; exact hP, va_K.moved hW.alike hE.2.1, hD⟩, hS.F ht⟩) hS.2.2 hdg hE.2.2.2.2.1
theorem r_zreturn (hE : Ok g E nL own cc d mc ms) {Post : Option Value → List va_W → Prop} (hR : Rt g E (some .boolean) mc ms Post) {v : Int} (w : List va_W) (hdg : decode cc pc = .ok (.ireturn, 1)) (hk : k ≤ mc) (hn : n ≤ ms) (hv : v = 0 ∨ v = 1) (hw : fs.flatten = w.flatten) (hp : Post (some (.int (iI v))) w) : G g E nL k n fs pc lv [.int (iI v)] := by
  intro H locs ls hP hD hS hl
  rw [hw] at hP hD
  refine W.widen hk hn ?_
  rw [hR.2]
  exact W.zret hE.1.1 hE.1.2.1 hR.1 (by rcases hv with rfl | rfl <;> rfl) (fun t ht hW => ⟨⟨_, w, rfl, hp, by rw [ht]; exact hP, va_K.moved hW.alike hE.2.1, hD⟩, hS.F ht⟩) hS.2.2 hdg hE.2.2.2.2.1
theorem r_return (hE : Ok g E nL own cc d mc ms) {Post : Option Value → List va_W → Prop} (hR : Rt g E none mc ms Post) (w : List va_W) (hdg : decode cc pc = .ok (.return_, 1)) (hk : k ≤ mc) (hn : n ≤ ms) (hw : fs.flatten = w.flatten) (hp : Post none w) : G g E nL k n fs pc lv [] := by
  intro H locs ls hP hD hS hl
  rw [hw] at hP hD
  refine W.widen hk hn ?_
  rw [hR.2]
  exact W.vret hE.1.1 hE.1.2.1 hR.1 (fun t ht hW => ⟨⟨_, w, rfl, hp, by rw [ht]; exact hP, va_K.moved hW.alike hE.2.1, hD⟩, hS.F ht⟩) hS.2.2 hdg hE.2.2.2.2.1
theorem r_lreturn (hE : Ok g E nL own cc d mc ms) {Post : Option Value → List va_W → Prop} (hR : Rt g E (some .long) mc ms Post) {v : Int64} (w : List va_W) (hdg : decode cc pc = .ok (.lreturn, 1)) (hk : k ≤ mc) (hn : n ≤ ms) (hw : fs.flatten = w.flatten) (hp : Post (some (.long v)) w) : G g E nL k n fs pc lv [.long v] := by
  intro H locs ls hP hD hS hl
  rw [hw] at hP hD
  refine W.widen hk hn ?_
  rw [hR.2]
  exact W.lret hE.1.1 hE.1.2.1 hR.1 (fun t ht hW => ⟨⟨_, w, rfl, hp, by rw [ht]; exact hP, va_K.moved hW.alike hE.2.1, hD⟩, hS.F ht⟩) hS.2.2 hdg hE.2.2.2.2.1
theorem r_areturn (hE : Ok g E nL own cc d mc ms) {C : String} {Post : Option Value → List va_W → Prop} (hR : Rt g E (some (.object C)) mc ms Post) {v : Value} (w : List va_W) (hdg : decode cc pc = .ok (.areturn, 1)) (hk : k ≤ mc) (hn : n ≤ ms) (hv : v = .null ∨ ∃ a, v = .ref a) (hw : fs.flatten = w.flatten) (hp : Post (some v) w) : G g E nL k n fs pc lv [v] := by
  intro H locs ls hP hD hS hl
  rw [hw] at hP hD
  refine W.widen hk hn ?_
  rw [hR.2]
  exact W.aret hE.1.1 hE.1.2.1 hR.1 (Or.inl ⟨C, rfl⟩) hv (fun t ht hW => ⟨⟨_, w, rfl, hp, by rw [ht]; exact hP, va_K.moved hW.alike hE.2.1, hD⟩, hS.F ht⟩) hS.2.2 hdg hE.2.2.2.2.1
end CELLROWS
