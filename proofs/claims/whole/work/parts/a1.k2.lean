/-! ===== an object into an array, a private constructor ===== -/
section MAKES2
variable {g : Gm} {E : Cx} {nL k n : Nat} {fs : List va_W} {pc : Nat} {lv : List (Nat × Value)} {st : List Value} {own : String} {cc : ByteArray} {d mc ms : Nat}
/-- addresses by a list -/
def af (l : List Nat) : Nat → Nat := fun i => l.getD i 0
theorem r_aast (q : Nat) (hE : Ok g E nL own cc d mc ms) (q0 q1 p0 p1 : Nat) {fg fh : va_W} {a m v : Nat} {vs : List Value} {f : Nat → Option Nat} {i : Int} (fg2 : va_W) (fs2 : List va_W) (hdg : decode cc pc = .ok (.aastore, 1)) (hq : pc + 1 = q) (h0 : fs[q0]? = some fg) (h1 : fg[q1]? = some (oa g a m f)) (h3 : fs[p0]? = some fh) (h4 : fh[p1]? = some (ob v 5 vs)) (hi : 0 ≤ i ∧ i < m ∧ i ≤ 2147483647) (hg : fg.set q1 (oa g a m (va_up f i.toNat (some v))) = fg2) (h2 : fs.set q0 fg2 = fs2)
    (kk : G g E nL k n fs2 q lv st) : G g E nL k n fs pc lv (.ref v :: .int (iI i) :: .ref a :: st) := by
  subst hq
  subst h2
  subst hg
  intro H locs ls hP hD hS hl
  obtain ⟨j, h1, h2⟩ := fl_at2 fs q0 q1 _ _ h0 h1
  obtain ⟨j2, h5, -⟩ := fl_at2 fs p0 p1 _ _ h3 h4
  refine va_astq (tys := g.tys) hE.1.1 hE.1.2.1 hE.2.1 hP hD hS j 2 j2 5 h1 rfl h5 ok5.1 (iI_in hi) hdg (fun H1 locs1 hP1 hD1 hS1 => ?_)
  rw [iI_clamp ⟨hi.1, hi.2.2⟩, show ((a, .inl (g.cO, m, .inr (.inr (.inr (.inr (va_up f i.toNat (some v))))))) : Nat × va_E) = oa g a m (va_up f i.toNat (some v)) from rfl, h2] at hP1 hD1
  exact kk H1 locs1 ls hP1 hD1 hS1 hl
theorem r_callIN (q : Nat) (hE : Ok g E nL own cc d mc ms) (isC isR : List Nat) (fc fr : List va_W) {b : Nat} {y : MethodName} {bytes : ByteArray} {maxL d2 mc2 ms2 i : Nat} {As : List Value} (rest : List Value) {host : String} {Post : Option Value → List va_W → Prop}
    (hM : Ct g d2 mc2 ms2 y bytes maxL none (.ref b :: As) fc Post) (hdg : decode cc pc = .ok (.invokespecial i, 3)) (hq : pc + 3 = q) (hin : y.name = "<init>") (w1 : va_Nw (.methodLinkNest own i y host) E.s) (w2 : Cond.instanceMethod y ∈ Wt) (w4 : Cond.initialized y.cls ∈ Wt) (w5 : Cond.code y bytes maxL none ∈ Wt)
    (hne : y.cls ≠ "java/lang/invoke/MethodHandle" ∧ y.cls ≠ "java/lang/invoke/VarHandle") (hds : (parseMethodDescriptor y.desc).map (fun d => d.parameters.length) = some As.length) (hd : d2 + 1 ≤ d) (hmL : maxL ≤ 21) (hc : k + mc2 ≤ mc ∧ n + ms2 ≤ ms) (hst : As.reverse ++ .ref b :: rest = st) (hrm : (rest.map fun v => v.category).sum ≤ 8)
    (hC : isC.map (fun i => fs[i]?) = fc.map some) (hR : isR.map (fun i => fs[i]?) = fr.map some) (hnC : va_nd isC = true) (hn : va_nd isR = true) (hdis : ∀ i ∈ isR, i ∉ isC)
    (kk : ∀ (v : Option Value) (f1 : List va_W), Post v f1 → G g E nL (k + mc2) (n + ms2) (f1 ++ fr) q lv (v.toList ++ rest)) : G g E nL k n fs pc lv st := by
  subst hq
  intro H locs ls hP hD hS hl
  refine goes hE hP hD hS hl hC hR hn hdis (va_runIN (As := As) (rest := rest) hE.1 (hM E.l H.size) ⟨va_cnB As.length hE.1.2.2.2.2 (Wt_GoodIn (Wt_cons w5)) rfl rfl rfl w1 (hE.1.2.2.2.2 _ w4) ⟨hne.1, hne.2, hds⟩ ?_, hin, hE.1.2.2.2.2 _ w2⟩ ⟨blind, preOf (av := .ref b :: As) hE hP hD hS hC hnC⟩ rfl rfl hl.1 hst.symm (lv_room hrm) hdg ?_) kk
  · rw [hE.2.2.2.2.2]
    exact ⟨hd, by show 8 + (maxL + 11) + 40 * d2 ≤ 40 * d; omega⟩
  · rw [hE.2.2.2.2.2]
    exact hc
end MAKES2
