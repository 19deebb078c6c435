/-! ===== rows that make cells ===== -/
section MAKES
variable {g : Gm} {E : Cx} {nL k n : Nat} {fs : List va_W} {pc : Nat} {lv : List (Nat × Value)} {st : List Value} {own : String} {cc : ByteArray} {d mc ms : Nat}
theorem fl_snoc (fs : List va_W) (x : Nat × va_E) : (fs ++ [[x]]).flatten = fs.flatten ++ [x] := by rw [List.flatten_append]; simp
theorem cls_one {U : State} {cl : List vw_C} {D : va_G} {tys : List (ClassId × FieldType)} {cA c0 : ClassId} {ty : FieldType} {j : Nat} (hK : va_K D cl tys U) (h0 : tys[j]? = some (c0, ty)) (hK2 : va_K D cl (tys ++ [(cA, ty)]) U) : cA = c0 := by
  have h1 := (hK.2 j _ h0).2
  have h2 := (hK2.2 tys.length (cA, ty) (by rw [List.getElem?_append_right (Nat.le_refl _), Nat.sub_self]; rfl)).2
  have e : U.vm.findClass ("[" ++ ty.toString) = some c0 := by
    cases ty with
    | object C => obtain ⟨kA, comp, g1, g2, g3, g4⟩ := h1; exact g4
    | _ => exact h1
  have e2 : U.vm.findClass ("[" ++ ty.toString) = some cA := by
    cases ty with
    | object C => obtain ⟨kA, comp, g1, g2, g3, g4⟩ := h2; exact g4
    | _ => exact h2
  exact Option.some.inj (e2.symm.trans e)
theorem iI_nn {z : Int} (h : 0 ≤ z ∧ z ≤ 2147483647) : ¬ iI z < 0 := by
  rw [← iI_0, iI_lt (by omega)]
  omega
theorem r_newi (q N : Nat) (hE : Ok g E nL own cc d mc ms) {z : Int} (hz : z = (N : Int) ∧ N ≤ 100000) (hdg : decode cc pc = .ok (.newarray .int, 2)) (hq : pc + 2 = q) (hc : k + 1 ≤ mc ∧ n + N ≤ ms) (kk : ∀ a : Nat, G g E nL (k + 1) (n + N) (fs ++ [[ia g a N (fun _ => 0)]]) q lv (.ref a :: st)) : G g E nL k n fs pc lv (.int (iI z) :: st) := by
  subst hq
  intro H locs ls hP hD hS hl
  refine va_newa (atype := .int) (ty := .int) (a0 := (N, .inl (aI (fun _ => 0)))) hE.1.1 hE.1.2.1 (hE.1.2.2.2.2 _ wd_68) rfl hE.2.1 hP hD hS hE.2.2.1 (fun cA => rfl) (iI_nn (by omega)) (by rw [iI_clamp (by omega)]; omega) (by show N * 4 ≤ 536870912; omega) (by rw [hE.2.2.2.2.2]; exact hc.1) (by rw [hE.2.2.2.2.2]; exact hc.2) hdg (fun a cA H1 hK hP1 hD1 hS1 => ?_)
  have e : cA = g.cI := cls_one (j := 1) hE.2.1 rfl hK
  subst e
  exact kk a H1 locs ls (by rw [fl_snoc]; exact hP1) (by rw [fl_snoc]; exact hD1) hS1 hl
theorem r_newb (q N : Nat) (hE : Ok g E nL own cc d mc ms) {z : Int} (hz : z = (N : Int) ∧ N ≤ 100000) (hdg : decode cc pc = .ok (.newarray .byte, 2)) (hq : pc + 2 = q) (hc : k + 1 ≤ mc ∧ n + N ≤ ms) (kk : ∀ a : Nat, G g E nL (k + 1) (n + N) (fs ++ [[ba g a N (fun _ => 0)]]) q lv (.ref a :: st)) : G g E nL k n fs pc lv (.int (iI z) :: st) := by
  subst hq
  intro H locs ls hP hD hS hl
  refine va_newa (atype := .byte) (ty := .byte) (a0 := (N, .inl (aI (fun _ => 0)))) hE.1.1 hE.1.2.1 (hE.1.2.2.2.2 _ wd_67) rfl hE.2.1 hP hD hS hE.2.2.1 (fun cA => rfl) (iI_nn (by omega)) (by rw [iI_clamp (by omega)]; omega) (by show N * 1 ≤ 536870912; omega) (by rw [hE.2.2.2.2.2]; exact hc.1) (by rw [hE.2.2.2.2.2]; exact hc.2) hdg (fun a cA H1 hK hP1 hD1 hS1 => ?_)
  have e : cA = g.cB := cls_one (j := 0) hE.2.1 rfl hK
  subst e
  exact kk a H1 locs ls (by rw [fl_snoc]; exact hP1) (by rw [fl_snoc]; exact hD1) hS1 hl
theorem r_newq (q N : Nat) (hE : Ok g E nL own cc d mc ms) {z : Int} {i : Nat} (hz : z = (N : Int) ∧ N ≤ 100000) (hdg : decode cc pc = .ok (.anewarray i, 3)) (hq : pc + 3 = q) (hw : Cond.classLink own i "PairTexts$Shelf" ∈ Wt) (hc : k + 1 ≤ mc ∧ n + N ≤ ms) (kk : ∀ a : Nat, G g E nL (k + 1) (n + N) (fs ++ [[oa g a N (fun _ => none)]]) q lv (.ref a :: st)) : G g E nL k n fs pc lv (.int (iI z) :: st) := by
  subst hq
  intro H locs ls hP hD hS hl
  refine va_newq (N' := N) hE.1.1 hE.1.2.1 hE.1.2.2.2.1 (hE.1.2.2.2.2 _ hw) hE.2.2.2.1.2.2.1 hE.2.1 hP hD hS hE.2.2.1 (iI_nn (by omega)) (by rw [iI_clamp (by omega)]; omega) (by omega) (by rw [hE.2.2.2.2.2]; exact hc.1) (by rw [hE.2.2.2.2.2]; exact hc.2) hdg (fun a cA H1 hK hP1 hD1 hS1 => ?_)
  have e : cA = g.cO := cls_one (j := 2) hE.2.1 rfl hK
  subst e
  exact kk a H1 locs ls (by rw [fl_snoc]; exact hP1) (by rw [fl_snoc]; exact hD1) hS1 hl
theorem r_new (q : Nat) (hE : Ok g E nL own cc d mc ms) {ci : Nat} {C : String} {T : u_T} {N : Nat} {ty : Nat → FieldType} (hO : ClsOk ci C T N ty) {i : Nat} (vs : List Value) (hdg : decode cc pc = .ok (.new i, 3)) (hq : pc + 3 = q) (w1 : Cond.classLink own i C ∈ Wt) (w2 : Cond.instantiable C N ∈ Wt) (w3 : Cond.initialized C ∈ Wt) (hvs : ∀ j, j < N → defaultValue (ty j) = vp_V vs j) (hc : k + 1 ≤ mc ∧ n + N ≤ ms) (kk : ∀ a : Nat, G g E nL (k + 1) (n + N) (fs ++ [[ob a ci vs]]) q lv (.ref a :: st)) : G g E nL k n fs pc lv st := by
  subst hq
  intro H locs ls hP hD hS hl
  refine va_new (fs := vs) hE.1.1 hE.1.2.1 hE.1.2.2.2.2 hO.2.1 ty hO.2.2.1 hE.1.2.2.2.1 (hE.1.2.2.2.2 _ w1) (hE.1.2.2.2.2 _ w2) (hE.1.2.2.2.2 _ w3) hE.2.1 hP hD hS hE.2.2.1 hO.1 hvs (by rw [hE.2.2.2.2.2]; exact hc.1) (by rw [hE.2.2.2.2.2]; exact hc.2) hdg (fun a H1 hP1 hD1 hS1 => ?_)
  exact kk a H1 locs ls (by rw [fl_snoc]; exact hP1) (by rw [fl_snoc]; exact hD1) hS1 hl
theorem r_objInit (q : Nat) (hE : Ok g E nL own cc d mc ms) {a i : Nat} (hdg : decode cc pc = .ok (.invokespecial i, 3)) (hq : pc + 3 = q) (w1 : Cond.methodLink own i Lib.objectInit ∈ Wt) (w2 : Cond.instanceMethod Lib.objectInit ∈ Wt) (w3 : Cond.code Lib.objectInit object_method_1_code 1 none ∈ Wt) (hd : 1 ≤ d) (hrm : (st.map fun v => v.category).sum ≤ 8) (kk : G g E nL k n fs q lv st) : G g E nL k n fs pc lv (.ref a :: st) := by
  subst hq
  intro H locs ls hP hD hS hl
  refine W.objInit hE.1.1 hE.1.2.1 hE.1.2.2.2.1 (hE.1.2.2.2.2 _ w1) (hE.1.2.2.2.2 _ w2) (hE.1.2.2.2.2 _ w3) rfl (by rw [hl.1]; exact hE.1.2.2.1.symm) rfl hdg (by rw [hE.2.2.2.2.2]; exact hd) (by rw [hE.2.2.2.2.2]; have h9 := lv_room (m := E.m) (pc := pc) (ls := ls) (rest := .ref a :: st) hrm; show _ ≤ 40 * d; omega) (kk H locs ls hP hD hS hl)
end MAKES
