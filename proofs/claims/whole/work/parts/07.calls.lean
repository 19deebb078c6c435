/-! ===== pieces picked, put together; calls ===== -/
theorem vaD_pw {A : Nat → Prop} {ws : va_W} : va_D A ws ↔ ws.Pairwise (fun p q => p.1 ≠ q.1) ∧ ∀ q ∈ ws, A q.1 := by
  constructor
  · intro h
    refine ⟨List.pairwise_iff_getElem.mpr fun i j hi hj hij e => ?_, fun q hq => ?_⟩
    · have := h.1 i j _ _ (List.getElem?_eq_getElem hi) (List.getElem?_eq_getElem hj) e
      omega
    · obtain ⟨i, hi⟩ := List.getElem?_of_mem hq
      exact h.2 i q hi
  · rintro ⟨h1, h2⟩
    refine ⟨fun i j p q hp hq e => ?_, fun k q hk => h2 q (List.mem_of_getElem? hk)⟩
    obtain ⟨hi, rfl⟩ := List.getElem?_eq_some_iff.mp hp
    obtain ⟨hj, rfl⟩ := List.getElem?_eq_some_iff.mp hq
    have hh := List.pairwise_iff_getElem.mp h1
    rcases Nat.lt_trichotomy i j with h | h | h
    · exact absurd e (hh i j hi hj h)
    · exact h
    · exact absurd e.symm (hh j i hj hi h)
theorem pk_mem {fs fc : List va_W} {is : List Nat} (h : is.map (fun i => fs[i]?) = fc.map some) {f : va_W} (hf : f ∈ fc) : f ∈ fs := by
  have : some f ∈ fc.map some := List.mem_map.mpr ⟨f, hf, rfl⟩
  rw [← h] at this
  obtain ⟨i, -, hi⟩ := List.mem_map.mp this
  exact List.mem_of_getElem? hi
theorem vaP_mem {D : va_G} {cl : List vw_C} {ws : va_W} {H : Heap} : va_P D cl ws H ↔ ∀ q ∈ ws, va_at D cl q H := by
  constructor
  · intro h q hq
    obtain ⟨i, hi⟩ := List.getElem?_of_mem hq
    exact h i q hi
  · intro h k q hk
    exact h q (List.mem_of_getElem? hk)
theorem pk_P {D : va_G} {cl : List vw_C} {fs fc : List va_W} {is : List Nat} {H : Heap} (h : is.map (fun i => fs[i]?) = fc.map some) (hP : va_P D cl fs.flatten H) : va_P D cl fc.flatten H := by
  rw [vaP_mem] at hP ⊢
  intro q hq
  obtain ⟨f, hf, hq⟩ := List.mem_flatten.mp hq
  exact hP q (List.mem_flatten.mpr ⟨f, pk_mem h hf, hq⟩)
theorem pk_get {fs fc : List va_W} {is : List Nat} (h : is.map (fun i => fs[i]?) = fc.map some) {a : Nat} {f : va_W} (hf : fc[a]? = some f) : ∃ i, is[a]? = some i ∧ fs[i]? = some f := by
  have h1 : (fc.map some)[a]? = some (some f) := by rw [List.getElem?_map, hf]; rfl
  rw [← h, List.getElem?_map] at h1
  cases hi : is[a]? with
  | none => rw [hi] at h1; cases h1
  | some i => rw [hi] at h1; exact ⟨i, rfl, Option.some.inj h1⟩
theorem pw_ne {fs : List va_W} (hD : fs.Pairwise (fun f h => ∀ x ∈ f, ∀ y ∈ h, x.1 ≠ y.1)) {i j : Nat} (hij : i ≠ j) {f h : va_W} (hi : fs[i]? = some f) (hj : fs[j]? = some h) : ∀ x ∈ f, ∀ y ∈ h, x.1 ≠ y.1 := by
  obtain ⟨a, rfl⟩ := List.getElem?_eq_some_iff.mp hi
  obtain ⟨b, rfl⟩ := List.getElem?_eq_some_iff.mp hj
  have hh := List.pairwise_iff_getElem.mp hD
  rcases Nat.lt_trichotomy i j with q | q | q
  · exact hh i j a b q
  · exact absurd q hij
  · exact fun x hx y hy e => hh j i b a q y hy x hx e.symm
theorem pk_D {A : Nat → Prop} {fs fc : List va_W} {is : List Nat} (h : is.map (fun i => fs[i]?) = fc.map some) (hn : va_nd is = true) (hD : va_D A fs.flatten) : va_D A fc.flatten := by
  rw [vaD_pw] at hD ⊢
  obtain ⟨h1, h2⟩ := hD
  rw [List.pairwise_flatten] at h1 ⊢
  refine ⟨⟨fun f hf => h1.1 f (pk_mem h hf), List.pairwise_iff_getElem.mpr fun a b ha hb hab => ?_⟩, fun q hq => ?_⟩
  · obtain ⟨i, hi, hi2⟩ := pk_get h (List.getElem?_eq_getElem ha)
    obtain ⟨j, hj, hj2⟩ := pk_get h (List.getElem?_eq_getElem hb)
    refine pw_ne h1.2 (fun e => ?_) hi2 hj2
    subst e
    have := va_nd_inj is hn a b i hi hj
    omega
  · obtain ⟨f, hf, hq⟩ := List.mem_flatten.mp hq
    exact h2 q (List.mem_flatten.mpr ⟨f, pk_mem h hf, hq⟩)
/-- of the pieces fr, which are none of the callee's, no cell is the callee's -/
theorem pk_apart {A : Nat → Prop} {D : va_G} {cl : List vw_C} {H : Heap} {fs fc fr : List va_W} {isC isR : List Nat} (hP : va_P D cl fs.flatten H) (hD : va_D A fs.flatten) (hC : isC.map (fun i => fs[i]?) = fc.map some) (hR : isR.map (fun i => fs[i]?) = fr.map some) (hdis : ∀ i ∈ isR, i ∉ isC) :
    ∀ q ∈ fr.flatten, q.1 < H.size ∧ ¬ va_A fc.flatten H.size q.1 := by
  intro q hq
  obtain ⟨f, hf, hq⟩ := List.mem_flatten.mp hq
  have hl : q.1 < H.size := ((vaP_mem.mp hP) q (List.mem_flatten.mpr ⟨f, pk_mem hR hf, hq⟩)).lt
  refine ⟨hl, fun z => ?_⟩
  rcases z with ⟨b, e, z⟩ | z
  · obtain ⟨h, hh, hz⟩ := List.mem_flatten.mp (List.mem_of_getElem? z)
    obtain ⟨a, ha⟩ := List.getElem?_of_mem hf
    obtain ⟨b, hb⟩ := List.getElem?_of_mem hh
    obtain ⟨i, hi, hi2⟩ := pk_get hR ha
    obtain ⟨j, hj, hj2⟩ := pk_get hC hb
    rw [vaD_pw, List.pairwise_flatten] at hD
    exact pw_ne hD.1.2 (fun e => hdis i (List.mem_of_getElem? hi) (by rw [e]; exact List.mem_of_getElem? hj)) hi2 hj2 q hq _ hz rfl
  · omega
theorem pk_free {A : Nat → Prop} {fs fc : List va_W} {isC : List Nat} {H0 H : Heap} {locs : List Loc} (hD : va_D A fs.flatten) (hS : va_S A H0 H locs) (hA : ∀ q, H0.size ≤ q → A q) (hC : isC.map (fun i => fs[i]?) = fc.map some) : ∀ q, va_A fc.flatten H.size q → A q := by
  intro q z
  rcases z with ⟨b, e, z⟩ | z
  · obtain ⟨h, hh, hz⟩ := List.mem_flatten.mp (List.mem_of_getElem? z)
    exact (vaD_pw.mp hD).2 _ (List.mem_flatten.mpr ⟨h, pk_mem hC hh, hz⟩)
  · exact hA q (Nat.le_trans hS.1 z)
theorem pk_join {A : Nat → Prop} {D : va_G} {cl : List vw_C} {H H1 : Heap} {fs fc fr f1 : List va_W} {isC isR : List Nat} (hP : va_P D cl fs.flatten H) (hD : va_D A fs.flatten) (hC : isC.map (fun i => fs[i]?) = fc.map some) (hR : isR.map (fun i => fs[i]?) = fr.map some) (hn : va_nd isR = true) (hdis : ∀ i ∈ isR, i ∉ isC)
    (hk : ∀ q : Nat, q < H.size → ¬ va_A fc.flatten H.size q → H1[q]? = H[q]?) (hF : ∀ q, va_A fc.flatten H.size q → A q) (hP1 : va_P D cl f1.flatten H1) (hD1 : va_D (va_A fc.flatten H.size) f1.flatten) : va_P D cl (f1 ++ fr).flatten H1 ∧ va_D A (f1 ++ fr).flatten := by
  have ap := pk_apart hP hD hC hR hdis
  rw [List.flatten_append]
  constructor
  · refine va_P.app hP1 (vaP_mem.mpr fun q hq => ?_)
    exact ((vaP_mem.mp (pk_P hR hP)) q hq).kept (hk q.1 (ap q hq).1 (ap q hq).2)
  · refine va_D.app (hD1.weaken (fun k q _ h => hF q.1 h)) (pk_D hR hn hD) (fun i j x y hx hy hxy => ?_)
    exact (ap y (List.mem_of_getElem? hy)).2 (by rw [← hxy]; exact hD1.2 i x hx)
section CALLS
variable {g : Gm} {E : Cx} {nL k n : Nat} {fs : List va_W} {pc : Nat} {lv : List (Nat × Value)} {st : List Value} {own : String} {cc : ByteArray} {d mc ms : Nat}
/-- other order, fewer cells, fewer locals -/
theorem G.to {fs' : List va_W} {lv' : List (Nat × Value)} (is ks : List Nat) (h : is.map (fun i => fs[i]?) = fs'.map some) (hn : va_nd is = true) (hl : lv_pick lv ks = lv') (kk : G g E nL k n fs' pc lv' st) : G g E nL k n fs pc lv st := by
  intro H locs ls hP hD hS hl'
  exact kk H locs ls (pk_P h hP) (pk_D h hn hD) hS (lv_sub hl' ks hl)
theorem blind {av : List Value} {w : List va_W} {sz : Nat} : FrameBlind (PcOf g av w sz) := by
  intro a U gg mk q
  obtain ⟨q0, q1, qP, qK, qD, qS⟩ := q
  exact ⟨q0, q1, qP, va_K.moved (u := U) (U := U.calling gg mk a) (Vm.Alike.refl U.vm) qK, qD, qS.same (U := U.calling gg mk a) rfl⟩
theorem preOf (hE : Ok g E nL own cc d mc ms) {H : Heap} {locs : List Loc} {fc : List va_W} {isC : List Nat} {av : List Value} (hP : va_P g.D classes fs.flatten H) (hD : va_D E.A fs.flatten) (hS : va_S E.A E.s.heap H locs) (hC : isC.map (fun i => fs[i]?) = fc.map some) (hn : va_nd isC = true) :
    ∀ U : State, U.heap = H → E.s.WarmedH U.vm → PcOf g av fc H.size av.toArray U := by
  intro U hU hW
  refine ⟨rfl, by rw [hU], by rw [hU]; exact pk_P hC hP, va_K.moved hW.alike hE.2.1, (pk_D hC hn hD).weaken (fun _ _ _ _ => trivial), ?_⟩
  rw [hU]
  exact ((hE.2.2.2.1.warm hW).kept (fun a h1 h2 => hS.2.1 a h1 h2)).narrow (pk_free hD hS hE.2.2.1 hC)
theorem goes (hE : Ok g E nL own cc d mc ms) {H : Heap} {locs : List Loc} {ls : Array Slot} {fc fr : List va_W} {isC isR : List Nat} {mc2 ms2 : Nat} {rest : List Value} {Post : Option Value → List va_W → Prop} {a : Array Value} (hP : va_P g.D classes fs.flatten H) (hD : va_D E.A fs.flatten) (hS : va_S E.A E.s.heap H locs) (hl : lv_has ls nL lv)
    (hC : isC.map (fun i => fs[i]?) = fc.map some) (hR : isR.map (fun i => fs[i]?) = fr.map some) (hn : va_nd isR = true) (hdis : ∀ i ∈ isR, i ∉ isC)
    (hr : va_Run E.p E.l E.e E.R E.s E.m E.args E.below E.meth E.c H locs k n mc2 ms2 (F0 E.m pc ls st) rest (QcOf g (va_A fc.flatten H.size) Post a) (va_A fc.flatten H.size))
    (kk : ∀ (v : Option Value) (f1 : List va_W), Post v f1 → G g E nL (k + mc2) (n + ms2) (f1 ++ fr) (pc + 3) lv (v.toList ++ rest)) : W E.p E.l E.e E.R E.s E.m E.args E.below E.meth E.c H locs k n E.Q (F0 E.m pc ls st) := by
  intro T hT X
  have hF := pk_free hD hS hE.2.2.1 hC
  obtain ⟨v0, st₀, t, T', L, h0, X', hL, e1, e2, ⟨⟨v, f1, hv, hp, hP1, hK1, hD1⟩, hz, hk⟩, stp⟩ := hr T hT X
  cases hv
  rw [h0] at hz hk
  obtain ⟨hP2, hD2⟩ := pk_join hP hD hC hR hn hdis hk hF hP1 hD1
  have hS2 : va_S E.A E.s.heap t.heap (locs ++ L) := ⟨Nat.le_trans hS.1 hz, fun q h1 h2 => by
      rw [hk q (Nat.lt_of_lt_of_le h1 hS.1) (fun z => h2 (hF q z))]; exact hS.2.1 q h1 h2, fun q hq => by
      rcases List.mem_append.mp hq with h | h
      · exact hS.2.2 q h
      · exact hF _ (hL q h)⟩
  rw [← e1] at hP2 hS2
  obtain ⟨t2, a1, b1⟩ := kk v0 f1 hp T'.heap (locs ++ L) ls hP2 hD2 hS2 hl T' rfl X'
  exact ⟨t2, stp t2 a1, b1⟩
theorem Wt_GoodIn {ws : List Cond} (h : ∀ w ∈ ws, w ∈ Wt) : GoodIn Wt ws := fun w hw => ⟨h w hw, good_of_word (Wt_good (h w hw))⟩
theorem Wt_cons {w : Cond} (h : w ∈ Wt) : ∀ x ∈ w :: Wt, x ∈ Wt := fun x hx => by
  rcases List.mem_cons.mp hx with e | e
  · rw [e]; exact h
  · exact e
/-- invokevirtual -/
theorem r_callV (q : Nat) (hE : Ok g E nL own cc d mc ms) (isC isR : List Nat) (fc fr : List va_W) (q0 ci : Nat) {C : String} {T : u_T} {N : Nat} {ty : Nat → FieldType} (hO : ClsOk ci C T N ty) {b : Nat} {vs : List Value} {y : MethodName} {bytes : ByteArray} {maxL d2 mc2 ms2 i : Nat} {ret : Option FieldType} {As : List Value} (rest : List Value) {Post : Option Value → List va_W → Prop}
    (hM : Ct g d2 mc2 ms2 y bytes maxL ret (.ref b :: As) fc Post) (hdg : decode cc pc = .ok (.invokevirtual i, 3)) (hq : pc + 3 = q) (hy : y.cls = C) (w1 : Cond.methodLink own i y ∈ Wt) (w2 : Cond.instanceMethod y ∈ Wt) (w3 : Cond.selects C y y ∈ Wt) (w4 : Cond.initialized C ∈ Wt) (w5 : Cond.code y bytes maxL ret ∈ Wt)
    (hne : y.cls ≠ "java/lang/invoke/MethodHandle" ∧ y.cls ≠ "java/lang/invoke/VarHandle") (hds : (parseMethodDescriptor y.desc).map (fun d => d.parameters.length) = some As.length) (hd : d2 + 1 ≤ d) (hmL : maxL ≤ 21) (hc : k + mc2 ≤ mc ∧ n + ms2 ≤ ms) (hst : As.reverse ++ .ref b :: rest = st) (hrm : (rest.map fun v => v.category).sum ≤ 8)
    (hC : isC.map (fun i => fs[i]?) = fc.map some) (hR : isR.map (fun i => fs[i]?) = fr.map some) (hnC : va_nd isC = true) (hn : va_nd isR = true) (hdis : ∀ i ∈ isR, i ∉ isC) (h0 : fc.flatten[q0]? = some (ob b ci vs))
    (kk : ∀ (v : Option Value) (f1 : List va_W), Post v f1 → G g E nL (k + mc2) (n + ms2) (f1 ++ fr) q lv (v.toList ++ rest)) : G g E nL k n fs pc lv st := by
  subst hq
  intro H locs ls hP hD hS hl
  refine goes hE hP hD hS hl hC hR hn hdis (va_runV (As := As) (rest := rest) hE.1 (hM E.l H.size) (cwV As.length hE.1.2.2.2.2 (Wt_GoodIn fun w hw => ?_) rfl rfl rfl ⟨hy, hne.1, hne.2, hds⟩ ?_) ⟨blind, va_recv hE.2.1 (pk_P hC hP) (ci := ci) (q0 := q0) hO.1 h0, preOf (av := .ref b :: As) hE hP hD hS hC hnC⟩ rfl rfl hl.1 hst.symm (lv_room hrm) hdg ?_) kk
  · rcases List.mem_append.mp hw with h | h
    · simp only [List.mem_cons, List.not_mem_nil, or_false] at h
      rcases h with rfl | rfl | rfl | rfl
      · exact w1
      · exact w2
      · exact w3
      · exact w4
    · exact Wt_cons w5 w h
  · rw [hE.2.2.2.2.2]
    exact ⟨hd, by show 8 + (maxL + 11) + 40 * d2 ≤ 40 * d; omega⟩
  · rw [hE.2.2.2.2.2]
    exact hc
/-- invokestatic -/
theorem r_callS (q : Nat) (hE : Ok g E nL own cc d mc ms) (isC isR : List Nat) (fc fr : List va_W) {y : MethodName} {bytes : ByteArray} {maxL d2 mc2 ms2 i : Nat} {ret : Option FieldType} {As : List Value} (rest : List Value) {Post : Option Value → List va_W → Prop}
    (hM : Ct g d2 mc2 ms2 y bytes maxL ret As fc Post) (hdg : decode cc pc = .ok (.invokestatic i, 3)) (hq : pc + 3 = q) (w1 : Cond.methodLink own i y ∈ Wt) (w2 : Cond.static y ∈ Wt) (w4 : Cond.initialized y.cls ∈ Wt) (w5 : Cond.code y bytes maxL ret ∈ Wt)
    (hne : y.cls ≠ "java/lang/invoke/MethodHandle" ∧ y.cls ≠ "java/lang/invoke/VarHandle") (hds : (parseMethodDescriptor y.desc).map (fun d => d.parameters.length) = some As.length) (hd : d2 + 1 ≤ d) (hmL : maxL ≤ 21) (hc : k + mc2 ≤ mc ∧ n + ms2 ≤ ms) (hst : As.reverse ++ rest = st) (hrm : (rest.map fun v => v.category).sum ≤ 8)
    (hC : isC.map (fun i => fs[i]?) = fc.map some) (hR : isR.map (fun i => fs[i]?) = fr.map some) (hnC : va_nd isC = true) (hn : va_nd isR = true) (hdis : ∀ i ∈ isR, i ∉ isC)
    (kk : ∀ (v : Option Value) (f1 : List va_W), Post v f1 → G g E nL (k + mc2) (n + ms2) (f1 ++ fr) q lv (v.toList ++ rest)) : G g E nL k n fs pc lv st := by
  subst hq
  intro H locs ls hP hD hS hl
  refine goes hE hP hD hS hl hC hR hn hdis (va_runS (As := As) (rest := rest) hE.1 (hM E.l H.size) ⟨callB_of As.length hE.1.2.2.2.2 (Wt_GoodIn (Wt_cons w5)) rfl rfl rfl (hE.1.2.2.2.2 _ w4) (hE.1.2.2.2.2 _ w1) ⟨hne.1, hne.2, hds⟩ ?_, hE.1.2.2.2.2 _ w2⟩ ⟨blind, preOf (av := As) hE hP hD hS hC hnC⟩ rfl rfl hl.1 hst.symm (lv_room hrm) hdg ?_) kk
  · rw [hE.2.2.2.2.2]
    exact ⟨hd, by show 8 + (maxL + 11) + 40 * d2 ≤ 40 * d; omega⟩
  · rw [hE.2.2.2.2.2]
    exact hc
/-- invokespecial of a constructor -/
theorem r_callI (q : Nat) (hE : Ok g E nL own cc d mc ms) (isC isR : List Nat) (fc fr : List va_W) {b : Nat} {y : MethodName} {bytes : ByteArray} {maxL d2 mc2 ms2 i : Nat} {As : List Value} (rest : List Value) {Post : Option Value → List va_W → Prop}
    (hM : Ct g d2 mc2 ms2 y bytes maxL none (.ref b :: As) fc Post) (hdg : decode cc pc = .ok (.invokespecial i, 3)) (hq : pc + 3 = q) (hin : y.name = "<init>") (w1 : Cond.methodLink own i y ∈ Wt) (w2 : Cond.instanceMethod y ∈ Wt) (w4 : Cond.initialized y.cls ∈ Wt) (w5 : Cond.code y bytes maxL none ∈ Wt)
    (hne : y.cls ≠ "java/lang/invoke/MethodHandle" ∧ y.cls ≠ "java/lang/invoke/VarHandle") (hds : (parseMethodDescriptor y.desc).map (fun d => d.parameters.length) = some As.length) (hd : d2 + 1 ≤ d) (hmL : maxL ≤ 21) (hc : k + mc2 ≤ mc ∧ n + ms2 ≤ ms) (hst : As.reverse ++ .ref b :: rest = st) (hrm : (rest.map fun v => v.category).sum ≤ 8)
    (hC : isC.map (fun i => fs[i]?) = fc.map some) (hR : isR.map (fun i => fs[i]?) = fr.map some) (hnC : va_nd isC = true) (hn : va_nd isR = true) (hdis : ∀ i ∈ isR, i ∉ isC)
    (kk : ∀ (v : Option Value) (f1 : List va_W), Post v f1 → G g E nL (k + mc2) (n + ms2) (f1 ++ fr) q lv (v.toList ++ rest)) : G g E nL k n fs pc lv st := by
  subst hq
  intro H locs ls hP hD hS hl
  refine goes hE hP hD hS hl hC hR hn hdis (va_runI (As := As) (rest := rest) hE.1 (hM E.l H.size) (cwI As.length hE.1.2.2.2.2 (Wt_GoodIn (Wt_cons w5)) rfl rfl rfl (hE.1.2.2.2.2 _ w4) (hE.1.2.2.2.2 _ w1) (hE.1.2.2.2.2 _ w2) hin ⟨hne.1, hne.2, hds⟩ ?_) ⟨blind, preOf (av := .ref b :: As) hE hP hD hS hC hnC⟩ rfl rfl hl.1 hst.symm (lv_room hrm) hdg ?_) kk
  · rw [hE.2.2.2.2.2]
    exact ⟨hd, by show 8 + (maxL + 11) + 40 * d2 ≤ 40 * d; omega⟩
  · rw [hE.2.2.2.2.2]
    exact hc
end CALLS
