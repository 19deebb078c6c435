/-! ===== the context of a walk, in one name ===== -/
def RxObj : String := "PairTexts$Shelf"
abbrev classes : List vw_C := [(RX0, TX0, 13), (RX1, TX1, 3), (RX2, TX2, 2), (RX3, TX3, 12), (RX4, TX4, 2), (RX5, TX5, 7), (RX6, TX6, 8), (RX7, TX7, 10), (RX8, TX8, 11), (RX9, TX9, 38)]
/-- what stays: class numbers, slots, array classes, the String constants' cells -/
def Gm : Type := (Nat → ClassId) × (Nat → Nat → Nat) × ClassId × ClassId × ClassId × (Nat → Nat) × (Nat → Nat)
def Gm.D (g : Gm) : va_G := (g.1, g.2.1)
def Gm.cB (g : Gm) : ClassId := g.2.2.1
def Gm.cI (g : Gm) : ClassId := g.2.2.2.1
def Gm.cO (g : Gm) : ClassId := g.2.2.2.2.1
def Gm.adK (g : Gm) : Nat → Nat := g.2.2.2.2.2.1
def Gm.adV (g : Gm) : Nat → Nat := g.2.2.2.2.2.2
def Gm.tys (g : Gm) : List (ClassId × FieldType) := [(g.cB, .byte), (g.cI, .int), (g.cO, .object "PairTexts$Shelf")]
/-- the texts "text", "put" and the signs -/
def strLen : List Nat := [4, 3, 11]
def strByt : List (List Int32) := [[116, 101, 120, 116], [112, 117, 116], [43, 42, 91, 44, 93, 40, 41, 126, 35, 59, 61]]
def SI (g : Gm) (A : Nat → Prop) (U : State) (H : Heap) : Prop :=
  (va_Nw (.methodLinkNest "PairTexts" 31 ⟨"PairTexts$Shelf", "<init>", "()V"⟩ "PairTexts") U ∧
   va_Nw (.methodLinkNest "PairTexts$Pile" 21 ⟨"PairTexts$Shelf", "<init>", "()V"⟩ "PairTexts") U ∧
   va_Nw (.methodLinkNest "PairTexts" 69 ⟨"PairTexts$Search", "<init>", "()V"⟩ "PairTexts") U ∧
   va_Nw (.methodLinkNest "PairTexts$Book" 20 ⟨"PairTexts$Shelf", "<init>", "()V"⟩ "PairTexts") U ∧
   va_Nw (.methodLinkNest "PairTexts" 11 ⟨"PairTexts$Book", "<init>", "()V"⟩ "PairTexts") U ∧
   va_Nw (.methodLinkNest "PairTexts$Book" 11 ⟨"PairTexts$Tokens", "<init>", "()V"⟩ "PairTexts") U ∧
   va_Nw (.methodLinkNest "PairTexts" 57 ⟨"PairTexts$Walk", "<init>", "()V"⟩ "PairTexts") U) ∧
  (vk_R "PairTexts$Tokens" 88 "text" (g.adK 0) U ∧ vk_R "PairTexts$Tokens" 94 "put" (g.adK 1) U ∧ vk_R "PairTexts$Tokens" 78 "+*[,]()~#;=" (g.adK 2) U ∧ vk_R "PairTextsModel" 242 "text" (g.adK 0) U ∧ vk_R "PairTextsModel" 247 "put" (g.adK 1) U) ∧
  va_AO "PairTexts$Shelf" U ∧ vk_S 3 strLen strByt g.adK g.adV A U H ∧ va_Z "java/lang/String" "COMPACT_STRINGS" "Z" (.int 1) A U H ∧ va_Zq "jdk/internal/util/Preconditions" "SIOOBE_FORMATTER" "Ljava/util/function/BiFunction;" A U H
theorem SI.warm {g : Gm} {A : Nat → Prop} {s U : State} {H : Heap} (hW : s.WarmedH U.vm) (h : SI g A s H) : SI g A U H :=
  ⟨⟨h.1.1.warmM hW, h.1.2.1.warmM hW, h.1.2.2.1.warmM hW, h.1.2.2.2.1.warmM hW, h.1.2.2.2.2.1.warmM hW, h.1.2.2.2.2.2.1.warmM hW, h.1.2.2.2.2.2.2.warmM hW⟩, ⟨h.2.1.1.warm hW, h.2.1.2.1.warm hW, h.2.1.2.2.1.warm hW, h.2.1.2.2.2.1.warm hW, h.2.1.2.2.2.2.warm hW⟩, h.2.2.1.moved hW.alike, h.2.2.2.1.moved hW.alike, h.2.2.2.2.1.moved hW.alike, h.2.2.2.2.2.moved hW.alike⟩
theorem SI.kept {g : Gm} {A : Nat → Prop} {U : State} {H H1 : Heap} (h : SI g A U H) (hq : ∀ a : Nat, a < H.size → ¬ A a → H1[a]? = H[a]?) : SI g A U H1 :=
  ⟨h.1, h.2.1, h.2.2.1, h.2.2.2.1.kept hq, h.2.2.2.2.1.kept hq, h.2.2.2.2.2.kept hq⟩
theorem SI.narrow {g : Gm} {A B : Nat → Prop} {U : State} {H : Heap} (h : SI g A U H) (hAB : ∀ q, B q → A q) : SI g B U H :=
  ⟨h.1, h.2.1, h.2.2.1, h.2.2.2.1.narrow hAB, h.2.2.2.2.1.narrow hAB, h.2.2.2.2.2.narrow hAB⟩
theorem SI.same {g : Gm} {A : Nat → Prop} {u U : State} {H : Heap} (hv : U.vm = u.vm) (h : SI g A u H) : SI g A U H :=
  ⟨⟨h.1.1.same rfl hv.symm, h.1.2.1.same rfl hv.symm, h.1.2.2.1.same rfl hv.symm, h.1.2.2.2.1.same rfl hv.symm, h.1.2.2.2.2.1.same rfl hv.symm, h.1.2.2.2.2.2.1.same rfl hv.symm, h.1.2.2.2.2.2.2.same rfl hv.symm⟩, ⟨h.2.1.1.same hv, h.2.1.2.1.same hv, h.2.1.2.2.1.same hv, h.2.1.2.2.2.1.same hv, h.2.1.2.2.2.2.same hv⟩, h.2.2.1.moved (by rw [hv]; exact Vm.Alike.refl _), h.2.2.2.1.moved (by rw [hv]; exact Vm.Alike.refl _), h.2.2.2.2.1.moved (by rw [hv]; exact Vm.Alike.refl _), h.2.2.2.2.2.moved (by rw [hv]; exact Vm.Alike.refl _)⟩
def Cx : Type := Program × Launch × Env × Room × State × MethodId × Array Value × List Frame × Method × Code × (Nat → Prop) × (State → Prop)
def Cx.p (E : Cx) : Program := E.1
def Cx.l (E : Cx) : Launch := E.2.1
def Cx.e (E : Cx) : Env := E.2.2.1
def Cx.R (E : Cx) : Room := E.2.2.2.1
def Cx.s (E : Cx) : State := E.2.2.2.2.1
def Cx.m (E : Cx) : MethodId := E.2.2.2.2.2.1
def Cx.args (E : Cx) : Array Value := E.2.2.2.2.2.2.1
def Cx.below (E : Cx) : List Frame := E.2.2.2.2.2.2.2.1
def Cx.meth (E : Cx) : Method := E.2.2.2.2.2.2.2.2.1
def Cx.c (E : Cx) : Code := E.2.2.2.2.2.2.2.2.2.1
def Cx.A (E : Cx) : Nat → Prop := E.2.2.2.2.2.2.2.2.2.2.1
def Cx.Q (E : Cx) : State → Prop := E.2.2.2.2.2.2.2.2.2.2.2
/-- the machine at pc, with locals lv, stack st, and a heap that holds the cells fs, comes to Q -/
def G (g : Gm) (E : Cx) (nL k n : Nat) (fs : List va_W) (pc : Nat) (lv : List (Nat × Value)) (st : List Value) : Prop :=
  ∀ (H : Heap) (locs : List Loc) (ls : Array Slot), va_P g.D classes fs.flatten H → va_D E.A fs.flatten → va_S E.A E.s.heap H locs → lv_has ls nL lv → W E.p E.l E.e E.R E.s E.m E.args E.below E.meth E.c H locs k n E.Q (F0 E.m pc ls st)
def Ok (g : Gm) (E : Cx) (nL : Nat) (own : String) (cc : ByteArray) (d mc ms : Nat) : Prop :=
  CallFix E.p E.m E.c cc nL E.s E.args Wt own ∧ va_K g.D classes g.tys E.s ∧ (∀ q, E.s.heap.size ≤ q → E.A q) ∧ SI g E.A E.s E.s.heap ∧ E.meth.locks = false ∧ E.R = { frames := d, cells := mc, slots := ms, locals := 40 * d }
/-- what a method's end must give -/
def QcOf (g : Gm) (A : Nat → Prop) (Post : Option Value → List va_W → Prop) : Array Value → State → Outcome → State → Prop := fun _ st o t =>
  (∃ (v : Option Value) (w1 : List va_W), o = .returned v ∧ Post v w1 ∧ va_P g.D classes w1.flatten t.heap ∧ va_K g.D classes g.tys t ∧ va_D A w1.flatten) ∧ va_F A st t
def Rt (g : Gm) (E : Cx) (ret : Option FieldType) (mc ms : Nat) (Post : Option Value → List va_W → Prop) : Prop :=
  E.meth.sig.returnType = ret ∧ E.Q = MQ E.below (QcOf g E.A Post) E.args E.s mc ms E.A
def PcOf (g : Gm) (av : List Value) (w : List va_W) (sz : Nat) : Array Value → State → Prop :=
  va_Pc av (fun U => U.heap.size = sz ∧ va_P g.D classes w.flatten U.heap ∧ va_K g.D classes g.tys U ∧ va_D (fun _ => True) w.flatten ∧ SI g (va_A w.flatten sz) U U.heap)
/-- THE CONTRACT of a method: from the cells w and the arguments av it returns, with an answer and cells as Post says; d: its depth of frames; mc, ms: what it makes -/
def Ct (g : Gm) (d mc ms : Nat) (y : MethodName) (cc : ByteArray) (nL : Nat) (ret : Option FieldType) (av : List Value) (w : List va_W) (Post : Option Value → List va_W → Prop) : Prop :=
  ∀ (l : Launch) (sz : Nat), Met l y (Cond.code y cc nL ret :: Wt) { frames := d, cells := mc, slots := ms, locals := 40 * d } (PcOf g av w sz) (QcOf g (va_A w.flatten sz) Post) mc ms (va_A w.flatten sz)
theorem Ct.of {g : Gm} {d mc ms : Nat} {y : MethodName} {cc : ByteArray} {nL : Nat} {ret : Option FieldType} {av : List Value} {w : List va_W} {Post : Option Value → List va_W → Prop} (hy : plainName y.cls = true) (hn : (lg_sl av).length ≤ nL) {lv : List (Nat × Value)} (hlv : lv_args 0 av = lv)
    (body : ∀ E : Cx, Ok g E nL y.cls cc d mc ms → Rt g E ret mc ms Post → E.meth.name = y.name → G g E nL 0 0 w 0 lv []) : Ct g d mc ms y cc nL ret av w Post := by
  intro l sz
  refine Met.ofW (cc := cc) (maxL := nL) (ret := ret) hy rfl ?_
  intro p e s m args below meth c s₁ B hml hv
  obtain ⟨rfl, hsz, hP, hK, hD0, hSI⟩ := hv
  subst hsz
  have hts := atoms_spec (ws := Cond.code y cc nL ret :: Wt) B.pre
  have hown : s.vm.findClass y.cls = some m.cls := findClass_of_methodNamed B.named
  have hD := hD0.self (sz := s.heap.size)
  have hl := lv_entry av hn
  rw [hlv] at hl
  rw [lg_entry_eq]
  exact body (p, l, e, _, s, m, av.toArray, below, meth, c, va_A w.flatten s.heap.size, MQ below (QcOf g (va_A w.flatten s.heap.size) Post) av.toArray s mc ms (va_A w.flatten s.heap.size))
    ⟨⟨B.exec, B.bytes, hml, hown, fun w hw => hts w (List.mem_cons_of_mem _ hw)⟩, hK, fun q h => Or.inr h, hSI, B.notSynchronized, rfl⟩ ⟨B.returns, rfl⟩ (name_of_methodNamed B.named B.method).1 s.heap [] _ hP hD va_S.rf hl
/-! ===== cells in pieces ===== -/
theorem fl_at : ∀ (fs : List va_W) (q0 : Nat) (x : Nat × va_E), fs[q0]? = some [x] → ∃ i, fs.flatten[i]? = some x ∧ ∀ y, fs.flatten.set i y = (fs.set q0 [y]).flatten
  | [], q0, x, h => by simp at h
  | f :: fs, 0, x, h => by
    have e : f = [x] := by simpa using h
    subst e
    exact ⟨0, by simp, fun y => by simp⟩
  | f :: fs, q0 + 1, x, h => by
    obtain ⟨i, h1, h2⟩ := fl_at fs q0 x (by simpa using h)
    refine ⟨f.length + i, ?_, fun y => ?_⟩
    · rw [List.flatten_cons, List.getElem?_append_right (by omega)]
      rw [Nat.add_sub_cancel_left]
      exact h1
    · rw [List.flatten_cons, List.set_append_right _ _ (by omega)]
      rw [Nat.add_sub_cancel_left, h2 y]
      simp
/-- pieces picked by their places -/
def pick (fs : List va_W) (is : List Nat) : List va_W := is.filterMap (fun i => fs[i]?)
section CELLS
variable {g : Gm} {E : Cx} {nL k n : Nat} {fs : List va_W} {pc : Nat} {lv : List (Nat × Value)} {st : List Value}
theorem G.cast {fs' : List va_W} {lv' : List (Nat × Value)} (h : fs.flatten = fs'.flatten) (hl : lv = lv') (kk : G g E nL k n fs' pc lv' st) : G g E nL k n fs pc lv st := by
  subst hl
  intro H locs ls hP hD hS hl
  rw [h] at hP hD
  exact kk H locs ls hP hD hS hl
end CELLS
