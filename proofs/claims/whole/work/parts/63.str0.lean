/-! ===== the text constants ===== -/
def sLen (j : Nat) : Nat := strLen.getD j 0
def sByt (j : Nat) (k : Int) : Int := ((strByt.getD j []).getD k.toNat 0).toInt
theorem sLen_rg : ∀ j : Nat, j < 3 → 3 ≤ sLen j ∧ sLen j ≤ 11 := by decide
theorem shr_len : ∀ j : Nat, j < 3 → shrI ((sLen j : Nat) : Int) 0 = ((sLen j : Nat) : Int) := by decide +kernel
theorem sByt_all : ∀ j : Nat, j < 3 → ∀ k : Nat, k < sLen j → (0 < sByt j (k : Int) ∧ sByt j (k : Int) ≤ 127) ∧ andI (sByt j (k : Int)) 255 = sByt j (k : Int) := by decide +kernel
theorem sByt_at {j : Nat} (hj : j < 3) {k : Int} (h : 0 ≤ k ∧ k < (sLen j : Int)) : (0 < sByt j k ∧ sByt j k ≤ 127) ∧ andI (sByt j k) 255 = sByt j k := by
  have := sByt_all j hj k.toNat (by omega)
  rw [Int.toNat_of_nonneg h.1] at this
  exact this
section STR
variable {g : Gm} {E : Cx} {nL k n : Nat} {fs : List va_W} {pc : Nat} {lv : List (Nat × Value)} {st : List Value} {own : String} {cc : ByteArray} {d mc ms : Nat}
theorem r_ldcS (q : Nat) (hE : Ok g E nL own cc d mc ms) {i a : Nat} {tx : String} (hdg : decode cc pc = .ok (.ldc i, 2)) (hq : pc + 2 = q) (hZ : vk_R own i tx a E.s) (kk : G g E nL k n fs q lv (.ref a :: st)) : G g E nL k n fs pc lv st := by
  subst hq
  intro H locs ls hP hD hS hl
  exact va_ldcS hE.1.1 hE.1.2.1 hE.1.2.2.2.1 hZ hdg (kk H locs ls hP hD hS hl)
theorem r_getV (q : Nat) (hE : Ok g E nL own cc d mc ms) {i j : Nat} (hj : j < 3) (hdg : decode cc pc = .ok (.getfield i, 3)) (hq : pc + 3 = q) (hw : Cond.fieldLink own i "java/lang/String" "value" "[B" ∈ Wt) (kk : G g E nL k n fs q lv (.ref (g.adV j) :: st)) : G g E nL k n fs pc lv (.ref (g.adK j) :: st) := by
  subst hq
  intro H locs ls hP hD hS hl
  exact vk_getf hE.1.1 hE.1.2.1 (hE.2.2.2.1.2.2.2.1.1 j hj).2.2.1 hS hE.1.2.2.2.1 (hE.1.2.2.2.2 _ hw) (fun _ h => h) hdg (kk H locs ls hP hD hS hl)
theorem r_getC (q : Nat) (hE : Ok g E nL own cc d mc ms) {i j : Nat} (hj : j < 3) (hdg : decode cc pc = .ok (.getfield i, 3)) (hq : pc + 3 = q) (hw : Cond.fieldLink own i "java/lang/String" "coder" "B" ∈ Wt) (kk : G g E nL k n fs q lv (.int (iI 0) :: st)) : G g E nL k n fs pc lv (.ref (g.adK j) :: st) := by
  subst hq
  intro H locs ls hP hD hS hl
  exact vk_getf hE.1.1 hE.1.2.1 (hE.2.2.2.1.2.2.2.1.1 j hj).2.1 hS hE.1.2.2.2.1 (hE.1.2.2.2.2 _ hw) (fun _ h => h) hdg (kk H locs ls hP hD hS hl)
theorem r_lenS (q : Nat) (hE : Ok g E nL own cc d mc ms) {j : Nat} (hj : j < 3) (hdg : decode cc pc = .ok (.arraylength, 1)) (hq : pc + 1 = q) (kk : G g E nL k n fs q lv (.int (iI ((sLen j : Nat) : Int)) :: st)) : G g E nL k n fs pc lv (.ref (g.adV j) :: st) := by
  subst hq
  intro H locs ls hP hD hS hl
  exact va_tlen hE.1.1 hE.1.2.1 (hE.2.2.2.1.2.2.2.1.1 j hj).2.2.2 hS (iI_nat _) hdg (kk H locs ls hP hD hS hl)
theorem r_baldS (q : Nat) (hE : Ok g E nL own cc d mc ms) {j : Nat} {z : Int} (hj : j < 3) (hz : 0 ≤ z ∧ z < ((sLen j : Nat) : Int)) (hdg : decode cc pc = .ok (.baload, 1)) (hq : pc + 1 = q) (kk : G g E nL k n fs q lv (.int (iI (sByt j z)) :: st)) : G g E nL k n fs pc lv (.int (iI z) :: .ref (g.adV j) :: st) := by
  subst hq
  intro H locs ls hP hD hS hl
  have hr := sLen_rg j hj
  refine va_tb hE.1.1 hE.1.2.1 (hE.2.2.2.1.2.2.2.1.1 j hj).2.2.2 hS (iI_in ⟨hz.1, hz.2, by omega⟩) ?_ hdg (kk H locs ls hP hD hS hl)
  show Value.int _ = _
  rw [iI_clamp ⟨hz.1, by omega⟩]
  unfold sByt
  rw [iI_self]
theorem r_getsC (q : Nat) (hE : Ok g E nL own cc d mc ms) {i : Nat} (hdg : decode cc pc = .ok (.getstatic i, 3)) (hq : pc + 3 = q) (hw : Cond.fieldLink own i "java/lang/String" "COMPACT_STRINGS" "Z" ∈ Wt) (kk : G g E nL k n fs q lv (.int (iI 1) :: st)) : G g E nL k n fs pc lv st := by
  subst hq
  intro H locs ls hP hD hS hl
  exact va_gets hE.1.1 hE.1.2.1 hE.2.2.2.1.2.2.2.2.1 hS hE.1.2.2.2.1 (hE.1.2.2.2.2 _ hw) (fun _ h => h) hdg (kk H locs ls hP hD hS hl)
theorem r_getsQ (q : Nat) (hE : Ok g E nL own cc d mc ms) {i : Nat} (hdg : decode cc pc = .ok (.getstatic i, 3)) (hq : pc + 3 = q) (hw : Cond.fieldLink own i "jdk/internal/util/Preconditions" "SIOOBE_FORMATTER" "Ljava/util/function/BiFunction;" ∈ Wt) (k0 : G g E nL k n fs q lv (.null :: st)) (k1 : ∀ t : Nat, G g E nL k n fs q lv (.ref t :: st)) : G g E nL k n fs pc lv st := by
  subst hq
  intro H locs ls hP hD hS hl
  rcases hE.2.2.2.1.2.2.2.2.2 with z | ⟨t, z⟩
  · exact va_gets hE.1.1 hE.1.2.1 z hS hE.1.2.2.2.1 (hE.1.2.2.2.2 _ hw) (fun _ h => h) hdg (k0 H locs ls hP hD hS hl)
  · exact va_gets hE.1.1 hE.1.2.1 z hS hE.1.2.2.2.1 (hE.1.2.2.2.2 _ hw) (fun _ h => h) hdg (k1 t H locs ls hP hD hS hl)
theorem r_i2c (q : Nat) (hE : Ok g E nL own cc d mc ms) {x : Int} (hdg : decode cc pc = .ok (.i2c, 1)) (hq : pc + 1 = q) (hr : 0 ≤ x ∧ x ≤ 65535) (kk : G g E nL k n fs q lv (.int (iI x) :: st)) : G g E nL k n fs pc lv (.int (iI x) :: st) := by
  subst hq
  intro H locs ls hP hD hS hl
  refine lv_i2c hE.1.1 hE.1.2.1 hdg ?_ (kk H locs ls hP hD hS hl)
  have e : iI x = nI x.toNat := by rw [← iI_nI, Int.toNat_of_nonneg hr.1]
  rw [e]
  apply Int32.toBitVec_inj.mp
  apply BitVec.eq_of_toNat_eq
  show (BitVec.ofNat 32 x.toNat).toNat % 65536 = (BitVec.ofNat 32 x.toNat).toNat
  rw [BitVec.toNat_ofNat]
  omega
theorem r_nreturn (hE : Ok g E nL own cc d mc ms) {ty : FieldType} {Post : Option Value → List va_W → Prop} (hR : Rt g E (some ty) mc ms Post) {v : Int} (w : List va_W) (hdg : decode cc pc = .ok (.ireturn, 1)) (hk : k ≤ mc) (hn : n ≤ ms) (hv : narrow ty (.int (iI v)) = .int (iI v)) (hw : fs.flatten = w.flatten) (hp : Post (some (.int (iI v))) w) : G g E nL k n fs pc lv [.int (iI v)] := by
  intro H locs ls hP hD hS hl
  rw [hw] at hP hD
  refine W.widen hk hn ?_
  rw [hR.2]
  exact W.zret hE.1.1 hE.1.2.1 hR.1 hv (fun t ht hW => ⟨⟨_, w, rfl, hp, by rw [ht]; exact hP, va_K.moved hW.alike hE.2.1, hD⟩, hS.F ht⟩) hS.2.2 hdg hE.2.2.2.2.1
/-- invokevirtual of a text constant -/
theorem r_callT (q : Nat) (hE : Ok g E nL own cc d mc ms) (isC isR : List Nat) (fc fr : List va_W) {j : Nat} (hj : j < 3) {y : MethodName} {bytes : ByteArray} {maxL d2 mc2 ms2 i : Nat} {ret : Option FieldType} {As : List Value} (rest : List Value) {Post : Option Value → List va_W → Prop}
    (hM : Ct g d2 mc2 ms2 y bytes maxL ret (.ref (g.adK j) :: As) fc Post) (hdg : decode cc pc = .ok (.invokevirtual i, 3)) (hq : pc + 3 = q) (hy : y.cls = "java/lang/String") (w1 : Cond.methodLink own i y ∈ Wt) (w2 : Cond.instanceMethod y ∈ Wt) (w3 : Cond.selects "java/lang/String" y y ∈ Wt) (w4 : Cond.initialized "java/lang/String" ∈ Wt) (w5 : Cond.code y bytes maxL ret ∈ Wt)
    (hne : y.cls ≠ "java/lang/invoke/MethodHandle" ∧ y.cls ≠ "java/lang/invoke/VarHandle") (hds : (parseMethodDescriptor y.desc).map (fun d => d.parameters.length) = some As.length) (hd : d2 + 1 ≤ d) (hmL : maxL ≤ 21) (hc : k + mc2 ≤ mc ∧ n + ms2 ≤ ms) (hst : As.reverse ++ .ref (g.adK j) :: rest = st) (hrm : (rest.map fun v => v.category).sum ≤ 8)
    (hC : isC.map (fun i => fs[i]?) = fc.map some) (hR : isR.map (fun i => fs[i]?) = fr.map some) (hnC : va_nd isC = true) (hn : va_nd isR = true) (hdis : ∀ i ∈ isR, i ∉ isC)
    (kk : ∀ (v : Option Value) (f1 : List va_W), Post v f1 → G g E nL (k + mc2) (n + ms2) (f1 ++ fr) q lv (v.toList ++ rest)) : G g E nL k n fs pc lv st := by
  subst hq
  intro H locs ls hP hD hS hl
  refine goes hE hP hD hS hl hC hR hn hdis (va_runV (As := As) (rest := rest) hE.1 (hM E.l H.size) (cwV As.length hE.1.2.2.2.2 (Wt_GoodIn fun w hw => ?_) rfl rfl rfl ⟨hy, hne.1, hne.2, hds⟩ ?_) ⟨blind, vk_recv hE.2.2.2.1.2.2.2.1 hj hS, preOf (av := .ref (g.adK j) :: As) hE hP hD hS hC hnC⟩ rfl rfl hl.1 hst.symm (lv_room hrm) hdg ?_) kk
  · rcases List.mem_append.mp hw with h | h
    · simp only [List.mem_cons, List.not_mem_nil, or_false] at h
      rcases h with rfl | rfl | rfl | rfl
      · exact w1
      · exact w2
      · exact w3
      · exact w4
    · exact Wt_cons w5 w h
  · rw [hE.2.2.2.2.2]
    exact ⟨hd, by show 8 + (maxL + 11) + 40 * d2 ≤ 40 * d; omega⟩
  · rw [hE.2.2.2.2.2]
    exact hc
end STR
/-- the first place of a letter in a text constant -/
def IxIs (j : Nat) (c r : Int) : Prop := (r = -1 ∧ ∀ k, 0 ≤ k → k < (sLen j : Int) → sByt j k ≠ c) ∨ (0 ≤ r ∧ r < (sLen j : Int) ∧ sByt j r = c)
theorem sg_all : ∀ k : Nat, k < 11 → isSg (sByt 2 (k : Int)) := by decide +kernel
theorem sg_back : ∀ c : Nat, c < 128 → isSg (c : Int) → ∃ k : Nat, k < 11 ∧ sByt 2 (k : Int) = (c : Int) := by decide +kernel
theorem IxIs.sg {c r : Int} (hc : 0 < c ∧ c ≤ 127) (h : IxIs 2 c r) : 0 ≤ r ↔ isSg c := by
  rcases h with ⟨h1, h2⟩ | ⟨h1, h2, h3⟩
  · constructor
    · intro z; omega
    · intro z
      obtain ⟨k, hk, e⟩ := sg_back c.toNat (by omega) (by rw [Int.toNat_of_nonneg (by omega)]; exact z)
      rw [Int.toNat_of_nonneg (by omega)] at e
      exact absurd e (h2 k (by omega) (by show (k : Int) < ((11 : Nat) : Int); omega))
  · refine ⟨fun _ => ?_, fun _ => h1⟩
    have h2' : r < ((11 : Nat) : Int) := h2
    have := sg_all r.toNat (by omega)
    rw [Int.toNat_of_nonneg h1, h3] at this
    exact this
theorem nar_ch {v : Int} (h : 0 < v ∧ v ≤ 127) : narrow .char (.int (iI v)) = .int (iI v) := by
  have e : iI v = nI v.toNat := by rw [← iI_nI, Int.toNat_of_nonneg (by omega)]
  rw [e]
  generalize hm : v.toNat = m
  have hm2 : m < 128 := by omega
  clear hm e h
  revert hm2
  revert m
  decide +kernel
