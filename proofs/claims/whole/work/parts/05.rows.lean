/-! ===== rows of instructions over G ===== -/
section ROWS
variable {g : Gm} {E : Cx} {nL k n : Nat} {fs : List va_W} {pc : Nat} {lv : List (Nat × Value)} {st : List Value} {own : String} {cc : ByteArray} {d mc ms : Nat}
theorem r_iload_n (q : Nat) (hE : Ok g E nL own cc d mc ms) {j : Fin 4} (a : Nat) {i : Nat} {x : Int32} (hdg : decode cc pc = .ok (.iload_n j, 1)) (hq : pc + 1 = q) (hi : (j : Nat) = i) (hk : lv[a]? = some (i, .int x)) (kk : G g E nL k n fs q lv (.int x :: st)) : G g E nL k n fs pc lv st := by
  subst hq
  intro H locs ls hP hD hS hl
  exact lv_iload_n hE.1.1 hE.1.2.1 hdg hi (lv_at hl a hk) (kk H locs ls hP hD hS hl)
theorem r_lload_n (q : Nat) (hE : Ok g E nL own cc d mc ms) {j : Fin 4} (a : Nat) {i : Nat} {x : Int64} (hdg : decode cc pc = .ok (.lload_n j, 1)) (hq : pc + 1 = q) (hi : (j : Nat) = i) (hk : lv[a]? = some (i, .long x)) (kk : G g E nL k n fs q lv (.long x :: st)) : G g E nL k n fs pc lv st := by
  subst hq
  intro H locs ls hP hD hS hl
  exact lv_lload_n hE.1.1 hE.1.2.1 hdg hi (lv_at hl a hk) (kk H locs ls hP hD hS hl)
theorem r_aload_n (q : Nat) (hE : Ok g E nL own cc d mc ms) {j : Fin 4} (a : Nat) {i : Nat} {x : Nat} (hdg : decode cc pc = .ok (.aload_n j, 1)) (hq : pc + 1 = q) (hi : (j : Nat) = i) (hk : lv[a]? = some (i, .ref x)) (kk : G g E nL k n fs q lv (.ref x :: st)) : G g E nL k n fs pc lv st := by
  subst hq
  intro H locs ls hP hD hS hl
  exact lv_aload_n hE.1.1 hE.1.2.1 hdg hi (lv_at hl a hk) (kk H locs ls hP hD hS hl)
theorem r_iload (q : Nat) (hE : Ok g E nL own cc d mc ms) (a : Nat) {i : Nat} {x : Int32} (hdg : decode cc pc = .ok (.iload i, 2)) (hq : pc + 2 = q) (hk : lv[a]? = some (i, .int x)) (kk : G g E nL k n fs q lv (.int x :: st)) : G g E nL k n fs pc lv st := by
  subst hq
  intro H locs ls hP hD hS hl
  exact lv_iload hE.1.1 hE.1.2.1 hdg (lv_at hl a hk) (kk H locs ls hP hD hS hl)
theorem r_aload (q : Nat) (hE : Ok g E nL own cc d mc ms) (a : Nat) {i : Nat} {x : Nat} (hdg : decode cc pc = .ok (.aload i, 2)) (hq : pc + 2 = q) (hk : lv[a]? = some (i, .ref x)) (kk : G g E nL k n fs q lv (.ref x :: st)) : G g E nL k n fs pc lv st := by
  subst hq
  intro H locs ls hP hD hS hl
  exact lv_aload hE.1.1 hE.1.2.1 hdg (lv_at hl a hk) (kk H locs ls hP hD hS hl)
theorem r_istore_n (q : Nat) (hE : Ok g E nL own cc d mc ms) {j : Fin 4} {i : Nat} {x : Int32} (lv2 : List (Nat × Value)) (hdg : decode cc pc = .ok (.istore_n j, 1)) (hq : pc + 1 = q) (hi : (j : Nat) = i) (hn : i < nL) (h2 : (i, Value.int x) :: lv.filter (fun q => !(q.1 == i) && !(q.1 + 1 == i && q.2.category == 2)) = lv2) (kk : G g E nL k n fs q lv2 st) : G g E nL k n fs pc lv (.int x :: st) := by
  subst hq
  intro H locs ls hP hD hS hl
  exact lv_istore_n hE.1.1 hE.1.2.1 hdg hi hl hn h2 (fun ls2 hl2 => kk H locs ls2 hP hD hS hl2)
theorem r_istore (q : Nat) (hE : Ok g E nL own cc d mc ms) {i : Nat} {x : Int32} (lv2 : List (Nat × Value)) (hdg : decode cc pc = .ok (.istore i, 2)) (hq : pc + 2 = q) (hn : i < nL) (h2 : (i, Value.int x) :: lv.filter (fun q => !(q.1 == i) && !(q.1 + 1 == i && q.2.category == 2)) = lv2) (kk : G g E nL k n fs q lv2 st) : G g E nL k n fs pc lv (.int x :: st) := by
  subst hq
  intro H locs ls hP hD hS hl
  exact lv_istore hE.1.1 hE.1.2.1 hdg hl hn h2 (fun ls2 hl2 => kk H locs ls2 hP hD hS hl2)
theorem r_astore_n (q : Nat) (hE : Ok g E nL own cc d mc ms) {j : Fin 4} {i : Nat} {x : Nat} (lv2 : List (Nat × Value)) (hdg : decode cc pc = .ok (.astore_n j, 1)) (hq : pc + 1 = q) (hi : (j : Nat) = i) (hn : i < nL) (h2 : (i, Value.ref x) :: lv.filter (fun q => !(q.1 == i) && !(q.1 + 1 == i && q.2.category == 2)) = lv2) (kk : G g E nL k n fs q lv2 st) : G g E nL k n fs pc lv (.ref x :: st) := by
  subst hq
  intro H locs ls hP hD hS hl
  exact lv_astore_n hE.1.1 hE.1.2.1 hdg hi hl hn h2 (fun ls2 hl2 => kk H locs ls2 hP hD hS hl2)
theorem r_astore (q : Nat) (hE : Ok g E nL own cc d mc ms) {i : Nat} {x : Nat} (lv2 : List (Nat × Value)) (hdg : decode cc pc = .ok (.astore i, 2)) (hq : pc + 2 = q) (hn : i < nL) (h2 : (i, Value.ref x) :: lv.filter (fun q => !(q.1 == i) && !(q.1 + 1 == i && q.2.category == 2)) = lv2) (kk : G g E nL k n fs q lv2 st) : G g E nL k n fs pc lv (.ref x :: st) := by
  subst hq
  intro H locs ls hP hD hS hl
  exact lv_astore hE.1.1 hE.1.2.1 hdg hl hn h2 (fun ls2 hl2 => kk H locs ls2 hP hD hS hl2)
theorem r_lstore_n (q : Nat) (hE : Ok g E nL own cc d mc ms) {j : Fin 4} {i : Nat} {x : Int64} (lv2 : List (Nat × Value)) (hdg : decode cc pc = .ok (.lstore_n j, 1)) (hq : pc + 1 = q) (hi : (j : Nat) = i) (hn : i + 1 < nL) (h2 : (i, Value.long x) :: lv.filter (fun q => !(q.1 == i) && (!(q.1 == i + 1) && !(q.1 + 1 == i && q.2.category == 2))) = lv2) (kk : G g E nL k n fs q lv2 st) : G g E nL k n fs pc lv (.long x :: st) := by
  subst hq
  intro H locs ls hP hD hS hl
  exact lv_lstore_n hE.1.1 hE.1.2.1 hdg hi hl hn h2 (fun ls2 hl2 => kk H locs ls2 hP hD hS hl2)
theorem r_lstore (q : Nat) (hE : Ok g E nL own cc d mc ms) {i : Nat} {x : Int64} (lv2 : List (Nat × Value)) (hdg : decode cc pc = .ok (.lstore i, 2)) (hq : pc + 2 = q) (hn : i + 1 < nL) (h2 : (i, Value.long x) :: lv.filter (fun q => !(q.1 == i) && (!(q.1 == i + 1) && !(q.1 + 1 == i && q.2.category == 2))) = lv2) (kk : G g E nL k n fs q lv2 st) : G g E nL k n fs pc lv (.long x :: st) := by
  subst hq
  intro H locs ls hP hD hS hl
  exact lv_lstore hE.1.1 hE.1.2.1 hdg hl hn h2 (fun ls2 hl2 => kk H locs ls2 hP hD hS hl2)
theorem r_iinc (q : Nat) (hE : Ok g E nL own cc d mc ms) (a : Nat) {i : Nat} {c : Int} {x : Int} (z : Int) (lv2 : List (Nat × Value)) (hdg : decode cc pc = .ok (.iinc i c, 3)) (hq : pc + 3 = q) (hk : lv[a]? = some (i, .int (iI x))) (hz : x + c = z) (hn : i < nL) (h2 : (i, Value.int (iI z)) :: lv.filter (fun q => !(q.1 == i) && !(q.1 + 1 == i && q.2.category == 2)) = lv2) (kk : G g E nL k n fs q lv2 st) : G g E nL k n fs pc lv st := by
  subst hq
  intro H locs ls hP hD hS hl
  exact lv_iinc hE.1.1 hE.1.2.1 hdg hl hk (by rw [← hz]; exact iI_add x c) hn h2 (fun ls2 hl2 => kk H locs ls2 hP hD hS hl2)
theorem r_iconst (q : Nat) (hE : Ok g E nL own cc d mc ms) {c : Int} (hdg : decode cc pc = .ok (.iconst c, 1)) (hq : pc + 1 = q) (kk : G g E nL k n fs q lv (.int (iI c) :: st)) : G g E nL k n fs pc lv st := by
  subst hq
  intro H locs ls hP hD hS hl
  exact lv_iconst hE.1.1 hE.1.2.1 hdg rfl (kk H locs ls hP hD hS hl)
theorem r_bipush (q : Nat) (hE : Ok g E nL own cc d mc ms) {c : Int} (hdg : decode cc pc = .ok (.bipush c, 2)) (hq : pc + 2 = q) (hv : (Int8.ofInt c).toInt32 = iI c) (kk : G g E nL k n fs q lv (.int (iI c) :: st)) : G g E nL k n fs pc lv st := by
  subst hq
  intro H locs ls hP hD hS hl
  exact lv_bipush hE.1.1 hE.1.2.1 hdg hv (kk H locs ls hP hD hS hl)
theorem r_sipush (q : Nat) (hE : Ok g E nL own cc d mc ms) {c : Int} (hdg : decode cc pc = .ok (.sipush c, 3)) (hq : pc + 3 = q) (hv : (Int16.ofInt c).toInt32 = iI c) (kk : G g E nL k n fs q lv (.int (iI c) :: st)) : G g E nL k n fs pc lv st := by
  subst hq
  intro H locs ls hP hD hS hl
  exact lv_sipush hE.1.1 hE.1.2.1 hdg hv (kk H locs ls hP hD hS hl)
theorem r_ldc (q : Nat) (hE : Ok g E nL own cc d mc ms) {i : Nat} {v : Int32} {c : Int} (hdg : decode cc pc = .ok (.ldc i, 2)) (hq : pc + 2 = q) (hw : Cond.constant own i v ∈ Wt) (hv : v = iI c) (kk : G g E nL k n fs q lv (.int (iI c) :: st)) : G g E nL k n fs pc lv st := by
  subst hq
  intro H locs ls hP hD hS hl
  subst hv; exact lv_ldc hE.1.1 hE.1.2.1 hE.1.2.2.2.1 (hE.1.2.2.2.2 _ hw) hdg (kk H locs ls hP hD hS hl)
theorem r_ldcw (q : Nat) (hE : Ok g E nL own cc d mc ms) {i : Nat} {v : Int32} {c : Int} (hdg : decode cc pc = .ok (.ldc_w i, 3)) (hq : pc + 3 = q) (hw : Cond.constant own i v ∈ Wt) (hv : v = iI c) (kk : G g E nL k n fs q lv (.int (iI c) :: st)) : G g E nL k n fs pc lv st := by
  subst hq
  intro H locs ls hP hD hS hl
  subst hv; exact lv_ldcw hE.1.1 hE.1.2.1 hE.1.2.2.2.1 (hE.1.2.2.2.2 _ hw) hdg (kk H locs ls hP hD hS hl)
theorem r_ldc2 (q : Nat) (hE : Ok g E nL own cc d mc ms) {i : Nat} {v : Int64} (hdg : decode cc pc = .ok (.ldc2_w i, 3)) (hq : pc + 3 = q) (hw : Cond.constantLong own i v ∈ Wt) (kk : G g E nL k n fs q lv (.long v :: st)) : G g E nL k n fs pc lv st := by
  subst hq
  intro H locs ls hP hD hS hl
  exact lv_ldc2 hE.1.1 hE.1.2.1 hE.1.2.2.2.1 (hE.1.2.2.2.2 _ hw) hdg (kk H locs ls hP hD hS hl)
theorem r_null (q : Nat) (hE : Ok g E nL own cc d mc ms)  (hdg : decode cc pc = .ok (.aconst_null, 1)) (hq : pc + 1 = q) (kk : G g E nL k n fs q lv (.null :: st)) : G g E nL k n fs pc lv st := by
  subst hq
  intro H locs ls hP hD hS hl
  exact lv_null hE.1.1 hE.1.2.1 hdg (kk H locs ls hP hD hS hl)
theorem r_iadd (q : Nat) (hE : Ok g E nL own cc d mc ms) {x y : Int} (z : Int) (hdg : decode cc pc = .ok (.iadd, 1)) (hq : pc + 1 = q) (hz : x + y = z) (kk : G g E nL k n fs q lv (.int (iI z) :: st)) : G g E nL k n fs pc lv (.int (iI y) :: .int (iI x) :: st) := by
  subst hq
  intro H locs ls hP hD hS hl
  refine lv_iadd hE.1.1 hE.1.2.1 hdg ?_
  rw [iI_add, hz]
  exact kk H locs ls hP hD hS hl
theorem r_isub (q : Nat) (hE : Ok g E nL own cc d mc ms) {x y : Int} (z : Int) (hdg : decode cc pc = .ok (.isub, 1)) (hq : pc + 1 = q) (hz : x - y = z) (kk : G g E nL k n fs q lv (.int (iI z) :: st)) : G g E nL k n fs pc lv (.int (iI y) :: .int (iI x) :: st) := by
  subst hq
  intro H locs ls hP hD hS hl
  refine lv_isub hE.1.1 hE.1.2.1 hdg ?_
  rw [iI_sub, hz]
  exact kk H locs ls hP hD hS hl
theorem r_imul (q : Nat) (hE : Ok g E nL own cc d mc ms) {x y : Int} (z : Int) (hdg : decode cc pc = .ok (.imul, 1)) (hq : pc + 1 = q) (hz : x * y = z) (kk : G g E nL k n fs q lv (.int (iI z) :: st)) : G g E nL k n fs pc lv (.int (iI y) :: .int (iI x) :: st) := by
  subst hq
  intro H locs ls hP hD hS hl
  refine lv_imul hE.1.1 hE.1.2.1 hdg ?_
  rw [iI_mul, hz]
  exact kk H locs ls hP hD hS hl
theorem r_iand (q : Nat) (hE : Ok g E nL own cc d mc ms) {x y : Int} (hdg : decode cc pc = .ok (.iand, 1)) (hq : pc + 1 = q) (kk : G g E nL k n fs q lv (.int (iI (andI x y)) :: st)) : G g E nL k n fs pc lv (.int (iI y) :: .int (iI x) :: st) := by
  subst hq
  intro H locs ls hP hD hS hl
  refine lv_iand hE.1.1 hE.1.2.1 hdg ?_
  rw [← iI_self (iI x &&& iI y)]
  exact kk H locs ls hP hD hS hl
theorem r_ior (q : Nat) (hE : Ok g E nL own cc d mc ms) {x y : Int} (hdg : decode cc pc = .ok (.ior, 1)) (hq : pc + 1 = q) (kk : G g E nL k n fs q lv (.int (iI (orI x y)) :: st)) : G g E nL k n fs pc lv (.int (iI y) :: .int (iI x) :: st) := by
  subst hq
  intro H locs ls hP hD hS hl
  refine lv_ior hE.1.1 hE.1.2.1 hdg ?_
  rw [← iI_self (iI x ||| iI y)]
  exact kk H locs ls hP hD hS hl
theorem r_ixor (q : Nat) (hE : Ok g E nL own cc d mc ms) {x y : Int} (hdg : decode cc pc = .ok (.ixor, 1)) (hq : pc + 1 = q) (kk : G g E nL k n fs q lv (.int (iI (xorI x y)) :: st)) : G g E nL k n fs pc lv (.int (iI y) :: .int (iI x) :: st) := by
  subst hq
  intro H locs ls hP hD hS hl
  refine lv_ixor hE.1.1 hE.1.2.1 hdg ?_
  rw [← iI_self (iI x ^^^ iI y)]
  exact kk H locs ls hP hD hS hl
theorem r_ishl (q : Nat) (hE : Ok g E nL own cc d mc ms) {x y : Int} (hdg : decode cc pc = .ok (.ishl, 1)) (hq : pc + 1 = q) (kk : G g E nL k n fs q lv (.int (iI (shlI x y)) :: st)) : G g E nL k n fs pc lv (.int (iI y) :: .int (iI x) :: st) := by
  subst hq
  intro H locs ls hP hD hS hl
  refine lv_ishl hE.1.1 hE.1.2.1 hdg ?_
  rw [← iI_self (iI x <<< (iI y &&& 31))]
  exact kk H locs ls hP hD hS hl
theorem r_ishr (q : Nat) (hE : Ok g E nL own cc d mc ms) {x y : Int} (hdg : decode cc pc = .ok (.ishr, 1)) (hq : pc + 1 = q) (kk : G g E nL k n fs q lv (.int (iI (shrI x y)) :: st)) : G g E nL k n fs pc lv (.int (iI y) :: .int (iI x) :: st) := by
  subst hq
  intro H locs ls hP hD hS hl
  refine lv_ishr hE.1.1 hE.1.2.1 hdg ?_
  rw [← iI_self (iI x >>> (iI y &&& 31))]
  exact kk H locs ls hP hD hS hl
theorem r_iushr (q : Nat) (hE : Ok g E nL own cc d mc ms) {x y : Int} (hdg : decode cc pc = .ok (.iushr, 1)) (hq : pc + 1 = q) (kk : G g E nL k n fs q lv (.int (iI (ushrI x y)) :: st)) : G g E nL k n fs pc lv (.int (iI y) :: .int (iI x) :: st) := by
  subst hq
  intro H locs ls hP hD hS hl
  refine lv_iushr (v := iI (ushrI x y)) hE.1.1 hE.1.2.1 hdg (iI_self _).symm ?_
  exact kk H locs ls hP hD hS hl
theorem r_i2b (q : Nat) (hE : Ok g E nL own cc d mc ms) {x : Int} (hdg : decode cc pc = .ok (.i2b, 1)) (hq : pc + 1 = q) (kk : G g E nL k n fs q lv (.int (iI (byI x)) :: st)) : G g E nL k n fs pc lv (.int (iI x) :: st) := by
  subst hq
  intro H locs ls hP hD hS hl
  refine lv_i2b (v := iI (byI x)) hE.1.1 hE.1.2.1 hdg (iI_self _).symm ?_
  exact kk H locs ls hP hD hS hl
theorem r_idiv (q : Nat) (hE : Ok g E nL own cc d mc ms) {x y : Int} (hdg : decode cc pc = .ok (.idiv, 1)) (hq : pc + 1 = q) (hr : (0 ≤ x ∧ x ≤ 2147483647) ∧ (0 < y ∧ y ≤ 2147483647)) (kk : G g E nL k n fs q lv (.int (iI (x / y)) :: st)) : G g E nL k n fs pc lv (.int (iI y) :: .int (iI x) :: st) := by
  subst hq
  intro H locs ls hP hD hS hl
  refine lv_idiv hE.1.1 hE.1.2.1 hdg (by rw [← iI_0, iI_inj (by omega)]; omega) ?_
  rw [iI_divI hr]
  exact kk H locs ls hP hD hS hl
theorem r_irem (q : Nat) (hE : Ok g E nL own cc d mc ms) {x y : Int} (hdg : decode cc pc = .ok (.irem, 1)) (hq : pc + 1 = q) (hr : (0 ≤ x ∧ x ≤ 2147483647) ∧ (0 < y ∧ y ≤ 2147483647)) (kk : G g E nL k n fs q lv (.int (iI (x % y)) :: st)) : G g E nL k n fs pc lv (.int (iI y) :: .int (iI x) :: st) := by
  subst hq
  intro H locs ls hP hD hS hl
  refine lv_irem hE.1.1 hE.1.2.1 hdg (by rw [← iI_0, iI_inj (by omega)]; omega) ?_
  rw [iI_remI hr]
  exact kk H locs ls hP hD hS hl
theorem r_dup (q : Nat) (hE : Ok g E nL own cc d mc ms) {v : Value} (hdg : decode cc pc = .ok (.dup, 1)) (hq : pc + 1 = q) (hc : v.category = 1) (kk : G g E nL k n fs q lv (v :: v :: st)) : G g E nL k n fs pc lv (v :: st) := by
  subst hq
  intro H locs ls hP hD hS hl
  exact lv_dup hE.1.1 hE.1.2.1 hdg hc (kk H locs ls hP hD hS hl)
theorem r_dup2 (q : Nat) (hE : Ok g E nL own cc d mc ms) {v w : Value} (hdg : decode cc pc = .ok (.dup2, 1)) (hq : pc + 1 = q) (hc : v.category = 1) (hc2 : w.category = 1) (kk : G g E nL k n fs q lv (v :: w :: v :: w :: st)) : G g E nL k n fs pc lv (v :: w :: st) := by
  subst hq
  intro H locs ls hP hD hS hl
  exact lv_dup2_11 hE.1.1 hE.1.2.1 hdg hc hc2 (kk H locs ls hP hD hS hl)
theorem r_pop (q : Nat) (hE : Ok g E nL own cc d mc ms) {v : Value} (hdg : decode cc pc = .ok (.pop, 1)) (hq : pc + 1 = q) (hc : v.category = 1) (kk : G g E nL k n fs q lv st) : G g E nL k n fs pc lv (v :: st) := by
  subst hq
  intro H locs ls hP hD hS hl
  exact lv_pop hE.1.1 hE.1.2.1 hdg hc (kk H locs ls hP hD hS hl)
theorem r_goto (q : Nat) (hE : Ok g E nL own cc d mc ms) {off : Int} (hdg : decode cc pc = .ok (.goto off, 3)) (ht : (pc : Int) + off = (q : Int)) (kk : G g E nL k n fs q lv st) : G g E nL k n fs pc lv st := by
  intro H locs ls hP hD hS hl
  exact lv_goto hE.1.1 hE.1.2.1 hdg ht (kk H locs ls hP hD hS hl)
theorem r_icmp_lt (q t : Nat) (hE : Ok g E nL own cc d mc ms) {off : Int} {x y : Int} (hdg : decode cc pc = .ok (.if_icmp .lt off, 3)) (hq : pc + 3 = q) (ht : (pc : Int) + off = (t : Int)) (hr : ((-2147483648 ≤ x ∧ x ≤ 2147483647) ∧ (-2147483648 ≤ y ∧ y ≤ 2147483647))) (kt : x < y → G g E nL k n fs t lv st) (kf : y ≤ x → G g E nL k n fs q lv st) : G g E nL k n fs pc lv (.int (iI y) :: .int (iI x) :: st) := by
  subst hq
  intro H locs ls hP hD hS hl
  exact lv_icmp_lt hE.1.1 hE.1.2.1 hdg ht (fun h => kt ((iI_lt hr).mp h) H locs ls hP hD hS hl) (fun h => kf (Int.not_lt.mp (fun z => h ((iI_lt hr).mpr z))) H locs ls hP hD hS hl)
theorem r_icmp_ge (q t : Nat) (hE : Ok g E nL own cc d mc ms) {off : Int} {x y : Int} (hdg : decode cc pc = .ok (.if_icmp .ge off, 3)) (hq : pc + 3 = q) (ht : (pc : Int) + off = (t : Int)) (hr : ((-2147483648 ≤ x ∧ x ≤ 2147483647) ∧ (-2147483648 ≤ y ∧ y ≤ 2147483647))) (kt : y ≤ x → G g E nL k n fs t lv st) (kf : x < y → G g E nL k n fs q lv st) : G g E nL k n fs pc lv (.int (iI y) :: .int (iI x) :: st) := by
  subst hq
  intro H locs ls hP hD hS hl
  exact lv_icmp_ge hE.1.1 hE.1.2.1 hdg ht (fun h => kt ((iI_le ⟨hr.2, hr.1⟩).mp h) H locs ls hP hD hS hl) (fun h => kf (Int.not_le.mp (fun z => h ((iI_le ⟨hr.2, hr.1⟩).mpr z))) H locs ls hP hD hS hl)
theorem r_icmp_gt (q t : Nat) (hE : Ok g E nL own cc d mc ms) {off : Int} {x y : Int} (hdg : decode cc pc = .ok (.if_icmp .gt off, 3)) (hq : pc + 3 = q) (ht : (pc : Int) + off = (t : Int)) (hr : ((-2147483648 ≤ x ∧ x ≤ 2147483647) ∧ (-2147483648 ≤ y ∧ y ≤ 2147483647))) (kt : y < x → G g E nL k n fs t lv st) (kf : x ≤ y → G g E nL k n fs q lv st) : G g E nL k n fs pc lv (.int (iI y) :: .int (iI x) :: st) := by
  subst hq
  intro H locs ls hP hD hS hl
  exact lv_icmp_gt hE.1.1 hE.1.2.1 hdg ht (fun h => kt ((iI_lt ⟨hr.2, hr.1⟩).mp h) H locs ls hP hD hS hl) (fun h => kf (Int.not_lt.mp (fun z => h ((iI_lt ⟨hr.2, hr.1⟩).mpr z))) H locs ls hP hD hS hl)
theorem r_icmp_le (q t : Nat) (hE : Ok g E nL own cc d mc ms) {off : Int} {x y : Int} (hdg : decode cc pc = .ok (.if_icmp .le off, 3)) (hq : pc + 3 = q) (ht : (pc : Int) + off = (t : Int)) (hr : ((-2147483648 ≤ x ∧ x ≤ 2147483647) ∧ (-2147483648 ≤ y ∧ y ≤ 2147483647))) (kt : x ≤ y → G g E nL k n fs t lv st) (kf : y < x → G g E nL k n fs q lv st) : G g E nL k n fs pc lv (.int (iI y) :: .int (iI x) :: st) := by
  subst hq
  intro H locs ls hP hD hS hl
  exact lv_icmp_le hE.1.1 hE.1.2.1 hdg ht (fun h => kt ((iI_le hr).mp h) H locs ls hP hD hS hl) (fun h => kf (Int.not_le.mp (fun z => h ((iI_le hr).mpr z))) H locs ls hP hD hS hl)
theorem r_icmp_eq (q t : Nat) (hE : Ok g E nL own cc d mc ms) {off : Int} {x y : Int} (hdg : decode cc pc = .ok (.if_icmp .eq off, 3)) (hq : pc + 3 = q) (ht : (pc : Int) + off = (t : Int)) (hr : ((-2147483648 ≤ x ∧ x ≤ 2147483647) ∧ (-2147483648 ≤ y ∧ y ≤ 2147483647))) (kt : x = y → G g E nL k n fs t lv st) (kf : x ≠ y → G g E nL k n fs q lv st) : G g E nL k n fs pc lv (.int (iI y) :: .int (iI x) :: st) := by
  subst hq
  intro H locs ls hP hD hS hl
  exact lv_icmp_eq hE.1.1 hE.1.2.1 hdg ht (fun h => kt ((iI_inj hr).mp h) H locs ls hP hD hS hl) (fun h => kf (fun e => h ((iI_inj hr).mpr e)) H locs ls hP hD hS hl)
theorem r_icmp_ne (q t : Nat) (hE : Ok g E nL own cc d mc ms) {off : Int} {x y : Int} (hdg : decode cc pc = .ok (.if_icmp .ne off, 3)) (hq : pc + 3 = q) (ht : (pc : Int) + off = (t : Int)) (hr : ((-2147483648 ≤ x ∧ x ≤ 2147483647) ∧ (-2147483648 ≤ y ∧ y ≤ 2147483647))) (kt : x ≠ y → G g E nL k n fs t lv st) (kf : x = y → G g E nL k n fs q lv st) : G g E nL k n fs pc lv (.int (iI y) :: .int (iI x) :: st) := by
  subst hq
  intro H locs ls hP hD hS hl
  exact lv_icmp_ne hE.1.1 hE.1.2.1 hdg ht (fun h => kt (fun e => h ((iI_inj hr).mpr e)) H locs ls hP hD hS hl) (fun h => kf ((iI_inj hr).mp h) H locs ls hP hD hS hl)
theorem r_if_lt (q t : Nat) (hE : Ok g E nL own cc d mc ms) {off : Int} {x : Int} (hdg : decode cc pc = .ok (.ifCond .lt off, 3)) (hq : pc + 3 = q) (ht : (pc : Int) + off = (t : Int)) (hr : (-2147483648 ≤ x ∧ x ≤ 2147483647)) (kt : x < 0 → G g E nL k n fs t lv st) (kf : 0 ≤ x → G g E nL k n fs q lv st) : G g E nL k n fs pc lv (.int (iI x) :: st) := by
  subst hq
  intro H locs ls hP hD hS hl
  exact lv_if_lt hE.1.1 hE.1.2.1 hdg ht (fun h => kt ((iI_lt (a := x) (b := 0) ⟨hr, by omega⟩).mp h) H locs ls hP hD hS hl) (fun h => kf (Int.not_lt.mp (fun z => h ((iI_lt (a := x) (b := 0) ⟨hr, by omega⟩).mpr z))) H locs ls hP hD hS hl)
theorem r_if_ge (q t : Nat) (hE : Ok g E nL own cc d mc ms) {off : Int} {x : Int} (hdg : decode cc pc = .ok (.ifCond .ge off, 3)) (hq : pc + 3 = q) (ht : (pc : Int) + off = (t : Int)) (hr : (-2147483648 ≤ x ∧ x ≤ 2147483647)) (kt : 0 ≤ x → G g E nL k n fs t lv st) (kf : x < 0 → G g E nL k n fs q lv st) : G g E nL k n fs pc lv (.int (iI x) :: st) := by
  subst hq
  intro H locs ls hP hD hS hl
  exact lv_if_ge hE.1.1 hE.1.2.1 hdg ht (fun h => kt ((iI_le (a := 0) (b := x) ⟨by omega, hr⟩).mp h) H locs ls hP hD hS hl) (fun h => kf (Int.not_le.mp (fun z => h ((iI_le (a := 0) (b := x) ⟨by omega, hr⟩).mpr z))) H locs ls hP hD hS hl)
theorem r_if_gt (q t : Nat) (hE : Ok g E nL own cc d mc ms) {off : Int} {x : Int} (hdg : decode cc pc = .ok (.ifCond .gt off, 3)) (hq : pc + 3 = q) (ht : (pc : Int) + off = (t : Int)) (hr : (-2147483648 ≤ x ∧ x ≤ 2147483647)) (kt : 0 < x → G g E nL k n fs t lv st) (kf : x ≤ 0 → G g E nL k n fs q lv st) : G g E nL k n fs pc lv (.int (iI x) :: st) := by
  subst hq
  intro H locs ls hP hD hS hl
  exact lv_if_gt hE.1.1 hE.1.2.1 hdg ht (fun h => kt ((iI_lt (a := 0) (b := x) ⟨by omega, hr⟩).mp h) H locs ls hP hD hS hl) (fun h => kf (Int.not_lt.mp (fun z => h ((iI_lt (a := 0) (b := x) ⟨by omega, hr⟩).mpr z))) H locs ls hP hD hS hl)
theorem r_if_le (q t : Nat) (hE : Ok g E nL own cc d mc ms) {off : Int} {x : Int} (hdg : decode cc pc = .ok (.ifCond .le off, 3)) (hq : pc + 3 = q) (ht : (pc : Int) + off = (t : Int)) (hr : (-2147483648 ≤ x ∧ x ≤ 2147483647)) (kt : x ≤ 0 → G g E nL k n fs t lv st) (kf : 0 < x → G g E nL k n fs q lv st) : G g E nL k n fs pc lv (.int (iI x) :: st) := by
  subst hq
  intro H locs ls hP hD hS hl
  exact lv_if_le hE.1.1 hE.1.2.1 hdg ht (fun h => kt ((iI_le (a := x) (b := 0) ⟨hr, by omega⟩).mp h) H locs ls hP hD hS hl) (fun h => kf (Int.not_le.mp (fun z => h ((iI_le (a := x) (b := 0) ⟨hr, by omega⟩).mpr z))) H locs ls hP hD hS hl)
theorem r_if_eq (q t : Nat) (hE : Ok g E nL own cc d mc ms) {off : Int} {x : Int} (hdg : decode cc pc = .ok (.ifCond .eq off, 3)) (hq : pc + 3 = q) (ht : (pc : Int) + off = (t : Int)) (hr : (-2147483648 ≤ x ∧ x ≤ 2147483647)) (kt : x = 0 → G g E nL k n fs t lv st) (kf : x ≠ 0 → G g E nL k n fs q lv st) : G g E nL k n fs pc lv (.int (iI x) :: st) := by
  subst hq
  intro H locs ls hP hD hS hl
  exact lv_if_eq hE.1.1 hE.1.2.1 hdg ht (fun h => kt ((iI_inj (a := x) (b := 0) ⟨hr, by omega⟩).mp h) H locs ls hP hD hS hl) (fun h => kf (fun e => h ((iI_inj (a := x) (b := 0) ⟨hr, by omega⟩).mpr e)) H locs ls hP hD hS hl)
theorem r_if_ne (q t : Nat) (hE : Ok g E nL own cc d mc ms) {off : Int} {x : Int} (hdg : decode cc pc = .ok (.ifCond .ne off, 3)) (hq : pc + 3 = q) (ht : (pc : Int) + off = (t : Int)) (hr : (-2147483648 ≤ x ∧ x ≤ 2147483647)) (kt : x ≠ 0 → G g E nL k n fs t lv st) (kf : x = 0 → G g E nL k n fs q lv st) : G g E nL k n fs pc lv (.int (iI x) :: st) := by
  subst hq
  intro H locs ls hP hD hS hl
  exact lv_if_ne hE.1.1 hE.1.2.1 hdg ht (fun h => kt (fun e => h ((iI_inj (a := x) (b := 0) ⟨hr, by omega⟩).mpr e)) H locs ls hP hD hS hl) (fun h => kf ((iI_inj (a := x) (b := 0) ⟨hr, by omega⟩).mp h) H locs ls hP hD hS hl)
end ROWS
