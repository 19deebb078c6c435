/-! ===== pools of shelves; null ===== -/
section NULLS
variable {g : Gm} {E : Cx} {nL k n : Nat} {fs : List va_W} {pc : Nat} {lv : List (Nat × Value)} {st : List Value} {own : String} {cc : ByteArray} {d mc ms : Nat}
theorem r_ifnull (q : Nat) (hE : Ok g E nL own cc d mc ms) {x : Nat} {off : Int} (hdg : decode cc pc = .ok (.ifnull off, 3)) (hq : pc + 3 = q) (kk : G g E nL k n fs q lv st) : G g E nL k n fs pc lv (.ref x :: st) := by
  subst hq
  intro H locs ls hP hD hS hl
  exact lv_ifnull hE.1.1 hE.1.2.1 hdg (kk H locs ls hP hD hS hl)
theorem r_ifnonnull (q : Nat) (hE : Ok g E nL own cc d mc ms) {x : Nat} {off : Int} (hdg : decode cc pc = .ok (.ifnonnull off, 3)) (ht : (pc : Int) + off = (q : Int)) (kk : G g E nL k n fs q lv st) : G g E nL k n fs pc lv (.ref x :: st) := by
  intro H locs ls hP hD hS hl
  exact lv_ifnonnull hE.1.1 hE.1.2.1 hdg ht (kk H locs ls hP hD hS hl)
theorem r_ifnullN (q : Nat) (hE : Ok g E nL own cc d mc ms) {off : Int} (hdg : decode cc pc = .ok (.ifnull off, 3)) (ht : (pc : Int) + off = (q : Int)) (kk : G g E nL k n fs q lv st) : G g E nL k n fs pc lv (.null :: st) := by
  intro H locs ls hP hD hS hl
  exact lv_ifnullN hE.1.1 hE.1.2.1 hdg ht (kk H locs ls hP hD hS hl)
theorem r_ifnonnullN (q : Nat) (hE : Ok g E nL own cc d mc ms) {off : Int} (hdg : decode cc pc = .ok (.ifnonnull off, 3)) (hq : pc + 3 = q) (kk : G g E nL k n fs q lv st) : G g E nL k n fs pc lv (.null :: st) := by
  subst hq
  intro H locs ls hP hD hS hl
  exact lv_ifnonnullN hE.1.1 hE.1.2.1 hdg (kk H locs ls hP hD hS hl)
theorem G.perm {fs' : List va_W} (h : fs.flatten.Perm fs'.flatten) (kk : G g E nL k n fs' pc lv st) : G g E nL k n fs pc lv st := by
  intro H locs ls hP hD hS hl
  refine kk H locs ls (vaP_mem.mpr fun q hq => (vaP_mem.mp hP) q (h.mem_iff.mpr hq)) (vaD_pw.mpr ⟨?_, fun q hq => (vaD_pw.mp hD).2 q (h.mem_iff.mpr hq)⟩) hS hl
  exact (h.pairwise_iff (fun {a b} q => fun e => q e.symm)).mp (vaD_pw.mp hD).1
end NULLS
def ShS : Type := (Int → Int) × (Int → Int) × (Int → Int) × (Int → Int) × Int × Int × Int
def ShS.L (s : ShS) : Int → Int := s.1
def ShS.ln (s : ShS) : Int → Int := s.2.1
def ShS.tp (s : ShS) : Int → Int := s.2.2.1
def ShS.rd (s : ShS) : Int → Int := s.2.2.2.1
def ShS.cnt (s : ShS) : Int := s.2.2.2.2.1
def ShS.era (s : ShS) : Int := s.2.2.2.2.2.1
def ShS.nws (s : ShS) : Int := s.2.2.2.2.2.2
def shs (L ln tp rd : Int → Int) (cnt era nws : Int) : ShS := (L, ln, tp, rd, cnt, era, nws)
def wShS (g : Gm) (a : Nat → Nat) (s : ShS) : va_W := wShelf g a s.L s.ln s.tp s.rd s.cnt s.era s.nws
def wPool (g : Gm) (ad : Nat → Nat → Nat) (sg : Nat → ShS) (n : Nat) : va_W := (List.range n).flatMap (fun i => wShS g (ad i) (sg i))
def wPoolX (g : Gm) (ad : Nat → Nat → Nat) (sg : Nat → ShS) (n i : Nat) : va_W := ((List.range n).erase i).flatMap (fun i => wShS g (ad i) (sg i))
def upS (sg : Nat → ShS) (i : Nat) (s : ShS) : Nat → ShS := fun j => if j = i then s else sg j
theorem upS_same (sg : Nat → ShS) (i : Nat) (s : ShS) : upS sg i s i = s := by unfold upS; rw [if_pos rfl]
theorem upS_ne (sg : Nat → ShS) {i j : Nat} (s : ShS) (h : j ≠ i) : upS sg i s j = sg j := by unfold upS; rw [if_neg h]
theorem pool_out (g : Gm) (ad : Nat → Nat → Nat) (sg : Nat → ShS) {n i : Nat} (h : i < n) : (wPool g ad sg n).Perm (wShS g (ad i) (sg i) ++ wPoolX g ad sg n i) := by
  unfold wPool wPoolX
  have := (List.perm_cons_erase (List.mem_range.mpr h)).flatMap_right (fun i => wShS g (ad i) (sg i))
  rw [List.flatMap_cons] at this
  exact this
theorem poolX_up (g : Gm) (ad : Nat → Nat → Nat) (sg : Nat → ShS) (n i : Nat) (s : ShS) : wPoolX g ad (upS sg i s) n i = wPoolX g ad sg n i := by
  unfold wPoolX
  rw [List.flatMap_def, List.flatMap_def]
  congr 1
  refine List.map_congr_left (fun j hj => ?_)
  have hn : (List.range n).Nodup := List.nodup_range
  have : j ≠ i := fun e => by
    subst e
    exact absurd hj (List.Nodup.not_mem_erase hn)
  rw [upS_ne _ _ this]
theorem pool_in (g : Gm) (ad : Nat → Nat → Nat) (sg : Nat → ShS) {n i : Nat} (h : i < n) (s : ShS) : (wShS g (ad i) s ++ wPoolX g ad sg n i).Perm (wPool g ad (upS sg i s) n) := by
  have := pool_out g ad (upS sg i s) h
  rw [upS_same, poolX_up] at this
  exact this.symm
