section NULLS2
variable {g : Gm} {E : Cx} {nL k n : Nat} {fs : List va_W} {pc : Nat} {lv : List (Nat × Value)} {st : List Value} {own : String} {cc : ByteArray} {d mc ms : Nat}
theorem r_aload_nN (q : Nat) (hE : Ok g E nL own cc d mc ms) {j : Fin 4} (a : Nat) {i : Nat} (hdg : decode cc pc = .ok (.aload_n j, 1)) (hq : pc + 1 = q) (hi : (j : Nat) = i) (hk : lv[a]? = some (i, .null)) (kk : G g E nL k n fs q lv (.null :: st)) : G g E nL k n fs pc lv st := by
  subst hq
  intro H locs ls hP hD hS hl
  exact lv_aload_nN hE.1.1 hE.1.2.1 hdg hi (lv_at hl a hk) (kk H locs ls hP hD hS hl)
theorem r_astore_nN (q : Nat) (hE : Ok g E nL own cc d mc ms) {j : Fin 4} {i : Nat} (lv2 : List (Nat × Value)) (hdg : decode cc pc = .ok (.astore_n j, 1)) (hq : pc + 1 = q) (hi : (j : Nat) = i) (hn : i < nL) (h2 : (i, Value.null) :: lv.filter (fun q => !(q.1 == i) && !(q.1 + 1 == i && q.2.category == 2)) = lv2) (kk : G g E nL k n fs q lv2 st) : G g E nL k n fs pc lv (.null :: st) := by
  subst hq
  intro H locs ls hP hD hS hl
  exact lv_astore_nN hE.1.1 hE.1.2.1 hdg hi hl hn h2 (fun ls2 hl2 => kk H locs ls2 hP hD hS hl2)
end NULLS2
/-! ===== pure: what is kept; a text written ===== -/
def KeptOk (R : Int → Rl) (rc re : Int) (s : ShS) : Prop := ShOk s.L s.ln s.cnt ∧ (-1 ≤ s.era ∧ s.era ≤ re) ∧ (s.era = re → TopsOk R rc s.L s.ln s.tp s.rd s.cnt)
theorem ShOk.copy {L2 ln2 tp2 rd2 L ln tp rd : Int → Int} {n : Int} (h : ShOk L2 ln2 n) (c : CopyTo n L2 ln2 tp2 rd2 L ln tp rd) (hB : BR L) : ShOk L ln n := by
  refine ⟨h.1, hB, fun t a b => ?_⟩
  obtain ⟨e1, -, -, e4⟩ := c t a b
  obtain ⟨g1, g2⟩ := h.2.2 t a b
  refine ⟨by rw [e1]; exact g1, fun k k0 k1 => ?_⟩
  rw [e1] at k1
  have := g2 k k0 k1
  unfold tx at this ⊢
  rw [e4 k k0 k1]
  exact this
theorem TopsOk.copy {R : Int → Rl} {rc : Int} {L2 ln2 tp2 rd2 L ln tp rd : Int → Int} {n : Int} (h : TopsOk R rc L2 ln2 tp2 rd2 n) (c : CopyTo n L2 ln2 tp2 rd2 L ln tp rd) : TopsOk R rc L ln tp rd n := fun t a b => by
  obtain ⟨e1, e2, e3, e4⟩ := c t a b
  obtain ⟨g1, g2⟩ := h t a b
  rw [e1, e2, e3]
  refine ⟨g1, ?_⟩
  rw [lts_cong (h := L2) (q := t * 600) (fun k k0 k1 => by rw [show t * 600 + k = 600 * t + k by omega]; exact e4 k k0 k1)]
  exact g2
theorem ShOk.write {L ln RL : Int → Int} {cnt t n : Int} (h : ShOk L ln cnt) (ht : 0 ≤ t ∧ t ≤ cnt ∧ t < 8) (hn : 1 ≤ n ∧ n ≤ 600) (hB : BR RL) (hf : ∀ k, 0 ≤ k → k < n → 0 ≤ RL k ∧ RL k ≤ 25) : ShOk (cpy RL L 0 (t * 600) n) (up ln t n) (max cnt (t + 1)) := by
  obtain ⟨h1, h2, h3⟩ := h
  refine ⟨by omega, BR_cpy hB h2 _ _ _, fun j a b => ?_⟩
  by_cases e : j = t
  · subst e
    rw [up_same]
    refine ⟨hn, fun k k0 k1 => ?_⟩
    unfold tx
    rw [cpy_in _ _ (by omega), show 0 + (600 * j + k - j * 600) = k by omega]
    exact hf k k0 k1
  · rw [up_ne _ _ e]
    obtain ⟨g1, g2⟩ := h3 j a (by omega)
    refine ⟨g1, fun k k0 k1 => ?_⟩
    have := g2 k k0 k1
    unfold tx at this ⊢
    rw [cpy_out _ _ (by omega)]
    exact this
theorem TopsOk.write {R : Int → Rl} {rc : Int} {L ln tp rd RL : Int → Int} {cnt t n x q : Int} (h : TopsOk R rc L ln tp rd cnt) (hl : ∀ j, 0 ≤ j → j < cnt → 0 ≤ ln j ∧ ln j ≤ 600) (ht : 0 ≤ t ∧ t ≤ cnt) (hn : 1 ≤ n ∧ n ≤ 600) (hx : 0 ≤ x ∧ x < rc) (hb : BIs (lts RL 0 n) (R x) q) :
    TopsOk R rc (cpy RL L 0 (t * 600) n) (up ln t n) (up tp t x) (up rd t q) (max cnt (t + 1)) := fun j a b => by
  by_cases e : j = t
  · subst e
    rw [up_same, up_same, up_same]
    refine ⟨hx, ?_⟩
    rw [lts_cong (h := RL) (q := 0) (fun k k0 k1 => by rw [cpy_in _ _ (by omega)]; congr 1; omega)]
    exact hb
  · rw [up_ne _ _ e, up_ne _ _ e, up_ne _ _ e]
    obtain ⟨g1, g2⟩ := h j a (by omega)
    have := hl j a (by omega)
    refine ⟨g1, ?_⟩
    rw [lts_cong (h := L) (q := j * 600) (fun k k0 k1 => cpy_out _ _ (by omega))]
    exact g2
