/-! ===== pure: a row that is rewritten in place, from the left ===== -/
def rw_ (R : Int → Rl) (ro : Int → Int) : Int → Rl := fun j => R (ro j)
def OpInv (op : List Rl → List Rl) (R : Int → Rl) (ro : Int → Int) (rc sz k s : Int) (R9 : Int → Rl) (ro9 : Int → Int) (rc9 : Int) : Prop :=
  (0 ≤ k ∧ k ≤ s ∧ s ≤ sz) ∧ (rc ≤ rc9 ∧ rc9 + k + (sz - s) ≤ rc + sz) ∧ (∀ i, 0 ≤ i → i < rc → R9 i = R i) ∧ (∀ j, s ≤ j → j < sz → ro9 j = ro j) ∧ (∀ j, 0 ≤ j → j < k → 0 ≤ ro9 j ∧ ro9 j < rc9) ∧
  seg (rw_ R9 ro9) 0 k ++ op (seg (rw_ R ro) s sz) = op (seg (rw_ R ro) 0 sz) ∧ sumLen (seg (rw_ R9 ro9) 0 k) + sumLen (seg (rw_ R ro) s sz) = sumLen (seg (rw_ R ro) 0 sz)
theorem OpInv.start {op : List Rl → List Rl} {R : Int → Rl} {ro : Int → Int} {rc sz : Int} (h : 0 ≤ sz) : OpInv op R ro rc sz 0 0 R ro rc := by
  refine ⟨by omega, by omega, fun _ _ _ => rfl, fun _ _ _ => rfl, fun j a b => absurd b (by omega), ?_, ?_⟩
  · rw [seg_nil _ (by omega)]; rfl
  · rw [seg_nil _ (by omega)]; show (0 : Int) + _ = _; omega
theorem OpInv.step {op : List Rl → List Rl} {R : Int → Rl} {ro : Int → Int} {rc sz k s : Int} {R9 : Int → Rl} {ro9 : Int → Int} {rc9 : Int} (h : OpInv op R ro rc sz k s R9 ro9 rc9) {e x rc10 : Int} {R10 : Int → Rl} {t : Rl} (he : s < e ∧ e ≤ sz) (hr : rc9 ≤ rc10 ∧ rc10 + 1 ≤ rc9 + (e - s)) (hx : 0 ≤ x ∧ x < rc10) (hR : ∀ i, 0 ≤ i → i < rc9 → R10 i = R9 i) (ht : R10 x = t) (hop : op (seg (rw_ R ro) s sz) = t :: op (seg (rw_ R ro) e sz)) (hl : sumLen (seg (rw_ R ro) s sz) = rlen t + sumLen (seg (rw_ R ro) e sz)) :
    OpInv op R ro rc sz (k + 1) e R10 (up ro9 k x) rc10 := by
  obtain ⟨h1, h2, h3, h4, h5, h6, h7⟩ := h
  have e1 : seg (rw_ R10 (up ro9 k x)) 0 (k + 1) = seg (rw_ R9 ro9) 0 k ++ [t] := by
    rw [seg_snoc _ h1.1]
    congr 1
    · refine seg_cong (fun j a b => ?_)
      show R10 (up ro9 k x j) = R9 (ro9 j)
      rw [up_ne _ _ (by omega)]
      exact hR _ (h5 j a b).1 (h5 j a b).2
    · show [R10 (up ro9 k x k)] = [t]
      rw [up_same, ht]
  refine ⟨by omega, by omega, fun i a b => by rw [hR i a (by omega)]; exact h3 i a b, fun j a b => by rw [up_ne _ _ (by omega)]; exact h4 j (by omega) b, fun j a b => ?_, ?_, ?_⟩
  · by_cases q : j = k
    · subst q; rw [up_same]; exact hx
    · rw [up_ne _ _ q]; have := h5 j a (by omega); omega
  · rw [e1, ← h6, hop]; simp
  · rw [e1, sumLen_app, ← h7, hl]
    show sumLen _ + (rlen t + 0) + _ = _
    omega
theorem OpInv.done {op : List Rl → List Rl} {R : Int → Rl} {ro : Int → Int} {rc sz k s : Int} {R9 : Int → Rl} {ro9 : Int → Int} {rc9 : Int} (h : OpInv op R ro rc sz k s R9 ro9 rc9) (hs : s = sz) (hop : op [] = []) : seg (rw_ R9 ro9) 0 k = op (seg (rw_ R ro) 0 sz) ∧ sumLen (seg (rw_ R9 ro9) 0 k) = sumLen (seg (rw_ R ro) 0 sz) := by
  obtain ⟨h1, h2, h3, h4, h5, h6, h7⟩ := h
  rw [seg_nil (s := s) _ (by omega)] at h6 h7
  rw [hop] at h6
  refine ⟨by rw [← h6]; simp, ?_⟩
  rw [← h7]
  show _ = _ + (0 : Int)
  omega
/-- what is left is at most 600 letters -/
theorem OpInv.rest {op : List Rl → List Rl} {R : Int → Rl} {ro : Int → Int} {rc sz k s : Int} {R9 : Int → Rl} {ro9 : Int → Int} {rc9 : Int} (h : OpInv op R ro rc sz k s R9 ro9 rc9) {kd fi se sg le de nx he : Int → Int} (hT : RT kd fi se sg le de nx he rc9 R9) (hsum : sumLen (seg (rw_ R ro) 0 sz) ≤ 600) : sumLen (seg (rw_ R ro) s sz) ≤ 600 := by
  obtain ⟨h1, h2, h3, h4, h5, h6, h7⟩ := h
  have := sumLen_nn (f := rw_ R9 ro9) _ (s := 0) (e := k) rfl (fun j a b => hT.wf (h5 j a b))
  omega
/-- the step of a run -/
theorem ga_step {R : Int → Rl} {ro : Int → Int} {sz s e : Int} (hs : s < e ∧ e ≤ sz) (h1 : ∀ j, s ≤ j → j < e → ro j = ro s) (h2 : e < sz → rw_ R ro e ≠ rw_ R ro s) : gather (seg (rw_ R ro) s sz) = (if e - s = 1 then rw_ R ro s else rRun (e - s) (rw_ R ro s)) :: gather (seg (rw_ R ro) e sz) ∧ sumLen (seg (rw_ R ro) s sz) = rlen (rw_ R ro s) * (e - s) + sumLen (seg (rw_ R ro) e sz) := by
  have q : ∀ k, s ≤ k → k < e → rw_ R ro k = rw_ R ro s := fun k a b => by show R (ro k) = R (ro s); rw [h1 k a b]
  exact ⟨gather_seg hs q h2, seg_run hs q⟩
theorem sumLen_tail {kd fi se sg le de nx he : Int → Int} {R : Int → Rl} {ro : Int → Int} {rc s e : Int} (hT : RT kd fi se sg le de nx he rc R) (hin : ∀ k, 0 ≤ k → k < e → 0 ≤ ro k ∧ ro k < rc) (h0 : 0 ≤ s) : 0 ≤ sumLen (seg (rw_ R ro) s e) := sumLen_nn _ rfl (fun k a b => hT.wf (hin k (by omega) b))
