def R9 : Room := { frames := 2048, cells := 600000, slots := 7302250, locals := 40 * 2048 }
theorem room_less {s : State} {pl : Platform} (h : s.hasRoom pl room_1 = true) : s.hasRoom pl R9 = true := by
  simp only [State.hasRoom, Bool.and_eq_true, decide_eq_true_eq] at h ⊢
  obtain ⟨⟨⟨⟨h1, h2, h3, h4, h5, h6⟩, h7⟩, h8⟩, h9⟩ := h
  have e1 : room_1.locals = 84000 := rfl
  have e2 : room_1.frames = 2048 := rfl
  have e3 : room_1.cells = 600000 := rfl
  have e4 : room_1.slots = 7302250 := rfl
  have f1 : R9.locals = 81920 := rfl
  have f2 : R9.frames = 2048 := rfl
  have f3 : R9.cells = 600000 := rfl
  have f4 : R9.slots = 7302250 := rfl
  rw [e1] at h1 h4 h5
  rw [e2] at h2 h3
  rw [e3] at h7
  rw [e4] at h8
  rw [f1, f2, f3, f4]
  exact ⟨⟨⟨⟨by omega, h2, h3, by omega, by omega, h6⟩, h7⟩, h8⟩, h9⟩
def at9 (l : List ClassId) (d : ClassId) (c : Nat) : ClassId := l.getD c d
def tm9 (i : Nat) : Term := Term.string "PairTexts$Tokens" (([88, 94, 78] : List Nat).getD i 0)
set_option maxHeartbeats 4000000 in
theorem str9 {s : State} {b : Nat} (hgv : (Jvm.Cond.and given_1 narrow_1).before #[Value.ref b] s = true) : ∃ adK adV : Nat → Nat, vk_S 3 strLen strByt adK adV (fun q => s.heap.size ≤ q) s s.heap ∧ ∀ i : Nat, i < 3 → (tm9 i).eval #[Value.ref b] s none [] s = some (.ref (adK i)) := by
  have hs := flat_of_before _ hgv
  refine vk_Sof (tm := tm9) ?_ ?_ ?_ ?_ ?_ ?_ ?_ (fun a h1 h2 => by omega)
  · exact fun i hi => match i, hi with | 0, _ => by decide | 1, _ => by decide | 2, _ => by decide | k + 3, h => absurd h (by omega)
  · exact fun i hi => match i, hi with | 0, _ => hs _ (by decide +kernel) | 1, _ => hs _ (by decide +kernel) | 2, _ => hs _ (by decide +kernel) | k + 3, h => absurd h (by omega)
  · exact fun i hi => match i, hi with | 0, _ => hs _ (by decide +kernel) | 1, _ => hs _ (by decide +kernel) | 2, _ => hs _ (by decide +kernel) | k + 3, h => absurd h (by omega)
  · exact fun i hi => match i, hi with | 0, _ => hs _ (by decide +kernel) | 1, _ => hs _ (by decide +kernel) | 2, _ => hs _ (by decide +kernel) | k + 3, h => absurd h (by omega)
  · exact fun i hi => match i, hi with | 0, _ => hs _ (by decide +kernel) | 1, _ => hs _ (by decide +kernel) | 2, _ => hs _ (by decide +kernel) | k + 3, h => absurd h (by omega)
  · exact fun i hi => match i, hi with | 0, _ => (fun j hj => match j, hj with | 0, _ => hs _ (by decide +kernel) | 1, _ => hs _ (by decide +kernel) | 2, _ => hs _ (by decide +kernel) | 3, _ => hs _ (by decide +kernel) | t + 4, h => absurd (show t + 4 < 4 from h) (by omega)) | 1, _ => (fun j hj => match j, hj with | 0, _ => hs _ (by decide +kernel) | 1, _ => hs _ (by decide +kernel) | 2, _ => hs _ (by decide +kernel) | t + 3, h => absurd (show t + 3 < 3 from h) (by omega)) | 2, _ => (fun j hj => match j, hj with | 0, _ => hs _ (by decide +kernel) | 1, _ => hs _ (by decide +kernel) | 2, _ => hs _ (by decide +kernel) | 3, _ => hs _ (by decide +kernel) | 4, _ => hs _ (by decide +kernel) | 5, _ => hs _ (by decide +kernel) | 6, _ => hs _ (by decide +kernel) | 7, _ => hs _ (by decide +kernel) | 8, _ => hs _ (by decide +kernel) | 9, _ => hs _ (by decide +kernel) | 10, _ => hs _ (by decide +kernel) | t + 11, h => absurd (show t + 11 < 11 from h) (by omega)) | k + 3, h => absurd h (by omega)
  · exact fun i j hi hj hn => match i, j, hi, hj, hn with | 0, 0, _, _, hn => absurd rfl hn | 0, 1, _, _, hn => Or.inl (hs _ (by decide +kernel)) | 0, 2, _, _, hn => Or.inl (hs _ (by decide +kernel)) | 1, 0, _, _, hn => Or.inr (hs _ (by decide +kernel)) | 1, 1, _, _, hn => absurd rfl hn | 1, 2, _, _, hn => Or.inl (hs _ (by decide +kernel)) | 2, 0, _, _, hn => Or.inr (hs _ (by decide +kernel)) | 2, 1, _, _, hn => Or.inr (hs _ (by decide +kernel)) | 2, 2, _, _, hn => absurd rfl hn | k + 3, _, h, _, _ => absurd h (by omega) | _, k + 3, _, h, _ => absurd h (by omega)
