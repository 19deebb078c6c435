/-! ===== the class's cells show a view, the model's cells show one ===== -/
def kpS (s : ShS) : Kp := mkK (tx s.L) s.ln s.cnt s.nws
def PlI (R : Int → Rl) (rc re : Int) (n : Nat) (old cn : Int) (ss : Nat → ShS) : Prop := (0 ≤ old ∧ old < (n : Int) ∧ 0 ≤ cn ∧ cn ≤ (n : Int)) ∧ (∀ i, i < n → BR (ss i).L) ∧ ∀ k, 0 ≤ k → k < cn → KeptOk R rc re (ss ((old + k) % (n : Int)).toNat)
def Grown (R : Int → Rl) (rc re : Int) (R9 : Int → Rl) (rc9 re9 : Int) : Prop := (re9 = re ∧ rc ≤ rc9 ∧ (∀ i, 0 ≤ i → i < rc → R9 i = R i)) ∨ re9 = re + 1
theorem Grown.refl (R : Int → Rl) (rc re : Int) : Grown R rc re R rc re := Or.inl ⟨rfl, Int.le_refl _, fun _ _ _ => rfl⟩
theorem TopsOk.grow {R R9 : Int → Rl} {rc rc9 : Int} {L ln tp rd : Int → Int} {n : Int} (h : TopsOk R rc L ln tp rd n) (h1 : rc ≤ rc9) (h2 : ∀ i, 0 ≤ i → i < rc → R9 i = R i) : TopsOk R9 rc9 L ln tp rd n := fun t a b => by
  obtain ⟨g1, g2⟩ := h t a b
  refine ⟨by omega, ?_⟩
  rw [h2 _ g1.1 g1.2]
  exact g2
theorem KeptOk.grow {R R9 : Int → Rl} {rc re rc9 re9 : Int} {s : ShS} (h : KeptOk R rc re s) (g : Grown R rc re R9 rc9 re9) : KeptOk R9 rc9 re9 s := by
  obtain ⟨h1, h2, h3⟩ := h
  rcases g with ⟨rfl, g2, g3⟩ | g
  · exact ⟨h1, h2, fun e => (h3 e).grow g2 g3⟩
  · exact ⟨h1, by omega, fun e => by omega⟩
theorem PlI.grow {R R9 : Int → Rl} {rc re rc9 re9 : Int} {n : Nat} {old cn : Int} {ss : Nat → ShS} (h : PlI R rc re n old cn ss) (g : Grown R rc re R9 rc9 re9) : PlI R9 rc9 re9 n old cn ss := ⟨h.1, h.2.1, fun k a b => (h.2.2 k a b).grow g⟩
theorem PlI.pop {R : Int → Rl} {rc re : Int} {n : Nat} {old cn : Int} {ss : Nat → ShS} (h : PlI R rc re n old cn ss) (h1 : 1 ≤ cn) : PlI R rc re n old (cn - 1) ss := by
  have := h.1
  exact ⟨by omega, h.2.1, fun k a b => h.2.2 k a (by omega)⟩
theorem push_ix {old cn old9 cn9 : Int} {i9 : Nat} (h0 : 0 ≤ old ∧ old < ((8 : Nat) : Int) ∧ 0 ≤ cn ∧ cn ≤ ((8 : Nat) : Int)) (h : PushIs 8 old cn old9 cn9 i9) : (0 ≤ old9 ∧ old9 < ((8 : Nat) : Int) ∧ 1 ≤ cn9 ∧ cn9 ≤ ((8 : Nat) : Int)) ∧ ((old9 + (cn9 - 1)) % ((8 : Nat) : Int)).toNat = i9 ∧ ∃ d, d = (if cn = 8 then 1 else 0) ∧ cn9 = cn + 1 - d ∧ ∀ k, 0 ≤ k → k < cn9 - 1 → ((old9 + k) % ((8 : Nat) : Int)).toNat = ((old + (k + d)) % ((8 : Nat) : Int)).toNat ∧ ((old9 + k) % ((8 : Nat) : Int)).toNat ≠ i9 := by
  obtain ⟨h1, h2, h3⟩ := h
  rcases h1 with ⟨a1, a2, a3⟩ | ⟨a1, a2, a3⟩
  · refine ⟨by omega, by omega, 1, by rw [if_pos (by omega)], by omega, fun k k0 k1 => ⟨by omega, by omega⟩⟩
  · refine ⟨by omega, by omega, 0, by rw [if_neg (by omega)], by omega, fun k k0 k1 => ⟨by subst a2; rw [Int.add_zero], by omega⟩⟩
theorem PlI.push {R : Int → Rl} {rc re : Int} {old cn old9 cn9 : Int} {ss : Nat → ShS} {i9 : Nat} {s : ShS} (h : PlI R rc re 8 old cn ss) (p : PushIs 8 old cn old9 cn9 i9) (hs : KeptOk R rc re s) : PlI R rc re 8 old9 cn9 (upS ss i9 s) := by
  obtain ⟨h1, h2, d, hd, hc, hk⟩ := push_ix h.1 p
  have h0 := h.1
  have hd1 : 0 ≤ d := by split at hd <;> omega
  refine ⟨by omega, fun i hi => ?_, fun k a b => ?_⟩
  · by_cases z : i = i9
    · rw [z, upS_same]; exact hs.1.2.1
    · rw [upS_ne _ _ z]; exact h.2.1 i hi
  · by_cases z : k < cn9 - 1
    · obtain ⟨e1, e2⟩ := hk k a z
      rw [upS_ne _ _ e2, e1]
      exact h.2.2 (k + d) (by omega) (by omega)
    · have e : k = cn9 - 1 := by omega
      rw [e, h2, upS_same]
      exact hs
theorem PlI.mark {R : Int → Rl} {rc re : Int} {old cn : Int} {ss : Nat → ShS} {i9 : Nat} {s : ShS} (h : PlI R rc re 3 old cn ss) (hc : cn < 3) (p : (i9 : Int) = (old + cn) % ((3 : Nat) : Int)) (hs : KeptOk R rc re s) : PlI R rc re 3 old (cn + 1) (upS ss i9 s) := by
  have h0 := h.1
  refine ⟨by omega, fun i hi => ?_, fun k a b => ?_⟩
  · by_cases z : i = i9
    · rw [z, upS_same]; exact hs.1.2.1
    · rw [upS_ne _ _ z]; exact h.2.1 i hi
  · by_cases z : k < cn
    · rw [upS_ne _ _ (by omega)]
      exact h.2.2 k a z
    · have e : ((old + k) % ((3 : Nat) : Int)).toNat = i9 := by omega
      rw [e, upS_same]
      exact hs
/-- what the class keeps true, i: how far the script is read -/
def CIv (i : Int) (sh sh2 : Nat → Option Nat) (ad ad2 : Nat → Nat → Nat) (taped : Int) (tf L ln tp rd : Int → Int) (cnt era : Int) (RL : Int → Int) (old cn : Int) (ss : Nat → ShS) (old2 cn2 : Int) (ss2 : Nat → ShS) (kd fi se sg le de nx he : Int → Int) (rc re : Int) (R : Int → Rl) (sp : Int → Int) (stm : Int) (eo : Int → Int) (us fk : Int) (L2 : Int → Int) (era2 : Int) (RL2 : Int → Int) : Prop :=
  (RT kd fi se sg le de nx he rc R ∧ ShOk L ln cnt ∧ (0 ≤ re ∧ re ≤ i ∧ -1 ≤ era ∧ era ≤ re) ∧ (era = re → TopsOk R rc L ln tp rd cnt) ∧ (0 < cnt → era = re) ∧ (0 ≤ stm ∧ ∀ i, 0 ≤ i → i < 10240 → 0 ≤ sp i ∧ sp i ≤ stm) ∧ stm ≤ i) ∧
  (PlI R rc re 8 old cn ss ∧ PlI R rc re 3 old2 cn2 ss2 ∧ (∀ i, i < 8 → sh i = some ((ad i) 0)) ∧ (∀ i, i < 3 → sh2 i = some ((ad2 i) 0))) ∧
  (BR tf ∧ (0 ≤ taped ∧ taped ≤ 900) ∧ BR RL ∧ BR L2 ∧ era2 = -1 ∧ BR RL2 ∧ R32 eo ∧ (us = 0 ∨ us = 1) ∧ (-1 ≤ fk ∧ fk ≤ 9))
def cV (told taped : Int) (tf L ln : Int → Int) (cnt old cn : Int) (ss : Nat → ShS) (old2 cn2 : Int) (ss2 : Nat → ShS) (us fk fp : Int) : Vw := mkV told taped tf (mkK (tx L) ln cnt 0) cn (fun k => kpS (ss ((old + k) % ((8 : Nat) : Int)).toNat)) cn2 (fun k => kpS (ss2 ((old2 + k) % ((3 : Nat) : Int)).toNat)) us fk (if fk = 0 then -1 else fp)
section CIS
variable {i : Int} {sh sh2 : Nat → Option Nat} {ad ad2 : Nat → Nat → Nat} {taped told : Int} {tf L ln tp rd : Int → Int} {cnt era : Int} {RL : Int → Int} {old cn : Int} {ss : Nat → ShS} {old2 cn2 : Int} {ss2 : Nat → ShS} {kd fi se sg le de nx he : Int → Int} {rc re : Int} {R : Int → Rl} {sp : Int → Int} {stm : Int} {eo : Int → Int} {us fk fp : Int} {L2 : Int → Int} {era2 : Int} {RL2 : Int → Int}
theorem ShOk.tok (h : ShOk L ln cnt) : TOk (tx L) ln cnt := ⟨h.1, h.2.2⟩
/-- nothing but the walk has changed -/
theorem CIv.same (h : CIv i sh sh2 ad ad2 taped tf L ln tp rd cnt era RL old cn ss old2 cn2 ss2 kd fi se sg le de nx he rc re R sp stm eo us fk L2 era2 RL2) {sp9 : Int → Int} {stm9 : Int} (hw : 0 ≤ stm9 ∧ ∀ i, 0 ≤ i → i < 10240 → 0 ≤ sp9 i ∧ sp9 i ≤ stm9) (hs : stm9 ≤ i + 6) : CIv (i + 6) sh sh2 ad ad2 taped tf L ln tp rd cnt era RL old cn ss old2 cn2 ss2 kd fi se sg le de nx he rc re R sp9 stm9 eo us fk L2 era2 RL2 := by
  obtain ⟨⟨h1, h2, h3, h4, h5, h6, h7⟩, hp, hb⟩ := h
  exact ⟨⟨h1, h2, by omega, h4, h5, hw, hs⟩, hp, hb⟩
theorem CIv.tops (h : CIv i sh sh2 ad ad2 taped tf L ln tp rd cnt era RL old cn ss old2 cn2 ss2 kd fi se sg le de nx he rc re R sp stm eo us fk L2 era2 RL2) : TopsOk R rc L ln tp rd cnt := by
  by_cases z : 0 < cnt
  · exact h.1.2.2.2.1 (h.1.2.2.2.2.1 z)
  · intro t a b
    omega
theorem CIv.vok (h : CIv i sh sh2 ad ad2 taped tf L ln tp rd cnt era RL old cn ss old2 cn2 ss2 kd fi se sg le de nx he rc re R sp stm eo us fk L2 era2 RL2) : VOk (cV told taped tf L ln cnt old cn ss old2 cn2 ss2 us fk fp) := by
  have h1 := h.2.1.1.1
  have h2 := h.2.1.2.1.1
  exact ⟨h.1.2.1.tok, ⟨h1.2.2.1, h1.2.2.2⟩, ⟨h2.2.2.1, h2.2.2.2⟩, h.2.2.2.1⟩
/-- behind an ACT -/
theorem CIv.act (h : CIv i sh sh2 ad ad2 taped tf L ln tp rd cnt era RL old cn ss old2 cn2 ss2 kd fi se sg le de nx he rc re R sp stm eo us fk L2 era2 RL2)
    {kd9 fi9 se9 sg9 le9 de9 nx9 he9 : Int → Int} {rc9 re9 : Int} {R9 : Int → Rl} {sp9 : Int → Int} {L9 ln9 tp9 rd9 : Int → Int} {cnt9 old9 cn9 : Int} {i9 : Nat} {s : ShS} {RL9 : Int → Int} (g1 : RT kd9 fi9 se9 sg9 le9 de9 nx9 he9 rc9 R9) (g2 : Grown R rc re R9 rc9 re9) (g3 : 0 ≤ stm + 1 ∧ ∀ i, 0 ≤ i → i < 10240 → 0 ≤ sp9 i ∧ sp9 i ≤ stm + 1) (g4 : PushIs 8 old cn old9 cn9 i9) (g5 : KeptOk R9 rc9 re9 s) (g6 : TopsOk R9 rc9 L9 ln9 tp9 rd9 cnt9) (g7 : ShOk L9 ln9 cnt9) (g8 : BR RL9) :
    CIv (i + 6) sh sh2 ad ad2 taped tf L9 ln9 tp9 rd9 cnt9 re9 RL9 old9 cn9 (upS ss i9 s) old2 cn2 ss2 kd9 fi9 se9 sg9 le9 de9 nx9 he9 rc9 re9 R9 sp9 (stm + 1) eo us fk L2 era2 RL2 := by
  obtain ⟨⟨h1, h2, h3, h4, h5, h6, h7⟩, ⟨p1, p2, p3⟩, ⟨b1, b2, b3, b4⟩⟩ := h
  refine ⟨⟨g1, g7, ?_, fun _ => g6, fun _ => rfl, g3, by omega⟩, ⟨(p1.grow g2).push g4 g5, p2.grow g2, p3⟩, ⟨b1, b2, g8, b4⟩⟩
  rcases g2 with g2 | g2 <;> omega
theorem cV_push {Lp lnp tpp rdp : Int → Int} {era9 news9 : Int} {L9 ln9 : Int → Int} {cnt9 old9 cn9 : Int} {i9 : Nat} {told9 : Int} {tf9 : Int → Int} {taped9 us9 fk9 fp9 : Int} (h0 : 0 ≤ old ∧ old < ((8 : Nat) : Int) ∧ 0 ≤ cn ∧ cn ≤ ((8 : Nat) : Int)) (p : PushIs 8 old cn old9 cn9 i9) (g1 : ∀ t, 0 ≤ t → t < cnt → lnp t = ln t ∧ ∀ k, 0 ≤ k → k < ln t → Lp (600 * t + k) = L (600 * t + k)) (g2 : NewsF (tx L) ln cnt (tx L9) ln9 cnt9 news9) : VPush (cV told taped tf L ln cnt old cn ss old2 cn2 ss2 us fk fp) (cV told9 taped9 tf9 L9 ln9 cnt9 old9 cn9 (upS ss i9 (shs Lp lnp tpp rdp cnt era9 news9)) old2 cn2 ss2 us9 fk9 fp9) := by
  obtain ⟨h1, h2, d, hd, hc, hk⟩ := push_ix h0 p
  refine ⟨d, hd, hc, fun k a b => ?_, ?_, ?_⟩
  · obtain ⟨e1, e2⟩ := hk k a b
    show KEq (kpS (ss ((old + (k + d)) % ((8 : Nat) : Int)).toNat)) (kpS (upS ss i9 _ ((old9 + k) % ((8 : Nat) : Int)).toNat)) ∧ (kpS (upS ss i9 _ ((old9 + k) % ((8 : Nat) : Int)).toNat)).w = (kpS (ss ((old + (k + d)) % ((8 : Nat) : Int)).toNat)).w
    rw [upS_ne _ _ e2, e1]
    exact ⟨KEq.refl _, rfl⟩
  · show KEq (mkK (tx L) ln cnt 0) (kpS (upS ss i9 _ ((old9 + (cn9 - 1)) % ((8 : Nat) : Int)).toNat))
    rw [h2, upS_same]
    exact ⟨rfl, g1⟩
  · show NewsF (tx L) ln cnt (tx L9) ln9 cnt9 (kpS (upS ss i9 _ ((old9 + (cn9 - 1)) % ((8 : Nat) : Int)).toNat)).w
    rw [h2, upS_same]
    exact g2
end CIS
/-! the model -/
def mV (mst mtp : Int) (tf al : Int → Int) (mac : Int) (nf : Int → Int) (mmk mfk mfp : Int) : Vw := mkV mst mtp tf (mkK (mF al) (mN al) (al 0) 0) mac (fun k => mkK (oF al (9618 + 4809 * k)) (oN al (9618 + 4809 * k)) (al (9618 + 4809 * k + 0)) (nf k)) mmk (fun k => mkK (oF al (48090 + 4809 * k)) (oN al (48090 + 4809 * k)) (al (48090 + 4809 * k + 0)) 0) (if mfk < 0 then 0 else 1) mfk mfp
def MIv (mtp : Int) (tf tt al : Int → Int) (mac mmk mfk : Int) : Prop := MTx al ∧ (0 ≤ mac ∧ mac ≤ 8) ∧ (0 ≤ mmk ∧ mmk ≤ 3) ∧ (0 ≤ mtp ∧ mtp ≤ 900) ∧ BR tf ∧ BR tt ∧ (-1 ≤ mfk ∧ mfk ≤ 9) ∧ (∀ k, 0 ≤ k → k < mac → TOk (oF al (9618 + 4809 * k)) (oN al (9618 + 4809 * k)) (al (9618 + 4809 * k + 0))) ∧ ∀ k, 0 ≤ k → k < mmk → TOk (oF al (48090 + 4809 * k)) (oN al (48090 + 4809 * k)) (al (48090 + 4809 * k + 0))
theorem reg_teq {al al2 : Int → Int} {b b2 : Int} (h : TOk (oF al b) (oN al b) (al (b + 0))) (e : ∀ j, 0 ≤ j → j < 4809 → al2 (b2 + j) = al (b + j)) : TEq (oF al b) (oN al b) (al (b + 0)) (oF al2 b2) (oN al2 b2) (al2 (b2 + 0)) := by
  have hc := h.1
  refine ⟨e 0 (by omega) (by omega), fun t a q => ⟨?_, fun k k0 k1 => ?_⟩⟩
  · have := e (1 + t) (by omega) (by omega)
    rw [← Int.add_assoc, ← Int.add_assoc] at this
    exact this
  · have h9 := (h.2 t a q).1
    have := e (9 + 600 * t + k) (by omega) (by omega)
    unfold oF
    rw [show b2 + 9 + 600 * t + k = b2 + (9 + 600 * t + k) by omega, show b + 9 + 600 * t + k = b + (9 + 600 * t + k) by omega]
    exact this
theorem now_teq {al al2 : Int → Int} {b2 : Int} (h : MTx al) (e : ∀ j, 0 ≤ j → j < 4809 → al2 (b2 + j) = al (0 + j)) : TEq (mF al) (mN al) (al 0) (oF al2 b2) (oN al2 b2) (al2 (b2 + 0)) := by
  have h9 := reg_teq (TOk.at0.mpr h) e
  rw [oF_0, oN_0] at h9
  exact h9
theorem to_teq {al al2 : Int → Int} {b : Int} (h : TOk (oF al b) (oN al b) (al (b + 0))) (e : ∀ j, 0 ≤ j → j < 4809 → al2 (0 + j) = al (b + j)) : TEq (oF al b) (oN al b) (al (b + 0)) (mF al2) (mN al2) (al2 0) := by
  have h9 := reg_teq (b2 := 0) h e
  rw [oF_0, oN_0] at h9
  exact h9
section MIS
variable {mtp : Int} {tf tt al : Int → Int} {mac mmk mfk : Int} {mst mfp : Int} {nf : Int → Int}
theorem MIv.vok (h : MIv mtp tf tt al mac mmk mfk) : VOk (mV mst mtp tf al mac nf mmk mfk mfp) := ⟨h.1, h.2.1, h.2.2.1, h.2.2.2.1⟩
theorem MIv.act (h : MIv mtp tf tt al mac mmk mfk) {al9 nf9 : Int → Int} {mac9 news : Int} (a : ActIs al nf mac al9 nf9 mac9 news) (hm : 1 ≤ mac9 ∧ mac9 ≤ 8) : MIv mtp tf tt al9 mac9 mmk mfk := by
  obtain ⟨⟨d, a1, a2, a3, a4, a5, a6⟩, -, a8⟩ := a
  obtain ⟨h1, h2, h3, h4, h5, h6, h7, h8, h9⟩ := h
  have hd : 0 ≤ d := by split at a1 <;> omega
  refine ⟨a8, by omega, h3, h4, h5, h6, h7, fun k k0 k1 => ?_, fun k k0 k1 => ?_⟩
  · by_cases z : k < mac9 - 1
    · exact (h8 (k + d) (by omega) (by omega)).teq (reg_teq (h8 (k + d) (by omega) (by omega)) (a3 k k0 z).2)
    · have e : k = mac9 - 1 := by omega
      subst e
      exact h1.teq (now_teq h1 a5)
  · exact (h9 k k0 k1).teq (reg_teq (h9 k k0 k1) (fun j x y => a6 _ (by omega)))
theorem mV_push (h : MIv mtp tf tt al mac mmk mfk) {al9 nf9 : Int → Int} {mac9 news : Int} (a : ActIs al nf mac al9 nf9 mac9 news) (hm : 1 ≤ mac9 ∧ mac9 ≤ 8) {mst9 mtp9 : Int} {tf9 : Int → Int} {mfk9 mfp9 : Int} : VPush (mV mst mtp tf al mac nf mmk mfk mfp) (mV mst9 mtp9 tf9 al9 mac9 nf9 mmk mfk9 mfp9) ∧ MEq (mV mst mtp tf al mac nf mmk mfk mfp) (mV mst9 mtp9 tf9 al9 mac9 nf9 mmk mfk9 mfp9) := by
  obtain ⟨⟨d, a1, a2, a3, a4, a5, a6⟩, a7, a8⟩ := a
  obtain ⟨h1, h2, h3, h4, h5, h6, h7, h8, h9⟩ := h
  have hd : 0 ≤ d := by split at a1 <;> omega
  refine ⟨⟨d, a1, a2, fun k k0 k1 => ?_, now_teq h1 a5, ?_⟩, rfl, fun k k0 k1 => ?_⟩
  · have z : k < mac9 - 1 := k1
    exact ⟨reg_teq (h8 (k + d) (by omega) (by omega)) (a3 k k0 z).2, (a3 k k0 z).1⟩
  · show NewsF (mF al) (mN al) (al 0) (mF al9) (mN al9) (al9 0) (nf9 (mac9 - 1))
    rw [a4]
    exact a7
  · exact reg_teq (h9 k k0 k1) (fun j x y => a6 _ (by omega))
/-- the texts and what is kept are as they were -/
theorem MIv.like (h : MIv mtp tf tt al mac mmk mfk) {al9 : Int → Int} (e : ∀ j, (0 ≤ j ∧ j < 4809) ∨ 9618 ≤ j → al9 j = al j) : MIv mtp tf tt al9 mac mmk mfk := by
  obtain ⟨h1, h2, h3, h4, h5, h6, h7, h8, h9⟩ := h
  refine ⟨h1.teq (by have := now_teq (b2 := 0) (al2 := al9) h1 (fun j x y => e _ (by omega)); rw [oF_0, oN_0] at this; exact this), h2, h3, h4, h5, h6, h7, fun k k0 k1 => (h8 k k0 k1).teq (reg_teq (h8 k k0 k1) (fun j x y => e _ (by omega))), fun k k0 k1 => (h9 k k0 k1).teq (reg_teq (h9 k k0 k1) (fun j x y => e _ (by omega)))⟩
theorem mV_like (h : MIv mtp tf tt al mac mmk mfk) {al9 : Int → Int} (e : ∀ j, (0 ≤ j ∧ j < 4809) ∨ 9618 ≤ j → al9 j = al j) {mst9 mtp9 mfk9 mfp9 : Int} {tf9 : Int → Int} : KEq (mV mst mtp tf al mac nf mmk mfk mfp).T (mV mst9 mtp9 tf9 al9 mac nf mmk mfk9 mfp9).T ∧ HEq_ (mV mst mtp tf al mac nf mmk mfk mfp) (mV mst9 mtp9 tf9 al9 mac nf mmk mfk9 mfp9) ∧ MEq (mV mst mtp tf al mac nf mmk mfk mfp) (mV mst9 mtp9 tf9 al9 mac nf mmk mfk9 mfp9) := by
  obtain ⟨h1, h2, h3, h4, h5, h6, h7, h8, h9⟩ := h
  refine ⟨?_, ⟨rfl, fun k k0 k1 => ⟨reg_teq (h8 k k0 k1) (fun j x y => e _ (by have := h2; omega)), rfl⟩⟩, rfl, fun k k0 k1 => reg_teq (h9 k k0 k1) (fun j x y => e _ (by omega))⟩
  have := now_teq (b2 := 0) (al2 := al9) h1 (fun j x y => e _ (by omega))
  rw [oF_0, oN_0] at this
  exact this
end MIS
theorem Ct.fr2 {g : Gm} {d mc ms : Nat} {y : MethodName} {cc : ByteArray} {nL : Nat} {ret : Option FieldType} {av : List Value} {Post Post' : Option Value → List va_W → Prop} (fs fc fr : List va_W) (isC isR : List Nat) (h : Ct g d mc ms y cc nL ret av fc Post)
    (hC : isC.map (fun i => fs[i]?) = fc.map some) (hR : isR.map (fun i => fs[i]?) = fr.map some) (hnC : va_nd isC = true) (hn : va_nd isR = true) (hdis : ∀ i ∈ isR, i ∉ isC) (hp : ∀ v w, Post v w → ∃ (fs' : List va_W) (is : List Nat), is.map (fun i => (w ++ fr)[i]?) = fs'.map some ∧ va_nd is = true ∧ Post' v [fs'.flatten]) : Ct g d mc ms y cc nL ret av [fs.flatten] Post' := by
  intro l sz
  have hsub : ∀ q, va_A fc.flatten sz q → va_A fs.flatten sz q := fun q z => by
    rcases z with ⟨b, e, z⟩ | z
    · obtain ⟨f, hf, hz⟩ := List.mem_flatten.mp (List.mem_of_getElem? z)
      obtain ⟨i, hi⟩ := List.getElem?_of_mem (List.mem_flatten.mpr ⟨f, pk_mem hC hf, hz⟩)
      exact Or.inl ⟨i, e, hi⟩
    · exact Or.inr z
  have key := (h l sz).cons (Pc' := PcOf g av [fs.flatten] sz) (Qc' := QcOf g (va_A ([fs.flatten] : List va_W).flatten sz) Post') (fr' := va_A ([fs.flatten] : List va_W).flatten sz) ?_ ?_ (fun q z => by rw [fl1]; exact hsub q z)
  · exact key
  · intro a s hP
    obtain ⟨e, hsz, hP, hK, hD, hS⟩ := hP
    rw [fl1] at hP hD hS
    exact ⟨e, hsz, pk_P hC hP, hK, pk_D hC hnC hD, hS.narrow hsub⟩
  · intro a s o t hP hQ
    obtain ⟨e, hsz, hP, hK, hD, hS⟩ := hP
    obtain ⟨⟨v, w1, ho, hpo, hP1, hK1, hD1⟩, hF⟩ := hQ
    rw [fl1] at hP hD
    subst hsz
    have hD2 := hD.self (sz := s.heap.size)
    obtain ⟨j1, j2⟩ := pk_join hP hD2 hC hR hn hdis hF.2 hsub hP1 hD1
    obtain ⟨fs', is, k1, k2, k3⟩ := hp v w1 hpo
    refine ⟨⟨v, [fs'.flatten], ho, k3, by rw [fl1]; exact pk_P k1 j1, hK1, by rw [fl1, fl1]; exact pk_D k1 k2 j2⟩, hF.1, fun q a1 a2 => hF.2 q a1 (fun z => a2 (by rw [fl1]; exact hsub q z))⟩
