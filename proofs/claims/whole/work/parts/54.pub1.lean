set_option maxHeartbeats 4000000 in
set_option maxRecDepth 100000 in
theorem c_X8_drop {g : Gm} {a : Nat → Nat} {L ln tp rd : Int → Int} {cnt era nws : Int} {ru : Nat → Nat} {kd fi se sg le de nx he ro : Int → Int} {rc re rr : Int} {R : Int → Rl} {w : Nat → Nat} {sp nb mt pl op no : Int → Int} {od stm wc : Int} {p : Nat → Nat} {n : Nat} {sh : Nat → Option Nat} {old cn : Int} {ad : Nat → Nat → Nat} {ss : Nat → ShS} {x tpa da qa rua sa bka : Nat} {taped told : Int} {t : Int} (hT : RT kd fi se sg le de nx he rc R) (hsh : ShOk L ln cnt) (hto : TopsOk R rc L ln tp rd cnt) (her : -1 ≤ era ∧ era = re) (hWI : 0 ≤ stm ∧ ∀ i, 0 ≤ i → i < 10240 → 0 ≤ sp i ∧ sp i ≤ stm) (hs2 : stm ≤ 1500000000) (hpn : 1 ≤ (n : Int) ∧ (n : Int) ≤ 8) (hpo : 0 ≤ old ∧ old < (n : Int) ∧ 0 ≤ cn ∧ cn ≤ (n : Int)) (hsa : ∀ i, i < n → sh i = some ((ad i) 0)) (hBs : ∀ i, i < n → BR (ss i).L) (ht : 0 ≤ t ∧ t < cnt) : Ct g 5 0 0 yX8_drop cX8_drop 2 (some .int) [.ref x, .int (iI t)] [(wMain g x tpa (a 0) da (p 0) qa rua (w 0) sa bka taped told), (wShelf g a L ln tp rd cnt era nws), (wWalk g w (ru 0) sp nb mt pl op no od stm wc), (wRules g ru kd fi se sg le de nx he ro rc re rr), (wPileH g p n sh old cn), (wPool g ad ss n)] (fun v_ w_ => ∃ sp9 : Int → Int, ∃ nb9 : Int → Int, ∃ mt9 : Int → Int, ∃ pl9 : Int → Int, ∃ op9 : Int → Int, ∃ no9 : Int → Int, ∃ od9 : Int, ∃ wc9 : Int, ∃ old9 : Int, ∃ cn9 : Int, ∃ i9 : Nat, ∃ Lp : Int → Int, ∃ lnp : Int → Int, ∃ tpp : Int → Int, ∃ rdp : Int → Int, ∃ news9 : Int, ∃ L9 : Int → Int, ∃ ln9 : Int → Int, ∃ tp9 : Int → Int, ∃ rd9 : Int → Int, v_ = some (.int (iI (cnt - 1))) ∧ w_ = [(wMain g x tpa (a 0) da (p 0) qa rua (w 0) sa bka taped 0), (wShelf g a L9 ln9 tp9 rd9 (cnt - 1) era nws), (wWalk g w (ru 0) sp9 nb9 mt9 pl9 op9 no9 od9 (stm + 1) wc9), (wRules g ru kd fi se sg le de nx he ro rc re rr), (wPileH g p n sh old9 cn9), (wPool g ad (upS ss i9 (shs Lp lnp tpp rdp cnt era news9)) n)] ∧ (0 ≤ stm + 1 ∧ ∀ i, 0 ≤ i → i < 10240 → 0 ≤ sp9 i ∧ sp9 i ≤ stm + 1) ∧ (PushIs n old cn old9 cn9 i9) ∧ (∀ t, 0 ≤ t → t < cnt → lnp t = ln t ∧ ∀ k, 0 ≤ k → k < ln t → Lp (600 * t + k) = L (600 * t + k)) ∧ (KeptOk R rc re (shs Lp lnp tpp rdp cnt era news9)) ∧ (TopsOk R rc L9 ln9 tp9 rd9 (cnt - 1)) ∧ (ShOk L9 ln9 (cnt - 1)) ∧ (NewsF (tx L) ln cnt (tx L9) ln9 (cnt - 1) news9) ∧ (TextGone (tx L) ln cnt t (tx L9) ln9 (cnt - 1))) := by
  refine Ct.of (by decide) (Nat.le_of_ble_eq_true rfl) (lv := [(0, .ref x), (1, .int (iI t))]) rfl ?_
  intro E hE hR hnm
  have hc := hsh.1
  have hln := hsh.ln
  have hB := hsh.2.1
  have hcn := hT.1
  refine r_aload_n 1 hE 0 dX8_drop_0 rfl rfl rfl ?_
  refine r_get 4 hE 0 0 ok8 4 dX8_drop_1 rfl wd_301 rfl rfl (by decide) rfl ?_
  refine r_iload_n 5 hE 1 dX8_drop_4 rfl rfl rfl ?_
  refine r_callV 8 hE [1] [0, 2, 3, 4, 5] [(wShelf g a L ln tp rd cnt era nws)] [(wMain g x tpa (a 0) da (p 0) qa rua (w 0) sa bka taped told), (wWalk g w (ru 0) sp nb mt pl op no od stm wc), (wRules g ru kd fi se sg le de nx he ro rc re rr), (wPileH g p n sh old cn), (wPool g ad ss n)] 0 5 ok5 [] (c_X5_has (by omega) (by omega)) dX8_drop_5 rfl rfl wd_764 wd_578 wd_579 wd_4 wd_580 ne_X5 np_X5_has (Nat.le_of_ble_eq_true rfl)  (by decide) (by decide) rfl (Nat.le_of_ble_eq_true rfl) rfl rfl rfl rfl (by decide) rfl (fun v1 f1 hp => ?_)
  obtain ⟨rfl, rfl⟩ := hp
  show G g E _ _ _ [(wShelf g a L ln tp rd cnt era nws), (wMain g x tpa (a 0) da (p 0) qa rua (w 0) sa bka taped told), (wWalk g w (ru 0) sp nb mt pl op no od stm wc), (wRules g ru kd fi se sg le de nx he ro rc re rr), (wPileH g p n sh old cn), (wPool g ad ss n)] 8 [(0, .ref x), (1, .int (iI t))] [.int (iI (bI (0 ≤ t ∧ t < cnt)))]
  refine r_if_ne 11 17 hE dX8_drop_8 rfl (by decide) (bI_rg _) (fun c8 => ?_) (fun c8 => ?_)
  · skip
    have c8 := bI1 c8
    refine r_aload_n 18 hE 0 dX8_drop_17 rfl rfl rfl ?_
    refine r_callV 21 hE [1, 0, 2, 3, 4, 5] [] [(wMain g x tpa (a 0) da (p 0) qa rua (w 0) sa bka taped told), (wShelf g a L ln tp rd cnt era nws), (wWalk g w (ru 0) sp nb mt pl op no od stm wc), (wRules g ru kd fi se sg le de nx he ro rc re rr), (wPileH g p n sh old cn), (wPool g ad ss n)] [] 0 8 ok8 [] (c_X8_beginAct (hT) (hsh) (hto) (hWI) (by omega) (by omega) (by omega) (hsa) (hBs)) dX8_drop_18 rfl rfl wd_668 wd_670 ws_28 wd_1 wd_671 ne_X8 np_X8_beginAct (Nat.le_of_ble_eq_true rfl)  (by decide) (by decide) rfl (Nat.le_of_ble_eq_true rfl) rfl rfl rfl rfl (by decide) rfl (fun v1 f1 hp => ?_)
    obtain ⟨sp9_18, nb9_18, mt9_18, pl9_18, op9_18, no9_18, od9_18, wc9_18, V9_18, old9_18, cn9_18, i9_18, L9_18, ln9_18, tp9_18, rd9_18, rfl, rfl, h18_0, h18_1, h18_2, h18_3, h18_4⟩ := hp
    show G g E _ _ _ [(wMain g x tpa (a 0) da (p 0) qa rua (w 0) sa bka taped told), (wShelf g a L ln tp rd cnt era nws), (wWalk g w (ru 0) sp9_18 nb9_18 mt9_18 pl9_18 op9_18 no9_18 od9_18 (stm + 1) wc9_18), (wRules g ru kd fi se sg le de nx he ro rc re rr), (wPileH g p n sh old9_18 cn9_18), (wPool g ad (upS ss i9_18 (shs L9_18 ln9_18 tp9_18 rd9_18 cnt era (ss i9_18).nws)) n)] 21 [(0, .ref x), (1, .int (iI t))] []
    have hPr := h18_2.rg hpn.1 hpo
    refine r_aload_n 22 hE 0 dX8_drop_21 rfl rfl rfl ?_
    refine r_get 25 hE 0 0 ok8 4 dX8_drop_22 rfl wd_301 rfl rfl (by decide) rfl ?_
    refine r_iload_n 26 hE 1 dX8_drop_25 rfl rfl rfl ?_
    refine r_callV 29 hE [1] [0, 2, 3, 4, 5] [(wShelf g a L ln tp rd cnt era nws)] [(wMain g x tpa (a 0) da (p 0) qa rua (w 0) sa bka taped told), (wWalk g w (ru 0) sp9_18 nb9_18 mt9_18 pl9_18 op9_18 no9_18 od9_18 (stm + 1) wc9_18), (wRules g ru kd fi se sg le de nx he ro rc re rr), (wPileH g p n sh old9_18 cn9_18), (wPool g ad (upS ss i9_18 (shs L9_18 ln9_18 tp9_18 rd9_18 cnt era (ss i9_18).nws)) n)] 0 5 ok5 [] (c_X5_remove (by omega) (by omega) (hln) (hB)) dX8_drop_26 rfl rfl wd_940 wd_941 wd_942 wd_4 wd_943 ne_X5 np_X5_remove (Nat.le_of_ble_eq_true rfl)  (by decide) (by decide) rfl (Nat.le_of_ble_eq_true rfl) rfl rfl rfl rfl (by decide) rfl (fun v1 f1 hp => ?_)
    obtain ⟨L9_26, ln9_26, tp9_26, rd9_26, rfl, rfl, h26_0, h26_1⟩ := hp
    show G g E _ _ _ [(wShelf g a L9_26 ln9_26 tp9_26 rd9_26 (cnt - 1) era nws), (wMain g x tpa (a 0) da (p 0) qa rua (w 0) sa bka taped told), (wWalk g w (ru 0) sp9_18 nb9_18 mt9_18 pl9_18 op9_18 no9_18 od9_18 (stm + 1) wc9_18), (wRules g ru kd fi se sg le de nx he ro rc re rr), (wPileH g p n sh old9_18 cn9_18), (wPool g ad (upS ss i9_18 (shs L9_18 ln9_18 tp9_18 rd9_18 cnt era (ss i9_18).nws)) n)] 29 [(0, .ref x), (1, .int (iI t))] []
    have hT9 := hto.gone h26_0 ht
    have hS9 := hsh.gone h26_0 h26_1 ht
    refine r_aload_n 30 hE 0 dX8_drop_29 rfl rfl rfl ?_
    refine r_callV 33 hE [1, 0, 2, 3, 4, 5] [] [(wMain g x tpa (a 0) da (p 0) qa rua (w 0) sa bka taped told), (wShelf g a L9_26 ln9_26 tp9_26 rd9_26 (cnt - 1) era nws), (wWalk g w (ru 0) sp9_18 nb9_18 mt9_18 pl9_18 op9_18 no9_18 od9_18 (stm + 1) wc9_18), (wRules g ru kd fi se sg le de nx he ro rc re rr), (wPileH g p n sh old9_18 cn9_18), (wPool g ad (upS ss i9_18 (shs L9_18 ln9_18 tp9_18 rd9_18 cnt era (ss i9_18).nws)) n)] [] 0 8 ok8 [] (c_X8_endAct (hT) (h18_0) (by omega) (hT9) (by omega) (by omega) (by omega) (hsa) (by omega)) dX8_drop_30 rfl rfl wd_734 wd_736 ws_32 wd_1 wd_737 ne_X8 np_X8_endAct (Nat.le_of_ble_eq_true rfl)  (by decide) (by decide) rfl (Nat.le_of_ble_eq_true rfl) rfl rfl rfl rfl (by decide) rfl (fun v1 f1 hp => ?_)
    obtain ⟨sp9_30, nb9_30, mt9_30, pl9_30, op9_30, no9_30, od9_30, wc9_30, V9_30, i9_30, rfl, rfl, h30_0, h30_1, h30_2, h30_3⟩ := hp
    show G g E _ _ _ [(wMain g x tpa (a 0) da (p 0) qa rua (w 0) sa bka taped told), (wShelf g a L9_26 ln9_26 tp9_26 rd9_26 (cnt - 1) era nws), (wWalk g w (ru 0) sp9_30 nb9_30 mt9_30 pl9_30 op9_30 no9_30 od9_30 (stm + 1) wc9_30), (wRules g ru kd fi se sg le de nx he ro rc re rr), (wPileH g p n sh old9_18 cn9_18), (wPool g ad (upS (upS ss i9_18 (shs L9_18 ln9_18 tp9_18 rd9_18 cnt era (ss i9_18).nws)) i9_30 (shs ((upS ss i9_18 (shs L9_18 ln9_18 tp9_18 rd9_18 cnt era (ss i9_18).nws)) i9_30).L ((upS ss i9_18 (shs L9_18 ln9_18 tp9_18 rd9_18 cnt era (ss i9_18).nws)) i9_30).ln ((upS ss i9_18 (shs L9_18 ln9_18 tp9_18 rd9_18 cnt era (ss i9_18).nws)) i9_30).tp ((upS ss i9_18 (shs L9_18 ln9_18 tp9_18 rd9_18 cnt era (ss i9_18).nws)) i9_30).rd ((upS ss i9_18 (shs L9_18 ln9_18 tp9_18 rd9_18 cnt era (ss i9_18).nws)) i9_30).cnt ((upS ss i9_18 (shs L9_18 ln9_18 tp9_18 rd9_18 cnt era (ss i9_18).nws)) i9_30).era (wc9_30 - wc9_18))) n)] 33 [(0, .ref x), (1, .int (iI t))] []
    refine r_aload_n 34 hE 0 dX8_drop_33 rfl rfl rfl ?_
    refine r_aload_n 35 hE 0 dX8_drop_34 rfl rfl rfl ?_
    refine r_get 38 hE 0 0 ok8 4 dX8_drop_35 rfl wd_301 rfl rfl (by decide) rfl ?_
    refine r_get 41 hE 1 0 ok5 4 dX8_drop_38 rfl wd_84 rfl rfl (by decide) rfl ?_
    refine r_callV 44 hE [0] [1, 2, 3, 4, 5] [(wMain g x tpa (a 0) da (p 0) qa rua (w 0) sa bka taped told)] [(wShelf g a L9_26 ln9_26 tp9_26 rd9_26 (cnt - 1) era nws), (wWalk g w (ru 0) sp9_30 nb9_30 mt9_30 pl9_30 op9_30 no9_30 od9_30 (stm + 1) wc9_30), (wRules g ru kd fi se sg le de nx he ro rc re rr), (wPileH g p n sh old9_18 cn9_18), (wPool g ad (upS (upS ss i9_18 (shs L9_18 ln9_18 tp9_18 rd9_18 cnt era (ss i9_18).nws)) i9_30 (shs ((upS ss i9_18 (shs L9_18 ln9_18 tp9_18 rd9_18 cnt era (ss i9_18).nws)) i9_30).L ((upS ss i9_18 (shs L9_18 ln9_18 tp9_18 rd9_18 cnt era (ss i9_18).nws)) i9_30).ln ((upS ss i9_18 (shs L9_18 ln9_18 tp9_18 rd9_18 cnt era (ss i9_18).nws)) i9_30).tp ((upS ss i9_18 (shs L9_18 ln9_18 tp9_18 rd9_18 cnt era (ss i9_18).nws)) i9_30).rd ((upS ss i9_18 (shs L9_18 ln9_18 tp9_18 rd9_18 cnt era (ss i9_18).nws)) i9_30).cnt ((upS ss i9_18 (shs L9_18 ln9_18 tp9_18 rd9_18 cnt era (ss i9_18).nws)) i9_30).era (wc9_30 - wc9_18))) n)] 0 8 ok8 [] (c_X8_answer) dX8_drop_41 rfl rfl wd_739 wd_741 ws_33 wd_1 wd_742 ne_X8 np_X8_answer (Nat.le_of_ble_eq_true rfl)  (by decide) (by decide) rfl (Nat.le_of_ble_eq_true rfl) rfl rfl rfl rfl (by decide) rfl (fun v1 f1 hp => ?_)
    obtain ⟨rfl, rfl⟩ := hp
    show G g E _ _ _ [(wMain g x tpa (a 0) da (p 0) qa rua (w 0) sa bka taped 0), (wShelf g a L9_26 ln9_26 tp9_26 rd9_26 (cnt - 1) era nws), (wWalk g w (ru 0) sp9_30 nb9_30 mt9_30 pl9_30 op9_30 no9_30 od9_30 (stm + 1) wc9_30), (wRules g ru kd fi se sg le de nx he ro rc re rr), (wPileH g p n sh old9_18 cn9_18), (wPool g ad (upS (upS ss i9_18 (shs L9_18 ln9_18 tp9_18 rd9_18 cnt era (ss i9_18).nws)) i9_30 (shs ((upS ss i9_18 (shs L9_18 ln9_18 tp9_18 rd9_18 cnt era (ss i9_18).nws)) i9_30).L ((upS ss i9_18 (shs L9_18 ln9_18 tp9_18 rd9_18 cnt era (ss i9_18).nws)) i9_30).ln ((upS ss i9_18 (shs L9_18 ln9_18 tp9_18 rd9_18 cnt era (ss i9_18).nws)) i9_30).tp ((upS ss i9_18 (shs L9_18 ln9_18 tp9_18 rd9_18 cnt era (ss i9_18).nws)) i9_30).rd ((upS ss i9_18 (shs L9_18 ln9_18 tp9_18 rd9_18 cnt era (ss i9_18).nws)) i9_30).cnt ((upS ss i9_18 (shs L9_18 ln9_18 tp9_18 rd9_18 cnt era (ss i9_18).nws)) i9_30).era (wc9_30 - wc9_18))) n)] 44 [(0, .ref x), (1, .int (iI t))] [.int (iI (cnt - 1))]
    refine r_ireturn hE hR [(wMain g x tpa (a 0) da (p 0) qa rua (w 0) sa bka taped 0), (wShelf g a L9_26 ln9_26 tp9_26 rd9_26 (cnt - 1) era nws), (wWalk g w (ru 0) sp9_30 nb9_30 mt9_30 pl9_30 op9_30 no9_30 od9_30 (stm + 1) wc9_30), (wRules g ru kd fi se sg le de nx he ro rc re rr), (wPileH g p n sh old9_18 cn9_18), (wPool g ad (upS (upS ss i9_18 (shs L9_18 ln9_18 tp9_18 rd9_18 cnt era (ss i9_18).nws)) i9_30 (shs ((upS ss i9_18 (shs L9_18 ln9_18 tp9_18 rd9_18 cnt era (ss i9_18).nws)) i9_30).L ((upS ss i9_18 (shs L9_18 ln9_18 tp9_18 rd9_18 cnt era (ss i9_18).nws)) i9_30).ln ((upS ss i9_18 (shs L9_18 ln9_18 tp9_18 rd9_18 cnt era (ss i9_18).nws)) i9_30).tp ((upS ss i9_18 (shs L9_18 ln9_18 tp9_18 rd9_18 cnt era (ss i9_18).nws)) i9_30).rd ((upS ss i9_18 (shs L9_18 ln9_18 tp9_18 rd9_18 cnt era (ss i9_18).nws)) i9_30).cnt ((upS ss i9_18 (shs L9_18 ln9_18 tp9_18 rd9_18 cnt era (ss i9_18).nws)) i9_30).era (wc9_30 - wc9_18))) n)] dX8_drop_44 (Nat.le_of_ble_eq_true rfl) (Nat.le_of_ble_eq_true rfl) rfl ?_
    have hi : i9_30 = i9_18 := by have h7 := h18_2.2.1; omega
    subst hi
    have hn9 : NewsIs L ln cnt L9_26 ln9_26 (cnt - 1) (wc9_30 - wc9_18) := by
      refine ⟨fun j => R (tp j), fun j => R (tp9_26 j), fun j a b => ⟨_, (hto j a b).2⟩, fun j a b => ⟨_, (hT9 j a b).2⟩, ?_⟩
      rw [← h18_1, ← h30_1, h30_0.1, h18_0.1]
    refine ⟨sp9_30, nb9_30, mt9_30, pl9_30, op9_30, no9_30, od9_30, wc9_30, old9_18, cn9_18, i9_30, L9_18, ln9_18, tp9_18, rd9_18, wc9_30 - wc9_18, L9_26, ln9_26, tp9_26, rd9_26, rfl, ?_, h30_0.2.1, h18_2, ?_, ?_, hT9, hS9, hn9.F, TextGone.of h26_0⟩
    · rw [upS_upS, upS_same]; rfl
    · intro j a b
      obtain ⟨z1, -, -, z4⟩ := h18_3 j a b
      exact ⟨z1, z4⟩
    · exact ⟨hsh.copy h18_3 h18_4, ⟨by show -1 ≤ era; omega, by show era ≤ re; omega⟩, fun _ => hto.copy h18_3⟩
  · skip
    have c8 := bI0 c8
    omega
set_option maxHeartbeats 4000000 in
set_option maxRecDepth 100000 in
theorem c_X8_drop_no {g : Gm} {a : Nat → Nat} {L ln tp rd : Int → Int} {cnt era nws : Int} {x tpa da pa qa rua wa sa bka : Nat} {taped told : Int} {t : Int} (hsh : ShOk L ln cnt) (ht : -2147483648 ≤ t ∧ t ≤ 2147483647) (hno : ¬ (0 ≤ t ∧ t < cnt)) : Ct g 5 0 0 yX8_drop cX8_drop 2 (some .int) [.ref x, .int (iI t)] [(wMain g x tpa (a 0) da pa qa rua wa sa bka taped told), (wShelf g a L ln tp rd cnt era nws)] (fun v_ w_ => v_ = some (.int (iI (-1))) ∧ w_ = [(wMain g x tpa (a 0) da pa qa rua wa sa bka taped 2), (wShelf g a L ln tp rd cnt era nws)]) := by
  refine Ct.of (by decide) (Nat.le_of_ble_eq_true rfl) (lv := [(0, .ref x), (1, .int (iI t))]) rfl ?_
  intro E hE hR hnm
  have hc := hsh.1
  have hln := hsh.ln
  have hB := hsh.2.1
  refine r_aload_n 1 hE 0 dX8_drop_0 rfl rfl rfl ?_
  refine r_get 4 hE 0 0 ok8 4 dX8_drop_1 rfl wd_301 rfl rfl (by decide) rfl ?_
  refine r_iload_n 5 hE 1 dX8_drop_4 rfl rfl rfl ?_
  refine r_callV 8 hE [1] [0] [(wShelf g a L ln tp rd cnt era nws)] [(wMain g x tpa (a 0) da pa qa rua wa sa bka taped told)] 0 5 ok5 [] (c_X5_has (by omega) (by omega)) dX8_drop_5 rfl rfl wd_764 wd_578 wd_579 wd_4 wd_580 ne_X5 np_X5_has (Nat.le_of_ble_eq_true rfl)  (by decide) (by decide) rfl (Nat.le_of_ble_eq_true rfl) rfl rfl rfl rfl (by decide) rfl (fun v1 f1 hp => ?_)
  obtain ⟨rfl, rfl⟩ := hp
  show G g E _ _ _ [(wShelf g a L ln tp rd cnt era nws), (wMain g x tpa (a 0) da pa qa rua wa sa bka taped told)] 8 [(0, .ref x), (1, .int (iI t))] [.int (iI (bI (0 ≤ t ∧ t < cnt)))]
  refine r_if_ne 11 17 hE dX8_drop_8 rfl (by decide) (bI_rg _) (fun c8 => ?_) (fun c8 => ?_)
  · skip
    have c8 := bI1 c8
    exact absurd c8 hno
  · skip
    have c8 := bI0 c8
    refine r_aload_n 12 hE 0 dX8_drop_11 rfl rfl rfl ?_
    refine r_iconst 13 hE dX8_drop_12 rfl ?_
    refine r_callV 16 hE [1] [0] [(wMain g x tpa (a 0) da pa qa rua wa sa bka taped told)] [(wShelf g a L ln tp rd cnt era nws)] 0 8 ok8 [] (c_X8_refuse) dX8_drop_13 rfl rfl wd_347 wd_349 ws_1 wd_1 wd_350 ne_X8 np_X8_refuse (Nat.le_of_ble_eq_true rfl)  (by decide) (by decide) rfl (Nat.le_of_ble_eq_true rfl) rfl rfl rfl rfl (by decide) rfl (fun v1 f1 hp => ?_)
    obtain ⟨rfl, rfl⟩ := hp
    show G g E _ _ _ [(wMain g x tpa (a 0) da pa qa rua wa sa bka taped 2), (wShelf g a L ln tp rd cnt era nws)] 16 [(0, .ref x), (1, .int (iI t))] [.int (iI (-1))]
    refine r_ireturn hE hR [(wMain g x tpa (a 0) da pa qa rua wa sa bka taped 2), (wShelf g a L ln tp rd cnt era nws)] dX8_drop_16 (Nat.le_of_ble_eq_true rfl) (Nat.le_of_ble_eq_true rfl) rfl ?_
    exact ⟨retI (rfl), rfl⟩
set_option maxHeartbeats 4000000 in
set_option maxRecDepth 100000 in
theorem c_X8_undo {g : Gm} {a : Nat → Nat} {L ln tp rd : Int → Int} {cnt era nws : Int} {ru : Nat → Nat} {kd fi se sg le de nx he ro : Int → Int} {rc re rr : Int} {R : Int → Rl} {p : Nat → Nat} {n : Nat} {sh : Nat → Option Nat} {old cn : Int} {ad : Nat → Nat → Nat} {ss : Nat → ShS} {x tpa da qa wa sa bka : Nat} {taped told : Int} (hT : RT kd fi se sg le de nx he rc R) (hB : BR L) (hpn : 1 ≤ (n : Int) ∧ (n : Int) ≤ 8) (hpo : 0 ≤ old ∧ old < (n : Int) ∧ 0 ≤ cn ∧ cn ≤ (n : Int)) (hsa : ∀ i, i < n → sh i = some ((ad i) 0)) (hc1 : 1 ≤ cn) (hre : 0 ≤ re ∧ re ≤ 900000) (hk : ∀ i : Nat, (i : Int) = (old + cn - 1) % (n : Int) → KeptOk R rc re (ss i)) : Ct g 6 0 0 yX8_undo cX8_undo 1 (some .int) [.ref x] [(wMain g x tpa (a 0) da (p 0) qa (ru 0) wa sa bka taped told), (wShelf g a L ln tp rd cnt era nws), (wRules g ru kd fi se sg le de nx he ro rc re rr), (wPileH g p n sh old cn), (wPool g ad ss n)] (fun v_ w_ => ∃ kd9 : Int → Int, ∃ fi9 : Int → Int, ∃ se9 : Int → Int, ∃ sg9 : Int → Int, ∃ le9 : Int → Int, ∃ de9 : Int → Int, ∃ nx9 : Int → Int, ∃ he9 : Int → Int, ∃ rc9 : Int, ∃ R9 : Int → Rl, ∃ ro9 : Int → Int, ∃ re9 : Int, ∃ rr9 : Int, ∃ tp9 : Int → Int, ∃ rd9 : Int → Int, ∃ L9 : Int → Int, ∃ ln9 : Int → Int, ∃ i9 : Nat, v_ = some (.int (iI (cn - 1))) ∧ w_ = [(wMain g x tpa (a 0) da (p 0) qa (ru 0) wa sa bka taped 0), (wShelf g a L9 ln9 tp9 rd9 ((ss i9).cnt) re9 nws), (wRules g ru kd9 fi9 se9 sg9 le9 de9 nx9 he9 ro9 rc9 re9 rr9), (wPileH g p n sh old (cn - 1)), (wPool g ad ss n)] ∧ (RT kd9 fi9 se9 sg9 le9 de9 nx9 he9 rc9 R9) ∧ (TopsOk R9 rc9 L9 ln9 tp9 rd9 (ss i9).cnt) ∧ ((re9 = re ∧ rc ≤ rc9 ∧ (∀ i, 0 ≤ i → i < rc → R9 i = R i)) ∨ re9 = re + 1) ∧ ((i9 : Int) = (old + cn - 1) % (n : Int)) ∧ (i9 < n) ∧ (ShOk L9 ln9 (ss i9).cnt) ∧ (∀ t, 0 ≤ t → t < (ss i9).cnt → ln9 t = (ss i9).ln t ∧ ∀ k, 0 ≤ k → k < (ss i9).ln t → L9 (600 * t + k) = (ss i9).L (600 * t + k))) := by
  refine Ct.of (by decide) (Nat.le_of_ble_eq_true rfl) (lv := [(0, .ref x)]) rfl ?_
  intro E hE hR hnm
  refine r_aload_n 1 hE 0 dX8_undo_0 rfl rfl rfl ?_
  refine r_aload_n 2 hE 0 dX8_undo_1 rfl rfl rfl ?_
  refine r_get 5 hE 0 0 ok8 6 dX8_undo_2 rfl wd_303 rfl rfl (by decide) rfl ?_
  refine r_callV 8 hE [0, 1, 2, 3, 4] [] [(wMain g x tpa (a 0) da (p 0) qa (ru 0) wa sa bka taped told), (wShelf g a L ln tp rd cnt era nws), (wRules g ru kd fi se sg le de nx he ro rc re rr), (wPileH g p n sh old cn), (wPool g ad ss n)] [] 0 8 ok8 [] (c_X8_restoreFrom (hT) (hB) (by omega) (by omega) (hsa) (by omega) (by omega) (hk)) dX8_undo_5 rfl rfl wd_948 wd_950 ws_44 wd_1 wd_951 ne_X8 np_X8_restoreFrom (Nat.le_of_ble_eq_true rfl)  (by decide) (by decide) rfl (Nat.le_of_ble_eq_true rfl) rfl rfl rfl rfl (by decide) rfl (fun v1 f1 hp => ?_)
  obtain ⟨kd9_5, fi9_5, se9_5, sg9_5, le9_5, de9_5, nx9_5, he9_5, rc9_5, R9_5, ro9_5, re9_5, rr9_5, tp9_5, rd9_5, L9_5, ln9_5, i9_5, rfl, rfl, h5_0, h5_1, h5_2, h5_3, h5_4, h5_5, h5_6⟩ := hp
  show G g E _ _ _ [(wMain g x tpa (a 0) da (p 0) qa (ru 0) wa sa bka taped 0), (wShelf g a L9_5 ln9_5 tp9_5 rd9_5 ((ss i9_5).cnt) re9_5 nws), (wRules g ru kd9_5 fi9_5 se9_5 sg9_5 le9_5 de9_5 nx9_5 he9_5 ro9_5 rc9_5 re9_5 rr9_5), (wPileH g p n sh old (cn - 1)), (wPool g ad ss n)] 8 [(0, .ref x)] [.int (iI (cn - 1))]
  refine r_ireturn hE hR [(wMain g x tpa (a 0) da (p 0) qa (ru 0) wa sa bka taped 0), (wShelf g a L9_5 ln9_5 tp9_5 rd9_5 ((ss i9_5).cnt) re9_5 nws), (wRules g ru kd9_5 fi9_5 se9_5 sg9_5 le9_5 de9_5 nx9_5 he9_5 ro9_5 rc9_5 re9_5 rr9_5), (wPileH g p n sh old (cn - 1)), (wPool g ad ss n)] dX8_undo_8 (Nat.le_of_ble_eq_true rfl) (Nat.le_of_ble_eq_true rfl) rfl ?_
  exact ⟨kd9_5, fi9_5, se9_5, sg9_5, le9_5, de9_5, nx9_5, he9_5, rc9_5, R9_5, ro9_5, re9_5, rr9_5, tp9_5, rd9_5, L9_5, ln9_5, i9_5, rfl, rfl, h5_0, h5_1, h5_2, h5_3, h5_4, h5_5, h5_6⟩
set_option maxHeartbeats 4000000 in
set_option maxRecDepth 100000 in
theorem c_X8_undo_no {g : Gm} {x tpa na da qa rua wa sa bka : Nat} {taped told : Int} {p : Nat → Nat} {n : Nat} {sh : Nat → Option Nat} {old cn : Int} (hpn : 1 ≤ (n : Int) ∧ (n : Int) ≤ 8) (hc0 : cn = 0) : Ct g 6 0 0 yX8_undo cX8_undo 1 (some .int) [.ref x] [(wMain g x tpa na da (p 0) qa rua wa sa bka taped told), (wPileH g p n sh old cn)] (fun v_ w_ => v_ = some (.int (iI (-1))) ∧ w_ = [(wMain g x tpa na da (p 0) qa rua wa sa bka taped 5), (wPileH g p n sh old cn)]) := by
  refine Ct.of (by decide) (Nat.le_of_ble_eq_true rfl) (lv := [(0, .ref x)]) rfl ?_
  intro E hE hR hnm
  refine r_aload_n 1 hE 0 dX8_undo_0 rfl rfl rfl ?_
  refine r_aload_n 2 hE 0 dX8_undo_1 rfl rfl rfl ?_
  refine r_get 5 hE 0 0 ok8 6 dX8_undo_2 rfl wd_303 rfl rfl (by decide) rfl ?_
  refine r_callV 8 hE [0, 1] [] [(wMain g x tpa na da (p 0) qa rua wa sa bka taped told), (wPileH g p n sh old cn)] [] 0 8 ok8 [] (c_X8_restoreFrom_no (by omega) (by omega)) dX8_undo_5 rfl rfl wd_948 wd_950 ws_44 wd_1 wd_951 ne_X8 np_X8_restoreFrom (Nat.le_of_ble_eq_true rfl)  (by decide) (by decide) rfl (Nat.le_of_ble_eq_true rfl) rfl rfl rfl rfl (by decide) rfl (fun v1 f1 hp => ?_)
  obtain ⟨rfl, rfl⟩ := hp
  show G g E _ _ _ [(wMain g x tpa na da (p 0) qa rua wa sa bka taped 5), (wPileH g p n sh old cn)] 8 [(0, .ref x)] [.int (iI (-1))]
  refine r_ireturn hE hR [(wMain g x tpa na da (p 0) qa rua wa sa bka taped 5), (wPileH g p n sh old cn)] dX8_undo_8 (Nat.le_of_ble_eq_true rfl) (Nat.le_of_ble_eq_true rfl) rfl ?_
  exact ⟨retI (rfl), rfl⟩
set_option maxHeartbeats 4000000 in
set_option maxRecDepth 100000 in
theorem c_X8_back {g : Gm} {a : Nat → Nat} {L ln tp rd : Int → Int} {cnt era nws : Int} {ru : Nat → Nat} {kd fi se sg le de nx he ro : Int → Int} {rc re rr : Int} {R : Int → Rl} {p : Nat → Nat} {n : Nat} {sh : Nat → Option Nat} {old cn : Int} {ad : Nat → Nat → Nat} {ss : Nat → ShS} {x tpa da pa wa sa bka : Nat} {taped told : Int} (hT : RT kd fi se sg le de nx he rc R) (hB : BR L) (hpn : 1 ≤ (n : Int) ∧ (n : Int) ≤ 8) (hpo : 0 ≤ old ∧ old < (n : Int) ∧ 0 ≤ cn ∧ cn ≤ (n : Int)) (hsa : ∀ i, i < n → sh i = some ((ad i) 0)) (hc1 : 1 ≤ cn) (hre : 0 ≤ re ∧ re ≤ 900000) (hk : ∀ i : Nat, (i : Int) = (old + cn - 1) % (n : Int) → KeptOk R rc re (ss i)) : Ct g 6 0 0 yX8_back cX8_back 1 (some .int) [.ref x] [(wMain g x tpa (a 0) da pa (p 0) (ru 0) wa sa bka taped told), (wShelf g a L ln tp rd cnt era nws), (wRules g ru kd fi se sg le de nx he ro rc re rr), (wPileH g p n sh old cn), (wPool g ad ss n)] (fun v_ w_ => ∃ kd9 : Int → Int, ∃ fi9 : Int → Int, ∃ se9 : Int → Int, ∃ sg9 : Int → Int, ∃ le9 : Int → Int, ∃ de9 : Int → Int, ∃ nx9 : Int → Int, ∃ he9 : Int → Int, ∃ rc9 : Int, ∃ R9 : Int → Rl, ∃ ro9 : Int → Int, ∃ re9 : Int, ∃ rr9 : Int, ∃ tp9 : Int → Int, ∃ rd9 : Int → Int, ∃ L9 : Int → Int, ∃ ln9 : Int → Int, ∃ i9 : Nat, v_ = some (.int (iI (cn - 1))) ∧ w_ = [(wMain g x tpa (a 0) da pa (p 0) (ru 0) wa sa bka taped 0), (wShelf g a L9 ln9 tp9 rd9 ((ss i9).cnt) re9 nws), (wRules g ru kd9 fi9 se9 sg9 le9 de9 nx9 he9 ro9 rc9 re9 rr9), (wPileH g p n sh old (cn - 1)), (wPool g ad ss n)] ∧ (RT kd9 fi9 se9 sg9 le9 de9 nx9 he9 rc9 R9) ∧ (TopsOk R9 rc9 L9 ln9 tp9 rd9 (ss i9).cnt) ∧ ((re9 = re ∧ rc ≤ rc9 ∧ (∀ i, 0 ≤ i → i < rc → R9 i = R i)) ∨ re9 = re + 1) ∧ ((i9 : Int) = (old + cn - 1) % (n : Int)) ∧ (i9 < n) ∧ (ShOk L9 ln9 (ss i9).cnt) ∧ (∀ t, 0 ≤ t → t < (ss i9).cnt → ln9 t = (ss i9).ln t ∧ ∀ k, 0 ≤ k → k < (ss i9).ln t → L9 (600 * t + k) = (ss i9).L (600 * t + k))) := by
  refine Ct.of (by decide) (Nat.le_of_ble_eq_true rfl) (lv := [(0, .ref x)]) rfl ?_
  intro E hE hR hnm
  refine r_aload_n 1 hE 0 dX8_back_0 rfl rfl rfl ?_
  refine r_aload_n 2 hE 0 dX8_back_1 rfl rfl rfl ?_
  refine r_get 5 hE 0 0 ok8 7 dX8_back_2 rfl wd_304 rfl rfl (by decide) rfl ?_
  refine r_callV 8 hE [0, 1, 2, 3, 4] [] [(wMain g x tpa (a 0) da pa (p 0) (ru 0) wa sa bka taped told), (wShelf g a L ln tp rd cnt era nws), (wRules g ru kd fi se sg le de nx he ro rc re rr), (wPileH g p n sh old cn), (wPool g ad ss n)] [] 0 8 ok8 [] (c_X8_restoreFrom (hT) (hB) (by omega) (by omega) (hsa) (by omega) (by omega) (hk)) dX8_back_5 rfl rfl wd_948 wd_950 ws_44 wd_1 wd_951 ne_X8 np_X8_restoreFrom (Nat.le_of_ble_eq_true rfl)  (by decide) (by decide) rfl (Nat.le_of_ble_eq_true rfl) rfl rfl rfl rfl (by decide) rfl (fun v1 f1 hp => ?_)
  obtain ⟨kd9_5, fi9_5, se9_5, sg9_5, le9_5, de9_5, nx9_5, he9_5, rc9_5, R9_5, ro9_5, re9_5, rr9_5, tp9_5, rd9_5, L9_5, ln9_5, i9_5, rfl, rfl, h5_0, h5_1, h5_2, h5_3, h5_4, h5_5, h5_6⟩ := hp
  show G g E _ _ _ [(wMain g x tpa (a 0) da pa (p 0) (ru 0) wa sa bka taped 0), (wShelf g a L9_5 ln9_5 tp9_5 rd9_5 ((ss i9_5).cnt) re9_5 nws), (wRules g ru kd9_5 fi9_5 se9_5 sg9_5 le9_5 de9_5 nx9_5 he9_5 ro9_5 rc9_5 re9_5 rr9_5), (wPileH g p n sh old (cn - 1)), (wPool g ad ss n)] 8 [(0, .ref x)] [.int (iI (cn - 1))]
  refine r_ireturn hE hR [(wMain g x tpa (a 0) da pa (p 0) (ru 0) wa sa bka taped 0), (wShelf g a L9_5 ln9_5 tp9_5 rd9_5 ((ss i9_5).cnt) re9_5 nws), (wRules g ru kd9_5 fi9_5 se9_5 sg9_5 le9_5 de9_5 nx9_5 he9_5 ro9_5 rc9_5 re9_5 rr9_5), (wPileH g p n sh old (cn - 1)), (wPool g ad ss n)] dX8_back_8 (Nat.le_of_ble_eq_true rfl) (Nat.le_of_ble_eq_true rfl) rfl ?_
  exact ⟨kd9_5, fi9_5, se9_5, sg9_5, le9_5, de9_5, nx9_5, he9_5, rc9_5, R9_5, ro9_5, re9_5, rr9_5, tp9_5, rd9_5, L9_5, ln9_5, i9_5, rfl, rfl, h5_0, h5_1, h5_2, h5_3, h5_4, h5_5, h5_6⟩
set_option maxHeartbeats 4000000 in
set_option maxRecDepth 100000 in
theorem c_X8_back_no {g : Gm} {x tpa na da pa rua wa sa bka : Nat} {taped told : Int} {p : Nat → Nat} {n : Nat} {sh : Nat → Option Nat} {old cn : Int} (hpn : 1 ≤ (n : Int) ∧ (n : Int) ≤ 8) (hc0 : cn = 0) : Ct g 6 0 0 yX8_back cX8_back 1 (some .int) [.ref x] [(wMain g x tpa na da pa (p 0) rua wa sa bka taped told), (wPileH g p n sh old cn)] (fun v_ w_ => v_ = some (.int (iI (-1))) ∧ w_ = [(wMain g x tpa na da pa (p 0) rua wa sa bka taped 5), (wPileH g p n sh old cn)]) := by
  refine Ct.of (by decide) (Nat.le_of_ble_eq_true rfl) (lv := [(0, .ref x)]) rfl ?_
  intro E hE hR hnm
  refine r_aload_n 1 hE 0 dX8_back_0 rfl rfl rfl ?_
  refine r_aload_n 2 hE 0 dX8_back_1 rfl rfl rfl ?_
  refine r_get 5 hE 0 0 ok8 7 dX8_back_2 rfl wd_304 rfl rfl (by decide) rfl ?_
  refine r_callV 8 hE [0, 1] [] [(wMain g x tpa na da pa (p 0) rua wa sa bka taped told), (wPileH g p n sh old cn)] [] 0 8 ok8 [] (c_X8_restoreFrom_no (by omega) (by omega)) dX8_back_5 rfl rfl wd_948 wd_950 ws_44 wd_1 wd_951 ne_X8 np_X8_restoreFrom (Nat.le_of_ble_eq_true rfl)  (by decide) (by decide) rfl (Nat.le_of_ble_eq_true rfl) rfl rfl rfl rfl (by decide) rfl (fun v1 f1 hp => ?_)
  obtain ⟨rfl, rfl⟩ := hp
  show G g E _ _ _ [(wMain g x tpa na da pa (p 0) rua wa sa bka taped 5), (wPileH g p n sh old cn)] 8 [(0, .ref x)] [.int (iI (-1))]
  refine r_ireturn hE hR [(wMain g x tpa na da pa (p 0) rua wa sa bka taped 5), (wPileH g p n sh old cn)] dX8_back_8 (Nat.le_of_ble_eq_true rfl) (Nat.le_of_ble_eq_true rfl) rfl ?_
  exact ⟨retI (rfl), rfl⟩
set_option maxHeartbeats 4000000 in
set_option maxRecDepth 100000 in
theorem c_X8_mark {g : Gm} {a : Nat → Nat} {L ln tp rd : Int → Int} {cnt era nws : Int} {p : Nat → Nat} {n : Nat} {sh : Nat → Option Nat} {old cn : Int} {ad : Nat → Nat → Nat} {ss : Nat → ShS} {x tpa da pa rua wa sa bka : Nat} {taped told : Int} (hsh : ShOk L ln cnt) (hpn : 1 ≤ (n : Int) ∧ (n : Int) ≤ 8) (hpo : 0 ≤ old ∧ old < (n : Int) ∧ 0 ≤ cn ∧ cn ≤ (n : Int)) (hfr : cn < (n : Int)) (hsa : ∀ i, i < n → sh i = some ((ad i) 0)) (hBs : ∀ i, i < n → BR (ss i).L) : Ct g 4 0 0 yX8_mark cX8_mark 1 (some .int) [.ref x] [(wMain g x tpa (a 0) da pa (p 0) rua wa sa bka taped told), (wShelf g a L ln tp rd cnt era nws), (wPileH g p n sh old cn), (wPool g ad ss n)] (fun v_ w_ => ∃ i9 : Nat, ∃ L9 : Int → Int, ∃ ln9 : Int → Int, ∃ tp9 : Int → Int, ∃ rd9 : Int → Int, v_ = some (.int (iI (cn + 1))) ∧ w_ = [(wMain g x tpa (a 0) da pa (p 0) rua wa sa bka taped 0), (wShelf g a L ln tp rd cnt era nws), (wPileH g p n sh old (cn + 1)), (wPool g ad (upS ss i9 (shs L9 ln9 tp9 rd9 cnt era (ss i9).nws)) n)] ∧ ((i9 : Int) = (old + cn) % (n : Int)) ∧ (i9 < n) ∧ (CopyTo cnt L ln tp rd L9 ln9 tp9 rd9) ∧ (BR L9)) := by
  refine Ct.of (by decide) (Nat.le_of_ble_eq_true rfl) (lv := [(0, .ref x)]) rfl ?_
  intro E hE hR hnm
  have hc := hsh.1
  have hln := hsh.ln
  have hB := hsh.2.1
  refine r_aload_n 1 hE 0 dX8_mark_0 rfl rfl rfl ?_
  refine r_get 4 hE 0 0 ok8 7 dX8_mark_1 rfl wd_304 rfl rfl (by decide) rfl ?_
  refine r_callV 7 hE [2] [0, 1, 3] [(wPileH g p n sh old cn)] [(wMain g x tpa (a 0) da pa (p 0) rua wa sa bka taped told), (wShelf g a L ln tp rd cnt era nws), (wPool g ad ss n)] 0 1 ok1 [] (c_X1_isFull (by omega) (by omega)) dX8_mark_4 rfl rfl wd_960 wd_718 wd_719 wd_7 wd_720 ne_X1 np_X1_isFull (Nat.le_of_ble_eq_true rfl)  (by decide) (by decide) rfl (Nat.le_of_ble_eq_true rfl) rfl rfl rfl rfl (by decide) rfl (fun v1 f1 hp => ?_)
  obtain ⟨rfl, rfl⟩ := hp
  show G g E _ _ _ [(wPileH g p n sh old cn), (wMain g x tpa (a 0) da pa (p 0) rua wa sa bka taped told), (wShelf g a L ln tp rd cnt era nws), (wPool g ad ss n)] 7 [(0, .ref x)] [.int (iI (bI ((n : Int) ≤ cn)))]
  refine r_if_eq 10 16 hE dX8_mark_7 rfl (by decide) (bI_rg _) (fun c7 => ?_) (fun c7 => ?_)
  · skip
    have c7 := bI0 c7
    refine r_aload_n 17 hE 0 dX8_mark_16 rfl rfl rfl ?_
    refine r_get 20 hE 1 0 ok8 7 dX8_mark_17 rfl wd_304 rfl rfl (by decide) rfl ?_
    refine r_aload_n 21 hE 0 dX8_mark_20 rfl rfl rfl ?_
    refine r_get 24 hE 1 0 ok8 4 dX8_mark_21 rfl wd_301 rfl rfl (by decide) rfl ?_
    refine r_callV 27 hE [0, 3, 2] [1] [(wPileH g p n sh old cn), (wPool g ad ss n), (wShelf g a L ln tp rd cnt era nws)] [(wMain g x tpa (a 0) da pa (p 0) rua wa sa bka taped told)] 0 1 ok1 [] (c_X1_push (by omega) (by omega) (hsa) (hBs) (by omega) (hln) (hB)) dX8_mark_24 rfl rfl wd_713 wd_714 wd_715 wd_7 wd_716 ne_X1 np_X1_push (Nat.le_of_ble_eq_true rfl)  (by decide) (by decide) rfl (Nat.le_of_ble_eq_true rfl) rfl rfl rfl rfl (by decide) rfl (fun v1 f1 hp => ?_)
    obtain ⟨old9_24, cn9_24, i9_24, L9_24, ln9_24, tp9_24, rd9_24, rfl, rfl, h24_0, h24_1, h24_2, h24_3, h24_4⟩ := hp
    show G g E _ _ _ [(wPileH g p n sh old9_24 cn9_24), (wPool g ad (upS ss i9_24 (shs L9_24 ln9_24 tp9_24 rd9_24 cnt era (ss i9_24).nws)) n), (wShelf g a L ln tp rd cnt era nws), (wMain g x tpa (a 0) da pa (p 0) rua wa sa bka taped told)] 27 [(0, .ref x)] []
    refine r_aload_n 28 hE 0 dX8_mark_27 rfl rfl rfl ?_
    refine r_aload_n 29 hE 0 dX8_mark_28 rfl rfl rfl ?_
    refine r_get 32 hE 3 0 ok8 7 dX8_mark_29 rfl wd_304 rfl rfl (by decide) rfl ?_
    refine r_get 35 hE 0 0 ok1 2 dX8_mark_32 rfl wd_186 rfl rfl (by decide) rfl ?_
    refine r_callV 38 hE [3] [0, 1, 2] [(wMain g x tpa (a 0) da pa (p 0) rua wa sa bka taped told)] [(wPileH g p n sh old9_24 cn9_24), (wPool g ad (upS ss i9_24 (shs L9_24 ln9_24 tp9_24 rd9_24 cnt era (ss i9_24).nws)) n), (wShelf g a L ln tp rd cnt era nws)] 0 8 ok8 [] (c_X8_answer) dX8_mark_35 rfl rfl wd_739 wd_741 ws_33 wd_1 wd_742 ne_X8 np_X8_answer (Nat.le_of_ble_eq_true rfl)  (by decide) (by decide) rfl (Nat.le_of_ble_eq_true rfl) rfl rfl rfl rfl (by decide) rfl (fun v1 f1 hp => ?_)
    obtain ⟨rfl, rfl⟩ := hp
    show G g E _ _ _ [(wMain g x tpa (a 0) da pa (p 0) rua wa sa bka taped 0), (wPileH g p n sh old9_24 cn9_24), (wPool g ad (upS ss i9_24 (shs L9_24 ln9_24 tp9_24 rd9_24 cnt era (ss i9_24).nws)) n), (wShelf g a L ln tp rd cnt era nws)] 38 [(0, .ref x)] [.int (iI cn9_24)]
    refine G.to (fs' := [(wMain g x tpa (a 0) da pa (p 0) rua wa sa bka taped 0), (wShelf g a L ln tp rd cnt era nws), (wPileH g p n sh old9_24 cn9_24), (wPool g ad (upS ss i9_24 (shs L9_24 ln9_24 tp9_24 rd9_24 cnt era (ss i9_24).nws)) n)]) [0, 3, 1, 2] [0] rfl rfl rfl ?_
    refine r_ireturn hE hR [(wMain g x tpa (a 0) da pa (p 0) rua wa sa bka taped 0), (wShelf g a L ln tp rd cnt era nws), (wPileH g p n sh old9_24 cn9_24), (wPool g ad (upS ss i9_24 (shs L9_24 ln9_24 tp9_24 rd9_24 cnt era (ss i9_24).nws)) n)] dX8_mark_38 (Nat.le_of_ble_eq_true rfl) (Nat.le_of_ble_eq_true rfl) rfl ?_
    have e1 : old9_24 = old := by omega
    have e2 : cn9_24 = cn + 1 := by omega
    subst e1
    subst e2
    exact ⟨i9_24, L9_24, ln9_24, tp9_24, rd9_24, rfl, rfl, by rw [h24_1, show old9_24 + (cn + 1) - 1 = old9_24 + cn by omega], h24_2, h24_3, h24_4⟩
  · skip
    have c7 := bI1 c7
    omega
set_option maxHeartbeats 4000000 in
set_option maxRecDepth 100000 in
theorem c_X8_mark_no {g : Gm} {x tpa na da pa rua wa sa bka : Nat} {taped told : Int} {p : Nat → Nat} {n : Nat} {sh : Nat → Option Nat} {old cn : Int} (hpn : 1 ≤ (n : Int) ∧ (n : Int) ≤ 8) (hpo : 0 ≤ old ∧ old < (n : Int) ∧ 0 ≤ cn ∧ cn ≤ (n : Int)) (hfu : (n : Int) ≤ cn) : Ct g 4 0 0 yX8_mark cX8_mark 1 (some .int) [.ref x] [(wMain g x tpa na da pa (p 0) rua wa sa bka taped told), (wPileH g p n sh old cn)] (fun v_ w_ => v_ = some (.int (iI (-1))) ∧ w_ = [(wMain g x tpa na da pa (p 0) rua wa sa bka taped 3), (wPileH g p n sh old cn)]) := by
  refine Ct.of (by decide) (Nat.le_of_ble_eq_true rfl) (lv := [(0, .ref x)]) rfl ?_
  intro E hE hR hnm
  refine r_aload_n 1 hE 0 dX8_mark_0 rfl rfl rfl ?_
  refine r_get 4 hE 0 0 ok8 7 dX8_mark_1 rfl wd_304 rfl rfl (by decide) rfl ?_
  refine r_callV 7 hE [1] [0] [(wPileH g p n sh old cn)] [(wMain g x tpa na da pa (p 0) rua wa sa bka taped told)] 0 1 ok1 [] (c_X1_isFull (by omega) (by omega)) dX8_mark_4 rfl rfl wd_960 wd_718 wd_719 wd_7 wd_720 ne_X1 np_X1_isFull (Nat.le_of_ble_eq_true rfl)  (by decide) (by decide) rfl (Nat.le_of_ble_eq_true rfl) rfl rfl rfl rfl (by decide) rfl (fun v1 f1 hp => ?_)
  obtain ⟨rfl, rfl⟩ := hp
  show G g E _ _ _ [(wPileH g p n sh old cn), (wMain g x tpa na da pa (p 0) rua wa sa bka taped told)] 7 [(0, .ref x)] [.int (iI (bI ((n : Int) ≤ cn)))]
  refine r_if_eq 10 16 hE dX8_mark_7 rfl (by decide) (bI_rg _) (fun c7 => ?_) (fun c7 => ?_)
  · skip
    have c7 := bI0 c7
    omega
  · skip
    have c7 := bI1 c7
    refine r_aload_n 11 hE 0 dX8_mark_10 rfl rfl rfl ?_
    refine r_iconst 12 hE dX8_mark_11 rfl ?_
    refine r_callV 15 hE [1] [0] [(wMain g x tpa na da pa (p 0) rua wa sa bka taped told)] [(wPileH g p n sh old cn)] 0 8 ok8 [] (c_X8_refuse) dX8_mark_12 rfl rfl wd_347 wd_349 ws_1 wd_1 wd_350 ne_X8 np_X8_refuse (Nat.le_of_ble_eq_true rfl)  (by decide) (by decide) rfl (Nat.le_of_ble_eq_true rfl) rfl rfl rfl rfl (by decide) rfl (fun v1 f1 hp => ?_)
    obtain ⟨rfl, rfl⟩ := hp
    show G g E _ _ _ [(wMain g x tpa na da pa (p 0) rua wa sa bka taped 3), (wPileH g p n sh old cn)] 15 [(0, .ref x)] [.int (iI (-1))]
    refine r_ireturn hE hR [(wMain g x tpa na da pa (p 0) rua wa sa bka taped 3), (wPileH g p n sh old cn)] dX8_mark_15 (Nat.le_of_ble_eq_true rfl) (Nat.le_of_ble_eq_true rfl) rfl ?_
    exact ⟨retI (rfl), rfl⟩
set_option maxHeartbeats 4000000 in
set_option maxRecDepth 100000 in
theorem c_X8_would {g : Gm} {a : Nat → Nat} {L ln tp rd : Int → Int} {cnt era nws : Int} {r : Nat → Nat} {m : Nat} {RL : Int → Int} {rlen : Int} {ru : Nat → Nat} {kd fi se sg le de nx he ro : Int → Int} {rc re rr : Int} {R : Int → Rl} {w : Nat → Nat} {sp nb mt pl op no : Int → Int} {od stm wc : Int} {x tpa pa qa sa bka : Nat} {taped told : Int} {t p_ m_ u : Int} (hT : RT kd fi se sg le de nx he rc R) (hsh : ShOk L ln cnt) (hre : 0 ≤ re ∧ re ≤ 900000 ∧ -1 ≤ era ∧ era ≤ re) (hto : era = re → TopsOk R rc L ln tp rd cnt) (hce : 0 < cnt → era = re) (hWI : 0 ≤ stm ∧ ∀ i, 0 ≤ i → i < 10240 → 0 ≤ sp i ∧ sp i ≤ stm) (hs2 : stm ≤ 1500000000) (hm6 : (m : Int) = 600) (hBR : BR RL) (ht : 0 ≤ t ∧ t < cnt) (hu : 0 ≤ u ∧ u < cnt) (hp : 0 ≤ p_ ∧ 0 ≤ m_ ∧ p_ + m_ ≤ ln t) (h6 : ln t - m_ + ln u ≤ 600) : Ct g 6 0 0 yX8_would cX8_would 6 (some .int) [.ref x, .int (iI t), .int (iI p_), .int (iI m_), .int (iI u)] [(wMain g x tpa (a 0) (r 0) pa qa (ru 0) (w 0) sa bka taped told), (wShelf g a L ln tp rd cnt era nws), (wRow g r m RL rlen), (wRules g ru kd fi se sg le de nx he ro rc re rr), (wWalk g w (ru 0) sp nb mt pl op no od stm wc)] (fun v_ w_ => ∃ kd9 : Int → Int, ∃ fi9 : Int → Int, ∃ se9 : Int → Int, ∃ sg9 : Int → Int, ∃ le9 : Int → Int, ∃ de9 : Int → Int, ∃ nx9 : Int → Int, ∃ he9 : Int → Int, ∃ rc9 : Int, ∃ R9 : Int → Rl, ∃ ro9 : Int → Int, ∃ re9 : Int, ∃ rr9 : Int, ∃ tp9 : Int → Int, ∃ rd9 : Int → Int, ∃ sp9 : Int → Int, ∃ nb9 : Int → Int, ∃ mt9 : Int → Int, ∃ pl9 : Int → Int, ∃ op9 : Int → Int, ∃ no9 : Int → Int, ∃ od9 : Int, ∃ wc9 : Int, ∃ RL9 : Int → Int, ∃ r9 : Int, v_ = some (.int (iI r9)) ∧ w_ = [(wMain g x tpa (a 0) (r 0) pa qa (ru 0) (w 0) sa bka taped 0), (wShelf g a L ln tp9 rd9 cnt re9 nws), (wRow g r m RL9 (ln t - m_ + ln u)), (wRules g ru kd9 fi9 se9 sg9 le9 de9 nx9 he9 ro9 rc9 re9 rr9), (wWalk g w (ru 0) sp9 nb9 mt9 pl9 op9 no9 od9 (stm + 1) wc9)] ∧ (RT kd9 fi9 se9 sg9 le9 de9 nx9 he9 rc9 R9) ∧ ((re9 = re ∧ rc ≤ rc9 ∧ (∀ i, 0 ≤ i → i < rc → R9 i = R i)) ∨ re9 = re + 1) ∧ (0 ≤ stm + 1 ∧ ∀ i, 0 ≤ i → i < 10240 → 0 ≤ sp9 i ∧ sp9 i ≤ stm + 1) ∧ (TopsOk R9 rc9 L ln tp9 rd9 cnt) ∧ (BR RL9) ∧ (∃ T T2 q, (∀ j, 0 ≤ j → j < cnt → ∃ q, BIs (lts (tx L j) 0 (ln j)) (T j) q) ∧ BIs (lts (splF (tx L t) p_ m_ (tx L u) (ln u)) 0 (ln t - m_ + ln u)) T2 q ∧ r9 = ((vis T2 0 (visT T cnt.toNat [])).length : Int) - (visT T cnt.toNat []).length)) := by
  refine Ct.of (by decide) (Nat.le_of_ble_eq_true rfl) (lv := [(0, .ref x), (1, .int (iI t)), (2, .int (iI p_)), (3, .int (iI m_)), (4, .int (iI u))]) rfl ?_
  intro E hE hR hnm
  have hc := hsh.1
  have hln := hsh.ln
  have hB := hsh.2.1
  have hcn := hT.1
  have hs6 := sumF_600 hln hc
  have hl1 := hln t ht.1 ht.2
  have hl2 := hsh.2.2 u hu.1 hu.2
  have hws : wsF ln cnt t p_ m_ u = 0 := by unfold wsF; (repeat (first | rw [if_pos (by omega)] | rw [if_neg (by omega)]))
  refine r_aload_n 1 hE 0 dX8_would_0 rfl rfl rfl ?_
  refine r_iload_n 2 hE 1 dX8_would_1 rfl rfl rfl ?_
  refine r_iload_n 3 hE 2 dX8_would_2 rfl rfl rfl ?_
  refine r_iload_n 4 hE 3 dX8_would_3 rfl rfl rfl ?_
  refine r_iload 6 hE 4 dX8_would_4 rfl rfl ?_
  refine r_callV 9 hE [0, 1] [2, 3, 4] [(wMain g x tpa (a 0) (r 0) pa qa (ru 0) (w 0) sa bka taped told), (wShelf g a L ln tp rd cnt era nws)] [(wRow g r m RL rlen), (wRules g ru kd fi se sg le de nx he ro rc re rr), (wWalk g w (ru 0) sp nb mt pl op no od stm wc)] 0 8 ok8 [] (c_X8_wrongSplice (by omega) (hln) (by omega) (by omega) (by omega) (by omega)) dX8_would_6 rfl rfl wd_892 wd_894 ws_42 wd_1 wd_895 ne_X8 np_X8_wrongSplice (Nat.le_of_ble_eq_true rfl)  (by decide) (by decide) rfl (Nat.le_of_ble_eq_true rfl) rfl rfl rfl rfl (by decide) rfl (fun v1 f1 hp => ?_)
  obtain ⟨rfl, rfl⟩ := hp
  show G g E _ _ _ [(wMain g x tpa (a 0) (r 0) pa qa (ru 0) (w 0) sa bka taped told), (wShelf g a L ln tp rd cnt era nws), (wRow g r m RL rlen), (wRules g ru kd fi se sg le de nx he ro rc re rr), (wWalk g w (ru 0) sp nb mt pl op no od stm wc)] 9 [(0, .ref x), (1, .int (iI t)), (2, .int (iI p_)), (3, .int (iI m_)), (4, .int (iI u))] [.int (iI (wsF ln cnt t p_ m_ u))]
  refine r_istore 11 hE [(5, .int (iI (wsF ln cnt t p_ m_ u))), (0, .ref x), (1, .int (iI t)), (2, .int (iI p_)), (3, .int (iI m_)), (4, .int (iI u))] dX8_would_9 rfl (by decide) rfl ?_
  refine r_iload 13 hE 0 dX8_would_11 rfl rfl ?_
  refine r_if_eq 16 23 hE dX8_would_13 rfl (by decide) (by rw [hws]; omega) (fun c13 => ?_) (fun c13 => ?_)
  · skip
    refine r_aload_n 24 hE 1 dX8_would_23 rfl rfl rfl ?_
    refine r_iload_n 25 hE 2 dX8_would_24 rfl rfl rfl ?_
    refine r_iload_n 26 hE 3 dX8_would_25 rfl rfl rfl ?_
    refine r_iload_n 27 hE 4 dX8_would_26 rfl rfl rfl ?_
    refine r_iload 29 hE 5 dX8_would_27 rfl rfl ?_
    refine r_callV 32 hE [0, 1, 2] [3, 4] [(wMain g x tpa (a 0) (r 0) pa qa (ru 0) (w 0) sa bka taped told), (wShelf g a L ln tp rd cnt era nws), (wRow g r m RL rlen)] [(wRules g ru kd fi se sg le de nx he ro rc re rr), (wWalk g w (ru 0) sp nb mt pl op no od stm wc)] 0 8 ok8 [] (c_X8_draftSplice (by omega) (hln) (hB) (hBR) (by omega) (by omega) (by omega) (by omega) (hm6)) dX8_would_29 rfl rfl wd_896 wd_898 ws_43 wd_1 wd_899 ne_X8 np_X8_draftSplice (Nat.le_of_ble_eq_true rfl)  (by decide) (by decide) rfl (Nat.le_of_ble_eq_true rfl) rfl rfl rfl rfl (by decide) rfl (fun v1 f1 hp => ?_)
    obtain ⟨RL9_29, rfl, rfl, h29_0, h29_1⟩ := hp
    show G g E _ _ _ [(wMain g x tpa (a 0) (r 0) pa qa (ru 0) (w 0) sa bka taped told), (wShelf g a L ln tp rd cnt era nws), (wRow g r m RL9_29 (ln t - m_ + ln u)), (wRules g ru kd fi se sg le de nx he ro rc re rr), (wWalk g w (ru 0) sp nb mt pl op no od stm wc)] 32 [(5, .int (iI (wsF ln cnt t p_ m_ u))), (0, .ref x), (1, .int (iI t)), (2, .int (iI p_)), (3, .int (iI m_)), (4, .int (iI u))] []
    refine r_aload_n 33 hE 1 dX8_would_32 rfl rfl rfl ?_
    refine r_sipush 36 hE dX8_would_33 rfl (by decide) ?_
    refine r_callV 39 hE [0, 1, 3] [2, 4] [(wMain g x tpa (a 0) (r 0) pa qa (ru 0) (w 0) sa bka taped told), (wShelf g a L ln tp rd cnt era nws), (wRules g ru kd fi se sg le de nx he ro rc re rr)] [(wRow g r m RL9_29 (ln t - m_ + ln u)), (wWalk g w (ru 0) sp nb mt pl op no od stm wc)] 0 8 ok8 [] (c_X8_settle (hT) (hsh) (by omega) (by omega) (hto) (fun e _ => by have h9 : cnt = 0 := Decidable.byContradiction (fun z => e (hce (by omega))); rw [h9, sumF_0]; omega)) dX8_would_36 rfl rfl wd_618 wd_620 ws_22 wd_1 wd_621 ne_X8 np_X8_settle (Nat.le_of_ble_eq_true rfl)  (by decide) (by decide) rfl (Nat.le_of_ble_eq_true rfl) rfl rfl rfl rfl (by decide) rfl (fun v1 f1 hp => ?_)
    obtain ⟨kd9_36, fi9_36, se9_36, sg9_36, le9_36, de9_36, nx9_36, he9_36, rc9_36, R9_36, ro9_36, re9_36, rr9_36, tp9_36, rd9_36, rfl, rfl, h36_0, h36_1, h36_2⟩ := hp
    show G g E _ _ _ [(wMain g x tpa (a 0) (r 0) pa qa (ru 0) (w 0) sa bka taped told), (wShelf g a L ln tp9_36 rd9_36 cnt re9_36 nws), (wRules g ru kd9_36 fi9_36 se9_36 sg9_36 le9_36 de9_36 nx9_36 he9_36 ro9_36 rc9_36 re9_36 rr9_36), (wRow g r m RL9_29 (ln t - m_ + ln u)), (wWalk g w (ru 0) sp nb mt pl op no od stm wc)] 39 [(5, .int (iI (wsF ln cnt t p_ m_ u))), (0, .ref x), (1, .int (iI t)), (2, .int (iI p_)), (3, .int (iI m_)), (4, .int (iI u))] []
    have hrm : rc9_36 + 600 ≤ 10240 := by
      rcases h36_2 with z | z
      · have h9 := z.2.2.2.2 (Or.inl (hce (by omega))); omega
      · omega
    have hW0 : WV R9_36 rc9_36 [] sp nb mt pl (stm + 1) 0 := WV.new (by omega) hWI
    refine r_aload_n 40 hE 1 dX8_would_39 rfl rfl rfl ?_
    refine r_get 43 hE 0 0 ok8 8 dX8_would_40 rfl wd_305 rfl rfl (by decide) rfl ?_
    refine r_callV 46 hE [4] [0, 1, 2, 3] [(wWalk g w (ru 0) sp nb mt pl op no od stm wc)] [(wMain g x tpa (a 0) (r 0) pa qa (ru 0) (w 0) sa bka taped told), (wShelf g a L ln tp9_36 rd9_36 cnt re9_36 nws), (wRules g ru kd9_36 fi9_36 se9_36 sg9_36 le9_36 de9_36 nx9_36 he9_36 ro9_36 rc9_36 re9_36 rr9_36), (wRow g r m RL9_29 (ln t - m_ + ln u))] 0 7 ok7 [] (c_X7_begin) dX8_would_43 rfl rfl wd_672 wd_673 wd_674 wd_8 wd_675 ne_X7 np_X7_begin (Nat.le_of_ble_eq_true rfl)  (by decide) (by decide) rfl (Nat.le_of_ble_eq_true rfl) rfl rfl rfl rfl (by decide) rfl (fun v1 f1 hp => ?_)
    obtain ⟨rfl, rfl⟩ := hp
    show G g E _ _ _ [(wWalk g w (ru 0) sp nb mt pl op no od (stm + 1) 0), (wMain g x tpa (a 0) (r 0) pa qa (ru 0) (w 0) sa bka taped told), (wShelf g a L ln tp9_36 rd9_36 cnt re9_36 nws), (wRules g ru kd9_36 fi9_36 se9_36 sg9_36 le9_36 de9_36 nx9_36 he9_36 ro9_36 rc9_36 re9_36 rr9_36), (wRow g r m RL9_29 (ln t - m_ + ln u))] 46 [(5, .int (iI (wsF ln cnt t p_ m_ u))), (0, .ref x), (1, .int (iI t)), (2, .int (iI p_)), (3, .int (iI m_)), (4, .int (iI u))] []
    refine r_aload_n 47 hE 1 dX8_would_46 rfl rfl rfl ?_
    refine r_callV 50 hE [1, 2, 0, 3] [4] [(wMain g x tpa (a 0) (r 0) pa qa (ru 0) (w 0) sa bka taped told), (wShelf g a L ln tp9_36 rd9_36 cnt re9_36 nws), (wWalk g w (ru 0) sp nb mt pl op no od (stm + 1) 0), (wRules g ru kd9_36 fi9_36 se9_36 sg9_36 le9_36 de9_36 nx9_36 he9_36 ro9_36 rc9_36 re9_36 rr9_36)] [(wRow g r m RL9_29 (ln t - m_ + ln u))] 0 8 ok8 [] (c_X8_visitAll (h36_0) (hW0) (by omega) (h36_1) (by omega)) dX8_would_47 rfl rfl wd_676 wd_678 ws_29 wd_1 wd_679 ne_X8 np_X8_visitAll (Nat.le_of_ble_eq_true rfl)  (by decide) (by decide) rfl (Nat.le_of_ble_eq_true rfl) rfl rfl rfl rfl (by decide) rfl (fun v1 f1 hp => ?_)
    obtain ⟨sp9_47, nb9_47, mt9_47, pl9_47, op9_47, no9_47, od9_47, wc9_47, V9_47, rfl, rfl, h47_0, h47_1⟩ := hp
    show G g E _ _ _ [(wMain g x tpa (a 0) (r 0) pa qa (ru 0) (w 0) sa bka taped told), (wShelf g a L ln tp9_36 rd9_36 cnt re9_36 nws), (wWalk g w (ru 0) sp9_47 nb9_47 mt9_47 pl9_47 op9_47 no9_47 od9_47 (stm + 1) wc9_47), (wRules g ru kd9_36 fi9_36 se9_36 sg9_36 le9_36 de9_36 nx9_36 he9_36 ro9_36 rc9_36 re9_36 rr9_36), (wRow g r m RL9_29 (ln t - m_ + ln u))] 50 [(5, .int (iI (wsF ln cnt t p_ m_ u))), (0, .ref x), (1, .int (iI t)), (2, .int (iI p_)), (3, .int (iI m_)), (4, .int (iI u))] [.int (iI (wc9_47 - 0))]
    refine r_pop 51 hE dX8_would_50 rfl rfl ?_
    refine r_aload_n 52 hE 1 dX8_would_51 rfl rfl rfl ?_
    refine r_aload_n 53 hE 1 dX8_would_52 rfl rfl rfl ?_
    refine r_get 56 hE 0 0 ok8 8 dX8_would_53 rfl wd_305 rfl rfl (by decide) rfl ?_
    refine r_aload_n 57 hE 1 dX8_would_56 rfl rfl rfl ?_
    refine r_get 60 hE 0 0 ok8 9 dX8_would_57 rfl wd_306 rfl rfl (by decide) rfl ?_
    refine r_aload_n 61 hE 1 dX8_would_60 rfl rfl rfl ?_
    refine r_get 64 hE 0 0 ok8 5 dX8_would_61 rfl wd_302 rfl rfl (by decide) rfl ?_
    refine r_get 67 hE 4 0 ok2 0 dX8_would_64 rfl wd_114 rfl rfl (by decide) rfl ?_
    refine r_iconst 68 hE dX8_would_67 rfl ?_
    refine r_aload_n 69 hE 1 dX8_would_68 rfl rfl rfl ?_
    refine r_get 72 hE 0 0 ok8 5 dX8_would_69 rfl wd_302 rfl rfl (by decide) rfl ?_
    refine r_get 75 hE 4 0 ok2 1 dX8_would_72 rfl wd_118 rfl rfl (by decide) rfl ?_
    refine G.cast (fs' := [(wMain g x tpa (a 0) (r 0) pa qa (ru 0) (w 0) sa bka taped told), (wShelf g a L ln tp9_36 rd9_36 cnt re9_36 nws), (wWalk g w (ru 0) sp9_47 nb9_47 mt9_47 pl9_47 op9_47 no9_47 od9_47 (stm + 1) wc9_47), (wRules g ru kd9_36 fi9_36 se9_36 sg9_36 le9_36 de9_36 nx9_36 he9_36 ro9_36 rc9_36 re9_36 rr9_36), (wRowH g r (ln t - m_ + ln u)), (wBytes g (r 1) m RL9_29)]) (lv' := [(5, .int (iI (wsF ln cnt t p_ m_ u))), (0, .ref x), (1, .int (iI t)), (2, .int (iI p_)), (3, .int (iI m_)), (4, .int (iI u))]) rfl rfl ?_
    refine r_callV 78 hE [3, 5] [0, 1, 2, 4] [(wRules g ru kd9_36 fi9_36 se9_36 sg9_36 le9_36 de9_36 nx9_36 he9_36 ro9_36 rc9_36 re9_36 rr9_36), (wBytes g (r 1) m RL9_29)] [(wMain g x tpa (a 0) (r 0) pa qa (ru 0) (w 0) sa bka taped told), (wShelf g a L ln tp9_36 rd9_36 cnt re9_36 nws), (wWalk g w (ru 0) sp9_47 nb9_47 mt9_47 pl9_47 op9_47 no9_47 od9_47 (stm + 1) wc9_47), (wRowH g r (ln t - m_ + ln u))] 0 3 ok3 [.ref (w 0), .ref x] (c_X3_build (h36_0) (by omega) (by omega) (fun k a b => by rw [Int.zero_add, h29_0 k a b]; exact splF_rg hsh ht hu hp a b) (by omega)) dX8_would_75 rfl rfl wd_635 wd_636 wd_637 wd_9 wd_638 ne_X3 np_X3_build (Nat.le_of_ble_eq_true rfl)  (by decide) (by decide) rfl (Nat.le_of_ble_eq_true rfl) rfl rfl rfl rfl (by decide) rfl (fun v1 f1 hp => ?_)
    obtain ⟨kd9_75, fi9_75, se9_75, sg9_75, le9_75, de9_75, nx9_75, he9_75, rc9_75, R9_75, ro9_75, rr9_75, r_75, rfl, rfl, h75_0, h75_1, h75_2, h75_3, h75_4, h75_5⟩ := hp
    show G g E _ _ _ [(wRules g ru kd9_75 fi9_75 se9_75 sg9_75 le9_75 de9_75 nx9_75 he9_75 ro9_75 rc9_75 re9_36 rr9_75), (wBytes g (r 1) m RL9_29), (wMain g x tpa (a 0) (r 0) pa qa (ru 0) (w 0) sa bka taped told), (wShelf g a L ln tp9_36 rd9_36 cnt re9_36 nws), (wWalk g w (ru 0) sp9_47 nb9_47 mt9_47 pl9_47 op9_47 no9_47 od9_47 (stm + 1) wc9_47), (wRowH g r (ln t - m_ + ln u))] 78 [(5, .int (iI (wsF ln cnt t p_ m_ u))), (0, .ref x), (1, .int (iI t)), (2, .int (iI p_)), (3, .int (iI m_)), (4, .int (iI u))] [.int (iI r_75), .ref (w 0), .ref x]
    have hWe := h47_0.ext (R2 := R9_75) (rc2 := rc9_75) ⟨h75_1.1, h75_0.1.2⟩ h75_2 h75_0.2.2.1
    refine G.to (fs' := [(wRowH g r (ln t - m_ + ln u)), (wBytes g (r 1) m RL9_29), (wRules g ru kd9_75 fi9_75 se9_75 sg9_75 le9_75 de9_75 nx9_75 he9_75 ro9_75 rc9_75 re9_36 rr9_75), (wMain g x tpa (a 0) (r 0) pa qa (ru 0) (w 0) sa bka taped told), (wShelf g a L ln tp9_36 rd9_36 cnt re9_36 nws), (wWalk g w (ru 0) sp9_47 nb9_47 mt9_47 pl9_47 op9_47 no9_47 od9_47 (stm + 1) wc9_47)]) (lv' := [(5, .int (iI (wsF ln cnt t p_ m_ u))), (0, .ref x), (1, .int (iI t)), (2, .int (iI p_)), (3, .int (iI m_)), (4, .int (iI u))]) [5, 1, 0, 2, 3, 4] [0, 1, 2, 3, 4, 5] rfl rfl rfl ?_
    refine G.cast (fs' := [(wRow g r m RL9_29 (ln t - m_ + ln u)), (wRules g ru kd9_75 fi9_75 se9_75 sg9_75 le9_75 de9_75 nx9_75 he9_75 ro9_75 rc9_75 re9_36 rr9_75), (wMain g x tpa (a 0) (r 0) pa qa (ru 0) (w 0) sa bka taped told), (wShelf g a L ln tp9_36 rd9_36 cnt re9_36 nws), (wWalk g w (ru 0) sp9_47 nb9_47 mt9_47 pl9_47 op9_47 no9_47 od9_47 (stm + 1) wc9_47)]) (lv' := [(5, .int (iI (wsF ln cnt t p_ m_ u))), (0, .ref x), (1, .int (iI t)), (2, .int (iI p_)), (3, .int (iI m_)), (4, .int (iI u))]) rfl rfl ?_
    refine r_callV 81 hE [4, 1] [0, 2, 3] [(wWalk g w (ru 0) sp9_47 nb9_47 mt9_47 pl9_47 op9_47 no9_47 od9_47 (stm + 1) wc9_47), (wRules g ru kd9_75 fi9_75 se9_75 sg9_75 le9_75 de9_75 nx9_75 he9_75 ro9_75 rc9_75 re9_36 rr9_75)] [(wRow g r m RL9_29 (ln t - m_ + ln u)), (wMain g x tpa (a 0) (r 0) pa qa (ru 0) (w 0) sa bka taped told), (wShelf g a L ln tp9_36 rd9_36 cnt re9_36 nws)] 0 7 ok7 [.ref x] (c_X7_visit (h75_0) (hWe) (h75_3) (by have := h47_0.le; have := h36_0.1; omega) (by omega)) dX8_would_78 rfl rfl wd_684 wd_685 wd_686 wd_8 wd_687 ne_X7 np_X7_visit (Nat.le_of_ble_eq_true rfl)  (by decide) (by decide) rfl (Nat.le_of_ble_eq_true rfl) rfl rfl rfl rfl (by decide) rfl (fun v1 f1 hp => ?_)
    obtain ⟨sp9_78, nb9_78, mt9_78, pl9_78, op9_78, no9_78, od9_78, wc9_78, V9_78, rfl, rfl, h78_0, h78_1⟩ := hp
    show G g E _ _ _ [(wWalk g w (ru 0) sp9_78 nb9_78 mt9_78 pl9_78 op9_78 no9_78 od9_78 (stm + 1) wc9_78), (wRules g ru kd9_75 fi9_75 se9_75 sg9_75 le9_75 de9_75 nx9_75 he9_75 ro9_75 rc9_75 re9_36 rr9_75), (wRow g r m RL9_29 (ln t - m_ + ln u)), (wMain g x tpa (a 0) (r 0) pa qa (ru 0) (w 0) sa bka taped told), (wShelf g a L ln tp9_36 rd9_36 cnt re9_36 nws)] 81 [(5, .int (iI (wsF ln cnt t p_ m_ u))), (0, .ref x), (1, .int (iI t)), (2, .int (iI p_)), (3, .int (iI m_)), (4, .int (iI u))] [.int (iI (wc9_78 - wc9_47)), .ref x]
    refine r_callV 84 hE [3] [0, 1, 2, 4] [(wMain g x tpa (a 0) (r 0) pa qa (ru 0) (w 0) sa bka taped told)] [(wWalk g w (ru 0) sp9_78 nb9_78 mt9_78 pl9_78 op9_78 no9_78 od9_78 (stm + 1) wc9_78), (wRules g ru kd9_75 fi9_75 se9_75 sg9_75 le9_75 de9_75 nx9_75 he9_75 ro9_75 rc9_75 re9_36 rr9_75), (wRow g r m RL9_29 (ln t - m_ + ln u)), (wShelf g a L ln tp9_36 rd9_36 cnt re9_36 nws)] 0 8 ok8 [] (c_X8_answer) dX8_would_81 rfl rfl wd_739 wd_741 ws_33 wd_1 wd_742 ne_X8 np_X8_answer (Nat.le_of_ble_eq_true rfl)  (by decide) (by decide) rfl (Nat.le_of_ble_eq_true rfl) rfl rfl rfl rfl (by decide) rfl (fun v1 f1 hp => ?_)
    obtain ⟨rfl, rfl⟩ := hp
    show G g E _ _ _ [(wMain g x tpa (a 0) (r 0) pa qa (ru 0) (w 0) sa bka taped 0), (wWalk g w (ru 0) sp9_78 nb9_78 mt9_78 pl9_78 op9_78 no9_78 od9_78 (stm + 1) wc9_78), (wRules g ru kd9_75 fi9_75 se9_75 sg9_75 le9_75 de9_75 nx9_75 he9_75 ro9_75 rc9_75 re9_36 rr9_75), (wRow g r m RL9_29 (ln t - m_ + ln u)), (wShelf g a L ln tp9_36 rd9_36 cnt re9_36 nws)] 84 [(5, .int (iI (wsF ln cnt t p_ m_ u))), (0, .ref x), (1, .int (iI t)), (2, .int (iI p_)), (3, .int (iI m_)), (4, .int (iI u))] [.int (iI (wc9_78 - wc9_47))]
    refine G.to (fs' := [(wMain g x tpa (a 0) (r 0) pa qa (ru 0) (w 0) sa bka taped 0), (wShelf g a L ln tp9_36 rd9_36 cnt re9_36 nws), (wRow g r m RL9_29 (ln t - m_ + ln u)), (wRules g ru kd9_75 fi9_75 se9_75 sg9_75 le9_75 de9_75 nx9_75 he9_75 ro9_75 rc9_75 re9_36 rr9_75), (wWalk g w (ru 0) sp9_78 nb9_78 mt9_78 pl9_78 op9_78 no9_78 od9_78 (stm + 1) wc9_78)]) [0, 4, 3, 2, 1] [0, 1, 2, 3, 4, 5] rfl rfl rfl ?_
    refine r_ireturn hE hR [(wMain g x tpa (a 0) (r 0) pa qa (ru 0) (w 0) sa bka taped 0), (wShelf g a L ln tp9_36 rd9_36 cnt re9_36 nws), (wRow g r m RL9_29 (ln t - m_ + ln u)), (wRules g ru kd9_75 fi9_75 se9_75 sg9_75 le9_75 de9_75 nx9_75 he9_75 ro9_75 rc9_75 re9_36 rr9_75), (wWalk g w (ru 0) sp9_78 nb9_78 mt9_78 pl9_78 op9_78 no9_78 od9_78 (stm + 1) wc9_78)] dX8_would_84 (Nat.le_of_ble_eq_true rfl) (Nat.le_of_ble_eq_true rfl) rfl ?_
    have e1 : lts RL9_29 0 (ln t - m_ + ln u) = lts (splF (tx L t) p_ m_ (tx L u) (ln u)) 0 (ln t - m_ + ln u) := lts_cong (fun k a b => by rw [Int.zero_add]; exact h29_0 k a b)
    refine ⟨kd9_75, fi9_75, se9_75, sg9_75, le9_75, de9_75, nx9_75, he9_75, rc9_75, R9_75, ro9_75, re9_36, rr9_75, tp9_36, rd9_36, sp9_78, nb9_78, mt9_78, pl9_78, op9_78, no9_78, od9_78, wc9_78, RL9_29, wc9_78 - wc9_47, rfl, rfl, h75_0, ?_, h78_0.2.1, h36_1.ext h75_1.1 h75_2, h29_1, fun j => R9_36 (tp9_36 j), R9_75 r_75, _, fun j a b => ⟨_, by rw [← lts_tx]; exact (h36_1 j a b).2⟩, by rw [← e1]; exact h75_4, ?_⟩
    · rcases h36_2 with z | z
      · exact Or.inl ⟨z.1, by omega, fun i a b => by rw [h75_2 i a (by omega)]; exact z.2.2.1 i a b⟩
      · exact Or.inr z.1
    · rw [← h47_1, ← h78_1, h78_0.1, h47_0.1]
  · skip
    exact absurd hws c13
set_option maxHeartbeats 4000000 in
set_option maxRecDepth 100000 in
theorem c_X8_would_no {g : Gm} {a : Nat → Nat} {L ln tp rd : Int → Int} {cnt era nws : Int} {x tpa da pa qa rua wa sa bka : Nat} {taped told : Int} {t p_ m_ u : Int} (hsh : ShOk L ln cnt) (ht : -2147483648 ≤ t ∧ t ≤ 2147483647) (hp : -2147483648 ≤ p_ ∧ p_ ≤ 2147483647) (hm : -2147483648 ≤ m_ ∧ m_ ≤ 2147483647) (hu : -2147483648 ≤ u ∧ u ≤ 2147483647) (hno : wsF ln cnt t p_ m_ u ≠ 0) (hnr : 0 ≤ wsF ln cnt t p_ m_ u ∧ wsF ln cnt t p_ m_ u ≤ 9) : Ct g 6 0 0 yX8_would cX8_would 6 (some .int) [.ref x, .int (iI t), .int (iI p_), .int (iI m_), .int (iI u)] [(wMain g x tpa (a 0) da pa qa rua wa sa bka taped told), (wShelf g a L ln tp rd cnt era nws)] (fun v_ w_ => v_ = some (.int (iI (-1))) ∧ w_ = [(wMain g x tpa (a 0) da pa qa rua wa sa bka taped (wsF ln cnt t p_ m_ u)), (wShelf g a L ln tp rd cnt era nws)]) := by
  refine Ct.of (by decide) (Nat.le_of_ble_eq_true rfl) (lv := [(0, .ref x), (1, .int (iI t)), (2, .int (iI p_)), (3, .int (iI m_)), (4, .int (iI u))]) rfl ?_
  intro E hE hR hnm
  have hc := hsh.1
  have hln := hsh.ln
  have hB := hsh.2.1
  refine r_aload_n 1 hE 0 dX8_would_0 rfl rfl rfl ?_
  refine r_iload_n 2 hE 1 dX8_would_1 rfl rfl rfl ?_
  refine r_iload_n 3 hE 2 dX8_would_2 rfl rfl rfl ?_
  refine r_iload_n 4 hE 3 dX8_would_3 rfl rfl rfl ?_
  refine r_iload 6 hE 4 dX8_would_4 rfl rfl ?_
  refine r_callV 9 hE [0, 1] [] [(wMain g x tpa (a 0) da pa qa rua wa sa bka taped told), (wShelf g a L ln tp rd cnt era nws)] [] 0 8 ok8 [] (c_X8_wrongSplice (by omega) (hln) (by omega) (by omega) (by omega) (by omega)) dX8_would_6 rfl rfl wd_892 wd_894 ws_42 wd_1 wd_895 ne_X8 np_X8_wrongSplice (Nat.le_of_ble_eq_true rfl)  (by decide) (by decide) rfl (Nat.le_of_ble_eq_true rfl) rfl rfl rfl rfl (by decide) rfl (fun v1 f1 hp => ?_)
  obtain ⟨rfl, rfl⟩ := hp
  show G g E _ _ _ [(wMain g x tpa (a 0) da pa qa rua wa sa bka taped told), (wShelf g a L ln tp rd cnt era nws)] 9 [(0, .ref x), (1, .int (iI t)), (2, .int (iI p_)), (3, .int (iI m_)), (4, .int (iI u))] [.int (iI (wsF ln cnt t p_ m_ u))]
  refine r_istore 11 hE [(5, .int (iI (wsF ln cnt t p_ m_ u))), (0, .ref x), (1, .int (iI t)), (2, .int (iI p_)), (3, .int (iI m_)), (4, .int (iI u))] dX8_would_9 rfl (by decide) rfl ?_
  refine r_iload 13 hE 0 dX8_would_11 rfl rfl ?_
  refine r_if_eq 16 23 hE dX8_would_13 rfl (by decide) (by omega) (fun c13 => ?_) (fun c13 => ?_)
  · skip
    exact absurd c13 hno
  · skip
    refine r_aload_n 17 hE 1 dX8_would_16 rfl rfl rfl ?_
    refine r_iload 19 hE 0 dX8_would_17 rfl rfl ?_
    refine r_callV 22 hE [0] [1] [(wMain g x tpa (a 0) da pa qa rua wa sa bka taped told)] [(wShelf g a L ln tp rd cnt era nws)] 0 8 ok8 [] (c_X8_refuse) dX8_would_19 rfl rfl wd_347 wd_349 ws_1 wd_1 wd_350 ne_X8 np_X8_refuse (Nat.le_of_ble_eq_true rfl)  (by decide) (by decide) rfl (Nat.le_of_ble_eq_true rfl) rfl rfl rfl rfl (by decide) rfl (fun v1 f1 hp => ?_)
    obtain ⟨rfl, rfl⟩ := hp
    show G g E _ _ _ [(wMain g x tpa (a 0) da pa qa rua wa sa bka taped (wsF ln cnt t p_ m_ u)), (wShelf g a L ln tp rd cnt era nws)] 22 [(5, .int (iI (wsF ln cnt t p_ m_ u))), (0, .ref x), (1, .int (iI t)), (2, .int (iI p_)), (3, .int (iI m_)), (4, .int (iI u))] [.int (iI (-1))]
    refine r_ireturn hE hR [(wMain g x tpa (a 0) da pa qa rua wa sa bka taped (wsF ln cnt t p_ m_ u)), (wShelf g a L ln tp rd cnt era nws)] dX8_would_22 (Nat.le_of_ble_eq_true rfl) (Nat.le_of_ble_eq_true rfl) rfl ?_
    exact ⟨retI (rfl), rfl⟩
