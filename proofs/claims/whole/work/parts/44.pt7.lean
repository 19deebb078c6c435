set_option maxHeartbeats 4000000 in
set_option maxRecDepth 100000 in
theorem c_X8_endAct {g : Gm} {a : Nat → Nat} {L ln tp rd : Int → Int} {cnt era nws : Int} {ru : Nat → Nat} {kd fi se sg le de nx he ro : Int → Int} {rc re rr : Int} {R : Int → Rl} {w : Nat → Nat} {sp nb mt pl op no : Int → Int} {od stm wc : Int} {p : Nat → Nat} {n : Nat} {sh : Nat → Option Nat} {old cn : Int} {ad : Nat → Nat → Nat} {ss : Nat → ShS} {x tpa da qa rua sa bka : Nat} {taped told : Int} {V : List (Rl × Int)} (hT : RT kd fi se sg le de nx he rc R) (hW : WV R rc V sp nb mt pl stm wc) (hc : 0 ≤ cnt ∧ cnt ≤ 8) (hto : TopsOk R rc L ln tp rd cnt) (hst : 0 ≤ stm ∧ stm ≤ 1900000000) (hpn : 1 ≤ (n : Int) ∧ (n : Int) ≤ 8) (hpo : 0 ≤ old ∧ old < (n : Int) ∧ 0 ≤ cn ∧ cn ≤ (n : Int)) (hsa : ∀ i, i < n → sh i = some ((ad i) 0)) (hc1 : 1 ≤ cn) : Ct g 4 0 0 yX8_endAct cX8_endAct 3 none [.ref x] [(wMain g x tpa (a 0) da (p 0) qa rua (w 0) sa bka taped told), (wShelf g a L ln tp rd cnt era nws), (wWalk g w (ru 0) sp nb mt pl op no od stm wc), (wRules g ru kd fi se sg le de nx he ro rc re rr), (wPileH g p n sh old cn), (wPool g ad ss n)] (fun v_ w_ => ∃ sp9 : Int → Int, ∃ nb9 : Int → Int, ∃ mt9 : Int → Int, ∃ pl9 : Int → Int, ∃ op9 : Int → Int, ∃ no9 : Int → Int, ∃ od9 : Int, ∃ wc9 : Int, ∃ V9 : List (Rl × Int), ∃ i9 : Nat, v_ = none ∧ w_ = [(wMain g x tpa (a 0) da (p 0) qa rua (w 0) sa bka taped told), (wShelf g a L ln tp rd cnt era nws), (wWalk g w (ru 0) sp9 nb9 mt9 pl9 op9 no9 od9 stm wc9), (wRules g ru kd fi se sg le de nx he ro rc re rr), (wPileH g p n sh old cn), (wPool g ad (upS ss i9 (shs (ss i9).L (ss i9).ln (ss i9).tp (ss i9).rd (ss i9).cnt (ss i9).era (wc9 - wc))) n)] ∧ (WV R rc V9 sp9 nb9 mt9 pl9 stm wc9) ∧ (V9 = visT (fun t => R (tp t)) cnt.toNat V) ∧ ((i9 : Int) = (old + cn - 1) % (n : Int)) ∧ (i9 < n)) := by
  refine Ct.of (by decide) (Nat.le_of_ble_eq_true rfl) (lv := [(0, .ref x)]) rfl ?_
  intro E hE hR hnm
  refine r_aload_n 1 hE 0 dX8_endAct_0 rfl rfl rfl ?_
  refine r_callV 4 hE [0, 1, 2, 3] [4, 5] [(wMain g x tpa (a 0) da (p 0) qa rua (w 0) sa bka taped told), (wShelf g a L ln tp rd cnt era nws), (wWalk g w (ru 0) sp nb mt pl op no od stm wc), (wRules g ru kd fi se sg le de nx he ro rc re rr)] [(wPileH g p n sh old cn), (wPool g ad ss n)] 0 8 ok8 [] (c_X8_visitAll (hT) (hW) (by omega) (hto) (by omega)) dX8_endAct_1 rfl rfl wd_676 wd_678 ws_29 wd_1 wd_679 ne_X8 np_X8_visitAll (Nat.le_of_ble_eq_true rfl)  (by decide) (by decide) rfl (Nat.le_of_ble_eq_true rfl) rfl rfl rfl rfl (by decide) rfl (fun v1 f1 hp => ?_)
  obtain ⟨sp9_1, nb9_1, mt9_1, pl9_1, op9_1, no9_1, od9_1, wc9_1, V9_1, rfl, rfl, h1_0, h1_1⟩ := hp
  show G g E _ _ _ [(wMain g x tpa (a 0) da (p 0) qa rua (w 0) sa bka taped told), (wShelf g a L ln tp rd cnt era nws), (wWalk g w (ru 0) sp9_1 nb9_1 mt9_1 pl9_1 op9_1 no9_1 od9_1 stm wc9_1), (wRules g ru kd fi se sg le de nx he ro rc re rr), (wPileH g p n sh old cn), (wPool g ad ss n)] 4 [(0, .ref x)] [.int (iI (wc9_1 - wc))]
  refine r_istore_n 5 hE [(1, .int (iI (wc9_1 - wc))), (0, .ref x)] dX8_endAct_4 rfl rfl (by decide) rfl ?_
  refine r_aload_n 6 hE 1 dX8_endAct_5 rfl rfl rfl ?_
  refine r_get 9 hE 0 0 ok8 6 dX8_endAct_6 rfl wd_303 rfl rfl (by decide) rfl ?_
  refine r_callV 12 hE [4] [0, 1, 2, 3, 5] [(wPileH g p n sh old cn)] [(wMain g x tpa (a 0) da (p 0) qa rua (w 0) sa bka taped told), (wShelf g a L ln tp rd cnt era nws), (wWalk g w (ru 0) sp9_1 nb9_1 mt9_1 pl9_1 op9_1 no9_1 od9_1 stm wc9_1), (wRules g ru kd fi se sg le de nx he ro rc re rr), (wPool g ad ss n)] 0 1 ok1 [] (c_X1_latest (by omega) (by omega) (hsa) (by omega)) dX8_endAct_9 rfl rfl wd_738 wd_722 wd_723 wd_7 wd_724 ne_X1 np_X1_latest (Nat.le_of_ble_eq_true rfl)  (by decide) (by decide) rfl (Nat.le_of_ble_eq_true rfl) rfl rfl rfl rfl (by decide) rfl (fun v1 f1 hp => ?_)
  obtain ⟨i9, rfl, rfl, h9_0, h9_1⟩ := hp
  show G g E _ _ _ [(wPileH g p n sh old cn), (wMain g x tpa (a 0) da (p 0) qa rua (w 0) sa bka taped told), (wShelf g a L ln tp rd cnt era nws), (wWalk g w (ru 0) sp9_1 nb9_1 mt9_1 pl9_1 op9_1 no9_1 od9_1 stm wc9_1), (wRules g ru kd fi se sg le de nx he ro rc re rr), (wPool g ad ss n)] 12 [(1, .int (iI (wc9_1 - wc))), (0, .ref x)] [.ref ((ad i9) 0)]
  refine r_astore_n 13 hE [(2, .ref ((ad i9) 0)), (1, .int (iI (wc9_1 - wc))), (0, .ref x)] dX8_endAct_12 rfl rfl (by decide) rfl ?_
  refine r_aload_n 14 hE 0 dX8_endAct_13 rfl rfl rfl ?_
  refine r_ifnull 17 hE dX8_endAct_14 rfl ?_
  refine r_aload_n 18 hE 0 dX8_endAct_17 rfl rfl rfl ?_
  refine r_iload_n 19 hE 1 dX8_endAct_18 rfl rfl rfl ?_
  refine G.to (fs' := [(wPool g ad ss n), (wPileH g p n sh old cn), (wMain g x tpa (a 0) da (p 0) qa rua (w 0) sa bka taped told), (wShelf g a L ln tp rd cnt era nws), (wWalk g w (ru 0) sp9_1 nb9_1 mt9_1 pl9_1 op9_1 no9_1 od9_1 stm wc9_1), (wRules g ru kd fi se sg le de nx he ro rc re rr)]) (lv' := [(2, .ref ((ad i9) 0)), (1, .int (iI (wc9_1 - wc))), (0, .ref x)]) [5, 0, 1, 2, 3, 4] [0, 1, 2] rfl rfl rfl ?_
  refine G.perm (fs' := [(wShelf g (ad i9) ((ss i9).L) ((ss i9).ln) ((ss i9).tp) ((ss i9).rd) ((ss i9).cnt) ((ss i9).era) ((ss i9).nws)), (wPoolX g ad ss n i9), (wPileH g p n sh old cn), (wMain g x tpa (a 0) da (p 0) qa rua (w 0) sa bka taped told), (wShelf g a L ln tp rd cnt era nws), (wWalk g w (ru 0) sp9_1 nb9_1 mt9_1 pl9_1 op9_1 no9_1 od9_1 stm wc9_1), (wRules g ru kd fi se sg le de nx he ro rc re rr)]) (perm_out (pool_out g _ _ h9_1)) ?_
  refine r_put 22 hE 0 0 ok5 6 (wShelf g (ad i9) ((ss i9).L) ((ss i9).ln) ((ss i9).tp) ((ss i9).rd) ((ss i9).cnt) ((ss i9).era) (wc9_1 - wc)) [(wShelf g (ad i9) ((ss i9).L) ((ss i9).ln) ((ss i9).tp) ((ss i9).rd) ((ss i9).cnt) ((ss i9).era) (wc9_1 - wc)), (wPoolX g ad ss n i9), (wPileH g p n sh old cn), (wMain g x tpa (a 0) da (p 0) qa rua (w 0) sa bka taped told), (wShelf g a L ln tp rd cnt era nws), (wWalk g w (ru 0) sp9_1 nb9_1 mt9_1 pl9_1 op9_1 no9_1 od9_1 stm wc9_1), (wRules g ru kd fi se sg le de nx he ro rc re rr)] dX8_endAct_19 rfl wd_87 rfl rfl (by decide) rfl rfl rfl (Nat.le_of_ble_eq_true rfl) rfl rfl ?_
  refine G.to (fs' := [(wPoolX g ad ss n i9), (wShelf g (ad i9) ((ss i9).L) ((ss i9).ln) ((ss i9).tp) ((ss i9).rd) ((ss i9).cnt) ((ss i9).era) (wc9_1 - wc)), (wPileH g p n sh old cn), (wMain g x tpa (a 0) da (p 0) qa rua (w 0) sa bka taped told), (wShelf g a L ln tp rd cnt era nws), (wWalk g w (ru 0) sp9_1 nb9_1 mt9_1 pl9_1 op9_1 no9_1 od9_1 stm wc9_1), (wRules g ru kd fi se sg le de nx he ro rc re rr)]) (lv' := [(2, .ref ((ad i9) 0)), (1, .int (iI (wc9_1 - wc))), (0, .ref x)]) [1, 0, 2, 3, 4, 5, 6] [0, 1, 2] rfl rfl rfl ?_
  refine G.to (fs' := [(wShelf g (ad i9) ((ss i9).L) ((ss i9).ln) ((ss i9).tp) ((ss i9).rd) ((ss i9).cnt) ((ss i9).era) (wc9_1 - wc)), (wPoolX g ad ss n i9), (wPileH g p n sh old cn), (wMain g x tpa (a 0) da (p 0) qa rua (w 0) sa bka taped told), (wShelf g a L ln tp rd cnt era nws), (wWalk g w (ru 0) sp9_1 nb9_1 mt9_1 pl9_1 op9_1 no9_1 od9_1 stm wc9_1), (wRules g ru kd fi se sg le de nx he ro rc re rr)]) (lv' := [(2, .ref ((ad i9) 0)), (1, .int (iI (wc9_1 - wc))), (0, .ref x)]) [1, 0, 2, 3, 4, 5, 6] [0, 1, 2] rfl rfl rfl ?_
  refine G.perm (fs' := [(wPool g ad (upS ss i9 (shs ((ss i9).L) ((ss i9).ln) ((ss i9).tp) ((ss i9).rd) ((ss i9).cnt) ((ss i9).era) (wc9_1 - wc))) n), (wPileH g p n sh old cn), (wMain g x tpa (a 0) da (p 0) qa rua (w 0) sa bka taped told), (wShelf g a L ln tp rd cnt era nws), (wWalk g w (ru 0) sp9_1 nb9_1 mt9_1 pl9_1 op9_1 no9_1 od9_1 stm wc9_1), (wRules g ru kd fi se sg le de nx he ro rc re rr)]) (perm_in (pool_in g _ _ h9_1 (shs ((ss i9).L) ((ss i9).ln) ((ss i9).tp) ((ss i9).rd) ((ss i9).cnt) ((ss i9).era) (wc9_1 - wc)))) ?_
  refine G.to (fs' := [(wMain g x tpa (a 0) da (p 0) qa rua (w 0) sa bka taped told), (wShelf g a L ln tp rd cnt era nws), (wWalk g w (ru 0) sp9_1 nb9_1 mt9_1 pl9_1 op9_1 no9_1 od9_1 stm wc9_1), (wRules g ru kd fi se sg le de nx he ro rc re rr), (wPileH g p n sh old cn), (wPool g ad (upS ss i9 (shs ((ss i9).L) ((ss i9).ln) ((ss i9).tp) ((ss i9).rd) ((ss i9).cnt) ((ss i9).era) (wc9_1 - wc))) n)]) [2, 3, 4, 5, 1, 0] [0, 1, 2] rfl rfl rfl ?_
  refine r_return hE hR [(wMain g x tpa (a 0) da (p 0) qa rua (w 0) sa bka taped told), (wShelf g a L ln tp rd cnt era nws), (wWalk g w (ru 0) sp9_1 nb9_1 mt9_1 pl9_1 op9_1 no9_1 od9_1 stm wc9_1), (wRules g ru kd fi se sg le de nx he ro rc re rr), (wPileH g p n sh old cn), (wPool g ad (upS ss i9 (shs ((ss i9).L) ((ss i9).ln) ((ss i9).tp) ((ss i9).rd) ((ss i9).cnt) ((ss i9).era) (wc9_1 - wc))) n)] dX8_endAct_22 (Nat.le_of_ble_eq_true rfl) (Nat.le_of_ble_eq_true rfl) rfl ?_
  exact ⟨_, _, _, _, _, _, _, _, _, i9, rfl, rfl, h1_0, h1_1, h9_0, h9_1⟩
set_option maxHeartbeats 4000000 in
set_option maxRecDepth 100000 in
theorem c_X8_newsOfLatest {g : Gm} {p : Nat → Nat} {n : Nat} {sh : Nat → Option Nat} {old cn : Int} {ad : Nat → Nat → Nat} {ss : Nat → ShS} {x tpa na da qa rua wa sa bka : Nat} {taped told : Int} (hpn : 1 ≤ (n : Int) ∧ (n : Int) ≤ 8) (hpo : 0 ≤ old ∧ old < (n : Int) ∧ 0 ≤ cn ∧ cn ≤ (n : Int)) (hsa : ∀ i, i < n → sh i = some ((ad i) 0)) (hc1 : 1 ≤ cn) : Ct g 1 0 0 yX8_newsOfLatest cX8_newsOfLatest 2 (some .int) [.ref x] [(wMain g x tpa na da (p 0) qa rua wa sa bka taped told), (wPileH g p n sh old cn), (wPool g ad ss n)] (fun v_ w_ => ∃ i9 : Nat, v_ = some (.int (iI ((ss i9).nws))) ∧ w_ = [(wMain g x tpa na da (p 0) qa rua wa sa bka taped told), (wPileH g p n sh old cn), (wPool g ad ss n)] ∧ ((i9 : Int) = (old + cn - 1) % (n : Int)) ∧ (i9 < n)) := by
  refine Ct.of (by decide) (Nat.le_of_ble_eq_true rfl) (lv := [(0, .ref x)]) rfl ?_
  intro E hE hR hnm
  refine r_aload_n 1 hE 0 dX8_newsOfLatest_0 rfl rfl rfl ?_
  refine r_get 4 hE 0 0 ok8 6 dX8_newsOfLatest_1 rfl wd_303 rfl rfl (by decide) rfl ?_
  refine r_callV 7 hE [1] [0, 2] [(wPileH g p n sh old cn)] [(wMain g x tpa na da (p 0) qa rua wa sa bka taped told), (wPool g ad ss n)] 0 1 ok1 [] (c_X1_latest (by omega) (by omega) (hsa) (by omega)) dX8_newsOfLatest_4 rfl rfl wd_738 wd_722 wd_723 wd_7 wd_724 ne_X1 np_X1_latest (Nat.le_of_ble_eq_true rfl)  (by decide) (by decide) rfl (Nat.le_of_ble_eq_true rfl) rfl rfl rfl rfl (by decide) rfl (fun v1 f1 hp => ?_)
  obtain ⟨i9, rfl, rfl, h4_0, h4_1⟩ := hp
  show G g E _ _ _ [(wPileH g p n sh old cn), (wMain g x tpa na da (p 0) qa rua wa sa bka taped told), (wPool g ad ss n)] 7 [(0, .ref x)] [.ref ((ad i9) 0)]
  refine r_astore_n 8 hE [(1, .ref ((ad i9) 0)), (0, .ref x)] dX8_newsOfLatest_7 rfl rfl (by decide) rfl ?_
  refine r_aload_n 9 hE 0 dX8_newsOfLatest_8 rfl rfl rfl ?_
  refine r_ifnonnull 16 hE dX8_newsOfLatest_9 (by decide) ?_
  refine G.to (fs' := [(wPool g ad ss n), (wPileH g p n sh old cn), (wMain g x tpa na da (p 0) qa rua wa sa bka taped told)]) (lv' := [(1, .ref ((ad i9) 0)), (0, .ref x)]) [2, 0, 1] [0, 1] rfl rfl rfl ?_
  refine G.perm (fs' := [(wShelf g (ad i9) ((ss i9).L) ((ss i9).ln) ((ss i9).tp) ((ss i9).rd) ((ss i9).cnt) ((ss i9).era) ((ss i9).nws)), (wPoolX g ad ss n i9), (wPileH g p n sh old cn), (wMain g x tpa na da (p 0) qa rua wa sa bka taped told)]) (perm_out (pool_out g _ _ h4_1)) ?_
  refine r_aload_n 17 hE 0 dX8_newsOfLatest_16 rfl rfl rfl ?_
  refine r_get 20 hE 0 0 ok5 6 dX8_newsOfLatest_17 rfl wd_87 rfl rfl (by decide) rfl ?_
  refine G.to (fs' := [(wPoolX g ad ss n i9), (wShelf g (ad i9) ((ss i9).L) ((ss i9).ln) ((ss i9).tp) ((ss i9).rd) ((ss i9).cnt) ((ss i9).era) ((ss i9).nws)), (wPileH g p n sh old cn), (wMain g x tpa na da (p 0) qa rua wa sa bka taped told)]) (lv' := [(1, .ref ((ad i9) 0)), (0, .ref x)]) [1, 0, 2, 3] [0, 1] rfl rfl rfl ?_
  refine G.to (fs' := [(wShelf g (ad i9) ((ss i9).L) ((ss i9).ln) ((ss i9).tp) ((ss i9).rd) ((ss i9).cnt) ((ss i9).era) ((ss i9).nws)), (wPoolX g ad ss n i9), (wPileH g p n sh old cn), (wMain g x tpa na da (p 0) qa rua wa sa bka taped told)]) (lv' := [(1, .ref ((ad i9) 0)), (0, .ref x)]) [1, 0, 2, 3] [0, 1] rfl rfl rfl ?_
  refine G.perm (fs' := [(wPool g ad ss n), (wPileH g p n sh old cn), (wMain g x tpa na da (p 0) qa rua wa sa bka taped told)]) (perm_in (pool_out g _ _ h4_1).symm) ?_
  refine G.to (fs' := [(wMain g x tpa na da (p 0) qa rua wa sa bka taped told), (wPileH g p n sh old cn), (wPool g ad ss n)]) [2, 1, 0] [0, 1] rfl rfl rfl ?_
  refine r_ireturn hE hR [(wMain g x tpa na da (p 0) qa rua wa sa bka taped told), (wPileH g p n sh old cn), (wPool g ad ss n)] dX8_newsOfLatest_20 (Nat.le_of_ble_eq_true rfl) (Nat.le_of_ble_eq_true rfl) rfl ?_
  exact ⟨i9, rfl, rfl, h4_0, h4_1⟩
set_option maxHeartbeats 4000000 in
set_option maxRecDepth 100000 in
theorem c_X8_newsOfLatest_no {g : Gm} {p : Nat → Nat} {n : Nat} {sh : Nat → Option Nat} {old cn : Int} {x tpa na da qa rua wa sa bka : Nat} {taped told : Int} (hpn : 1 ≤ (n : Int) ∧ (n : Int) ≤ 8) (hc0 : cn = 0) : Ct g 1 0 0 yX8_newsOfLatest cX8_newsOfLatest 2 (some .int) [.ref x] [(wMain g x tpa na da (p 0) qa rua wa sa bka taped told), (wPileH g p n sh old cn)] (fun v_ w_ => v_ = some (.int (iI 0)) ∧ w_ = [(wMain g x tpa na da (p 0) qa rua wa sa bka taped told), (wPileH g p n sh old cn)]) := by
  refine Ct.of (by decide) (Nat.le_of_ble_eq_true rfl) (lv := [(0, .ref x)]) rfl ?_
  intro E hE hR hnm
  refine r_aload_n 1 hE 0 dX8_newsOfLatest_0 rfl rfl rfl ?_
  refine r_get 4 hE 0 0 ok8 6 dX8_newsOfLatest_1 rfl wd_303 rfl rfl (by decide) rfl ?_
  refine r_callV 7 hE [1] [0] [(wPileH g p n sh old cn)] [(wMain g x tpa na da (p 0) qa rua wa sa bka taped told)] 0 1 ok1 [] (c_X1_latest_no (by omega) (by omega)) dX8_newsOfLatest_4 rfl rfl wd_738 wd_722 wd_723 wd_7 wd_724 ne_X1 np_X1_latest (Nat.le_of_ble_eq_true rfl)  (by decide) (by decide) rfl (Nat.le_of_ble_eq_true rfl) rfl rfl rfl rfl (by decide) rfl (fun v1 f1 hp => ?_)
  obtain ⟨rfl, rfl⟩ := hp
  show G g E _ _ _ [(wPileH g p n sh old cn), (wMain g x tpa na da (p 0) qa rua wa sa bka taped told)] 7 [(0, .ref x)] [.null]
  refine r_astore_nN 8 hE [(1, .null), (0, .ref x)] dX8_newsOfLatest_7 rfl rfl (by decide) rfl ?_
  refine r_aload_nN 9 hE 0 dX8_newsOfLatest_8 rfl rfl rfl ?_
  refine r_ifnonnullN 12 hE dX8_newsOfLatest_9 rfl ?_
  refine r_iconst 13 hE dX8_newsOfLatest_12 rfl ?_
  refine r_goto 20 hE dX8_newsOfLatest_13 (by decide) ?_
  refine G.to (fs' := [(wMain g x tpa na da (p 0) qa rua wa sa bka taped told), (wPileH g p n sh old cn)]) [1, 0] [0, 1] rfl rfl rfl ?_
  refine r_ireturn hE hR [(wMain g x tpa na da (p 0) qa rua wa sa bka taped told), (wPileH g p n sh old cn)] dX8_newsOfLatest_20 (Nat.le_of_ble_eq_true rfl) (Nat.le_of_ble_eq_true rfl) rfl ?_
  exact ⟨retI (rfl), rfl⟩
set_option maxHeartbeats 4000000 in
set_option maxRecDepth 100000 in
theorem c_X8_restoreFrom {g : Gm} {a : Nat → Nat} {L ln tp rd : Int → Int} {cnt era nws : Int} {ru : Nat → Nat} {kd fi se sg le de nx he ro : Int → Int} {rc re rr : Int} {R : Int → Rl} {p : Nat → Nat} {n : Nat} {sh : Nat → Option Nat} {old cn : Int} {ad : Nat → Nat → Nat} {ss : Nat → ShS} {x tpa da pa qa wa sa bka : Nat} {taped told : Int} (hT : RT kd fi se sg le de nx he rc R) (hB : BR L) (hpn : 1 ≤ (n : Int) ∧ (n : Int) ≤ 8) (hpo : 0 ≤ old ∧ old < (n : Int) ∧ 0 ≤ cn ∧ cn ≤ (n : Int)) (hsa : ∀ i, i < n → sh i = some ((ad i) 0)) (hc1 : 1 ≤ cn) (hre : 0 ≤ re ∧ re ≤ 900000) (hk : ∀ i : Nat, (i : Int) = (old + cn - 1) % (n : Int) → KeptOk R rc re (ss i)) : Ct g 5 0 0 yX8_restoreFrom cX8_restoreFrom 3 (some .int) [.ref x, .ref (p 0)] [(wMain g x tpa (a 0) da pa qa (ru 0) wa sa bka taped told), (wShelf g a L ln tp rd cnt era nws), (wRules g ru kd fi se sg le de nx he ro rc re rr), (wPileH g p n sh old cn), (wPool g ad ss n)] (fun v_ w_ => ∃ kd9 : Int → Int, ∃ fi9 : Int → Int, ∃ se9 : Int → Int, ∃ sg9 : Int → Int, ∃ le9 : Int → Int, ∃ de9 : Int → Int, ∃ nx9 : Int → Int, ∃ he9 : Int → Int, ∃ rc9 : Int, ∃ R9 : Int → Rl, ∃ ro9 : Int → Int, ∃ re9 : Int, ∃ rr9 : Int, ∃ tp9 : Int → Int, ∃ rd9 : Int → Int, ∃ L9 : Int → Int, ∃ ln9 : Int → Int, ∃ i9 : Nat, v_ = some (.int (iI (cn - 1))) ∧ w_ = [(wMain g x tpa (a 0) da pa qa (ru 0) wa sa bka taped 0), (wShelf g a L9 ln9 tp9 rd9 ((ss i9).cnt) re9 nws), (wRules g ru kd9 fi9 se9 sg9 le9 de9 nx9 he9 ro9 rc9 re9 rr9), (wPileH g p n sh old (cn - 1)), (wPool g ad ss n)] ∧ (RT kd9 fi9 se9 sg9 le9 de9 nx9 he9 rc9 R9) ∧ (TopsOk R9 rc9 L9 ln9 tp9 rd9 (ss i9).cnt) ∧ ((re9 = re ∧ rc ≤ rc9 ∧ (∀ i, 0 ≤ i → i < rc → R9 i = R i)) ∨ re9 = re + 1) ∧ ((i9 : Int) = (old + cn - 1) % (n : Int)) ∧ (i9 < n) ∧ (ShOk L9 ln9 (ss i9).cnt) ∧ (∀ t, 0 ≤ t → t < (ss i9).cnt → ln9 t = (ss i9).ln t ∧ ∀ k, 0 ≤ k → k < (ss i9).ln t → L9 (600 * t + k) = (ss i9).L (600 * t + k))) := by
  refine Ct.of (by decide) (Nat.le_of_ble_eq_true rfl) (lv := [(0, .ref x), (1, .ref (p 0))]) rfl ?_
  intro E hE hR hnm
  have hcn := hT.1
  refine r_aload_n 1 hE 1 dX8_restoreFrom_0 rfl rfl rfl ?_
  refine r_callV 4 hE [3] [0, 1, 2, 4] [(wPileH g p n sh old cn)] [(wMain g x tpa (a 0) da pa qa (ru 0) wa sa bka taped told), (wShelf g a L ln tp rd cnt era nws), (wRules g ru kd fi se sg le de nx he ro rc re rr), (wPool g ad ss n)] 0 1 ok1 [] (c_X1_latest (by omega) (by omega) (hsa) (by omega)) dX8_restoreFrom_1 rfl rfl wd_738 wd_722 wd_723 wd_7 wd_724 ne_X1 np_X1_latest (Nat.le_of_ble_eq_true rfl)  (by decide) (by decide) rfl (Nat.le_of_ble_eq_true rfl) rfl rfl rfl rfl (by decide) rfl (fun v1 f1 hp => ?_)
  obtain ⟨i9, rfl, rfl, h1_0, h1_1⟩ := hp
  show G g E _ _ _ [(wPileH g p n sh old cn), (wMain g x tpa (a 0) da pa qa (ru 0) wa sa bka taped told), (wShelf g a L ln tp rd cnt era nws), (wRules g ru kd fi se sg le de nx he ro rc re rr), (wPool g ad ss n)] 4 [(0, .ref x), (1, .ref (p 0))] [.ref ((ad i9) 0)]
  have hK := hk i9 h1_0
  have hKc := hK.1.1
  have hKe := hK.2.1
  refine r_astore_n 5 hE [(2, .ref ((ad i9) 0)), (0, .ref x), (1, .ref (p 0))] dX8_restoreFrom_4 rfl rfl (by decide) rfl ?_
  refine r_aload_n 6 hE 0 dX8_restoreFrom_5 rfl rfl rfl ?_
  refine r_ifnonnull 15 hE dX8_restoreFrom_6 (by decide) ?_
  refine r_aload_n 16 hE 1 dX8_restoreFrom_15 rfl rfl rfl ?_
  refine r_get 19 hE 1 0 ok8 4 dX8_restoreFrom_16 rfl wd_301 rfl rfl (by decide) rfl ?_
  refine r_aload_n 20 hE 0 dX8_restoreFrom_19 rfl rfl rfl ?_
  refine G.to (fs' := [(wPool g ad ss n), (wPileH g p n sh old cn), (wMain g x tpa (a 0) da pa qa (ru 0) wa sa bka taped told), (wShelf g a L ln tp rd cnt era nws), (wRules g ru kd fi se sg le de nx he ro rc re rr)]) (lv' := [(2, .ref ((ad i9) 0)), (0, .ref x), (1, .ref (p 0))]) [4, 0, 1, 2, 3] [0, 1, 2] rfl rfl rfl ?_
  refine G.perm (fs' := [(wShelf g (ad i9) ((ss i9).L) ((ss i9).ln) ((ss i9).tp) ((ss i9).rd) ((ss i9).cnt) ((ss i9).era) ((ss i9).nws)), (wPoolX g ad ss n i9), (wPileH g p n sh old cn), (wMain g x tpa (a 0) da pa qa (ru 0) wa sa bka taped told), (wShelf g a L ln tp rd cnt era nws), (wRules g ru kd fi se sg le de nx he ro rc re rr)]) (perm_out (pool_out g _ _ h1_1)) ?_
  refine r_callV 23 hE [4, 0] [1, 2, 3, 5] [(wShelf g a L ln tp rd cnt era nws), (wShelf g (ad i9) ((ss i9).L) ((ss i9).ln) ((ss i9).tp) ((ss i9).rd) ((ss i9).cnt) ((ss i9).era) ((ss i9).nws))] [(wPoolX g ad ss n i9), (wPileH g p n sh old cn), (wMain g x tpa (a 0) da pa qa (ru 0) wa sa bka taped told), (wRules g ru kd fi se sg le de nx he ro rc re rr)] 0 5 ok5 [] (c_X5_copy (by omega) (hK.1.ln) (hB) (hK.1.2.1)) dX8_restoreFrom_20 rfl rfl wd_733 wd_726 wd_727 wd_4 wd_728 ne_X5 np_X5_copy (Nat.le_of_ble_eq_true rfl)  (by decide) (by decide) rfl (Nat.le_of_ble_eq_true rfl) rfl rfl rfl rfl (by decide) rfl (fun v1 f1 hp => ?_)
  obtain ⟨L9_20, ln9_20, tp9_20, rd9_20, rfl, rfl, h20_0, h20_1⟩ := hp
  show G g E _ _ _ [(wShelf g a L9_20 ln9_20 tp9_20 rd9_20 ((ss i9).cnt) ((ss i9).era) nws), (wShelf g (ad i9) ((ss i9).L) ((ss i9).ln) ((ss i9).tp) ((ss i9).rd) ((ss i9).cnt) ((ss i9).era) ((ss i9).nws)), (wPoolX g ad ss n i9), (wPileH g p n sh old cn), (wMain g x tpa (a 0) da pa qa (ru 0) wa sa bka taped told), (wRules g ru kd fi se sg le de nx he ro rc re rr)] 23 [(2, .ref ((ad i9) 0)), (0, .ref x), (1, .ref (p 0))] []
  have hS9 := hK.1.copy h20_0 h20_1
  refine G.to (fs' := [(wPoolX g ad ss n i9), (wShelf g a L9_20 ln9_20 tp9_20 rd9_20 ((ss i9).cnt) ((ss i9).era) nws), (wShelf g (ad i9) ((ss i9).L) ((ss i9).ln) ((ss i9).tp) ((ss i9).rd) ((ss i9).cnt) ((ss i9).era) ((ss i9).nws)), (wPileH g p n sh old cn), (wMain g x tpa (a 0) da pa qa (ru 0) wa sa bka taped told), (wRules g ru kd fi se sg le de nx he ro rc re rr)]) (lv' := [(2, .ref ((ad i9) 0)), (0, .ref x), (1, .ref (p 0))]) [2, 0, 1, 3, 4, 5] [0, 1, 2] rfl rfl rfl ?_
  refine G.to (fs' := [(wShelf g (ad i9) ((ss i9).L) ((ss i9).ln) ((ss i9).tp) ((ss i9).rd) ((ss i9).cnt) ((ss i9).era) ((ss i9).nws)), (wPoolX g ad ss n i9), (wShelf g a L9_20 ln9_20 tp9_20 rd9_20 ((ss i9).cnt) ((ss i9).era) nws), (wPileH g p n sh old cn), (wMain g x tpa (a 0) da pa qa (ru 0) wa sa bka taped told), (wRules g ru kd fi se sg le de nx he ro rc re rr)]) (lv' := [(2, .ref ((ad i9) 0)), (0, .ref x), (1, .ref (p 0))]) [2, 0, 1, 3, 4, 5] [0, 1, 2] rfl rfl rfl ?_
  refine G.perm (fs' := [(wPool g ad ss n), (wShelf g a L9_20 ln9_20 tp9_20 rd9_20 ((ss i9).cnt) ((ss i9).era) nws), (wPileH g p n sh old cn), (wMain g x tpa (a 0) da pa qa (ru 0) wa sa bka taped told), (wRules g ru kd fi se sg le de nx he ro rc re rr)]) (perm_in (pool_out g _ _ h1_1).symm) ?_
  refine r_aload_n 24 hE 2 dX8_restoreFrom_23 rfl rfl rfl ?_
  refine r_callV 27 hE [2] [0, 1, 3, 4] [(wPileH g p n sh old cn)] [(wPool g ad ss n), (wShelf g a L9_20 ln9_20 tp9_20 rd9_20 ((ss i9).cnt) ((ss i9).era) nws), (wMain g x tpa (a 0) da pa qa (ru 0) wa sa bka taped told), (wRules g ru kd fi se sg le de nx he ro rc re rr)] 0 1 ok1 [] (c_X1_forgetLatest (by omega)) dX8_restoreFrom_24 rfl rfl wd_952 wd_953 wd_954 wd_7 wd_955 ne_X1 np_X1_forgetLatest (Nat.le_of_ble_eq_true rfl)  (by decide) (by decide) rfl (Nat.le_of_ble_eq_true rfl) rfl rfl rfl rfl (by decide) rfl (fun v1 f1 hp => ?_)
  obtain ⟨rfl, rfl⟩ := hp
  show G g E _ _ _ [(wPileH g p n sh old (cn - 1)), (wPool g ad ss n), (wShelf g a L9_20 ln9_20 tp9_20 rd9_20 ((ss i9).cnt) ((ss i9).era) nws), (wMain g x tpa (a 0) da pa qa (ru 0) wa sa bka taped told), (wRules g ru kd fi se sg le de nx he ro rc re rr)] 27 [(2, .ref ((ad i9) 0)), (0, .ref x), (1, .ref (p 0))] []
  refine r_aload_n 28 hE 1 dX8_restoreFrom_27 rfl rfl rfl ?_
  refine r_sipush 31 hE dX8_restoreFrom_28 rfl (by decide) ?_
  refine r_callV 34 hE [3, 2, 4] [0, 1] [(wMain g x tpa (a 0) da pa qa (ru 0) wa sa bka taped told), (wShelf g a L9_20 ln9_20 tp9_20 rd9_20 ((ss i9).cnt) ((ss i9).era) nws), (wRules g ru kd fi se sg le de nx he ro rc re rr)] [(wPileH g p n sh old (cn - 1)), (wPool g ad ss n)] 0 8 ok8 [] (c_X8_settle (hT) (hS9) (by omega) (by omega) (fun e => (hK.2.2 e).copy h20_0) (fun _ z => by have := sumF_600 hS9.ln hS9.1; omega)) dX8_restoreFrom_31 rfl rfl wd_618 wd_620 ws_22 wd_1 wd_621 ne_X8 np_X8_settle (Nat.le_of_ble_eq_true rfl)  (by decide) (by decide) rfl (Nat.le_of_ble_eq_true rfl) rfl rfl rfl rfl (by decide) rfl (fun v1 f1 hp => ?_)
  obtain ⟨kd9_31, fi9_31, se9_31, sg9_31, le9_31, de9_31, nx9_31, he9_31, rc9_31, R9_31, ro9_31, re9_31, rr9_31, tp9_31, rd9_31, rfl, rfl, h31_0, h31_1, h31_2⟩ := hp
  show G g E _ _ _ [(wMain g x tpa (a 0) da pa qa (ru 0) wa sa bka taped told), (wShelf g a L9_20 ln9_20 tp9_31 rd9_31 ((ss i9).cnt) re9_31 nws), (wRules g ru kd9_31 fi9_31 se9_31 sg9_31 le9_31 de9_31 nx9_31 he9_31 ro9_31 rc9_31 re9_31 rr9_31), (wPileH g p n sh old (cn - 1)), (wPool g ad ss n)] 34 [(2, .ref ((ad i9) 0)), (0, .ref x), (1, .ref (p 0))] []
  refine r_aload_n 35 hE 1 dX8_restoreFrom_34 rfl rfl rfl ?_
  refine r_aload_n 36 hE 2 dX8_restoreFrom_35 rfl rfl rfl ?_
  refine r_get 39 hE 3 0 ok1 2 dX8_restoreFrom_36 rfl wd_186 rfl rfl (by decide) rfl ?_
  refine r_callV 42 hE [0] [1, 2, 3, 4] [(wMain g x tpa (a 0) da pa qa (ru 0) wa sa bka taped told)] [(wShelf g a L9_20 ln9_20 tp9_31 rd9_31 ((ss i9).cnt) re9_31 nws), (wRules g ru kd9_31 fi9_31 se9_31 sg9_31 le9_31 de9_31 nx9_31 he9_31 ro9_31 rc9_31 re9_31 rr9_31), (wPileH g p n sh old (cn - 1)), (wPool g ad ss n)] 0 8 ok8 [] (c_X8_answer) dX8_restoreFrom_39 rfl rfl wd_739 wd_741 ws_33 wd_1 wd_742 ne_X8 np_X8_answer (Nat.le_of_ble_eq_true rfl)  (by decide) (by decide) rfl (Nat.le_of_ble_eq_true rfl) rfl rfl rfl rfl (by decide) rfl (fun v1 f1 hp => ?_)
  obtain ⟨rfl, rfl⟩ := hp
  show G g E _ _ _ [(wMain g x tpa (a 0) da pa qa (ru 0) wa sa bka taped 0), (wShelf g a L9_20 ln9_20 tp9_31 rd9_31 ((ss i9).cnt) re9_31 nws), (wRules g ru kd9_31 fi9_31 se9_31 sg9_31 le9_31 de9_31 nx9_31 he9_31 ro9_31 rc9_31 re9_31 rr9_31), (wPileH g p n sh old (cn - 1)), (wPool g ad ss n)] 42 [(2, .ref ((ad i9) 0)), (0, .ref x), (1, .ref (p 0))] [.int (iI (cn - 1))]
  refine r_ireturn hE hR [(wMain g x tpa (a 0) da pa qa (ru 0) wa sa bka taped 0), (wShelf g a L9_20 ln9_20 tp9_31 rd9_31 ((ss i9).cnt) re9_31 nws), (wRules g ru kd9_31 fi9_31 se9_31 sg9_31 le9_31 de9_31 nx9_31 he9_31 ro9_31 rc9_31 re9_31 rr9_31), (wPileH g p n sh old (cn - 1)), (wPool g ad ss n)] dX8_restoreFrom_42 (Nat.le_of_ble_eq_true rfl) (Nat.le_of_ble_eq_true rfl) rfl ?_
  refine ⟨_, _, _, _, _, _, _, _, _, _, _, _, _, _, _, _, _, i9, rfl, rfl, h31_0, h31_1, ?_, h1_0, h1_1, hS9, fun t a b => ?_⟩
  · rcases h31_2 with z | z
    · exact Or.inl ⟨z.1, z.2.1, z.2.2.1⟩
    · exact Or.inr z.1
  · obtain ⟨z1, -, -, z4⟩ := h20_0 t a b
    exact ⟨z1, z4⟩
set_option maxHeartbeats 4000000 in
set_option maxRecDepth 100000 in
theorem c_X8_restoreFrom_no {g : Gm} {x tpa na da pa qa rua wa sa bka : Nat} {taped told : Int} {p : Nat → Nat} {n : Nat} {sh : Nat → Option Nat} {old cn : Int} (hpn : 1 ≤ (n : Int) ∧ (n : Int) ≤ 8) (hc0 : cn = 0) : Ct g 5 0 0 yX8_restoreFrom cX8_restoreFrom 3 (some .int) [.ref x, .ref (p 0)] [(wMain g x tpa na da pa qa rua wa sa bka taped told), (wPileH g p n sh old cn)] (fun v_ w_ => v_ = some (.int (iI (-1))) ∧ w_ = [(wMain g x tpa na da pa qa rua wa sa bka taped 5), (wPileH g p n sh old cn)]) := by
  refine Ct.of (by decide) (Nat.le_of_ble_eq_true rfl) (lv := [(0, .ref x), (1, .ref (p 0))]) rfl ?_
  intro E hE hR hnm
  refine r_aload_n 1 hE 1 dX8_restoreFrom_0 rfl rfl rfl ?_
  refine r_callV 4 hE [1] [0] [(wPileH g p n sh old cn)] [(wMain g x tpa na da pa qa rua wa sa bka taped told)] 0 1 ok1 [] (c_X1_latest_no (by omega) (by omega)) dX8_restoreFrom_1 rfl rfl wd_738 wd_722 wd_723 wd_7 wd_724 ne_X1 np_X1_latest (Nat.le_of_ble_eq_true rfl)  (by decide) (by decide) rfl (Nat.le_of_ble_eq_true rfl) rfl rfl rfl rfl (by decide) rfl (fun v1 f1 hp => ?_)
  obtain ⟨rfl, rfl⟩ := hp
  show G g E _ _ _ [(wPileH g p n sh old cn), (wMain g x tpa na da pa qa rua wa sa bka taped told)] 4 [(0, .ref x), (1, .ref (p 0))] [.null]
  refine r_astore_nN 5 hE [(2, .null), (0, .ref x), (1, .ref (p 0))] dX8_restoreFrom_4 rfl rfl (by decide) rfl ?_
  refine r_aload_nN 6 hE 0 dX8_restoreFrom_5 rfl rfl rfl ?_
  refine r_ifnonnullN 9 hE dX8_restoreFrom_6 rfl ?_
  refine r_aload_n 10 hE 1 dX8_restoreFrom_9 rfl rfl rfl ?_
  refine r_iconst 11 hE dX8_restoreFrom_10 rfl ?_
  refine r_callV 14 hE [1] [0] [(wMain g x tpa na da pa qa rua wa sa bka taped told)] [(wPileH g p n sh old cn)] 0 8 ok8 [] (c_X8_refuse) dX8_restoreFrom_11 rfl rfl wd_347 wd_349 ws_1 wd_1 wd_350 ne_X8 np_X8_refuse (Nat.le_of_ble_eq_true rfl)  (by decide) (by decide) rfl (Nat.le_of_ble_eq_true rfl) rfl rfl rfl rfl (by decide) rfl (fun v1 f1 hp => ?_)
  obtain ⟨rfl, rfl⟩ := hp
  show G g E _ _ _ [(wMain g x tpa na da pa qa rua wa sa bka taped 5), (wPileH g p n sh old cn)] 14 [(2, .null), (0, .ref x), (1, .ref (p 0))] [.int (iI (-1))]
  refine r_ireturn hE hR [(wMain g x tpa na da pa qa rua wa sa bka taped 5), (wPileH g p n sh old cn)] dX8_restoreFrom_14 (Nat.le_of_ble_eq_true rfl) (Nat.le_of_ble_eq_true rfl) rfl ?_
  exact ⟨retI (rfl), rfl⟩
