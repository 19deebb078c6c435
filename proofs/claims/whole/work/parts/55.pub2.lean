set_option maxHeartbeats 4000000 in
set_option maxRecDepth 100000 in
theorem c_X8_many_0 {g : Gm} {a : Nat → Nat} {L ln tp rd : Int → Int} {cnt era nws : Int} {x tpa da pa qa rua wa sa bka : Nat} {taped told : Int} {v : Int} (hw : v = 0) : Ct g 5 0 0 yX8_many cX8_many 2 (some .int) [.ref x, .int (iI v)] [(wMain g x tpa (a 0) da pa qa rua wa sa bka taped told), (wShelf g a L ln tp rd cnt era nws)] (fun v_ w_ => v_ = some (.int (iI cnt)) ∧ w_ = [(wMain g x tpa (a 0) da pa qa rua wa sa bka taped 0), (wShelf g a L ln tp rd cnt era nws)]) := by
  refine Ct.of (by decide) (Nat.le_of_ble_eq_true rfl) (lv := [(0, .ref x), (1, .int (iI v))]) rfl ?_
  intro E hE hR hnm
  refine r_iload_n 1 hE 1 dX8_many_0 rfl rfl rfl ?_
  refine r_tsIn 40 hE 0 dX8_many_1 (hw) (by decide) rfl (by decide) ?_
  refine r_aload_n 41 hE 0 dX8_many_40 rfl rfl rfl ?_
  refine r_aload_n 42 hE 0 dX8_many_41 rfl rfl rfl ?_
  refine r_get 45 hE 0 0 ok8 4 dX8_many_42 rfl wd_301 rfl rfl (by decide) rfl ?_
  refine r_get 48 hE 1 0 ok5 4 dX8_many_45 rfl wd_84 rfl rfl (by decide) rfl ?_
  refine r_callV 51 hE [0] [1] [(wMain g x tpa (a 0) da pa qa rua wa sa bka taped told)] [(wShelf g a L ln tp rd cnt era nws)] 0 8 ok8 [] (c_X8_answer) dX8_many_48 rfl rfl wd_739 wd_741 ws_33 wd_1 wd_742 ne_X8 np_X8_answer (Nat.le_of_ble_eq_true rfl)  (by decide) (by decide) rfl (Nat.le_of_ble_eq_true rfl) rfl rfl rfl rfl (by decide) rfl (fun v1 f1 hp => ?_)
  obtain ⟨rfl, rfl⟩ := hp
  show G g E _ _ _ [(wMain g x tpa (a 0) da pa qa rua wa sa bka taped 0), (wShelf g a L ln tp rd cnt era nws)] 51 [(0, .ref x), (1, .int (iI v))] [.int (iI cnt)]
  refine r_ireturn hE hR [(wMain g x tpa (a 0) da pa qa rua wa sa bka taped 0), (wShelf g a L ln tp rd cnt era nws)] dX8_many_51 (Nat.le_of_ble_eq_true rfl) (Nat.le_of_ble_eq_true rfl) rfl ?_
  exact ⟨retI (rfl), rfl⟩
set_option maxHeartbeats 4000000 in
set_option maxRecDepth 100000 in
theorem c_X8_many_1 {g : Gm} {a : Nat → Nat} {L ln tp rd : Int → Int} {cnt era nws : Int} {ru : Nat → Nat} {kd fi se sg le de nx he ro : Int → Int} {rc re rr : Int} {R : Int → Rl} {w : Nat → Nat} {sp nb mt pl op no : Int → Int} {od stm wc : Int} {x tpa da pa qa rua sa bka : Nat} {taped told : Int} {v : Int} (hw : v = 1) (hT : RT kd fi se sg le de nx he rc R) (hc : 0 ≤ cnt ∧ cnt ≤ 8) (hto : TopsOk R rc L ln tp rd cnt) (hWI : 0 ≤ stm ∧ ∀ i, 0 ≤ i → i < 10240 → 0 ≤ sp i ∧ sp i ≤ stm) (hs2 : stm ≤ 1500000000) : Ct g 5 0 0 yX8_many cX8_many 2 (some .int) [.ref x, .int (iI v)] [(wMain g x tpa (a 0) da pa qa rua (w 0) sa bka taped told), (wShelf g a L ln tp rd cnt era nws), (wWalk g w (ru 0) sp nb mt pl op no od stm wc), (wRules g ru kd fi se sg le de nx he ro rc re rr)] (fun v_ w_ => ∃ sp9 : Int → Int, ∃ nb9 : Int → Int, ∃ mt9 : Int → Int, ∃ pl9 : Int → Int, ∃ op9 : Int → Int, ∃ no9 : Int → Int, ∃ od9 : Int, ∃ wc9 : Int, v_ = some (.int (iI wc9)) ∧ w_ = [(wMain g x tpa (a 0) da pa qa rua (w 0) sa bka taped 0), (wShelf g a L ln tp rd cnt era nws), (wWalk g w (ru 0) sp9 nb9 mt9 pl9 op9 no9 od9 (stm + 1) wc9), (wRules g ru kd fi se sg le de nx he ro rc re rr)] ∧ (0 ≤ stm + 1 ∧ ∀ i, 0 ≤ i → i < 10240 → 0 ≤ sp9 i ∧ sp9 i ≤ stm + 1) ∧ (AllRules (tx L) ln cnt wc9)) := by
  refine Ct.of (by decide) (Nat.le_of_ble_eq_true rfl) (lv := [(0, .ref x), (1, .int (iI v))]) rfl ?_
  intro E hE hR hnm
  have hcn := hT.1
  have hW0 : WV R rc [] sp nb mt pl (stm + 1) 0 := WV.new (by omega) hWI
  refine r_iload_n 1 hE 1 dX8_many_0 rfl rfl rfl ?_
  refine r_tsIn 52 hE 1 dX8_many_1 (hw) (by decide) rfl (by decide) ?_
  refine r_aload_n 53 hE 0 dX8_many_52 rfl rfl rfl ?_
  refine r_get 56 hE 0 0 ok8 8 dX8_many_53 rfl wd_305 rfl rfl (by decide) rfl ?_
  refine r_callV 59 hE [2] [0, 1, 3] [(wWalk g w (ru 0) sp nb mt pl op no od stm wc)] [(wMain g x tpa (a 0) da pa qa rua (w 0) sa bka taped told), (wShelf g a L ln tp rd cnt era nws), (wRules g ru kd fi se sg le de nx he ro rc re rr)] 0 7 ok7 [] (c_X7_begin) dX8_many_56 rfl rfl wd_672 wd_673 wd_674 wd_8 wd_675 ne_X7 np_X7_begin (Nat.le_of_ble_eq_true rfl)  (by decide) (by decide) rfl (Nat.le_of_ble_eq_true rfl) rfl rfl rfl rfl (by decide) rfl (fun v1 f1 hp => ?_)
  obtain ⟨rfl, rfl⟩ := hp
  show G g E _ _ _ [(wWalk g w (ru 0) sp nb mt pl op no od (stm + 1) 0), (wMain g x tpa (a 0) da pa qa rua (w 0) sa bka taped told), (wShelf g a L ln tp rd cnt era nws), (wRules g ru kd fi se sg le de nx he ro rc re rr)] 59 [(0, .ref x), (1, .int (iI v))] []
  refine r_aload_n 60 hE 0 dX8_many_59 rfl rfl rfl ?_
  refine r_aload_n 61 hE 0 dX8_many_60 rfl rfl rfl ?_
  refine r_callV 64 hE [1, 2, 0, 3] [] [(wMain g x tpa (a 0) da pa qa rua (w 0) sa bka taped told), (wShelf g a L ln tp rd cnt era nws), (wWalk g w (ru 0) sp nb mt pl op no od (stm + 1) 0), (wRules g ru kd fi se sg le de nx he ro rc re rr)] [] 0 8 ok8 [.ref x] (c_X8_visitAll (hT) (hW0) (by omega) (hto) (by omega)) dX8_many_61 rfl rfl wd_676 wd_678 ws_29 wd_1 wd_679 ne_X8 np_X8_visitAll (Nat.le_of_ble_eq_true rfl)  (by decide) (by decide) rfl (Nat.le_of_ble_eq_true rfl) rfl rfl rfl rfl (by decide) rfl (fun v1 f1 hp => ?_)
  obtain ⟨sp9_61, nb9_61, mt9_61, pl9_61, op9_61, no9_61, od9_61, wc9_61, V9_61, rfl, rfl, h61_0, h61_1⟩ := hp
  show G g E _ _ _ [(wMain g x tpa (a 0) da pa qa rua (w 0) sa bka taped told), (wShelf g a L ln tp rd cnt era nws), (wWalk g w (ru 0) sp9_61 nb9_61 mt9_61 pl9_61 op9_61 no9_61 od9_61 (stm + 1) wc9_61), (wRules g ru kd fi se sg le de nx he ro rc re rr)] 64 [(0, .ref x), (1, .int (iI v))] [.int (iI (wc9_61 - 0)), .ref x]
  refine r_callV 67 hE [0] [1, 2, 3] [(wMain g x tpa (a 0) da pa qa rua (w 0) sa bka taped told)] [(wShelf g a L ln tp rd cnt era nws), (wWalk g w (ru 0) sp9_61 nb9_61 mt9_61 pl9_61 op9_61 no9_61 od9_61 (stm + 1) wc9_61), (wRules g ru kd fi se sg le de nx he ro rc re rr)] 0 8 ok8 [] (c_X8_answer) dX8_many_64 rfl rfl wd_739 wd_741 ws_33 wd_1 wd_742 ne_X8 np_X8_answer (Nat.le_of_ble_eq_true rfl)  (by decide) (by decide) rfl (Nat.le_of_ble_eq_true rfl) rfl rfl rfl rfl (by decide) rfl (fun v1 f1 hp => ?_)
  obtain ⟨rfl, rfl⟩ := hp
  show G g E _ _ _ [(wMain g x tpa (a 0) da pa qa rua (w 0) sa bka taped 0), (wShelf g a L ln tp rd cnt era nws), (wWalk g w (ru 0) sp9_61 nb9_61 mt9_61 pl9_61 op9_61 no9_61 od9_61 (stm + 1) wc9_61), (wRules g ru kd fi se sg le de nx he ro rc re rr)] 67 [(0, .ref x), (1, .int (iI v))] [.int (iI (wc9_61 - 0))]
  refine r_ireturn hE hR [(wMain g x tpa (a 0) da pa qa rua (w 0) sa bka taped 0), (wShelf g a L ln tp rd cnt era nws), (wWalk g w (ru 0) sp9_61 nb9_61 mt9_61 pl9_61 op9_61 no9_61 od9_61 (stm + 1) wc9_61), (wRules g ru kd fi se sg le de nx he ro rc re rr)] dX8_many_67 (Nat.le_of_ble_eq_true rfl) (Nat.le_of_ble_eq_true rfl) rfl ?_
  exact ⟨_, _, _, _, _, _, _, _, retI (by omega), rfl, h61_0.2.1, fun j => R (tp j), fun j a b => ⟨_, by rw [← lts_tx]; exact (hto j a b).2⟩, by rw [← h61_1]; exact h61_0.1⟩
set_option maxHeartbeats 4000000 in
set_option maxRecDepth 100000 in
theorem c_X8_many_2 {g : Gm} {a : Nat → Nat} {L ln tp rd : Int → Int} {cnt era nws : Int} {x tpa da pa qa rua wa sa bka : Nat} {taped told : Int} {v : Int} (hw : v = 2) (hc : 0 ≤ cnt ∧ cnt ≤ 8) (hln : ∀ j, 0 ≤ j → j < cnt → 0 ≤ ln j ∧ ln j ≤ 600) : Ct g 5 0 0 yX8_many cX8_many 2 (some .int) [.ref x, .int (iI v)] [(wMain g x tpa (a 0) da pa qa rua wa sa bka taped told), (wShelf g a L ln tp rd cnt era nws)] (fun v_ w_ => v_ = some (.int (iI (sumF ln cnt))) ∧ w_ = [(wMain g x tpa (a 0) da pa qa rua wa sa bka taped 0), (wShelf g a L ln tp rd cnt era nws)]) := by
  refine Ct.of (by decide) (Nat.le_of_ble_eq_true rfl) (lv := [(0, .ref x), (1, .int (iI v))]) rfl ?_
  intro E hE hR hnm
  refine r_iload_n 1 hE 1 dX8_many_0 rfl rfl rfl ?_
  refine r_tsIn 68 hE 2 dX8_many_1 (hw) (by decide) rfl (by decide) ?_
  refine r_aload_n 69 hE 0 dX8_many_68 rfl rfl rfl ?_
  refine r_aload_n 70 hE 0 dX8_many_69 rfl rfl rfl ?_
  refine r_get 73 hE 0 0 ok8 4 dX8_many_70 rfl wd_301 rfl rfl (by decide) rfl ?_
  refine r_callV 76 hE [1] [0] [(wShelf g a L ln tp rd cnt era nws)] [(wMain g x tpa (a 0) da pa qa rua wa sa bka taped told)] 0 5 ok5 [.ref x] (c_X5_allLetters (by omega) (hln)) dX8_many_73 rfl rfl wd_751 wd_752 wd_753 wd_4 wd_754 ne_X5 np_X5_allLetters (Nat.le_of_ble_eq_true rfl)  (by decide) (by decide) rfl (Nat.le_of_ble_eq_true rfl) rfl rfl rfl rfl (by decide) rfl (fun v1 f1 hp => ?_)
  obtain ⟨rfl, rfl⟩ := hp
  show G g E _ _ _ [(wShelf g a L ln tp rd cnt era nws), (wMain g x tpa (a 0) da pa qa rua wa sa bka taped told)] 76 [(0, .ref x), (1, .int (iI v))] [.int (iI (sumF ln cnt)), .ref x]
  refine r_callV 79 hE [1] [0] [(wMain g x tpa (a 0) da pa qa rua wa sa bka taped told)] [(wShelf g a L ln tp rd cnt era nws)] 0 8 ok8 [] (c_X8_answer) dX8_many_76 rfl rfl wd_739 wd_741 ws_33 wd_1 wd_742 ne_X8 np_X8_answer (Nat.le_of_ble_eq_true rfl)  (by decide) (by decide) rfl (Nat.le_of_ble_eq_true rfl) rfl rfl rfl rfl (by decide) rfl (fun v1 f1 hp => ?_)
  obtain ⟨rfl, rfl⟩ := hp
  show G g E _ _ _ [(wMain g x tpa (a 0) da pa qa rua wa sa bka taped 0), (wShelf g a L ln tp rd cnt era nws)] 79 [(0, .ref x), (1, .int (iI v))] [.int (iI (sumF ln cnt))]
  refine r_ireturn hE hR [(wMain g x tpa (a 0) da pa qa rua wa sa bka taped 0), (wShelf g a L ln tp rd cnt era nws)] dX8_many_79 (Nat.le_of_ble_eq_true rfl) (Nat.le_of_ble_eq_true rfl) rfl ?_
  exact ⟨retI (rfl), rfl⟩
set_option maxHeartbeats 4000000 in
set_option maxRecDepth 100000 in
theorem c_X8_many_3 {g : Gm} {x tpa na da qa rua wa sa bka : Nat} {taped told : Int} {p : Nat → Nat} {n : Nat} {sh : Nat → Option Nat} {old cn : Int} {v : Int} (hw : v = 3) : Ct g 5 0 0 yX8_many cX8_many 2 (some .int) [.ref x, .int (iI v)] [(wMain g x tpa na da (p 0) qa rua wa sa bka taped told), (wPileH g p n sh old cn)] (fun v_ w_ => v_ = some (.int (iI cn)) ∧ w_ = [(wMain g x tpa na da (p 0) qa rua wa sa bka taped 0), (wPileH g p n sh old cn)]) := by
  refine Ct.of (by decide) (Nat.le_of_ble_eq_true rfl) (lv := [(0, .ref x), (1, .int (iI v))]) rfl ?_
  intro E hE hR hnm
  refine r_iload_n 1 hE 1 dX8_many_0 rfl rfl rfl ?_
  refine r_tsIn 80 hE 3 dX8_many_1 (hw) (by decide) rfl (by decide) ?_
  refine r_aload_n 81 hE 0 dX8_many_80 rfl rfl rfl ?_
  refine r_aload_n 82 hE 0 dX8_many_81 rfl rfl rfl ?_
  refine r_get 85 hE 0 0 ok8 6 dX8_many_82 rfl wd_303 rfl rfl (by decide) rfl ?_
  refine r_get 88 hE 1 0 ok1 2 dX8_many_85 rfl wd_186 rfl rfl (by decide) rfl ?_
  refine r_callV 91 hE [0] [1] [(wMain g x tpa na da (p 0) qa rua wa sa bka taped told)] [(wPileH g p n sh old cn)] 0 8 ok8 [] (c_X8_answer) dX8_many_88 rfl rfl wd_739 wd_741 ws_33 wd_1 wd_742 ne_X8 np_X8_answer (Nat.le_of_ble_eq_true rfl)  (by decide) (by decide) rfl (Nat.le_of_ble_eq_true rfl) rfl rfl rfl rfl (by decide) rfl (fun v1 f1 hp => ?_)
  obtain ⟨rfl, rfl⟩ := hp
  show G g E _ _ _ [(wMain g x tpa na da (p 0) qa rua wa sa bka taped 0), (wPileH g p n sh old cn)] 91 [(0, .ref x), (1, .int (iI v))] [.int (iI cn)]
  refine r_ireturn hE hR [(wMain g x tpa na da (p 0) qa rua wa sa bka taped 0), (wPileH g p n sh old cn)] dX8_many_91 (Nat.le_of_ble_eq_true rfl) (Nat.le_of_ble_eq_true rfl) rfl ?_
  exact ⟨retI (rfl), rfl⟩
set_option maxHeartbeats 4000000 in
set_option maxRecDepth 100000 in
theorem c_X8_many_4 {g : Gm} {x tpa na da pa rua wa sa bka : Nat} {taped told : Int} {p : Nat → Nat} {n : Nat} {sh : Nat → Option Nat} {old cn : Int} {v : Int} (hw : v = 4) : Ct g 5 0 0 yX8_many cX8_many 2 (some .int) [.ref x, .int (iI v)] [(wMain g x tpa na da pa (p 0) rua wa sa bka taped told), (wPileH g p n sh old cn)] (fun v_ w_ => v_ = some (.int (iI cn)) ∧ w_ = [(wMain g x tpa na da pa (p 0) rua wa sa bka taped 0), (wPileH g p n sh old cn)]) := by
  refine Ct.of (by decide) (Nat.le_of_ble_eq_true rfl) (lv := [(0, .ref x), (1, .int (iI v))]) rfl ?_
  intro E hE hR hnm
  refine r_iload_n 1 hE 1 dX8_many_0 rfl rfl rfl ?_
  refine r_tsIn 92 hE 4 dX8_many_1 (hw) (by decide) rfl (by decide) ?_
  refine r_aload_n 93 hE 0 dX8_many_92 rfl rfl rfl ?_
  refine r_aload_n 94 hE 0 dX8_many_93 rfl rfl rfl ?_
  refine r_get 97 hE 0 0 ok8 7 dX8_many_94 rfl wd_304 rfl rfl (by decide) rfl ?_
  refine r_get 100 hE 1 0 ok1 2 dX8_many_97 rfl wd_186 rfl rfl (by decide) rfl ?_
  refine r_callV 103 hE [0] [1] [(wMain g x tpa na da pa (p 0) rua wa sa bka taped told)] [(wPileH g p n sh old cn)] 0 8 ok8 [] (c_X8_answer) dX8_many_100 rfl rfl wd_739 wd_741 ws_33 wd_1 wd_742 ne_X8 np_X8_answer (Nat.le_of_ble_eq_true rfl)  (by decide) (by decide) rfl (Nat.le_of_ble_eq_true rfl) rfl rfl rfl rfl (by decide) rfl (fun v1 f1 hp => ?_)
  obtain ⟨rfl, rfl⟩ := hp
  show G g E _ _ _ [(wMain g x tpa na da pa (p 0) rua wa sa bka taped 0), (wPileH g p n sh old cn)] 103 [(0, .ref x), (1, .int (iI v))] [.int (iI cn)]
  refine r_ireturn hE hR [(wMain g x tpa na da pa (p 0) rua wa sa bka taped 0), (wPileH g p n sh old cn)] dX8_many_103 (Nat.le_of_ble_eq_true rfl) (Nat.le_of_ble_eq_true rfl) rfl ?_
  exact ⟨retI (rfl), rfl⟩
set_option maxHeartbeats 4000000 in
set_option maxRecDepth 100000 in
theorem c_X8_many_5 {g : Gm} {p : Nat → Nat} {n : Nat} {sh : Nat → Option Nat} {old cn : Int} {ad : Nat → Nat → Nat} {ss : Nat → ShS} {x tpa na da qa rua wa sa bka : Nat} {taped told : Int} {v : Int} (hw : v = 5) (hpn : 1 ≤ (n : Int) ∧ (n : Int) ≤ 8) (hpo : 0 ≤ old ∧ old < (n : Int) ∧ 0 ≤ cn ∧ cn ≤ (n : Int)) (hsa : ∀ i, i < n → sh i = some ((ad i) 0)) (hc1 : 1 ≤ cn) : Ct g 5 0 0 yX8_many cX8_many 2 (some .int) [.ref x, .int (iI v)] [(wMain g x tpa na da (p 0) qa rua wa sa bka taped told), (wPileH g p n sh old cn), (wPool g ad ss n)] (fun v_ w_ => ∃ i9 : Nat, v_ = some (.int (iI ((ss i9).nws))) ∧ w_ = [(wMain g x tpa na da (p 0) qa rua wa sa bka taped 0), (wPileH g p n sh old cn), (wPool g ad ss n)] ∧ ((i9 : Int) = (old + cn - 1) % (n : Int)) ∧ (i9 < n)) := by
  refine Ct.of (by decide) (Nat.le_of_ble_eq_true rfl) (lv := [(0, .ref x), (1, .int (iI v))]) rfl ?_
  intro E hE hR hnm
  refine r_iload_n 1 hE 1 dX8_many_0 rfl rfl rfl ?_
  refine r_tsIn 104 hE 5 dX8_many_1 (hw) (by decide) rfl (by decide) ?_
  refine r_aload_n 105 hE 0 dX8_many_104 rfl rfl rfl ?_
  refine r_aload_n 106 hE 0 dX8_many_105 rfl rfl rfl ?_
  refine r_callV 109 hE [0, 1, 2] [] [(wMain g x tpa na da (p 0) qa rua wa sa bka taped told), (wPileH g p n sh old cn), (wPool g ad ss n)] [] 0 8 ok8 [.ref x] (c_X8_newsOfLatest (by omega) (by omega) (hsa) (by omega)) dX8_many_106 rfl rfl wd_756 wd_758 ws_34 wd_1 wd_759 ne_X8 np_X8_newsOfLatest (Nat.le_of_ble_eq_true rfl)  (by decide) (by decide) rfl (Nat.le_of_ble_eq_true rfl) rfl rfl rfl rfl (by decide) rfl (fun v1 f1 hp => ?_)
  obtain ⟨i9_106, rfl, rfl, h106_0, h106_1⟩ := hp
  show G g E _ _ _ [(wMain g x tpa na da (p 0) qa rua wa sa bka taped told), (wPileH g p n sh old cn), (wPool g ad ss n)] 109 [(0, .ref x), (1, .int (iI v))] [.int (iI ((ss i9_106).nws)), .ref x]
  refine r_callV 112 hE [0] [1, 2] [(wMain g x tpa na da (p 0) qa rua wa sa bka taped told)] [(wPileH g p n sh old cn), (wPool g ad ss n)] 0 8 ok8 [] (c_X8_answer) dX8_many_109 rfl rfl wd_739 wd_741 ws_33 wd_1 wd_742 ne_X8 np_X8_answer (Nat.le_of_ble_eq_true rfl)  (by decide) (by decide) rfl (Nat.le_of_ble_eq_true rfl) rfl rfl rfl rfl (by decide) rfl (fun v1 f1 hp => ?_)
  obtain ⟨rfl, rfl⟩ := hp
  show G g E _ _ _ [(wMain g x tpa na da (p 0) qa rua wa sa bka taped 0), (wPileH g p n sh old cn), (wPool g ad ss n)] 112 [(0, .ref x), (1, .int (iI v))] [.int (iI ((ss i9_106).nws))]
  refine r_ireturn hE hR [(wMain g x tpa na da (p 0) qa rua wa sa bka taped 0), (wPileH g p n sh old cn), (wPool g ad ss n)] dX8_many_112 (Nat.le_of_ble_eq_true rfl) (Nat.le_of_ble_eq_true rfl) rfl ?_
  exact ⟨i9_106, rfl, rfl, h106_0, h106_1⟩
set_option maxHeartbeats 4000000 in
set_option maxRecDepth 100000 in
theorem c_X8_many_5n {g : Gm} {p : Nat → Nat} {n : Nat} {sh : Nat → Option Nat} {old cn : Int} {x tpa na da qa rua wa sa bka : Nat} {taped told : Int} {v : Int} (hw : v = 5) (hpn : 1 ≤ (n : Int) ∧ (n : Int) ≤ 8) (hc0 : cn = 0) : Ct g 5 0 0 yX8_many cX8_many 2 (some .int) [.ref x, .int (iI v)] [(wMain g x tpa na da (p 0) qa rua wa sa bka taped told), (wPileH g p n sh old cn)] (fun v_ w_ => v_ = some (.int (iI 0)) ∧ w_ = [(wMain g x tpa na da (p 0) qa rua wa sa bka taped 0), (wPileH g p n sh old cn)]) := by
  refine Ct.of (by decide) (Nat.le_of_ble_eq_true rfl) (lv := [(0, .ref x), (1, .int (iI v))]) rfl ?_
  intro E hE hR hnm
  refine r_iload_n 1 hE 1 dX8_many_0 rfl rfl rfl ?_
  refine r_tsIn 104 hE 5 dX8_many_1 (hw) (by decide) rfl (by decide) ?_
  refine r_aload_n 105 hE 0 dX8_many_104 rfl rfl rfl ?_
  refine r_aload_n 106 hE 0 dX8_many_105 rfl rfl rfl ?_
  refine r_callV 109 hE [0, 1] [] [(wMain g x tpa na da (p 0) qa rua wa sa bka taped told), (wPileH g p n sh old cn)] [] 0 8 ok8 [.ref x] (c_X8_newsOfLatest_no (by omega) (by omega)) dX8_many_106 rfl rfl wd_756 wd_758 ws_34 wd_1 wd_759 ne_X8 np_X8_newsOfLatest (Nat.le_of_ble_eq_true rfl)  (by decide) (by decide) rfl (Nat.le_of_ble_eq_true rfl) rfl rfl rfl rfl (by decide) rfl (fun v1 f1 hp => ?_)
  obtain ⟨rfl, rfl⟩ := hp
  show G g E _ _ _ [(wMain g x tpa na da (p 0) qa rua wa sa bka taped told), (wPileH g p n sh old cn)] 109 [(0, .ref x), (1, .int (iI v))] [.int (iI 0), .ref x]
  refine r_callV 112 hE [0] [1] [(wMain g x tpa na da (p 0) qa rua wa sa bka taped told)] [(wPileH g p n sh old cn)] 0 8 ok8 [] (c_X8_answer) dX8_many_109 rfl rfl wd_739 wd_741 ws_33 wd_1 wd_742 ne_X8 np_X8_answer (Nat.le_of_ble_eq_true rfl)  (by decide) (by decide) rfl (Nat.le_of_ble_eq_true rfl) rfl rfl rfl rfl (by decide) rfl (fun v1 f1 hp => ?_)
  obtain ⟨rfl, rfl⟩ := hp
  show G g E _ _ _ [(wMain g x tpa na da (p 0) qa rua wa sa bka taped 0), (wPileH g p n sh old cn)] 112 [(0, .ref x), (1, .int (iI v))] [.int (iI 0)]
  refine r_ireturn hE hR [(wMain g x tpa na da (p 0) qa rua wa sa bka taped 0), (wPileH g p n sh old cn)] dX8_many_112 (Nat.le_of_ble_eq_true rfl) (Nat.le_of_ble_eq_true rfl) rfl ?_
  exact ⟨retI (rfl), rfl⟩
set_option maxHeartbeats 4000000 in
set_option maxRecDepth 100000 in
theorem c_X8_many_no {g : Gm} {x tpa na da pa qa rua wa sa bka : Nat} {taped told : Int} {v : Int} (hw : (-2147483648 ≤ v ∧ v ≤ 2147483647) ∧ (v < 0 ∨ 5 < v)) : Ct g 5 0 0 yX8_many cX8_many 2 (some .int) [.ref x, .int (iI v)] [(wMain g x tpa na da pa qa rua wa sa bka taped told)] (fun v_ w_ => v_ = some (.int (iI (-1))) ∧ w_ = [(wMain g x tpa na da pa qa rua wa sa bka taped 1)]) := by
  refine Ct.of (by decide) (Nat.le_of_ble_eq_true rfl) (lv := [(0, .ref x), (1, .int (iI v))]) rfl ?_
  intro E hE hR hnm
  refine r_iload_n 1 hE 1 dX8_many_0 rfl rfl rfl ?_
  refine r_tsOut 113 hE dX8_many_1 (hw) (by decide) ?_
  refine r_aload_n 114 hE 0 dX8_many_113 rfl rfl rfl ?_
  refine r_iconst 115 hE dX8_many_114 rfl ?_
  refine r_callV 118 hE [0] [] [(wMain g x tpa na da pa qa rua wa sa bka taped told)] [] 0 8 ok8 [] (c_X8_refuse) dX8_many_115 rfl rfl wd_347 wd_349 ws_1 wd_1 wd_350 ne_X8 np_X8_refuse (Nat.le_of_ble_eq_true rfl)  (by decide) (by decide) rfl (Nat.le_of_ble_eq_true rfl) rfl rfl rfl rfl (by decide) rfl (fun v1 f1 hp => ?_)
  obtain ⟨rfl, rfl⟩ := hp
  show G g E _ _ _ [(wMain g x tpa na da pa qa rua wa sa bka taped 1)] 118 [(0, .ref x), (1, .int (iI v))] [.int (iI (-1))]
  refine r_ireturn hE hR [(wMain g x tpa na da pa qa rua wa sa bka taped 1)] dX8_many_118 (Nat.le_of_ble_eq_true rfl) (Nat.le_of_ble_eq_true rfl) rfl ?_
  exact ⟨retI (rfl), rfl⟩
set_option maxHeartbeats 4000000 in
set_option maxRecDepth 100000 in
theorem c_X8_of_0 {g : Gm} {a : Nat → Nat} {L ln tp rd : Int → Int} {cnt era nws : Int} {ru : Nat → Nat} {kd fi se sg le de nx he ro : Int → Int} {rc re rr : Int} {R : Int → Rl} {x tpa da pa qa wa sa bka : Nat} {taped told : Int} {t v : Int} (hw : v = 0) (hsh : ShOk L ln cnt) (ht : 0 ≤ t ∧ t < cnt) (hT : RT kd fi se sg le de nx he rc R) (hto : TopsOk R rc L ln tp rd cnt) : Ct g 5 0 0 yX8_of cX8_of 3 (some .int) [.ref x, .int (iI t), .int (iI v)] [(wMain g x tpa (a 0) da pa qa (ru 0) wa sa bka taped told), (wShelf g a L ln tp rd cnt era nws), (wRules g ru kd fi se sg le de nx he ro rc re rr)] (fun v_ w_ => ∃ r9 : Int, v_ = some (.int (iI r9)) ∧ w_ = [(wMain g x tpa (a 0) da pa qa (ru 0) wa sa bka taped 0), (wShelf g a L ln tp rd cnt era nws), (wRules g ru kd fi se sg le de nx he ro rc re rr)] ∧ (OfIs (tx L t) (ln t) 0 r9)) := by
  refine Ct.of (by decide) (Nat.le_of_ble_eq_true rfl) (lv := [(0, .ref x), (1, .int (iI t)), (2, .int (iI v))]) rfl ?_
  intro E hE hR hnm
  have hc := hsh.1
  have hln := hsh.ln
  have hB := hsh.2.1
  refine r_iload_n 1 hE 2 dX8_of_0 rfl rfl rfl ?_
  refine r_if_lt 4 10 hE dX8_of_1 rfl (by decide) (by omega) (fun c1 => ?_) (fun c1 => ?_)
  · skip
    omega
  · skip
    refine r_iload_n 5 hE 2 dX8_of_4 rfl rfl rfl ?_
    refine r_bipush 7 hE dX8_of_5 rfl (by decide) ?_
    refine r_icmp_le 10 16 hE dX8_of_7 rfl (by decide) (by omega) (fun c7 => ?_) (fun c7 => ?_)
    · skip
      refine r_aload_n 17 hE 0 dX8_of_16 rfl rfl rfl ?_
      refine r_get 20 hE 0 0 ok8 4 dX8_of_17 rfl wd_301 rfl rfl (by decide) rfl ?_
      refine r_iload_n 21 hE 1 dX8_of_20 rfl rfl rfl ?_
      refine r_callV 24 hE [1] [0, 2] [(wShelf g a L ln tp rd cnt era nws)] [(wMain g x tpa (a 0) da pa qa (ru 0) wa sa bka taped told), (wRules g ru kd fi se sg le de nx he ro rc re rr)] 0 5 ok5 [] (c_X5_has (by omega) (by omega)) dX8_of_21 rfl rfl wd_764 wd_578 wd_579 wd_4 wd_580 ne_X5 np_X5_has (Nat.le_of_ble_eq_true rfl)  (by decide) (by decide) rfl (Nat.le_of_ble_eq_true rfl) rfl rfl rfl rfl (by decide) rfl (fun v1 f1 hp => ?_)
      obtain ⟨rfl, rfl⟩ := hp
      show G g E _ _ _ [(wShelf g a L ln tp rd cnt era nws), (wMain g x tpa (a 0) da pa qa (ru 0) wa sa bka taped told), (wRules g ru kd fi se sg le de nx he ro rc re rr)] 24 [(0, .ref x), (1, .int (iI t)), (2, .int (iI v))] [.int (iI (bI (0 ≤ t ∧ t < cnt)))]
      refine r_if_ne 27 33 hE dX8_of_24 rfl (by decide) (bI_rg _) (fun c24 => ?_) (fun c24 => ?_)
      · skip
        have c24 := bI1 c24
        refine r_iload_n 34 hE 2 dX8_of_33 rfl rfl rfl ?_
        refine r_tsIn 72 hE 0 dX8_of_34 (hw) (by decide) rfl (by decide) ?_
        refine r_aload_n 73 hE 0 dX8_of_72 rfl rfl rfl ?_
        refine r_aload_n 74 hE 0 dX8_of_73 rfl rfl rfl ?_
        refine r_get 77 hE 1 0 ok8 4 dX8_of_74 rfl wd_301 rfl rfl (by decide) rfl ?_
        refine r_iload_n 78 hE 1 dX8_of_77 rfl rfl rfl ?_
        refine r_callV 81 hE [0] [1, 2] [(wShelf g a L ln tp rd cnt era nws)] [(wMain g x tpa (a 0) da pa qa (ru 0) wa sa bka taped told), (wRules g ru kd fi se sg le de nx he ro rc re rr)] 0 5 ok5 [.ref x] (c_X5_lengthOf (by omega) (by omega)) dX8_of_78 rfl rfl wd_630 wd_631 wd_632 wd_4 wd_633 ne_X5 np_X5_lengthOf (Nat.le_of_ble_eq_true rfl)  (by decide) (by decide) rfl (Nat.le_of_ble_eq_true rfl) rfl rfl rfl rfl (by decide) rfl (fun v1 f1 hp => ?_)
        obtain ⟨rfl, rfl⟩ := hp
        show G g E _ _ _ [(wShelf g a L ln tp rd cnt era nws), (wMain g x tpa (a 0) da pa qa (ru 0) wa sa bka taped told), (wRules g ru kd fi se sg le de nx he ro rc re rr)] 81 [(0, .ref x), (1, .int (iI t)), (2, .int (iI v))] [.int (iI (ln t)), .ref x]
        refine r_callV 84 hE [1] [0, 2] [(wMain g x tpa (a 0) da pa qa (ru 0) wa sa bka taped told)] [(wShelf g a L ln tp rd cnt era nws), (wRules g ru kd fi se sg le de nx he ro rc re rr)] 0 8 ok8 [] (c_X8_answer) dX8_of_81 rfl rfl wd_739 wd_741 ws_33 wd_1 wd_742 ne_X8 np_X8_answer (Nat.le_of_ble_eq_true rfl)  (by decide) (by decide) rfl (Nat.le_of_ble_eq_true rfl) rfl rfl rfl rfl (by decide) rfl (fun v1 f1 hp => ?_)
        obtain ⟨rfl, rfl⟩ := hp
        show G g E _ _ _ [(wMain g x tpa (a 0) da pa qa (ru 0) wa sa bka taped 0), (wShelf g a L ln tp rd cnt era nws), (wRules g ru kd fi se sg le de nx he ro rc re rr)] 84 [(0, .ref x), (1, .int (iI t)), (2, .int (iI v))] [.int (iI (ln t))]
        refine r_ireturn hE hR [(wMain g x tpa (a 0) da pa qa (ru 0) wa sa bka taped 0), (wShelf g a L ln tp rd cnt era nws), (wRules g ru kd fi se sg le de nx he ro rc re rr)] dX8_of_84 (Nat.le_of_ble_eq_true rfl) (Nat.le_of_ble_eq_true rfl) rfl ?_
        exact ⟨ln t, rfl, rfl, _, _, by rw [← lts_tx]; exact (hto t ht.1 ht.2).2, Or.inl ⟨rfl, rfl⟩⟩
      · skip
        have c24 := bI0 c24
        omega
    · skip
      omega
set_option maxHeartbeats 4000000 in
set_option maxRecDepth 100000 in
theorem c_X8_of_1 {g : Gm} {a : Nat → Nat} {L ln tp rd : Int → Int} {cnt era nws : Int} {ru : Nat → Nat} {kd fi se sg le de nx he ro : Int → Int} {rc re rr : Int} {R : Int → Rl} {w : Nat → Nat} {sp nb mt pl op no : Int → Int} {od stm wc : Int} {x tpa da pa qa rua sa bka : Nat} {taped told : Int} {t v : Int} (hw : v = 1) (hsh : ShOk L ln cnt) (ht : 0 ≤ t ∧ t < cnt) (hT : RT kd fi se sg le de nx he rc R) (hto : TopsOk R rc L ln tp rd cnt) (hWI : 0 ≤ stm ∧ ∀ i, 0 ≤ i → i < 10240 → 0 ≤ sp i ∧ sp i ≤ stm) (hs2 : stm ≤ 1500000000) : Ct g 5 0 0 yX8_of cX8_of 3 (some .int) [.ref x, .int (iI t), .int (iI v)] [(wMain g x tpa (a 0) da pa qa rua (w 0) sa bka taped told), (wShelf g a L ln tp rd cnt era nws), (wWalk g w (ru 0) sp nb mt pl op no od stm wc), (wRules g ru kd fi se sg le de nx he ro rc re rr)] (fun v_ w_ => ∃ sp9 : Int → Int, ∃ nb9 : Int → Int, ∃ mt9 : Int → Int, ∃ pl9 : Int → Int, ∃ op9 : Int → Int, ∃ no9 : Int → Int, ∃ od9 : Int, ∃ wc9 : Int, ∃ r9 : Int, v_ = some (.int (iI r9)) ∧ w_ = [(wMain g x tpa (a 0) da pa qa rua (w 0) sa bka taped 0), (wShelf g a L ln tp rd cnt era nws), (wWalk g w (ru 0) sp9 nb9 mt9 pl9 op9 no9 od9 (stm + 1) wc9), (wRules g ru kd fi se sg le de nx he ro rc re rr)] ∧ (0 ≤ stm + 1 ∧ ∀ i, 0 ≤ i → i < 10240 → 0 ≤ sp9 i ∧ sp9 i ≤ stm + 1) ∧ (OfIs (tx L t) (ln t) 1 r9)) := by
  refine Ct.of (by decide) (Nat.le_of_ble_eq_true rfl) (lv := [(0, .ref x), (1, .int (iI t)), (2, .int (iI v))]) rfl ?_
  intro E hE hR hnm
  have hc := hsh.1
  have hln := hsh.ln
  have hB := hsh.2.1
  refine r_iload_n 1 hE 2 dX8_of_0 rfl rfl rfl ?_
  refine r_if_lt 4 10 hE dX8_of_1 rfl (by decide) (by omega) (fun c1 => ?_) (fun c1 => ?_)
  · skip
    omega
  · skip
    refine r_iload_n 5 hE 2 dX8_of_4 rfl rfl rfl ?_
    refine r_bipush 7 hE dX8_of_5 rfl (by decide) ?_
    refine r_icmp_le 10 16 hE dX8_of_7 rfl (by decide) (by omega) (fun c7 => ?_) (fun c7 => ?_)
    · skip
      refine r_aload_n 17 hE 0 dX8_of_16 rfl rfl rfl ?_
      refine r_get 20 hE 0 0 ok8 4 dX8_of_17 rfl wd_301 rfl rfl (by decide) rfl ?_
      refine r_iload_n 21 hE 1 dX8_of_20 rfl rfl rfl ?_
      refine r_callV 24 hE [1] [0, 2, 3] [(wShelf g a L ln tp rd cnt era nws)] [(wMain g x tpa (a 0) da pa qa rua (w 0) sa bka taped told), (wWalk g w (ru 0) sp nb mt pl op no od stm wc), (wRules g ru kd fi se sg le de nx he ro rc re rr)] 0 5 ok5 [] (c_X5_has (by omega) (by omega)) dX8_of_21 rfl rfl wd_764 wd_578 wd_579 wd_4 wd_580 ne_X5 np_X5_has (Nat.le_of_ble_eq_true rfl)  (by decide) (by decide) rfl (Nat.le_of_ble_eq_true rfl) rfl rfl rfl rfl (by decide) rfl (fun v1 f1 hp => ?_)
      obtain ⟨rfl, rfl⟩ := hp
      show G g E _ _ _ [(wShelf g a L ln tp rd cnt era nws), (wMain g x tpa (a 0) da pa qa rua (w 0) sa bka taped told), (wWalk g w (ru 0) sp nb mt pl op no od stm wc), (wRules g ru kd fi se sg le de nx he ro rc re rr)] 24 [(0, .ref x), (1, .int (iI t)), (2, .int (iI v))] [.int (iI (bI (0 ≤ t ∧ t < cnt)))]
      refine r_if_ne 27 33 hE dX8_of_24 rfl (by decide) (bI_rg _) (fun c24 => ?_) (fun c24 => ?_)
      · skip
        have c24 := bI1 c24
        refine r_iload_n 34 hE 2 dX8_of_33 rfl rfl rfl ?_
        refine r_tsIn 85 hE 1 dX8_of_34 (hw) (by decide) rfl (by decide) ?_
        refine r_aload_n 86 hE 0 dX8_of_85 rfl rfl rfl ?_
        refine r_aload_n 87 hE 0 dX8_of_86 rfl rfl rfl ?_
        refine r_iload_n 88 hE 1 dX8_of_87 rfl rfl rfl ?_
        refine r_callV 91 hE [1, 0, 2, 3] [] [(wMain g x tpa (a 0) da pa qa rua (w 0) sa bka taped told), (wShelf g a L ln tp rd cnt era nws), (wWalk g w (ru 0) sp nb mt pl op no od stm wc), (wRules g ru kd fi se sg le de nx he ro rc re rr)] [] 0 8 ok8 [.ref x] (c_X8_number (hT) (by omega) (by omega) ((hto t ht.1 ht.2).1) (hWI) (by omega)) dX8_of_88 rfl rfl wd_765 wd_767 ws_35 wd_1 wd_768 ne_X8 np_X8_number (Nat.le_of_ble_eq_true rfl)  (by decide) (by decide) rfl (Nat.le_of_ble_eq_true rfl) rfl rfl rfl rfl (by decide) rfl (fun v1 f1 hp => ?_)
        obtain ⟨sp9_88, nb9_88, mt9_88, pl9_88, op9_88, no9_88, od9_88, wc9_88, V9_88, rfl, rfl, h88_0, h88_1⟩ := hp
        show G g E _ _ _ [(wMain g x tpa (a 0) da pa qa rua (w 0) sa bka taped told), (wShelf g a L ln tp rd cnt era nws), (wWalk g w (ru 0) sp9_88 nb9_88 mt9_88 pl9_88 op9_88 no9_88 od9_88 (stm + 1) wc9_88), (wRules g ru kd fi se sg le de nx he ro rc re rr)] 91 [(0, .ref x), (1, .int (iI t)), (2, .int (iI v))] [.int (iI wc9_88), .ref x]
        refine r_callV 94 hE [0] [1, 2, 3] [(wMain g x tpa (a 0) da pa qa rua (w 0) sa bka taped told)] [(wShelf g a L ln tp rd cnt era nws), (wWalk g w (ru 0) sp9_88 nb9_88 mt9_88 pl9_88 op9_88 no9_88 od9_88 (stm + 1) wc9_88), (wRules g ru kd fi se sg le de nx he ro rc re rr)] 0 8 ok8 [] (c_X8_answer) dX8_of_91 rfl rfl wd_739 wd_741 ws_33 wd_1 wd_742 ne_X8 np_X8_answer (Nat.le_of_ble_eq_true rfl)  (by decide) (by decide) rfl (Nat.le_of_ble_eq_true rfl) rfl rfl rfl rfl (by decide) rfl (fun v1 f1 hp => ?_)
        obtain ⟨rfl, rfl⟩ := hp
        show G g E _ _ _ [(wMain g x tpa (a 0) da pa qa rua (w 0) sa bka taped 0), (wShelf g a L ln tp rd cnt era nws), (wWalk g w (ru 0) sp9_88 nb9_88 mt9_88 pl9_88 op9_88 no9_88 od9_88 (stm + 1) wc9_88), (wRules g ru kd fi se sg le de nx he ro rc re rr)] 94 [(0, .ref x), (1, .int (iI t)), (2, .int (iI v))] [.int (iI wc9_88)]
        refine r_ireturn hE hR [(wMain g x tpa (a 0) da pa qa rua (w 0) sa bka taped 0), (wShelf g a L ln tp rd cnt era nws), (wWalk g w (ru 0) sp9_88 nb9_88 mt9_88 pl9_88 op9_88 no9_88 od9_88 (stm + 1) wc9_88), (wRules g ru kd fi se sg le de nx he ro rc re rr)] dX8_of_94 (Nat.le_of_ble_eq_true rfl) (Nat.le_of_ble_eq_true rfl) rfl ?_
        exact ⟨_, _, _, _, _, _, _, _, _, rfl, rfl, h88_0.2.1, _, _, by rw [← lts_tx]; exact (hto t ht.1 ht.2).2, Or.inr (Or.inl ⟨rfl, by rw [← h88_1]; exact h88_0.1⟩)⟩
      · skip
        have c24 := bI0 c24
        omega
    · skip
      omega
set_option maxHeartbeats 4000000 in
set_option maxRecDepth 100000 in
theorem c_X8_of_2 {g : Gm} {a : Nat → Nat} {L ln tp rd : Int → Int} {cnt era nws : Int} {ru : Nat → Nat} {kd fi se sg le de nx he ro : Int → Int} {rc re rr : Int} {R : Int → Rl} {x tpa da pa qa wa sa bka : Nat} {taped told : Int} {t v : Int} (hw : v = 2) (hsh : ShOk L ln cnt) (ht : 0 ≤ t ∧ t < cnt) (hT : RT kd fi se sg le de nx he rc R) (hto : TopsOk R rc L ln tp rd cnt) : Ct g 5 0 0 yX8_of cX8_of 3 (some .int) [.ref x, .int (iI t), .int (iI v)] [(wMain g x tpa (a 0) da pa qa (ru 0) wa sa bka taped told), (wShelf g a L ln tp rd cnt era nws), (wRules g ru kd fi se sg le de nx he ro rc re rr)] (fun v_ w_ => ∃ r9 : Int, v_ = some (.int (iI r9)) ∧ w_ = [(wMain g x tpa (a 0) da pa qa (ru 0) wa sa bka taped 0), (wShelf g a L ln tp rd cnt era nws), (wRules g ru kd fi se sg le de nx he ro rc re rr)] ∧ (OfIs (tx L t) (ln t) 2 r9)) := by
  refine Ct.of (by decide) (Nat.le_of_ble_eq_true rfl) (lv := [(0, .ref x), (1, .int (iI t)), (2, .int (iI v))]) rfl ?_
  intro E hE hR hnm
  have hc := hsh.1
  have hln := hsh.ln
  have hB := hsh.2.1
  have hcn := hT.1
  have htr := (hto t ht.1 ht.2).1
  have hrr := hT.2.1 (tp t) htr.1 htr.2
  refine r_iload_n 1 hE 2 dX8_of_0 rfl rfl rfl ?_
  refine r_if_lt 4 10 hE dX8_of_1 rfl (by decide) (by omega) (fun c1 => ?_) (fun c1 => ?_)
  · skip
    omega
  · skip
    refine r_iload_n 5 hE 2 dX8_of_4 rfl rfl rfl ?_
    refine r_bipush 7 hE dX8_of_5 rfl (by decide) ?_
    refine r_icmp_le 10 16 hE dX8_of_7 rfl (by decide) (by omega) (fun c7 => ?_) (fun c7 => ?_)
    · skip
      refine r_aload_n 17 hE 0 dX8_of_16 rfl rfl rfl ?_
      refine r_get 20 hE 0 0 ok8 4 dX8_of_17 rfl wd_301 rfl rfl (by decide) rfl ?_
      refine r_iload_n 21 hE 1 dX8_of_20 rfl rfl rfl ?_
      refine r_callV 24 hE [1] [0, 2] [(wShelf g a L ln tp rd cnt era nws)] [(wMain g x tpa (a 0) da pa qa (ru 0) wa sa bka taped told), (wRules g ru kd fi se sg le de nx he ro rc re rr)] 0 5 ok5 [] (c_X5_has (by omega) (by omega)) dX8_of_21 rfl rfl wd_764 wd_578 wd_579 wd_4 wd_580 ne_X5 np_X5_has (Nat.le_of_ble_eq_true rfl)  (by decide) (by decide) rfl (Nat.le_of_ble_eq_true rfl) rfl rfl rfl rfl (by decide) rfl (fun v1 f1 hp => ?_)
      obtain ⟨rfl, rfl⟩ := hp
      show G g E _ _ _ [(wShelf g a L ln tp rd cnt era nws), (wMain g x tpa (a 0) da pa qa (ru 0) wa sa bka taped told), (wRules g ru kd fi se sg le de nx he ro rc re rr)] 24 [(0, .ref x), (1, .int (iI t)), (2, .int (iI v))] [.int (iI (bI (0 ≤ t ∧ t < cnt)))]
      refine r_if_ne 27 33 hE dX8_of_24 rfl (by decide) (bI_rg _) (fun c24 => ?_) (fun c24 => ?_)
      · skip
        have c24 := bI1 c24
        refine r_iload_n 34 hE 2 dX8_of_33 rfl rfl rfl ?_
        refine r_tsIn 95 hE 2 dX8_of_34 (hw) (by decide) rfl (by decide) ?_
        refine r_aload_n 96 hE 0 dX8_of_95 rfl rfl rfl ?_
        refine r_aload_n 97 hE 0 dX8_of_96 rfl rfl rfl ?_
        refine r_get 100 hE 1 0 ok8 9 dX8_of_97 rfl wd_306 rfl rfl (by decide) rfl ?_
        refine r_aload_n 101 hE 0 dX8_of_100 rfl rfl rfl ?_
        refine r_get 104 hE 1 0 ok8 4 dX8_of_101 rfl wd_301 rfl rfl (by decide) rfl ?_
        refine r_iload_n 105 hE 1 dX8_of_104 rfl rfl rfl ?_
        refine r_callV 108 hE [0] [1, 2] [(wShelf g a L ln tp rd cnt era nws)] [(wMain g x tpa (a 0) da pa qa (ru 0) wa sa bka taped told), (wRules g ru kd fi se sg le de nx he ro rc re rr)] 0 5 ok5 [.ref (ru 0), .ref x] (c_X5_topOf (by omega) (by omega)) dX8_of_105 rfl rfl wd_680 wd_681 wd_682 wd_4 wd_683 ne_X5 np_X5_topOf (Nat.le_of_ble_eq_true rfl)  (by decide) (by decide) rfl (Nat.le_of_ble_eq_true rfl) rfl rfl rfl rfl (by decide) rfl (fun v1 f1 hp => ?_)
        obtain ⟨rfl, rfl⟩ := hp
        show G g E _ _ _ [(wShelf g a L ln tp rd cnt era nws), (wMain g x tpa (a 0) da pa qa (ru 0) wa sa bka taped told), (wRules g ru kd fi se sg le de nx he ro rc re rr)] 108 [(0, .ref x), (1, .int (iI t)), (2, .int (iI v))] [.int (iI (tp t)), .ref (ru 0), .ref x]
        refine r_callV 111 hE [2] [0, 1] [(wRules g ru kd fi se sg le de nx he ro rc re rr)] [(wShelf g a L ln tp rd cnt era nws), (wMain g x tpa (a 0) da pa qa (ru 0) wa sa bka taped told)] 0 3 ok3 [.ref x] (c_X3_depthOf (by omega) (by omega)) dX8_of_108 rfl rfl wd_769 wd_770 wd_771 wd_9 wd_772 ne_X3 np_X3_depthOf (Nat.le_of_ble_eq_true rfl)  (by decide) (by decide) rfl (Nat.le_of_ble_eq_true rfl) rfl rfl rfl rfl (by decide) rfl (fun v1 f1 hp => ?_)
        obtain ⟨rfl, rfl⟩ := hp
        show G g E _ _ _ [(wRules g ru kd fi se sg le de nx he ro rc re rr), (wShelf g a L ln tp rd cnt era nws), (wMain g x tpa (a 0) da pa qa (ru 0) wa sa bka taped told)] 111 [(0, .ref x), (1, .int (iI t)), (2, .int (iI v))] [.int (iI (de (tp t))), .ref x]
        refine r_callV 114 hE [2] [0, 1] [(wMain g x tpa (a 0) da pa qa (ru 0) wa sa bka taped told)] [(wRules g ru kd fi se sg le de nx he ro rc re rr), (wShelf g a L ln tp rd cnt era nws)] 0 8 ok8 [] (c_X8_answer) dX8_of_111 rfl rfl wd_739 wd_741 ws_33 wd_1 wd_742 ne_X8 np_X8_answer (Nat.le_of_ble_eq_true rfl)  (by decide) (by decide) rfl (Nat.le_of_ble_eq_true rfl) rfl rfl rfl rfl (by decide) rfl (fun v1 f1 hp => ?_)
        obtain ⟨rfl, rfl⟩ := hp
        show G g E _ _ _ [(wMain g x tpa (a 0) da pa qa (ru 0) wa sa bka taped 0), (wRules g ru kd fi se sg le de nx he ro rc re rr), (wShelf g a L ln tp rd cnt era nws)] 114 [(0, .ref x), (1, .int (iI t)), (2, .int (iI v))] [.int (iI (de (tp t)))]
        refine G.to (fs' := [(wMain g x tpa (a 0) da pa qa (ru 0) wa sa bka taped 0), (wShelf g a L ln tp rd cnt era nws), (wRules g ru kd fi se sg le de nx he ro rc re rr)]) [0, 2, 1] [0, 1, 2] rfl rfl rfl ?_
        refine r_ireturn hE hR [(wMain g x tpa (a 0) da pa qa (ru 0) wa sa bka taped 0), (wShelf g a L ln tp rd cnt era nws), (wRules g ru kd fi se sg le de nx he ro rc re rr)] dX8_of_114 (Nat.le_of_ble_eq_true rfl) (Nat.le_of_ble_eq_true rfl) rfl ?_
        exact ⟨de (tp t), rfl, rfl, _, _, by rw [← lts_tx]; exact (hto t ht.1 ht.2).2, Or.inr (Or.inr (Or.inl ⟨rfl, hrr.2.2.2.1⟩))⟩
      · skip
        have c24 := bI0 c24
        omega
    · skip
      omega
set_option maxHeartbeats 4000000 in
set_option maxRecDepth 100000 in
theorem c_X8_of_3 {g : Gm} {a : Nat → Nat} {L ln tp rd : Int → Int} {cnt era nws : Int} {ru : Nat → Nat} {kd fi se sg le de nx he ro : Int → Int} {rc re rr : Int} {R : Int → Rl} {x tpa da pa qa wa sa bka : Nat} {taped told : Int} {t v : Int} (hw : v = 3) (hsh : ShOk L ln cnt) (ht : 0 ≤ t ∧ t < cnt) (hT : RT kd fi se sg le de nx he rc R) (hto : TopsOk R rc L ln tp rd cnt) : Ct g 5 0 0 yX8_of cX8_of 3 (some .int) [.ref x, .int (iI t), .int (iI v)] [(wMain g x tpa (a 0) da pa qa (ru 0) wa sa bka taped told), (wShelf g a L ln tp rd cnt era nws), (wRules g ru kd fi se sg le de nx he ro rc re rr)] (fun v_ w_ => ∃ r9 : Int, v_ = some (.int (iI r9)) ∧ w_ = [(wMain g x tpa (a 0) da pa qa (ru 0) wa sa bka taped 0), (wShelf g a L ln tp rd cnt era nws), (wRules g ru kd fi se sg le de nx he ro rc re rr)] ∧ (OfIs (tx L t) (ln t) 3 r9)) := by
  refine Ct.of (by decide) (Nat.le_of_ble_eq_true rfl) (lv := [(0, .ref x), (1, .int (iI t)), (2, .int (iI v))]) rfl ?_
  intro E hE hR hnm
  have hc := hsh.1
  have hln := hsh.ln
  have hB := hsh.2.1
  refine r_iload_n 1 hE 2 dX8_of_0 rfl rfl rfl ?_
  refine r_if_lt 4 10 hE dX8_of_1 rfl (by decide) (by omega) (fun c1 => ?_) (fun c1 => ?_)
  · skip
    omega
  · skip
    refine r_iload_n 5 hE 2 dX8_of_4 rfl rfl rfl ?_
    refine r_bipush 7 hE dX8_of_5 rfl (by decide) ?_
    refine r_icmp_le 10 16 hE dX8_of_7 rfl (by decide) (by omega) (fun c7 => ?_) (fun c7 => ?_)
    · skip
      refine r_aload_n 17 hE 0 dX8_of_16 rfl rfl rfl ?_
      refine r_get 20 hE 0 0 ok8 4 dX8_of_17 rfl wd_301 rfl rfl (by decide) rfl ?_
      refine r_iload_n 21 hE 1 dX8_of_20 rfl rfl rfl ?_
      refine r_callV 24 hE [1] [0, 2] [(wShelf g a L ln tp rd cnt era nws)] [(wMain g x tpa (a 0) da pa qa (ru 0) wa sa bka taped told), (wRules g ru kd fi se sg le de nx he ro rc re rr)] 0 5 ok5 [] (c_X5_has (by omega) (by omega)) dX8_of_21 rfl rfl wd_764 wd_578 wd_579 wd_4 wd_580 ne_X5 np_X5_has (Nat.le_of_ble_eq_true rfl)  (by decide) (by decide) rfl (Nat.le_of_ble_eq_true rfl) rfl rfl rfl rfl (by decide) rfl (fun v1 f1 hp => ?_)
      obtain ⟨rfl, rfl⟩ := hp
      show G g E _ _ _ [(wShelf g a L ln tp rd cnt era nws), (wMain g x tpa (a 0) da pa qa (ru 0) wa sa bka taped told), (wRules g ru kd fi se sg le de nx he ro rc re rr)] 24 [(0, .ref x), (1, .int (iI t)), (2, .int (iI v))] [.int (iI (bI (0 ≤ t ∧ t < cnt)))]
      refine r_if_ne 27 33 hE dX8_of_24 rfl (by decide) (bI_rg _) (fun c24 => ?_) (fun c24 => ?_)
      · skip
        have c24 := bI1 c24
        refine r_iload_n 34 hE 2 dX8_of_33 rfl rfl rfl ?_
        refine r_tsIn 115 hE 3 dX8_of_34 (hw) (by decide) rfl (by decide) ?_
        refine r_aload_n 116 hE 0 dX8_of_115 rfl rfl rfl ?_
        refine r_aload_n 117 hE 0 dX8_of_116 rfl rfl rfl ?_
        refine r_get 120 hE 1 0 ok8 4 dX8_of_117 rfl wd_301 rfl rfl (by decide) rfl ?_
        refine r_iload_n 121 hE 1 dX8_of_120 rfl rfl rfl ?_
        refine r_callV 124 hE [0] [1, 2] [(wShelf g a L ln tp rd cnt era nws)] [(wMain g x tpa (a 0) da pa qa (ru 0) wa sa bka taped told), (wRules g ru kd fi se sg le de nx he ro rc re rr)] 0 5 ok5 [.ref x] (c_X5_roundsOf (by omega) (by omega)) dX8_of_121 rfl rfl wd_773 wd_774 wd_775 wd_4 wd_776 ne_X5 np_X5_roundsOf (Nat.le_of_ble_eq_true rfl)  (by decide) (by decide) rfl (Nat.le_of_ble_eq_true rfl) rfl rfl rfl rfl (by decide) rfl (fun v1 f1 hp => ?_)
        obtain ⟨rfl, rfl⟩ := hp
        show G g E _ _ _ [(wShelf g a L ln tp rd cnt era nws), (wMain g x tpa (a 0) da pa qa (ru 0) wa sa bka taped told), (wRules g ru kd fi se sg le de nx he ro rc re rr)] 124 [(0, .ref x), (1, .int (iI t)), (2, .int (iI v))] [.int (iI (rd t)), .ref x]
        refine r_callV 127 hE [1] [0, 2] [(wMain g x tpa (a 0) da pa qa (ru 0) wa sa bka taped told)] [(wShelf g a L ln tp rd cnt era nws), (wRules g ru kd fi se sg le de nx he ro rc re rr)] 0 8 ok8 [] (c_X8_answer) dX8_of_124 rfl rfl wd_739 wd_741 ws_33 wd_1 wd_742 ne_X8 np_X8_answer (Nat.le_of_ble_eq_true rfl)  (by decide) (by decide) rfl (Nat.le_of_ble_eq_true rfl) rfl rfl rfl rfl (by decide) rfl (fun v1 f1 hp => ?_)
        obtain ⟨rfl, rfl⟩ := hp
        show G g E _ _ _ [(wMain g x tpa (a 0) da pa qa (ru 0) wa sa bka taped 0), (wShelf g a L ln tp rd cnt era nws), (wRules g ru kd fi se sg le de nx he ro rc re rr)] 127 [(0, .ref x), (1, .int (iI t)), (2, .int (iI v))] [.int (iI (rd t))]
        refine r_ireturn hE hR [(wMain g x tpa (a 0) da pa qa (ru 0) wa sa bka taped 0), (wShelf g a L ln tp rd cnt era nws), (wRules g ru kd fi se sg le de nx he ro rc re rr)] dX8_of_127 (Nat.le_of_ble_eq_true rfl) (Nat.le_of_ble_eq_true rfl) rfl ?_
        exact ⟨rd t, rfl, rfl, _, _, by rw [← lts_tx]; exact (hto t ht.1 ht.2).2, Or.inr (Or.inr (Or.inr (Or.inl ⟨rfl, rfl⟩)))⟩
      · skip
        have c24 := bI0 c24
        omega
    · skip
      omega
set_option maxHeartbeats 4000000 in
set_option maxRecDepth 100000 in
theorem c_X8_of_4 {g : Gm} {a : Nat → Nat} {L ln tp rd : Int → Int} {cnt era nws : Int} {ru : Nat → Nat} {kd fi se sg le de nx he ro : Int → Int} {rc re rr : Int} {R : Int → Rl} {x tpa da pa qa wa sa bka : Nat} {taped told : Int} {t v : Int} (hw : v = 4) (hsh : ShOk L ln cnt) (ht : 0 ≤ t ∧ t < cnt) (hT : RT kd fi se sg le de nx he rc R) (hto : TopsOk R rc L ln tp rd cnt) : Ct g 5 0 0 yX8_of cX8_of 3 (some .int) [.ref x, .int (iI t), .int (iI v)] [(wMain g x tpa (a 0) da pa qa (ru 0) wa sa bka taped told), (wShelf g a L ln tp rd cnt era nws), (wRules g ru kd fi se sg le de nx he ro rc re rr)] (fun v_ w_ => ∃ r9 : Int, v_ = some (.int (iI r9)) ∧ w_ = [(wMain g x tpa (a 0) da pa qa (ru 0) wa sa bka taped 0), (wShelf g a L ln tp rd cnt era nws), (wRules g ru kd fi se sg le de nx he ro rc re rr)] ∧ (OfIs (tx L t) (ln t) 4 r9)) := by
  refine Ct.of (by decide) (Nat.le_of_ble_eq_true rfl) (lv := [(0, .ref x), (1, .int (iI t)), (2, .int (iI v))]) rfl ?_
  intro E hE hR hnm
  have hc := hsh.1
  have hln := hsh.ln
  have hB := hsh.2.1
  have hcn := hT.1
  have htr := (hto t ht.1 ht.2).1
  have hrr := hT.2.1 (tp t) htr.1 htr.2
  refine r_iload_n 1 hE 2 dX8_of_0 rfl rfl rfl ?_
  refine r_if_lt 4 10 hE dX8_of_1 rfl (by decide) (by omega) (fun c1 => ?_) (fun c1 => ?_)
  · skip
    omega
  · skip
    refine r_iload_n 5 hE 2 dX8_of_4 rfl rfl rfl ?_
    refine r_bipush 7 hE dX8_of_5 rfl (by decide) ?_
    refine r_icmp_le 10 16 hE dX8_of_7 rfl (by decide) (by omega) (fun c7 => ?_) (fun c7 => ?_)
    · skip
      refine r_aload_n 17 hE 0 dX8_of_16 rfl rfl rfl ?_
      refine r_get 20 hE 0 0 ok8 4 dX8_of_17 rfl wd_301 rfl rfl (by decide) rfl ?_
      refine r_iload_n 21 hE 1 dX8_of_20 rfl rfl rfl ?_
      refine r_callV 24 hE [1] [0, 2] [(wShelf g a L ln tp rd cnt era nws)] [(wMain g x tpa (a 0) da pa qa (ru 0) wa sa bka taped told), (wRules g ru kd fi se sg le de nx he ro rc re rr)] 0 5 ok5 [] (c_X5_has (by omega) (by omega)) dX8_of_21 rfl rfl wd_764 wd_578 wd_579 wd_4 wd_580 ne_X5 np_X5_has (Nat.le_of_ble_eq_true rfl)  (by decide) (by decide) rfl (Nat.le_of_ble_eq_true rfl) rfl rfl rfl rfl (by decide) rfl (fun v1 f1 hp => ?_)
      obtain ⟨rfl, rfl⟩ := hp
      show G g E _ _ _ [(wShelf g a L ln tp rd cnt era nws), (wMain g x tpa (a 0) da pa qa (ru 0) wa sa bka taped told), (wRules g ru kd fi se sg le de nx he ro rc re rr)] 24 [(0, .ref x), (1, .int (iI t)), (2, .int (iI v))] [.int (iI (bI (0 ≤ t ∧ t < cnt)))]
      refine r_if_ne 27 33 hE dX8_of_24 rfl (by decide) (bI_rg _) (fun c24 => ?_) (fun c24 => ?_)
      · skip
        have c24 := bI1 c24
        refine r_iload_n 34 hE 2 dX8_of_33 rfl rfl rfl ?_
        refine r_tsIn 128 hE 4 dX8_of_34 (hw) (by decide) rfl (by decide) ?_
        refine r_aload_n 129 hE 0 dX8_of_128 rfl rfl rfl ?_
        refine r_aload_n 130 hE 0 dX8_of_129 rfl rfl rfl ?_
        refine r_get 133 hE 1 0 ok8 9 dX8_of_130 rfl wd_306 rfl rfl (by decide) rfl ?_
        refine r_aload_n 134 hE 0 dX8_of_133 rfl rfl rfl ?_
        refine r_get 137 hE 1 0 ok8 4 dX8_of_134 rfl wd_301 rfl rfl (by decide) rfl ?_
        refine r_iload_n 138 hE 1 dX8_of_137 rfl rfl rfl ?_
        refine r_callV 141 hE [0] [1, 2] [(wShelf g a L ln tp rd cnt era nws)] [(wMain g x tpa (a 0) da pa qa (ru 0) wa sa bka taped told), (wRules g ru kd fi se sg le de nx he ro rc re rr)] 0 5 ok5 [.ref (ru 0), .ref x] (c_X5_topOf (by omega) (by omega)) dX8_of_138 rfl rfl wd_680 wd_681 wd_682 wd_4 wd_683 ne_X5 np_X5_topOf (Nat.le_of_ble_eq_true rfl)  (by decide) (by decide) rfl (Nat.le_of_ble_eq_true rfl) rfl rfl rfl rfl (by decide) rfl (fun v1 f1 hp => ?_)
        obtain ⟨rfl, rfl⟩ := hp
        show G g E _ _ _ [(wShelf g a L ln tp rd cnt era nws), (wMain g x tpa (a 0) da pa qa (ru 0) wa sa bka taped told), (wRules g ru kd fi se sg le de nx he ro rc re rr)] 141 [(0, .ref x), (1, .int (iI t)), (2, .int (iI v))] [.int (iI (tp t)), .ref (ru 0), .ref x]
        refine r_callV 144 hE [2] [0, 1] [(wRules g ru kd fi se sg le de nx he ro rc re rr)] [(wShelf g a L ln tp rd cnt era nws), (wMain g x tpa (a 0) da pa qa (ru 0) wa sa bka taped told)] 0 3 ok3 [.ref x] (c_X3_signOf (by omega) (by omega)) dX8_of_141 rfl rfl wd_777 wd_778 wd_779 wd_9 wd_780 ne_X3 np_X3_signOf (Nat.le_of_ble_eq_true rfl)  (by decide) (by decide) rfl (Nat.le_of_ble_eq_true rfl) rfl rfl rfl rfl (by decide) rfl (fun v1 f1 hp => ?_)
        obtain ⟨rfl, rfl⟩ := hp
        show G g E _ _ _ [(wRules g ru kd fi se sg le de nx he ro rc re rr), (wShelf g a L ln tp rd cnt era nws), (wMain g x tpa (a 0) da pa qa (ru 0) wa sa bka taped told)] 144 [(0, .ref x), (1, .int (iI t)), (2, .int (iI v))] [.int (iI (sg (tp t))), .ref x]
        refine r_callV 147 hE [2] [0, 1] [(wMain g x tpa (a 0) da pa qa (ru 0) wa sa bka taped told)] [(wRules g ru kd fi se sg le de nx he ro rc re rr), (wShelf g a L ln tp rd cnt era nws)] 0 8 ok8 [] (c_X8_answer) dX8_of_144 rfl rfl wd_739 wd_741 ws_33 wd_1 wd_742 ne_X8 np_X8_answer (Nat.le_of_ble_eq_true rfl)  (by decide) (by decide) rfl (Nat.le_of_ble_eq_true rfl) rfl rfl rfl rfl (by decide) rfl (fun v1 f1 hp => ?_)
        obtain ⟨rfl, rfl⟩ := hp
        show G g E _ _ _ [(wMain g x tpa (a 0) da pa qa (ru 0) wa sa bka taped 0), (wRules g ru kd fi se sg le de nx he ro rc re rr), (wShelf g a L ln tp rd cnt era nws)] 147 [(0, .ref x), (1, .int (iI t)), (2, .int (iI v))] [.int (iI (sg (tp t)))]
        refine G.to (fs' := [(wMain g x tpa (a 0) da pa qa (ru 0) wa sa bka taped 0), (wShelf g a L ln tp rd cnt era nws), (wRules g ru kd fi se sg le de nx he ro rc re rr)]) [0, 2, 1] [0, 1, 2] rfl rfl rfl ?_
        refine r_ireturn hE hR [(wMain g x tpa (a 0) da pa qa (ru 0) wa sa bka taped 0), (wShelf g a L ln tp rd cnt era nws), (wRules g ru kd fi se sg le de nx he ro rc re rr)] dX8_of_147 (Nat.le_of_ble_eq_true rfl) (Nat.le_of_ble_eq_true rfl) rfl ?_
        exact ⟨sg (tp t), rfl, rfl, _, _, by rw [← lts_tx]; exact (hto t ht.1 ht.2).2, Or.inr (Or.inr (Or.inr (Or.inr (Or.inl ⟨rfl, hrr.2.1⟩))))⟩
      · skip
        have c24 := bI0 c24
        omega
    · skip
      omega
set_option maxHeartbeats 4000000 in
set_option maxRecDepth 100000 in
theorem c_X8_of_5 {g : Gm} {a : Nat → Nat} {L ln tp rd : Int → Int} {cnt era nws : Int} {s : Nat → Nat} {bo : Int → Int} {sl : Int} {ru : Nat → Nat} {kd fi se sg le de nx he ro : Int → Int} {rc re rr : Int} {R : Int → Rl} {x tpa da pa qa wa bka : Nat} {taped told : Int} {t v : Int} (hw : v = 5) (hsh : ShOk L ln cnt) (ht : 0 ≤ t ∧ t < cnt) (hT : RT kd fi se sg le de nx he rc R) (hto : TopsOk R rc L ln tp rd cnt) : Ct g 5 0 0 yX8_of cX8_of 3 (some .int) [.ref x, .int (iI t), .int (iI v)] [(wMain g x tpa (a 0) da pa qa (ru 0) wa (s 0) bka taped told), (wShelf g a L ln tp rd cnt era nws), (wSearch g s bo sl), (wRules g ru kd fi se sg le de nx he ro rc re rr)] (fun v_ w_ => ∃ bo9 : Int → Int, ∃ r9 : Int, v_ = some (.int (iI r9)) ∧ w_ = [(wMain g x tpa (a 0) da pa qa (ru 0) wa (s 0) bka taped 0), (wShelf g a L ln tp rd cnt era nws), (wSearch g s bo9 (ln t)), (wRules g ru kd fi se sg le de nx he ro rc re rr)] ∧ (OfIs (tx L t) (ln t) 5 r9)) := by
  refine Ct.of (by decide) (Nat.le_of_ble_eq_true rfl) (lv := [(0, .ref x), (1, .int (iI t)), (2, .int (iI v))]) rfl ?_
  intro E hE hR hnm
  have hc := hsh.1
  have hln := hsh.ln
  have hB := hsh.2.1
  refine r_iload_n 1 hE 2 dX8_of_0 rfl rfl rfl ?_
  refine r_if_lt 4 10 hE dX8_of_1 rfl (by decide) (by omega) (fun c1 => ?_) (fun c1 => ?_)
  · skip
    omega
  · skip
    refine r_iload_n 5 hE 2 dX8_of_4 rfl rfl rfl ?_
    refine r_bipush 7 hE dX8_of_5 rfl (by decide) ?_
    refine r_icmp_le 10 16 hE dX8_of_7 rfl (by decide) (by omega) (fun c7 => ?_) (fun c7 => ?_)
    · skip
      refine r_aload_n 17 hE 0 dX8_of_16 rfl rfl rfl ?_
      refine r_get 20 hE 0 0 ok8 4 dX8_of_17 rfl wd_301 rfl rfl (by decide) rfl ?_
      refine r_iload_n 21 hE 1 dX8_of_20 rfl rfl rfl ?_
      refine r_callV 24 hE [1] [0, 2, 3] [(wShelf g a L ln tp rd cnt era nws)] [(wMain g x tpa (a 0) da pa qa (ru 0) wa (s 0) bka taped told), (wSearch g s bo sl), (wRules g ru kd fi se sg le de nx he ro rc re rr)] 0 5 ok5 [] (c_X5_has (by omega) (by omega)) dX8_of_21 rfl rfl wd_764 wd_578 wd_579 wd_4 wd_580 ne_X5 np_X5_has (Nat.le_of_ble_eq_true rfl)  (by decide) (by decide) rfl (Nat.le_of_ble_eq_true rfl) rfl rfl rfl rfl (by decide) rfl (fun v1 f1 hp => ?_)
      obtain ⟨rfl, rfl⟩ := hp
      show G g E _ _ _ [(wShelf g a L ln tp rd cnt era nws), (wMain g x tpa (a 0) da pa qa (ru 0) wa (s 0) bka taped told), (wSearch g s bo sl), (wRules g ru kd fi se sg le de nx he ro rc re rr)] 24 [(0, .ref x), (1, .int (iI t)), (2, .int (iI v))] [.int (iI (bI (0 ≤ t ∧ t < cnt)))]
      refine r_if_ne 27 33 hE dX8_of_24 rfl (by decide) (bI_rg _) (fun c24 => ?_) (fun c24 => ?_)
      · skip
        have c24 := bI1 c24
        refine r_iload_n 34 hE 2 dX8_of_33 rfl rfl rfl ?_
        refine r_tsIn 148 hE 5 dX8_of_34 (hw) (by decide) rfl (by decide) ?_
        refine r_aload_n 149 hE 0 dX8_of_148 rfl rfl rfl ?_
        refine r_aload_n 150 hE 0 dX8_of_149 rfl rfl rfl ?_
        refine r_get 153 hE 1 0 ok8 10 dX8_of_150 rfl wd_307 rfl rfl (by decide) rfl ?_
        refine r_aload_n 154 hE 0 dX8_of_153 rfl rfl rfl ?_
        refine r_get 157 hE 1 0 ok8 4 dX8_of_154 rfl wd_301 rfl rfl (by decide) rfl ?_
        refine r_iload_n 158 hE 1 dX8_of_157 rfl rfl rfl ?_
        refine r_callV 161 hE [2, 0] [1, 3] [(wSearch g s bo sl), (wShelf g a L ln tp rd cnt era nws)] [(wMain g x tpa (a 0) da pa qa (ru 0) wa (s 0) bka taped told), (wRules g ru kd fi se sg le de nx he ro rc re rr)] 0 4 ok4 [.ref x] (c_X4_period (by omega) (by omega) (hln) (hB) (fun k a b => ((hsh.2.2 t ht.1 ht.2).2 k a b).1) ((hsh.2.2 t ht.1 ht.2).1.1)) dX8_of_158 rfl rfl wd_781 wd_782 wd_783 wd_11 wd_784 ne_X4 np_X4_period (Nat.le_of_ble_eq_true rfl)  (by decide) (by decide) rfl (Nat.le_of_ble_eq_true rfl) rfl rfl rfl rfl (by decide) rfl (fun v1 f1 hp => ?_)
        obtain ⟨bo9_158, r_158, rfl, rfl, h158_0⟩ := hp
        show G g E _ _ _ [(wSearch g s bo9_158 (ln t)), (wShelf g a L ln tp rd cnt era nws), (wMain g x tpa (a 0) da pa qa (ru 0) wa (s 0) bka taped told), (wRules g ru kd fi se sg le de nx he ro rc re rr)] 161 [(0, .ref x), (1, .int (iI t)), (2, .int (iI v))] [.int (iI r_158), .ref x]
        refine r_callV 164 hE [2] [0, 1, 3] [(wMain g x tpa (a 0) da pa qa (ru 0) wa (s 0) bka taped told)] [(wSearch g s bo9_158 (ln t)), (wShelf g a L ln tp rd cnt era nws), (wRules g ru kd fi se sg le de nx he ro rc re rr)] 0 8 ok8 [] (c_X8_answer) dX8_of_161 rfl rfl wd_739 wd_741 ws_33 wd_1 wd_742 ne_X8 np_X8_answer (Nat.le_of_ble_eq_true rfl)  (by decide) (by decide) rfl (Nat.le_of_ble_eq_true rfl) rfl rfl rfl rfl (by decide) rfl (fun v1 f1 hp => ?_)
        obtain ⟨rfl, rfl⟩ := hp
        show G g E _ _ _ [(wMain g x tpa (a 0) da pa qa (ru 0) wa (s 0) bka taped 0), (wSearch g s bo9_158 (ln t)), (wShelf g a L ln tp rd cnt era nws), (wRules g ru kd fi se sg le de nx he ro rc re rr)] 164 [(0, .ref x), (1, .int (iI t)), (2, .int (iI v))] [.int (iI r_158)]
        refine G.to (fs' := [(wMain g x tpa (a 0) da pa qa (ru 0) wa (s 0) bka taped 0), (wShelf g a L ln tp rd cnt era nws), (wSearch g s bo9_158 (ln t)), (wRules g ru kd fi se sg le de nx he ro rc re rr)]) [0, 2, 1, 3] [0, 1, 2] rfl rfl rfl ?_
        refine r_ireturn hE hR [(wMain g x tpa (a 0) da pa qa (ru 0) wa (s 0) bka taped 0), (wShelf g a L ln tp rd cnt era nws), (wSearch g s bo9_158 (ln t)), (wRules g ru kd fi se sg le de nx he ro rc re rr)] dX8_of_164 (Nat.le_of_ble_eq_true rfl) (Nat.le_of_ble_eq_true rfl) rfl ?_
        exact ⟨_, _, rfl, rfl, _, _, by rw [← lts_tx]; exact (hto t ht.1 ht.2).2, Or.inr (Or.inr (Or.inr (Or.inr (Or.inr (Or.inl ⟨rfl, h158_0⟩)))))⟩
      · skip
        have c24 := bI0 c24
        omega
    · skip
      omega
set_option maxHeartbeats 4000000 in
set_option maxRecDepth 100000 in
theorem c_X8_of_no {g : Gm} {a : Nat → Nat} {L ln tp rd : Int → Int} {cnt era nws : Int} {x tpa da pa qa rua wa sa bka : Nat} {taped told : Int} {t v : Int} (hsh : ShOk L ln cnt) (ht : -2147483648 ≤ t ∧ t ≤ 2147483647) (hv : -2147483648 ≤ v ∧ v ≤ 2147483647) (hno : ¬ (0 ≤ v ∧ v ≤ 6) ∨ ¬ (0 ≤ t ∧ t < cnt)) : Ct g 5 0 0 yX8_of cX8_of 3 (some .int) [.ref x, .int (iI t), .int (iI v)] [(wMain g x tpa (a 0) da pa qa rua wa sa bka taped told), (wShelf g a L ln tp rd cnt era nws)] (fun v_ w_ => v_ = some (.int (iI (-1))) ∧ w_ = [(wMain g x tpa (a 0) da pa qa rua wa sa bka taped (if ¬ (0 ≤ v ∧ v ≤ 6) then 1 else 2)), (wShelf g a L ln tp rd cnt era nws)]) := by
  refine Ct.of (by decide) (Nat.le_of_ble_eq_true rfl) (lv := [(0, .ref x), (1, .int (iI t)), (2, .int (iI v))]) rfl ?_
  intro E hE hR hnm
  have hc := hsh.1
  have hln := hsh.ln
  have hB := hsh.2.1
  refine r_iload_n 1 hE 2 dX8_of_0 rfl rfl rfl ?_
  refine r_if_lt 4 10 hE dX8_of_1 rfl (by decide) (by omega) (fun c1 => ?_) (fun c1 => ?_)
  · skip
    refine r_aload_n 11 hE 0 dX8_of_10 rfl rfl rfl ?_
    refine r_iconst 12 hE dX8_of_11 rfl ?_
    refine r_callV 15 hE [0] [1] [(wMain g x tpa (a 0) da pa qa rua wa sa bka taped told)] [(wShelf g a L ln tp rd cnt era nws)] 0 8 ok8 [] (c_X8_refuse) dX8_of_12 rfl rfl wd_347 wd_349 ws_1 wd_1 wd_350 ne_X8 np_X8_refuse (Nat.le_of_ble_eq_true rfl)  (by decide) (by decide) rfl (Nat.le_of_ble_eq_true rfl) rfl rfl rfl rfl (by decide) rfl (fun v1 f1 hp => ?_)
    obtain ⟨rfl, rfl⟩ := hp
    show G g E _ _ _ [(wMain g x tpa (a 0) da pa qa rua wa sa bka taped 1), (wShelf g a L ln tp rd cnt era nws)] 15 [(0, .ref x), (1, .int (iI t)), (2, .int (iI v))] [.int (iI (-1))]
    refine r_ireturn hE hR [(wMain g x tpa (a 0) da pa qa rua wa sa bka taped 1), (wShelf g a L ln tp rd cnt era nws)] dX8_of_15 (Nat.le_of_ble_eq_true rfl) (Nat.le_of_ble_eq_true rfl) rfl ?_
    exact ⟨rfl, by rw [if_pos (by omega)]⟩
  · skip
    refine r_iload_n 5 hE 2 dX8_of_4 rfl rfl rfl ?_
    refine r_bipush 7 hE dX8_of_5 rfl (by decide) ?_
    refine r_icmp_le 10 16 hE dX8_of_7 rfl (by decide) (by omega) (fun c7 => ?_) (fun c7 => ?_)
    · skip
      refine r_aload_n 17 hE 0 dX8_of_16 rfl rfl rfl ?_
      refine r_get 20 hE 0 0 ok8 4 dX8_of_17 rfl wd_301 rfl rfl (by decide) rfl ?_
      refine r_iload_n 21 hE 1 dX8_of_20 rfl rfl rfl ?_
      refine r_callV 24 hE [1] [0] [(wShelf g a L ln tp rd cnt era nws)] [(wMain g x tpa (a 0) da pa qa rua wa sa bka taped told)] 0 5 ok5 [] (c_X5_has (by omega) (by omega)) dX8_of_21 rfl rfl wd_764 wd_578 wd_579 wd_4 wd_580 ne_X5 np_X5_has (Nat.le_of_ble_eq_true rfl)  (by decide) (by decide) rfl (Nat.le_of_ble_eq_true rfl) rfl rfl rfl rfl (by decide) rfl (fun v1 f1 hp => ?_)
      obtain ⟨rfl, rfl⟩ := hp
      show G g E _ _ _ [(wShelf g a L ln tp rd cnt era nws), (wMain g x tpa (a 0) da pa qa rua wa sa bka taped told)] 24 [(0, .ref x), (1, .int (iI t)), (2, .int (iI v))] [.int (iI (bI (0 ≤ t ∧ t < cnt)))]
      refine r_if_ne 27 33 hE dX8_of_24 rfl (by decide) (bI_rg _) (fun c24 => ?_) (fun c24 => ?_)
      · skip
        have c24 := bI1 c24
        exfalso; rcases hno with z | z <;> omega
      · skip
        have c24 := bI0 c24
        refine r_aload_n 28 hE 0 dX8_of_27 rfl rfl rfl ?_
        refine r_iconst 29 hE dX8_of_28 rfl ?_
        refine r_callV 32 hE [1] [0] [(wMain g x tpa (a 0) da pa qa rua wa sa bka taped told)] [(wShelf g a L ln tp rd cnt era nws)] 0 8 ok8 [] (c_X8_refuse) dX8_of_29 rfl rfl wd_347 wd_349 ws_1 wd_1 wd_350 ne_X8 np_X8_refuse (Nat.le_of_ble_eq_true rfl)  (by decide) (by decide) rfl (Nat.le_of_ble_eq_true rfl) rfl rfl rfl rfl (by decide) rfl (fun v1 f1 hp => ?_)
        obtain ⟨rfl, rfl⟩ := hp
        show G g E _ _ _ [(wMain g x tpa (a 0) da pa qa rua wa sa bka taped 2), (wShelf g a L ln tp rd cnt era nws)] 32 [(0, .ref x), (1, .int (iI t)), (2, .int (iI v))] [.int (iI (-1))]
        refine r_ireturn hE hR [(wMain g x tpa (a 0) da pa qa rua wa sa bka taped 2), (wShelf g a L ln tp rd cnt era nws)] dX8_of_32 (Nat.le_of_ble_eq_true rfl) (Nat.le_of_ble_eq_true rfl) rfl ?_
        exact ⟨rfl, by rw [if_neg (by omega)]⟩
    · skip
      refine r_aload_n 11 hE 0 dX8_of_10 rfl rfl rfl ?_
      refine r_iconst 12 hE dX8_of_11 rfl ?_
      refine r_callV 15 hE [0] [1] [(wMain g x tpa (a 0) da pa qa rua wa sa bka taped told)] [(wShelf g a L ln tp rd cnt era nws)] 0 8 ok8 [] (c_X8_refuse) dX8_of_12 rfl rfl wd_347 wd_349 ws_1 wd_1 wd_350 ne_X8 np_X8_refuse (Nat.le_of_ble_eq_true rfl)  (by decide) (by decide) rfl (Nat.le_of_ble_eq_true rfl) rfl rfl rfl rfl (by decide) rfl (fun v1 f1 hp => ?_)
      obtain ⟨rfl, rfl⟩ := hp
      show G g E _ _ _ [(wMain g x tpa (a 0) da pa qa rua wa sa bka taped 1), (wShelf g a L ln tp rd cnt era nws)] 15 [(0, .ref x), (1, .int (iI t)), (2, .int (iI v))] [.int (iI (-1))]
      refine r_ireturn hE hR [(wMain g x tpa (a 0) da pa qa rua wa sa bka taped 1), (wShelf g a L ln tp rd cnt era nws)] dX8_of_15 (Nat.le_of_ble_eq_true rfl) (Nat.le_of_ble_eq_true rfl) rfl ?_
      exact ⟨rfl, by rw [if_pos (by omega)]⟩
