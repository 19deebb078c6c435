set_option maxHeartbeats 4000000 in
set_option maxRecDepth 100000 in
theorem c_X8_rule_0 {g : Gm} {a : Nat → Nat} {L ln tp rd : Int → Int} {cnt era nws : Int} {ru : Nat → Nat} {kd fi se sg le de nx he ro : Int → Int} {rc re rr : Int} {R : Int → Rl} {w : Nat → Nat} {sp nb mt pl op no : Int → Int} {od stm wc : Int} {x tpa da pa qa sa bka : Nat} {taped told : Int} {t k_ v : Int} (hw : v = 0) (hT : RT kd fi se sg le de nx he rc R) (hsh : ShOk L ln cnt) (hto : TopsOk R rc L ln tp rd cnt) (ht : 0 ≤ t ∧ t < cnt) (hWI : 0 ≤ stm ∧ ∀ i, 0 ≤ i → i < 10240 → 0 ≤ sp i ∧ sp i ≤ stm) (hs2 : stm ≤ 1500000000) (hk : 0 ≤ k_ ∧ ∀ T q, BIs (lts (tx L t) 0 (ln t)) T q → k_ < ((vis T 0 []).length : Int)) (hkr : -2147483648 ≤ k_ ∧ k_ ≤ 2147483647) : Ct g 6 0 0 yX8_rule cX8_rule 5 (some .int) [.ref x, .int (iI t), .int (iI k_), .int (iI v)] [(wMain g x tpa (a 0) da pa qa (ru 0) (w 0) sa bka taped told), (wShelf g a L ln tp rd cnt era nws), (wWalk g w (ru 0) sp nb mt pl op no od stm wc), (wRules g ru kd fi se sg le de nx he ro rc re rr)] (fun v_ w_ => ∃ sp9 : Int → Int, ∃ nb9 : Int → Int, ∃ mt9 : Int → Int, ∃ pl9 : Int → Int, ∃ op9 : Int → Int, ∃ no9 : Int → Int, ∃ od9 : Int, ∃ wc9 : Int, ∃ r9 : Int, v_ = some (.int (iI r9)) ∧ w_ = [(wMain g x tpa (a 0) da pa qa (ru 0) (w 0) sa bka taped 0), (wShelf g a L ln tp rd cnt era nws), (wWalk g w (ru 0) sp9 nb9 mt9 pl9 op9 no9 od9 (stm + 1) wc9), (wRules g ru kd fi se sg le de nx he ro rc re rr)] ∧ (0 ≤ stm + 1 ∧ ∀ i, 0 ≤ i → i < 10240 → 0 ≤ sp9 i ∧ sp9 i ≤ stm + 1) ∧ (∃ T q, BIs (lts (tx L t) 0 (ln t)) T q ∧ ((vis T 0 []).map Prod.fst).Nodup ∧ RuleIs (vis T 0 []) T k_ 0 r9)) := by
  refine Ct.of (by decide) (Nat.le_of_ble_eq_true rfl) (lv := [(0, .ref x), (1, .int (iI t)), (2, .int (iI k_)), (3, .int (iI v))]) rfl ?_
  intro E hE hR hnm
  have hc := hsh.1
  have hln := hsh.ln
  have hB := hsh.2.1
  have hcn := hT.1
  have htr := (hto t ht.1 ht.2).1
  have hrr := hT.2.1 (tp t) htr.1 htr.2
  have hbt := (hto t ht.1 ht.2).2
  rw [lts_tx] at hbt
  refine r_iload_n 1 hE 2 dX8_rule_0 rfl rfl rfl ?_
  refine r_if_lt 4 14 hE dX8_rule_1 rfl (by decide) (by omega) (fun c1 => ?_) (fun c1 => ?_)
  · skip
    omega
  · skip
    refine r_iload_n 5 hE 3 dX8_rule_4 rfl rfl rfl ?_
    refine r_if_lt 8 14 hE dX8_rule_5 rfl (by decide) (by omega) (fun c5 => ?_) (fun c5 => ?_)
    · skip
      omega
    · skip
      refine r_iload_n 9 hE 3 dX8_rule_8 rfl rfl rfl ?_
      refine r_bipush 11 hE dX8_rule_9 rfl (by decide) ?_
      refine r_icmp_le 14 20 hE dX8_rule_11 rfl (by decide) (by omega) (fun c11 => ?_) (fun c11 => ?_)
      · skip
        refine r_aload_n 21 hE 0 dX8_rule_20 rfl rfl rfl ?_
        refine r_get 24 hE 0 0 ok8 4 dX8_rule_21 rfl wd_301 rfl rfl (by decide) rfl ?_
        refine r_iload_n 25 hE 1 dX8_rule_24 rfl rfl rfl ?_
        refine r_callV 28 hE [1] [0, 2, 3] [(wShelf g a L ln tp rd cnt era nws)] [(wMain g x tpa (a 0) da pa qa (ru 0) (w 0) sa bka taped told), (wWalk g w (ru 0) sp nb mt pl op no od stm wc), (wRules g ru kd fi se sg le de nx he ro rc re rr)] 0 5 ok5 [] (c_X5_has (by omega) (by omega)) dX8_rule_25 rfl rfl wd_764 wd_578 wd_579 wd_4 wd_580 ne_X5 np_X5_has (Nat.le_of_ble_eq_true rfl)  (by decide) (by decide) rfl (Nat.le_of_ble_eq_true rfl) rfl rfl rfl rfl (by decide) rfl (fun v1 f1 hp => ?_)
        obtain ⟨rfl, rfl⟩ := hp
        show G g E _ _ _ [(wShelf g a L ln tp rd cnt era nws), (wMain g x tpa (a 0) da pa qa (ru 0) (w 0) sa bka taped told), (wWalk g w (ru 0) sp nb mt pl op no od stm wc), (wRules g ru kd fi se sg le de nx he ro rc re rr)] 28 [(0, .ref x), (1, .int (iI t)), (2, .int (iI k_)), (3, .int (iI v))] [.int (iI (bI (0 ≤ t ∧ t < cnt)))]
        refine r_if_ne 31 37 hE dX8_rule_28 rfl (by decide) (bI_rg _) (fun c28 => ?_) (fun c28 => ?_)
        · skip
          have c28 := bI1 c28
          refine r_iload_n 38 hE 2 dX8_rule_37 rfl rfl rfl ?_
          refine r_aload_n 39 hE 0 dX8_rule_38 rfl rfl rfl ?_
          refine r_iload_n 40 hE 1 dX8_rule_39 rfl rfl rfl ?_
          refine r_callV 43 hE [1, 0, 2, 3] [] [(wMain g x tpa (a 0) da pa qa (ru 0) (w 0) sa bka taped told), (wShelf g a L ln tp rd cnt era nws), (wWalk g w (ru 0) sp nb mt pl op no od stm wc), (wRules g ru kd fi se sg le de nx he ro rc re rr)] [] 0 8 ok8 [.int (iI k_)] (c_X8_number (hT) (by omega) (by omega) (htr) (hWI) (by omega)) dX8_rule_40 rfl rfl wd_765 wd_767 ws_35 wd_1 wd_768 ne_X8 np_X8_number (Nat.le_of_ble_eq_true rfl)  (by decide) (by decide) rfl (Nat.le_of_ble_eq_true rfl) rfl rfl rfl rfl (by decide) rfl (fun v1 f1 hp => ?_)
          obtain ⟨sp9_40, nb9_40, mt9_40, pl9_40, op9_40, no9_40, od9_40, wc9_40, V9_40, rfl, rfl, h40_0, h40_1⟩ := hp
          show G g E _ _ _ [(wMain g x tpa (a 0) da pa qa (ru 0) (w 0) sa bka taped told), (wShelf g a L ln tp rd cnt era nws), (wWalk g w (ru 0) sp9_40 nb9_40 mt9_40 pl9_40 op9_40 no9_40 od9_40 (stm + 1) wc9_40), (wRules g ru kd fi se sg le de nx he ro rc re rr)] 43 [(0, .ref x), (1, .int (iI t)), (2, .int (iI k_)), (3, .int (iI v))] [.int (iI wc9_40), .int (iI k_)]
          have hlen := h40_0.le625 hT htr h40_1
          have hwl := h40_0.1
          have hk2 : k_ < wc9_40 := by have h9 := hk.2 _ _ hbt; rw [← h40_1] at h9; omega
          have hmt := h40_0.2.2.2.2.1 k_ hk.1 (by omega) hk2
          have hmr := hT.2.1 _ hmt.1.1 hmt.1.2
          have hmg := hmr.rg (by omega)
          have hin : InV V9_40 (R (mt9_40 k_)) := ⟨_, List.mem_of_getElem? hmt.2⟩
          have hpa := h40_0.parts hT h40_1 hmt.1 hin
          have hnd := h40_0.2.2.2.2.2.2
          have hVk := hmt.2
          rw [h40_1] at hnd hVk
          refine r_icmp_lt 46 52 hE dX8_rule_43 rfl (by decide) (by omega) (fun c43 => ?_) (fun c43 => ?_)
          · skip
            refine r_aload_n 53 hE 0 dX8_rule_52 rfl rfl rfl ?_
            refine r_get 56 hE 0 0 ok8 8 dX8_rule_53 rfl wd_305 rfl rfl (by decide) rfl ?_
            refine r_iload_n 57 hE 2 dX8_rule_56 rfl rfl rfl ?_
            refine r_callV 60 hE [2] [0, 1, 3] [(wWalk g w (ru 0) sp9_40 nb9_40 mt9_40 pl9_40 op9_40 no9_40 od9_40 (stm + 1) wc9_40)] [(wMain g x tpa (a 0) da pa qa (ru 0) (w 0) sa bka taped told), (wShelf g a L ln tp rd cnt era nws), (wRules g ru kd fi se sg le de nx he ro rc re rr)] 0 7 ok7 [] (c_X7_ruleAt (by omega) (by omega)) dX8_rule_57 rfl rfl wd_823 wd_824 wd_825 wd_8 wd_826 ne_X7 np_X7_ruleAt (Nat.le_of_ble_eq_true rfl)  (by decide) (by decide) rfl (Nat.le_of_ble_eq_true rfl) rfl rfl rfl rfl (by decide) rfl (fun v1 f1 hp => ?_)
            obtain ⟨rfl, rfl⟩ := hp
            show G g E _ _ _ [(wWalk g w (ru 0) sp9_40 nb9_40 mt9_40 pl9_40 op9_40 no9_40 od9_40 (stm + 1) wc9_40), (wMain g x tpa (a 0) da pa qa (ru 0) (w 0) sa bka taped told), (wShelf g a L ln tp rd cnt era nws), (wRules g ru kd fi se sg le de nx he ro rc re rr)] 60 [(0, .ref x), (1, .int (iI t)), (2, .int (iI k_)), (3, .int (iI v))] [.int (iI (mt9_40 k_))]
            refine r_istore 62 hE [(4, .int (iI (mt9_40 k_))), (0, .ref x), (1, .int (iI t)), (2, .int (iI k_)), (3, .int (iI v))] dX8_rule_60 rfl (by decide) rfl ?_
            refine r_iload_n 63 hE 4 dX8_rule_62 rfl rfl rfl ?_
            refine r_tsIn 100 hE 0 dX8_rule_63 (hw) (by decide) rfl (by decide) ?_
            refine r_aload_n 101 hE 1 dX8_rule_100 rfl rfl rfl ?_
            refine r_aload_n 102 hE 1 dX8_rule_101 rfl rfl rfl ?_
            refine r_get 105 hE 1 0 ok8 9 dX8_rule_102 rfl wd_306 rfl rfl (by decide) rfl ?_
            refine r_iload 107 hE 0 dX8_rule_105 rfl rfl ?_
            refine r_callV 110 hE [3] [0, 1, 2] [(wRules g ru kd fi se sg le de nx he ro rc re rr)] [(wWalk g w (ru 0) sp9_40 nb9_40 mt9_40 pl9_40 op9_40 no9_40 od9_40 (stm + 1) wc9_40), (wMain g x tpa (a 0) da pa qa (ru 0) (w 0) sa bka taped told), (wShelf g a L ln tp rd cnt era nws)] 0 3 ok3 [.ref x] (c_X3_kindOf (by omega) (by omega)) dX8_rule_107 rfl rfl wd_827 wd_702 wd_703 wd_9 wd_704 ne_X3 np_X3_kindOf (Nat.le_of_ble_eq_true rfl)  (by decide) (by decide) rfl (Nat.le_of_ble_eq_true rfl) rfl rfl rfl rfl (by decide) rfl (fun v1 f1 hp => ?_)
            obtain ⟨rfl, rfl⟩ := hp
            show G g E _ _ _ [(wRules g ru kd fi se sg le de nx he ro rc re rr), (wWalk g w (ru 0) sp9_40 nb9_40 mt9_40 pl9_40 op9_40 no9_40 od9_40 (stm + 1) wc9_40), (wMain g x tpa (a 0) da pa qa (ru 0) (w 0) sa bka taped told), (wShelf g a L ln tp rd cnt era nws)] 110 [(4, .int (iI (mt9_40 k_))), (0, .ref x), (1, .int (iI t)), (2, .int (iI k_)), (3, .int (iI v))] [.int (iI (kd (mt9_40 k_))), .ref x]
            refine r_callV 113 hE [2] [0, 1, 3] [(wMain g x tpa (a 0) da pa qa (ru 0) (w 0) sa bka taped told)] [(wRules g ru kd fi se sg le de nx he ro rc re rr), (wWalk g w (ru 0) sp9_40 nb9_40 mt9_40 pl9_40 op9_40 no9_40 od9_40 (stm + 1) wc9_40), (wShelf g a L ln tp rd cnt era nws)] 0 8 ok8 [] (c_X8_answer) dX8_rule_110 rfl rfl wd_739 wd_741 ws_33 wd_1 wd_742 ne_X8 np_X8_answer (Nat.le_of_ble_eq_true rfl)  (by decide) (by decide) rfl (Nat.le_of_ble_eq_true rfl) rfl rfl rfl rfl (by decide) rfl (fun v1 f1 hp => ?_)
            obtain ⟨rfl, rfl⟩ := hp
            show G g E _ _ _ [(wMain g x tpa (a 0) da pa qa (ru 0) (w 0) sa bka taped 0), (wRules g ru kd fi se sg le de nx he ro rc re rr), (wWalk g w (ru 0) sp9_40 nb9_40 mt9_40 pl9_40 op9_40 no9_40 od9_40 (stm + 1) wc9_40), (wShelf g a L ln tp rd cnt era nws)] 113 [(4, .int (iI (mt9_40 k_))), (0, .ref x), (1, .int (iI t)), (2, .int (iI k_)), (3, .int (iI v))] [.int (iI (kd (mt9_40 k_)))]
            refine G.to (fs' := [(wMain g x tpa (a 0) da pa qa (ru 0) (w 0) sa bka taped 0), (wShelf g a L ln tp rd cnt era nws), (wWalk g w (ru 0) sp9_40 nb9_40 mt9_40 pl9_40 op9_40 no9_40 od9_40 (stm + 1) wc9_40), (wRules g ru kd fi se sg le de nx he ro rc re rr)]) [0, 3, 2, 1] [0, 1, 2, 3, 4] rfl rfl rfl ?_
            refine r_ireturn hE hR [(wMain g x tpa (a 0) da pa qa (ru 0) (w 0) sa bka taped 0), (wShelf g a L ln tp rd cnt era nws), (wWalk g w (ru 0) sp9_40 nb9_40 mt9_40 pl9_40 op9_40 no9_40 od9_40 (stm + 1) wc9_40), (wRules g ru kd fi se sg le de nx he ro rc re rr)] dX8_rule_113 (Nat.le_of_ble_eq_true rfl) (Nat.le_of_ble_eq_true rfl) rfl ?_
            exact ⟨sp9_40, nb9_40, mt9_40, pl9_40, op9_40, no9_40, od9_40, wc9_40, kd (mt9_40 k_), rfl, rfl, h40_0.2.1, R (tp t), _, hbt, hnd, _, _, hVk, Or.inl (⟨rfl, hmr.kind⟩)⟩
          · skip
            omega
        · skip
          have c28 := bI0 c28
          omega
      · skip
        omega
set_option maxHeartbeats 4000000 in
set_option maxRecDepth 100000 in
theorem c_X8_rule_1 {g : Gm} {a : Nat → Nat} {L ln tp rd : Int → Int} {cnt era nws : Int} {ru : Nat → Nat} {kd fi se sg le de nx he ro : Int → Int} {rc re rr : Int} {R : Int → Rl} {w : Nat → Nat} {sp nb mt pl op no : Int → Int} {od stm wc : Int} {x tpa da pa qa sa bka : Nat} {taped told : Int} {t k_ v : Int} (hw : v = 1) (hT : RT kd fi se sg le de nx he rc R) (hsh : ShOk L ln cnt) (hto : TopsOk R rc L ln tp rd cnt) (ht : 0 ≤ t ∧ t < cnt) (hWI : 0 ≤ stm ∧ ∀ i, 0 ≤ i → i < 10240 → 0 ≤ sp i ∧ sp i ≤ stm) (hs2 : stm ≤ 1500000000) (hk : 0 ≤ k_ ∧ ∀ T q, BIs (lts (tx L t) 0 (ln t)) T q → k_ < ((vis T 0 []).length : Int)) (hkr : -2147483648 ≤ k_ ∧ k_ ≤ 2147483647) : Ct g 6 0 0 yX8_rule cX8_rule 5 (some .int) [.ref x, .int (iI t), .int (iI k_), .int (iI v)] [(wMain g x tpa (a 0) da pa qa (ru 0) (w 0) sa bka taped told), (wShelf g a L ln tp rd cnt era nws), (wWalk g w (ru 0) sp nb mt pl op no od stm wc), (wRules g ru kd fi se sg le de nx he ro rc re rr)] (fun v_ w_ => ∃ sp9 : Int → Int, ∃ nb9 : Int → Int, ∃ mt9 : Int → Int, ∃ pl9 : Int → Int, ∃ op9 : Int → Int, ∃ no9 : Int → Int, ∃ od9 : Int, ∃ wc9 : Int, ∃ r9 : Int, v_ = some (.int (iI r9)) ∧ w_ = [(wMain g x tpa (a 0) da pa qa (ru 0) (w 0) sa bka taped 0), (wShelf g a L ln tp rd cnt era nws), (wWalk g w (ru 0) sp9 nb9 mt9 pl9 op9 no9 od9 (stm + 1) wc9), (wRules g ru kd fi se sg le de nx he ro rc re rr)] ∧ (0 ≤ stm + 1 ∧ ∀ i, 0 ≤ i → i < 10240 → 0 ≤ sp9 i ∧ sp9 i ≤ stm + 1) ∧ (∃ T q, BIs (lts (tx L t) 0 (ln t)) T q ∧ ((vis T 0 []).map Prod.fst).Nodup ∧ RuleIs (vis T 0 []) T k_ 1 r9)) := by
  refine Ct.of (by decide) (Nat.le_of_ble_eq_true rfl) (lv := [(0, .ref x), (1, .int (iI t)), (2, .int (iI k_)), (3, .int (iI v))]) rfl ?_
  intro E hE hR hnm
  have hc := hsh.1
  have hln := hsh.ln
  have hB := hsh.2.1
  have hcn := hT.1
  have htr := (hto t ht.1 ht.2).1
  have hrr := hT.2.1 (tp t) htr.1 htr.2
  have hbt := (hto t ht.1 ht.2).2
  rw [lts_tx] at hbt
  refine r_iload_n 1 hE 2 dX8_rule_0 rfl rfl rfl ?_
  refine r_if_lt 4 14 hE dX8_rule_1 rfl (by decide) (by omega) (fun c1 => ?_) (fun c1 => ?_)
  · skip
    omega
  · skip
    refine r_iload_n 5 hE 3 dX8_rule_4 rfl rfl rfl ?_
    refine r_if_lt 8 14 hE dX8_rule_5 rfl (by decide) (by omega) (fun c5 => ?_) (fun c5 => ?_)
    · skip
      omega
    · skip
      refine r_iload_n 9 hE 3 dX8_rule_8 rfl rfl rfl ?_
      refine r_bipush 11 hE dX8_rule_9 rfl (by decide) ?_
      refine r_icmp_le 14 20 hE dX8_rule_11 rfl (by decide) (by omega) (fun c11 => ?_) (fun c11 => ?_)
      · skip
        refine r_aload_n 21 hE 0 dX8_rule_20 rfl rfl rfl ?_
        refine r_get 24 hE 0 0 ok8 4 dX8_rule_21 rfl wd_301 rfl rfl (by decide) rfl ?_
        refine r_iload_n 25 hE 1 dX8_rule_24 rfl rfl rfl ?_
        refine r_callV 28 hE [1] [0, 2, 3] [(wShelf g a L ln tp rd cnt era nws)] [(wMain g x tpa (a 0) da pa qa (ru 0) (w 0) sa bka taped told), (wWalk g w (ru 0) sp nb mt pl op no od stm wc), (wRules g ru kd fi se sg le de nx he ro rc re rr)] 0 5 ok5 [] (c_X5_has (by omega) (by omega)) dX8_rule_25 rfl rfl wd_764 wd_578 wd_579 wd_4 wd_580 ne_X5 np_X5_has (Nat.le_of_ble_eq_true rfl)  (by decide) (by decide) rfl (Nat.le_of_ble_eq_true rfl) rfl rfl rfl rfl (by decide) rfl (fun v1 f1 hp => ?_)
        obtain ⟨rfl, rfl⟩ := hp
        show G g E _ _ _ [(wShelf g a L ln tp rd cnt era nws), (wMain g x tpa (a 0) da pa qa (ru 0) (w 0) sa bka taped told), (wWalk g w (ru 0) sp nb mt pl op no od stm wc), (wRules g ru kd fi se sg le de nx he ro rc re rr)] 28 [(0, .ref x), (1, .int (iI t)), (2, .int (iI k_)), (3, .int (iI v))] [.int (iI (bI (0 ≤ t ∧ t < cnt)))]
        refine r_if_ne 31 37 hE dX8_rule_28 rfl (by decide) (bI_rg _) (fun c28 => ?_) (fun c28 => ?_)
        · skip
          have c28 := bI1 c28
          refine r_iload_n 38 hE 2 dX8_rule_37 rfl rfl rfl ?_
          refine r_aload_n 39 hE 0 dX8_rule_38 rfl rfl rfl ?_
          refine r_iload_n 40 hE 1 dX8_rule_39 rfl rfl rfl ?_
          refine r_callV 43 hE [1, 0, 2, 3] [] [(wMain g x tpa (a 0) da pa qa (ru 0) (w 0) sa bka taped told), (wShelf g a L ln tp rd cnt era nws), (wWalk g w (ru 0) sp nb mt pl op no od stm wc), (wRules g ru kd fi se sg le de nx he ro rc re rr)] [] 0 8 ok8 [.int (iI k_)] (c_X8_number (hT) (by omega) (by omega) (htr) (hWI) (by omega)) dX8_rule_40 rfl rfl wd_765 wd_767 ws_35 wd_1 wd_768 ne_X8 np_X8_number (Nat.le_of_ble_eq_true rfl)  (by decide) (by decide) rfl (Nat.le_of_ble_eq_true rfl) rfl rfl rfl rfl (by decide) rfl (fun v1 f1 hp => ?_)
          obtain ⟨sp9_40, nb9_40, mt9_40, pl9_40, op9_40, no9_40, od9_40, wc9_40, V9_40, rfl, rfl, h40_0, h40_1⟩ := hp
          show G g E _ _ _ [(wMain g x tpa (a 0) da pa qa (ru 0) (w 0) sa bka taped told), (wShelf g a L ln tp rd cnt era nws), (wWalk g w (ru 0) sp9_40 nb9_40 mt9_40 pl9_40 op9_40 no9_40 od9_40 (stm + 1) wc9_40), (wRules g ru kd fi se sg le de nx he ro rc re rr)] 43 [(0, .ref x), (1, .int (iI t)), (2, .int (iI k_)), (3, .int (iI v))] [.int (iI wc9_40), .int (iI k_)]
          have hlen := h40_0.le625 hT htr h40_1
          have hwl := h40_0.1
          have hk2 : k_ < wc9_40 := by have h9 := hk.2 _ _ hbt; rw [← h40_1] at h9; omega
          have hmt := h40_0.2.2.2.2.1 k_ hk.1 (by omega) hk2
          have hmr := hT.2.1 _ hmt.1.1 hmt.1.2
          have hmg := hmr.rg (by omega)
          have hin : InV V9_40 (R (mt9_40 k_)) := ⟨_, List.mem_of_getElem? hmt.2⟩
          have hpa := h40_0.parts hT h40_1 hmt.1 hin
          have hnd := h40_0.2.2.2.2.2.2
          have hVk := hmt.2
          rw [h40_1] at hnd hVk
          refine r_icmp_lt 46 52 hE dX8_rule_43 rfl (by decide) (by omega) (fun c43 => ?_) (fun c43 => ?_)
          · skip
            refine r_aload_n 53 hE 0 dX8_rule_52 rfl rfl rfl ?_
            refine r_get 56 hE 0 0 ok8 8 dX8_rule_53 rfl wd_305 rfl rfl (by decide) rfl ?_
            refine r_iload_n 57 hE 2 dX8_rule_56 rfl rfl rfl ?_
            refine r_callV 60 hE [2] [0, 1, 3] [(wWalk g w (ru 0) sp9_40 nb9_40 mt9_40 pl9_40 op9_40 no9_40 od9_40 (stm + 1) wc9_40)] [(wMain g x tpa (a 0) da pa qa (ru 0) (w 0) sa bka taped told), (wShelf g a L ln tp rd cnt era nws), (wRules g ru kd fi se sg le de nx he ro rc re rr)] 0 7 ok7 [] (c_X7_ruleAt (by omega) (by omega)) dX8_rule_57 rfl rfl wd_823 wd_824 wd_825 wd_8 wd_826 ne_X7 np_X7_ruleAt (Nat.le_of_ble_eq_true rfl)  (by decide) (by decide) rfl (Nat.le_of_ble_eq_true rfl) rfl rfl rfl rfl (by decide) rfl (fun v1 f1 hp => ?_)
            obtain ⟨rfl, rfl⟩ := hp
            show G g E _ _ _ [(wWalk g w (ru 0) sp9_40 nb9_40 mt9_40 pl9_40 op9_40 no9_40 od9_40 (stm + 1) wc9_40), (wMain g x tpa (a 0) da pa qa (ru 0) (w 0) sa bka taped told), (wShelf g a L ln tp rd cnt era nws), (wRules g ru kd fi se sg le de nx he ro rc re rr)] 60 [(0, .ref x), (1, .int (iI t)), (2, .int (iI k_)), (3, .int (iI v))] [.int (iI (mt9_40 k_))]
            refine r_istore 62 hE [(4, .int (iI (mt9_40 k_))), (0, .ref x), (1, .int (iI t)), (2, .int (iI k_)), (3, .int (iI v))] dX8_rule_60 rfl (by decide) rfl ?_
            refine r_iload_n 63 hE 4 dX8_rule_62 rfl rfl rfl ?_
            refine r_tsIn 114 hE 1 dX8_rule_63 (hw) (by decide) rfl (by decide) ?_
            refine r_aload_n 115 hE 1 dX8_rule_114 rfl rfl rfl ?_
            refine r_aload_n 116 hE 1 dX8_rule_115 rfl rfl rfl ?_
            refine r_get 119 hE 1 0 ok8 9 dX8_rule_116 rfl wd_306 rfl rfl (by decide) rfl ?_
            refine r_iload 121 hE 0 dX8_rule_119 rfl rfl ?_
            refine r_callV 124 hE [3] [0, 1, 2] [(wRules g ru kd fi se sg le de nx he ro rc re rr)] [(wWalk g w (ru 0) sp9_40 nb9_40 mt9_40 pl9_40 op9_40 no9_40 od9_40 (stm + 1) wc9_40), (wMain g x tpa (a 0) da pa qa (ru 0) (w 0) sa bka taped told), (wShelf g a L ln tp rd cnt era nws)] 0 3 ok3 [.ref x] (c_X3_lengthOf (by omega) (by omega) (by omega)) dX8_rule_121 rfl rfl wd_828 wd_710 wd_711 wd_9 wd_712 ne_X3 np_X3_lengthOf (Nat.le_of_ble_eq_true rfl)  (by decide) (by decide) rfl (Nat.le_of_ble_eq_true rfl) rfl rfl rfl rfl (by decide) rfl (fun v1 f1 hp => ?_)
            obtain ⟨rfl, rfl⟩ := hp
            show G g E _ _ _ [(wRules g ru kd fi se sg le de nx he ro rc re rr), (wWalk g w (ru 0) sp9_40 nb9_40 mt9_40 pl9_40 op9_40 no9_40 od9_40 (stm + 1) wc9_40), (wMain g x tpa (a 0) da pa qa (ru 0) (w 0) sa bka taped told), (wShelf g a L ln tp rd cnt era nws)] 124 [(4, .int (iI (mt9_40 k_))), (0, .ref x), (1, .int (iI t)), (2, .int (iI k_)), (3, .int (iI v))] [.int (iI (le (mt9_40 k_))), .ref x]
            refine r_callV 127 hE [2] [0, 1, 3] [(wMain g x tpa (a 0) da pa qa (ru 0) (w 0) sa bka taped told)] [(wRules g ru kd fi se sg le de nx he ro rc re rr), (wWalk g w (ru 0) sp9_40 nb9_40 mt9_40 pl9_40 op9_40 no9_40 od9_40 (stm + 1) wc9_40), (wShelf g a L ln tp rd cnt era nws)] 0 8 ok8 [] (c_X8_answer) dX8_rule_124 rfl rfl wd_739 wd_741 ws_33 wd_1 wd_742 ne_X8 np_X8_answer (Nat.le_of_ble_eq_true rfl)  (by decide) (by decide) rfl (Nat.le_of_ble_eq_true rfl) rfl rfl rfl rfl (by decide) rfl (fun v1 f1 hp => ?_)
            obtain ⟨rfl, rfl⟩ := hp
            show G g E _ _ _ [(wMain g x tpa (a 0) da pa qa (ru 0) (w 0) sa bka taped 0), (wRules g ru kd fi se sg le de nx he ro rc re rr), (wWalk g w (ru 0) sp9_40 nb9_40 mt9_40 pl9_40 op9_40 no9_40 od9_40 (stm + 1) wc9_40), (wShelf g a L ln tp rd cnt era nws)] 127 [(4, .int (iI (mt9_40 k_))), (0, .ref x), (1, .int (iI t)), (2, .int (iI k_)), (3, .int (iI v))] [.int (iI (le (mt9_40 k_)))]
            refine G.to (fs' := [(wMain g x tpa (a 0) da pa qa (ru 0) (w 0) sa bka taped 0), (wShelf g a L ln tp rd cnt era nws), (wWalk g w (ru 0) sp9_40 nb9_40 mt9_40 pl9_40 op9_40 no9_40 od9_40 (stm + 1) wc9_40), (wRules g ru kd fi se sg le de nx he ro rc re rr)]) [0, 3, 2, 1] [0, 1, 2, 3, 4] rfl rfl rfl ?_
            refine r_ireturn hE hR [(wMain g x tpa (a 0) da pa qa (ru 0) (w 0) sa bka taped 0), (wShelf g a L ln tp rd cnt era nws), (wWalk g w (ru 0) sp9_40 nb9_40 mt9_40 pl9_40 op9_40 no9_40 od9_40 (stm + 1) wc9_40), (wRules g ru kd fi se sg le de nx he ro rc re rr)] dX8_rule_127 (Nat.le_of_ble_eq_true rfl) (Nat.le_of_ble_eq_true rfl) rfl ?_
            exact ⟨sp9_40, nb9_40, mt9_40, pl9_40, op9_40, no9_40, od9_40, wc9_40, le (mt9_40 k_), rfl, rfl, h40_0.2.1, R (tp t), _, hbt, hnd, _, _, hVk, Or.inr (Or.inl (⟨rfl, hmr.2.2.1⟩))⟩
          · skip
            omega
        · skip
          have c28 := bI0 c28
          omega
      · skip
        omega
set_option maxHeartbeats 4000000 in
set_option maxRecDepth 100000 in
theorem c_X8_rule_2 {g : Gm} {a : Nat → Nat} {L ln tp rd : Int → Int} {cnt era nws : Int} {ru : Nat → Nat} {kd fi se sg le de nx he ro : Int → Int} {rc re rr : Int} {R : Int → Rl} {w : Nat → Nat} {sp nb mt pl op no : Int → Int} {od stm wc : Int} {x tpa da pa qa sa bka : Nat} {taped told : Int} {t k_ v : Int} (hw : v = 2) (hT : RT kd fi se sg le de nx he rc R) (hsh : ShOk L ln cnt) (hto : TopsOk R rc L ln tp rd cnt) (ht : 0 ≤ t ∧ t < cnt) (hWI : 0 ≤ stm ∧ ∀ i, 0 ≤ i → i < 10240 → 0 ≤ sp i ∧ sp i ≤ stm) (hs2 : stm ≤ 1500000000) (hk : 0 ≤ k_ ∧ ∀ T q, BIs (lts (tx L t) 0 (ln t)) T q → k_ < ((vis T 0 []).length : Int)) (hkr : -2147483648 ≤ k_ ∧ k_ ≤ 2147483647) : Ct g 6 0 0 yX8_rule cX8_rule 5 (some .int) [.ref x, .int (iI t), .int (iI k_), .int (iI v)] [(wMain g x tpa (a 0) da pa qa (ru 0) (w 0) sa bka taped told), (wShelf g a L ln tp rd cnt era nws), (wWalk g w (ru 0) sp nb mt pl op no od stm wc), (wRules g ru kd fi se sg le de nx he ro rc re rr)] (fun v_ w_ => ∃ sp9 : Int → Int, ∃ nb9 : Int → Int, ∃ mt9 : Int → Int, ∃ pl9 : Int → Int, ∃ op9 : Int → Int, ∃ no9 : Int → Int, ∃ od9 : Int, ∃ wc9 : Int, ∃ r9 : Int, v_ = some (.int (iI r9)) ∧ w_ = [(wMain g x tpa (a 0) da pa qa (ru 0) (w 0) sa bka taped 0), (wShelf g a L ln tp rd cnt era nws), (wWalk g w (ru 0) sp9 nb9 mt9 pl9 op9 no9 od9 (stm + 1) wc9), (wRules g ru kd fi se sg le de nx he ro rc re rr)] ∧ (0 ≤ stm + 1 ∧ ∀ i, 0 ≤ i → i < 10240 → 0 ≤ sp9 i ∧ sp9 i ≤ stm + 1) ∧ (∃ T q, BIs (lts (tx L t) 0 (ln t)) T q ∧ ((vis T 0 []).map Prod.fst).Nodup ∧ RuleIs (vis T 0 []) T k_ 2 r9)) := by
  refine Ct.of (by decide) (Nat.le_of_ble_eq_true rfl) (lv := [(0, .ref x), (1, .int (iI t)), (2, .int (iI k_)), (3, .int (iI v))]) rfl ?_
  intro E hE hR hnm
  have hc := hsh.1
  have hln := hsh.ln
  have hB := hsh.2.1
  have hcn := hT.1
  have htr := (hto t ht.1 ht.2).1
  have hrr := hT.2.1 (tp t) htr.1 htr.2
  have hbt := (hto t ht.1 ht.2).2
  rw [lts_tx] at hbt
  refine r_iload_n 1 hE 2 dX8_rule_0 rfl rfl rfl ?_
  refine r_if_lt 4 14 hE dX8_rule_1 rfl (by decide) (by omega) (fun c1 => ?_) (fun c1 => ?_)
  · skip
    omega
  · skip
    refine r_iload_n 5 hE 3 dX8_rule_4 rfl rfl rfl ?_
    refine r_if_lt 8 14 hE dX8_rule_5 rfl (by decide) (by omega) (fun c5 => ?_) (fun c5 => ?_)
    · skip
      omega
    · skip
      refine r_iload_n 9 hE 3 dX8_rule_8 rfl rfl rfl ?_
      refine r_bipush 11 hE dX8_rule_9 rfl (by decide) ?_
      refine r_icmp_le 14 20 hE dX8_rule_11 rfl (by decide) (by omega) (fun c11 => ?_) (fun c11 => ?_)
      · skip
        refine r_aload_n 21 hE 0 dX8_rule_20 rfl rfl rfl ?_
        refine r_get 24 hE 0 0 ok8 4 dX8_rule_21 rfl wd_301 rfl rfl (by decide) rfl ?_
        refine r_iload_n 25 hE 1 dX8_rule_24 rfl rfl rfl ?_
        refine r_callV 28 hE [1] [0, 2, 3] [(wShelf g a L ln tp rd cnt era nws)] [(wMain g x tpa (a 0) da pa qa (ru 0) (w 0) sa bka taped told), (wWalk g w (ru 0) sp nb mt pl op no od stm wc), (wRules g ru kd fi se sg le de nx he ro rc re rr)] 0 5 ok5 [] (c_X5_has (by omega) (by omega)) dX8_rule_25 rfl rfl wd_764 wd_578 wd_579 wd_4 wd_580 ne_X5 np_X5_has (Nat.le_of_ble_eq_true rfl)  (by decide) (by decide) rfl (Nat.le_of_ble_eq_true rfl) rfl rfl rfl rfl (by decide) rfl (fun v1 f1 hp => ?_)
        obtain ⟨rfl, rfl⟩ := hp
        show G g E _ _ _ [(wShelf g a L ln tp rd cnt era nws), (wMain g x tpa (a 0) da pa qa (ru 0) (w 0) sa bka taped told), (wWalk g w (ru 0) sp nb mt pl op no od stm wc), (wRules g ru kd fi se sg le de nx he ro rc re rr)] 28 [(0, .ref x), (1, .int (iI t)), (2, .int (iI k_)), (3, .int (iI v))] [.int (iI (bI (0 ≤ t ∧ t < cnt)))]
        refine r_if_ne 31 37 hE dX8_rule_28 rfl (by decide) (bI_rg _) (fun c28 => ?_) (fun c28 => ?_)
        · skip
          have c28 := bI1 c28
          refine r_iload_n 38 hE 2 dX8_rule_37 rfl rfl rfl ?_
          refine r_aload_n 39 hE 0 dX8_rule_38 rfl rfl rfl ?_
          refine r_iload_n 40 hE 1 dX8_rule_39 rfl rfl rfl ?_
          refine r_callV 43 hE [1, 0, 2, 3] [] [(wMain g x tpa (a 0) da pa qa (ru 0) (w 0) sa bka taped told), (wShelf g a L ln tp rd cnt era nws), (wWalk g w (ru 0) sp nb mt pl op no od stm wc), (wRules g ru kd fi se sg le de nx he ro rc re rr)] [] 0 8 ok8 [.int (iI k_)] (c_X8_number (hT) (by omega) (by omega) (htr) (hWI) (by omega)) dX8_rule_40 rfl rfl wd_765 wd_767 ws_35 wd_1 wd_768 ne_X8 np_X8_number (Nat.le_of_ble_eq_true rfl)  (by decide) (by decide) rfl (Nat.le_of_ble_eq_true rfl) rfl rfl rfl rfl (by decide) rfl (fun v1 f1 hp => ?_)
          obtain ⟨sp9_40, nb9_40, mt9_40, pl9_40, op9_40, no9_40, od9_40, wc9_40, V9_40, rfl, rfl, h40_0, h40_1⟩ := hp
          show G g E _ _ _ [(wMain g x tpa (a 0) da pa qa (ru 0) (w 0) sa bka taped told), (wShelf g a L ln tp rd cnt era nws), (wWalk g w (ru 0) sp9_40 nb9_40 mt9_40 pl9_40 op9_40 no9_40 od9_40 (stm + 1) wc9_40), (wRules g ru kd fi se sg le de nx he ro rc re rr)] 43 [(0, .ref x), (1, .int (iI t)), (2, .int (iI k_)), (3, .int (iI v))] [.int (iI wc9_40), .int (iI k_)]
          have hlen := h40_0.le625 hT htr h40_1
          have hwl := h40_0.1
          have hk2 : k_ < wc9_40 := by have h9 := hk.2 _ _ hbt; rw [← h40_1] at h9; omega
          have hmt := h40_0.2.2.2.2.1 k_ hk.1 (by omega) hk2
          have hmr := hT.2.1 _ hmt.1.1 hmt.1.2
          have hmg := hmr.rg (by omega)
          have hin : InV V9_40 (R (mt9_40 k_)) := ⟨_, List.mem_of_getElem? hmt.2⟩
          have hpa := h40_0.parts hT h40_1 hmt.1 hin
          have hnd := h40_0.2.2.2.2.2.2
          have hVk := hmt.2
          rw [h40_1] at hnd hVk
          refine r_icmp_lt 46 52 hE dX8_rule_43 rfl (by decide) (by omega) (fun c43 => ?_) (fun c43 => ?_)
          · skip
            refine r_aload_n 53 hE 0 dX8_rule_52 rfl rfl rfl ?_
            refine r_get 56 hE 0 0 ok8 8 dX8_rule_53 rfl wd_305 rfl rfl (by decide) rfl ?_
            refine r_iload_n 57 hE 2 dX8_rule_56 rfl rfl rfl ?_
            refine r_callV 60 hE [2] [0, 1, 3] [(wWalk g w (ru 0) sp9_40 nb9_40 mt9_40 pl9_40 op9_40 no9_40 od9_40 (stm + 1) wc9_40)] [(wMain g x tpa (a 0) da pa qa (ru 0) (w 0) sa bka taped told), (wShelf g a L ln tp rd cnt era nws), (wRules g ru kd fi se sg le de nx he ro rc re rr)] 0 7 ok7 [] (c_X7_ruleAt (by omega) (by omega)) dX8_rule_57 rfl rfl wd_823 wd_824 wd_825 wd_8 wd_826 ne_X7 np_X7_ruleAt (Nat.le_of_ble_eq_true rfl)  (by decide) (by decide) rfl (Nat.le_of_ble_eq_true rfl) rfl rfl rfl rfl (by decide) rfl (fun v1 f1 hp => ?_)
            obtain ⟨rfl, rfl⟩ := hp
            show G g E _ _ _ [(wWalk g w (ru 0) sp9_40 nb9_40 mt9_40 pl9_40 op9_40 no9_40 od9_40 (stm + 1) wc9_40), (wMain g x tpa (a 0) da pa qa (ru 0) (w 0) sa bka taped told), (wShelf g a L ln tp rd cnt era nws), (wRules g ru kd fi se sg le de nx he ro rc re rr)] 60 [(0, .ref x), (1, .int (iI t)), (2, .int (iI k_)), (3, .int (iI v))] [.int (iI (mt9_40 k_))]
            refine r_istore 62 hE [(4, .int (iI (mt9_40 k_))), (0, .ref x), (1, .int (iI t)), (2, .int (iI k_)), (3, .int (iI v))] dX8_rule_60 rfl (by decide) rfl ?_
            refine r_iload_n 63 hE 4 dX8_rule_62 rfl rfl rfl ?_
            refine r_tsIn 128 hE 2 dX8_rule_63 (hw) (by decide) rfl (by decide) ?_
            refine r_aload_n 129 hE 1 dX8_rule_128 rfl rfl rfl ?_
            refine r_aload_n 130 hE 1 dX8_rule_129 rfl rfl rfl ?_
            refine r_iload 132 hE 0 dX8_rule_130 rfl rfl ?_
            refine r_callV 135 hE [1, 0, 3] [2] [(wMain g x tpa (a 0) da pa qa (ru 0) (w 0) sa bka taped told), (wWalk g w (ru 0) sp9_40 nb9_40 mt9_40 pl9_40 op9_40 no9_40 od9_40 (stm + 1) wc9_40), (wRules g ru kd fi se sg le de nx he ro rc re rr)] [(wShelf g a L ln tp rd cnt era nws)] 0 8 ok8 [.ref x] (c_X8_firstPart (hT) (h40_0) (by omega) (hpa.1) (by omega)) dX8_rule_132 rfl rfl wd_829 wd_831 ws_39 wd_1 wd_832 ne_X8 np_X8_firstPart (Nat.le_of_ble_eq_true rfl)  (by decide) (by decide) rfl (Nat.le_of_ble_eq_true rfl) rfl rfl rfl rfl (by decide) rfl (fun v1 f1 hp => ?_)
            obtain ⟨rfl, rfl⟩ := hp
            show G g E _ _ _ [(wMain g x tpa (a 0) da pa qa (ru 0) (w 0) sa bka taped told), (wWalk g w (ru 0) sp9_40 nb9_40 mt9_40 pl9_40 op9_40 no9_40 od9_40 (stm + 1) wc9_40), (wRules g ru kd fi se sg le de nx he ro rc re rr), (wShelf g a L ln tp rd cnt era nws)] 135 [(4, .int (iI (mt9_40 k_))), (0, .ref x), (1, .int (iI t)), (2, .int (iI k_)), (3, .int (iI v))] [.int (iI (if kd (mt9_40 k_) = 0 then fi (mt9_40 k_) else nb9_40 (fi (mt9_40 k_)))), .ref x]
            have hfx : kd (mt9_40 k_) ≠ 0 → 0 ≤ fi (mt9_40 k_) ∧ fi (mt9_40 k_) < rc := by intro q; have h9 := hmr.1; rcases h9 with z | z | z <;> omega
            refine r_callV 138 hE [0] [1, 2, 3] [(wMain g x tpa (a 0) da pa qa (ru 0) (w 0) sa bka taped told)] [(wWalk g w (ru 0) sp9_40 nb9_40 mt9_40 pl9_40 op9_40 no9_40 od9_40 (stm + 1) wc9_40), (wRules g ru kd fi se sg le de nx he ro rc re rr), (wShelf g a L ln tp rd cnt era nws)] 0 8 ok8 [] (c_X8_answer) dX8_rule_135 rfl rfl wd_739 wd_741 ws_33 wd_1 wd_742 ne_X8 np_X8_answer (Nat.le_of_ble_eq_true rfl)  (by decide) (by decide) rfl (Nat.le_of_ble_eq_true rfl) rfl rfl rfl rfl (by decide) rfl (fun v1 f1 hp => ?_)
            obtain ⟨rfl, rfl⟩ := hp
            show G g E _ _ _ [(wMain g x tpa (a 0) da pa qa (ru 0) (w 0) sa bka taped 0), (wWalk g w (ru 0) sp9_40 nb9_40 mt9_40 pl9_40 op9_40 no9_40 od9_40 (stm + 1) wc9_40), (wRules g ru kd fi se sg le de nx he ro rc re rr), (wShelf g a L ln tp rd cnt era nws)] 138 [(4, .int (iI (mt9_40 k_))), (0, .ref x), (1, .int (iI t)), (2, .int (iI k_)), (3, .int (iI v))] [.int (iI (if kd (mt9_40 k_) = 0 then fi (mt9_40 k_) else nb9_40 (fi (mt9_40 k_))))]
            refine G.to (fs' := [(wMain g x tpa (a 0) da pa qa (ru 0) (w 0) sa bka taped 0), (wShelf g a L ln tp rd cnt era nws), (wWalk g w (ru 0) sp9_40 nb9_40 mt9_40 pl9_40 op9_40 no9_40 od9_40 (stm + 1) wc9_40), (wRules g ru kd fi se sg le de nx he ro rc re rr)]) [0, 3, 1, 2] [0, 1, 2, 3, 4] rfl rfl rfl ?_
            refine r_ireturn hE hR [(wMain g x tpa (a 0) da pa qa (ru 0) (w 0) sa bka taped 0), (wShelf g a L ln tp rd cnt era nws), (wWalk g w (ru 0) sp9_40 nb9_40 mt9_40 pl9_40 op9_40 no9_40 od9_40 (stm + 1) wc9_40), (wRules g ru kd fi se sg le de nx he ro rc re rr)] dX8_rule_138 (Nat.le_of_ble_eq_true rfl) (Nat.le_of_ble_eq_true rfl) rfl ?_
            exact ⟨sp9_40, nb9_40, mt9_40, pl9_40, op9_40, no9_40, od9_40, wc9_40, _, rfl, rfl, h40_0.2.1, R (tp t), _, hbt, hnd, _, _, hVk, Or.inr (Or.inr (Or.inl (⟨rfl, by rw [← h40_1]; exact hmr.p1 hmt.1.1 (fun q => if_pos q) (fun q => by rw [if_neg q]; exact h40_0.idx (hfx q) (hpa.1 q))⟩)))⟩
          · skip
            omega
        · skip
          have c28 := bI0 c28
          omega
      · skip
        omega
set_option maxHeartbeats 4000000 in
set_option maxRecDepth 100000 in
theorem c_X8_rule_3 {g : Gm} {a : Nat → Nat} {L ln tp rd : Int → Int} {cnt era nws : Int} {ru : Nat → Nat} {kd fi se sg le de nx he ro : Int → Int} {rc re rr : Int} {R : Int → Rl} {w : Nat → Nat} {sp nb mt pl op no : Int → Int} {od stm wc : Int} {x tpa da pa qa sa bka : Nat} {taped told : Int} {t k_ v : Int} (hw : v = 3) (hT : RT kd fi se sg le de nx he rc R) (hsh : ShOk L ln cnt) (hto : TopsOk R rc L ln tp rd cnt) (ht : 0 ≤ t ∧ t < cnt) (hWI : 0 ≤ stm ∧ ∀ i, 0 ≤ i → i < 10240 → 0 ≤ sp i ∧ sp i ≤ stm) (hs2 : stm ≤ 1500000000) (hk : 0 ≤ k_ ∧ ∀ T q, BIs (lts (tx L t) 0 (ln t)) T q → k_ < ((vis T 0 []).length : Int)) (hkr : -2147483648 ≤ k_ ∧ k_ ≤ 2147483647) : Ct g 6 0 0 yX8_rule cX8_rule 5 (some .int) [.ref x, .int (iI t), .int (iI k_), .int (iI v)] [(wMain g x tpa (a 0) da pa qa (ru 0) (w 0) sa bka taped told), (wShelf g a L ln tp rd cnt era nws), (wWalk g w (ru 0) sp nb mt pl op no od stm wc), (wRules g ru kd fi se sg le de nx he ro rc re rr)] (fun v_ w_ => ∃ sp9 : Int → Int, ∃ nb9 : Int → Int, ∃ mt9 : Int → Int, ∃ pl9 : Int → Int, ∃ op9 : Int → Int, ∃ no9 : Int → Int, ∃ od9 : Int, ∃ wc9 : Int, ∃ r9 : Int, v_ = some (.int (iI r9)) ∧ w_ = [(wMain g x tpa (a 0) da pa qa (ru 0) (w 0) sa bka taped 0), (wShelf g a L ln tp rd cnt era nws), (wWalk g w (ru 0) sp9 nb9 mt9 pl9 op9 no9 od9 (stm + 1) wc9), (wRules g ru kd fi se sg le de nx he ro rc re rr)] ∧ (0 ≤ stm + 1 ∧ ∀ i, 0 ≤ i → i < 10240 → 0 ≤ sp9 i ∧ sp9 i ≤ stm + 1) ∧ (∃ T q, BIs (lts (tx L t) 0 (ln t)) T q ∧ ((vis T 0 []).map Prod.fst).Nodup ∧ RuleIs (vis T 0 []) T k_ 3 r9)) := by
  refine Ct.of (by decide) (Nat.le_of_ble_eq_true rfl) (lv := [(0, .ref x), (1, .int (iI t)), (2, .int (iI k_)), (3, .int (iI v))]) rfl ?_
  intro E hE hR hnm
  have hc := hsh.1
  have hln := hsh.ln
  have hB := hsh.2.1
  have hcn := hT.1
  have htr := (hto t ht.1 ht.2).1
  have hrr := hT.2.1 (tp t) htr.1 htr.2
  have hbt := (hto t ht.1 ht.2).2
  rw [lts_tx] at hbt
  refine r_iload_n 1 hE 2 dX8_rule_0 rfl rfl rfl ?_
  refine r_if_lt 4 14 hE dX8_rule_1 rfl (by decide) (by omega) (fun c1 => ?_) (fun c1 => ?_)
  · skip
    omega
  · skip
    refine r_iload_n 5 hE 3 dX8_rule_4 rfl rfl rfl ?_
    refine r_if_lt 8 14 hE dX8_rule_5 rfl (by decide) (by omega) (fun c5 => ?_) (fun c5 => ?_)
    · skip
      omega
    · skip
      refine r_iload_n 9 hE 3 dX8_rule_8 rfl rfl rfl ?_
      refine r_bipush 11 hE dX8_rule_9 rfl (by decide) ?_
      refine r_icmp_le 14 20 hE dX8_rule_11 rfl (by decide) (by omega) (fun c11 => ?_) (fun c11 => ?_)
      · skip
        refine r_aload_n 21 hE 0 dX8_rule_20 rfl rfl rfl ?_
        refine r_get 24 hE 0 0 ok8 4 dX8_rule_21 rfl wd_301 rfl rfl (by decide) rfl ?_
        refine r_iload_n 25 hE 1 dX8_rule_24 rfl rfl rfl ?_
        refine r_callV 28 hE [1] [0, 2, 3] [(wShelf g a L ln tp rd cnt era nws)] [(wMain g x tpa (a 0) da pa qa (ru 0) (w 0) sa bka taped told), (wWalk g w (ru 0) sp nb mt pl op no od stm wc), (wRules g ru kd fi se sg le de nx he ro rc re rr)] 0 5 ok5 [] (c_X5_has (by omega) (by omega)) dX8_rule_25 rfl rfl wd_764 wd_578 wd_579 wd_4 wd_580 ne_X5 np_X5_has (Nat.le_of_ble_eq_true rfl)  (by decide) (by decide) rfl (Nat.le_of_ble_eq_true rfl) rfl rfl rfl rfl (by decide) rfl (fun v1 f1 hp => ?_)
        obtain ⟨rfl, rfl⟩ := hp
        show G g E _ _ _ [(wShelf g a L ln tp rd cnt era nws), (wMain g x tpa (a 0) da pa qa (ru 0) (w 0) sa bka taped told), (wWalk g w (ru 0) sp nb mt pl op no od stm wc), (wRules g ru kd fi se sg le de nx he ro rc re rr)] 28 [(0, .ref x), (1, .int (iI t)), (2, .int (iI k_)), (3, .int (iI v))] [.int (iI (bI (0 ≤ t ∧ t < cnt)))]
        refine r_if_ne 31 37 hE dX8_rule_28 rfl (by decide) (bI_rg _) (fun c28 => ?_) (fun c28 => ?_)
        · skip
          have c28 := bI1 c28
          refine r_iload_n 38 hE 2 dX8_rule_37 rfl rfl rfl ?_
          refine r_aload_n 39 hE 0 dX8_rule_38 rfl rfl rfl ?_
          refine r_iload_n 40 hE 1 dX8_rule_39 rfl rfl rfl ?_
          refine r_callV 43 hE [1, 0, 2, 3] [] [(wMain g x tpa (a 0) da pa qa (ru 0) (w 0) sa bka taped told), (wShelf g a L ln tp rd cnt era nws), (wWalk g w (ru 0) sp nb mt pl op no od stm wc), (wRules g ru kd fi se sg le de nx he ro rc re rr)] [] 0 8 ok8 [.int (iI k_)] (c_X8_number (hT) (by omega) (by omega) (htr) (hWI) (by omega)) dX8_rule_40 rfl rfl wd_765 wd_767 ws_35 wd_1 wd_768 ne_X8 np_X8_number (Nat.le_of_ble_eq_true rfl)  (by decide) (by decide) rfl (Nat.le_of_ble_eq_true rfl) rfl rfl rfl rfl (by decide) rfl (fun v1 f1 hp => ?_)
          obtain ⟨sp9_40, nb9_40, mt9_40, pl9_40, op9_40, no9_40, od9_40, wc9_40, V9_40, rfl, rfl, h40_0, h40_1⟩ := hp
          show G g E _ _ _ [(wMain g x tpa (a 0) da pa qa (ru 0) (w 0) sa bka taped told), (wShelf g a L ln tp rd cnt era nws), (wWalk g w (ru 0) sp9_40 nb9_40 mt9_40 pl9_40 op9_40 no9_40 od9_40 (stm + 1) wc9_40), (wRules g ru kd fi se sg le de nx he ro rc re rr)] 43 [(0, .ref x), (1, .int (iI t)), (2, .int (iI k_)), (3, .int (iI v))] [.int (iI wc9_40), .int (iI k_)]
          have hlen := h40_0.le625 hT htr h40_1
          have hwl := h40_0.1
          have hk2 : k_ < wc9_40 := by have h9 := hk.2 _ _ hbt; rw [← h40_1] at h9; omega
          have hmt := h40_0.2.2.2.2.1 k_ hk.1 (by omega) hk2
          have hmr := hT.2.1 _ hmt.1.1 hmt.1.2
          have hmg := hmr.rg (by omega)
          have hin : InV V9_40 (R (mt9_40 k_)) := ⟨_, List.mem_of_getElem? hmt.2⟩
          have hpa := h40_0.parts hT h40_1 hmt.1 hin
          have hnd := h40_0.2.2.2.2.2.2
          have hVk := hmt.2
          rw [h40_1] at hnd hVk
          refine r_icmp_lt 46 52 hE dX8_rule_43 rfl (by decide) (by omega) (fun c43 => ?_) (fun c43 => ?_)
          · skip
            refine r_aload_n 53 hE 0 dX8_rule_52 rfl rfl rfl ?_
            refine r_get 56 hE 0 0 ok8 8 dX8_rule_53 rfl wd_305 rfl rfl (by decide) rfl ?_
            refine r_iload_n 57 hE 2 dX8_rule_56 rfl rfl rfl ?_
            refine r_callV 60 hE [2] [0, 1, 3] [(wWalk g w (ru 0) sp9_40 nb9_40 mt9_40 pl9_40 op9_40 no9_40 od9_40 (stm + 1) wc9_40)] [(wMain g x tpa (a 0) da pa qa (ru 0) (w 0) sa bka taped told), (wShelf g a L ln tp rd cnt era nws), (wRules g ru kd fi se sg le de nx he ro rc re rr)] 0 7 ok7 [] (c_X7_ruleAt (by omega) (by omega)) dX8_rule_57 rfl rfl wd_823 wd_824 wd_825 wd_8 wd_826 ne_X7 np_X7_ruleAt (Nat.le_of_ble_eq_true rfl)  (by decide) (by decide) rfl (Nat.le_of_ble_eq_true rfl) rfl rfl rfl rfl (by decide) rfl (fun v1 f1 hp => ?_)
            obtain ⟨rfl, rfl⟩ := hp
            show G g E _ _ _ [(wWalk g w (ru 0) sp9_40 nb9_40 mt9_40 pl9_40 op9_40 no9_40 od9_40 (stm + 1) wc9_40), (wMain g x tpa (a 0) da pa qa (ru 0) (w 0) sa bka taped told), (wShelf g a L ln tp rd cnt era nws), (wRules g ru kd fi se sg le de nx he ro rc re rr)] 60 [(0, .ref x), (1, .int (iI t)), (2, .int (iI k_)), (3, .int (iI v))] [.int (iI (mt9_40 k_))]
            refine r_istore 62 hE [(4, .int (iI (mt9_40 k_))), (0, .ref x), (1, .int (iI t)), (2, .int (iI k_)), (3, .int (iI v))] dX8_rule_60 rfl (by decide) rfl ?_
            refine r_iload_n 63 hE 4 dX8_rule_62 rfl rfl rfl ?_
            refine r_tsIn 139 hE 3 dX8_rule_63 (hw) (by decide) rfl (by decide) ?_
            refine r_aload_n 140 hE 1 dX8_rule_139 rfl rfl rfl ?_
            refine r_aload_n 141 hE 1 dX8_rule_140 rfl rfl rfl ?_
            refine r_iload 143 hE 0 dX8_rule_141 rfl rfl ?_
            refine r_callV 146 hE [1, 0, 3] [2] [(wMain g x tpa (a 0) da pa qa (ru 0) (w 0) sa bka taped told), (wWalk g w (ru 0) sp9_40 nb9_40 mt9_40 pl9_40 op9_40 no9_40 od9_40 (stm + 1) wc9_40), (wRules g ru kd fi se sg le de nx he ro rc re rr)] [(wShelf g a L ln tp rd cnt era nws)] 0 8 ok8 [.ref x] (c_X8_secondPart (hT) (h40_0) (by omega) (hpa.2) (by omega)) dX8_rule_143 rfl rfl wd_838 wd_840 ws_40 wd_1 wd_841 ne_X8 np_X8_secondPart (Nat.le_of_ble_eq_true rfl)  (by decide) (by decide) rfl (Nat.le_of_ble_eq_true rfl) rfl rfl rfl rfl (by decide) rfl (fun v1 f1 hp => ?_)
            obtain ⟨rfl, rfl⟩ := hp
            show G g E _ _ _ [(wMain g x tpa (a 0) da pa qa (ru 0) (w 0) sa bka taped told), (wWalk g w (ru 0) sp9_40 nb9_40 mt9_40 pl9_40 op9_40 no9_40 od9_40 (stm + 1) wc9_40), (wRules g ru kd fi se sg le de nx he ro rc re rr), (wShelf g a L ln tp rd cnt era nws)] 146 [(4, .int (iI (mt9_40 k_))), (0, .ref x), (1, .int (iI t)), (2, .int (iI k_)), (3, .int (iI v))] [.int (iI (if kd (mt9_40 k_) = 1 then nb9_40 (se (mt9_40 k_)) else se (mt9_40 k_))), .ref x]
            have hsx : kd (mt9_40 k_) = 1 → 0 ≤ se (mt9_40 k_) ∧ se (mt9_40 k_) < rc := by intro q; have h9 := hmr.1; rcases h9 with z | z | z <;> omega
            refine r_callV 149 hE [0] [1, 2, 3] [(wMain g x tpa (a 0) da pa qa (ru 0) (w 0) sa bka taped told)] [(wWalk g w (ru 0) sp9_40 nb9_40 mt9_40 pl9_40 op9_40 no9_40 od9_40 (stm + 1) wc9_40), (wRules g ru kd fi se sg le de nx he ro rc re rr), (wShelf g a L ln tp rd cnt era nws)] 0 8 ok8 [] (c_X8_answer) dX8_rule_146 rfl rfl wd_739 wd_741 ws_33 wd_1 wd_742 ne_X8 np_X8_answer (Nat.le_of_ble_eq_true rfl)  (by decide) (by decide) rfl (Nat.le_of_ble_eq_true rfl) rfl rfl rfl rfl (by decide) rfl (fun v1 f1 hp => ?_)
            obtain ⟨rfl, rfl⟩ := hp
            show G g E _ _ _ [(wMain g x tpa (a 0) da pa qa (ru 0) (w 0) sa bka taped 0), (wWalk g w (ru 0) sp9_40 nb9_40 mt9_40 pl9_40 op9_40 no9_40 od9_40 (stm + 1) wc9_40), (wRules g ru kd fi se sg le de nx he ro rc re rr), (wShelf g a L ln tp rd cnt era nws)] 149 [(4, .int (iI (mt9_40 k_))), (0, .ref x), (1, .int (iI t)), (2, .int (iI k_)), (3, .int (iI v))] [.int (iI (if kd (mt9_40 k_) = 1 then nb9_40 (se (mt9_40 k_)) else se (mt9_40 k_)))]
            refine G.to (fs' := [(wMain g x tpa (a 0) da pa qa (ru 0) (w 0) sa bka taped 0), (wShelf g a L ln tp rd cnt era nws), (wWalk g w (ru 0) sp9_40 nb9_40 mt9_40 pl9_40 op9_40 no9_40 od9_40 (stm + 1) wc9_40), (wRules g ru kd fi se sg le de nx he ro rc re rr)]) [0, 3, 1, 2] [0, 1, 2, 3, 4] rfl rfl rfl ?_
            refine r_ireturn hE hR [(wMain g x tpa (a 0) da pa qa (ru 0) (w 0) sa bka taped 0), (wShelf g a L ln tp rd cnt era nws), (wWalk g w (ru 0) sp9_40 nb9_40 mt9_40 pl9_40 op9_40 no9_40 od9_40 (stm + 1) wc9_40), (wRules g ru kd fi se sg le de nx he ro rc re rr)] dX8_rule_149 (Nat.le_of_ble_eq_true rfl) (Nat.le_of_ble_eq_true rfl) rfl ?_
            exact ⟨sp9_40, nb9_40, mt9_40, pl9_40, op9_40, no9_40, od9_40, wc9_40, _, rfl, rfl, h40_0.2.1, R (tp t), _, hbt, hnd, _, _, hVk, Or.inr (Or.inr (Or.inr (Or.inl (⟨rfl, by rw [← h40_1]; exact hmr.p2 (fun q => if_neg q) (fun q => by rw [if_pos q]; exact h40_0.idx (hsx q) (hpa.2 q))⟩))))⟩
          · skip
            omega
        · skip
          have c28 := bI0 c28
          omega
      · skip
        omega
set_option maxHeartbeats 4000000 in
set_option maxRecDepth 100000 in
theorem c_X8_rule_4 {g : Gm} {a : Nat → Nat} {L ln tp rd : Int → Int} {cnt era nws : Int} {ru : Nat → Nat} {kd fi se sg le de nx he ro : Int → Int} {rc re rr : Int} {R : Int → Rl} {w : Nat → Nat} {sp nb mt pl op no : Int → Int} {od stm wc : Int} {x tpa da pa qa sa bka : Nat} {taped told : Int} {t k_ v : Int} (hw : v = 4) (hT : RT kd fi se sg le de nx he rc R) (hsh : ShOk L ln cnt) (hto : TopsOk R rc L ln tp rd cnt) (ht : 0 ≤ t ∧ t < cnt) (hWI : 0 ≤ stm ∧ ∀ i, 0 ≤ i → i < 10240 → 0 ≤ sp i ∧ sp i ≤ stm) (hs2 : stm ≤ 1500000000) (hk : 0 ≤ k_ ∧ ∀ T q, BIs (lts (tx L t) 0 (ln t)) T q → k_ < ((vis T 0 []).length : Int)) (hkr : -2147483648 ≤ k_ ∧ k_ ≤ 2147483647) : Ct g 6 0 0 yX8_rule cX8_rule 5 (some .int) [.ref x, .int (iI t), .int (iI k_), .int (iI v)] [(wMain g x tpa (a 0) da pa qa (ru 0) (w 0) sa bka taped told), (wShelf g a L ln tp rd cnt era nws), (wWalk g w (ru 0) sp nb mt pl op no od stm wc), (wRules g ru kd fi se sg le de nx he ro rc re rr)] (fun v_ w_ => ∃ sp9 : Int → Int, ∃ nb9 : Int → Int, ∃ mt9 : Int → Int, ∃ pl9 : Int → Int, ∃ op9 : Int → Int, ∃ no9 : Int → Int, ∃ od9 : Int, ∃ wc9 : Int, ∃ r9 : Int, v_ = some (.int (iI r9)) ∧ w_ = [(wMain g x tpa (a 0) da pa qa (ru 0) (w 0) sa bka taped 0), (wShelf g a L ln tp rd cnt era nws), (wWalk g w (ru 0) sp9 nb9 mt9 pl9 op9 no9 od9 (stm + 1) wc9), (wRules g ru kd fi se sg le de nx he ro rc re rr)] ∧ (0 ≤ stm + 1 ∧ ∀ i, 0 ≤ i → i < 10240 → 0 ≤ sp9 i ∧ sp9 i ≤ stm + 1) ∧ (∃ T q, BIs (lts (tx L t) 0 (ln t)) T q ∧ ((vis T 0 []).map Prod.fst).Nodup ∧ RuleIs (vis T 0 []) T k_ 4 r9)) := by
  refine Ct.of (by decide) (Nat.le_of_ble_eq_true rfl) (lv := [(0, .ref x), (1, .int (iI t)), (2, .int (iI k_)), (3, .int (iI v))]) rfl ?_
  intro E hE hR hnm
  have hc := hsh.1
  have hln := hsh.ln
  have hB := hsh.2.1
  have hcn := hT.1
  have htr := (hto t ht.1 ht.2).1
  have hrr := hT.2.1 (tp t) htr.1 htr.2
  have hbt := (hto t ht.1 ht.2).2
  rw [lts_tx] at hbt
  refine r_iload_n 1 hE 2 dX8_rule_0 rfl rfl rfl ?_
  refine r_if_lt 4 14 hE dX8_rule_1 rfl (by decide) (by omega) (fun c1 => ?_) (fun c1 => ?_)
  · skip
    omega
  · skip
    refine r_iload_n 5 hE 3 dX8_rule_4 rfl rfl rfl ?_
    refine r_if_lt 8 14 hE dX8_rule_5 rfl (by decide) (by omega) (fun c5 => ?_) (fun c5 => ?_)
    · skip
      omega
    · skip
      refine r_iload_n 9 hE 3 dX8_rule_8 rfl rfl rfl ?_
      refine r_bipush 11 hE dX8_rule_9 rfl (by decide) ?_
      refine r_icmp_le 14 20 hE dX8_rule_11 rfl (by decide) (by omega) (fun c11 => ?_) (fun c11 => ?_)
      · skip
        refine r_aload_n 21 hE 0 dX8_rule_20 rfl rfl rfl ?_
        refine r_get 24 hE 0 0 ok8 4 dX8_rule_21 rfl wd_301 rfl rfl (by decide) rfl ?_
        refine r_iload_n 25 hE 1 dX8_rule_24 rfl rfl rfl ?_
        refine r_callV 28 hE [1] [0, 2, 3] [(wShelf g a L ln tp rd cnt era nws)] [(wMain g x tpa (a 0) da pa qa (ru 0) (w 0) sa bka taped told), (wWalk g w (ru 0) sp nb mt pl op no od stm wc), (wRules g ru kd fi se sg le de nx he ro rc re rr)] 0 5 ok5 [] (c_X5_has (by omega) (by omega)) dX8_rule_25 rfl rfl wd_764 wd_578 wd_579 wd_4 wd_580 ne_X5 np_X5_has (Nat.le_of_ble_eq_true rfl)  (by decide) (by decide) rfl (Nat.le_of_ble_eq_true rfl) rfl rfl rfl rfl (by decide) rfl (fun v1 f1 hp => ?_)
        obtain ⟨rfl, rfl⟩ := hp
        show G g E _ _ _ [(wShelf g a L ln tp rd cnt era nws), (wMain g x tpa (a 0) da pa qa (ru 0) (w 0) sa bka taped told), (wWalk g w (ru 0) sp nb mt pl op no od stm wc), (wRules g ru kd fi se sg le de nx he ro rc re rr)] 28 [(0, .ref x), (1, .int (iI t)), (2, .int (iI k_)), (3, .int (iI v))] [.int (iI (bI (0 ≤ t ∧ t < cnt)))]
        refine r_if_ne 31 37 hE dX8_rule_28 rfl (by decide) (bI_rg _) (fun c28 => ?_) (fun c28 => ?_)
        · skip
          have c28 := bI1 c28
          refine r_iload_n 38 hE 2 dX8_rule_37 rfl rfl rfl ?_
          refine r_aload_n 39 hE 0 dX8_rule_38 rfl rfl rfl ?_
          refine r_iload_n 40 hE 1 dX8_rule_39 rfl rfl rfl ?_
          refine r_callV 43 hE [1, 0, 2, 3] [] [(wMain g x tpa (a 0) da pa qa (ru 0) (w 0) sa bka taped told), (wShelf g a L ln tp rd cnt era nws), (wWalk g w (ru 0) sp nb mt pl op no od stm wc), (wRules g ru kd fi se sg le de nx he ro rc re rr)] [] 0 8 ok8 [.int (iI k_)] (c_X8_number (hT) (by omega) (by omega) (htr) (hWI) (by omega)) dX8_rule_40 rfl rfl wd_765 wd_767 ws_35 wd_1 wd_768 ne_X8 np_X8_number (Nat.le_of_ble_eq_true rfl)  (by decide) (by decide) rfl (Nat.le_of_ble_eq_true rfl) rfl rfl rfl rfl (by decide) rfl (fun v1 f1 hp => ?_)
          obtain ⟨sp9_40, nb9_40, mt9_40, pl9_40, op9_40, no9_40, od9_40, wc9_40, V9_40, rfl, rfl, h40_0, h40_1⟩ := hp
          show G g E _ _ _ [(wMain g x tpa (a 0) da pa qa (ru 0) (w 0) sa bka taped told), (wShelf g a L ln tp rd cnt era nws), (wWalk g w (ru 0) sp9_40 nb9_40 mt9_40 pl9_40 op9_40 no9_40 od9_40 (stm + 1) wc9_40), (wRules g ru kd fi se sg le de nx he ro rc re rr)] 43 [(0, .ref x), (1, .int (iI t)), (2, .int (iI k_)), (3, .int (iI v))] [.int (iI wc9_40), .int (iI k_)]
          have hlen := h40_0.le625 hT htr h40_1
          have hwl := h40_0.1
          have hk2 : k_ < wc9_40 := by have h9 := hk.2 _ _ hbt; rw [← h40_1] at h9; omega
          have hmt := h40_0.2.2.2.2.1 k_ hk.1 (by omega) hk2
          have hmr := hT.2.1 _ hmt.1.1 hmt.1.2
          have hmg := hmr.rg (by omega)
          have hin : InV V9_40 (R (mt9_40 k_)) := ⟨_, List.mem_of_getElem? hmt.2⟩
          have hpa := h40_0.parts hT h40_1 hmt.1 hin
          have hnd := h40_0.2.2.2.2.2.2
          have hVk := hmt.2
          rw [h40_1] at hnd hVk
          refine r_icmp_lt 46 52 hE dX8_rule_43 rfl (by decide) (by omega) (fun c43 => ?_) (fun c43 => ?_)
          · skip
            refine r_aload_n 53 hE 0 dX8_rule_52 rfl rfl rfl ?_
            refine r_get 56 hE 0 0 ok8 8 dX8_rule_53 rfl wd_305 rfl rfl (by decide) rfl ?_
            refine r_iload_n 57 hE 2 dX8_rule_56 rfl rfl rfl ?_
            refine r_callV 60 hE [2] [0, 1, 3] [(wWalk g w (ru 0) sp9_40 nb9_40 mt9_40 pl9_40 op9_40 no9_40 od9_40 (stm + 1) wc9_40)] [(wMain g x tpa (a 0) da pa qa (ru 0) (w 0) sa bka taped told), (wShelf g a L ln tp rd cnt era nws), (wRules g ru kd fi se sg le de nx he ro rc re rr)] 0 7 ok7 [] (c_X7_ruleAt (by omega) (by omega)) dX8_rule_57 rfl rfl wd_823 wd_824 wd_825 wd_8 wd_826 ne_X7 np_X7_ruleAt (Nat.le_of_ble_eq_true rfl)  (by decide) (by decide) rfl (Nat.le_of_ble_eq_true rfl) rfl rfl rfl rfl (by decide) rfl (fun v1 f1 hp => ?_)
            obtain ⟨rfl, rfl⟩ := hp
            show G g E _ _ _ [(wWalk g w (ru 0) sp9_40 nb9_40 mt9_40 pl9_40 op9_40 no9_40 od9_40 (stm + 1) wc9_40), (wMain g x tpa (a 0) da pa qa (ru 0) (w 0) sa bka taped told), (wShelf g a L ln tp rd cnt era nws), (wRules g ru kd fi se sg le de nx he ro rc re rr)] 60 [(0, .ref x), (1, .int (iI t)), (2, .int (iI k_)), (3, .int (iI v))] [.int (iI (mt9_40 k_))]
            refine r_istore 62 hE [(4, .int (iI (mt9_40 k_))), (0, .ref x), (1, .int (iI t)), (2, .int (iI k_)), (3, .int (iI v))] dX8_rule_60 rfl (by decide) rfl ?_
            refine r_iload_n 63 hE 4 dX8_rule_62 rfl rfl rfl ?_
            refine r_tsIn 150 hE 4 dX8_rule_63 (hw) (by decide) rfl (by decide) ?_
            refine r_aload_n 151 hE 1 dX8_rule_150 rfl rfl rfl ?_
            refine r_aload_n 152 hE 1 dX8_rule_151 rfl rfl rfl ?_
            refine r_get 155 hE 1 0 ok8 8 dX8_rule_152 rfl wd_305 rfl rfl (by decide) rfl ?_
            refine r_aload_n 156 hE 1 dX8_rule_155 rfl rfl rfl ?_
            refine r_get 159 hE 1 0 ok8 4 dX8_rule_156 rfl wd_301 rfl rfl (by decide) rfl ?_
            refine r_iload_n 160 hE 2 dX8_rule_159 rfl rfl rfl ?_
            refine r_callV 163 hE [2] [0, 1, 3] [(wShelf g a L ln tp rd cnt era nws)] [(wWalk g w (ru 0) sp9_40 nb9_40 mt9_40 pl9_40 op9_40 no9_40 od9_40 (stm + 1) wc9_40), (wMain g x tpa (a 0) da pa qa (ru 0) (w 0) sa bka taped told), (wRules g ru kd fi se sg le de nx he ro rc re rr)] 0 5 ok5 [.ref (w 0), .ref x] (c_X5_topOf (by omega) (by omega)) dX8_rule_160 rfl rfl wd_680 wd_681 wd_682 wd_4 wd_683 ne_X5 np_X5_topOf (Nat.le_of_ble_eq_true rfl)  (by decide) (by decide) rfl (Nat.le_of_ble_eq_true rfl) rfl rfl rfl rfl (by decide) rfl (fun v1 f1 hp => ?_)
            obtain ⟨rfl, rfl⟩ := hp
            show G g E _ _ _ [(wShelf g a L ln tp rd cnt era nws), (wWalk g w (ru 0) sp9_40 nb9_40 mt9_40 pl9_40 op9_40 no9_40 od9_40 (stm + 1) wc9_40), (wMain g x tpa (a 0) da pa qa (ru 0) (w 0) sa bka taped told), (wRules g ru kd fi se sg le de nx he ro rc re rr)] 163 [(4, .int (iI (mt9_40 k_))), (0, .ref x), (1, .int (iI t)), (2, .int (iI k_)), (3, .int (iI v))] [.int (iI (tp t)), .ref (w 0), .ref x]
            refine r_iload 165 hE 0 dX8_rule_163 rfl rfl ?_
            refine r_callV 168 hE [1, 3] [0, 2] [(wWalk g w (ru 0) sp9_40 nb9_40 mt9_40 pl9_40 op9_40 no9_40 od9_40 (stm + 1) wc9_40), (wRules g ru kd fi se sg le de nx he ro rc re rr)] [(wShelf g a L ln tp rd cnt era nws), (wMain g x tpa (a 0) da pa qa (ru 0) (w 0) sa bka taped told)] 0 7 ok7 [.ref x] (c_X7_howOften (hT) (htr) (by omega)) dX8_rule_165 rfl rfl wd_843 wd_844 wd_845 wd_8 wd_846 ne_X7 np_X7_howOften (Nat.le_of_ble_eq_true rfl)  (by decide) (by decide) rfl (Nat.le_of_ble_eq_true rfl) rfl rfl rfl rfl (by decide) rfl (fun v1 f1 hp => ?_)
            obtain ⟨op9_165, no9_165, od9_165, rfl, rfl⟩ := hp
            show G g E _ _ _ [(wWalk g w (ru 0) sp9_40 nb9_40 mt9_40 pl9_40 op9_165 no9_165 od9_165 (stm + 1) wc9_40), (wRules g ru kd fi se sg le de nx he ro rc re rr), (wShelf g a L ln tp rd cnt era nws), (wMain g x tpa (a 0) da pa qa (ru 0) (w 0) sa bka taped told)] 168 [(4, .int (iI (mt9_40 k_))), (0, .ref x), (1, .int (iI t)), (2, .int (iI k_)), (3, .int (iI v))] [.int (iI (occ (R (mt9_40 k_)) (R (tp t)))), .ref x]
            refine r_callV 171 hE [3] [0, 1, 2] [(wMain g x tpa (a 0) da pa qa (ru 0) (w 0) sa bka taped told)] [(wWalk g w (ru 0) sp9_40 nb9_40 mt9_40 pl9_40 op9_165 no9_165 od9_165 (stm + 1) wc9_40), (wRules g ru kd fi se sg le de nx he ro rc re rr), (wShelf g a L ln tp rd cnt era nws)] 0 8 ok8 [] (c_X8_answer) dX8_rule_168 rfl rfl wd_739 wd_741 ws_33 wd_1 wd_742 ne_X8 np_X8_answer (Nat.le_of_ble_eq_true rfl)  (by decide) (by decide) rfl (Nat.le_of_ble_eq_true rfl) rfl rfl rfl rfl (by decide) rfl (fun v1 f1 hp => ?_)
            obtain ⟨rfl, rfl⟩ := hp
            show G g E _ _ _ [(wMain g x tpa (a 0) da pa qa (ru 0) (w 0) sa bka taped 0), (wWalk g w (ru 0) sp9_40 nb9_40 mt9_40 pl9_40 op9_165 no9_165 od9_165 (stm + 1) wc9_40), (wRules g ru kd fi se sg le de nx he ro rc re rr), (wShelf g a L ln tp rd cnt era nws)] 171 [(4, .int (iI (mt9_40 k_))), (0, .ref x), (1, .int (iI t)), (2, .int (iI k_)), (3, .int (iI v))] [.int (iI (occ (R (mt9_40 k_)) (R (tp t))))]
            refine G.to (fs' := [(wMain g x tpa (a 0) da pa qa (ru 0) (w 0) sa bka taped 0), (wShelf g a L ln tp rd cnt era nws), (wWalk g w (ru 0) sp9_40 nb9_40 mt9_40 pl9_40 op9_165 no9_165 od9_165 (stm + 1) wc9_40), (wRules g ru kd fi se sg le de nx he ro rc re rr)]) [0, 3, 1, 2] [0, 1, 2, 3, 4] rfl rfl rfl ?_
            refine r_ireturn hE hR [(wMain g x tpa (a 0) da pa qa (ru 0) (w 0) sa bka taped 0), (wShelf g a L ln tp rd cnt era nws), (wWalk g w (ru 0) sp9_40 nb9_40 mt9_40 pl9_40 op9_165 no9_165 od9_165 (stm + 1) wc9_40), (wRules g ru kd fi se sg le de nx he ro rc re rr)] dX8_rule_171 (Nat.le_of_ble_eq_true rfl) (Nat.le_of_ble_eq_true rfl) rfl ?_
            exact ⟨sp9_40, nb9_40, mt9_40, pl9_40, op9_165, no9_165, od9_165, wc9_40, occ (R (mt9_40 k_)) (R (tp t)), rfl, rfl, h40_0.2.1, R (tp t), _, hbt, hnd, _, _, hVk, Or.inr (Or.inr (Or.inr (Or.inr (Or.inl (⟨rfl, rfl⟩)))))⟩
          · skip
            omega
        · skip
          have c28 := bI0 c28
          omega
      · skip
        omega
set_option maxHeartbeats 4000000 in
set_option maxRecDepth 100000 in
theorem c_X8_rule_5 {g : Gm} {a : Nat → Nat} {L ln tp rd : Int → Int} {cnt era nws : Int} {ru : Nat → Nat} {kd fi se sg le de nx he ro : Int → Int} {rc re rr : Int} {R : Int → Rl} {w : Nat → Nat} {sp nb mt pl op no : Int → Int} {od stm wc : Int} {x tpa da pa qa sa bka : Nat} {taped told : Int} {t k_ v : Int} (hw : v = 5) (hT : RT kd fi se sg le de nx he rc R) (hsh : ShOk L ln cnt) (hto : TopsOk R rc L ln tp rd cnt) (ht : 0 ≤ t ∧ t < cnt) (hWI : 0 ≤ stm ∧ ∀ i, 0 ≤ i → i < 10240 → 0 ≤ sp i ∧ sp i ≤ stm) (hs2 : stm ≤ 1500000000) (hk : 0 ≤ k_ ∧ ∀ T q, BIs (lts (tx L t) 0 (ln t)) T q → k_ < ((vis T 0 []).length : Int)) (hkr : -2147483648 ≤ k_ ∧ k_ ≤ 2147483647) : Ct g 6 0 0 yX8_rule cX8_rule 5 (some .int) [.ref x, .int (iI t), .int (iI k_), .int (iI v)] [(wMain g x tpa (a 0) da pa qa (ru 0) (w 0) sa bka taped told), (wShelf g a L ln tp rd cnt era nws), (wWalk g w (ru 0) sp nb mt pl op no od stm wc), (wRules g ru kd fi se sg le de nx he ro rc re rr)] (fun v_ w_ => ∃ sp9 : Int → Int, ∃ nb9 : Int → Int, ∃ mt9 : Int → Int, ∃ pl9 : Int → Int, ∃ op9 : Int → Int, ∃ no9 : Int → Int, ∃ od9 : Int, ∃ wc9 : Int, ∃ r9 : Int, v_ = some (.int (iI r9)) ∧ w_ = [(wMain g x tpa (a 0) da pa qa (ru 0) (w 0) sa bka taped 0), (wShelf g a L ln tp rd cnt era nws), (wWalk g w (ru 0) sp9 nb9 mt9 pl9 op9 no9 od9 (stm + 1) wc9), (wRules g ru kd fi se sg le de nx he ro rc re rr)] ∧ (0 ≤ stm + 1 ∧ ∀ i, 0 ≤ i → i < 10240 → 0 ≤ sp9 i ∧ sp9 i ≤ stm + 1) ∧ (∃ T q, BIs (lts (tx L t) 0 (ln t)) T q ∧ ((vis T 0 []).map Prod.fst).Nodup ∧ RuleIs (vis T 0 []) T k_ 5 r9)) := by
  refine Ct.of (by decide) (Nat.le_of_ble_eq_true rfl) (lv := [(0, .ref x), (1, .int (iI t)), (2, .int (iI k_)), (3, .int (iI v))]) rfl ?_
  intro E hE hR hnm
  have hc := hsh.1
  have hln := hsh.ln
  have hB := hsh.2.1
  have hcn := hT.1
  have htr := (hto t ht.1 ht.2).1
  have hrr := hT.2.1 (tp t) htr.1 htr.2
  have hbt := (hto t ht.1 ht.2).2
  rw [lts_tx] at hbt
  refine r_iload_n 1 hE 2 dX8_rule_0 rfl rfl rfl ?_
  refine r_if_lt 4 14 hE dX8_rule_1 rfl (by decide) (by omega) (fun c1 => ?_) (fun c1 => ?_)
  · skip
    omega
  · skip
    refine r_iload_n 5 hE 3 dX8_rule_4 rfl rfl rfl ?_
    refine r_if_lt 8 14 hE dX8_rule_5 rfl (by decide) (by omega) (fun c5 => ?_) (fun c5 => ?_)
    · skip
      omega
    · skip
      refine r_iload_n 9 hE 3 dX8_rule_8 rfl rfl rfl ?_
      refine r_bipush 11 hE dX8_rule_9 rfl (by decide) ?_
      refine r_icmp_le 14 20 hE dX8_rule_11 rfl (by decide) (by omega) (fun c11 => ?_) (fun c11 => ?_)
      · skip
        refine r_aload_n 21 hE 0 dX8_rule_20 rfl rfl rfl ?_
        refine r_get 24 hE 0 0 ok8 4 dX8_rule_21 rfl wd_301 rfl rfl (by decide) rfl ?_
        refine r_iload_n 25 hE 1 dX8_rule_24 rfl rfl rfl ?_
        refine r_callV 28 hE [1] [0, 2, 3] [(wShelf g a L ln tp rd cnt era nws)] [(wMain g x tpa (a 0) da pa qa (ru 0) (w 0) sa bka taped told), (wWalk g w (ru 0) sp nb mt pl op no od stm wc), (wRules g ru kd fi se sg le de nx he ro rc re rr)] 0 5 ok5 [] (c_X5_has (by omega) (by omega)) dX8_rule_25 rfl rfl wd_764 wd_578 wd_579 wd_4 wd_580 ne_X5 np_X5_has (Nat.le_of_ble_eq_true rfl)  (by decide) (by decide) rfl (Nat.le_of_ble_eq_true rfl) rfl rfl rfl rfl (by decide) rfl (fun v1 f1 hp => ?_)
        obtain ⟨rfl, rfl⟩ := hp
        show G g E _ _ _ [(wShelf g a L ln tp rd cnt era nws), (wMain g x tpa (a 0) da pa qa (ru 0) (w 0) sa bka taped told), (wWalk g w (ru 0) sp nb mt pl op no od stm wc), (wRules g ru kd fi se sg le de nx he ro rc re rr)] 28 [(0, .ref x), (1, .int (iI t)), (2, .int (iI k_)), (3, .int (iI v))] [.int (iI (bI (0 ≤ t ∧ t < cnt)))]
        refine r_if_ne 31 37 hE dX8_rule_28 rfl (by decide) (bI_rg _) (fun c28 => ?_) (fun c28 => ?_)
        · skip
          have c28 := bI1 c28
          refine r_iload_n 38 hE 2 dX8_rule_37 rfl rfl rfl ?_
          refine r_aload_n 39 hE 0 dX8_rule_38 rfl rfl rfl ?_
          refine r_iload_n 40 hE 1 dX8_rule_39 rfl rfl rfl ?_
          refine r_callV 43 hE [1, 0, 2, 3] [] [(wMain g x tpa (a 0) da pa qa (ru 0) (w 0) sa bka taped told), (wShelf g a L ln tp rd cnt era nws), (wWalk g w (ru 0) sp nb mt pl op no od stm wc), (wRules g ru kd fi se sg le de nx he ro rc re rr)] [] 0 8 ok8 [.int (iI k_)] (c_X8_number (hT) (by omega) (by omega) (htr) (hWI) (by omega)) dX8_rule_40 rfl rfl wd_765 wd_767 ws_35 wd_1 wd_768 ne_X8 np_X8_number (Nat.le_of_ble_eq_true rfl)  (by decide) (by decide) rfl (Nat.le_of_ble_eq_true rfl) rfl rfl rfl rfl (by decide) rfl (fun v1 f1 hp => ?_)
          obtain ⟨sp9_40, nb9_40, mt9_40, pl9_40, op9_40, no9_40, od9_40, wc9_40, V9_40, rfl, rfl, h40_0, h40_1⟩ := hp
          show G g E _ _ _ [(wMain g x tpa (a 0) da pa qa (ru 0) (w 0) sa bka taped told), (wShelf g a L ln tp rd cnt era nws), (wWalk g w (ru 0) sp9_40 nb9_40 mt9_40 pl9_40 op9_40 no9_40 od9_40 (stm + 1) wc9_40), (wRules g ru kd fi se sg le de nx he ro rc re rr)] 43 [(0, .ref x), (1, .int (iI t)), (2, .int (iI k_)), (3, .int (iI v))] [.int (iI wc9_40), .int (iI k_)]
          have hlen := h40_0.le625 hT htr h40_1
          have hwl := h40_0.1
          have hk2 : k_ < wc9_40 := by have h9 := hk.2 _ _ hbt; rw [← h40_1] at h9; omega
          have hmt := h40_0.2.2.2.2.1 k_ hk.1 (by omega) hk2
          have hmr := hT.2.1 _ hmt.1.1 hmt.1.2
          have hmg := hmr.rg (by omega)
          have hin : InV V9_40 (R (mt9_40 k_)) := ⟨_, List.mem_of_getElem? hmt.2⟩
          have hpa := h40_0.parts hT h40_1 hmt.1 hin
          have hnd := h40_0.2.2.2.2.2.2
          have hVk := hmt.2
          rw [h40_1] at hnd hVk
          refine r_icmp_lt 46 52 hE dX8_rule_43 rfl (by decide) (by omega) (fun c43 => ?_) (fun c43 => ?_)
          · skip
            refine r_aload_n 53 hE 0 dX8_rule_52 rfl rfl rfl ?_
            refine r_get 56 hE 0 0 ok8 8 dX8_rule_53 rfl wd_305 rfl rfl (by decide) rfl ?_
            refine r_iload_n 57 hE 2 dX8_rule_56 rfl rfl rfl ?_
            refine r_callV 60 hE [2] [0, 1, 3] [(wWalk g w (ru 0) sp9_40 nb9_40 mt9_40 pl9_40 op9_40 no9_40 od9_40 (stm + 1) wc9_40)] [(wMain g x tpa (a 0) da pa qa (ru 0) (w 0) sa bka taped told), (wShelf g a L ln tp rd cnt era nws), (wRules g ru kd fi se sg le de nx he ro rc re rr)] 0 7 ok7 [] (c_X7_ruleAt (by omega) (by omega)) dX8_rule_57 rfl rfl wd_823 wd_824 wd_825 wd_8 wd_826 ne_X7 np_X7_ruleAt (Nat.le_of_ble_eq_true rfl)  (by decide) (by decide) rfl (Nat.le_of_ble_eq_true rfl) rfl rfl rfl rfl (by decide) rfl (fun v1 f1 hp => ?_)
            obtain ⟨rfl, rfl⟩ := hp
            show G g E _ _ _ [(wWalk g w (ru 0) sp9_40 nb9_40 mt9_40 pl9_40 op9_40 no9_40 od9_40 (stm + 1) wc9_40), (wMain g x tpa (a 0) da pa qa (ru 0) (w 0) sa bka taped told), (wShelf g a L ln tp rd cnt era nws), (wRules g ru kd fi se sg le de nx he ro rc re rr)] 60 [(0, .ref x), (1, .int (iI t)), (2, .int (iI k_)), (3, .int (iI v))] [.int (iI (mt9_40 k_))]
            refine r_istore 62 hE [(4, .int (iI (mt9_40 k_))), (0, .ref x), (1, .int (iI t)), (2, .int (iI k_)), (3, .int (iI v))] dX8_rule_60 rfl (by decide) rfl ?_
            refine r_iload_n 63 hE 4 dX8_rule_62 rfl rfl rfl ?_
            refine r_tsIn 172 hE 5 dX8_rule_63 (hw) (by decide) rfl (by decide) ?_
            refine r_aload_n 173 hE 1 dX8_rule_172 rfl rfl rfl ?_
            refine r_aload_n 174 hE 1 dX8_rule_173 rfl rfl rfl ?_
            refine r_get 177 hE 1 0 ok8 9 dX8_rule_174 rfl wd_306 rfl rfl (by decide) rfl ?_
            refine r_iload 179 hE 0 dX8_rule_177 rfl rfl ?_
            refine r_callV 182 hE [3] [0, 1, 2] [(wRules g ru kd fi se sg le de nx he ro rc re rr)] [(wWalk g w (ru 0) sp9_40 nb9_40 mt9_40 pl9_40 op9_40 no9_40 od9_40 (stm + 1) wc9_40), (wMain g x tpa (a 0) da pa qa (ru 0) (w 0) sa bka taped told), (wShelf g a L ln tp rd cnt era nws)] 0 3 ok3 [.ref x] (c_X3_signOf (by omega) (by omega)) dX8_rule_179 rfl rfl wd_777 wd_778 wd_779 wd_9 wd_780 ne_X3 np_X3_signOf (Nat.le_of_ble_eq_true rfl)  (by decide) (by decide) rfl (Nat.le_of_ble_eq_true rfl) rfl rfl rfl rfl (by decide) rfl (fun v1 f1 hp => ?_)
            obtain ⟨rfl, rfl⟩ := hp
            show G g E _ _ _ [(wRules g ru kd fi se sg le de nx he ro rc re rr), (wWalk g w (ru 0) sp9_40 nb9_40 mt9_40 pl9_40 op9_40 no9_40 od9_40 (stm + 1) wc9_40), (wMain g x tpa (a 0) da pa qa (ru 0) (w 0) sa bka taped told), (wShelf g a L ln tp rd cnt era nws)] 182 [(4, .int (iI (mt9_40 k_))), (0, .ref x), (1, .int (iI t)), (2, .int (iI k_)), (3, .int (iI v))] [.int (iI (sg (mt9_40 k_))), .ref x]
            refine r_callV 185 hE [2] [0, 1, 3] [(wMain g x tpa (a 0) da pa qa (ru 0) (w 0) sa bka taped told)] [(wRules g ru kd fi se sg le de nx he ro rc re rr), (wWalk g w (ru 0) sp9_40 nb9_40 mt9_40 pl9_40 op9_40 no9_40 od9_40 (stm + 1) wc9_40), (wShelf g a L ln tp rd cnt era nws)] 0 8 ok8 [] (c_X8_answer) dX8_rule_182 rfl rfl wd_739 wd_741 ws_33 wd_1 wd_742 ne_X8 np_X8_answer (Nat.le_of_ble_eq_true rfl)  (by decide) (by decide) rfl (Nat.le_of_ble_eq_true rfl) rfl rfl rfl rfl (by decide) rfl (fun v1 f1 hp => ?_)
            obtain ⟨rfl, rfl⟩ := hp
            show G g E _ _ _ [(wMain g x tpa (a 0) da pa qa (ru 0) (w 0) sa bka taped 0), (wRules g ru kd fi se sg le de nx he ro rc re rr), (wWalk g w (ru 0) sp9_40 nb9_40 mt9_40 pl9_40 op9_40 no9_40 od9_40 (stm + 1) wc9_40), (wShelf g a L ln tp rd cnt era nws)] 185 [(4, .int (iI (mt9_40 k_))), (0, .ref x), (1, .int (iI t)), (2, .int (iI k_)), (3, .int (iI v))] [.int (iI (sg (mt9_40 k_)))]
            refine G.to (fs' := [(wMain g x tpa (a 0) da pa qa (ru 0) (w 0) sa bka taped 0), (wShelf g a L ln tp rd cnt era nws), (wWalk g w (ru 0) sp9_40 nb9_40 mt9_40 pl9_40 op9_40 no9_40 od9_40 (stm + 1) wc9_40), (wRules g ru kd fi se sg le de nx he ro rc re rr)]) [0, 3, 2, 1] [0, 1, 2, 3, 4] rfl rfl rfl ?_
            refine r_ireturn hE hR [(wMain g x tpa (a 0) da pa qa (ru 0) (w 0) sa bka taped 0), (wShelf g a L ln tp rd cnt era nws), (wWalk g w (ru 0) sp9_40 nb9_40 mt9_40 pl9_40 op9_40 no9_40 od9_40 (stm + 1) wc9_40), (wRules g ru kd fi se sg le de nx he ro rc re rr)] dX8_rule_185 (Nat.le_of_ble_eq_true rfl) (Nat.le_of_ble_eq_true rfl) rfl ?_
            exact ⟨sp9_40, nb9_40, mt9_40, pl9_40, op9_40, no9_40, od9_40, wc9_40, sg (mt9_40 k_), rfl, rfl, h40_0.2.1, R (tp t), _, hbt, hnd, _, _, hVk, Or.inr (Or.inr (Or.inr (Or.inr (Or.inr (Or.inl (⟨rfl, hmr.2.1⟩))))))⟩
          · skip
            omega
        · skip
          have c28 := bI0 c28
          omega
      · skip
        omega
set_option maxHeartbeats 4000000 in
set_option maxRecDepth 100000 in
theorem c_X8_rule_6 {g : Gm} {a : Nat → Nat} {L ln tp rd : Int → Int} {cnt era nws : Int} {ru : Nat → Nat} {kd fi se sg le de nx he ro : Int → Int} {rc re rr : Int} {R : Int → Rl} {w : Nat → Nat} {sp nb mt pl op no : Int → Int} {od stm wc : Int} {x tpa da pa qa sa bka : Nat} {taped told : Int} {t k_ v : Int} (hw : v = 6) (hT : RT kd fi se sg le de nx he rc R) (hsh : ShOk L ln cnt) (hto : TopsOk R rc L ln tp rd cnt) (ht : 0 ≤ t ∧ t < cnt) (hWI : 0 ≤ stm ∧ ∀ i, 0 ≤ i → i < 10240 → 0 ≤ sp i ∧ sp i ≤ stm) (hs2 : stm ≤ 1500000000) (hk : 0 ≤ k_ ∧ ∀ T q, BIs (lts (tx L t) 0 (ln t)) T q → k_ < ((vis T 0 []).length : Int)) (hkr : -2147483648 ≤ k_ ∧ k_ ≤ 2147483647) : Ct g 6 0 0 yX8_rule cX8_rule 5 (some .int) [.ref x, .int (iI t), .int (iI k_), .int (iI v)] [(wMain g x tpa (a 0) da pa qa (ru 0) (w 0) sa bka taped told), (wShelf g a L ln tp rd cnt era nws), (wWalk g w (ru 0) sp nb mt pl op no od stm wc), (wRules g ru kd fi se sg le de nx he ro rc re rr)] (fun v_ w_ => ∃ sp9 : Int → Int, ∃ nb9 : Int → Int, ∃ mt9 : Int → Int, ∃ pl9 : Int → Int, ∃ op9 : Int → Int, ∃ no9 : Int → Int, ∃ od9 : Int, ∃ wc9 : Int, ∃ r9 : Int, v_ = some (.int (iI r9)) ∧ w_ = [(wMain g x tpa (a 0) da pa qa (ru 0) (w 0) sa bka taped 0), (wShelf g a L ln tp rd cnt era nws), (wWalk g w (ru 0) sp9 nb9 mt9 pl9 op9 no9 od9 (stm + 1) wc9), (wRules g ru kd fi se sg le de nx he ro rc re rr)] ∧ (0 ≤ stm + 1 ∧ ∀ i, 0 ≤ i → i < 10240 → 0 ≤ sp9 i ∧ sp9 i ≤ stm + 1) ∧ (∃ T q, BIs (lts (tx L t) 0 (ln t)) T q ∧ ((vis T 0 []).map Prod.fst).Nodup ∧ RuleIs (vis T 0 []) T k_ 6 r9)) := by
  refine Ct.of (by decide) (Nat.le_of_ble_eq_true rfl) (lv := [(0, .ref x), (1, .int (iI t)), (2, .int (iI k_)), (3, .int (iI v))]) rfl ?_
  intro E hE hR hnm
  have hc := hsh.1
  have hln := hsh.ln
  have hB := hsh.2.1
  have hcn := hT.1
  have htr := (hto t ht.1 ht.2).1
  have hrr := hT.2.1 (tp t) htr.1 htr.2
  have hbt := (hto t ht.1 ht.2).2
  rw [lts_tx] at hbt
  refine r_iload_n 1 hE 2 dX8_rule_0 rfl rfl rfl ?_
  refine r_if_lt 4 14 hE dX8_rule_1 rfl (by decide) (by omega) (fun c1 => ?_) (fun c1 => ?_)
  · skip
    omega
  · skip
    refine r_iload_n 5 hE 3 dX8_rule_4 rfl rfl rfl ?_
    refine r_if_lt 8 14 hE dX8_rule_5 rfl (by decide) (by omega) (fun c5 => ?_) (fun c5 => ?_)
    · skip
      omega
    · skip
      refine r_iload_n 9 hE 3 dX8_rule_8 rfl rfl rfl ?_
      refine r_bipush 11 hE dX8_rule_9 rfl (by decide) ?_
      refine r_icmp_le 14 20 hE dX8_rule_11 rfl (by decide) (by omega) (fun c11 => ?_) (fun c11 => ?_)
      · skip
        refine r_aload_n 21 hE 0 dX8_rule_20 rfl rfl rfl ?_
        refine r_get 24 hE 0 0 ok8 4 dX8_rule_21 rfl wd_301 rfl rfl (by decide) rfl ?_
        refine r_iload_n 25 hE 1 dX8_rule_24 rfl rfl rfl ?_
        refine r_callV 28 hE [1] [0, 2, 3] [(wShelf g a L ln tp rd cnt era nws)] [(wMain g x tpa (a 0) da pa qa (ru 0) (w 0) sa bka taped told), (wWalk g w (ru 0) sp nb mt pl op no od stm wc), (wRules g ru kd fi se sg le de nx he ro rc re rr)] 0 5 ok5 [] (c_X5_has (by omega) (by omega)) dX8_rule_25 rfl rfl wd_764 wd_578 wd_579 wd_4 wd_580 ne_X5 np_X5_has (Nat.le_of_ble_eq_true rfl)  (by decide) (by decide) rfl (Nat.le_of_ble_eq_true rfl) rfl rfl rfl rfl (by decide) rfl (fun v1 f1 hp => ?_)
        obtain ⟨rfl, rfl⟩ := hp
        show G g E _ _ _ [(wShelf g a L ln tp rd cnt era nws), (wMain g x tpa (a 0) da pa qa (ru 0) (w 0) sa bka taped told), (wWalk g w (ru 0) sp nb mt pl op no od stm wc), (wRules g ru kd fi se sg le de nx he ro rc re rr)] 28 [(0, .ref x), (1, .int (iI t)), (2, .int (iI k_)), (3, .int (iI v))] [.int (iI (bI (0 ≤ t ∧ t < cnt)))]
        refine r_if_ne 31 37 hE dX8_rule_28 rfl (by decide) (bI_rg _) (fun c28 => ?_) (fun c28 => ?_)
        · skip
          have c28 := bI1 c28
          refine r_iload_n 38 hE 2 dX8_rule_37 rfl rfl rfl ?_
          refine r_aload_n 39 hE 0 dX8_rule_38 rfl rfl rfl ?_
          refine r_iload_n 40 hE 1 dX8_rule_39 rfl rfl rfl ?_
          refine r_callV 43 hE [1, 0, 2, 3] [] [(wMain g x tpa (a 0) da pa qa (ru 0) (w 0) sa bka taped told), (wShelf g a L ln tp rd cnt era nws), (wWalk g w (ru 0) sp nb mt pl op no od stm wc), (wRules g ru kd fi se sg le de nx he ro rc re rr)] [] 0 8 ok8 [.int (iI k_)] (c_X8_number (hT) (by omega) (by omega) (htr) (hWI) (by omega)) dX8_rule_40 rfl rfl wd_765 wd_767 ws_35 wd_1 wd_768 ne_X8 np_X8_number (Nat.le_of_ble_eq_true rfl)  (by decide) (by decide) rfl (Nat.le_of_ble_eq_true rfl) rfl rfl rfl rfl (by decide) rfl (fun v1 f1 hp => ?_)
          obtain ⟨sp9_40, nb9_40, mt9_40, pl9_40, op9_40, no9_40, od9_40, wc9_40, V9_40, rfl, rfl, h40_0, h40_1⟩ := hp
          show G g E _ _ _ [(wMain g x tpa (a 0) da pa qa (ru 0) (w 0) sa bka taped told), (wShelf g a L ln tp rd cnt era nws), (wWalk g w (ru 0) sp9_40 nb9_40 mt9_40 pl9_40 op9_40 no9_40 od9_40 (stm + 1) wc9_40), (wRules g ru kd fi se sg le de nx he ro rc re rr)] 43 [(0, .ref x), (1, .int (iI t)), (2, .int (iI k_)), (3, .int (iI v))] [.int (iI wc9_40), .int (iI k_)]
          have hlen := h40_0.le625 hT htr h40_1
          have hwl := h40_0.1
          have hk2 : k_ < wc9_40 := by have h9 := hk.2 _ _ hbt; rw [← h40_1] at h9; omega
          have hmt := h40_0.2.2.2.2.1 k_ hk.1 (by omega) hk2
          have hmr := hT.2.1 _ hmt.1.1 hmt.1.2
          have hmg := hmr.rg (by omega)
          have hin : InV V9_40 (R (mt9_40 k_)) := ⟨_, List.mem_of_getElem? hmt.2⟩
          have hpa := h40_0.parts hT h40_1 hmt.1 hin
          have hnd := h40_0.2.2.2.2.2.2
          have hVk := hmt.2
          rw [h40_1] at hnd hVk
          refine r_icmp_lt 46 52 hE dX8_rule_43 rfl (by decide) (by omega) (fun c43 => ?_) (fun c43 => ?_)
          · skip
            refine r_aload_n 53 hE 0 dX8_rule_52 rfl rfl rfl ?_
            refine r_get 56 hE 0 0 ok8 8 dX8_rule_53 rfl wd_305 rfl rfl (by decide) rfl ?_
            refine r_iload_n 57 hE 2 dX8_rule_56 rfl rfl rfl ?_
            refine r_callV 60 hE [2] [0, 1, 3] [(wWalk g w (ru 0) sp9_40 nb9_40 mt9_40 pl9_40 op9_40 no9_40 od9_40 (stm + 1) wc9_40)] [(wMain g x tpa (a 0) da pa qa (ru 0) (w 0) sa bka taped told), (wShelf g a L ln tp rd cnt era nws), (wRules g ru kd fi se sg le de nx he ro rc re rr)] 0 7 ok7 [] (c_X7_ruleAt (by omega) (by omega)) dX8_rule_57 rfl rfl wd_823 wd_824 wd_825 wd_8 wd_826 ne_X7 np_X7_ruleAt (Nat.le_of_ble_eq_true rfl)  (by decide) (by decide) rfl (Nat.le_of_ble_eq_true rfl) rfl rfl rfl rfl (by decide) rfl (fun v1 f1 hp => ?_)
            obtain ⟨rfl, rfl⟩ := hp
            show G g E _ _ _ [(wWalk g w (ru 0) sp9_40 nb9_40 mt9_40 pl9_40 op9_40 no9_40 od9_40 (stm + 1) wc9_40), (wMain g x tpa (a 0) da pa qa (ru 0) (w 0) sa bka taped told), (wShelf g a L ln tp rd cnt era nws), (wRules g ru kd fi se sg le de nx he ro rc re rr)] 60 [(0, .ref x), (1, .int (iI t)), (2, .int (iI k_)), (3, .int (iI v))] [.int (iI (mt9_40 k_))]
            refine r_istore 62 hE [(4, .int (iI (mt9_40 k_))), (0, .ref x), (1, .int (iI t)), (2, .int (iI k_)), (3, .int (iI v))] dX8_rule_60 rfl (by decide) rfl ?_
            refine r_iload_n 63 hE 4 dX8_rule_62 rfl rfl rfl ?_
            refine r_tsOut 186 hE dX8_rule_63 (by omega) (by decide) ?_
            refine r_aload_n 187 hE 1 dX8_rule_186 rfl rfl rfl ?_
            refine r_aload_n 188 hE 1 dX8_rule_187 rfl rfl rfl ?_
            refine r_get 191 hE 1 0 ok8 8 dX8_rule_188 rfl wd_305 rfl rfl (by decide) rfl ?_
            refine r_iload_n 192 hE 3 dX8_rule_191 rfl rfl rfl ?_
            refine r_callV 195 hE [0] [1, 2, 3] [(wWalk g w (ru 0) sp9_40 nb9_40 mt9_40 pl9_40 op9_40 no9_40 od9_40 (stm + 1) wc9_40)] [(wMain g x tpa (a 0) da pa qa (ru 0) (w 0) sa bka taped told), (wShelf g a L ln tp rd cnt era nws), (wRules g ru kd fi se sg le de nx he ro rc re rr)] 0 7 ok7 [.ref x] (c_X7_placeAt (by omega) (by omega)) dX8_rule_192 rfl rfl wd_847 wd_848 wd_849 wd_8 wd_850 ne_X7 np_X7_placeAt (Nat.le_of_ble_eq_true rfl)  (by decide) (by decide) rfl (Nat.le_of_ble_eq_true rfl) rfl rfl rfl rfl (by decide) rfl (fun v1 f1 hp => ?_)
            obtain ⟨rfl, rfl⟩ := hp
            show G g E _ _ _ [(wWalk g w (ru 0) sp9_40 nb9_40 mt9_40 pl9_40 op9_40 no9_40 od9_40 (stm + 1) wc9_40), (wMain g x tpa (a 0) da pa qa (ru 0) (w 0) sa bka taped told), (wShelf g a L ln tp rd cnt era nws), (wRules g ru kd fi se sg le de nx he ro rc re rr)] 195 [(4, .int (iI (mt9_40 k_))), (0, .ref x), (1, .int (iI t)), (2, .int (iI k_)), (3, .int (iI v))] [.int (iI (pl9_40 k_)), .ref x]
            refine r_callV 198 hE [1] [0, 2, 3] [(wMain g x tpa (a 0) da pa qa (ru 0) (w 0) sa bka taped told)] [(wWalk g w (ru 0) sp9_40 nb9_40 mt9_40 pl9_40 op9_40 no9_40 od9_40 (stm + 1) wc9_40), (wShelf g a L ln tp rd cnt era nws), (wRules g ru kd fi se sg le de nx he ro rc re rr)] 0 8 ok8 [] (c_X8_answer) dX8_rule_195 rfl rfl wd_739 wd_741 ws_33 wd_1 wd_742 ne_X8 np_X8_answer (Nat.le_of_ble_eq_true rfl)  (by decide) (by decide) rfl (Nat.le_of_ble_eq_true rfl) rfl rfl rfl rfl (by decide) rfl (fun v1 f1 hp => ?_)
            obtain ⟨rfl, rfl⟩ := hp
            show G g E _ _ _ [(wMain g x tpa (a 0) da pa qa (ru 0) (w 0) sa bka taped 0), (wWalk g w (ru 0) sp9_40 nb9_40 mt9_40 pl9_40 op9_40 no9_40 od9_40 (stm + 1) wc9_40), (wShelf g a L ln tp rd cnt era nws), (wRules g ru kd fi se sg le de nx he ro rc re rr)] 198 [(4, .int (iI (mt9_40 k_))), (0, .ref x), (1, .int (iI t)), (2, .int (iI k_)), (3, .int (iI v))] [.int (iI (pl9_40 k_))]
            refine G.to (fs' := [(wMain g x tpa (a 0) da pa qa (ru 0) (w 0) sa bka taped 0), (wShelf g a L ln tp rd cnt era nws), (wWalk g w (ru 0) sp9_40 nb9_40 mt9_40 pl9_40 op9_40 no9_40 od9_40 (stm + 1) wc9_40), (wRules g ru kd fi se sg le de nx he ro rc re rr)]) [0, 2, 1, 3] [0, 1, 2, 3, 4] rfl rfl rfl ?_
            refine r_ireturn hE hR [(wMain g x tpa (a 0) da pa qa (ru 0) (w 0) sa bka taped 0), (wShelf g a L ln tp rd cnt era nws), (wWalk g w (ru 0) sp9_40 nb9_40 mt9_40 pl9_40 op9_40 no9_40 od9_40 (stm + 1) wc9_40), (wRules g ru kd fi se sg le de nx he ro rc re rr)] dX8_rule_198 (Nat.le_of_ble_eq_true rfl) (Nat.le_of_ble_eq_true rfl) rfl ?_
            exact ⟨sp9_40, nb9_40, mt9_40, pl9_40, op9_40, no9_40, od9_40, wc9_40, pl9_40 k_, rfl, rfl, h40_0.2.1, R (tp t), _, hbt, hnd, _, _, hVk, Or.inr (Or.inr (Or.inr (Or.inr (Or.inr (Or.inr ((⟨rfl, rfl⟩)))))))⟩
          · skip
            omega
        · skip
          have c28 := bI0 c28
          omega
      · skip
        omega
set_option maxHeartbeats 4000000 in
set_option maxRecDepth 100000 in
theorem c_X8_rule_5n {g : Gm} {a : Nat → Nat} {L ln tp rd : Int → Int} {cnt era nws : Int} {ru : Nat → Nat} {kd fi se sg le de nx he ro : Int → Int} {rc re rr : Int} {R : Int → Rl} {w : Nat → Nat} {sp nb mt pl op no : Int → Int} {od stm wc : Int} {x tpa da pa qa sa bka : Nat} {taped told : Int} {t k_ v : Int} (hw : 0 ≤ v ∧ v ≤ 6) (hT : RT kd fi se sg le de nx he rc R) (hsh : ShOk L ln cnt) (hto : TopsOk R rc L ln tp rd cnt) (ht : 0 ≤ t ∧ t < cnt) (hWI : 0 ≤ stm ∧ ∀ i, 0 ≤ i → i < 10240 → 0 ≤ sp i ∧ sp i ≤ stm) (hs2 : stm ≤ 1500000000) (hk : 0 ≤ k_ ∧ ∀ T q, BIs (lts (tx L t) 0 (ln t)) T q → ((vis T 0 []).length : Int) ≤ k_) (hkr : -2147483648 ≤ k_ ∧ k_ ≤ 2147483647) : Ct g 6 0 0 yX8_rule cX8_rule 5 (some .int) [.ref x, .int (iI t), .int (iI k_), .int (iI v)] [(wMain g x tpa (a 0) da pa qa (ru 0) (w 0) sa bka taped told), (wShelf g a L ln tp rd cnt era nws), (wWalk g w (ru 0) sp nb mt pl op no od stm wc), (wRules g ru kd fi se sg le de nx he ro rc re rr)] (fun v_ w_ => ∃ sp9 : Int → Int, ∃ nb9 : Int → Int, ∃ mt9 : Int → Int, ∃ pl9 : Int → Int, ∃ op9 : Int → Int, ∃ no9 : Int → Int, ∃ od9 : Int, ∃ wc9 : Int, v_ = some (.int (iI (-1))) ∧ w_ = [(wMain g x tpa (a 0) da pa qa (ru 0) (w 0) sa bka taped 5), (wShelf g a L ln tp rd cnt era nws), (wWalk g w (ru 0) sp9 nb9 mt9 pl9 op9 no9 od9 (stm + 1) wc9), (wRules g ru kd fi se sg le de nx he ro rc re rr)] ∧ (0 ≤ stm + 1 ∧ ∀ i, 0 ≤ i → i < 10240 → 0 ≤ sp9 i ∧ sp9 i ≤ stm + 1)) := by
  refine Ct.of (by decide) (Nat.le_of_ble_eq_true rfl) (lv := [(0, .ref x), (1, .int (iI t)), (2, .int (iI k_)), (3, .int (iI v))]) rfl ?_
  intro E hE hR hnm
  have hc := hsh.1
  have hln := hsh.ln
  have hB := hsh.2.1
  have hcn := hT.1
  have htr := (hto t ht.1 ht.2).1
  have hrr := hT.2.1 (tp t) htr.1 htr.2
  have hbt := (hto t ht.1 ht.2).2
  rw [lts_tx] at hbt
  refine r_iload_n 1 hE 2 dX8_rule_0 rfl rfl rfl ?_
  refine r_if_lt 4 14 hE dX8_rule_1 rfl (by decide) (by omega) (fun c1 => ?_) (fun c1 => ?_)
  · skip
    omega
  · skip
    refine r_iload_n 5 hE 3 dX8_rule_4 rfl rfl rfl ?_
    refine r_if_lt 8 14 hE dX8_rule_5 rfl (by decide) (by omega) (fun c5 => ?_) (fun c5 => ?_)
    · skip
      omega
    · skip
      refine r_iload_n 9 hE 3 dX8_rule_8 rfl rfl rfl ?_
      refine r_bipush 11 hE dX8_rule_9 rfl (by decide) ?_
      refine r_icmp_le 14 20 hE dX8_rule_11 rfl (by decide) (by omega) (fun c11 => ?_) (fun c11 => ?_)
      · skip
        refine r_aload_n 21 hE 0 dX8_rule_20 rfl rfl rfl ?_
        refine r_get 24 hE 0 0 ok8 4 dX8_rule_21 rfl wd_301 rfl rfl (by decide) rfl ?_
        refine r_iload_n 25 hE 1 dX8_rule_24 rfl rfl rfl ?_
        refine r_callV 28 hE [1] [0, 2, 3] [(wShelf g a L ln tp rd cnt era nws)] [(wMain g x tpa (a 0) da pa qa (ru 0) (w 0) sa bka taped told), (wWalk g w (ru 0) sp nb mt pl op no od stm wc), (wRules g ru kd fi se sg le de nx he ro rc re rr)] 0 5 ok5 [] (c_X5_has (by omega) (by omega)) dX8_rule_25 rfl rfl wd_764 wd_578 wd_579 wd_4 wd_580 ne_X5 np_X5_has (Nat.le_of_ble_eq_true rfl)  (by decide) (by decide) rfl (Nat.le_of_ble_eq_true rfl) rfl rfl rfl rfl (by decide) rfl (fun v1 f1 hp => ?_)
        obtain ⟨rfl, rfl⟩ := hp
        show G g E _ _ _ [(wShelf g a L ln tp rd cnt era nws), (wMain g x tpa (a 0) da pa qa (ru 0) (w 0) sa bka taped told), (wWalk g w (ru 0) sp nb mt pl op no od stm wc), (wRules g ru kd fi se sg le de nx he ro rc re rr)] 28 [(0, .ref x), (1, .int (iI t)), (2, .int (iI k_)), (3, .int (iI v))] [.int (iI (bI (0 ≤ t ∧ t < cnt)))]
        refine r_if_ne 31 37 hE dX8_rule_28 rfl (by decide) (bI_rg _) (fun c28 => ?_) (fun c28 => ?_)
        · skip
          have c28 := bI1 c28
          refine r_iload_n 38 hE 2 dX8_rule_37 rfl rfl rfl ?_
          refine r_aload_n 39 hE 0 dX8_rule_38 rfl rfl rfl ?_
          refine r_iload_n 40 hE 1 dX8_rule_39 rfl rfl rfl ?_
          refine r_callV 43 hE [1, 0, 2, 3] [] [(wMain g x tpa (a 0) da pa qa (ru 0) (w 0) sa bka taped told), (wShelf g a L ln tp rd cnt era nws), (wWalk g w (ru 0) sp nb mt pl op no od stm wc), (wRules g ru kd fi se sg le de nx he ro rc re rr)] [] 0 8 ok8 [.int (iI k_)] (c_X8_number (hT) (by omega) (by omega) (htr) (hWI) (by omega)) dX8_rule_40 rfl rfl wd_765 wd_767 ws_35 wd_1 wd_768 ne_X8 np_X8_number (Nat.le_of_ble_eq_true rfl)  (by decide) (by decide) rfl (Nat.le_of_ble_eq_true rfl) rfl rfl rfl rfl (by decide) rfl (fun v1 f1 hp => ?_)
          obtain ⟨sp9_40, nb9_40, mt9_40, pl9_40, op9_40, no9_40, od9_40, wc9_40, V9_40, rfl, rfl, h40_0, h40_1⟩ := hp
          show G g E _ _ _ [(wMain g x tpa (a 0) da pa qa (ru 0) (w 0) sa bka taped told), (wShelf g a L ln tp rd cnt era nws), (wWalk g w (ru 0) sp9_40 nb9_40 mt9_40 pl9_40 op9_40 no9_40 od9_40 (stm + 1) wc9_40), (wRules g ru kd fi se sg le de nx he ro rc re rr)] 43 [(0, .ref x), (1, .int (iI t)), (2, .int (iI k_)), (3, .int (iI v))] [.int (iI wc9_40), .int (iI k_)]
          have hwl := h40_0.1
          have hlen := h40_0.le625 hT htr h40_1
          have hk2 : wc9_40 ≤ k_ := by have h9 := hk.2 _ _ hbt; rw [← h40_1] at h9; omega
          refine r_icmp_lt 46 52 hE dX8_rule_43 rfl (by decide) (by omega) (fun c43 => ?_) (fun c43 => ?_)
          · skip
            omega
          · skip
            refine r_aload_n 47 hE 0 dX8_rule_46 rfl rfl rfl ?_
            refine r_iconst 48 hE dX8_rule_47 rfl ?_
            refine r_callV 51 hE [0] [1, 2, 3] [(wMain g x tpa (a 0) da pa qa (ru 0) (w 0) sa bka taped told)] [(wShelf g a L ln tp rd cnt era nws), (wWalk g w (ru 0) sp9_40 nb9_40 mt9_40 pl9_40 op9_40 no9_40 od9_40 (stm + 1) wc9_40), (wRules g ru kd fi se sg le de nx he ro rc re rr)] 0 8 ok8 [] (c_X8_refuse) dX8_rule_48 rfl rfl wd_347 wd_349 ws_1 wd_1 wd_350 ne_X8 np_X8_refuse (Nat.le_of_ble_eq_true rfl)  (by decide) (by decide) rfl (Nat.le_of_ble_eq_true rfl) rfl rfl rfl rfl (by decide) rfl (fun v1 f1 hp => ?_)
            obtain ⟨rfl, rfl⟩ := hp
            show G g E _ _ _ [(wMain g x tpa (a 0) da pa qa (ru 0) (w 0) sa bka taped 5), (wShelf g a L ln tp rd cnt era nws), (wWalk g w (ru 0) sp9_40 nb9_40 mt9_40 pl9_40 op9_40 no9_40 od9_40 (stm + 1) wc9_40), (wRules g ru kd fi se sg le de nx he ro rc re rr)] 51 [(0, .ref x), (1, .int (iI t)), (2, .int (iI k_)), (3, .int (iI v))] [.int (iI (-1))]
            refine r_ireturn hE hR [(wMain g x tpa (a 0) da pa qa (ru 0) (w 0) sa bka taped 5), (wShelf g a L ln tp rd cnt era nws), (wWalk g w (ru 0) sp9_40 nb9_40 mt9_40 pl9_40 op9_40 no9_40 od9_40 (stm + 1) wc9_40), (wRules g ru kd fi se sg le de nx he ro rc re rr)] dX8_rule_51 (Nat.le_of_ble_eq_true rfl) (Nat.le_of_ble_eq_true rfl) rfl ?_
            exact ⟨_, _, _, _, _, _, _, _, rfl, rfl, h40_0.2.1⟩
        · skip
          have c28 := bI0 c28
          omega
      · skip
        omega
set_option maxHeartbeats 4000000 in
set_option maxRecDepth 100000 in
theorem c_X8_rule_no {g : Gm} {a : Nat → Nat} {L ln tp rd : Int → Int} {cnt era nws : Int} {x tpa da pa qa rua wa sa bka : Nat} {taped told : Int} {t k_ v : Int} (hsh : ShOk L ln cnt) (ht : -2147483648 ≤ t ∧ t ≤ 2147483647) (hv : -2147483648 ≤ v ∧ v ≤ 2147483647) (hkr : -2147483648 ≤ k_ ∧ k_ ≤ 2147483647) (hno : ¬ (0 ≤ k_ ∧ 0 ≤ v ∧ v ≤ 6) ∨ ¬ (0 ≤ t ∧ t < cnt)) : Ct g 6 0 0 yX8_rule cX8_rule 5 (some .int) [.ref x, .int (iI t), .int (iI k_), .int (iI v)] [(wMain g x tpa (a 0) da pa qa rua wa sa bka taped told), (wShelf g a L ln tp rd cnt era nws)] (fun v_ w_ => v_ = some (.int (iI (-1))) ∧ w_ = [(wMain g x tpa (a 0) da pa qa rua wa sa bka taped (if ¬ (0 ≤ k_ ∧ 0 ≤ v ∧ v ≤ 6) then 1 else 2)), (wShelf g a L ln tp rd cnt era nws)]) := by
  refine Ct.of (by decide) (Nat.le_of_ble_eq_true rfl) (lv := [(0, .ref x), (1, .int (iI t)), (2, .int (iI k_)), (3, .int (iI v))]) rfl ?_
  intro E hE hR hnm
  have hc := hsh.1
  have hln := hsh.ln
  have hB := hsh.2.1
  refine r_iload_n 1 hE 2 dX8_rule_0 rfl rfl rfl ?_
  refine r_if_lt 4 14 hE dX8_rule_1 rfl (by decide) (by omega) (fun c1 => ?_) (fun c1 => ?_)
  · skip
    refine r_aload_n 15 hE 0 dX8_rule_14 rfl rfl rfl ?_
    refine r_iconst 16 hE dX8_rule_15 rfl ?_
    refine r_callV 19 hE [0] [1] [(wMain g x tpa (a 0) da pa qa rua wa sa bka taped told)] [(wShelf g a L ln tp rd cnt era nws)] 0 8 ok8 [] (c_X8_refuse) dX8_rule_16 rfl rfl wd_347 wd_349 ws_1 wd_1 wd_350 ne_X8 np_X8_refuse (Nat.le_of_ble_eq_true rfl)  (by decide) (by decide) rfl (Nat.le_of_ble_eq_true rfl) rfl rfl rfl rfl (by decide) rfl (fun v1 f1 hp => ?_)
    obtain ⟨rfl, rfl⟩ := hp
    show G g E _ _ _ [(wMain g x tpa (a 0) da pa qa rua wa sa bka taped 1), (wShelf g a L ln tp rd cnt era nws)] 19 [(0, .ref x), (1, .int (iI t)), (2, .int (iI k_)), (3, .int (iI v))] [.int (iI (-1))]
    refine r_ireturn hE hR [(wMain g x tpa (a 0) da pa qa rua wa sa bka taped 1), (wShelf g a L ln tp rd cnt era nws)] dX8_rule_19 (Nat.le_of_ble_eq_true rfl) (Nat.le_of_ble_eq_true rfl) rfl ?_
    exact ⟨rfl, by rw [if_pos (by omega)]⟩
  · skip
    refine r_iload_n 5 hE 3 dX8_rule_4 rfl rfl rfl ?_
    refine r_if_lt 8 14 hE dX8_rule_5 rfl (by decide) (by omega) (fun c5 => ?_) (fun c5 => ?_)
    · skip
      refine r_aload_n 15 hE 0 dX8_rule_14 rfl rfl rfl ?_
      refine r_iconst 16 hE dX8_rule_15 rfl ?_
      refine r_callV 19 hE [0] [1] [(wMain g x tpa (a 0) da pa qa rua wa sa bka taped told)] [(wShelf g a L ln tp rd cnt era nws)] 0 8 ok8 [] (c_X8_refuse) dX8_rule_16 rfl rfl wd_347 wd_349 ws_1 wd_1 wd_350 ne_X8 np_X8_refuse (Nat.le_of_ble_eq_true rfl)  (by decide) (by decide) rfl (Nat.le_of_ble_eq_true rfl) rfl rfl rfl rfl (by decide) rfl (fun v1 f1 hp => ?_)
      obtain ⟨rfl, rfl⟩ := hp
      show G g E _ _ _ [(wMain g x tpa (a 0) da pa qa rua wa sa bka taped 1), (wShelf g a L ln tp rd cnt era nws)] 19 [(0, .ref x), (1, .int (iI t)), (2, .int (iI k_)), (3, .int (iI v))] [.int (iI (-1))]
      refine r_ireturn hE hR [(wMain g x tpa (a 0) da pa qa rua wa sa bka taped 1), (wShelf g a L ln tp rd cnt era nws)] dX8_rule_19 (Nat.le_of_ble_eq_true rfl) (Nat.le_of_ble_eq_true rfl) rfl ?_
      exact ⟨rfl, by rw [if_pos (by omega)]⟩
    · skip
      refine r_iload_n 9 hE 3 dX8_rule_8 rfl rfl rfl ?_
      refine r_bipush 11 hE dX8_rule_9 rfl (by decide) ?_
      refine r_icmp_le 14 20 hE dX8_rule_11 rfl (by decide) (by omega) (fun c11 => ?_) (fun c11 => ?_)
      · skip
        refine r_aload_n 21 hE 0 dX8_rule_20 rfl rfl rfl ?_
        refine r_get 24 hE 0 0 ok8 4 dX8_rule_21 rfl wd_301 rfl rfl (by decide) rfl ?_
        refine r_iload_n 25 hE 1 dX8_rule_24 rfl rfl rfl ?_
        refine r_callV 28 hE [1] [0] [(wShelf g a L ln tp rd cnt era nws)] [(wMain g x tpa (a 0) da pa qa rua wa sa bka taped told)] 0 5 ok5 [] (c_X5_has (by omega) (by omega)) dX8_rule_25 rfl rfl wd_764 wd_578 wd_579 wd_4 wd_580 ne_X5 np_X5_has (Nat.le_of_ble_eq_true rfl)  (by decide) (by decide) rfl (Nat.le_of_ble_eq_true rfl) rfl rfl rfl rfl (by decide) rfl (fun v1 f1 hp => ?_)
        obtain ⟨rfl, rfl⟩ := hp
        show G g E _ _ _ [(wShelf g a L ln tp rd cnt era nws), (wMain g x tpa (a 0) da pa qa rua wa sa bka taped told)] 28 [(0, .ref x), (1, .int (iI t)), (2, .int (iI k_)), (3, .int (iI v))] [.int (iI (bI (0 ≤ t ∧ t < cnt)))]
        refine r_if_ne 31 37 hE dX8_rule_28 rfl (by decide) (bI_rg _) (fun c28 => ?_) (fun c28 => ?_)
        · skip
          have c28 := bI1 c28
          exfalso; rcases hno with z | z <;> omega
        · skip
          have c28 := bI0 c28
          refine r_aload_n 32 hE 0 dX8_rule_31 rfl rfl rfl ?_
          refine r_iconst 33 hE dX8_rule_32 rfl ?_
          refine r_callV 36 hE [1] [0] [(wMain g x tpa (a 0) da pa qa rua wa sa bka taped told)] [(wShelf g a L ln tp rd cnt era nws)] 0 8 ok8 [] (c_X8_refuse) dX8_rule_33 rfl rfl wd_347 wd_349 ws_1 wd_1 wd_350 ne_X8 np_X8_refuse (Nat.le_of_ble_eq_true rfl)  (by decide) (by decide) rfl (Nat.le_of_ble_eq_true rfl) rfl rfl rfl rfl (by decide) rfl (fun v1 f1 hp => ?_)
          obtain ⟨rfl, rfl⟩ := hp
          show G g E _ _ _ [(wMain g x tpa (a 0) da pa qa rua wa sa bka taped 2), (wShelf g a L ln tp rd cnt era nws)] 36 [(0, .ref x), (1, .int (iI t)), (2, .int (iI k_)), (3, .int (iI v))] [.int (iI (-1))]
          refine r_ireturn hE hR [(wMain g x tpa (a 0) da pa qa rua wa sa bka taped 2), (wShelf g a L ln tp rd cnt era nws)] dX8_rule_36 (Nat.le_of_ble_eq_true rfl) (Nat.le_of_ble_eq_true rfl) rfl ?_
          exact ⟨rfl, by rw [if_neg (by omega)]⟩
      · skip
        refine r_aload_n 15 hE 0 dX8_rule_14 rfl rfl rfl ?_
        refine r_iconst 16 hE dX8_rule_15 rfl ?_
        refine r_callV 19 hE [0] [1] [(wMain g x tpa (a 0) da pa qa rua wa sa bka taped told)] [(wShelf g a L ln tp rd cnt era nws)] 0 8 ok8 [] (c_X8_refuse) dX8_rule_16 rfl rfl wd_347 wd_349 ws_1 wd_1 wd_350 ne_X8 np_X8_refuse (Nat.le_of_ble_eq_true rfl)  (by decide) (by decide) rfl (Nat.le_of_ble_eq_true rfl) rfl rfl rfl rfl (by decide) rfl (fun v1 f1 hp => ?_)
        obtain ⟨rfl, rfl⟩ := hp
        show G g E _ _ _ [(wMain g x tpa (a 0) da pa qa rua wa sa bka taped 1), (wShelf g a L ln tp rd cnt era nws)] 19 [(0, .ref x), (1, .int (iI t)), (2, .int (iI k_)), (3, .int (iI v))] [.int (iI (-1))]
        refine r_ireturn hE hR [(wMain g x tpa (a 0) da pa qa rua wa sa bka taped 1), (wShelf g a L ln tp rd cnt era nws)] dX8_rule_19 (Nat.le_of_ble_eq_true rfl) (Nat.le_of_ble_eq_true rfl) rfl ?_
        exact ⟨rfl, by rw [if_pos (by omega)]⟩
