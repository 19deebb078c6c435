set_option maxHeartbeats 4000000 in
set_option maxRecDepth 100000 in
theorem c_X8_feedFour {g : Gm} {x tpa na da pa qa rua wa sa bka : Nat} {taped told : Int} {tf : Int → Int} {v : Int} (htd : 0 ≤ taped ∧ taped ≤ 896) (hTB : BR tf) : Ct g 0 0 0 yX8_feedFour cX8_feedFour 3 none [.ref x, .int (iI v)] [(wMain g x tpa na da pa qa rua wa sa bka taped told), (wBytes g tpa 900 tf)] (fun v_ w_ => ∃ tf9 : Int → Int, v_ = none ∧ w_ = [(wMain g x tpa na da pa qa rua wa sa bka (taped + 4) told), (wBytes g tpa 900 tf9)] ∧ (FourIs tf taped v tf9 4)) := by
  refine Ct.of (by decide) (Nat.le_of_ble_eq_true rfl) (lv := [(0, .ref x), (1, .int (iI v))]) rfl ?_
  intro E hE hR hnm
  have cut3 : ∀ (N : Nat) (j : Int) (tf9 : Int → Int), (0 ≤ j ∧ j ≤ 4) → (FourIs tf taped v tf9 j) → (4 - j).toNat < N → G g E 3 0 0 [(wMain g x tpa na da pa qa rua wa sa bka (taped + j) told), (wBytes g tpa 900 tf9)] 3 [(0, .ref x), (1, .int (iI v)), (2, .int (iI (24 - 8 * j)))] [] := by
    intro N
    induction N with
    | zero => intro j tf9 _ _ hN; exact absurd hN (Nat.not_lt_zero _)
    | succ N ih3 =>
      intro j tf9 hj hv hN
      refine r_iload_n 4 hE 2 dX8_feedFour_3 rfl rfl rfl ?_
      refine r_if_lt 7 46 hE dX8_feedFour_4 rfl (by decide) (by omega) (fun c4 => ?_) (fun c4 => ?_)
      · skip
        refine r_return hE hR [(wMain g x tpa na da pa qa rua wa sa bka (taped + j) told), (wBytes g tpa 900 tf9)] dX8_feedFour_46 (Nat.le_of_ble_eq_true rfl) (Nat.le_of_ble_eq_true rfl) rfl ?_
        have e : j = 4 := by omega
        subst e
        exact ⟨tf9, rfl, rfl, hv⟩
      · skip
        refine r_aload_n 8 hE 0 dX8_feedFour_7 rfl rfl rfl ?_
        refine r_get 11 hE 0 0 ok8 2 dX8_feedFour_8 rfl wd_299 rfl rfl (by decide) rfl ?_
        refine r_sipush 14 hE dX8_feedFour_11 rfl (by decide) ?_
        refine r_icmp_ge 17 46 hE dX8_feedFour_14 rfl (by decide) (by omega) (fun c14 => ?_) (fun c14 => ?_)
        · skip
          omega
        · skip
          refine r_aload_n 18 hE 0 dX8_feedFour_17 rfl rfl rfl ?_
          refine r_get 21 hE 0 0 ok8 1 dX8_feedFour_18 rfl wd_298 rfl rfl (by decide) rfl ?_
          refine r_aload_n 22 hE 0 dX8_feedFour_21 rfl rfl rfl ?_
          refine r_get 25 hE 0 0 ok8 2 dX8_feedFour_22 rfl wd_299 rfl rfl (by decide) rfl ?_
          refine r_iload_n 26 hE 1 dX8_feedFour_25 rfl rfl rfl ?_
          refine r_iload_n 27 hE 2 dX8_feedFour_26 rfl rfl rfl ?_
          refine r_iushr 28 hE dX8_feedFour_27 rfl ?_
          refine r_i2b 29 hE dX8_feedFour_28 rfl ?_
          refine r_bast 30 hE 1 0 (wBytes g tpa 900 (up tf9 (taped + j) (byI (ushrI v (24 - 8 * j))))) [(wMain g x tpa na da pa qa rua wa sa bka (taped + j) told), (wBytes g tpa 900 (up tf9 (taped + j) (byI (ushrI v (24 - 8 * j)))))] dX8_feedFour_29 rfl rfl rfl (by omega) (byI_rg _) rfl rfl ?_
          refine r_aload_n 31 hE 0 dX8_feedFour_30 rfl rfl rfl ?_
          refine r_dup 32 hE dX8_feedFour_31 rfl rfl ?_
          refine r_get 35 hE 0 0 ok8 2 dX8_feedFour_32 rfl wd_299 rfl rfl (by decide) rfl ?_
          refine r_iconst 36 hE dX8_feedFour_35 rfl ?_
          refine r_iadd 37 hE ((taped + j) + 1) dX8_feedFour_36 rfl rfl ?_
          refine r_put 40 hE 0 0 ok8 2 (wMain g x tpa na da pa qa rua wa sa bka ((taped + j) + 1) told) [(wMain g x tpa na da pa qa rua wa sa bka ((taped + j) + 1) told), (wBytes g tpa 900 (up tf9 (taped + j) (byI (ushrI v (24 - 8 * j)))))] dX8_feedFour_37 rfl wd_299 rfl rfl (by decide) rfl rfl rfl (Nat.le_of_ble_eq_true rfl) rfl rfl ?_
          refine r_iinc 43 hE 2 ((24 - 8 * j) + (-8)) [(2, .int (iI ((24 - 8 * j) + (-8)))), (0, .ref x), (1, .int (iI v))] dX8_feedFour_40 rfl rfl rfl (by decide) rfl ?_
          refine r_goto 3 hE dX8_feedFour_43 (by decide) ?_
          refine G.to (fs' := [(wMain g x tpa na da pa qa rua wa sa bka ((taped + j) + 1) told), (wBytes g tpa 900 (up tf9 (taped + j) (byI (ushrI v (24 - 8 * j)))))]) (lv' := [(0, .ref x), (1, .int (iI v)), (2, .int (iI ((24 - 8 * j) + (-8))))]) [0, 1] [1, 2, 0] rfl rfl rfl ?_
          refine G.cast (fs' := [(wMain g x tpa na da pa qa rua wa sa bka ((taped + j) + 1) told), (wBytes g tpa 900 (up tf9 (taped + j) (byI (ushrI v (24 - 8 * j)))))]) (lv' := [(0, .ref x), (1, .int (iI v)), (2, .int (iI (24 - 8 * (j + 1))))]) rfl (congrArg (fun z9 : Int => ([(0, .ref x), (1, .int (iI v)), (2, .int (iI z9))] : List (Nat × Value))) (show ((24 - 8 * j) + (-8) : Int) = 24 - 8 * (j + 1) from by omega)) ?_
          refine G.cast (fs' := [(wMain g x tpa na da pa qa rua wa sa bka (taped + (j + 1)) told), (wBytes g tpa 900 (up tf9 (taped + j) (byI (ushrI v (24 - 8 * j)))))]) (lv' := [(0, .ref x), (1, .int (iI v)), (2, .int (iI (24 - 8 * (j + 1))))]) (by first | rw [show taped + j + 1 = taped + (j + 1) by omega] | rw [Int.add_zero]) rfl ?_
          exact ih3 (j + 1) (up tf9 (taped + j) (byI (ushrI v (24 - 8 * j)))) (by omega) (by first | exact hv.step htd.1 hj.1 | exact FourIs.start hTB) (by omega)
  refine r_bipush 2 hE dX8_feedFour_0 rfl (by decide) ?_
  refine r_istore_n 3 hE [(2, .int (iI 24)), (0, .ref x), (1, .int (iI v))] dX8_feedFour_2 rfl rfl (by decide) rfl ?_
  refine G.to (fs' := [(wMain g x tpa na da pa qa rua wa sa bka taped told), (wBytes g tpa 900 tf)]) (lv' := [(0, .ref x), (1, .int (iI v)), (2, .int (iI 24))]) [0, 1] [1, 2, 0] rfl rfl rfl ?_
  refine G.cast (fs' := [(wMain g x tpa na da pa qa rua wa sa bka taped told), (wBytes g tpa 900 tf)]) (lv' := [(0, .ref x), (1, .int (iI v)), (2, .int (iI (24 - 8 * 0)))]) rfl (congrArg (fun z9 : Int => ([(0, .ref x), (1, .int (iI v)), (2, .int (iI z9))] : List (Nat × Value))) (show (24 : Int) = 24 - 8 * 0 from by omega)) ?_
  refine G.cast (fs' := [(wMain g x tpa na da pa qa rua wa sa bka (taped + 0) told), (wBytes g tpa 900 tf)]) (lv' := [(0, .ref x), (1, .int (iI v)), (2, .int (iI (24 - 8 * 0)))]) (by first | rw [show taped + j + 1 = taped + (j + 1) by omega] | rw [Int.add_zero]) rfl ?_
  exact cut3 _ 0 tf (by omega) (by first | exact hv.step htd.1 hj.1 | exact FourIs.start hTB) (Nat.lt_succ_self _)
set_option maxHeartbeats 4000000 in
set_option maxRecDepth 100000 in
theorem c_X8_feed {g : Gm} {x tpa na da pa qa rua wa sa bka : Nat} {taped told : Int} {tf : Int → Int} {v1 v2 v3 v4 v5 : Int} (htd : 0 ≤ taped ∧ taped ≤ 880) (hTB : BR tf) : Ct g 1 0 0 yX8_feed cX8_feed 6 (some .int) [.ref x, .int (iI v1), .int (iI v2), .int (iI v3), .int (iI v4), .int (iI v5)] [(wMain g x tpa na da pa qa rua wa sa bka taped told), (wBytes g tpa 900 tf)] (fun v_ w_ => ∃ tf9 : Int → Int, v_ = some (.int (iI (taped + 20))) ∧ w_ = [(wMain g x tpa na da pa qa rua wa sa bka (taped + 20) told), (wBytes g tpa 900 tf9)] ∧ (∃ f1 f2 f3 f4, FourIs tf taped v1 f1 4 ∧ FourIs f1 (taped + 4) v2 f2 4 ∧ FourIs f2 (taped + 8) v3 f3 4 ∧ FourIs f3 (taped + 12) v4 f4 4 ∧ FourIs f4 (taped + 16) v5 tf9 4)) := by
  refine Ct.of (by decide) (Nat.le_of_ble_eq_true rfl) (lv := [(0, .ref x), (1, .int (iI v1)), (2, .int (iI v2)), (3, .int (iI v3)), (4, .int (iI v4)), (5, .int (iI v5))]) rfl ?_
  intro E hE hR hnm
  refine r_aload_n 1 hE 0 dX8_feed_0 rfl rfl rfl ?_
  refine r_get 4 hE 0 0 ok8 2 dX8_feed_1 rfl wd_299 rfl rfl (by decide) rfl ?_
  refine r_sipush 7 hE dX8_feed_4 rfl (by decide) ?_
  refine r_icmp_le 10 12 hE dX8_feed_7 rfl (by decide) (by omega) (fun c7 => ?_) (fun c7 => ?_)
  · skip
    refine r_aload_n 13 hE 0 dX8_feed_12 rfl rfl rfl ?_
    refine r_iload_n 14 hE 1 dX8_feed_13 rfl rfl rfl ?_
    refine r_callV 17 hE [0, 1] [] [(wMain g x tpa na da pa qa rua wa sa bka taped told), (wBytes g tpa 900 tf)] [] 0 8 ok8 [] (c_X8_feedFour (by omega) (hTB)) dX8_feed_14 rfl rfl wd_339 wd_341 ws_0 wd_1 wd_342 ne_X8 np_X8_feedFour (Nat.le_of_ble_eq_true rfl)  (by decide) (by decide) rfl (Nat.le_of_ble_eq_true rfl) rfl rfl rfl rfl (by decide) rfl (fun v1 f1 hp => ?_)
    obtain ⟨tf9_14, rfl, rfl, h14_0⟩ := hp
    show G g E _ _ _ [(wMain g x tpa na da pa qa rua wa sa bka (taped + 4) told), (wBytes g tpa 900 tf9_14)] 17 [(0, .ref x), (1, .int (iI v1)), (2, .int (iI v2)), (3, .int (iI v3)), (4, .int (iI v4)), (5, .int (iI v5))] []
    refine r_aload_n 18 hE 0 dX8_feed_17 rfl rfl rfl ?_
    refine r_iload_n 19 hE 2 dX8_feed_18 rfl rfl rfl ?_
    refine r_callV 22 hE [0, 1] [] [(wMain g x tpa na da pa qa rua wa sa bka (taped + 4) told), (wBytes g tpa 900 tf9_14)] [] 0 8 ok8 [] (c_X8_feedFour (by omega) (h14_0.2.2)) dX8_feed_19 rfl rfl wd_339 wd_341 ws_0 wd_1 wd_342 ne_X8 np_X8_feedFour (Nat.le_of_ble_eq_true rfl)  (by decide) (by decide) rfl (Nat.le_of_ble_eq_true rfl) rfl rfl rfl rfl (by decide) rfl (fun v1 f1 hp => ?_)
    obtain ⟨tf9_19, rfl, rfl, h19_0⟩ := hp
    show G g E _ _ _ [(wMain g x tpa na da pa qa rua wa sa bka ((taped + 4) + 4) told), (wBytes g tpa 900 tf9_19)] 22 [(0, .ref x), (1, .int (iI v1)), (2, .int (iI v2)), (3, .int (iI v3)), (4, .int (iI v4)), (5, .int (iI v5))] []
    refine r_aload_n 23 hE 0 dX8_feed_22 rfl rfl rfl ?_
    refine r_iload_n 24 hE 3 dX8_feed_23 rfl rfl rfl ?_
    refine r_callV 27 hE [0, 1] [] [(wMain g x tpa na da pa qa rua wa sa bka ((taped + 4) + 4) told), (wBytes g tpa 900 tf9_19)] [] 0 8 ok8 [] (c_X8_feedFour (by omega) (h19_0.2.2)) dX8_feed_24 rfl rfl wd_339 wd_341 ws_0 wd_1 wd_342 ne_X8 np_X8_feedFour (Nat.le_of_ble_eq_true rfl)  (by decide) (by decide) rfl (Nat.le_of_ble_eq_true rfl) rfl rfl rfl rfl (by decide) rfl (fun v1 f1 hp => ?_)
    obtain ⟨tf9_24, rfl, rfl, h24_0⟩ := hp
    show G g E _ _ _ [(wMain g x tpa na da pa qa rua wa sa bka (((taped + 4) + 4) + 4) told), (wBytes g tpa 900 tf9_24)] 27 [(0, .ref x), (1, .int (iI v1)), (2, .int (iI v2)), (3, .int (iI v3)), (4, .int (iI v4)), (5, .int (iI v5))] []
    refine r_aload_n 28 hE 0 dX8_feed_27 rfl rfl rfl ?_
    refine r_iload 30 hE 4 dX8_feed_28 rfl rfl ?_
    refine r_callV 33 hE [0, 1] [] [(wMain g x tpa na da pa qa rua wa sa bka (((taped + 4) + 4) + 4) told), (wBytes g tpa 900 tf9_24)] [] 0 8 ok8 [] (c_X8_feedFour (by omega) (h24_0.2.2)) dX8_feed_30 rfl rfl wd_339 wd_341 ws_0 wd_1 wd_342 ne_X8 np_X8_feedFour (Nat.le_of_ble_eq_true rfl)  (by decide) (by decide) rfl (Nat.le_of_ble_eq_true rfl) rfl rfl rfl rfl (by decide) rfl (fun v1 f1 hp => ?_)
    obtain ⟨tf9_30, rfl, rfl, h30_0⟩ := hp
    show G g E _ _ _ [(wMain g x tpa na da pa qa rua wa sa bka ((((taped + 4) + 4) + 4) + 4) told), (wBytes g tpa 900 tf9_30)] 33 [(0, .ref x), (1, .int (iI v1)), (2, .int (iI v2)), (3, .int (iI v3)), (4, .int (iI v4)), (5, .int (iI v5))] []
    refine r_aload_n 34 hE 0 dX8_feed_33 rfl rfl rfl ?_
    refine r_iload 36 hE 5 dX8_feed_34 rfl rfl ?_
    refine r_callV 39 hE [0, 1] [] [(wMain g x tpa na da pa qa rua wa sa bka ((((taped + 4) + 4) + 4) + 4) told), (wBytes g tpa 900 tf9_30)] [] 0 8 ok8 [] (c_X8_feedFour (by omega) (h30_0.2.2)) dX8_feed_36 rfl rfl wd_339 wd_341 ws_0 wd_1 wd_342 ne_X8 np_X8_feedFour (Nat.le_of_ble_eq_true rfl)  (by decide) (by decide) rfl (Nat.le_of_ble_eq_true rfl) rfl rfl rfl rfl (by decide) rfl (fun v1 f1 hp => ?_)
    obtain ⟨tf9_36, rfl, rfl, h36_0⟩ := hp
    show G g E _ _ _ [(wMain g x tpa na da pa qa rua wa sa bka (((((taped + 4) + 4) + 4) + 4) + 4) told), (wBytes g tpa 900 tf9_36)] 39 [(0, .ref x), (1, .int (iI v1)), (2, .int (iI v2)), (3, .int (iI v3)), (4, .int (iI v4)), (5, .int (iI v5))] []
    refine r_aload_n 40 hE 0 dX8_feed_39 rfl rfl rfl ?_
    refine r_get 43 hE 0 0 ok8 2 dX8_feed_40 rfl wd_299 rfl rfl (by decide) rfl ?_
    refine r_ireturn hE hR [(wMain g x tpa na da pa qa rua wa sa bka (((((taped + 4) + 4) + 4) + 4) + 4) told), (wBytes g tpa 900 tf9_36)] dX8_feed_43 (Nat.le_of_ble_eq_true rfl) (Nat.le_of_ble_eq_true rfl) rfl ?_
    refine ⟨_, retI (by omega), by rw [show taped + 4 + 4 + 4 + 4 + 4 = taped + 20 by omega], tf9_14, tf9_19, tf9_24, tf9_30, h14_0, h19_0, ?_, ?_, ?_⟩
    · rw [show taped + 8 = taped + 4 + 4 by omega]; exact h24_0
    · rw [show taped + 12 = taped + 4 + 4 + 4 by omega]; exact h30_0
    · rw [show taped + 16 = taped + 4 + 4 + 4 + 4 by omega]; exact h36_0
  · skip
    omega
set_option maxHeartbeats 4000000 in
set_option maxRecDepth 100000 in
theorem c_X8_feed_no {g : Gm} {x tpa na da pa qa rua wa sa bka : Nat} {taped told : Int} {v1 v2 v3 v4 v5 : Int} (htd : 880 < taped ∧ taped ≤ 900) : Ct g 1 0 0 yX8_feed cX8_feed 6 (some .int) [.ref x, .int (iI v1), .int (iI v2), .int (iI v3), .int (iI v4), .int (iI v5)] [(wMain g x tpa na da pa qa rua wa sa bka taped told)] (fun v_ w_ => v_ = some (.int (iI (-1))) ∧ w_ = [(wMain g x tpa na da pa qa rua wa sa bka taped told)]) := by
  refine Ct.of (by decide) (Nat.le_of_ble_eq_true rfl) (lv := [(0, .ref x), (1, .int (iI v1)), (2, .int (iI v2)), (3, .int (iI v3)), (4, .int (iI v4)), (5, .int (iI v5))]) rfl ?_
  intro E hE hR hnm
  refine r_aload_n 1 hE 0 dX8_feed_0 rfl rfl rfl ?_
  refine r_get 4 hE 0 0 ok8 2 dX8_feed_1 rfl wd_299 rfl rfl (by decide) rfl ?_
  refine r_sipush 7 hE dX8_feed_4 rfl (by decide) ?_
  refine r_icmp_le 10 12 hE dX8_feed_7 rfl (by decide) (by omega) (fun c7 => ?_) (fun c7 => ?_)
  · skip
    omega
  · skip
    refine r_iconst 11 hE dX8_feed_10 rfl ?_
    refine r_ireturn hE hR [(wMain g x tpa na da pa qa rua wa sa bka taped told)] dX8_feed_11 (Nat.le_of_ble_eq_true rfl) (Nat.le_of_ble_eq_true rfl) rfl ?_
    exact ⟨retI (rfl), rfl⟩
set_option maxHeartbeats 4000000 in
set_option maxRecDepth 100000 in
theorem c_X8_beginAct {g : Gm} {a : Nat → Nat} {L ln tp rd : Int → Int} {cnt era nws : Int} {ru : Nat → Nat} {kd fi se sg le de nx he ro : Int → Int} {rc re rr : Int} {R : Int → Rl} {w : Nat → Nat} {sp nb mt pl op no : Int → Int} {od stm wc : Int} {p : Nat → Nat} {n : Nat} {sh : Nat → Option Nat} {old cn : Int} {ad : Nat → Nat → Nat} {ss : Nat → ShS} {x tpa da qa rua sa bka : Nat} {taped told : Int} (hT : RT kd fi se sg le de nx he rc R) (hsh : ShOk L ln cnt) (hto : TopsOk R rc L ln tp rd cnt) (hWI : 0 ≤ stm ∧ ∀ i, 0 ≤ i → i < 10240 → 0 ≤ sp i ∧ sp i ≤ stm) (hs2 : stm ≤ 1800000000) (hpn : 1 ≤ (n : Int) ∧ (n : Int) ≤ 8) (hpo : 0 ≤ old ∧ old < (n : Int) ∧ 0 ≤ cn ∧ cn ≤ (n : Int)) (hsa : ∀ i, i < n → sh i = some ((ad i) 0)) (hBs : ∀ i, i < n → BR (ss i).L) : Ct g 4 0 0 yX8_beginAct cX8_beginAct 1 none [.ref x] [(wMain g x tpa (a 0) da (p 0) qa rua (w 0) sa bka taped told), (wShelf g a L ln tp rd cnt era nws), (wWalk g w (ru 0) sp nb mt pl op no od stm wc), (wRules g ru kd fi se sg le de nx he ro rc re rr), (wPileH g p n sh old cn), (wPool g ad ss n)] (fun v_ w_ => ∃ sp9 : Int → Int, ∃ nb9 : Int → Int, ∃ mt9 : Int → Int, ∃ pl9 : Int → Int, ∃ op9 : Int → Int, ∃ no9 : Int → Int, ∃ od9 : Int, ∃ wc9 : Int, ∃ V9 : List (Rl × Int), ∃ old9 : Int, ∃ cn9 : Int, ∃ i9 : Nat, ∃ L9 : Int → Int, ∃ ln9 : Int → Int, ∃ tp9 : Int → Int, ∃ rd9 : Int → Int, v_ = none ∧ w_ = [(wMain g x tpa (a 0) da (p 0) qa rua (w 0) sa bka taped told), (wShelf g a L ln tp rd cnt era nws), (wWalk g w (ru 0) sp9 nb9 mt9 pl9 op9 no9 od9 (stm + 1) wc9), (wRules g ru kd fi se sg le de nx he ro rc re rr), (wPileH g p n sh old9 cn9), (wPool g ad (upS ss i9 (shs L9 ln9 tp9 rd9 cnt era (ss i9).nws)) n)] ∧ (WV R rc V9 sp9 nb9 mt9 pl9 (stm + 1) wc9) ∧ (V9 = visT (fun t => R (tp t)) cnt.toNat []) ∧ (PushIs n old cn old9 cn9 i9) ∧ (CopyTo cnt L ln tp rd L9 ln9 tp9 rd9) ∧ (BR L9)) := by
  refine Ct.of (by decide) (Nat.le_of_ble_eq_true rfl) (lv := [(0, .ref x)]) rfl ?_
  intro E hE hR hnm
  have hcn := hT.1
  have hW0 : WV R rc [] sp nb mt pl (stm + 1) 0 := WV.new (by omega) hWI
  have hc := hsh.1
  refine r_aload_n 1 hE 0 dX8_beginAct_0 rfl rfl rfl ?_
  refine r_get 4 hE 0 0 ok8 8 dX8_beginAct_1 rfl wd_305 rfl rfl (by decide) rfl ?_
  refine r_callV 7 hE [2] [0, 1, 3, 4, 5] [(wWalk g w (ru 0) sp nb mt pl op no od stm wc)] [(wMain g x tpa (a 0) da (p 0) qa rua (w 0) sa bka taped told), (wShelf g a L ln tp rd cnt era nws), (wRules g ru kd fi se sg le de nx he ro rc re rr), (wPileH g p n sh old cn), (wPool g ad ss n)] 0 7 ok7 [] (c_X7_begin) dX8_beginAct_4 rfl rfl wd_672 wd_673 wd_674 wd_8 wd_675 ne_X7 np_X7_begin (Nat.le_of_ble_eq_true rfl)  (by decide) (by decide) rfl (Nat.le_of_ble_eq_true rfl) rfl rfl rfl rfl (by decide) rfl (fun v1 f1 hp => ?_)
  obtain ⟨rfl, rfl⟩ := hp
  show G g E _ _ _ [(wWalk g w (ru 0) sp nb mt pl op no od (stm + 1) 0), (wMain g x tpa (a 0) da (p 0) qa rua (w 0) sa bka taped told), (wShelf g a L ln tp rd cnt era nws), (wRules g ru kd fi se sg le de nx he ro rc re rr), (wPileH g p n sh old cn), (wPool g ad ss n)] 7 [(0, .ref x)] []
  refine r_aload_n 8 hE 0 dX8_beginAct_7 rfl rfl rfl ?_
  refine r_callV 11 hE [1, 2, 0, 3] [4, 5] [(wMain g x tpa (a 0) da (p 0) qa rua (w 0) sa bka taped told), (wShelf g a L ln tp rd cnt era nws), (wWalk g w (ru 0) sp nb mt pl op no od (stm + 1) 0), (wRules g ru kd fi se sg le de nx he ro rc re rr)] [(wPileH g p n sh old cn), (wPool g ad ss n)] 0 8 ok8 [] (c_X8_visitAll (hT) (hW0) (hc) (hto) (by omega)) dX8_beginAct_8 rfl rfl wd_676 wd_678 ws_29 wd_1 wd_679 ne_X8 np_X8_visitAll (Nat.le_of_ble_eq_true rfl)  (by decide) (by decide) rfl (Nat.le_of_ble_eq_true rfl) rfl rfl rfl rfl (by decide) rfl (fun v1 f1 hp => ?_)
  obtain ⟨sp9_8, nb9_8, mt9_8, pl9_8, op9_8, no9_8, od9_8, wc9_8, V9_8, rfl, rfl, h8_0, h8_1⟩ := hp
  show G g E _ _ _ [(wMain g x tpa (a 0) da (p 0) qa rua (w 0) sa bka taped told), (wShelf g a L ln tp rd cnt era nws), (wWalk g w (ru 0) sp9_8 nb9_8 mt9_8 pl9_8 op9_8 no9_8 od9_8 (stm + 1) wc9_8), (wRules g ru kd fi se sg le de nx he ro rc re rr), (wPileH g p n sh old cn), (wPool g ad ss n)] 11 [(0, .ref x)] [.int (iI (wc9_8 - 0))]
  refine r_pop 12 hE dX8_beginAct_11 rfl rfl ?_
  refine r_aload_n 13 hE 0 dX8_beginAct_12 rfl rfl rfl ?_
  refine r_get 16 hE 0 0 ok8 6 dX8_beginAct_13 rfl wd_303 rfl rfl (by decide) rfl ?_
  refine r_aload_n 17 hE 0 dX8_beginAct_16 rfl rfl rfl ?_
  refine r_get 20 hE 0 0 ok8 4 dX8_beginAct_17 rfl wd_301 rfl rfl (by decide) rfl ?_
  refine r_callV 23 hE [4, 5, 1] [0, 2, 3] [(wPileH g p n sh old cn), (wPool g ad ss n), (wShelf g a L ln tp rd cnt era nws)] [(wMain g x tpa (a 0) da (p 0) qa rua (w 0) sa bka taped told), (wWalk g w (ru 0) sp9_8 nb9_8 mt9_8 pl9_8 op9_8 no9_8 od9_8 (stm + 1) wc9_8), (wRules g ru kd fi se sg le de nx he ro rc re rr)] 0 1 ok1 [] (c_X1_push (by omega) (by omega) (hsa) (hBs) (by omega) (hsh.ln) (hsh.2.1)) dX8_beginAct_20 rfl rfl wd_713 wd_714 wd_715 wd_7 wd_716 ne_X1 np_X1_push (Nat.le_of_ble_eq_true rfl)  (by decide) (by decide) rfl (Nat.le_of_ble_eq_true rfl) rfl rfl rfl rfl (by decide) rfl (fun v1 f1 hp => ?_)
  obtain ⟨old9_20, cn9_20, i9_20, L9_20, ln9_20, tp9_20, rd9_20, rfl, rfl, h20_0, h20_1, h20_2, h20_3, h20_4⟩ := hp
  show G g E _ _ _ [(wPileH g p n sh old9_20 cn9_20), (wPool g ad (upS ss i9_20 (shs L9_20 ln9_20 tp9_20 rd9_20 cnt era (ss i9_20).nws)) n), (wShelf g a L ln tp rd cnt era nws), (wMain g x tpa (a 0) da (p 0) qa rua (w 0) sa bka taped told), (wWalk g w (ru 0) sp9_8 nb9_8 mt9_8 pl9_8 op9_8 no9_8 od9_8 (stm + 1) wc9_8), (wRules g ru kd fi se sg le de nx he ro rc re rr)] 23 [(0, .ref x)] []
  refine G.to (fs' := [(wMain g x tpa (a 0) da (p 0) qa rua (w 0) sa bka taped told), (wShelf g a L ln tp rd cnt era nws), (wWalk g w (ru 0) sp9_8 nb9_8 mt9_8 pl9_8 op9_8 no9_8 od9_8 (stm + 1) wc9_8), (wRules g ru kd fi se sg le de nx he ro rc re rr), (wPileH g p n sh old9_20 cn9_20), (wPool g ad (upS ss i9_20 (shs L9_20 ln9_20 tp9_20 rd9_20 cnt era (ss i9_20).nws)) n)]) [3, 2, 4, 5, 0, 1] [0] rfl rfl rfl ?_
  refine r_return hE hR [(wMain g x tpa (a 0) da (p 0) qa rua (w 0) sa bka taped told), (wShelf g a L ln tp rd cnt era nws), (wWalk g w (ru 0) sp9_8 nb9_8 mt9_8 pl9_8 op9_8 no9_8 od9_8 (stm + 1) wc9_8), (wRules g ru kd fi se sg le de nx he ro rc re rr), (wPileH g p n sh old9_20 cn9_20), (wPool g ad (upS ss i9_20 (shs L9_20 ln9_20 tp9_20 rd9_20 cnt era (ss i9_20).nws)) n)] dX8_beginAct_23 (Nat.le_of_ble_eq_true rfl) (Nat.le_of_ble_eq_true rfl) rfl ?_
  exact ⟨_, _, _, _, _, _, _, _, _, _, _, _, _, _, _, _, rfl, rfl, h8_0, h8_1, ⟨h20_0, h20_1, h20_2⟩, h20_3, h20_4⟩
