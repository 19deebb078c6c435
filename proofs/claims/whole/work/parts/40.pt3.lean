set_option maxHeartbeats 4000000 in
set_option maxRecDepth 100000 in
theorem c_X8_visitAll {g : Gm} {a : Nat → Nat} {L ln tp rd : Int → Int} {cnt era nws : Int} {ru : Nat → Nat} {kd fi se sg le de nx he ro : Int → Int} {rc re rr : Int} {R : Int → Rl} {w : Nat → Nat} {sp nb mt pl op no : Int → Int} {od stm wc : Int} {x tpa da pa qa rua sa bka : Nat} {taped told : Int} {V : List (Rl × Int)} (hT : RT kd fi se sg le de nx he rc R) (hW : WV R rc V sp nb mt pl stm wc) (hc : 0 ≤ cnt ∧ cnt ≤ 8) (hto : TopsOk R rc L ln tp rd cnt) (hst : 0 ≤ stm ∧ stm ≤ 1900000000) : Ct g 3 0 0 yX8_visitAll cX8_visitAll 3 (some .int) [.ref x] [(wMain g x tpa (a 0) da pa qa rua (w 0) sa bka taped told), (wShelf g a L ln tp rd cnt era nws), (wWalk g w (ru 0) sp nb mt pl op no od stm wc), (wRules g ru kd fi se sg le de nx he ro rc re rr)] (fun v_ w_ => ∃ sp9 : Int → Int, ∃ nb9 : Int → Int, ∃ mt9 : Int → Int, ∃ pl9 : Int → Int, ∃ op9 : Int → Int, ∃ no9 : Int → Int, ∃ od9 : Int, ∃ wc9 : Int, ∃ V9 : List (Rl × Int), v_ = some (.int (iI (wc9 - wc))) ∧ w_ = [(wMain g x tpa (a 0) da pa qa rua (w 0) sa bka taped told), (wShelf g a L ln tp rd cnt era nws), (wWalk g w (ru 0) sp9 nb9 mt9 pl9 op9 no9 od9 stm wc9), (wRules g ru kd fi se sg le de nx he ro rc re rr)] ∧ (WV R rc V9 sp9 nb9 mt9 pl9 stm wc9) ∧ (V9 = visT (fun t => R (tp t)) cnt.toNat V)) := by
  refine Ct.of (by decide) (Nat.le_of_ble_eq_true rfl) (lv := [(0, .ref x)]) rfl ?_
  intro E hE hR hnm
  have hcn := hT.1
  have hw0 := hW.le
  have hw1 := hW.1
  have cut4 : ∀ (N : Nat) (sp9 : Int → Int) (nb9 : Int → Int) (mt9 : Int → Int) (pl9 : Int → Int) (op9 : Int → Int) (no9 : Int → Int) (od9 : Int) (wc9 : Int) (V9 : List (Rl × Int)) (i : Int) (mm : Int), (WV R rc V9 sp9 nb9 mt9 pl9 stm wc9) → (V9 = visT (fun t => R (tp t)) i.toNat V) → (0 ≤ i ∧ i ≤ cnt) → (mm = wc9 - wc) → (cnt - i).toNat < N → G g E 3 0 0 [(wMain g x tpa (a 0) da pa qa rua (w 0) sa bka taped told), (wShelf g a L ln tp rd cnt era nws), (wWalk g w (ru 0) sp9 nb9 mt9 pl9 op9 no9 od9 stm wc9), (wRules g ru kd fi se sg le de nx he ro rc re rr)] 4 [(0, .ref x), (1, .int (iI mm)), (2, .int (iI i))] [] := by
    intro N
    induction N with
    | zero => intro sp9 nb9 mt9 pl9 op9 no9 od9 wc9 V9 i mm _ _ _ _ hN; exact absurd hN (Nat.not_lt_zero _)
    | succ N ih4 =>
      intro sp9 nb9 mt9 pl9 op9 no9 od9 wc9 V9 i mm hW9 hV hi hmm hN
      have hwl := hW9.le
      have hw9 := hW9.1
      refine r_iload_n 5 hE 2 dX8_visitAll_4 rfl rfl rfl ?_
      refine r_aload_n 6 hE 0 dX8_visitAll_5 rfl rfl rfl ?_
      refine r_get 9 hE 0 0 ok8 4 dX8_visitAll_6 rfl wd_301 rfl rfl (by decide) rfl ?_
      refine r_get 12 hE 1 0 ok5 4 dX8_visitAll_9 rfl wd_84 rfl rfl (by decide) rfl ?_
      refine r_icmp_ge 15 39 hE dX8_visitAll_12 rfl (by decide) (by omega) (fun c12 => ?_) (fun c12 => ?_)
      · skip
        refine r_iload_n 40 hE 1 dX8_visitAll_39 rfl rfl rfl ?_
        refine r_ireturn hE hR [(wMain g x tpa (a 0) da pa qa rua (w 0) sa bka taped told), (wShelf g a L ln tp rd cnt era nws), (wWalk g w (ru 0) sp9 nb9 mt9 pl9 op9 no9 od9 stm wc9), (wRules g ru kd fi se sg le de nx he ro rc re rr)] dX8_visitAll_40 (Nat.le_of_ble_eq_true rfl) (Nat.le_of_ble_eq_true rfl) rfl ?_
        subst hmm
        exact ⟨_, _, _, _, _, _, _, _, _, rfl, rfl, hW9, by rw [hV, show i = cnt by omega]⟩
      · skip
        refine r_iload_n 16 hE 1 dX8_visitAll_15 rfl rfl rfl ?_
        refine r_aload_n 17 hE 0 dX8_visitAll_16 rfl rfl rfl ?_
        refine r_get 20 hE 0 0 ok8 8 dX8_visitAll_17 rfl wd_305 rfl rfl (by decide) rfl ?_
        refine r_aload_n 21 hE 0 dX8_visitAll_20 rfl rfl rfl ?_
        refine r_get 24 hE 0 0 ok8 4 dX8_visitAll_21 rfl wd_301 rfl rfl (by decide) rfl ?_
        refine r_iload_n 25 hE 2 dX8_visitAll_24 rfl rfl rfl ?_
        refine r_callV 28 hE [1] [0, 2, 3] [(wShelf g a L ln tp rd cnt era nws)] [(wMain g x tpa (a 0) da pa qa rua (w 0) sa bka taped told), (wWalk g w (ru 0) sp9 nb9 mt9 pl9 op9 no9 od9 stm wc9), (wRules g ru kd fi se sg le de nx he ro rc re rr)] 0 5 ok5 [.ref (w 0), .int (iI mm)] (c_X5_topOf (by omega) (by omega)) dX8_visitAll_25 rfl rfl wd_680 wd_681 wd_682 wd_4 wd_683 ne_X5 np_X5_topOf (Nat.le_of_ble_eq_true rfl)  (by decide) (by decide) rfl (Nat.le_of_ble_eq_true rfl) rfl rfl rfl rfl (by decide) rfl (fun v1 f1 hp => ?_)
        obtain ⟨rfl, rfl⟩ := hp
        show G g E _ _ _ [(wShelf g a L ln tp rd cnt era nws), (wMain g x tpa (a 0) da pa qa rua (w 0) sa bka taped told), (wWalk g w (ru 0) sp9 nb9 mt9 pl9 op9 no9 od9 stm wc9), (wRules g ru kd fi se sg le de nx he ro rc re rr)] 28 [(0, .ref x), (1, .int (iI mm)), (2, .int (iI i))] [.int (iI (tp i)), .ref (w 0), .int (iI mm)]
        refine r_callV 31 hE [2, 3] [0, 1] [(wWalk g w (ru 0) sp9 nb9 mt9 pl9 op9 no9 od9 stm wc9), (wRules g ru kd fi se sg le de nx he ro rc re rr)] [(wShelf g a L ln tp rd cnt era nws), (wMain g x tpa (a 0) da pa qa rua (w 0) sa bka taped told)] 0 7 ok7 [.int (iI mm)] (c_X7_visit (hT) (hW9) ((hto i hi.1 c12).1) (by omega) (by omega)) dX8_visitAll_28 rfl rfl wd_684 wd_685 wd_686 wd_8 wd_687 ne_X7 np_X7_visit (Nat.le_of_ble_eq_true rfl)  (by decide) (by decide) rfl (Nat.le_of_ble_eq_true rfl) rfl rfl rfl rfl (by decide) rfl (fun v1 f1 hp => ?_)
        obtain ⟨sp9_28, nb9_28, mt9_28, pl9_28, op9_28, no9_28, od9_28, wc9_28, V9_28, rfl, rfl, h28_0, h28_1⟩ := hp
        show G g E _ _ _ [(wWalk g w (ru 0) sp9_28 nb9_28 mt9_28 pl9_28 op9_28 no9_28 od9_28 stm wc9_28), (wRules g ru kd fi se sg le de nx he ro rc re rr), (wShelf g a L ln tp rd cnt era nws), (wMain g x tpa (a 0) da pa qa rua (w 0) sa bka taped told)] 31 [(0, .ref x), (1, .int (iI mm)), (2, .int (iI i))] [.int (iI (wc9_28 - wc9)), .int (iI mm)]
        refine r_iadd 32 hE (mm + (wc9_28 - wc9)) dX8_visitAll_31 rfl rfl ?_
        refine r_istore_n 33 hE [(1, .int (iI (mm + (wc9_28 - wc9)))), (0, .ref x), (2, .int (iI i))] dX8_visitAll_32 rfl rfl (by decide) rfl ?_
        refine r_iinc 36 hE 2 (i + 1) [(2, .int (iI (i + 1))), (1, .int (iI (mm + (wc9_28 - wc9)))), (0, .ref x)] dX8_visitAll_33 rfl rfl rfl (by decide) rfl ?_
        refine r_goto 4 hE dX8_visitAll_36 (by decide) ?_
        refine G.to (fs' := [(wMain g x tpa (a 0) da pa qa rua (w 0) sa bka taped told), (wShelf g a L ln tp rd cnt era nws), (wWalk g w (ru 0) sp9_28 nb9_28 mt9_28 pl9_28 op9_28 no9_28 od9_28 stm wc9_28), (wRules g ru kd fi se sg le de nx he ro rc re rr)]) (lv' := [(0, .ref x), (1, .int (iI (mm + (wc9_28 - wc9)))), (2, .int (iI (i + 1)))]) [3, 2, 0, 1] [2, 1, 0] rfl rfl rfl ?_
        exact ih4 sp9_28 nb9_28 mt9_28 pl9_28 op9_28 no9_28 od9_28 wc9_28 _ (i + 1) (mm + (wc9_28 - wc9)) (by first | exact h28_0 | exact hW) (by first | (rw [visT_succ _ hi.1, ← hV]; exact h28_1) | rfl) (by omega) (by omega) (by omega)
  refine r_iconst 1 hE dX8_visitAll_0 rfl ?_
  refine r_istore_n 2 hE [(1, .int (iI 0)), (0, .ref x)] dX8_visitAll_1 rfl rfl (by decide) rfl ?_
  refine r_iconst 3 hE dX8_visitAll_2 rfl ?_
  refine r_istore_n 4 hE [(2, .int (iI 0)), (1, .int (iI 0)), (0, .ref x)] dX8_visitAll_3 rfl rfl (by decide) rfl ?_
  refine G.to (fs' := [(wMain g x tpa (a 0) da pa qa rua (w 0) sa bka taped told), (wShelf g a L ln tp rd cnt era nws), (wWalk g w (ru 0) sp nb mt pl op no od stm wc), (wRules g ru kd fi se sg le de nx he ro rc re rr)]) (lv' := [(0, .ref x), (1, .int (iI 0)), (2, .int (iI 0))]) [0, 1, 2, 3] [2, 1, 0] rfl rfl rfl ?_
  exact cut4 _ sp nb mt pl op no od wc _ 0 0 (by first | exact h28_0 | exact hW) (by first | (rw [visT_succ _ hi.1, ← hV]; exact h28_1) | rfl) (by omega) (by omega) (Nat.lt_succ_self _)
set_option maxHeartbeats 4000000 in
set_option maxRecDepth 100000 in
theorem c_X8_number {g : Gm} {a : Nat → Nat} {L ln tp rd : Int → Int} {cnt era nws : Int} {ru : Nat → Nat} {kd fi se sg le de nx he ro : Int → Int} {rc re rr : Int} {R : Int → Rl} {w : Nat → Nat} {sp nb mt pl op no : Int → Int} {od stm wc : Int} {x tpa da pa qa rua sa bka : Nat} {taped told : Int} {t : Int} (hT : RT kd fi se sg le de nx he rc R) (hc : 0 ≤ cnt ∧ cnt ≤ 8) (htt : 0 ≤ t ∧ t < cnt) (hto : 0 ≤ tp t ∧ tp t < rc) (hWI : 0 ≤ stm ∧ ∀ i, 0 ≤ i → i < 10240 → 0 ≤ sp i ∧ sp i ≤ stm) (hs2 : stm ≤ 1800000000) : Ct g 3 0 0 yX8_number cX8_number 2 (some .int) [.ref x, .int (iI t)] [(wMain g x tpa (a 0) da pa qa rua (w 0) sa bka taped told), (wShelf g a L ln tp rd cnt era nws), (wWalk g w (ru 0) sp nb mt pl op no od stm wc), (wRules g ru kd fi se sg le de nx he ro rc re rr)] (fun v_ w_ => ∃ sp9 : Int → Int, ∃ nb9 : Int → Int, ∃ mt9 : Int → Int, ∃ pl9 : Int → Int, ∃ op9 : Int → Int, ∃ no9 : Int → Int, ∃ od9 : Int, ∃ wc9 : Int, ∃ V9 : List (Rl × Int), v_ = some (.int (iI wc9)) ∧ w_ = [(wMain g x tpa (a 0) da pa qa rua (w 0) sa bka taped told), (wShelf g a L ln tp rd cnt era nws), (wWalk g w (ru 0) sp9 nb9 mt9 pl9 op9 no9 od9 (stm + 1) wc9), (wRules g ru kd fi se sg le de nx he ro rc re rr)] ∧ (WV R rc V9 sp9 nb9 mt9 pl9 (stm + 1) wc9) ∧ (V9 = vis (R (tp t)) 0 [])) := by
  refine Ct.of (by decide) (Nat.le_of_ble_eq_true rfl) (lv := [(0, .ref x), (1, .int (iI t))]) rfl ?_
  intro E hE hR hnm
  have hcn := hT.1
  have hW0 : WV R rc [] sp nb mt pl (stm + 1) 0 := WV.new (by omega) hWI
  refine r_aload_n 1 hE 0 dX8_number_0 rfl rfl rfl ?_
  refine r_get 4 hE 0 0 ok8 8 dX8_number_1 rfl wd_305 rfl rfl (by decide) rfl ?_
  refine r_callV 7 hE [2] [0, 1, 3] [(wWalk g w (ru 0) sp nb mt pl op no od stm wc)] [(wMain g x tpa (a 0) da pa qa rua (w 0) sa bka taped told), (wShelf g a L ln tp rd cnt era nws), (wRules g ru kd fi se sg le de nx he ro rc re rr)] 0 7 ok7 [] (c_X7_begin) dX8_number_4 rfl rfl wd_672 wd_673 wd_674 wd_8 wd_675 ne_X7 np_X7_begin (Nat.le_of_ble_eq_true rfl)  (by decide) (by decide) rfl (Nat.le_of_ble_eq_true rfl) rfl rfl rfl rfl (by decide) rfl (fun v1 f1 hp => ?_)
  obtain ⟨rfl, rfl⟩ := hp
  show G g E _ _ _ [(wWalk g w (ru 0) sp nb mt pl op no od (stm + 1) 0), (wMain g x tpa (a 0) da pa qa rua (w 0) sa bka taped told), (wShelf g a L ln tp rd cnt era nws), (wRules g ru kd fi se sg le de nx he ro rc re rr)] 7 [(0, .ref x), (1, .int (iI t))] []
  refine r_aload_n 8 hE 0 dX8_number_7 rfl rfl rfl ?_
  refine r_get 11 hE 1 0 ok8 8 dX8_number_8 rfl wd_305 rfl rfl (by decide) rfl ?_
  refine r_aload_n 12 hE 0 dX8_number_11 rfl rfl rfl ?_
  refine r_get 15 hE 1 0 ok8 4 dX8_number_12 rfl wd_301 rfl rfl (by decide) rfl ?_
  refine r_iload_n 16 hE 1 dX8_number_15 rfl rfl rfl ?_
  refine r_callV 19 hE [2] [0, 1, 3] [(wShelf g a L ln tp rd cnt era nws)] [(wWalk g w (ru 0) sp nb mt pl op no od (stm + 1) 0), (wMain g x tpa (a 0) da pa qa rua (w 0) sa bka taped told), (wRules g ru kd fi se sg le de nx he ro rc re rr)] 0 5 ok5 [.ref (w 0)] (c_X5_topOf (by omega) (by omega)) dX8_number_16 rfl rfl wd_680 wd_681 wd_682 wd_4 wd_683 ne_X5 np_X5_topOf (Nat.le_of_ble_eq_true rfl)  (by decide) (by decide) rfl (Nat.le_of_ble_eq_true rfl) rfl rfl rfl rfl (by decide) rfl (fun v1 f1 hp => ?_)
  obtain ⟨rfl, rfl⟩ := hp
  show G g E _ _ _ [(wShelf g a L ln tp rd cnt era nws), (wWalk g w (ru 0) sp nb mt pl op no od (stm + 1) 0), (wMain g x tpa (a 0) da pa qa rua (w 0) sa bka taped told), (wRules g ru kd fi se sg le de nx he ro rc re rr)] 19 [(0, .ref x), (1, .int (iI t))] [.int (iI (tp t)), .ref (w 0)]
  refine r_callV 22 hE [1, 3] [0, 2] [(wWalk g w (ru 0) sp nb mt pl op no od (stm + 1) 0), (wRules g ru kd fi se sg le de nx he ro rc re rr)] [(wShelf g a L ln tp rd cnt era nws), (wMain g x tpa (a 0) da pa qa rua (w 0) sa bka taped told)] 0 7 ok7 [] (c_X7_visit (hT) (hW0) (hto) (by omega) (by omega)) dX8_number_19 rfl rfl wd_684 wd_685 wd_686 wd_8 wd_687 ne_X7 np_X7_visit (Nat.le_of_ble_eq_true rfl)  (by decide) (by decide) rfl (Nat.le_of_ble_eq_true rfl) rfl rfl rfl rfl (by decide) rfl (fun v1 f1 hp => ?_)
  obtain ⟨sp9_19, nb9_19, mt9_19, pl9_19, op9_19, no9_19, od9_19, wc9_19, V9_19, rfl, rfl, h19_0, h19_1⟩ := hp
  show G g E _ _ _ [(wWalk g w (ru 0) sp9_19 nb9_19 mt9_19 pl9_19 op9_19 no9_19 od9_19 (stm + 1) wc9_19), (wRules g ru kd fi se sg le de nx he ro rc re rr), (wShelf g a L ln tp rd cnt era nws), (wMain g x tpa (a 0) da pa qa rua (w 0) sa bka taped told)] 22 [(0, .ref x), (1, .int (iI t))] [.int (iI (wc9_19 - 0))]
  refine G.to (fs' := [(wMain g x tpa (a 0) da pa qa rua (w 0) sa bka taped told), (wShelf g a L ln tp rd cnt era nws), (wWalk g w (ru 0) sp9_19 nb9_19 mt9_19 pl9_19 op9_19 no9_19 od9_19 (stm + 1) wc9_19), (wRules g ru kd fi se sg le de nx he ro rc re rr)]) [3, 2, 0, 1] [0, 1] rfl rfl rfl ?_
  refine r_ireturn hE hR [(wMain g x tpa (a 0) da pa qa rua (w 0) sa bka taped told), (wShelf g a L ln tp rd cnt era nws), (wWalk g w (ru 0) sp9_19 nb9_19 mt9_19 pl9_19 op9_19 no9_19 od9_19 (stm + 1) wc9_19), (wRules g ru kd fi se sg le de nx he ro rc re rr)] dX8_number_22 (Nat.le_of_ble_eq_true rfl) (Nat.le_of_ble_eq_true rfl) rfl ?_
  exact ⟨_, _, _, _, _, _, _, _, _, retI (by omega), rfl, h19_0, h19_1⟩
set_option maxHeartbeats 4000000 in
set_option maxRecDepth 100000 in
theorem c_X8_firstPart {g : Gm} {ru : Nat → Nat} {kd fi se sg le de nx he ro : Int → Int} {rc re rr : Int} {R : Int → Rl} {w : Nat → Nat} {sp nb mt pl op no : Int → Int} {od stm wc : Int} {V : List (Rl × Int)} {x tpa na da pa qa sa bka : Nat} {taped told : Int} {i : Int} (hT : RT kd fi se sg le de nx he rc R) (hW : WV R rc V sp nb mt pl stm wc) (hi : 0 ≤ i ∧ i < rc) (hs : kd i ≠ 0 → sp (fi i) = stm) (hs2 : stm ≤ 2000000000) : Ct g 2 0 0 yX8_firstPart cX8_firstPart 3 (some .int) [.ref x, .int (iI i)] [(wMain g x tpa na da pa qa (ru 0) (w 0) sa bka taped told), (wWalk g w (ru 0) sp nb mt pl op no od stm wc), (wRules g ru kd fi se sg le de nx he ro rc re rr)] (fun v_ w_ => v_ = some (.int (iI (if kd i = 0 then fi i else nb (fi i)))) ∧ w_ = [(wMain g x tpa na da pa qa (ru 0) (w 0) sa bka taped told), (wWalk g w (ru 0) sp nb mt pl op no od stm wc), (wRules g ru kd fi se sg le de nx he ro rc re rr)]) := by
  refine Ct.of (by decide) (Nat.le_of_ble_eq_true rfl) (lv := [(0, .ref x), (1, .int (iI i))]) rfl ?_
  intro E hE hR hnm
  have hcn := hT.1
  have hir := hT.2.1 i hi.1 hi.2
  have hig := hir.rg (by omega)
  refine r_aload_n 1 hE 0 dX8_firstPart_0 rfl rfl rfl ?_
  refine r_get 4 hE 0 0 ok8 9 dX8_firstPart_1 rfl wd_306 rfl rfl (by decide) rfl ?_
  refine r_iload_n 5 hE 1 dX8_firstPart_4 rfl rfl rfl ?_
  refine r_callV 8 hE [2] [0, 1] [(wRules g ru kd fi se sg le de nx he ro rc re rr)] [(wMain g x tpa na da pa qa (ru 0) (w 0) sa bka taped told), (wWalk g w (ru 0) sp nb mt pl op no od stm wc)] 0 3 ok3 [] (c_X3_firstOf (by omega) (by omega)) dX8_firstPart_5 rfl rfl wd_833 wd_698 wd_699 wd_9 wd_700 ne_X3 np_X3_firstOf (Nat.le_of_ble_eq_true rfl)  (by decide) (by decide) rfl (Nat.le_of_ble_eq_true rfl) rfl rfl rfl rfl (by decide) rfl (fun v1 f1 hp => ?_)
  obtain ⟨rfl, rfl⟩ := hp
  show G g E _ _ _ [(wRules g ru kd fi se sg le de nx he ro rc re rr), (wMain g x tpa na da pa qa (ru 0) (w 0) sa bka taped told), (wWalk g w (ru 0) sp nb mt pl op no od stm wc)] 8 [(0, .ref x), (1, .int (iI i))] [.int (iI (fi i))]
  refine r_istore_n 9 hE [(2, .int (iI (fi i))), (0, .ref x), (1, .int (iI i))] dX8_firstPart_8 rfl rfl (by decide) rfl ?_
  refine r_aload_n 10 hE 1 dX8_firstPart_9 rfl rfl rfl ?_
  refine r_get 13 hE 1 0 ok8 9 dX8_firstPart_10 rfl wd_306 rfl rfl (by decide) rfl ?_
  refine r_iload_n 14 hE 2 dX8_firstPart_13 rfl rfl rfl ?_
  refine r_callV 17 hE [0] [1, 2] [(wRules g ru kd fi se sg le de nx he ro rc re rr)] [(wMain g x tpa na da pa qa (ru 0) (w 0) sa bka taped told), (wWalk g w (ru 0) sp nb mt pl op no od stm wc)] 0 3 ok3 [] (c_X3_kindOf (by omega) (by omega)) dX8_firstPart_14 rfl rfl wd_827 wd_702 wd_703 wd_9 wd_704 ne_X3 np_X3_kindOf (Nat.le_of_ble_eq_true rfl)  (by decide) (by decide) rfl (Nat.le_of_ble_eq_true rfl) rfl rfl rfl rfl (by decide) rfl (fun v1 f1 hp => ?_)
  obtain ⟨rfl, rfl⟩ := hp
  show G g E _ _ _ [(wRules g ru kd fi se sg le de nx he ro rc re rr), (wMain g x tpa na da pa qa (ru 0) (w 0) sa bka taped told), (wWalk g w (ru 0) sp nb mt pl op no od stm wc)] 17 [(2, .int (iI (fi i))), (0, .ref x), (1, .int (iI i))] [.int (iI (kd i))]
  refine r_if_ne 20 24 hE dX8_firstPart_17 rfl (by decide) (by omega) (fun c17 => ?_) (fun c17 => ?_)
  · skip
    have hfx : 0 ≤ fi i ∧ fi i < rc := by have h9 := hir.1; rcases h9 with z | z | z <;> omega
    refine r_aload_n 25 hE 1 dX8_firstPart_24 rfl rfl rfl ?_
    refine r_get 28 hE 1 0 ok8 8 dX8_firstPart_25 rfl wd_305 rfl rfl (by decide) rfl ?_
    refine r_iload_n 29 hE 0 dX8_firstPart_28 rfl rfl rfl ?_
    refine r_callV 32 hE [2, 0] [1] [(wWalk g w (ru 0) sp nb mt pl op no od stm wc), (wRules g ru kd fi se sg le de nx he ro rc re rr)] [(wMain g x tpa na da pa qa (ru 0) (w 0) sa bka taped told)] 0 7 ok7 [] (c_X7_numberOf (hT) (hW) (hfx) (hs c17) (by omega)) dX8_firstPart_29 rfl rfl wd_834 wd_835 wd_836 wd_8 wd_837 ne_X7 np_X7_numberOf (Nat.le_of_ble_eq_true rfl)  (by decide) (by decide) rfl (Nat.le_of_ble_eq_true rfl) rfl rfl rfl rfl (by decide) rfl (fun v1 f1 hp => ?_)
    obtain ⟨rfl, rfl⟩ := hp
    show G g E _ _ _ [(wWalk g w (ru 0) sp nb mt pl op no od stm wc), (wRules g ru kd fi se sg le de nx he ro rc re rr), (wMain g x tpa na da pa qa (ru 0) (w 0) sa bka taped told)] 32 [(2, .int (iI (fi i))), (0, .ref x), (1, .int (iI i))] [.int (iI (nb (fi i)))]
    refine G.to (fs' := [(wMain g x tpa na da pa qa (ru 0) (w 0) sa bka taped told), (wWalk g w (ru 0) sp nb mt pl op no od stm wc), (wRules g ru kd fi se sg le de nx he ro rc re rr)]) [2, 0, 1] [0, 1, 2] rfl rfl rfl ?_
    refine r_ireturn hE hR [(wMain g x tpa na da pa qa (ru 0) (w 0) sa bka taped told), (wWalk g w (ru 0) sp nb mt pl op no od stm wc), (wRules g ru kd fi se sg le de nx he ro rc re rr)] dX8_firstPart_32 (Nat.le_of_ble_eq_true rfl) (Nat.le_of_ble_eq_true rfl) rfl ?_
    first | exact ⟨retI (if_pos c17).symm, rfl⟩ | exact ⟨retI (if_neg c17).symm, rfl⟩
  · skip
    refine r_iload_n 21 hE 0 dX8_firstPart_20 rfl rfl rfl ?_
    refine r_goto 32 hE dX8_firstPart_21 (by decide) ?_
    refine G.to (fs' := [(wMain g x tpa na da pa qa (ru 0) (w 0) sa bka taped told), (wWalk g w (ru 0) sp nb mt pl op no od stm wc), (wRules g ru kd fi se sg le de nx he ro rc re rr)]) [1, 2, 0] [0, 1, 2] rfl rfl rfl ?_
    refine r_ireturn hE hR [(wMain g x tpa na da pa qa (ru 0) (w 0) sa bka taped told), (wWalk g w (ru 0) sp nb mt pl op no od stm wc), (wRules g ru kd fi se sg le de nx he ro rc re rr)] dX8_firstPart_32 (Nat.le_of_ble_eq_true rfl) (Nat.le_of_ble_eq_true rfl) rfl ?_
    first | exact ⟨retI (if_pos c17).symm, rfl⟩ | exact ⟨retI (if_neg c17).symm, rfl⟩
set_option maxHeartbeats 4000000 in
set_option maxRecDepth 100000 in
theorem c_X8_secondPart {g : Gm} {ru : Nat → Nat} {kd fi se sg le de nx he ro : Int → Int} {rc re rr : Int} {R : Int → Rl} {w : Nat → Nat} {sp nb mt pl op no : Int → Int} {od stm wc : Int} {V : List (Rl × Int)} {x tpa na da pa qa sa bka : Nat} {taped told : Int} {i : Int} (hT : RT kd fi se sg le de nx he rc R) (hW : WV R rc V sp nb mt pl stm wc) (hi : 0 ≤ i ∧ i < rc) (hs : kd i = 1 → sp (se i) = stm) (hs2 : stm ≤ 2000000000) : Ct g 2 0 0 yX8_secondPart cX8_secondPart 3 (some .int) [.ref x, .int (iI i)] [(wMain g x tpa na da pa qa (ru 0) (w 0) sa bka taped told), (wWalk g w (ru 0) sp nb mt pl op no od stm wc), (wRules g ru kd fi se sg le de nx he ro rc re rr)] (fun v_ w_ => v_ = some (.int (iI (if kd i = 1 then nb (se i) else se i))) ∧ w_ = [(wMain g x tpa na da pa qa (ru 0) (w 0) sa bka taped told), (wWalk g w (ru 0) sp nb mt pl op no od stm wc), (wRules g ru kd fi se sg le de nx he ro rc re rr)]) := by
  refine Ct.of (by decide) (Nat.le_of_ble_eq_true rfl) (lv := [(0, .ref x), (1, .int (iI i))]) rfl ?_
  intro E hE hR hnm
  have hcn := hT.1
  have hir := hT.2.1 i hi.1 hi.2
  have hig := hir.rg (by omega)
  refine r_aload_n 1 hE 0 dX8_secondPart_0 rfl rfl rfl ?_
  refine r_get 4 hE 0 0 ok8 9 dX8_secondPart_1 rfl wd_306 rfl rfl (by decide) rfl ?_
  refine r_iload_n 5 hE 1 dX8_secondPart_4 rfl rfl rfl ?_
  refine r_callV 8 hE [2] [0, 1] [(wRules g ru kd fi se sg le de nx he ro rc re rr)] [(wMain g x tpa na da pa qa (ru 0) (w 0) sa bka taped told), (wWalk g w (ru 0) sp nb mt pl op no od stm wc)] 0 3 ok3 [] (c_X3_secondOf (by omega) (by omega)) dX8_secondPart_5 rfl rfl wd_842 wd_706 wd_707 wd_9 wd_708 ne_X3 np_X3_secondOf (Nat.le_of_ble_eq_true rfl)  (by decide) (by decide) rfl (Nat.le_of_ble_eq_true rfl) rfl rfl rfl rfl (by decide) rfl (fun v1 f1 hp => ?_)
  obtain ⟨rfl, rfl⟩ := hp
  show G g E _ _ _ [(wRules g ru kd fi se sg le de nx he ro rc re rr), (wMain g x tpa na da pa qa (ru 0) (w 0) sa bka taped told), (wWalk g w (ru 0) sp nb mt pl op no od stm wc)] 8 [(0, .ref x), (1, .int (iI i))] [.int (iI (se i))]
  refine r_istore_n 9 hE [(2, .int (iI (se i))), (0, .ref x), (1, .int (iI i))] dX8_secondPart_8 rfl rfl (by decide) rfl ?_
  refine r_aload_n 10 hE 1 dX8_secondPart_9 rfl rfl rfl ?_
  refine r_get 13 hE 1 0 ok8 9 dX8_secondPart_10 rfl wd_306 rfl rfl (by decide) rfl ?_
  refine r_iload_n 14 hE 2 dX8_secondPart_13 rfl rfl rfl ?_
  refine r_callV 17 hE [0] [1, 2] [(wRules g ru kd fi se sg le de nx he ro rc re rr)] [(wMain g x tpa na da pa qa (ru 0) (w 0) sa bka taped told), (wWalk g w (ru 0) sp nb mt pl op no od stm wc)] 0 3 ok3 [] (c_X3_kindOf (by omega) (by omega)) dX8_secondPart_14 rfl rfl wd_827 wd_702 wd_703 wd_9 wd_704 ne_X3 np_X3_kindOf (Nat.le_of_ble_eq_true rfl)  (by decide) (by decide) rfl (Nat.le_of_ble_eq_true rfl) rfl rfl rfl rfl (by decide) rfl (fun v1 f1 hp => ?_)
  obtain ⟨rfl, rfl⟩ := hp
  show G g E _ _ _ [(wRules g ru kd fi se sg le de nx he ro rc re rr), (wMain g x tpa na da pa qa (ru 0) (w 0) sa bka taped told), (wWalk g w (ru 0) sp nb mt pl op no od stm wc)] 17 [(2, .int (iI (se i))), (0, .ref x), (1, .int (iI i))] [.int (iI (kd i))]
  refine r_iconst 18 hE dX8_secondPart_17 rfl ?_
  refine r_icmp_ne 21 32 hE dX8_secondPart_18 rfl (by decide) (by omega) (fun c18 => ?_) (fun c18 => ?_)
  · skip
    refine r_iload_n 33 hE 0 dX8_secondPart_32 rfl rfl rfl ?_
    refine G.to (fs' := [(wMain g x tpa na da pa qa (ru 0) (w 0) sa bka taped told), (wWalk g w (ru 0) sp nb mt pl op no od stm wc), (wRules g ru kd fi se sg le de nx he ro rc re rr)]) [1, 2, 0] [0, 1, 2] rfl rfl rfl ?_
    refine r_ireturn hE hR [(wMain g x tpa na da pa qa (ru 0) (w 0) sa bka taped told), (wWalk g w (ru 0) sp nb mt pl op no od stm wc), (wRules g ru kd fi se sg le de nx he ro rc re rr)] dX8_secondPart_33 (Nat.le_of_ble_eq_true rfl) (Nat.le_of_ble_eq_true rfl) rfl ?_
    first | exact ⟨retI (if_pos c18).symm, rfl⟩ | exact ⟨retI (if_neg c18).symm, rfl⟩
  · skip
    have hP := hir.pair c18
    refine r_aload_n 22 hE 1 dX8_secondPart_21 rfl rfl rfl ?_
    refine r_get 25 hE 1 0 ok8 8 dX8_secondPart_22 rfl wd_305 rfl rfl (by decide) rfl ?_
    refine r_iload_n 26 hE 0 dX8_secondPart_25 rfl rfl rfl ?_
    refine r_callV 29 hE [2, 0] [1] [(wWalk g w (ru 0) sp nb mt pl op no od stm wc), (wRules g ru kd fi se sg le de nx he ro rc re rr)] [(wMain g x tpa na da pa qa (ru 0) (w 0) sa bka taped told)] 0 7 ok7 [] (c_X7_numberOf (hT) (hW) (by omega) (hs c18) (by omega)) dX8_secondPart_26 rfl rfl wd_834 wd_835 wd_836 wd_8 wd_837 ne_X7 np_X7_numberOf (Nat.le_of_ble_eq_true rfl)  (by decide) (by decide) rfl (Nat.le_of_ble_eq_true rfl) rfl rfl rfl rfl (by decide) rfl (fun v1 f1 hp => ?_)
    obtain ⟨rfl, rfl⟩ := hp
    show G g E _ _ _ [(wWalk g w (ru 0) sp nb mt pl op no od stm wc), (wRules g ru kd fi se sg le de nx he ro rc re rr), (wMain g x tpa na da pa qa (ru 0) (w 0) sa bka taped told)] 29 [(2, .int (iI (se i))), (0, .ref x), (1, .int (iI i))] [.int (iI (nb (se i)))]
    refine r_goto 33 hE dX8_secondPart_29 (by decide) ?_
    refine G.to (fs' := [(wMain g x tpa na da pa qa (ru 0) (w 0) sa bka taped told), (wWalk g w (ru 0) sp nb mt pl op no od stm wc), (wRules g ru kd fi se sg le de nx he ro rc re rr)]) [2, 0, 1] [0, 1, 2] rfl rfl rfl ?_
    refine r_ireturn hE hR [(wMain g x tpa na da pa qa (ru 0) (w 0) sa bka taped told), (wWalk g w (ru 0) sp nb mt pl op no od stm wc), (wRules g ru kd fi se sg le de nx he ro rc re rr)] dX8_secondPart_33 (Nat.le_of_ble_eq_true rfl) (Nat.le_of_ble_eq_true rfl) rfl ?_
    first | exact ⟨retI (if_pos c18).symm, rfl⟩ | exact ⟨retI (if_neg c18).symm, rfl⟩
set_option maxHeartbeats 4000000 in
set_option maxRecDepth 100000 in
theorem c_X8_sharedRules {g : Gm} {a : Nat → Nat} {L ln tp rd : Int → Int} {cnt era nws : Int} {ru : Nat → Nat} {kd fi se sg le de nx he ro : Int → Int} {rc re rr : Int} {R : Int → Rl} {w : Nat → Nat} {sp nb mt pl op no : Int → Int} {od stm wc : Int} {x tpa da pa qa rua sa bka : Nat} {taped told : Int} {t u : Int} (hT : RT kd fi se sg le de nx he rc R) (hc : 0 ≤ cnt ∧ cnt ≤ 8) (htt : 0 ≤ t ∧ t < cnt) (huu : 0 ≤ u ∧ u < cnt) (hto : 0 ≤ tp t ∧ tp t < rc) (htu : 0 ≤ tp u ∧ tp u < rc) (hWI : 0 ≤ stm ∧ ∀ i, 0 ≤ i → i < 10240 → 0 ≤ sp i ∧ sp i ≤ stm) (hs2 : stm ≤ 1700000000) : Ct g 4 0 0 yX8_sharedRules cX8_sharedRules 4 (some .int) [.ref x, .int (iI t), .int (iI u)] [(wMain g x tpa (a 0) da pa qa rua (w 0) sa bka taped told), (wShelf g a L ln tp rd cnt era nws), (wWalk g w (ru 0) sp nb mt pl op no od stm wc), (wRules g ru kd fi se sg le de nx he ro rc re rr)] (fun v_ w_ => ∃ sp9 : Int → Int, ∃ nb9 : Int → Int, ∃ mt9 : Int → Int, ∃ pl9 : Int → Int, ∃ op9 : Int → Int, ∃ no9 : Int → Int, ∃ od9 : Int, ∃ wc9 : Int, ∃ V9 : List (Rl × Int), ∃ r9 : Int, v_ = some (.int (iI r9)) ∧ w_ = [(wMain g x tpa (a 0) da pa qa rua (w 0) sa bka taped told), (wShelf g a L ln tp rd cnt era nws), (wWalk g w (ru 0) sp9 nb9 mt9 pl9 op9 no9 od9 (stm + 1 + 1) wc9), (wRules g ru kd fi se sg le de nx he ro rc re rr)] ∧ (WV R rc V9 sp9 nb9 mt9 pl9 (stm + 1 + 1) wc9) ∧ (r9 = ((vis (R (tp u)) 0 []).length : Int) - (((vis (R (tp u)) 0 (vis (R (tp t)) 0 [])).length : Int) - (vis (R (tp t)) 0 []).length))) := by
  refine Ct.of (by decide) (Nat.le_of_ble_eq_true rfl) (lv := [(0, .ref x), (1, .int (iI t)), (2, .int (iI u))]) rfl ?_
  intro E hE hR hnm
  have hcn := hT.1
  refine r_aload_n 1 hE 0 dX8_sharedRules_0 rfl rfl rfl ?_
  refine r_iload_n 2 hE 2 dX8_sharedRules_1 rfl rfl rfl ?_
  refine r_callV 5 hE [0, 1, 2, 3] [] [(wMain g x tpa (a 0) da pa qa rua (w 0) sa bka taped told), (wShelf g a L ln tp rd cnt era nws), (wWalk g w (ru 0) sp nb mt pl op no od stm wc), (wRules g ru kd fi se sg le de nx he ro rc re rr)] [] 0 8 ok8 [] (c_X8_number (hT) (by omega) (by omega) (htu) (hWI) (by omega)) dX8_sharedRules_2 rfl rfl wd_765 wd_767 ws_35 wd_1 wd_768 ne_X8 np_X8_number (Nat.le_of_ble_eq_true rfl)  (by decide) (by decide) rfl (Nat.le_of_ble_eq_true rfl) rfl rfl rfl rfl (by decide) rfl (fun v1 f1 hp => ?_)
  obtain ⟨sp9_2, nb9_2, mt9_2, pl9_2, op9_2, no9_2, od9_2, wc9_2, V9_2, rfl, rfl, h2_0, h2_1⟩ := hp
  show G g E _ _ _ [(wMain g x tpa (a 0) da pa qa rua (w 0) sa bka taped told), (wShelf g a L ln tp rd cnt era nws), (wWalk g w (ru 0) sp9_2 nb9_2 mt9_2 pl9_2 op9_2 no9_2 od9_2 (stm + 1) wc9_2), (wRules g ru kd fi se sg le de nx he ro rc re rr)] 5 [(0, .ref x), (1, .int (iI t)), (2, .int (iI u))] [.int (iI wc9_2)]
  refine r_istore_n 6 hE [(3, .int (iI wc9_2)), (0, .ref x), (1, .int (iI t)), (2, .int (iI u))] dX8_sharedRules_5 rfl rfl (by decide) rfl ?_
  refine r_aload_n 7 hE 1 dX8_sharedRules_6 rfl rfl rfl ?_
  refine r_iload_n 8 hE 2 dX8_sharedRules_7 rfl rfl rfl ?_
  refine r_callV 11 hE [0, 1, 2, 3] [] [(wMain g x tpa (a 0) da pa qa rua (w 0) sa bka taped told), (wShelf g a L ln tp rd cnt era nws), (wWalk g w (ru 0) sp9_2 nb9_2 mt9_2 pl9_2 op9_2 no9_2 od9_2 (stm + 1) wc9_2), (wRules g ru kd fi se sg le de nx he ro rc re rr)] [] 0 8 ok8 [] (c_X8_number (hT) (by omega) (by omega) (hto) (h2_0.2.1) (by omega)) dX8_sharedRules_8 rfl rfl wd_765 wd_767 ws_35 wd_1 wd_768 ne_X8 np_X8_number (Nat.le_of_ble_eq_true rfl)  (by decide) (by decide) rfl (Nat.le_of_ble_eq_true rfl) rfl rfl rfl rfl (by decide) rfl (fun v1 f1 hp => ?_)
  obtain ⟨sp9_8, nb9_8, mt9_8, pl9_8, op9_8, no9_8, od9_8, wc9_8, V9_8, rfl, rfl, h8_0, h8_1⟩ := hp
  show G g E _ _ _ [(wMain g x tpa (a 0) da pa qa rua (w 0) sa bka taped told), (wShelf g a L ln tp rd cnt era nws), (wWalk g w (ru 0) sp9_8 nb9_8 mt9_8 pl9_8 op9_8 no9_8 od9_8 ((stm + 1) + 1) wc9_8), (wRules g ru kd fi se sg le de nx he ro rc re rr)] 11 [(3, .int (iI wc9_2)), (0, .ref x), (1, .int (iI t)), (2, .int (iI u))] [.int (iI wc9_8)]
  have hWl := h8_0.le
  have hw8 := h8_0.1
  refine r_pop 12 hE dX8_sharedRules_11 rfl rfl ?_
  refine r_iload_n 13 hE 0 dX8_sharedRules_12 rfl rfl rfl ?_
  refine r_aload_n 14 hE 1 dX8_sharedRules_13 rfl rfl rfl ?_
  refine r_get 17 hE 0 0 ok8 8 dX8_sharedRules_14 rfl wd_305 rfl rfl (by decide) rfl ?_
  refine r_aload_n 18 hE 1 dX8_sharedRules_17 rfl rfl rfl ?_
  refine r_get 21 hE 0 0 ok8 4 dX8_sharedRules_18 rfl wd_301 rfl rfl (by decide) rfl ?_
  refine r_iload_n 22 hE 3 dX8_sharedRules_21 rfl rfl rfl ?_
  refine r_callV 25 hE [1] [0, 2, 3] [(wShelf g a L ln tp rd cnt era nws)] [(wMain g x tpa (a 0) da pa qa rua (w 0) sa bka taped told), (wWalk g w (ru 0) sp9_8 nb9_8 mt9_8 pl9_8 op9_8 no9_8 od9_8 ((stm + 1) + 1) wc9_8), (wRules g ru kd fi se sg le de nx he ro rc re rr)] 0 5 ok5 [.ref (w 0), .int (iI wc9_2)] (c_X5_topOf (by omega) (by omega)) dX8_sharedRules_22 rfl rfl wd_680 wd_681 wd_682 wd_4 wd_683 ne_X5 np_X5_topOf (Nat.le_of_ble_eq_true rfl)  (by decide) (by decide) rfl (Nat.le_of_ble_eq_true rfl) rfl rfl rfl rfl (by decide) rfl (fun v1 f1 hp => ?_)
  obtain ⟨rfl, rfl⟩ := hp
  show G g E _ _ _ [(wShelf g a L ln tp rd cnt era nws), (wMain g x tpa (a 0) da pa qa rua (w 0) sa bka taped told), (wWalk g w (ru 0) sp9_8 nb9_8 mt9_8 pl9_8 op9_8 no9_8 od9_8 ((stm + 1) + 1) wc9_8), (wRules g ru kd fi se sg le de nx he ro rc re rr)] 25 [(3, .int (iI wc9_2)), (0, .ref x), (1, .int (iI t)), (2, .int (iI u))] [.int (iI (tp u)), .ref (w 0), .int (iI wc9_2)]
  refine r_callV 28 hE [2, 3] [0, 1] [(wWalk g w (ru 0) sp9_8 nb9_8 mt9_8 pl9_8 op9_8 no9_8 od9_8 ((stm + 1) + 1) wc9_8), (wRules g ru kd fi se sg le de nx he ro rc re rr)] [(wShelf g a L ln tp rd cnt era nws), (wMain g x tpa (a 0) da pa qa rua (w 0) sa bka taped told)] 0 7 ok7 [.int (iI wc9_2)] (c_X7_visit (hT) (h8_0) (htu) (by omega) (by omega)) dX8_sharedRules_25 rfl rfl wd_684 wd_685 wd_686 wd_8 wd_687 ne_X7 np_X7_visit (Nat.le_of_ble_eq_true rfl)  (by decide) (by decide) rfl (Nat.le_of_ble_eq_true rfl) rfl rfl rfl rfl (by decide) rfl (fun v1 f1 hp => ?_)
  obtain ⟨sp9_25, nb9_25, mt9_25, pl9_25, op9_25, no9_25, od9_25, wc9_25, V9_25, rfl, rfl, h25_0, h25_1⟩ := hp
  show G g E _ _ _ [(wWalk g w (ru 0) sp9_25 nb9_25 mt9_25 pl9_25 op9_25 no9_25 od9_25 ((stm + 1) + 1) wc9_25), (wRules g ru kd fi se sg le de nx he ro rc re rr), (wShelf g a L ln tp rd cnt era nws), (wMain g x tpa (a 0) da pa qa rua (w 0) sa bka taped told)] 28 [(3, .int (iI wc9_2)), (0, .ref x), (1, .int (iI t)), (2, .int (iI u))] [.int (iI (wc9_25 - wc9_8)), .int (iI wc9_2)]
  refine r_isub 29 hE (wc9_2 - (wc9_25 - wc9_8)) dX8_sharedRules_28 rfl rfl ?_
  refine G.to (fs' := [(wMain g x tpa (a 0) da pa qa rua (w 0) sa bka taped told), (wShelf g a L ln tp rd cnt era nws), (wWalk g w (ru 0) sp9_25 nb9_25 mt9_25 pl9_25 op9_25 no9_25 od9_25 ((stm + 1) + 1) wc9_25), (wRules g ru kd fi se sg le de nx he ro rc re rr)]) [3, 2, 0, 1] [0, 1, 2, 3] rfl rfl rfl ?_
  refine r_ireturn hE hR [(wMain g x tpa (a 0) da pa qa rua (w 0) sa bka taped told), (wShelf g a L ln tp rd cnt era nws), (wWalk g w (ru 0) sp9_25 nb9_25 mt9_25 pl9_25 op9_25 no9_25 od9_25 ((stm + 1) + 1) wc9_25), (wRules g ru kd fi se sg le de nx he ro rc re rr)] dX8_sharedRules_29 (Nat.le_of_ble_eq_true rfl) (Nat.le_of_ble_eq_true rfl) rfl ?_
  have hw2 := h2_0.1
  have hw25 := h25_0.1
  rw [h2_1] at hw2
  rw [h25_1, h8_1] at hw25
  rw [h8_1] at hw8
  exact ⟨_, _, _, _, _, _, _, _, _, _, rfl, rfl, h25_0, by omega⟩
set_option maxHeartbeats 4000000 in
set_option maxRecDepth 100000 in
theorem c_X8_wrongPlace {g : Gm} {a : Nat → Nat} {L ln tp rd : Int → Int} {cnt era nws : Int} {x tpa da pa qa rua wa sa bka : Nat} {taped told : Int} {t p e : Int} (hc : 0 ≤ cnt ∧ cnt ≤ 8) (hln : ∀ j, 0 ≤ j → j < cnt → 0 ≤ ln j ∧ ln j ≤ 600) (ht : -2147483648 ≤ t ∧ t ≤ 2147483647) (hp : -2147483648 ≤ p ∧ p ≤ 2147483647) (he : 0 ≤ e ∧ e ≤ 1) : Ct g 2 0 0 yX8_wrongPlace cX8_wrongPlace 5 (some .int) [.ref x, .int (iI t), .int (iI p), .int (iI e)] [(wMain g x tpa (a 0) da pa qa rua wa sa bka taped told), (wShelf g a L ln tp rd cnt era nws)] (fun v_ w_ => v_ = some (.int (iI (wpF ln cnt t p e))) ∧ w_ = [(wMain g x tpa (a 0) da pa qa rua wa sa bka taped told), (wShelf g a L ln tp rd cnt era nws)]) := by
  refine Ct.of (by decide) (Nat.le_of_ble_eq_true rfl) (lv := [(0, .ref x), (1, .int (iI t)), (2, .int (iI p)), (3, .int (iI e))]) rfl ?_
  intro E hE hR hnm
  refine r_iload_n 1 hE 2 dX8_wrongPlace_0 rfl rfl rfl ?_
  refine r_if_ge 4 6 hE dX8_wrongPlace_1 rfl (by decide) (by omega) (fun c1 => ?_) (fun c1 => ?_)
  · skip
    refine r_aload_n 7 hE 0 dX8_wrongPlace_6 rfl rfl rfl ?_
    refine r_get 10 hE 0 0 ok8 4 dX8_wrongPlace_7 rfl wd_301 rfl rfl (by decide) rfl ?_
    refine r_iload_n 11 hE 1 dX8_wrongPlace_10 rfl rfl rfl ?_
    refine r_callV 14 hE [1] [0] [(wShelf g a L ln tp rd cnt era nws)] [(wMain g x tpa (a 0) da pa qa rua wa sa bka taped told)] 0 5 ok5 [] (c_X5_has (by omega) (by omega)) dX8_wrongPlace_11 rfl rfl wd_764 wd_578 wd_579 wd_4 wd_580 ne_X5 np_X5_has (Nat.le_of_ble_eq_true rfl)  (by decide) (by decide) rfl (Nat.le_of_ble_eq_true rfl) rfl rfl rfl rfl (by decide) rfl (fun v1 f1 hp => ?_)
    obtain ⟨rfl, rfl⟩ := hp
    show G g E _ _ _ [(wShelf g a L ln tp rd cnt era nws), (wMain g x tpa (a 0) da pa qa rua wa sa bka taped told)] 14 [(0, .ref x), (1, .int (iI t)), (2, .int (iI p)), (3, .int (iI e))] [.int (iI (bI (0 ≤ t ∧ t < cnt)))]
    refine r_if_ne 17 19 hE dX8_wrongPlace_14 rfl (by decide) (bI_rg _) (fun c14 => ?_) (fun c14 => ?_)
    · skip
      have c14 := bI1 c14
      have hl1 := hln t c14.1 c14.2
      refine r_aload_n 20 hE 0 dX8_wrongPlace_19 rfl rfl rfl ?_
      refine r_get 23 hE 1 0 ok8 4 dX8_wrongPlace_20 rfl wd_301 rfl rfl (by decide) rfl ?_
      refine r_iload_n 24 hE 1 dX8_wrongPlace_23 rfl rfl rfl ?_
      refine r_callV 27 hE [0] [1] [(wShelf g a L ln tp rd cnt era nws)] [(wMain g x tpa (a 0) da pa qa rua wa sa bka taped told)] 0 5 ok5 [] (c_X5_lengthOf (by omega) (by omega)) dX8_wrongPlace_24 rfl rfl wd_630 wd_631 wd_632 wd_4 wd_633 ne_X5 np_X5_lengthOf (Nat.le_of_ble_eq_true rfl)  (by decide) (by decide) rfl (Nat.le_of_ble_eq_true rfl) rfl rfl rfl rfl (by decide) rfl (fun v1 f1 hp => ?_)
      obtain ⟨rfl, rfl⟩ := hp
      show G g E _ _ _ [(wShelf g a L ln tp rd cnt era nws), (wMain g x tpa (a 0) da pa qa rua wa sa bka taped told)] 27 [(0, .ref x), (1, .int (iI t)), (2, .int (iI p)), (3, .int (iI e))] [.int (iI (ln t))]
      refine r_istore 29 hE [(4, .int (iI (ln t))), (0, .ref x), (1, .int (iI t)), (2, .int (iI p)), (3, .int (iI e))] dX8_wrongPlace_27 rfl (by decide) rfl ?_
      refine r_iload_n 30 hE 3 dX8_wrongPlace_29 rfl rfl rfl ?_
      refine r_iload 32 hE 0 dX8_wrongPlace_30 rfl rfl ?_
      refine r_icmp_lt 35 45 hE dX8_wrongPlace_32 rfl (by decide) (by omega) (fun c32 => ?_) (fun c32 => ?_)
      · skip
        refine r_iconst 46 hE dX8_wrongPlace_45 rfl ?_
        refine r_goto 50 hE dX8_wrongPlace_46 (by decide) ?_
        refine G.to (fs' := [(wMain g x tpa (a 0) da pa qa rua wa sa bka taped told), (wShelf g a L ln tp rd cnt era nws)]) [1, 0] [0, 1, 2, 3, 4] rfl rfl rfl ?_
        refine r_ireturn hE hR [(wMain g x tpa (a 0) da pa qa rua wa sa bka taped told), (wShelf g a L ln tp rd cnt era nws)] dX8_wrongPlace_50 (Nat.le_of_ble_eq_true rfl) (Nat.le_of_ble_eq_true rfl) rfl ?_
        exact ⟨retI (by unfold wpF; (repeat (first | rw [if_pos (by omega)] | rw [if_neg (by omega)]))), rfl⟩
      · skip
        refine r_iload_n 36 hE 4 dX8_wrongPlace_35 rfl rfl rfl ?_
        refine r_if_eq 39 49 hE dX8_wrongPlace_36 rfl (by decide) (by omega) (fun c36 => ?_) (fun c36 => ?_)
        · skip
          refine r_iconst 50 hE dX8_wrongPlace_49 rfl ?_
          refine G.to (fs' := [(wMain g x tpa (a 0) da pa qa rua wa sa bka taped told), (wShelf g a L ln tp rd cnt era nws)]) [1, 0] [0, 1, 2, 3, 4] rfl rfl rfl ?_
          refine r_ireturn hE hR [(wMain g x tpa (a 0) da pa qa rua wa sa bka taped told), (wShelf g a L ln tp rd cnt era nws)] dX8_wrongPlace_50 (Nat.le_of_ble_eq_true rfl) (Nat.le_of_ble_eq_true rfl) rfl ?_
          exact ⟨retI (by unfold wpF; (repeat (first | rw [if_pos (by omega)] | rw [if_neg (by omega)]))), rfl⟩
        · skip
          refine r_iload_n 40 hE 3 dX8_wrongPlace_39 rfl rfl rfl ?_
          refine r_iload 42 hE 0 dX8_wrongPlace_40 rfl rfl ?_
          refine r_icmp_ne 45 49 hE dX8_wrongPlace_42 rfl (by decide) (by omega) (fun c42 => ?_) (fun c42 => ?_)
          · skip
            refine r_iconst 50 hE dX8_wrongPlace_49 rfl ?_
            refine G.to (fs' := [(wMain g x tpa (a 0) da pa qa rua wa sa bka taped told), (wShelf g a L ln tp rd cnt era nws)]) [1, 0] [0, 1, 2, 3, 4] rfl rfl rfl ?_
            refine r_ireturn hE hR [(wMain g x tpa (a 0) da pa qa rua wa sa bka taped told), (wShelf g a L ln tp rd cnt era nws)] dX8_wrongPlace_50 (Nat.le_of_ble_eq_true rfl) (Nat.le_of_ble_eq_true rfl) rfl ?_
            exact ⟨retI (by unfold wpF; (repeat (first | rw [if_pos (by omega)] | rw [if_neg (by omega)]))), rfl⟩
          · skip
            refine r_iconst 46 hE dX8_wrongPlace_45 rfl ?_
            refine r_goto 50 hE dX8_wrongPlace_46 (by decide) ?_
            refine G.to (fs' := [(wMain g x tpa (a 0) da pa qa rua wa sa bka taped told), (wShelf g a L ln tp rd cnt era nws)]) [1, 0] [0, 1, 2, 3, 4] rfl rfl rfl ?_
            refine r_ireturn hE hR [(wMain g x tpa (a 0) da pa qa rua wa sa bka taped told), (wShelf g a L ln tp rd cnt era nws)] dX8_wrongPlace_50 (Nat.le_of_ble_eq_true rfl) (Nat.le_of_ble_eq_true rfl) rfl ?_
            exact ⟨retI (by unfold wpF; (repeat (first | rw [if_pos (by omega)] | rw [if_neg (by omega)]))), rfl⟩
    · skip
      have c14 := bI0 c14
      refine r_iconst 18 hE dX8_wrongPlace_17 rfl ?_
      refine G.to (fs' := [(wMain g x tpa (a 0) da pa qa rua wa sa bka taped told), (wShelf g a L ln tp rd cnt era nws)]) [1, 0] [0, 1, 2, 3] rfl rfl rfl ?_
      refine r_ireturn hE hR [(wMain g x tpa (a 0) da pa qa rua wa sa bka taped told), (wShelf g a L ln tp rd cnt era nws)] dX8_wrongPlace_18 (Nat.le_of_ble_eq_true rfl) (Nat.le_of_ble_eq_true rfl) rfl ?_
      exact ⟨retI (by unfold wpF; (repeat (first | rw [if_pos (by omega)] | rw [if_neg (by omega)]))), rfl⟩
  · skip
    refine r_iconst 5 hE dX8_wrongPlace_4 rfl ?_
    refine r_ireturn hE hR [(wMain g x tpa (a 0) da pa qa rua wa sa bka taped told), (wShelf g a L ln tp rd cnt era nws)] dX8_wrongPlace_5 (Nat.le_of_ble_eq_true rfl) (Nat.le_of_ble_eq_true rfl) rfl ?_
    exact ⟨retI (by unfold wpF; (repeat (first | rw [if_pos (by omega)] | rw [if_neg (by omega)]))), rfl⟩
set_option maxHeartbeats 4000000 in
set_option maxRecDepth 100000 in
theorem c_X8_wrongSplice {g : Gm} {a : Nat → Nat} {L ln tp rd : Int → Int} {cnt era nws : Int} {x tpa da pa qa rua wa sa bka : Nat} {taped told : Int} {t p m u : Int} (hc : 0 ≤ cnt ∧ cnt ≤ 8) (hln : ∀ j, 0 ≤ j → j < cnt → 0 ≤ ln j ∧ ln j ≤ 600) (ht : -2147483648 ≤ t ∧ t ≤ 2147483647) (hp : -2147483648 ≤ p ∧ p ≤ 2147483647) (hm : -2147483648 ≤ m ∧ m ≤ 2147483647) (hu : -2147483648 ≤ u ∧ u ≤ 2147483647) : Ct g 2 0 0 yX8_wrongSplice cX8_wrongSplice 5 (some .int) [.ref x, .int (iI t), .int (iI p), .int (iI m), .int (iI u)] [(wMain g x tpa (a 0) da pa qa rua wa sa bka taped told), (wShelf g a L ln tp rd cnt era nws)] (fun v_ w_ => v_ = some (.int (iI (wsF ln cnt t p m u))) ∧ w_ = [(wMain g x tpa (a 0) da pa qa rua wa sa bka taped told), (wShelf g a L ln tp rd cnt era nws)]) := by
  refine Ct.of (by decide) (Nat.le_of_ble_eq_true rfl) (lv := [(0, .ref x), (1, .int (iI t)), (2, .int (iI p)), (3, .int (iI m)), (4, .int (iI u))]) rfl ?_
  intro E hE hR hnm
  refine r_iload_n 1 hE 2 dX8_wrongSplice_0 rfl rfl rfl ?_
  refine r_if_lt 4 8 hE dX8_wrongSplice_1 rfl (by decide) (by omega) (fun c1 => ?_) (fun c1 => ?_)
  · skip
    refine r_iconst 9 hE dX8_wrongSplice_8 rfl ?_
    refine r_ireturn hE hR [(wMain g x tpa (a 0) da pa qa rua wa sa bka taped told), (wShelf g a L ln tp rd cnt era nws)] dX8_wrongSplice_9 (Nat.le_of_ble_eq_true rfl) (Nat.le_of_ble_eq_true rfl) rfl ?_
    exact ⟨retI (by unfold wsF; (repeat (first | rw [if_pos (by omega)] | rw [if_neg (by omega)]))), rfl⟩
  · skip
    refine r_iload_n 5 hE 3 dX8_wrongSplice_4 rfl rfl rfl ?_
    refine r_if_ge 8 10 hE dX8_wrongSplice_5 rfl (by decide) (by omega) (fun c5 => ?_) (fun c5 => ?_)
    · skip
      refine r_aload_n 11 hE 0 dX8_wrongSplice_10 rfl rfl rfl ?_
      refine r_get 14 hE 0 0 ok8 4 dX8_wrongSplice_11 rfl wd_301 rfl rfl (by decide) rfl ?_
      refine r_iload_n 15 hE 1 dX8_wrongSplice_14 rfl rfl rfl ?_
      refine r_callV 18 hE [1] [0] [(wShelf g a L ln tp rd cnt era nws)] [(wMain g x tpa (a 0) da pa qa rua wa sa bka taped told)] 0 5 ok5 [] (c_X5_has (by omega) (by omega)) dX8_wrongSplice_15 rfl rfl wd_764 wd_578 wd_579 wd_4 wd_580 ne_X5 np_X5_has (Nat.le_of_ble_eq_true rfl)  (by decide) (by decide) rfl (Nat.le_of_ble_eq_true rfl) rfl rfl rfl rfl (by decide) rfl (fun v1 f1 hp => ?_)
      obtain ⟨rfl, rfl⟩ := hp
      show G g E _ _ _ [(wShelf g a L ln tp rd cnt era nws), (wMain g x tpa (a 0) da pa qa rua wa sa bka taped told)] 18 [(0, .ref x), (1, .int (iI t)), (2, .int (iI p)), (3, .int (iI m)), (4, .int (iI u))] [.int (iI (bI (0 ≤ t ∧ t < cnt)))]
      refine r_if_eq 21 33 hE dX8_wrongSplice_18 rfl (by decide) (bI_rg _) (fun c18 => ?_) (fun c18 => ?_)
      · skip
        have c18 := bI0 c18
        refine r_iconst 34 hE dX8_wrongSplice_33 rfl ?_
        refine G.to (fs' := [(wMain g x tpa (a 0) da pa qa rua wa sa bka taped told), (wShelf g a L ln tp rd cnt era nws)]) [1, 0] [0, 1, 2, 3, 4] rfl rfl rfl ?_
        refine r_ireturn hE hR [(wMain g x tpa (a 0) da pa qa rua wa sa bka taped told), (wShelf g a L ln tp rd cnt era nws)] dX8_wrongSplice_34 (Nat.le_of_ble_eq_true rfl) (Nat.le_of_ble_eq_true rfl) rfl ?_
        exact ⟨retI (by unfold wsF; (repeat (first | rw [if_pos (by omega)] | rw [if_neg (by omega)]))), rfl⟩
      · skip
        have c18 := bI1 c18
        have hl1 := hln t c18.1 c18.2
        refine r_aload_n 22 hE 0 dX8_wrongSplice_21 rfl rfl rfl ?_
        refine r_get 25 hE 1 0 ok8 4 dX8_wrongSplice_22 rfl wd_301 rfl rfl (by decide) rfl ?_
        refine r_iload 27 hE 4 dX8_wrongSplice_25 rfl rfl ?_
        refine r_callV 30 hE [0] [1] [(wShelf g a L ln tp rd cnt era nws)] [(wMain g x tpa (a 0) da pa qa rua wa sa bka taped told)] 0 5 ok5 [] (c_X5_has (by omega) (by omega)) dX8_wrongSplice_27 rfl rfl wd_764 wd_578 wd_579 wd_4 wd_580 ne_X5 np_X5_has (Nat.le_of_ble_eq_true rfl)  (by decide) (by decide) rfl (Nat.le_of_ble_eq_true rfl) rfl rfl rfl rfl (by decide) rfl (fun v1 f1 hp => ?_)
        obtain ⟨rfl, rfl⟩ := hp
        show G g E _ _ _ [(wShelf g a L ln tp rd cnt era nws), (wMain g x tpa (a 0) da pa qa rua wa sa bka taped told)] 30 [(0, .ref x), (1, .int (iI t)), (2, .int (iI p)), (3, .int (iI m)), (4, .int (iI u))] [.int (iI (bI (0 ≤ u ∧ u < cnt)))]
        refine r_if_ne 33 35 hE dX8_wrongSplice_30 rfl (by decide) (bI_rg _) (fun c30 => ?_) (fun c30 => ?_)
        · skip
          have c30 := bI1 c30
          have hl2 := hln u c30.1 c30.2
          refine r_aload_n 36 hE 0 dX8_wrongSplice_35 rfl rfl rfl ?_
          refine r_get 39 hE 1 0 ok8 4 dX8_wrongSplice_36 rfl wd_301 rfl rfl (by decide) rfl ?_
          refine r_iload_n 40 hE 1 dX8_wrongSplice_39 rfl rfl rfl ?_
          refine r_iload_n 41 hE 2 dX8_wrongSplice_40 rfl rfl rfl ?_
          refine r_iload_n 42 hE 3 dX8_wrongSplice_41 rfl rfl rfl ?_
          refine r_callV 45 hE [0] [1] [(wShelf g a L ln tp rd cnt era nws)] [(wMain g x tpa (a 0) da pa qa rua wa sa bka taped told)] 0 5 ok5 [] (c_X5_reaches (by omega) (by omega) (hln) (by omega) (by omega)) dX8_wrongSplice_42 rfl rfl wd_873 wd_874 wd_875 wd_4 wd_876 ne_X5 np_X5_reaches (Nat.le_of_ble_eq_true rfl)  (by decide) (by decide) rfl (Nat.le_of_ble_eq_true rfl) rfl rfl rfl rfl (by decide) rfl (fun v1 f1 hp => ?_)
          obtain ⟨rfl, rfl⟩ := hp
          show G g E _ _ _ [(wShelf g a L ln tp rd cnt era nws), (wMain g x tpa (a 0) da pa qa rua wa sa bka taped told)] 45 [(0, .ref x), (1, .int (iI t)), (2, .int (iI p)), (3, .int (iI m)), (4, .int (iI u))] [.int (iI (bI ((0 ≤ t ∧ t < cnt) ∧ 0 ≤ p ∧ p ≤ ln t ∧ m ≤ ln t - p)))]
          refine r_if_ne 48 50 hE dX8_wrongSplice_45 rfl (by decide) (bI_rg _) (fun c45 => ?_) (fun c45 => ?_)
          · skip
            have c45 := bI1 c45
            refine r_aload_n 51 hE 0 dX8_wrongSplice_50 rfl rfl rfl ?_
            refine r_get 54 hE 1 0 ok8 4 dX8_wrongSplice_51 rfl wd_301 rfl rfl (by decide) rfl ?_
            refine r_iload_n 55 hE 1 dX8_wrongSplice_54 rfl rfl rfl ?_
            refine r_callV 58 hE [0] [1] [(wShelf g a L ln tp rd cnt era nws)] [(wMain g x tpa (a 0) da pa qa rua wa sa bka taped told)] 0 5 ok5 [] (c_X5_lengthOf (by omega) (by omega)) dX8_wrongSplice_55 rfl rfl wd_630 wd_631 wd_632 wd_4 wd_633 ne_X5 np_X5_lengthOf (Nat.le_of_ble_eq_true rfl)  (by decide) (by decide) rfl (Nat.le_of_ble_eq_true rfl) rfl rfl rfl rfl (by decide) rfl (fun v1 f1 hp => ?_)
            obtain ⟨rfl, rfl⟩ := hp
            show G g E _ _ _ [(wShelf g a L ln tp rd cnt era nws), (wMain g x tpa (a 0) da pa qa rua wa sa bka taped told)] 58 [(0, .ref x), (1, .int (iI t)), (2, .int (iI p)), (3, .int (iI m)), (4, .int (iI u))] [.int (iI (ln t))]
            refine r_iload_n 59 hE 3 dX8_wrongSplice_58 rfl rfl rfl ?_
            refine r_isub 60 hE ((ln t) - m) dX8_wrongSplice_59 rfl rfl ?_
            refine r_aload_n 61 hE 0 dX8_wrongSplice_60 rfl rfl rfl ?_
            refine r_get 64 hE 1 0 ok8 4 dX8_wrongSplice_61 rfl wd_301 rfl rfl (by decide) rfl ?_
            refine r_iload 66 hE 4 dX8_wrongSplice_64 rfl rfl ?_
            refine r_callV 69 hE [0] [1] [(wShelf g a L ln tp rd cnt era nws)] [(wMain g x tpa (a 0) da pa qa rua wa sa bka taped told)] 0 5 ok5 [.int (iI ((ln t) - m))] (c_X5_lengthOf (by omega) (by omega)) dX8_wrongSplice_66 rfl rfl wd_630 wd_631 wd_632 wd_4 wd_633 ne_X5 np_X5_lengthOf (Nat.le_of_ble_eq_true rfl)  (by decide) (by decide) rfl (Nat.le_of_ble_eq_true rfl) rfl rfl rfl rfl (by decide) rfl (fun v1 f1 hp => ?_)
            obtain ⟨rfl, rfl⟩ := hp
            show G g E _ _ _ [(wShelf g a L ln tp rd cnt era nws), (wMain g x tpa (a 0) da pa qa rua wa sa bka taped told)] 69 [(0, .ref x), (1, .int (iI t)), (2, .int (iI p)), (3, .int (iI m)), (4, .int (iI u))] [.int (iI (ln u)), .int (iI ((ln t) - m))]
            refine r_iadd 70 hE (((ln t) - m) + (ln u)) dX8_wrongSplice_69 rfl rfl ?_
            refine r_sipush 73 hE dX8_wrongSplice_70 rfl (by decide) ?_
            refine r_icmp_le 76 81 hE dX8_wrongSplice_73 rfl (by decide) (by omega) (fun c73 => ?_) (fun c73 => ?_)
            · skip
              refine r_iconst 82 hE dX8_wrongSplice_81 rfl ?_
              refine G.to (fs' := [(wMain g x tpa (a 0) da pa qa rua wa sa bka taped told), (wShelf g a L ln tp rd cnt era nws)]) [1, 0] [0, 1, 2, 3, 4] rfl rfl rfl ?_
              refine r_ireturn hE hR [(wMain g x tpa (a 0) da pa qa rua wa sa bka taped told), (wShelf g a L ln tp rd cnt era nws)] dX8_wrongSplice_82 (Nat.le_of_ble_eq_true rfl) (Nat.le_of_ble_eq_true rfl) rfl ?_
              exact ⟨retI (by unfold wsF; (repeat (first | rw [if_pos (by omega)] | rw [if_neg (by omega)]))), rfl⟩
            · skip
              refine r_bipush 78 hE dX8_wrongSplice_76 rfl (by decide) ?_
              refine r_goto 82 hE dX8_wrongSplice_78 (by decide) ?_
              refine G.to (fs' := [(wMain g x tpa (a 0) da pa qa rua wa sa bka taped told), (wShelf g a L ln tp rd cnt era nws)]) [1, 0] [0, 1, 2, 3, 4] rfl rfl rfl ?_
              refine r_ireturn hE hR [(wMain g x tpa (a 0) da pa qa rua wa sa bka taped told), (wShelf g a L ln tp rd cnt era nws)] dX8_wrongSplice_82 (Nat.le_of_ble_eq_true rfl) (Nat.le_of_ble_eq_true rfl) rfl ?_
              exact ⟨retI (by unfold wsF; (repeat (first | rw [if_pos (by omega)] | rw [if_neg (by omega)]))), rfl⟩
          · skip
            have c45 := bI0 c45
            refine r_iconst 49 hE dX8_wrongSplice_48 rfl ?_
            refine G.to (fs' := [(wMain g x tpa (a 0) da pa qa rua wa sa bka taped told), (wShelf g a L ln tp rd cnt era nws)]) [1, 0] [0, 1, 2, 3, 4] rfl rfl rfl ?_
            refine r_ireturn hE hR [(wMain g x tpa (a 0) da pa qa rua wa sa bka taped told), (wShelf g a L ln tp rd cnt era nws)] dX8_wrongSplice_49 (Nat.le_of_ble_eq_true rfl) (Nat.le_of_ble_eq_true rfl) rfl ?_
            exact ⟨retI (by unfold wsF; (repeat (first | rw [if_pos (by omega)] | rw [if_neg (by omega)]))), rfl⟩
        · skip
          have c30 := bI0 c30
          refine r_iconst 34 hE dX8_wrongSplice_33 rfl ?_
          refine G.to (fs' := [(wMain g x tpa (a 0) da pa qa rua wa sa bka taped told), (wShelf g a L ln tp rd cnt era nws)]) [1, 0] [0, 1, 2, 3, 4] rfl rfl rfl ?_
          refine r_ireturn hE hR [(wMain g x tpa (a 0) da pa qa rua wa sa bka taped told), (wShelf g a L ln tp rd cnt era nws)] dX8_wrongSplice_34 (Nat.le_of_ble_eq_true rfl) (Nat.le_of_ble_eq_true rfl) rfl ?_
          exact ⟨retI (by unfold wsF; (repeat (first | rw [if_pos (by omega)] | rw [if_neg (by omega)]))), rfl⟩
    · skip
      refine r_iconst 9 hE dX8_wrongSplice_8 rfl ?_
      refine r_ireturn hE hR [(wMain g x tpa (a 0) da pa qa rua wa sa bka taped told), (wShelf g a L ln tp rd cnt era nws)] dX8_wrongSplice_9 (Nat.le_of_ble_eq_true rfl) (Nat.le_of_ble_eq_true rfl) rfl ?_
      exact ⟨retI (by unfold wsF; (repeat (first | rw [if_pos (by omega)] | rw [if_neg (by omega)]))), rfl⟩
set_option maxHeartbeats 4000000 in
set_option maxRecDepth 100000 in
theorem c_X8_draftSplice {g : Gm} {a : Nat → Nat} {L ln tp rd : Int → Int} {cnt era nws : Int} {r : Nat → Nat} {m : Nat} {RL : Int → Int} {rlen : Int} {x tpa pa qa rua wa sa bka : Nat} {taped told : Int} {t p m_ u : Int} (hc : 0 ≤ cnt ∧ cnt ≤ 8) (hln : ∀ j, 0 ≤ j → j < cnt → 0 ≤ ln j ∧ ln j ≤ 600) (hB : BR L) (hBR : BR RL) (ht : 0 ≤ t ∧ t < cnt) (hu : 0 ≤ u ∧ u < cnt) (hp : 0 ≤ p ∧ 0 ≤ m_ ∧ p + m_ ≤ ln t) (hl : ln t - m_ + ln u ≤ 600) (hm6 : (m : Int) = 600) : Ct g 3 0 0 yX8_draftSplice cX8_draftSplice 6 none [.ref x, .int (iI t), .int (iI p), .int (iI m_), .int (iI u)] [(wMain g x tpa (a 0) (r 0) pa qa rua wa sa bka taped told), (wShelf g a L ln tp rd cnt era nws), (wRow g r m RL rlen)] (fun v_ w_ => ∃ RL9 : Int → Int, v_ = none ∧ w_ = [(wMain g x tpa (a 0) (r 0) pa qa rua wa sa bka taped told), (wShelf g a L ln tp rd cnt era nws), (wRow g r m RL9 (ln t - m_ + ln u))] ∧ (∀ k, 0 ≤ k → k < ln t - m_ + ln u → RL9 k = splF (tx L t) p m_ (tx L u) (ln u) k) ∧ (BR RL9)) := by
  refine Ct.of (by decide) (Nat.le_of_ble_eq_true rfl) (lv := [(0, .ref x), (1, .int (iI t)), (2, .int (iI p)), (3, .int (iI m_)), (4, .int (iI u))]) rfl ?_
  intro E hE hR hnm
  have hl1 := hln t ht.1 ht.2
  have hl2 := hln u hu.1 hu.2
  refine r_iload_n 1 hE 2 dX8_draftSplice_0 rfl rfl rfl ?_
  refine r_iload_n 2 hE 3 dX8_draftSplice_1 rfl rfl rfl ?_
  refine r_iadd 3 hE (p + m_) dX8_draftSplice_2 rfl rfl ?_
  refine r_istore 5 hE [(5, .int (iI (p + m_))), (0, .ref x), (1, .int (iI t)), (2, .int (iI p)), (3, .int (iI m_)), (4, .int (iI u))] dX8_draftSplice_3 rfl (by decide) rfl ?_
  refine r_aload_n 6 hE 1 dX8_draftSplice_5 rfl rfl rfl ?_
  refine r_get 9 hE 0 0 ok8 5 dX8_draftSplice_6 rfl wd_302 rfl rfl (by decide) rfl ?_
  refine r_callV 12 hE [2] [0, 1] [(wRow g r m RL rlen)] [(wMain g x tpa (a 0) (r 0) pa qa rua wa sa bka taped told), (wShelf g a L ln tp rd cnt era nws)] 0 2 ok2 [] (c_X2_clear) dX8_draftSplice_9 rfl rfl wd_877 wd_549 wd_550 wd_5 wd_551 ne_X2 np_X2_clear (Nat.le_of_ble_eq_true rfl)  (by decide) (by decide) rfl (Nat.le_of_ble_eq_true rfl) rfl rfl rfl rfl (by decide) rfl (fun v1 f1 hp => ?_)
  obtain ⟨rfl, rfl⟩ := hp
  show G g E _ _ _ [(wRow g r m RL 0), (wMain g x tpa (a 0) (r 0) pa qa rua wa sa bka taped told), (wShelf g a L ln tp rd cnt era nws)] 12 [(5, .int (iI (p + m_))), (0, .ref x), (1, .int (iI t)), (2, .int (iI p)), (3, .int (iI m_)), (4, .int (iI u))] []
  refine r_aload_n 13 hE 1 dX8_draftSplice_12 rfl rfl rfl ?_
  refine r_get 16 hE 1 0 ok8 5 dX8_draftSplice_13 rfl wd_302 rfl rfl (by decide) rfl ?_
  refine r_aload_n 17 hE 1 dX8_draftSplice_16 rfl rfl rfl ?_
  refine r_get 20 hE 1 0 ok8 4 dX8_draftSplice_17 rfl wd_301 rfl rfl (by decide) rfl ?_
  refine r_iload_n 21 hE 2 dX8_draftSplice_20 rfl rfl rfl ?_
  refine r_iconst 22 hE dX8_draftSplice_21 rfl ?_
  refine r_iload_n 23 hE 3 dX8_draftSplice_22 rfl rfl rfl ?_
  refine r_callV 26 hE [0, 2] [1] [(wRow g r m RL 0), (wShelf g a L ln tp rd cnt era nws)] [(wMain g x tpa (a 0) (r 0) pa qa rua wa sa bka taped told)] 0 2 ok2 [] (c_X2_addPart (by omega) (by omega) (hln) (hB) (by omega) (by omega) (by omega)) dX8_draftSplice_23 rfl rfl wd_878 wd_879 wd_880 wd_5 wd_881 ne_X2 np_X2_addPart (Nat.le_of_ble_eq_true rfl)  (by decide) (by decide) rfl (Nat.le_of_ble_eq_true rfl) rfl rfl rfl rfl (by decide) rfl (fun v1 f1 hp => ?_)
  obtain ⟨rfl, rfl⟩ := hp
  show G g E _ _ _ [(wRow g r m (cpy L RL (t * 600 + 0) 0 p) (0 + p)), (wShelf g a L ln tp rd cnt era nws), (wMain g x tpa (a 0) (r 0) pa qa rua wa sa bka taped told)] 26 [(5, .int (iI (p + m_))), (0, .ref x), (1, .int (iI t)), (2, .int (iI p)), (3, .int (iI m_)), (4, .int (iI u))] []
  refine r_aload_n 27 hE 1 dX8_draftSplice_26 rfl rfl rfl ?_
  refine r_get 30 hE 2 0 ok8 5 dX8_draftSplice_27 rfl wd_302 rfl rfl (by decide) rfl ?_
  refine r_aload_n 31 hE 1 dX8_draftSplice_30 rfl rfl rfl ?_
  refine r_get 34 hE 2 0 ok8 4 dX8_draftSplice_31 rfl wd_301 rfl rfl (by decide) rfl ?_
  refine r_iload 36 hE 5 dX8_draftSplice_34 rfl rfl ?_
  refine r_callV 39 hE [0, 1] [2] [(wRow g r m (cpy L RL (t * 600 + 0) 0 p) (0 + p)), (wShelf g a L ln tp rd cnt era nws)] [(wMain g x tpa (a 0) (r 0) pa qa rua wa sa bka taped told)] 0 2 ok2 [] (c_X2_addWhole (by omega) (by omega) (hln) (hB) (by omega) (by omega)) dX8_draftSplice_36 rfl rfl wd_900 wd_574 wd_575 wd_5 wd_576 ne_X2 np_X2_addWhole (Nat.le_of_ble_eq_true rfl)  (by decide) (by decide) rfl (Nat.le_of_ble_eq_true rfl) rfl rfl rfl rfl (by decide) rfl (fun v1 f1 hp => ?_)
  obtain ⟨rfl, rfl⟩ := hp
  show G g E _ _ _ [(wRow g r m (cpy L (cpy L RL (t * 600 + 0) 0 p) (u * 600) (0 + p) (ln u)) ((0 + p) + ln u)), (wShelf g a L ln tp rd cnt era nws), (wMain g x tpa (a 0) (r 0) pa qa rua wa sa bka taped told)] 39 [(5, .int (iI (p + m_))), (0, .ref x), (1, .int (iI t)), (2, .int (iI p)), (3, .int (iI m_)), (4, .int (iI u))] []
  refine r_aload_n 40 hE 1 dX8_draftSplice_39 rfl rfl rfl ?_
  refine r_get 43 hE 2 0 ok8 5 dX8_draftSplice_40 rfl wd_302 rfl rfl (by decide) rfl ?_
  refine r_aload_n 44 hE 1 dX8_draftSplice_43 rfl rfl rfl ?_
  refine r_get 47 hE 2 0 ok8 4 dX8_draftSplice_44 rfl wd_301 rfl rfl (by decide) rfl ?_
  refine r_iload_n 48 hE 2 dX8_draftSplice_47 rfl rfl rfl ?_
  refine r_iload 50 hE 0 dX8_draftSplice_48 rfl rfl ?_
  refine r_aload_n 51 hE 1 dX8_draftSplice_50 rfl rfl rfl ?_
  refine r_get 54 hE 2 0 ok8 4 dX8_draftSplice_51 rfl wd_301 rfl rfl (by decide) rfl ?_
  refine r_iload_n 55 hE 2 dX8_draftSplice_54 rfl rfl rfl ?_
  refine r_callV 58 hE [1] [0, 2] [(wShelf g a L ln tp rd cnt era nws)] [(wRow g r m (cpy L (cpy L RL (t * 600 + 0) 0 p) (u * 600) (0 + p) (ln u)) ((0 + p) + ln u)), (wMain g x tpa (a 0) (r 0) pa qa rua wa sa bka taped told)] 0 5 ok5 [.int (iI (p + m_)), .int (iI t), .ref (a 0), .ref (r 0)] (c_X5_lengthOf (by omega) (by omega)) dX8_draftSplice_55 rfl rfl wd_630 wd_631 wd_632 wd_4 wd_633 ne_X5 np_X5_lengthOf (Nat.le_of_ble_eq_true rfl)  (by decide) (by decide) rfl (Nat.le_of_ble_eq_true rfl) rfl rfl rfl rfl (by decide) rfl (fun v1 f1 hp => ?_)
  obtain ⟨rfl, rfl⟩ := hp
  show G g E _ _ _ [(wShelf g a L ln tp rd cnt era nws), (wRow g r m (cpy L (cpy L RL (t * 600 + 0) 0 p) (u * 600) (0 + p) (ln u)) ((0 + p) + ln u)), (wMain g x tpa (a 0) (r 0) pa qa rua wa sa bka taped told)] 58 [(5, .int (iI (p + m_))), (0, .ref x), (1, .int (iI t)), (2, .int (iI p)), (3, .int (iI m_)), (4, .int (iI u))] [.int (iI (ln t)), .int (iI (p + m_)), .int (iI t), .ref (a 0), .ref (r 0)]
  refine r_iload 60 hE 0 dX8_draftSplice_58 rfl rfl ?_
  refine r_isub 61 hE ((ln t) - (p + m_)) dX8_draftSplice_60 rfl rfl ?_
  refine r_callV 64 hE [1, 0] [2] [(wRow g r m (cpy L (cpy L RL (t * 600 + 0) 0 p) (u * 600) (0 + p) (ln u)) ((0 + p) + ln u)), (wShelf g a L ln tp rd cnt era nws)] [(wMain g x tpa (a 0) (r 0) pa qa rua wa sa bka taped told)] 0 2 ok2 [] (c_X2_addPart (by omega) (by omega) (hln) (hB) (by omega) (by omega) (by omega)) dX8_draftSplice_61 rfl rfl wd_878 wd_879 wd_880 wd_5 wd_881 ne_X2 np_X2_addPart (Nat.le_of_ble_eq_true rfl)  (by decide) (by decide) rfl (Nat.le_of_ble_eq_true rfl) rfl rfl rfl rfl (by decide) rfl (fun v1 f1 hp => ?_)
  obtain ⟨rfl, rfl⟩ := hp
  show G g E _ _ _ [(wRow g r m (cpy L (cpy L (cpy L RL (t * 600 + 0) 0 p) (u * 600) (0 + p) (ln u)) (t * 600 + (p + m_)) ((0 + p) + ln u) ((ln t) - (p + m_))) (((0 + p) + ln u) + ((ln t) - (p + m_)))), (wShelf g a L ln tp rd cnt era nws), (wMain g x tpa (a 0) (r 0) pa qa rua wa sa bka taped told)] 64 [(5, .int (iI (p + m_))), (0, .ref x), (1, .int (iI t)), (2, .int (iI p)), (3, .int (iI m_)), (4, .int (iI u))] []
  refine G.to (fs' := [(wMain g x tpa (a 0) (r 0) pa qa rua wa sa bka taped told), (wShelf g a L ln tp rd cnt era nws), (wRow g r m (cpy L (cpy L (cpy L RL (t * 600 + 0) 0 p) (u * 600) (0 + p) (ln u)) (t * 600 + (p + m_)) ((0 + p) + ln u) ((ln t) - (p + m_))) (((0 + p) + ln u) + ((ln t) - (p + m_))))]) [2, 1, 0] [0, 1, 2, 3, 4, 5] rfl rfl rfl ?_
  refine r_return hE hR [(wMain g x tpa (a 0) (r 0) pa qa rua wa sa bka taped told), (wShelf g a L ln tp rd cnt era nws), (wRow g r m (cpy L (cpy L (cpy L RL (t * 600 + 0) 0 p) (u * 600) (0 + p) (ln u)) (t * 600 + (p + m_)) ((0 + p) + ln u) ((ln t) - (p + m_))) (((0 + p) + ln u) + ((ln t) - (p + m_))))] dX8_draftSplice_64 (Nat.le_of_ble_eq_true rfl) (Nat.le_of_ble_eq_true rfl) rfl ?_
  refine ⟨_, rfl, by rw [show 0 + p + ln u + (ln t - (p + m_)) = ln t - m_ + ln u by omega], fun k k0 k1 => ?_, BR_cpy hB (BR_cpy hB (BR_cpy hB hBR _ _ _) _ _ _) _ _ _⟩
  exact spl_ok hl1 hl2 hp k0 k1
set_option maxHeartbeats 4000000 in
set_option maxRecDepth 100000 in
theorem c_X8_lesserWrong {g : Gm} {v u : Int} (hv : 0 ≤ v ∧ v ≤ 9) (hu : 0 ≤ u ∧ u ≤ 9) : Ct g 1 0 0 yX8_lesserWrong cX8_lesserWrong 2 (some .int) [.int (iI v), .int (iI u)] [] (fun v_ w_ => v_ = some (.int (iI (lwF v u))) ∧ w_ = []) := by
  refine Ct.of (by decide) (Nat.le_of_ble_eq_true rfl) (lv := [(0, .int (iI v)), (1, .int (iI u))]) rfl ?_
  intro E hE hR hnm
  refine r_iload_n 1 hE 0 dX8_lesserWrong_0 rfl rfl rfl ?_
  refine r_if_eq 4 8 hE dX8_lesserWrong_1 rfl (by decide) (by omega) (fun c1 => ?_) (fun c1 => ?_)
  · skip
    refine r_iload_n 9 hE 0 dX8_lesserWrong_8 rfl rfl rfl ?_
    refine r_iload_n 10 hE 1 dX8_lesserWrong_9 rfl rfl rfl ?_
    refine r_iadd 11 hE (v + u) dX8_lesserWrong_10 rfl rfl ?_
    refine r_ireturn hE hR [] dX8_lesserWrong_11 (Nat.le_of_ble_eq_true rfl) (Nat.le_of_ble_eq_true rfl) rfl ?_
    exact ⟨retI (by unfold lwF; first | rw [if_pos (by omega)] | rw [if_neg (by omega)]), rfl⟩
  · skip
    refine r_iload_n 5 hE 1 dX8_lesserWrong_4 rfl rfl rfl ?_
    refine r_if_ne 8 12 hE dX8_lesserWrong_5 rfl (by decide) (by omega) (fun c5 => ?_) (fun c5 => ?_)
    · skip
      refine r_iload_n 13 hE 0 dX8_lesserWrong_12 rfl rfl rfl ?_
      refine r_iload_n 14 hE 1 dX8_lesserWrong_13 rfl rfl rfl ?_
      refine r_min 17 hE dX8_lesserWrong_14 rfl wd_972 wd_360 wd_6 wd_361 (Nat.le_of_ble_eq_true rfl) (by decide) (by decide) (Nat.le_of_ble_eq_true rfl) (by omega) ?_
      refine r_ireturn hE hR [] dX8_lesserWrong_17 (Nat.le_of_ble_eq_true rfl) (Nat.le_of_ble_eq_true rfl) rfl ?_
      exact ⟨retI (by unfold lwF; first | rw [if_pos (by omega)] | rw [if_neg (by omega)]), rfl⟩
    · skip
      refine r_iload_n 9 hE 0 dX8_lesserWrong_8 rfl rfl rfl ?_
      refine r_iload_n 10 hE 1 dX8_lesserWrong_9 rfl rfl rfl ?_
      refine r_iadd 11 hE (v + u) dX8_lesserWrong_10 rfl rfl ?_
      refine r_ireturn hE hR [] dX8_lesserWrong_11 (Nat.le_of_ble_eq_true rfl) (Nat.le_of_ble_eq_true rfl) rfl ?_
      exact ⟨retI (by unfold lwF; first | rw [if_pos (by omega)] | rw [if_neg (by omega)]), rfl⟩
