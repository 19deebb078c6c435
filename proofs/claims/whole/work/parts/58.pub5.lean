set_option maxHeartbeats 4000000 in
set_option maxRecDepth 100000 in
theorem c_X8_around {g : Gm} {a : Nat → Nat} {L ln tp rd : Int → Int} {cnt era nws : Int} {ru : Nat → Nat} {kd fi se sg le de nx he ro : Int → Int} {rc re rr : Int} {R : Int → Rl} {w : Nat → Nat} {sp nb mt pl op no : Int → Int} {od stm wc : Int} {x tpa da pa qa sa bka : Nat} {taped told : Int} {t p_ i_ : Int} (hT : RT kd fi se sg le de nx he rc R) (hsh : ShOk L ln cnt) (hto : TopsOk R rc L ln tp rd cnt) (ht : 0 ≤ t ∧ t < cnt) (hWI : 0 ≤ stm ∧ ∀ i, 0 ≤ i → i < 10240 → 0 ≤ sp i ∧ sp i ≤ stm) (hs2 : stm ≤ 1500000000) (hpi : (0 ≤ p_ ∧ p_ < ln t) ∧ (0 ≤ i_ ∧ i_ ≤ 2147483647)) (hk : ∀ T q, BIs (lts (tx L t) 0 (ln t)) T q → arN i_.toNat T p_ ≠ none) : Ct g 6 0 0 yX8_around cX8_around 6 (some .int) [.ref x, .int (iI t), .int (iI p_), .int (iI i_)] [(wMain g x tpa (a 0) da pa qa (ru 0) (w 0) sa bka taped told), (wShelf g a L ln tp rd cnt era nws), (wWalk g w (ru 0) sp nb mt pl op no od stm wc), (wRules g ru kd fi se sg le de nx he ro rc re rr)] (fun v_ w_ => ∃ sp9 : Int → Int, ∃ nb9 : Int → Int, ∃ mt9 : Int → Int, ∃ pl9 : Int → Int, ∃ op9 : Int → Int, ∃ no9 : Int → Int, ∃ od9 : Int, ∃ wc9 : Int, ∃ r9 : Int, v_ = some (.int (iI r9)) ∧ w_ = [(wMain g x tpa (a 0) da pa qa (ru 0) (w 0) sa bka taped 0), (wShelf g a L ln tp rd cnt era nws), (wWalk g w (ru 0) sp9 nb9 mt9 pl9 op9 no9 od9 (stm + 1) wc9), (wRules g ru kd fi se sg le de nx he ro rc re rr)] ∧ (0 ≤ stm + 1 ∧ ∀ i, 0 ≤ i → i < 10240 → 0 ≤ sp9 i ∧ sp9 i ≤ stm + 1) ∧ (∃ T q a, BIs (lts (tx L t) 0 (ln t)) T q ∧ ((vis T 0 []).map Prod.fst).Nodup ∧ arN i_.toNat T p_ = some a ∧ IdxV (vis T 0 []) a r9)) := by
  refine Ct.of (by decide) (Nat.le_of_ble_eq_true rfl) (lv := [(0, .ref x), (1, .int (iI t)), (2, .int (iI p_)), (3, .int (iI i_))]) rfl ?_
  intro E hE hR hnm
  have hc := hsh.1
  have hln := hsh.ln
  have hB := hsh.2.1
  have hcn := hT.1
  have htr := (hto t ht.1 ht.2).1
  have hrr := hT.2.1 (tp t) htr.1 htr.2
  have hbt := (hto t ht.1 ht.2).2
  rw [lts_tx] at hbt
  have hl1 := hln t ht.1 ht.2
  have hwp : wpF ln cnt t p_ 0 = 0 := by unfold wpF; (repeat (first | rw [if_pos (by omega)] | rw [if_neg (by omega)]))
  refine r_iload_n 1 hE 3 dX8_around_0 rfl rfl rfl ?_
  refine r_if_ge 4 8 hE dX8_around_1 rfl (by decide) (by omega) (fun c1 => ?_) (fun c1 => ?_)
  · skip
    refine r_aload_n 9 hE 0 dX8_around_8 rfl rfl rfl ?_
    refine r_iload_n 10 hE 1 dX8_around_9 rfl rfl rfl ?_
    refine r_iload_n 11 hE 2 dX8_around_10 rfl rfl rfl ?_
    refine r_iconst 12 hE dX8_around_11 rfl ?_
    refine r_callV 15 hE [0, 1] [2, 3] [(wMain g x tpa (a 0) da pa qa (ru 0) (w 0) sa bka taped told), (wShelf g a L ln tp rd cnt era nws)] [(wWalk g w (ru 0) sp nb mt pl op no od stm wc), (wRules g ru kd fi se sg le de nx he ro rc re rr)] 0 8 ok8 [] (c_X8_wrongPlace (by omega) (hln) (by omega) (by omega) (by omega)) dX8_around_12 rfl rfl wd_814 wd_816 ws_38 wd_1 wd_817 ne_X8 np_X8_wrongPlace (Nat.le_of_ble_eq_true rfl)  (by decide) (by decide) rfl (Nat.le_of_ble_eq_true rfl) rfl rfl rfl rfl (by decide) rfl (fun v1 f1 hp => ?_)
    obtain ⟨rfl, rfl⟩ := hp
    show G g E _ _ _ [(wMain g x tpa (a 0) da pa qa (ru 0) (w 0) sa bka taped told), (wShelf g a L ln tp rd cnt era nws), (wWalk g w (ru 0) sp nb mt pl op no od stm wc), (wRules g ru kd fi se sg le de nx he ro rc re rr)] 15 [(0, .ref x), (1, .int (iI t)), (2, .int (iI p_)), (3, .int (iI i_))] [.int (iI (wpF ln cnt t p_ 0))]
    refine r_istore 17 hE [(4, .int (iI (wpF ln cnt t p_ 0))), (0, .ref x), (1, .int (iI t)), (2, .int (iI p_)), (3, .int (iI i_))] dX8_around_15 rfl (by decide) rfl ?_
    refine r_iload 19 hE 0 dX8_around_17 rfl rfl ?_
    refine r_if_eq 22 29 hE dX8_around_19 rfl (by decide) (by rw [hwp]; omega) (fun c19 => ?_) (fun c19 => ?_)
    · skip
      refine r_aload_n 30 hE 1 dX8_around_29 rfl rfl rfl ?_
      refine r_get 33 hE 0 0 ok8 9 dX8_around_30 rfl wd_306 rfl rfl (by decide) rfl ?_
      refine r_aload_n 34 hE 1 dX8_around_33 rfl rfl rfl ?_
      refine r_get 37 hE 0 0 ok8 4 dX8_around_34 rfl wd_301 rfl rfl (by decide) rfl ?_
      refine r_iload_n 38 hE 2 dX8_around_37 rfl rfl rfl ?_
      refine r_callV 41 hE [1] [0, 2, 3] [(wShelf g a L ln tp rd cnt era nws)] [(wMain g x tpa (a 0) da pa qa (ru 0) (w 0) sa bka taped told), (wWalk g w (ru 0) sp nb mt pl op no od stm wc), (wRules g ru kd fi se sg le de nx he ro rc re rr)] 0 5 ok5 [.ref (ru 0)] (c_X5_topOf (by omega) (by omega)) dX8_around_38 rfl rfl wd_680 wd_681 wd_682 wd_4 wd_683 ne_X5 np_X5_topOf (Nat.le_of_ble_eq_true rfl)  (by decide) (by decide) rfl (Nat.le_of_ble_eq_true rfl) rfl rfl rfl rfl (by decide) rfl (fun v1 f1 hp => ?_)
      obtain ⟨rfl, rfl⟩ := hp
      show G g E _ _ _ [(wShelf g a L ln tp rd cnt era nws), (wMain g x tpa (a 0) da pa qa (ru 0) (w 0) sa bka taped told), (wWalk g w (ru 0) sp nb mt pl op no od stm wc), (wRules g ru kd fi se sg le de nx he ro rc re rr)] 41 [(4, .int (iI (wpF ln cnt t p_ 0))), (0, .ref x), (1, .int (iI t)), (2, .int (iI p_)), (3, .int (iI i_))] [.int (iI (tp t)), .ref (ru 0)]
      refine r_iload_n 42 hE 3 dX8_around_41 rfl rfl rfl ?_
      refine r_iload_n 43 hE 4 dX8_around_42 rfl rfl rfl ?_
      refine r_callV 46 hE [3] [0, 1, 2] [(wRules g ru kd fi se sg le de nx he ro rc re rr)] [(wShelf g a L ln tp rd cnt era nws), (wMain g x tpa (a 0) da pa qa (ru 0) (w 0) sa bka taped told), (wWalk g w (ru 0) sp nb mt pl op no od stm wc)] 0 3 ok3 [] (c_X3_partAround (hT) (htr) (by omega) (by omega)) dX8_around_43 rfl rfl wd_855 wd_856 wd_857 wd_9 wd_858 ne_X3 np_X3_partAround (Nat.le_of_ble_eq_true rfl)  (by decide) (by decide) rfl (Nat.le_of_ble_eq_true rfl) rfl rfl rfl rfl (by decide) rfl (fun v1 f1 hp => ?_)
      obtain ⟨x9_43, rfl, rfl, h43_0⟩ := hp
      show G g E _ _ _ [(wRules g ru kd fi se sg le de nx he ro rc re rr), (wShelf g a L ln tp rd cnt era nws), (wMain g x tpa (a 0) da pa qa (ru 0) (w 0) sa bka taped told), (wWalk g w (ru 0) sp nb mt pl op no od stm wc)] 46 [(4, .int (iI (wpF ln cnt t p_ 0))), (0, .ref x), (1, .int (iI t)), (2, .int (iI p_)), (3, .int (iI i_))] [.int (iI x9_43)]
      have hx9 : (0 ≤ x9_43 ∧ x9_43 < rc) ∧ arN i_.toNat (R (tp t)) p_ = some (R x9_43) := by
        rcases h43_0 with z | z
        · exact absurd z.2 (hk _ _ hbt)
        · exact ⟨⟨z.1, z.2.1⟩, z.2.2⟩
      refine r_istore 48 hE [(5, .int (iI x9_43)), (4, .int (iI (wpF ln cnt t p_ 0))), (0, .ref x), (1, .int (iI t)), (2, .int (iI p_)), (3, .int (iI i_))] dX8_around_46 rfl (by decide) rfl ?_
      refine r_iload 50 hE 0 dX8_around_48 rfl rfl ?_
      refine r_iconst 51 hE dX8_around_50 rfl ?_
      refine r_icmp_ne 54 60 hE dX8_around_51 rfl (by decide) (by omega) (fun c51 => ?_) (fun c51 => ?_)
      · skip
        refine r_aload_n 61 hE 2 dX8_around_60 rfl rfl rfl ?_
        refine r_iload_n 62 hE 3 dX8_around_61 rfl rfl rfl ?_
        refine r_callV 65 hE [2, 1, 3, 0] [] [(wMain g x tpa (a 0) da pa qa (ru 0) (w 0) sa bka taped told), (wShelf g a L ln tp rd cnt era nws), (wWalk g w (ru 0) sp nb mt pl op no od stm wc), (wRules g ru kd fi se sg le de nx he ro rc re rr)] [] 0 8 ok8 [] (c_X8_number (hT) (by omega) (by omega) (htr) (hWI) (by omega)) dX8_around_62 rfl rfl wd_765 wd_767 ws_35 wd_1 wd_768 ne_X8 np_X8_number (Nat.le_of_ble_eq_true rfl)  (by decide) (by decide) rfl (Nat.le_of_ble_eq_true rfl) rfl rfl rfl rfl (by decide) rfl (fun v1 f1 hp => ?_)
        obtain ⟨sp9_62, nb9_62, mt9_62, pl9_62, op9_62, no9_62, od9_62, wc9_62, V9_62, rfl, rfl, h62_0, h62_1⟩ := hp
        show G g E _ _ _ [(wMain g x tpa (a 0) da pa qa (ru 0) (w 0) sa bka taped told), (wShelf g a L ln tp rd cnt era nws), (wWalk g w (ru 0) sp9_62 nb9_62 mt9_62 pl9_62 op9_62 no9_62 od9_62 (stm + 1) wc9_62), (wRules g ru kd fi se sg le de nx he ro rc re rr)] 65 [(5, .int (iI x9_43)), (4, .int (iI (wpF ln cnt t p_ 0))), (0, .ref x), (1, .int (iI t)), (2, .int (iI p_)), (3, .int (iI i_))] [.int (iI wc9_62)]
        have hst9 := h62_0.stamp hx9.1 hcn.2 (by rw [h62_1]; exact ar_in (fun q z => vis_parts z) _ (vis_closed _ _ _).2.1 hx9.2)
        refine r_pop 66 hE dX8_around_65 rfl rfl ?_
        refine r_aload_n 67 hE 2 dX8_around_66 rfl rfl rfl ?_
        refine r_aload_n 68 hE 2 dX8_around_67 rfl rfl rfl ?_
        refine r_get 71 hE 0 0 ok8 8 dX8_around_68 rfl wd_305 rfl rfl (by decide) rfl ?_
        refine r_iload 73 hE 0 dX8_around_71 rfl rfl ?_
        refine r_callV 76 hE [2, 3] [0, 1] [(wWalk g w (ru 0) sp9_62 nb9_62 mt9_62 pl9_62 op9_62 no9_62 od9_62 (stm + 1) wc9_62), (wRules g ru kd fi se sg le de nx he ro rc re rr)] [(wMain g x tpa (a 0) da pa qa (ru 0) (w 0) sa bka taped told), (wShelf g a L ln tp rd cnt era nws)] 0 7 ok7 [.ref x] (c_X7_numberOf (hT) (h62_0) (hx9.1) (hst9) (by omega)) dX8_around_73 rfl rfl wd_834 wd_835 wd_836 wd_8 wd_837 ne_X7 np_X7_numberOf (Nat.le_of_ble_eq_true rfl)  (by decide) (by decide) rfl (Nat.le_of_ble_eq_true rfl) rfl rfl rfl rfl (by decide) rfl (fun v1 f1 hp => ?_)
        obtain ⟨rfl, rfl⟩ := hp
        show G g E _ _ _ [(wWalk g w (ru 0) sp9_62 nb9_62 mt9_62 pl9_62 op9_62 no9_62 od9_62 (stm + 1) wc9_62), (wRules g ru kd fi se sg le de nx he ro rc re rr), (wMain g x tpa (a 0) da pa qa (ru 0) (w 0) sa bka taped told), (wShelf g a L ln tp rd cnt era nws)] 76 [(5, .int (iI x9_43)), (4, .int (iI (wpF ln cnt t p_ 0))), (0, .ref x), (1, .int (iI t)), (2, .int (iI p_)), (3, .int (iI i_))] [.int (iI (nb9_62 x9_43)), .ref x]
        refine r_callV 79 hE [2] [0, 1, 3] [(wMain g x tpa (a 0) da pa qa (ru 0) (w 0) sa bka taped told)] [(wWalk g w (ru 0) sp9_62 nb9_62 mt9_62 pl9_62 op9_62 no9_62 od9_62 (stm + 1) wc9_62), (wRules g ru kd fi se sg le de nx he ro rc re rr), (wShelf g a L ln tp rd cnt era nws)] 0 8 ok8 [] (c_X8_answer) dX8_around_76 rfl rfl wd_739 wd_741 ws_33 wd_1 wd_742 ne_X8 np_X8_answer (Nat.le_of_ble_eq_true rfl)  (by decide) (by decide) rfl (Nat.le_of_ble_eq_true rfl) rfl rfl rfl rfl (by decide) rfl (fun v1 f1 hp => ?_)
        obtain ⟨rfl, rfl⟩ := hp
        show G g E _ _ _ [(wMain g x tpa (a 0) da pa qa (ru 0) (w 0) sa bka taped 0), (wWalk g w (ru 0) sp9_62 nb9_62 mt9_62 pl9_62 op9_62 no9_62 od9_62 (stm + 1) wc9_62), (wRules g ru kd fi se sg le de nx he ro rc re rr), (wShelf g a L ln tp rd cnt era nws)] 79 [(5, .int (iI x9_43)), (4, .int (iI (wpF ln cnt t p_ 0))), (0, .ref x), (1, .int (iI t)), (2, .int (iI p_)), (3, .int (iI i_))] [.int (iI (nb9_62 x9_43))]
        refine G.to (fs' := [(wMain g x tpa (a 0) da pa qa (ru 0) (w 0) sa bka taped 0), (wShelf g a L ln tp rd cnt era nws), (wWalk g w (ru 0) sp9_62 nb9_62 mt9_62 pl9_62 op9_62 no9_62 od9_62 (stm + 1) wc9_62), (wRules g ru kd fi se sg le de nx he ro rc re rr)]) [0, 3, 1, 2] [0, 1, 2, 3, 4, 5] rfl rfl rfl ?_
        refine r_ireturn hE hR [(wMain g x tpa (a 0) da pa qa (ru 0) (w 0) sa bka taped 0), (wShelf g a L ln tp rd cnt era nws), (wWalk g w (ru 0) sp9_62 nb9_62 mt9_62 pl9_62 op9_62 no9_62 od9_62 (stm + 1) wc9_62), (wRules g ru kd fi se sg le de nx he ro rc re rr)] dX8_around_79 (Nat.le_of_ble_eq_true rfl) (Nat.le_of_ble_eq_true rfl) rfl ?_
        have hnd := h62_0.2.2.2.2.2.2
        have hix := h62_0.idx hx9.1 hst9
        rw [h62_1] at hnd hix
        exact ⟨_, _, _, _, _, _, _, _, _, rfl, rfl, h62_0.2.1, R (tp t), _, _, hbt, hnd, hx9.2, hix⟩
      · skip
        omega
    · skip
      exact absurd hwp c19
  · skip
    omega
set_option maxHeartbeats 4000000 in
set_option maxRecDepth 100000 in
theorem c_X8_around_5n {g : Gm} {a : Nat → Nat} {L ln tp rd : Int → Int} {cnt era nws : Int} {ru : Nat → Nat} {kd fi se sg le de nx he ro : Int → Int} {rc re rr : Int} {R : Int → Rl} {x tpa da pa qa wa sa bka : Nat} {taped told : Int} {t p_ i_ : Int} (hT : RT kd fi se sg le de nx he rc R) (hsh : ShOk L ln cnt) (hto : TopsOk R rc L ln tp rd cnt) (ht : 0 ≤ t ∧ t < cnt) (hpi : (0 ≤ p_ ∧ p_ < ln t) ∧ (0 ≤ i_ ∧ i_ ≤ 2147483647)) (hk : ∀ T q, BIs (lts (tx L t) 0 (ln t)) T q → arN i_.toNat T p_ = none) : Ct g 6 0 0 yX8_around cX8_around 6 (some .int) [.ref x, .int (iI t), .int (iI p_), .int (iI i_)] [(wMain g x tpa (a 0) da pa qa (ru 0) wa sa bka taped told), (wShelf g a L ln tp rd cnt era nws), (wRules g ru kd fi se sg le de nx he ro rc re rr)] (fun v_ w_ => v_ = some (.int (iI (-1))) ∧ w_ = [(wMain g x tpa (a 0) da pa qa (ru 0) wa sa bka taped 5), (wShelf g a L ln tp rd cnt era nws), (wRules g ru kd fi se sg le de nx he ro rc re rr)]) := by
  refine Ct.of (by decide) (Nat.le_of_ble_eq_true rfl) (lv := [(0, .ref x), (1, .int (iI t)), (2, .int (iI p_)), (3, .int (iI i_))]) rfl ?_
  intro E hE hR hnm
  have hc := hsh.1
  have hln := hsh.ln
  have hB := hsh.2.1
  have hcn := hT.1
  have htr := (hto t ht.1 ht.2).1
  have hrr := hT.2.1 (tp t) htr.1 htr.2
  have hbt := (hto t ht.1 ht.2).2
  rw [lts_tx] at hbt
  have hl1 := hln t ht.1 ht.2
  have hwp : wpF ln cnt t p_ 0 = 0 := by unfold wpF; (repeat (first | rw [if_pos (by omega)] | rw [if_neg (by omega)]))
  refine r_iload_n 1 hE 3 dX8_around_0 rfl rfl rfl ?_
  refine r_if_ge 4 8 hE dX8_around_1 rfl (by decide) (by omega) (fun c1 => ?_) (fun c1 => ?_)
  · skip
    refine r_aload_n 9 hE 0 dX8_around_8 rfl rfl rfl ?_
    refine r_iload_n 10 hE 1 dX8_around_9 rfl rfl rfl ?_
    refine r_iload_n 11 hE 2 dX8_around_10 rfl rfl rfl ?_
    refine r_iconst 12 hE dX8_around_11 rfl ?_
    refine r_callV 15 hE [0, 1] [2] [(wMain g x tpa (a 0) da pa qa (ru 0) wa sa bka taped told), (wShelf g a L ln tp rd cnt era nws)] [(wRules g ru kd fi se sg le de nx he ro rc re rr)] 0 8 ok8 [] (c_X8_wrongPlace (by omega) (hln) (by omega) (by omega) (by omega)) dX8_around_12 rfl rfl wd_814 wd_816 ws_38 wd_1 wd_817 ne_X8 np_X8_wrongPlace (Nat.le_of_ble_eq_true rfl)  (by decide) (by decide) rfl (Nat.le_of_ble_eq_true rfl) rfl rfl rfl rfl (by decide) rfl (fun v1 f1 hp => ?_)
    obtain ⟨rfl, rfl⟩ := hp
    show G g E _ _ _ [(wMain g x tpa (a 0) da pa qa (ru 0) wa sa bka taped told), (wShelf g a L ln tp rd cnt era nws), (wRules g ru kd fi se sg le de nx he ro rc re rr)] 15 [(0, .ref x), (1, .int (iI t)), (2, .int (iI p_)), (3, .int (iI i_))] [.int (iI (wpF ln cnt t p_ 0))]
    refine r_istore 17 hE [(4, .int (iI (wpF ln cnt t p_ 0))), (0, .ref x), (1, .int (iI t)), (2, .int (iI p_)), (3, .int (iI i_))] dX8_around_15 rfl (by decide) rfl ?_
    refine r_iload 19 hE 0 dX8_around_17 rfl rfl ?_
    refine r_if_eq 22 29 hE dX8_around_19 rfl (by decide) (by rw [hwp]; omega) (fun c19 => ?_) (fun c19 => ?_)
    · skip
      refine r_aload_n 30 hE 1 dX8_around_29 rfl rfl rfl ?_
      refine r_get 33 hE 0 0 ok8 9 dX8_around_30 rfl wd_306 rfl rfl (by decide) rfl ?_
      refine r_aload_n 34 hE 1 dX8_around_33 rfl rfl rfl ?_
      refine r_get 37 hE 0 0 ok8 4 dX8_around_34 rfl wd_301 rfl rfl (by decide) rfl ?_
      refine r_iload_n 38 hE 2 dX8_around_37 rfl rfl rfl ?_
      refine r_callV 41 hE [1] [0, 2] [(wShelf g a L ln tp rd cnt era nws)] [(wMain g x tpa (a 0) da pa qa (ru 0) wa sa bka taped told), (wRules g ru kd fi se sg le de nx he ro rc re rr)] 0 5 ok5 [.ref (ru 0)] (c_X5_topOf (by omega) (by omega)) dX8_around_38 rfl rfl wd_680 wd_681 wd_682 wd_4 wd_683 ne_X5 np_X5_topOf (Nat.le_of_ble_eq_true rfl)  (by decide) (by decide) rfl (Nat.le_of_ble_eq_true rfl) rfl rfl rfl rfl (by decide) rfl (fun v1 f1 hp => ?_)
      obtain ⟨rfl, rfl⟩ := hp
      show G g E _ _ _ [(wShelf g a L ln tp rd cnt era nws), (wMain g x tpa (a 0) da pa qa (ru 0) wa sa bka taped told), (wRules g ru kd fi se sg le de nx he ro rc re rr)] 41 [(4, .int (iI (wpF ln cnt t p_ 0))), (0, .ref x), (1, .int (iI t)), (2, .int (iI p_)), (3, .int (iI i_))] [.int (iI (tp t)), .ref (ru 0)]
      refine r_iload_n 42 hE 3 dX8_around_41 rfl rfl rfl ?_
      refine r_iload_n 43 hE 4 dX8_around_42 rfl rfl rfl ?_
      refine r_callV 46 hE [2] [0, 1] [(wRules g ru kd fi se sg le de nx he ro rc re rr)] [(wShelf g a L ln tp rd cnt era nws), (wMain g x tpa (a 0) da pa qa (ru 0) wa sa bka taped told)] 0 3 ok3 [] (c_X3_partAround (hT) (htr) (by omega) (by omega)) dX8_around_43 rfl rfl wd_855 wd_856 wd_857 wd_9 wd_858 ne_X3 np_X3_partAround (Nat.le_of_ble_eq_true rfl)  (by decide) (by decide) rfl (Nat.le_of_ble_eq_true rfl) rfl rfl rfl rfl (by decide) rfl (fun v1 f1 hp => ?_)
      obtain ⟨x9_43, rfl, rfl, h43_0⟩ := hp
      show G g E _ _ _ [(wRules g ru kd fi se sg le de nx he ro rc re rr), (wShelf g a L ln tp rd cnt era nws), (wMain g x tpa (a 0) da pa qa (ru 0) wa sa bka taped told)] 46 [(4, .int (iI (wpF ln cnt t p_ 0))), (0, .ref x), (1, .int (iI t)), (2, .int (iI p_)), (3, .int (iI i_))] [.int (iI x9_43)]
      have hx9 : x9_43 = -1 := by
        rcases h43_0 with z | z
        · exact z.1
        · exact absurd (hk _ _ hbt) (by rw [z.2.2]; intro q; cases q)
      refine r_istore 48 hE [(5, .int (iI x9_43)), (4, .int (iI (wpF ln cnt t p_ 0))), (0, .ref x), (1, .int (iI t)), (2, .int (iI p_)), (3, .int (iI i_))] dX8_around_46 rfl (by decide) rfl ?_
      refine r_iload 50 hE 0 dX8_around_48 rfl rfl ?_
      refine r_iconst 51 hE dX8_around_50 rfl ?_
      refine r_icmp_ne 54 60 hE dX8_around_51 rfl (by decide) (by omega) (fun c51 => ?_) (fun c51 => ?_)
      · skip
        omega
      · skip
        refine r_aload_n 55 hE 2 dX8_around_54 rfl rfl rfl ?_
        refine r_iconst 56 hE dX8_around_55 rfl ?_
        refine r_callV 59 hE [2] [0, 1] [(wMain g x tpa (a 0) da pa qa (ru 0) wa sa bka taped told)] [(wRules g ru kd fi se sg le de nx he ro rc re rr), (wShelf g a L ln tp rd cnt era nws)] 0 8 ok8 [] (c_X8_refuse) dX8_around_56 rfl rfl wd_347 wd_349 ws_1 wd_1 wd_350 ne_X8 np_X8_refuse (Nat.le_of_ble_eq_true rfl)  (by decide) (by decide) rfl (Nat.le_of_ble_eq_true rfl) rfl rfl rfl rfl (by decide) rfl (fun v1 f1 hp => ?_)
        obtain ⟨rfl, rfl⟩ := hp
        show G g E _ _ _ [(wMain g x tpa (a 0) da pa qa (ru 0) wa sa bka taped 5), (wRules g ru kd fi se sg le de nx he ro rc re rr), (wShelf g a L ln tp rd cnt era nws)] 59 [(5, .int (iI x9_43)), (4, .int (iI (wpF ln cnt t p_ 0))), (0, .ref x), (1, .int (iI t)), (2, .int (iI p_)), (3, .int (iI i_))] [.int (iI (-1))]
        refine G.to (fs' := [(wMain g x tpa (a 0) da pa qa (ru 0) wa sa bka taped 5), (wShelf g a L ln tp rd cnt era nws), (wRules g ru kd fi se sg le de nx he ro rc re rr)]) [0, 2, 1] [0, 1, 2, 3, 4, 5] rfl rfl rfl ?_
        refine r_ireturn hE hR [(wMain g x tpa (a 0) da pa qa (ru 0) wa sa bka taped 5), (wShelf g a L ln tp rd cnt era nws), (wRules g ru kd fi se sg le de nx he ro rc re rr)] dX8_around_59 (Nat.le_of_ble_eq_true rfl) (Nat.le_of_ble_eq_true rfl) rfl ?_
        exact ⟨retI (rfl), rfl⟩
    · skip
      exact absurd hwp c19
  · skip
    omega
set_option maxHeartbeats 4000000 in
set_option maxRecDepth 100000 in
theorem c_X8_around_no {g : Gm} {a : Nat → Nat} {L ln tp rd : Int → Int} {cnt era nws : Int} {x tpa da pa qa rua wa sa bka : Nat} {taped told : Int} {t p_ i_ : Int} (hsh : ShOk L ln cnt) (ht : -2147483648 ≤ t ∧ t ≤ 2147483647) (hp : -2147483648 ≤ p_ ∧ p_ ≤ 2147483647) (hi : -2147483648 ≤ i_ ∧ i_ ≤ 2147483647) (hno : i_ < 0 ∨ wpF ln cnt t p_ 0 ≠ 0) : Ct g 6 0 0 yX8_around cX8_around 6 (some .int) [.ref x, .int (iI t), .int (iI p_), .int (iI i_)] [(wMain g x tpa (a 0) da pa qa rua wa sa bka taped told), (wShelf g a L ln tp rd cnt era nws)] (fun v_ w_ => v_ = some (.int (iI (-1))) ∧ w_ = [(wMain g x tpa (a 0) da pa qa rua wa sa bka taped (if i_ < 0 then 1 else wpF ln cnt t p_ 0)), (wShelf g a L ln tp rd cnt era nws)]) := by
  refine Ct.of (by decide) (Nat.le_of_ble_eq_true rfl) (lv := [(0, .ref x), (1, .int (iI t)), (2, .int (iI p_)), (3, .int (iI i_))]) rfl ?_
  intro E hE hR hnm
  have hc := hsh.1
  have hln := hsh.ln
  have hB := hsh.2.1
  have hwr := wpF_rg ln cnt t p_ 0
  refine r_iload_n 1 hE 3 dX8_around_0 rfl rfl rfl ?_
  refine r_if_ge 4 8 hE dX8_around_1 rfl (by decide) (by omega) (fun c1 => ?_) (fun c1 => ?_)
  · skip
    refine r_aload_n 9 hE 0 dX8_around_8 rfl rfl rfl ?_
    refine r_iload_n 10 hE 1 dX8_around_9 rfl rfl rfl ?_
    refine r_iload_n 11 hE 2 dX8_around_10 rfl rfl rfl ?_
    refine r_iconst 12 hE dX8_around_11 rfl ?_
    refine r_callV 15 hE [0, 1] [] [(wMain g x tpa (a 0) da pa qa rua wa sa bka taped told), (wShelf g a L ln tp rd cnt era nws)] [] 0 8 ok8 [] (c_X8_wrongPlace (by omega) (hln) (by omega) (by omega) (by omega)) dX8_around_12 rfl rfl wd_814 wd_816 ws_38 wd_1 wd_817 ne_X8 np_X8_wrongPlace (Nat.le_of_ble_eq_true rfl)  (by decide) (by decide) rfl (Nat.le_of_ble_eq_true rfl) rfl rfl rfl rfl (by decide) rfl (fun v1 f1 hp => ?_)
    obtain ⟨rfl, rfl⟩ := hp
    show G g E _ _ _ [(wMain g x tpa (a 0) da pa qa rua wa sa bka taped told), (wShelf g a L ln tp rd cnt era nws)] 15 [(0, .ref x), (1, .int (iI t)), (2, .int (iI p_)), (3, .int (iI i_))] [.int (iI (wpF ln cnt t p_ 0))]
    refine r_istore 17 hE [(4, .int (iI (wpF ln cnt t p_ 0))), (0, .ref x), (1, .int (iI t)), (2, .int (iI p_)), (3, .int (iI i_))] dX8_around_15 rfl (by decide) rfl ?_
    refine r_iload 19 hE 0 dX8_around_17 rfl rfl ?_
    refine r_if_eq 22 29 hE dX8_around_19 rfl (by decide) (by omega) (fun c19 => ?_) (fun c19 => ?_)
    · skip
      exfalso; omega
    · skip
      refine r_aload_n 23 hE 1 dX8_around_22 rfl rfl rfl ?_
      refine r_iload 25 hE 0 dX8_around_23 rfl rfl ?_
      refine r_callV 28 hE [0] [1] [(wMain g x tpa (a 0) da pa qa rua wa sa bka taped told)] [(wShelf g a L ln tp rd cnt era nws)] 0 8 ok8 [] (c_X8_refuse) dX8_around_25 rfl rfl wd_347 wd_349 ws_1 wd_1 wd_350 ne_X8 np_X8_refuse (Nat.le_of_ble_eq_true rfl)  (by decide) (by decide) rfl (Nat.le_of_ble_eq_true rfl) rfl rfl rfl rfl (by decide) rfl (fun v1 f1 hp => ?_)
      obtain ⟨rfl, rfl⟩ := hp
      show G g E _ _ _ [(wMain g x tpa (a 0) da pa qa rua wa sa bka taped (wpF ln cnt t p_ 0)), (wShelf g a L ln tp rd cnt era nws)] 28 [(4, .int (iI (wpF ln cnt t p_ 0))), (0, .ref x), (1, .int (iI t)), (2, .int (iI p_)), (3, .int (iI i_))] [.int (iI (-1))]
      refine r_ireturn hE hR [(wMain g x tpa (a 0) da pa qa rua wa sa bka taped (wpF ln cnt t p_ 0)), (wShelf g a L ln tp rd cnt era nws)] dX8_around_28 (Nat.le_of_ble_eq_true rfl) (Nat.le_of_ble_eq_true rfl) rfl ?_
      first
        | exact ⟨rfl, by rw [if_pos (by omega)]⟩
        | exact ⟨rfl, by rw [if_neg (by omega)]⟩
  · skip
    refine r_iconst 5 hE dX8_around_4 rfl ?_
    refine r_goto 15 hE dX8_around_5 (by decide) ?_
    refine r_istore 17 hE [(4, .int (iI 1)), (0, .ref x), (1, .int (iI t)), (2, .int (iI p_)), (3, .int (iI i_))] dX8_around_15 rfl (by decide) rfl ?_
    refine r_iload 19 hE 0 dX8_around_17 rfl rfl ?_
    refine r_if_eq 22 29 hE dX8_around_19 rfl (by decide) (by omega) (fun c19 => ?_) (fun c19 => ?_)
    · skip
      exfalso; omega
    · skip
      refine r_aload_n 23 hE 1 dX8_around_22 rfl rfl rfl ?_
      refine r_iload 25 hE 0 dX8_around_23 rfl rfl ?_
      refine r_callV 28 hE [0] [1] [(wMain g x tpa (a 0) da pa qa rua wa sa bka taped told)] [(wShelf g a L ln tp rd cnt era nws)] 0 8 ok8 [] (c_X8_refuse) dX8_around_25 rfl rfl wd_347 wd_349 ws_1 wd_1 wd_350 ne_X8 np_X8_refuse (Nat.le_of_ble_eq_true rfl)  (by decide) (by decide) rfl (Nat.le_of_ble_eq_true rfl) rfl rfl rfl rfl (by decide) rfl (fun v1 f1 hp => ?_)
      obtain ⟨rfl, rfl⟩ := hp
      show G g E _ _ _ [(wMain g x tpa (a 0) da pa qa rua wa sa bka taped 1), (wShelf g a L ln tp rd cnt era nws)] 28 [(4, .int (iI 1)), (0, .ref x), (1, .int (iI t)), (2, .int (iI p_)), (3, .int (iI i_))] [.int (iI (-1))]
      refine r_ireturn hE hR [(wMain g x tpa (a 0) da pa qa rua wa sa bka taped 1), (wShelf g a L ln tp rd cnt era nws)] dX8_around_28 (Nat.le_of_ble_eq_true rfl) (Nat.le_of_ble_eq_true rfl) rfl ?_
      first
        | exact ⟨rfl, by rw [if_pos (by omega)]⟩
        | exact ⟨rfl, by rw [if_neg (by omega)]⟩
set_option maxHeartbeats 4000000 in
set_option maxRecDepth 100000 in
theorem c_X8_value {g : Gm} {a : Nat → Nat} {L ln tp rd : Int → Int} {cnt era nws : Int} {x tpa da pa qa rua wa sa bka : Nat} {taped told : Int} {t : Int} (hsh : ShOk L ln cnt) (ht : -2147483648 ≤ t ∧ t ≤ 2147483647) : Ct g 4 0 0 yX8_value cX8_value 6 (some .long) [.ref x, .int (iI t)] [(wMain g x tpa (a 0) da pa qa rua wa sa bka taped told), (wShelf g a L ln tp rd cnt era nws)] (fun v_ w_ => ∃ r9 : Int, ∃ s9 : Int, v_ = some (.long (lI r9)) ∧ w_ = [(wMain g x tpa (a 0) da pa qa rua wa sa bka taped s9), (wShelf g a L ln tp rd cnt era nws)] ∧ (ValIs (tx L) ln cnt t r9 s9)) := by
  refine Ct.of (by decide) (Nat.le_of_ble_eq_true rfl) (lv := [(0, .ref x), (1, .int (iI t))]) rfl ?_
  intro E hE hR hnm
  have hc := hsh.1
  have hln := hsh.ln
  have hB := hsh.2.1
  have cut23 : ∀ (N : Nat) (v : Int) (i : Int), (0 ≤ t ∧ t < cnt) → (0 ≤ i ∧ i ≤ ln t) → (valF (tx L t) i = some v) → (0 ≤ v ∧ v ≤ 9223372036854775807) → (ln t - i).toNat < N → G g E 6 0 0 [(wMain g x tpa (a 0) da pa qa rua wa sa bka taped told), (wShelf g a L ln tp rd cnt era nws)] 23 [(0, .ref x), (1, .int (iI t)), (2, .long (lI v)), (4, .int (iI i))] [] := by
    intro N
    induction N with
    | zero => intro v i _ _ _ _ hN; exact absurd hN (Nat.not_lt_zero _)
    | succ N ih23 =>
      intro v i htt hi hv hvr hN
      have hl1 := hln t htt.1 htt.2
      refine r_iload 25 hE 3 dX8_value_23 rfl rfl ?_
      refine r_aload_n 26 hE 0 dX8_value_25 rfl rfl rfl ?_
      refine r_get 29 hE 0 0 ok8 4 dX8_value_26 rfl wd_301 rfl rfl (by decide) rfl ?_
      refine r_iload_n 30 hE 1 dX8_value_29 rfl rfl rfl ?_
      refine r_callV 33 hE [1] [0] [(wShelf g a L ln tp rd cnt era nws)] [(wMain g x tpa (a 0) da pa qa rua wa sa bka taped told)] 0 5 ok5 [.int (iI i)] (c_X5_lengthOf (by omega) (by omega)) dX8_value_30 rfl rfl wd_630 wd_631 wd_632 wd_4 wd_633 ne_X5 np_X5_lengthOf (Nat.le_of_ble_eq_true rfl)  (by decide) (by decide) rfl (Nat.le_of_ble_eq_true rfl) rfl rfl rfl rfl (by decide) rfl (fun v1 f1 hp => ?_)
      obtain ⟨rfl, rfl⟩ := hp
      show G g E _ _ _ [(wShelf g a L ln tp rd cnt era nws), (wMain g x tpa (a 0) da pa qa rua wa sa bka taped told)] 33 [(0, .ref x), (1, .int (iI t)), (2, .long (lI v)), (4, .int (iI i))] [.int (iI (ln t)), .int (iI i)]
      refine r_icmp_ge 36 88 hE dX8_value_33 rfl (by decide) (by omega) (fun c33 => ?_) (fun c33 => ?_)
      · skip
        refine r_aload_n 89 hE 0 dX8_value_88 rfl rfl rfl ?_
        refine r_iconst 90 hE dX8_value_89 rfl ?_
        refine r_put 93 hE 1 0 ok8 3 (wMain g x tpa (a 0) da pa qa rua wa sa bka taped 0) [(wShelf g a L ln tp rd cnt era nws), (wMain g x tpa (a 0) da pa qa rua wa sa bka taped 0)] dX8_value_90 rfl wd_300 rfl rfl (by decide) rfl rfl rfl (Nat.le_of_ble_eq_true rfl) rfl rfl ?_
        refine r_lload_n 94 hE 2 dX8_value_93 rfl rfl rfl ?_
        refine G.to (fs' := [(wMain g x tpa (a 0) da pa qa rua wa sa bka taped 0), (wShelf g a L ln tp rd cnt era nws)]) [1, 0] [0, 1, 2, 3] rfl rfl rfl ?_
        refine r_lreturn hE hR [(wMain g x tpa (a 0) da pa qa rua wa sa bka taped 0), (wShelf g a L ln tp rd cnt era nws)] dX8_value_94 (Nat.le_of_ble_eq_true rfl) (Nat.le_of_ble_eq_true rfl) rfl ?_
        exact ⟨_, _, rfl, rfl, Or.inr (Or.inr ⟨htt, by rw [show ln t = i by omega]; exact hv, rfl⟩)⟩
      · skip
        have htx := (hsh.2.2 t htt.1 htt.2).2 i hi.1 c33
        refine r_aload_n 37 hE 0 dX8_value_36 rfl rfl rfl ?_
        refine r_get 40 hE 1 0 ok8 4 dX8_value_37 rfl wd_301 rfl rfl (by decide) rfl ?_
        refine r_iload_n 41 hE 1 dX8_value_40 rfl rfl rfl ?_
        refine r_iload 43 hE 3 dX8_value_41 rfl rfl ?_
        refine r_callV 46 hE [0] [1] [(wShelf g a L ln tp rd cnt era nws)] [(wMain g x tpa (a 0) da pa qa rua wa sa bka taped told)] 0 5 ok5 [] (c_X5_at (by omega) (by omega) (hln) (by omega)) dX8_value_43 rfl rfl wd_818 wd_792 wd_793 wd_4 wd_794 ne_X5 np_X5_at (Nat.le_of_ble_eq_true rfl)  (by decide) (by decide) rfl (Nat.le_of_ble_eq_true rfl) rfl rfl rfl rfl (by decide) rfl (fun v1 f1 hp => ?_)
        obtain ⟨rfl, rfl⟩ := hp
        show G g E _ _ _ [(wShelf g a L ln tp rd cnt era nws), (wMain g x tpa (a 0) da pa qa rua wa sa bka taped told)] 46 [(0, .ref x), (1, .int (iI t)), (2, .long (lI v)), (4, .int (iI i))] [.int (iI (atF L ln t i))]
        rw [show (atF L ln t i : Int) = tx L t i from atF_tx (by omega)]
        refine r_istore 48 hE [(5, .int (iI (tx L t i))), (0, .ref x), (1, .int (iI t)), (2, .long (lI v)), (4, .int (iI i))] dX8_value_46 rfl (by decide) rfl ?_
        refine r_lload_n 49 hE 3 dX8_value_48 rfl rfl rfl ?_
        refine r_ldc2I 52 hE dX8_value_49 rfl wd_867 (by decide : _ = lI 9223372036854775807) ?_
        refine r_iload 54 hE 0 dX8_value_52 rfl rfl ?_
        refine r_i2l 55 hE dX8_value_54 rfl (by omega) ?_
        refine r_lsub 56 hE dX8_value_55 rfl ?_
        refine r_ldc2I 59 hE dX8_value_56 rfl wd_868 (by decide : _ = lI 26) ?_
        refine r_ldiv 60 hE dX8_value_59 rfl (by omega) ?_
        refine r_lcmp 61 hE dX8_value_60 rfl (by omega) ?_
        refine r_if_le 64 72 hE dX8_value_61 rfl (by decide) (by have := cmpI_rg v ((9223372036854775807 - tx L t i) / 26); omega) (fun c61 => ?_) (fun c61 => ?_)
        · skip
          have hle : v ≤ (9223372036854775807 - tx L t i) / 26 := by have := cmpI_gt (x := v) (y := (9223372036854775807 - tx L t i) / 26); omega
          have hv2 := valF_yes hi.1 hv hle
          have hvr2 : 0 ≤ v * 26 + tx L t i ∧ v * 26 + tx L t i ≤ 9223372036854775807 := by omega
          refine r_lload_n 73 hE 3 dX8_value_72 rfl rfl rfl ?_
          refine r_ldc2I 76 hE dX8_value_73 rfl wd_868 (by decide : _ = lI 26) ?_
          refine r_lmul 77 hE dX8_value_76 rfl ?_
          refine r_iload 79 hE 0 dX8_value_77 rfl rfl ?_
          refine r_i2l 80 hE dX8_value_79 rfl (by omega) ?_
          refine r_ladd 81 hE dX8_value_80 rfl ?_
          refine r_lstore_n 82 hE [(2, .long (lI ((v * 26) + (tx L t i)))), (5, .int (iI (tx L t i))), (0, .ref x), (1, .int (iI t)), (4, .int (iI i))] dX8_value_81 rfl rfl (by decide) rfl ?_
          refine r_iinc 85 hE 4 (i + 1) [(4, .int (iI (i + 1))), (2, .long (lI ((v * 26) + (tx L t i)))), (5, .int (iI (tx L t i))), (0, .ref x), (1, .int (iI t))] dX8_value_82 rfl rfl rfl (by decide) rfl ?_
          refine r_goto 23 hE dX8_value_85 (by decide) ?_
          refine G.to (fs' := [(wMain g x tpa (a 0) da pa qa rua wa sa bka taped told), (wShelf g a L ln tp rd cnt era nws)]) (lv' := [(0, .ref x), (1, .int (iI t)), (2, .long (lI ((v * 26) + (tx L t i)))), (4, .int (iI (i + 1)))]) [1, 0] [3, 4, 1, 0] rfl rfl rfl ?_
          exact ih23 ((v * 26) + (tx L t i)) (i + 1) (by omega) (by omega) (by first | exact hv2 | rfl) (by first | exact hvr2 | omega) (by omega)
        · skip
          have hgt : (9223372036854775807 - tx L t i) / 26 < v := cmpI_gt.mp c61
          refine r_aload_n 65 hE 1 dX8_value_64 rfl rfl rfl ?_
          refine r_bipush 67 hE dX8_value_65 rfl (by decide) ?_
          refine r_callV 70 hE [1] [0] [(wMain g x tpa (a 0) da pa qa rua wa sa bka taped told)] [(wShelf g a L ln tp rd cnt era nws)] 0 8 ok8 [] (c_X8_refuse) dX8_value_67 rfl rfl wd_347 wd_349 ws_1 wd_1 wd_350 ne_X8 np_X8_refuse (Nat.le_of_ble_eq_true rfl)  (by decide) (by decide) rfl (Nat.le_of_ble_eq_true rfl) rfl rfl rfl rfl (by decide) rfl (fun v1 f1 hp => ?_)
          obtain ⟨rfl, rfl⟩ := hp
          show G g E _ _ _ [(wMain g x tpa (a 0) da pa qa rua wa sa bka taped 7), (wShelf g a L ln tp rd cnt era nws)] 70 [(5, .int (iI (tx L t i))), (0, .ref x), (1, .int (iI t)), (2, .long (lI v)), (4, .int (iI i))] [.int (iI (-1))]
          refine r_i2l 71 hE dX8_value_70 rfl (by omega) ?_
          refine r_lreturn hE hR [(wMain g x tpa (a 0) da pa qa rua wa sa bka taped 7), (wShelf g a L ln tp rd cnt era nws)] dX8_value_71 (Nat.le_of_ble_eq_true rfl) (Nat.le_of_ble_eq_true rfl) rfl ?_
          exact ⟨_, _, rfl, rfl, Or.inr (Or.inl ⟨htt, valF_no ⟨hi.1, c33⟩ hv hgt, rfl, rfl⟩)⟩
  refine r_aload_n 1 hE 0 dX8_value_0 rfl rfl rfl ?_
  refine r_get 4 hE 0 0 ok8 4 dX8_value_1 rfl wd_301 rfl rfl (by decide) rfl ?_
  refine r_iload_n 5 hE 1 dX8_value_4 rfl rfl rfl ?_
  refine r_callV 8 hE [1] [0] [(wShelf g a L ln tp rd cnt era nws)] [(wMain g x tpa (a 0) da pa qa rua wa sa bka taped told)] 0 5 ok5 [] (c_X5_has (by omega) (by omega)) dX8_value_5 rfl rfl wd_764 wd_578 wd_579 wd_4 wd_580 ne_X5 np_X5_has (Nat.le_of_ble_eq_true rfl)  (by decide) (by decide) rfl (Nat.le_of_ble_eq_true rfl) rfl rfl rfl rfl (by decide) rfl (fun v1 f1 hp => ?_)
  obtain ⟨rfl, rfl⟩ := hp
  show G g E _ _ _ [(wShelf g a L ln tp rd cnt era nws), (wMain g x tpa (a 0) da pa qa rua wa sa bka taped told)] 8 [(0, .ref x), (1, .int (iI t))] [.int (iI (bI (0 ≤ t ∧ t < cnt)))]
  refine r_if_ne 11 18 hE dX8_value_8 rfl (by decide) (bI_rg _) (fun c8 => ?_) (fun c8 => ?_)
  · skip
    have c8 := bI1 c8
    have hl1 := hln t c8.1 c8.2
    refine r_lconst0 19 hE dX8_value_18 rfl ?_
    refine r_lstore_n 20 hE [(2, .long (lI 0)), (0, .ref x), (1, .int (iI t))] dX8_value_19 rfl rfl (by decide) rfl ?_
    refine r_iconst 21 hE dX8_value_20 rfl ?_
    refine r_istore 23 hE [(4, .int (iI 0)), (2, .long (lI 0)), (0, .ref x), (1, .int (iI t))] dX8_value_21 rfl (by decide) rfl ?_
    refine G.to (fs' := [(wMain g x tpa (a 0) da pa qa rua wa sa bka taped told), (wShelf g a L ln tp rd cnt era nws)]) (lv' := [(0, .ref x), (1, .int (iI t)), (2, .long (lI 0)), (4, .int (iI 0))]) [1, 0] [2, 3, 1, 0] rfl rfl rfl ?_
    exact cut23 _ 0 0 (by omega) (by omega) (by first | exact hv2 | rfl) (by first | exact hvr2 | omega) (Nat.lt_succ_self _)
  · skip
    have c8 := bI0 c8
    refine r_aload_n 12 hE 0 dX8_value_11 rfl rfl rfl ?_
    refine r_iconst 13 hE dX8_value_12 rfl ?_
    refine r_callV 16 hE [1] [0] [(wMain g x tpa (a 0) da pa qa rua wa sa bka taped told)] [(wShelf g a L ln tp rd cnt era nws)] 0 8 ok8 [] (c_X8_refuse) dX8_value_13 rfl rfl wd_347 wd_349 ws_1 wd_1 wd_350 ne_X8 np_X8_refuse (Nat.le_of_ble_eq_true rfl)  (by decide) (by decide) rfl (Nat.le_of_ble_eq_true rfl) rfl rfl rfl rfl (by decide) rfl (fun v1 f1 hp => ?_)
    obtain ⟨rfl, rfl⟩ := hp
    show G g E _ _ _ [(wMain g x tpa (a 0) da pa qa rua wa sa bka taped 2), (wShelf g a L ln tp rd cnt era nws)] 16 [(0, .ref x), (1, .int (iI t))] [.int (iI (-1))]
    refine r_i2l 17 hE dX8_value_16 rfl (by omega) ?_
    refine r_lreturn hE hR [(wMain g x tpa (a 0) da pa qa rua wa sa bka taped 2), (wShelf g a L ln tp rd cnt era nws)] dX8_value_17 (Nat.le_of_ble_eq_true rfl) (Nat.le_of_ble_eq_true rfl) rfl ?_
    exact ⟨_, _, rfl, rfl, Or.inl ⟨by unfold HasT; omega, rfl, rfl⟩⟩
