def wWalk (g : Gm) (w : Nat → Nat) (rua : Nat) (sp : Int → Int) (nb : Int → Int) (mt : Int → Int) (pl : Int → Int) (op : Int → Int) (no : Int → Int) (od : Int) (stm : Int) (wc : Int) : va_W := [ob (w 0) 7 [.ref rua, .ref (w 1), .ref (w 2), .ref (w 3), .ref (w 4), .ref (w 5), .ref (w 6), .int (iI od), .int (iI stm), .int (iI wc)], ia g (w 1) 10240 sp, ia g (w 2) 10240 nb, ia g (w 3) 626 mt, ia g (w 4) 626 pl, ia g (w 5) 2400 op, ia g (w 6) 2400 no]
set_option maxHeartbeats 4000000 in
set_option maxRecDepth 100000 in
theorem c_X7_begin {g : Gm} {rua : Nat} {w : Nat → Nat} {sp nb mt pl op no : Int → Int} {od stm wc : Int} : Ct g 0 0 0 yX7_begin cX7_begin 1 none [.ref (w 0)] [(wWalk g w rua sp nb mt pl op no od stm wc)] (fun v_ w_ => v_ = none ∧ w_ = [(wWalk g w rua sp nb mt pl op no od (stm + 1) 0)]) := by
  refine Ct.of (by decide) (Nat.le_of_ble_eq_true rfl) (lv := [(0, .ref (w 0))]) rfl ?_
  intro E hE hR hnm
  refine r_aload_n 1 hE 0 dX7_begin_0 rfl rfl rfl ?_
  refine r_dup 2 hE dX7_begin_1 rfl rfl ?_
  refine r_get 5 hE 0 0 ok7 8 dX7_begin_2 rfl wd_261 rfl rfl (by decide) rfl ?_
  refine r_iconst 6 hE dX7_begin_5 rfl ?_
  refine r_iadd 7 hE (stm + 1) dX7_begin_6 rfl rfl ?_
  refine r_put 10 hE 0 0 ok7 8 (wWalk g w rua sp nb mt pl op no od (stm + 1) wc) [(wWalk g w rua sp nb mt pl op no od (stm + 1) wc)] dX7_begin_7 rfl wd_261 rfl rfl (by decide) rfl rfl rfl (Nat.le_of_ble_eq_true rfl) rfl rfl ?_
  refine r_aload_n 11 hE 0 dX7_begin_10 rfl rfl rfl ?_
  refine r_iconst 12 hE dX7_begin_11 rfl ?_
  refine r_put 15 hE 0 0 ok7 9 (wWalk g w rua sp nb mt pl op no od (stm + 1) 0) [(wWalk g w rua sp nb mt pl op no od (stm + 1) 0)] dX7_begin_12 rfl wd_262 rfl rfl (by decide) rfl rfl rfl (Nat.le_of_ble_eq_true rfl) rfl rfl ?_
  refine r_return hE hR [(wWalk g w rua sp nb mt pl op no od (stm + 1) 0)] dX7_begin_15 (Nat.le_of_ble_eq_true rfl) (Nat.le_of_ble_eq_true rfl) rfl ?_
  exact ⟨rfl, rfl⟩
set_option maxHeartbeats 4000000 in
set_option maxRecDepth 100000 in
theorem c_X7_push {g : Gm} {rua : Nat} {w : Nat → Nat} {sp nb mt pl op no : Int → Int} {od stm wc : Int} {x p : Int} (ho : 0 ≤ od ∧ od < 2400) : Ct g 0 0 0 yX7_push cX7_push 3 none [.ref (w 0), .int (iI x), .int (iI p)] [(wWalk g w rua sp nb mt pl op no od stm wc)] (fun v_ w_ => v_ = none ∧ w_ = [(wWalk g w rua sp nb mt pl (up op od x) (up no od p) (od + 1) stm wc)]) := by
  refine Ct.of (by decide) (Nat.le_of_ble_eq_true rfl) (lv := [(0, .ref (w 0)), (1, .int (iI x)), (2, .int (iI p))]) rfl ?_
  intro E hE hR hnm
  refine r_aload_n 1 hE 0 dX7_push_0 rfl rfl rfl ?_
  refine r_get 4 hE 0 0 ok7 7 dX7_push_1 rfl wd_260 rfl rfl (by decide) rfl ?_
  refine r_sipush 7 hE dX7_push_4 rfl (by decide) ?_
  refine r_icmp_ge 10 40 hE dX7_push_7 rfl (by decide) (by omega) (fun c7 => ?_) (fun c7 => ?_)
  · skip
    omega
  · skip
    refine r_aload_n 11 hE 0 dX7_push_10 rfl rfl rfl ?_
    refine r_get 14 hE 0 0 ok7 5 dX7_push_11 rfl wd_258 rfl rfl (by decide) rfl ?_
    refine r_aload_n 15 hE 0 dX7_push_14 rfl rfl rfl ?_
    refine r_get 18 hE 0 0 ok7 7 dX7_push_15 rfl wd_260 rfl rfl (by decide) rfl ?_
    refine r_iload_n 19 hE 1 dX7_push_18 rfl rfl rfl ?_
    refine r_iast 20 hE 0 5 (wWalk g w rua sp nb mt pl (up op od x) no od stm wc) [(wWalk g w rua sp nb mt pl (up op od x) no od stm wc)] dX7_push_19 rfl rfl rfl (by omega) rfl rfl ?_
    refine r_aload_n 21 hE 0 dX7_push_20 rfl rfl rfl ?_
    refine r_get 24 hE 0 0 ok7 6 dX7_push_21 rfl wd_259 rfl rfl (by decide) rfl ?_
    refine r_aload_n 25 hE 0 dX7_push_24 rfl rfl rfl ?_
    refine r_get 28 hE 0 0 ok7 7 dX7_push_25 rfl wd_260 rfl rfl (by decide) rfl ?_
    refine r_iload_n 29 hE 2 dX7_push_28 rfl rfl rfl ?_
    refine r_iast 30 hE 0 6 (wWalk g w rua sp nb mt pl (up op od x) (up no od p) od stm wc) [(wWalk g w rua sp nb mt pl (up op od x) (up no od p) od stm wc)] dX7_push_29 rfl rfl rfl (by omega) rfl rfl ?_
    refine r_aload_n 31 hE 0 dX7_push_30 rfl rfl rfl ?_
    refine r_dup 32 hE dX7_push_31 rfl rfl ?_
    refine r_get 35 hE 0 0 ok7 7 dX7_push_32 rfl wd_260 rfl rfl (by decide) rfl ?_
    refine r_iconst 36 hE dX7_push_35 rfl ?_
    refine r_iadd 37 hE (od + 1) dX7_push_36 rfl rfl ?_
    refine r_put 40 hE 0 0 ok7 7 (wWalk g w rua sp nb mt pl (up op od x) (up no od p) (od + 1) stm wc) [(wWalk g w rua sp nb mt pl (up op od x) (up no od p) (od + 1) stm wc)] dX7_push_37 rfl wd_260 rfl rfl (by decide) rfl rfl rfl (Nat.le_of_ble_eq_true rfl) rfl rfl ?_
    refine r_return hE hR [(wWalk g w rua sp nb mt pl (up op od x) (up no od p) (od + 1) stm wc)] dX7_push_40 (Nat.le_of_ble_eq_true rfl) (Nat.le_of_ble_eq_true rfl) rfl ?_
    exact ⟨rfl, rfl⟩
set_option maxHeartbeats 4000000 in
set_option maxRecDepth 100000 in
theorem c_X7_meet {g : Gm} {rua : Nat} {w : Nat → Nat} {sp nb mt pl op no : Int → Int} {od stm wc : Int} {x p : Int} (hx : 0 ≤ x ∧ x < 10240) (hwc : 0 ≤ wc ∧ wc ≤ 20000) : Ct g 0 0 0 yX7_meet cX7_meet 3 none [.ref (w 0), .int (iI x), .int (iI p)] [(wWalk g w rua sp nb mt pl op no od stm wc)] (fun v_ w_ => ∃ mt9 : Int → Int, ∃ pl9 : Int → Int, v_ = none ∧ w_ = [(wWalk g w rua (up sp x stm) (up nb x wc) mt9 pl9 op no od stm (wc + 1))] ∧ (mt9 = if wc < 626 then up mt wc x else mt) ∧ (pl9 = if wc < 626 then up pl wc p else pl)) := by
  refine Ct.of (by decide) (Nat.le_of_ble_eq_true rfl) (lv := [(0, .ref (w 0)), (1, .int (iI x)), (2, .int (iI p))]) rfl ?_
  intro E hE hR hnm
  refine r_aload_n 1 hE 0 dX7_meet_0 rfl rfl rfl ?_
  refine r_get 4 hE 0 0 ok7 1 dX7_meet_1 rfl wd_254 rfl rfl (by decide) rfl ?_
  refine r_iload_n 5 hE 1 dX7_meet_4 rfl rfl rfl ?_
  refine r_aload_n 6 hE 0 dX7_meet_5 rfl rfl rfl ?_
  refine r_get 9 hE 0 0 ok7 8 dX7_meet_6 rfl wd_261 rfl rfl (by decide) rfl ?_
  refine r_iast 10 hE 0 1 (wWalk g w rua (up sp x stm) nb mt pl op no od stm wc) [(wWalk g w rua (up sp x stm) nb mt pl op no od stm wc)] dX7_meet_9 rfl rfl rfl (by omega) rfl rfl ?_
  refine r_aload_n 11 hE 0 dX7_meet_10 rfl rfl rfl ?_
  refine r_get 14 hE 0 0 ok7 2 dX7_meet_11 rfl wd_255 rfl rfl (by decide) rfl ?_
  refine r_iload_n 15 hE 1 dX7_meet_14 rfl rfl rfl ?_
  refine r_aload_n 16 hE 0 dX7_meet_15 rfl rfl rfl ?_
  refine r_get 19 hE 0 0 ok7 9 dX7_meet_16 rfl wd_262 rfl rfl (by decide) rfl ?_
  refine r_iast 20 hE 0 2 (wWalk g w rua (up sp x stm) (up nb x wc) mt pl op no od stm wc) [(wWalk g w rua (up sp x stm) (up nb x wc) mt pl op no od stm wc)] dX7_meet_19 rfl rfl rfl (by omega) rfl rfl ?_
  refine r_aload_n 21 hE 0 dX7_meet_20 rfl rfl rfl ?_
  refine r_get 24 hE 0 0 ok7 9 dX7_meet_21 rfl wd_262 rfl rfl (by decide) rfl ?_
  refine r_aload_n 25 hE 0 dX7_meet_24 rfl rfl rfl ?_
  refine r_get 28 hE 0 0 ok7 3 dX7_meet_25 rfl wd_256 rfl rfl (by decide) rfl ?_
  refine r_alen 29 hE 0 3 dX7_meet_28 rfl rfl rfl ?_
  refine r_icmp_ge 32 52 hE dX7_meet_29 rfl (by decide) (by omega) (fun c29 => ?_) (fun c29 => ?_)
  · skip
    refine r_aload_n 53 hE 0 dX7_meet_52 rfl rfl rfl ?_
    refine r_dup 54 hE dX7_meet_53 rfl rfl ?_
    refine r_get 57 hE 0 0 ok7 9 dX7_meet_54 rfl wd_262 rfl rfl (by decide) rfl ?_
    refine r_iconst 58 hE dX7_meet_57 rfl ?_
    refine r_iadd 59 hE (wc + 1) dX7_meet_58 rfl rfl ?_
    refine r_put 62 hE 0 0 ok7 9 (wWalk g w rua (up sp x stm) (up nb x wc) mt pl op no od stm (wc + 1)) [(wWalk g w rua (up sp x stm) (up nb x wc) mt pl op no od stm (wc + 1))] dX7_meet_59 rfl wd_262 rfl rfl (by decide) rfl rfl rfl (Nat.le_of_ble_eq_true rfl) rfl rfl ?_
    refine r_return hE hR [(wWalk g w rua (up sp x stm) (up nb x wc) mt pl op no od stm (wc + 1))] dX7_meet_62 (Nat.le_of_ble_eq_true rfl) (Nat.le_of_ble_eq_true rfl) rfl ?_
    first
      | exact ⟨_, _, rfl, rfl, by rw [if_pos (by omega)], by rw [if_pos (by omega)]⟩
      | exact ⟨_, _, rfl, rfl, by rw [if_neg (by omega)], by rw [if_neg (by omega)]⟩
  · skip
    refine r_aload_n 33 hE 0 dX7_meet_32 rfl rfl rfl ?_
    refine r_get 36 hE 0 0 ok7 3 dX7_meet_33 rfl wd_256 rfl rfl (by decide) rfl ?_
    refine r_aload_n 37 hE 0 dX7_meet_36 rfl rfl rfl ?_
    refine r_get 40 hE 0 0 ok7 9 dX7_meet_37 rfl wd_262 rfl rfl (by decide) rfl ?_
    refine r_iload_n 41 hE 1 dX7_meet_40 rfl rfl rfl ?_
    refine r_iast 42 hE 0 3 (wWalk g w rua (up sp x stm) (up nb x wc) (up mt wc x) pl op no od stm wc) [(wWalk g w rua (up sp x stm) (up nb x wc) (up mt wc x) pl op no od stm wc)] dX7_meet_41 rfl rfl rfl (by omega) rfl rfl ?_
    refine r_aload_n 43 hE 0 dX7_meet_42 rfl rfl rfl ?_
    refine r_get 46 hE 0 0 ok7 4 dX7_meet_43 rfl wd_257 rfl rfl (by decide) rfl ?_
    refine r_aload_n 47 hE 0 dX7_meet_46 rfl rfl rfl ?_
    refine r_get 50 hE 0 0 ok7 9 dX7_meet_47 rfl wd_262 rfl rfl (by decide) rfl ?_
    refine r_iload_n 51 hE 2 dX7_meet_50 rfl rfl rfl ?_
    refine r_iast 52 hE 0 4 (wWalk g w rua (up sp x stm) (up nb x wc) (up mt wc x) (up pl wc p) op no od stm wc) [(wWalk g w rua (up sp x stm) (up nb x wc) (up mt wc x) (up pl wc p) op no od stm wc)] dX7_meet_51 rfl rfl rfl (by omega) rfl rfl ?_
    refine r_aload_n 53 hE 0 dX7_meet_52 rfl rfl rfl ?_
    refine r_dup 54 hE dX7_meet_53 rfl rfl ?_
    refine r_get 57 hE 0 0 ok7 9 dX7_meet_54 rfl wd_262 rfl rfl (by decide) rfl ?_
    refine r_iconst 58 hE dX7_meet_57 rfl ?_
    refine r_iadd 59 hE (wc + 1) dX7_meet_58 rfl rfl ?_
    refine r_put 62 hE 0 0 ok7 9 (wWalk g w rua (up sp x stm) (up nb x wc) (up mt wc x) (up pl wc p) op no od stm (wc + 1)) [(wWalk g w rua (up sp x stm) (up nb x wc) (up mt wc x) (up pl wc p) op no od stm (wc + 1))] dX7_meet_59 rfl wd_262 rfl rfl (by decide) rfl rfl rfl (Nat.le_of_ble_eq_true rfl) rfl rfl ?_
    refine r_return hE hR [(wWalk g w rua (up sp x stm) (up nb x wc) (up mt wc x) (up pl wc p) op no od stm (wc + 1))] dX7_meet_62 (Nat.le_of_ble_eq_true rfl) (Nat.le_of_ble_eq_true rfl) rfl ?_
    first
      | exact ⟨_, _, rfl, rfl, by rw [if_pos (by omega)], by rw [if_pos (by omega)]⟩
      | exact ⟨_, _, rfl, rfl, by rw [if_neg (by omega)], by rw [if_neg (by omega)]⟩
set_option maxHeartbeats 4000000 in
set_option maxRecDepth 100000 in
theorem c_X7_ruleAt {g : Gm} {rua : Nat} {w : Nat → Nat} {sp nb mt pl op no : Int → Int} {od stm wc : Int} {x : Int} (hx : 0 ≤ x ∧ x < wc ∧ x < 626) (hwc : wc ≤ 20000) : Ct g 0 0 0 yX7_ruleAt cX7_ruleAt 2 (some .int) [.ref (w 0), .int (iI x)] [(wWalk g w rua sp nb mt pl op no od stm wc)] (fun v_ w_ => v_ = some (.int (iI (mt x))) ∧ w_ = [(wWalk g w rua sp nb mt pl op no od stm wc)]) := by
  refine Ct.of (by decide) (Nat.le_of_ble_eq_true rfl) (lv := [(0, .ref (w 0)), (1, .int (iI x))]) rfl ?_
  intro E hE hR hnm
  refine r_iload_n 1 hE 1 dX7_ruleAt_0 rfl rfl rfl ?_
  refine r_if_lt 4 30 hE dX7_ruleAt_1 rfl (by decide) (by omega) (fun c1 => ?_) (fun c1 => ?_)
  · skip
    omega
  · skip
    refine r_iload_n 5 hE 1 dX7_ruleAt_4 rfl rfl rfl ?_
    refine r_aload_n 6 hE 0 dX7_ruleAt_5 rfl rfl rfl ?_
    refine r_get 9 hE 0 0 ok7 9 dX7_ruleAt_6 rfl wd_262 rfl rfl (by decide) rfl ?_
    refine r_icmp_ge 12 30 hE dX7_ruleAt_9 rfl (by decide) (by omega) (fun c9 => ?_) (fun c9 => ?_)
    · skip
      omega
    · skip
      refine r_iload_n 13 hE 1 dX7_ruleAt_12 rfl rfl rfl ?_
      refine r_aload_n 14 hE 0 dX7_ruleAt_13 rfl rfl rfl ?_
      refine r_get 17 hE 0 0 ok7 3 dX7_ruleAt_14 rfl wd_256 rfl rfl (by decide) rfl ?_
      refine r_alen 18 hE 0 3 dX7_ruleAt_17 rfl rfl rfl ?_
      refine r_icmp_ge 21 30 hE dX7_ruleAt_18 rfl (by decide) (by omega) (fun c18 => ?_) (fun c18 => ?_)
      · skip
        omega
      · skip
        refine r_aload_n 22 hE 0 dX7_ruleAt_21 rfl rfl rfl ?_
        refine r_get 25 hE 0 0 ok7 3 dX7_ruleAt_22 rfl wd_256 rfl rfl (by decide) rfl ?_
        refine r_iload_n 26 hE 1 dX7_ruleAt_25 rfl rfl rfl ?_
        refine r_iald 27 hE 0 3 dX7_ruleAt_26 rfl rfl rfl (by omega) ?_
        refine r_goto 31 hE dX7_ruleAt_27 (by decide) ?_
        refine r_ireturn hE hR [(wWalk g w rua sp nb mt pl op no od stm wc)] dX7_ruleAt_31 (Nat.le_of_ble_eq_true rfl) (Nat.le_of_ble_eq_true rfl) rfl ?_
        exact ⟨retI (rfl), rfl⟩
set_option maxHeartbeats 4000000 in
set_option maxRecDepth 100000 in
theorem c_X7_placeAt {g : Gm} {rua : Nat} {w : Nat → Nat} {sp nb mt pl op no : Int → Int} {od stm wc : Int} {x : Int} (hx : 0 ≤ x ∧ x < wc ∧ x < 626) (hwc : wc ≤ 20000) : Ct g 0 0 0 yX7_placeAt cX7_placeAt 2 (some .int) [.ref (w 0), .int (iI x)] [(wWalk g w rua sp nb mt pl op no od stm wc)] (fun v_ w_ => v_ = some (.int (iI (pl x))) ∧ w_ = [(wWalk g w rua sp nb mt pl op no od stm wc)]) := by
  refine Ct.of (by decide) (Nat.le_of_ble_eq_true rfl) (lv := [(0, .ref (w 0)), (1, .int (iI x))]) rfl ?_
  intro E hE hR hnm
  refine r_iload_n 1 hE 1 dX7_placeAt_0 rfl rfl rfl ?_
  refine r_if_lt 4 30 hE dX7_placeAt_1 rfl (by decide) (by omega) (fun c1 => ?_) (fun c1 => ?_)
  · skip
    omega
  · skip
    refine r_iload_n 5 hE 1 dX7_placeAt_4 rfl rfl rfl ?_
    refine r_aload_n 6 hE 0 dX7_placeAt_5 rfl rfl rfl ?_
    refine r_get 9 hE 0 0 ok7 9 dX7_placeAt_6 rfl wd_262 rfl rfl (by decide) rfl ?_
    refine r_icmp_ge 12 30 hE dX7_placeAt_9 rfl (by decide) (by omega) (fun c9 => ?_) (fun c9 => ?_)
    · skip
      omega
    · skip
      refine r_iload_n 13 hE 1 dX7_placeAt_12 rfl rfl rfl ?_
      refine r_aload_n 14 hE 0 dX7_placeAt_13 rfl rfl rfl ?_
      refine r_get 17 hE 0 0 ok7 4 dX7_placeAt_14 rfl wd_257 rfl rfl (by decide) rfl ?_
      refine r_alen 18 hE 0 4 dX7_placeAt_17 rfl rfl rfl ?_
      refine r_icmp_ge 21 30 hE dX7_placeAt_18 rfl (by decide) (by omega) (fun c18 => ?_) (fun c18 => ?_)
      · skip
        omega
      · skip
        refine r_aload_n 22 hE 0 dX7_placeAt_21 rfl rfl rfl ?_
        refine r_get 25 hE 0 0 ok7 4 dX7_placeAt_22 rfl wd_257 rfl rfl (by decide) rfl ?_
        refine r_iload_n 26 hE 1 dX7_placeAt_25 rfl rfl rfl ?_
        refine r_iald 27 hE 0 4 dX7_placeAt_26 rfl rfl rfl (by omega) ?_
        refine r_goto 31 hE dX7_placeAt_27 (by decide) ?_
        refine r_ireturn hE hR [(wWalk g w rua sp nb mt pl op no od stm wc)] dX7_placeAt_31 (Nat.le_of_ble_eq_true rfl) (Nat.le_of_ble_eq_true rfl) rfl ?_
        exact ⟨retI (rfl), rfl⟩
set_option maxHeartbeats 4000000 in
set_option maxRecDepth 100000 in
theorem c_X7_numberOf {g : Gm} {ru : Nat → Nat} {kd fi se sg le de nx he ro : Int → Int} {rc re rr : Int} {R : Int → Rl} {w : Nat → Nat} {sp nb mt pl op no : Int → Int} {od stm wc : Int} {V : List (Rl × Int)} {x : Int} (hT : RT kd fi se sg le de nx he rc R) (hW : WV R rc V sp nb mt pl stm wc) (hx : 0 ≤ x ∧ x < rc) (hs : sp x = stm) (hst : stm ≤ 2000000000) : Ct g 1 0 0 yX7_numberOf cX7_numberOf 2 (some .int) [.ref (w 0), .int (iI x)] [(wWalk g w (ru 0) sp nb mt pl op no od stm wc), (wRules g ru kd fi se sg le de nx he ro rc re rr)] (fun v_ w_ => v_ = some (.int (iI (nb x))) ∧ w_ = [(wWalk g w (ru 0) sp nb mt pl op no od stm wc), (wRules g ru kd fi se sg le de nx he ro rc re rr)]) := by
  refine Ct.of (by decide) (Nat.le_of_ble_eq_true rfl) (lv := [(0, .ref (w 0)), (1, .int (iI x))]) rfl ?_
  intro E hE hR hnm
  have hcn := hT.1
  have h2 := hW.2.1
  refine r_aload_n 1 hE 0 dX7_numberOf_0 rfl rfl rfl ?_
  refine r_get 4 hE 0 0 ok7 0 dX7_numberOf_1 rfl wd_252 rfl rfl (by decide) rfl ?_
  refine r_iload_n 5 hE 1 dX7_numberOf_4 rfl rfl rfl ?_
  refine r_callV 8 hE [1] [0] [(wRules g ru kd fi se sg le de nx he ro rc re rr)] [(wWalk g w (ru 0) sp nb mt pl op no od stm wc)] 0 3 ok3 [] (c_X3_holds (by omega) (by omega)) dX7_numberOf_5 rfl rfl wd_692 wd_648 wd_649 wd_9 wd_650 ne_X3 np_X3_holds (Nat.le_of_ble_eq_true rfl)  (by decide) (by decide) rfl (Nat.le_of_ble_eq_true rfl) rfl rfl rfl rfl (by decide) rfl (fun v1 f1 hp => ?_)
  obtain ⟨rfl, rfl⟩ := hp
  show G g E _ _ _ [(wRules g ru kd fi se sg le de nx he ro rc re rr), (wWalk g w (ru 0) sp nb mt pl op no od stm wc)] 8 [(0, .ref (w 0)), (1, .int (iI x))] [.int (iI (bI (0 ≤ x ∧ x < rc)))]
  refine r_if_eq 11 33 hE dX7_numberOf_8 rfl (by decide) (bI_rg _) (fun c8 => ?_) (fun c8 => ?_)
  · skip
    have c8 := bI0 c8
    omega
  · skip
    have c8 := bI1 c8
    refine r_aload_n 12 hE 0 dX7_numberOf_11 rfl rfl rfl ?_
    refine r_get 15 hE 1 0 ok7 1 dX7_numberOf_12 rfl wd_254 rfl rfl (by decide) rfl ?_
    refine r_iload_n 16 hE 1 dX7_numberOf_15 rfl rfl rfl ?_
    refine r_iald 17 hE 1 1 dX7_numberOf_16 rfl rfl rfl (by omega) ?_
    refine r_aload_n 18 hE 0 dX7_numberOf_17 rfl rfl rfl ?_
    refine r_get 21 hE 1 0 ok7 8 dX7_numberOf_18 rfl wd_261 rfl rfl (by decide) rfl ?_
    refine r_icmp_ne 24 33 hE dX7_numberOf_21 rfl (by decide) (by omega) (fun c21 => ?_) (fun c21 => ?_)
    · skip
      exact absurd hs c21
    · skip
      refine r_aload_n 25 hE 0 dX7_numberOf_24 rfl rfl rfl ?_
      refine r_get 28 hE 1 0 ok7 2 dX7_numberOf_25 rfl wd_255 rfl rfl (by decide) rfl ?_
      refine r_iload_n 29 hE 1 dX7_numberOf_28 rfl rfl rfl ?_
      refine r_iald 30 hE 1 2 dX7_numberOf_29 rfl rfl rfl (by omega) ?_
      refine r_goto 34 hE dX7_numberOf_30 (by decide) ?_
      refine G.to (fs' := [(wWalk g w (ru 0) sp nb mt pl op no od stm wc), (wRules g ru kd fi se sg le de nx he ro rc re rr)]) [1, 0] [0, 1] rfl rfl rfl ?_
      refine r_ireturn hE hR [(wWalk g w (ru 0) sp nb mt pl op no od stm wc), (wRules g ru kd fi se sg le de nx he ro rc re rr)] dX7_numberOf_34 (Nat.le_of_ble_eq_true rfl) (Nat.le_of_ble_eq_true rfl) rfl ?_
      exact ⟨retI (rfl), rfl⟩
set_option maxHeartbeats 4000000 in
set_option maxRecDepth 100000 in
theorem c_X7_visit {g : Gm} {ru : Nat → Nat} {kd fi se sg le de nx he ro : Int → Int} {rc re rr : Int} {R : Int → Rl} {w : Nat → Nat} {sp nb mt pl op no : Int → Int} {od stm wc : Int} {V : List (Rl × Int)} {t : Int} (hT : RT kd fi se sg le de nx he rc R) (hW : WV R rc V sp nb mt pl stm wc) (htt : 0 ≤ t ∧ t < rc) (hwc : wc ≤ 18000) (hst : stm ≤ 2000000000) : Ct g 2 0 0 yX7_visit cX7_visit 7 (some .int) [.ref (w 0), .int (iI t)] [(wWalk g w (ru 0) sp nb mt pl op no od stm wc), (wRules g ru kd fi se sg le de nx he ro rc re rr)] (fun v_ w_ => ∃ sp9 : Int → Int, ∃ nb9 : Int → Int, ∃ mt9 : Int → Int, ∃ pl9 : Int → Int, ∃ op9 : Int → Int, ∃ no9 : Int → Int, ∃ od9 : Int, ∃ wc9 : Int, ∃ V9 : List (Rl × Int), v_ = some (.int (iI (wc9 - wc))) ∧ w_ = [(wWalk g w (ru 0) sp9 nb9 mt9 pl9 op9 no9 od9 stm wc9), (wRules g ru kd fi se sg le de nx he ro rc re rr)] ∧ (WV R rc V9 sp9 nb9 mt9 pl9 stm wc9) ∧ (V9 = vis (R t) 0 V)) := by
  refine Ct.of (by decide) (Nat.le_of_ble_eq_true rfl) (lv := [(0, .ref (w 0)), (1, .int (iI t))]) rfl ?_
  intro E hE hR hnm
  have hcn := hT.1
  have hwn : 0 ≤ wc := by have := hW.1; omega
  have hrt := hT.2.1 t htt.1 htt.2
  have hnt := nod_le hrt.2.2.2.2.1
  have hrl := hrt.2.2.2.2.2
  have cut18 : ∀ (N : Nat) (sp9 : Int → Int) (nb9 : Int → Int) (mt9 : Int → Int) (pl9 : Int → Int) (op9 : Int → Int) (no9 : Int → Int) (od9 : Int) (wc9 : Int) (V9 : List (Rl × Int)) (i : Int), (WV R rc V9 sp9 nb9 mt9 pl9 stm wc9) → (0 ≤ od9 ∧ od9 ≤ 1200) → (∀ j, 0 ≤ j → j < od9 → 0 ≤ op9 j ∧ op9 j < rc) → (visS (stk R op9 no9 od9) V9 = vis (R t) 0 V) → (0 ≤ i ∧ i + nodS (stk R op9 no9 od9) ≤ 1199 ∧ i + wc ≥ wc9 ) → (1300 - i).toNat < N → G g E 7 0 0 [(wWalk g w (ru 0) sp9 nb9 mt9 pl9 op9 no9 od9 stm wc9), (wRules g ru kd fi se sg le de nx he ro rc re rr)] 18 [(0, .ref (w 0)), (1, .int (iI t)), (2, .int (iI wc)), (3, .int (iI i))] [] := by
    intro N
    induction N with
    | zero => intro sp9 nb9 mt9 pl9 op9 no9 od9 wc9 V9 i _ _ _ _ _ hN; exact absurd hN (Nat.not_lt_zero _)
    | succ N ih18 =>
      intro sp9 nb9 mt9 pl9 op9 no9 od9 wc9 V9 i hW9 hod hen hvs hno hN
      have hW9c := hW9.1
      have hW92 := hW9.2.1
      have hnl := nodS_nn (stk R op9 no9 od9)
      rw [stk_len _ _ _ hod.1] at hnl
      have cut170 : ∀ (sp8 : Int → Int) (nb8 : Int → Int) (mt8 : Int → Int) (pl8 : Int → Int) (op8 : Int → Int) (no8 : Int → Int) (od8 : Int) (wc8 : Int) (V8 : List (Rl × Int)), (WV R rc V8 sp8 nb8 mt8 pl8 stm wc8) → (0 ≤ od8 ∧ od8 ≤ 1200) → (∀ j, 0 ≤ j → j < od8 → 0 ≤ op8 j ∧ op8 j < rc) → (visS (stk R op8 no8 od8) V8 = vis (R t) 0 V) → (0 ≤ i + 1 ∧ i + 1 + nodS (stk R op8 no8 od8) ≤ 1199 ∧ i + 1 + wc ≥ wc8) → G g E 7 0 0 [(wWalk g w (ru 0) sp8 nb8 mt8 pl8 op8 no8 od8 stm wc8), (wRules g ru kd fi se sg le de nx he ro rc re rr)] 170 [(0, .ref (w 0)), (1, .int (iI t)), (2, .int (iI wc)), (3, .int (iI i))] [] := by
        intro sp8 nb8 mt8 pl8 op8 no8 od8 wc8 V8 hW8 hod8 hen2 hvs2 hno2
        have hnl8 := nodS_nn (stk R op8 no8 od8)
        rw [stk_len _ _ _ hod8.1] at hnl8
        refine r_iinc 173 hE 3 (i + 1) [(3, .int (iI (i + 1))), (0, .ref (w 0)), (1, .int (iI t)), (2, .int (iI wc))] dX7_visit_170 rfl rfl rfl (by decide) rfl ?_
        refine r_goto 18 hE dX7_visit_173 (by decide) ?_
        refine G.to (fs' := [(wWalk g w (ru 0) sp8 nb8 mt8 pl8 op8 no8 od8 stm wc8), (wRules g ru kd fi se sg le de nx he ro rc re rr)]) (lv' := [(0, .ref (w 0)), (1, .int (iI t)), (2, .int (iI wc)), (3, .int (iI (i + 1)))]) [0, 1] [1, 2, 3, 0] rfl rfl rfl ?_
        exact ih18 sp8 nb8 mt8 pl8 op8 no8 od8 wc8 _ (i + 1) (by first | exact hW | exact hW9 | exact hW8) (by omega) (by first | exact hen2 | exact (fun j a b => by rw [show j = 0 by omega, up_same]; exact htt)) (by first | exact hvs2 | (rw [show (0 : Int) + 1 = 0 + 1 from rfl, stk_push (by omega), stk_0 _ _ _ (by omega)]; rfl)) (by first | exact hno2 | (rw [stk_push (by omega), stk_0 _ _ _ (by omega)]; show _ ∧ 0 + (nod (R t) + 0) ≤ 1199 ∧ _; omega)) (by omega)
      refine r_iload_n 19 hE 3 dX7_visit_18 rfl rfl rfl ?_
      refine r_sipush 22 hE dX7_visit_19 rfl (by decide) ?_
      refine r_icmp_ge 25 176 hE dX7_visit_22 rfl (by decide) (by omega) (fun c22 => ?_) (fun c22 => ?_)
      · skip
        (have h9 := nodS_nn (stk R op9 no9 od9); rw [stk_len _ _ _ hod.1] at h9; omega)
      · skip
        refine r_aload_n 26 hE 0 dX7_visit_25 rfl rfl rfl ?_
        refine r_get 29 hE 0 0 ok7 7 dX7_visit_26 rfl wd_260 rfl rfl (by decide) rfl ?_
        refine r_if_le 32 176 hE dX7_visit_29 rfl (by decide) (by omega) (fun c29 => ?_) (fun c29 => ?_)
        · skip
          refine r_aload_n 177 hE 0 dX7_visit_176 rfl rfl rfl ?_
          refine r_get 180 hE 0 0 ok7 9 dX7_visit_177 rfl wd_262 rfl rfl (by decide) rfl ?_
          refine r_iload_n 181 hE 2 dX7_visit_180 rfl rfl rfl ?_
          refine r_isub 182 hE (wc9 - wc) dX7_visit_181 rfl rfl ?_
          refine r_ireturn hE hR [(wWalk g w (ru 0) sp9 nb9 mt9 pl9 op9 no9 od9 stm wc9), (wRules g ru kd fi se sg le de nx he ro rc re rr)] dX7_visit_182 (Nat.le_of_ble_eq_true rfl) (Nat.le_of_ble_eq_true rfl) rfl ?_
          rw [stk_0 _ _ _ (by omega)] at hvs
          exact ⟨sp9, nb9, mt9, pl9, op9, no9, od9, wc9, V9, rfl, rfl, hW9, hvs⟩
        · skip
          have hpop := stk_pop (R := R) (op := op9) (no := no9) c29
          have hx := hen (od9 - 1) (by omega) (by omega)
          have hxr := hT.2.1 (op9 (od9 - 1)) hx.1 hx.2
          have hxg := hxr.rg (by omega)
          have hnlen := nodS_nn (stk R op9 no9 od9)
          rw [stk_len _ _ _ hod.1] at hnlen
          refine r_aload_n 33 hE 0 dX7_visit_32 rfl rfl rfl ?_
          refine r_dup 34 hE dX7_visit_33 rfl rfl ?_
          refine r_get 37 hE 0 0 ok7 7 dX7_visit_34 rfl wd_260 rfl rfl (by decide) rfl ?_
          refine r_iconst 38 hE dX7_visit_37 rfl ?_
          refine r_isub 39 hE (od9 - 1) dX7_visit_38 rfl rfl ?_
          refine r_put 42 hE 0 0 ok7 7 (wWalk g w (ru 0) sp9 nb9 mt9 pl9 op9 no9 (od9 - 1) stm wc9) [(wWalk g w (ru 0) sp9 nb9 mt9 pl9 op9 no9 (od9 - 1) stm wc9), (wRules g ru kd fi se sg le de nx he ro rc re rr)] dX7_visit_39 rfl wd_260 rfl rfl (by decide) rfl rfl rfl (Nat.le_of_ble_eq_true rfl) rfl rfl ?_
          refine r_aload_n 43 hE 0 dX7_visit_42 rfl rfl rfl ?_
          refine r_get 46 hE 0 0 ok7 5 dX7_visit_43 rfl wd_258 rfl rfl (by decide) rfl ?_
          refine r_aload_n 47 hE 0 dX7_visit_46 rfl rfl rfl ?_
          refine r_get 50 hE 0 0 ok7 7 dX7_visit_47 rfl wd_260 rfl rfl (by decide) rfl ?_
          refine r_iald 51 hE 0 5 dX7_visit_50 rfl rfl rfl (by omega) ?_
          refine r_istore 53 hE [(4, .int (iI (op9 (od9 - 1)))), (0, .ref (w 0)), (1, .int (iI t)), (2, .int (iI wc)), (3, .int (iI i))] dX7_visit_51 rfl (by decide) rfl ?_
          refine r_aload_n 54 hE 1 dX7_visit_53 rfl rfl rfl ?_
          refine r_get 57 hE 0 0 ok7 6 dX7_visit_54 rfl wd_259 rfl rfl (by decide) rfl ?_
          refine r_aload_n 58 hE 1 dX7_visit_57 rfl rfl rfl ?_
          refine r_get 61 hE 0 0 ok7 7 dX7_visit_58 rfl wd_260 rfl rfl (by decide) rfl ?_
          refine r_iald 62 hE 0 6 dX7_visit_61 rfl rfl rfl (by omega) ?_
          refine r_istore 64 hE [(5, .int (iI (no9 (od9 - 1)))), (4, .int (iI (op9 (od9 - 1)))), (0, .ref (w 0)), (1, .int (iI t)), (2, .int (iI wc)), (3, .int (iI i))] dX7_visit_62 rfl (by decide) rfl ?_
          refine r_aload_n 65 hE 2 dX7_visit_64 rfl rfl rfl ?_
          refine r_get 68 hE 0 0 ok7 0 dX7_visit_65 rfl wd_252 rfl rfl (by decide) rfl ?_
          refine r_iload 70 hE 1 dX7_visit_68 rfl rfl ?_
          refine r_callV 73 hE [1] [0] [(wRules g ru kd fi se sg le de nx he ro rc re rr)] [(wWalk g w (ru 0) sp9 nb9 mt9 pl9 op9 no9 (od9 - 1) stm wc9)] 0 3 ok3 [] (c_X3_holds (by omega) (by omega)) dX7_visit_70 rfl rfl wd_692 wd_648 wd_649 wd_9 wd_650 ne_X3 np_X3_holds (Nat.le_of_ble_eq_true rfl)  (by decide) (by decide) rfl (Nat.le_of_ble_eq_true rfl) rfl rfl rfl rfl (by decide) rfl (fun v1 f1 hp => ?_)
          obtain ⟨rfl, rfl⟩ := hp
          show G g E _ _ _ [(wRules g ru kd fi se sg le de nx he ro rc re rr), (wWalk g w (ru 0) sp9 nb9 mt9 pl9 op9 no9 (od9 - 1) stm wc9)] 73 [(5, .int (iI (no9 (od9 - 1)))), (4, .int (iI (op9 (od9 - 1)))), (0, .ref (w 0)), (1, .int (iI t)), (2, .int (iI wc)), (3, .int (iI i))] [.int (iI (bI (0 ≤ (op9 (od9 - 1)) ∧ (op9 (od9 - 1)) < rc)))]
          refine r_if_eq 76 170 hE dX7_visit_73 rfl (by decide) (bI_rg _) (fun c73 => ?_) (fun c73 => ?_)
          · skip
            have c73 := bI0 c73
            omega
          · skip
            have c73 := bI1 c73
            refine r_aload_n 77 hE 2 dX7_visit_76 rfl rfl rfl ?_
            refine r_get 80 hE 1 0 ok7 1 dX7_visit_77 rfl wd_254 rfl rfl (by decide) rfl ?_
            refine r_iload 82 hE 1 dX7_visit_80 rfl rfl ?_
            refine r_iald 83 hE 1 1 dX7_visit_82 rfl rfl rfl (by omega) ?_
            refine r_aload_n 84 hE 2 dX7_visit_83 rfl rfl rfl ?_
            refine r_get 87 hE 1 0 ok7 8 dX7_visit_84 rfl wd_261 rfl rfl (by decide) rfl ?_
            refine r_icmp_ne 90 93 hE dX7_visit_87 rfl (by decide) (by have := hW9.2.1.2 (op9 (od9 - 1)) (by omega) (by omega); omega) (fun c87 => ?_) (fun c87 => ?_)
            · skip
              have hnew : ¬ InV V9 (R (op9 (od9 - 1))) := fun z => c87 ((hW9.2.2.1 _ hx.1 (by omega)).mpr ⟨hx.2, z⟩)
              refine r_aload_n 94 hE 2 dX7_visit_93 rfl rfl rfl ?_
              refine r_iload 96 hE 1 dX7_visit_94 rfl rfl ?_
              refine r_iload 98 hE 0 dX7_visit_96 rfl rfl ?_
              refine r_callV 101 hE [1] [0] [(wWalk g w (ru 0) sp9 nb9 mt9 pl9 op9 no9 (od9 - 1) stm wc9)] [(wRules g ru kd fi se sg le de nx he ro rc re rr)] 0 7 ok7 [] (c_X7_meet (by omega) (by omega)) dX7_visit_98 rfl rfl wd_693 wd_695 ws_31 wd_8 wd_696 ne_X7 np_X7_meet (Nat.le_of_ble_eq_true rfl)  (by decide) (by decide) rfl (Nat.le_of_ble_eq_true rfl) rfl rfl rfl rfl (by decide) rfl (fun v1 f1 hp => ?_)
              obtain ⟨mt9_98, pl9_98, rfl, rfl, h98_0, h98_1⟩ := hp
              show G g E _ _ _ [(wWalk g w (ru 0) (up sp9 (op9 (od9 - 1)) stm) (up nb9 (op9 (od9 - 1)) wc9) mt9_98 pl9_98 op9 no9 (od9 - 1) stm (wc9 + 1)), (wRules g ru kd fi se sg le de nx he ro rc re rr)] 101 [(5, .int (iI (no9 (od9 - 1)))), (4, .int (iI (op9 (od9 - 1)))), (0, .ref (w 0)), (1, .int (iI t)), (2, .int (iI wc)), (3, .int (iI i))] []
              have hWm := hW9.meet (p := no9 (od9 - 1)) (by omega) hx c87 hT.2.2.1
              rw [← h98_0, ← h98_1] at hWm
              refine r_aload_n 102 hE 2 dX7_visit_101 rfl rfl rfl ?_
              refine r_get 105 hE 0 0 ok7 0 dX7_visit_102 rfl wd_252 rfl rfl (by decide) rfl ?_
              refine r_iload 107 hE 1 dX7_visit_105 rfl rfl ?_
              refine r_callV 110 hE [1] [0] [(wRules g ru kd fi se sg le de nx he ro rc re rr)] [(wWalk g w (ru 0) (up sp9 (op9 (od9 - 1)) stm) (up nb9 (op9 (od9 - 1)) wc9) mt9_98 pl9_98 op9 no9 (od9 - 1) stm (wc9 + 1))] 0 3 ok3 [] (c_X3_firstOf (by omega) (by omega)) dX7_visit_107 rfl rfl wd_697 wd_698 wd_699 wd_9 wd_700 ne_X3 np_X3_firstOf (Nat.le_of_ble_eq_true rfl)  (by decide) (by decide) rfl (Nat.le_of_ble_eq_true rfl) rfl rfl rfl rfl (by decide) rfl (fun v1 f1 hp => ?_)
              obtain ⟨rfl, rfl⟩ := hp
              show G g E _ _ _ [(wRules g ru kd fi se sg le de nx he ro rc re rr), (wWalk g w (ru 0) (up sp9 (op9 (od9 - 1)) stm) (up nb9 (op9 (od9 - 1)) wc9) mt9_98 pl9_98 op9 no9 (od9 - 1) stm (wc9 + 1))] 110 [(5, .int (iI (no9 (od9 - 1)))), (4, .int (iI (op9 (od9 - 1)))), (0, .ref (w 0)), (1, .int (iI t)), (2, .int (iI wc)), (3, .int (iI i))] [.int (iI (fi (op9 (od9 - 1))))]
              refine r_istore 112 hE [(6, .int (iI (fi (op9 (od9 - 1))))), (5, .int (iI (no9 (od9 - 1)))), (4, .int (iI (op9 (od9 - 1)))), (0, .ref (w 0)), (1, .int (iI t)), (2, .int (iI wc)), (3, .int (iI i))] dX7_visit_110 rfl (by decide) rfl ?_
              refine r_aload_n 113 hE 3 dX7_visit_112 rfl rfl rfl ?_
              refine r_get 116 hE 1 0 ok7 0 dX7_visit_113 rfl wd_252 rfl rfl (by decide) rfl ?_
              refine r_iload 118 hE 2 dX7_visit_116 rfl rfl ?_
              refine r_callV 121 hE [0] [1] [(wRules g ru kd fi se sg le de nx he ro rc re rr)] [(wWalk g w (ru 0) (up sp9 (op9 (od9 - 1)) stm) (up nb9 (op9 (od9 - 1)) wc9) mt9_98 pl9_98 op9 no9 (od9 - 1) stm (wc9 + 1))] 0 3 ok3 [] (c_X3_kindOf (by omega) (by omega)) dX7_visit_118 rfl rfl wd_701 wd_702 wd_703 wd_9 wd_704 ne_X3 np_X3_kindOf (Nat.le_of_ble_eq_true rfl)  (by decide) (by decide) rfl (Nat.le_of_ble_eq_true rfl) rfl rfl rfl rfl (by decide) rfl (fun v1 f1 hp => ?_)
              obtain ⟨rfl, rfl⟩ := hp
              show G g E _ _ _ [(wRules g ru kd fi se sg le de nx he ro rc re rr), (wWalk g w (ru 0) (up sp9 (op9 (od9 - 1)) stm) (up nb9 (op9 (od9 - 1)) wc9) mt9_98 pl9_98 op9 no9 (od9 - 1) stm (wc9 + 1))] 121 [(6, .int (iI (fi (op9 (od9 - 1))))), (5, .int (iI (no9 (od9 - 1)))), (4, .int (iI (op9 (od9 - 1)))), (0, .ref (w 0)), (1, .int (iI t)), (2, .int (iI wc)), (3, .int (iI i))] [.int (iI (kd (op9 (od9 - 1))))]
              refine r_iconst 122 hE dX7_visit_121 rfl ?_
              refine r_icmp_ne 125 150 hE dX7_visit_122 rfl (by decide) (by omega) (fun c122 => ?_) (fun c122 => ?_)
              · skip
                refine r_aload_n 151 hE 3 dX7_visit_150 rfl rfl rfl ?_
                refine r_get 154 hE 1 0 ok7 0 dX7_visit_151 rfl wd_252 rfl rfl (by decide) rfl ?_
                refine r_iload 156 hE 2 dX7_visit_154 rfl rfl ?_
                refine r_callV 159 hE [0] [1] [(wRules g ru kd fi se sg le de nx he ro rc re rr)] [(wWalk g w (ru 0) (up sp9 (op9 (od9 - 1)) stm) (up nb9 (op9 (od9 - 1)) wc9) mt9_98 pl9_98 op9 no9 (od9 - 1) stm (wc9 + 1))] 0 3 ok3 [] (c_X3_kindOf (by omega) (by omega)) dX7_visit_156 rfl rfl wd_701 wd_702 wd_703 wd_9 wd_704 ne_X3 np_X3_kindOf (Nat.le_of_ble_eq_true rfl)  (by decide) (by decide) rfl (Nat.le_of_ble_eq_true rfl) rfl rfl rfl rfl (by decide) rfl (fun v1 f1 hp => ?_)
                obtain ⟨rfl, rfl⟩ := hp
                show G g E _ _ _ [(wRules g ru kd fi se sg le de nx he ro rc re rr), (wWalk g w (ru 0) (up sp9 (op9 (od9 - 1)) stm) (up nb9 (op9 (od9 - 1)) wc9) mt9_98 pl9_98 op9 no9 (od9 - 1) stm (wc9 + 1))] 159 [(6, .int (iI (fi (op9 (od9 - 1))))), (5, .int (iI (no9 (od9 - 1)))), (4, .int (iI (op9 (od9 - 1)))), (0, .ref (w 0)), (1, .int (iI t)), (2, .int (iI wc)), (3, .int (iI i))] [.int (iI (kd (op9 (od9 - 1))))]
                refine r_if_eq 162 170 hE dX7_visit_159 rfl (by decide) (by omega) (fun c159 => ?_) (fun c159 => ?_)
                · skip
                  have hLet := hxr.let c159
                  refine G.to (fs' := [(wWalk g w (ru 0) (up sp9 (op9 (od9 - 1)) stm) (up nb9 (op9 (od9 - 1)) wc9) mt9_98 pl9_98 op9 no9 (od9 - 1) stm (wc9 + 1)), (wRules g ru kd fi se sg le de nx he ro rc re rr)]) (lv' := [(0, .ref (w 0)), (1, .int (iI t)), (2, .int (iI wc)), (3, .int (iI i))]) [1, 0] [3, 4, 5, 6] rfl rfl rfl ?_
                  exact cut170 (up sp9 (op9 (od9 - 1)) stm) (up nb9 (op9 (od9 - 1)) wc9) mt9_98 pl9_98 op9 no9 (od9 - 1) (wc9 + 1) _ (by first | exact hW9 | exact hWm) (by omega) (by first | exact (fun j a b => hen j a (by omega)) | exact en_push (fun j a b => hen j a (by omega)) (by omega) | (have h9 := en_push (en_push (f := op9) (n := od9 - 1) (c := rc) (fun j a b => hen j a (by omega)) hseR) hfiR; exact fun j a b => h9 j a (by omega))) (by first | exact vs_old hpop hvs hold | exact vs_let hpop hvs hnew hLet.1 | exact vs_run hpop hvs hnew (hRun c122).1 (by omega) | exact vs_pair hpop hvs hnew hPair.1 (by omega) hle | (exfalso; omega)) (by refine ⟨by omega, ?_, by omega⟩; first | exact nn_run hpop hno.2.1 (hRun c122).1 (by omega) | exact nn_pair hpop hno.2.1 hPair.1 (by omega) | exact nn_old hpop hno.2.1 | (exfalso; omega))
                · skip
                  have hfx : 0 ≤ fi (op9 (od9 - 1)) ∧ fi (op9 (od9 - 1)) < rc := by have h9 := hxr.1; rcases h9 with z | z | z <;> omega
                  have hRun : kd (op9 (od9 - 1)) ≠ 1 → _ := hxr.run c159
                  refine r_aload_n 163 hE 3 dX7_visit_162 rfl rfl rfl ?_
                  refine r_iload 165 hE 0 dX7_visit_163 rfl rfl ?_
                  refine r_iload 167 hE 1 dX7_visit_165 rfl rfl ?_
                  refine r_callV 170 hE [1] [0] [(wWalk g w (ru 0) (up sp9 (op9 (od9 - 1)) stm) (up nb9 (op9 (od9 - 1)) wc9) mt9_98 pl9_98 op9 no9 (od9 - 1) stm (wc9 + 1))] [(wRules g ru kd fi se sg le de nx he ro rc re rr)] 0 7 ok7 [] (c_X7_push (by omega)) dX7_visit_167 rfl rfl wd_688 wd_690 ws_30 wd_8 wd_691 ne_X7 np_X7_push (Nat.le_of_ble_eq_true rfl)  (by decide) (by decide) rfl (Nat.le_of_ble_eq_true rfl) rfl rfl rfl rfl (by decide) rfl (fun v1 f1 hp => ?_)
                  obtain ⟨rfl, rfl⟩ := hp
                  show G g E _ _ _ [(wWalk g w (ru 0) (up sp9 (op9 (od9 - 1)) stm) (up nb9 (op9 (od9 - 1)) wc9) mt9_98 pl9_98 (up op9 (od9 - 1) (fi (op9 (od9 - 1)))) (up no9 (od9 - 1) (no9 (od9 - 1))) ((od9 - 1) + 1) stm (wc9 + 1)), (wRules g ru kd fi se sg le de nx he ro rc re rr)] 170 [(6, .int (iI (fi (op9 (od9 - 1))))), (5, .int (iI (no9 (od9 - 1)))), (4, .int (iI (op9 (od9 - 1)))), (0, .ref (w 0)), (1, .int (iI t)), (2, .int (iI wc)), (3, .int (iI i))] []
                  refine G.to (fs' := [(wWalk g w (ru 0) (up sp9 (op9 (od9 - 1)) stm) (up nb9 (op9 (od9 - 1)) wc9) mt9_98 pl9_98 (up op9 (od9 - 1) (fi (op9 (od9 - 1)))) (up no9 (od9 - 1) (no9 (od9 - 1))) ((od9 - 1) + 1) stm (wc9 + 1)), (wRules g ru kd fi se sg le de nx he ro rc re rr)]) (lv' := [(0, .ref (w 0)), (1, .int (iI t)), (2, .int (iI wc)), (3, .int (iI i))]) [0, 1] [3, 4, 5, 6] rfl rfl rfl ?_
                  exact cut170 (up sp9 (op9 (od9 - 1)) stm) (up nb9 (op9 (od9 - 1)) wc9) mt9_98 pl9_98 (up op9 (od9 - 1) (fi (op9 (od9 - 1)))) (up no9 (od9 - 1) (no9 (od9 - 1))) ((od9 - 1) + 1) (wc9 + 1) _ (by first | exact hW9 | exact hWm) (by omega) (by first | exact (fun j a b => hen j a (by omega)) | exact en_push (fun j a b => hen j a (by omega)) (by omega) | (have h9 := en_push (en_push (f := op9) (n := od9 - 1) (c := rc) (fun j a b => hen j a (by omega)) hseR) hfiR; exact fun j a b => h9 j a (by omega))) (by first | exact vs_old hpop hvs hold | exact vs_let hpop hvs hnew hLet.1 | exact vs_run hpop hvs hnew (hRun c122).1 (by omega) | exact vs_pair hpop hvs hnew hPair.1 (by omega) hle | (exfalso; omega)) (by refine ⟨by omega, ?_, by omega⟩; first | exact nn_run hpop hno.2.1 (hRun c122).1 (by omega) | exact nn_pair hpop hno.2.1 hPair.1 (by omega) | exact nn_old hpop hno.2.1 | (exfalso; omega))
              · skip
                have hPair := hxr.pair c122
                have hfiR : 0 ≤ fi (op9 (od9 - 1)) ∧ fi (op9 (od9 - 1)) < rc := by omega
                have hseR : 0 ≤ se (op9 (od9 - 1)) ∧ se (op9 (od9 - 1)) < rc := by omega
                have hfr := hT.2.1 _ hfiR.1 hfiR.2
                have hle := hfr.2.2.1
                have hfg := hfr.rg (by omega)
                refine r_aload_n 126 hE 3 dX7_visit_125 rfl rfl rfl ?_
                refine r_aload_n 127 hE 3 dX7_visit_126 rfl rfl rfl ?_
                refine r_get 130 hE 1 0 ok7 0 dX7_visit_127 rfl wd_252 rfl rfl (by decide) rfl ?_
                refine r_iload 132 hE 2 dX7_visit_130 rfl rfl ?_
                refine r_callV 135 hE [0] [1] [(wRules g ru kd fi se sg le de nx he ro rc re rr)] [(wWalk g w (ru 0) (up sp9 (op9 (od9 - 1)) stm) (up nb9 (op9 (od9 - 1)) wc9) mt9_98 pl9_98 op9 no9 (od9 - 1) stm (wc9 + 1))] 0 3 ok3 [.ref (w 0)] (c_X3_secondOf (by omega) (by omega)) dX7_visit_132 rfl rfl wd_705 wd_706 wd_707 wd_9 wd_708 ne_X3 np_X3_secondOf (Nat.le_of_ble_eq_true rfl)  (by decide) (by decide) rfl (Nat.le_of_ble_eq_true rfl) rfl rfl rfl rfl (by decide) rfl (fun v1 f1 hp => ?_)
                obtain ⟨rfl, rfl⟩ := hp
                show G g E _ _ _ [(wRules g ru kd fi se sg le de nx he ro rc re rr), (wWalk g w (ru 0) (up sp9 (op9 (od9 - 1)) stm) (up nb9 (op9 (od9 - 1)) wc9) mt9_98 pl9_98 op9 no9 (od9 - 1) stm (wc9 + 1))] 135 [(6, .int (iI (fi (op9 (od9 - 1))))), (5, .int (iI (no9 (od9 - 1)))), (4, .int (iI (op9 (od9 - 1)))), (0, .ref (w 0)), (1, .int (iI t)), (2, .int (iI wc)), (3, .int (iI i))] [.int (iI (se (op9 (od9 - 1)))), .ref (w 0)]
                refine r_iload 137 hE 1 dX7_visit_135 rfl rfl ?_
                refine r_aload_n 138 hE 3 dX7_visit_137 rfl rfl rfl ?_
                refine r_get 141 hE 1 0 ok7 0 dX7_visit_138 rfl wd_252 rfl rfl (by decide) rfl ?_
                refine r_iload 143 hE 0 dX7_visit_141 rfl rfl ?_
                refine r_callV 146 hE [0] [1] [(wRules g ru kd fi se sg le de nx he ro rc re rr)] [(wWalk g w (ru 0) (up sp9 (op9 (od9 - 1)) stm) (up nb9 (op9 (od9 - 1)) wc9) mt9_98 pl9_98 op9 no9 (od9 - 1) stm (wc9 + 1))] 0 3 ok3 [.int (iI (no9 (od9 - 1))), .int (iI (se (op9 (od9 - 1)))), .ref (w 0)] (c_X3_lengthOf (by omega) (by omega) (by omega)) dX7_visit_143 rfl rfl wd_709 wd_710 wd_711 wd_9 wd_712 ne_X3 np_X3_lengthOf (Nat.le_of_ble_eq_true rfl)  (by decide) (by decide) rfl (Nat.le_of_ble_eq_true rfl) rfl rfl rfl rfl (by decide) rfl (fun v1 f1 hp => ?_)
                obtain ⟨rfl, rfl⟩ := hp
                show G g E _ _ _ [(wRules g ru kd fi se sg le de nx he ro rc re rr), (wWalk g w (ru 0) (up sp9 (op9 (od9 - 1)) stm) (up nb9 (op9 (od9 - 1)) wc9) mt9_98 pl9_98 op9 no9 (od9 - 1) stm (wc9 + 1))] 146 [(6, .int (iI (fi (op9 (od9 - 1))))), (5, .int (iI (no9 (od9 - 1)))), (4, .int (iI (op9 (od9 - 1)))), (0, .ref (w 0)), (1, .int (iI t)), (2, .int (iI wc)), (3, .int (iI i))] [.int (iI (le (fi (op9 (od9 - 1))))), .int (iI (no9 (od9 - 1))), .int (iI (se (op9 (od9 - 1)))), .ref (w 0)]
                refine r_iadd 147 hE ((no9 (od9 - 1)) + (le (fi (op9 (od9 - 1))))) dX7_visit_146 rfl rfl ?_
                refine r_callV 150 hE [1] [0] [(wWalk g w (ru 0) (up sp9 (op9 (od9 - 1)) stm) (up nb9 (op9 (od9 - 1)) wc9) mt9_98 pl9_98 op9 no9 (od9 - 1) stm (wc9 + 1))] [(wRules g ru kd fi se sg le de nx he ro rc re rr)] 0 7 ok7 [] (c_X7_push (by omega)) dX7_visit_147 rfl rfl wd_688 wd_690 ws_30 wd_8 wd_691 ne_X7 np_X7_push (Nat.le_of_ble_eq_true rfl)  (by decide) (by decide) rfl (Nat.le_of_ble_eq_true rfl) rfl rfl rfl rfl (by decide) rfl (fun v1 f1 hp => ?_)
                obtain ⟨rfl, rfl⟩ := hp
                show G g E _ _ _ [(wWalk g w (ru 0) (up sp9 (op9 (od9 - 1)) stm) (up nb9 (op9 (od9 - 1)) wc9) mt9_98 pl9_98 (up op9 (od9 - 1) (se (op9 (od9 - 1)))) (up no9 (od9 - 1) ((no9 (od9 - 1)) + (le (fi (op9 (od9 - 1)))))) ((od9 - 1) + 1) stm (wc9 + 1)), (wRules g ru kd fi se sg le de nx he ro rc re rr)] 150 [(6, .int (iI (fi (op9 (od9 - 1))))), (5, .int (iI (no9 (od9 - 1)))), (4, .int (iI (op9 (od9 - 1)))), (0, .ref (w 0)), (1, .int (iI t)), (2, .int (iI wc)), (3, .int (iI i))] []
                refine r_aload_n 151 hE 3 dX7_visit_150 rfl rfl rfl ?_
                refine r_get 154 hE 0 0 ok7 0 dX7_visit_151 rfl wd_252 rfl rfl (by decide) rfl ?_
                refine r_iload 156 hE 2 dX7_visit_154 rfl rfl ?_
                refine r_callV 159 hE [1] [0] [(wRules g ru kd fi se sg le de nx he ro rc re rr)] [(wWalk g w (ru 0) (up sp9 (op9 (od9 - 1)) stm) (up nb9 (op9 (od9 - 1)) wc9) mt9_98 pl9_98 (up op9 (od9 - 1) (se (op9 (od9 - 1)))) (up no9 (od9 - 1) ((no9 (od9 - 1)) + (le (fi (op9 (od9 - 1)))))) ((od9 - 1) + 1) stm (wc9 + 1))] 0 3 ok3 [] (c_X3_kindOf (by omega) (by omega)) dX7_visit_156 rfl rfl wd_701 wd_702 wd_703 wd_9 wd_704 ne_X3 np_X3_kindOf (Nat.le_of_ble_eq_true rfl)  (by decide) (by decide) rfl (Nat.le_of_ble_eq_true rfl) rfl rfl rfl rfl (by decide) rfl (fun v1 f1 hp => ?_)
                obtain ⟨rfl, rfl⟩ := hp
                show G g E _ _ _ [(wRules g ru kd fi se sg le de nx he ro rc re rr), (wWalk g w (ru 0) (up sp9 (op9 (od9 - 1)) stm) (up nb9 (op9 (od9 - 1)) wc9) mt9_98 pl9_98 (up op9 (od9 - 1) (se (op9 (od9 - 1)))) (up no9 (od9 - 1) ((no9 (od9 - 1)) + (le (fi (op9 (od9 - 1)))))) ((od9 - 1) + 1) stm (wc9 + 1))] 159 [(6, .int (iI (fi (op9 (od9 - 1))))), (5, .int (iI (no9 (od9 - 1)))), (4, .int (iI (op9 (od9 - 1)))), (0, .ref (w 0)), (1, .int (iI t)), (2, .int (iI wc)), (3, .int (iI i))] [.int (iI (kd (op9 (od9 - 1))))]
                refine r_if_eq 162 170 hE dX7_visit_159 rfl (by decide) (by omega) (fun c159 => ?_) (fun c159 => ?_)
                · skip
                  have hLet := hxr.let c159
                  refine G.to (fs' := [(wWalk g w (ru 0) (up sp9 (op9 (od9 - 1)) stm) (up nb9 (op9 (od9 - 1)) wc9) mt9_98 pl9_98 (up op9 (od9 - 1) (se (op9 (od9 - 1)))) (up no9 (od9 - 1) ((no9 (od9 - 1)) + (le (fi (op9 (od9 - 1)))))) ((od9 - 1) + 1) stm (wc9 + 1)), (wRules g ru kd fi se sg le de nx he ro rc re rr)]) (lv' := [(0, .ref (w 0)), (1, .int (iI t)), (2, .int (iI wc)), (3, .int (iI i))]) [1, 0] [3, 4, 5, 6] rfl rfl rfl ?_
                  exact cut170 (up sp9 (op9 (od9 - 1)) stm) (up nb9 (op9 (od9 - 1)) wc9) mt9_98 pl9_98 (up op9 (od9 - 1) (se (op9 (od9 - 1)))) (up no9 (od9 - 1) ((no9 (od9 - 1)) + (le (fi (op9 (od9 - 1)))))) ((od9 - 1) + 1) (wc9 + 1) _ (by first | exact hW9 | exact hWm) (by omega) (by first | exact (fun j a b => hen j a (by omega)) | exact en_push (fun j a b => hen j a (by omega)) (by omega) | (have h9 := en_push (en_push (f := op9) (n := od9 - 1) (c := rc) (fun j a b => hen j a (by omega)) hseR) hfiR; exact fun j a b => h9 j a (by omega))) (by first | exact vs_old hpop hvs hold | exact vs_let hpop hvs hnew hLet.1 | exact vs_run hpop hvs hnew (hRun c122).1 (by omega) | exact vs_pair hpop hvs hnew hPair.1 (by omega) hle | (exfalso; omega)) (by refine ⟨by omega, ?_, by omega⟩; first | exact nn_run hpop hno.2.1 (hRun c122).1 (by omega) | exact nn_pair hpop hno.2.1 hPair.1 (by omega) | exact nn_old hpop hno.2.1 | (exfalso; omega))
                · skip
                  have hfx : 0 ≤ fi (op9 (od9 - 1)) ∧ fi (op9 (od9 - 1)) < rc := by have h9 := hxr.1; rcases h9 with z | z | z <;> omega
                  have hRun : kd (op9 (od9 - 1)) ≠ 1 → _ := hxr.run c159
                  refine r_aload_n 163 hE 3 dX7_visit_162 rfl rfl rfl ?_
                  refine r_iload 165 hE 0 dX7_visit_163 rfl rfl ?_
                  refine r_iload 167 hE 1 dX7_visit_165 rfl rfl ?_
                  refine r_callV 170 hE [1] [0] [(wWalk g w (ru 0) (up sp9 (op9 (od9 - 1)) stm) (up nb9 (op9 (od9 - 1)) wc9) mt9_98 pl9_98 (up op9 (od9 - 1) (se (op9 (od9 - 1)))) (up no9 (od9 - 1) ((no9 (od9 - 1)) + (le (fi (op9 (od9 - 1)))))) ((od9 - 1) + 1) stm (wc9 + 1))] [(wRules g ru kd fi se sg le de nx he ro rc re rr)] 0 7 ok7 [] (c_X7_push (by omega)) dX7_visit_167 rfl rfl wd_688 wd_690 ws_30 wd_8 wd_691 ne_X7 np_X7_push (Nat.le_of_ble_eq_true rfl)  (by decide) (by decide) rfl (Nat.le_of_ble_eq_true rfl) rfl rfl rfl rfl (by decide) rfl (fun v1 f1 hp => ?_)
                  obtain ⟨rfl, rfl⟩ := hp
                  show G g E _ _ _ [(wWalk g w (ru 0) (up sp9 (op9 (od9 - 1)) stm) (up nb9 (op9 (od9 - 1)) wc9) mt9_98 pl9_98 (up (up op9 (od9 - 1) (se (op9 (od9 - 1)))) ((od9 - 1) + 1) (fi (op9 (od9 - 1)))) (up (up no9 (od9 - 1) ((no9 (od9 - 1)) + (le (fi (op9 (od9 - 1)))))) ((od9 - 1) + 1) (no9 (od9 - 1))) (((od9 - 1) + 1) + 1) stm (wc9 + 1)), (wRules g ru kd fi se sg le de nx he ro rc re rr)] 170 [(6, .int (iI (fi (op9 (od9 - 1))))), (5, .int (iI (no9 (od9 - 1)))), (4, .int (iI (op9 (od9 - 1)))), (0, .ref (w 0)), (1, .int (iI t)), (2, .int (iI wc)), (3, .int (iI i))] []
                  refine G.to (fs' := [(wWalk g w (ru 0) (up sp9 (op9 (od9 - 1)) stm) (up nb9 (op9 (od9 - 1)) wc9) mt9_98 pl9_98 (up (up op9 (od9 - 1) (se (op9 (od9 - 1)))) ((od9 - 1) + 1) (fi (op9 (od9 - 1)))) (up (up no9 (od9 - 1) ((no9 (od9 - 1)) + (le (fi (op9 (od9 - 1)))))) ((od9 - 1) + 1) (no9 (od9 - 1))) (((od9 - 1) + 1) + 1) stm (wc9 + 1)), (wRules g ru kd fi se sg le de nx he ro rc re rr)]) (lv' := [(0, .ref (w 0)), (1, .int (iI t)), (2, .int (iI wc)), (3, .int (iI i))]) [0, 1] [3, 4, 5, 6] rfl rfl rfl ?_
                  exact cut170 (up sp9 (op9 (od9 - 1)) stm) (up nb9 (op9 (od9 - 1)) wc9) mt9_98 pl9_98 (up (up op9 (od9 - 1) (se (op9 (od9 - 1)))) ((od9 - 1) + 1) (fi (op9 (od9 - 1)))) (up (up no9 (od9 - 1) ((no9 (od9 - 1)) + (le (fi (op9 (od9 - 1)))))) ((od9 - 1) + 1) (no9 (od9 - 1))) (((od9 - 1) + 1) + 1) (wc9 + 1) _ (by first | exact hW9 | exact hWm) (by omega) (by first | exact (fun j a b => hen j a (by omega)) | exact en_push (fun j a b => hen j a (by omega)) (by omega) | (have h9 := en_push (en_push (f := op9) (n := od9 - 1) (c := rc) (fun j a b => hen j a (by omega)) hseR) hfiR; exact fun j a b => h9 j a (by omega))) (by first | exact vs_old hpop hvs hold | exact vs_let hpop hvs hnew hLet.1 | exact vs_run hpop hvs hnew (hRun c122).1 (by omega) | exact vs_pair hpop hvs hnew hPair.1 (by omega) hle | (exfalso; omega)) (by refine ⟨by omega, ?_, by omega⟩; first | exact nn_run hpop hno.2.1 (hRun c122).1 (by omega) | exact nn_pair hpop hno.2.1 hPair.1 (by omega) | exact nn_old hpop hno.2.1 | (exfalso; omega))
            · skip
              have hold : InV V9 (R (op9 (od9 - 1))) := ((hW9.2.2.1 _ hx.1 (by omega)).mp c87).2
              refine r_goto 170 hE dX7_visit_90 (by decide) ?_
              refine G.to (fs' := [(wWalk g w (ru 0) sp9 nb9 mt9 pl9 op9 no9 (od9 - 1) stm wc9), (wRules g ru kd fi se sg le de nx he ro rc re rr)]) (lv' := [(0, .ref (w 0)), (1, .int (iI t)), (2, .int (iI wc)), (3, .int (iI i))]) [1, 0] [2, 3, 4, 5] rfl rfl rfl ?_
              exact cut170 sp9 nb9 mt9 pl9 op9 no9 (od9 - 1) wc9 _ (by first | exact hW9 | exact hWm) (by omega) (by first | exact (fun j a b => hen j a (by omega)) | exact en_push (fun j a b => hen j a (by omega)) (by omega) | (have h9 := en_push (en_push (f := op9) (n := od9 - 1) (c := rc) (fun j a b => hen j a (by omega)) hseR) hfiR; exact fun j a b => h9 j a (by omega))) (by first | exact vs_old hpop hvs hold | exact vs_let hpop hvs hnew hLet.1 | exact vs_run hpop hvs hnew (hRun c122).1 (by omega) | exact vs_pair hpop hvs hnew hPair.1 (by omega) hle | (exfalso; omega)) (by refine ⟨by omega, ?_, by omega⟩; first | exact nn_run hpop hno.2.1 (hRun c122).1 (by omega) | exact nn_pair hpop hno.2.1 hPair.1 (by omega) | exact nn_old hpop hno.2.1 | (exfalso; omega))
  refine r_aload_n 1 hE 0 dX7_visit_0 rfl rfl rfl ?_
  refine r_get 4 hE 0 0 ok7 9 dX7_visit_1 rfl wd_262 rfl rfl (by decide) rfl ?_
  refine r_istore_n 5 hE [(2, .int (iI wc)), (0, .ref (w 0)), (1, .int (iI t))] dX7_visit_4 rfl rfl (by decide) rfl ?_
  refine r_aload_n 6 hE 1 dX7_visit_5 rfl rfl rfl ?_
  refine r_iconst 7 hE dX7_visit_6 rfl ?_
  refine r_put 10 hE 0 0 ok7 7 (wWalk g w (ru 0) sp nb mt pl op no 0 stm wc) [(wWalk g w (ru 0) sp nb mt pl op no 0 stm wc), (wRules g ru kd fi se sg le de nx he ro rc re rr)] dX7_visit_7 rfl wd_260 rfl rfl (by decide) rfl rfl rfl (Nat.le_of_ble_eq_true rfl) rfl rfl ?_
  refine r_aload_n 11 hE 1 dX7_visit_10 rfl rfl rfl ?_
  refine r_iload_n 12 hE 2 dX7_visit_11 rfl rfl rfl ?_
  refine r_iconst 13 hE dX7_visit_12 rfl ?_
  refine r_callV 16 hE [0] [1] [(wWalk g w (ru 0) sp nb mt pl op no 0 stm wc)] [(wRules g ru kd fi se sg le de nx he ro rc re rr)] 0 7 ok7 [] (c_X7_push (by omega)) dX7_visit_13 rfl rfl wd_688 wd_690 ws_30 wd_8 wd_691 ne_X7 np_X7_push (Nat.le_of_ble_eq_true rfl)  (by decide) (by decide) rfl (Nat.le_of_ble_eq_true rfl) rfl rfl rfl rfl (by decide) rfl (fun v1 f1 hp => ?_)
  obtain ⟨rfl, rfl⟩ := hp
  show G g E _ _ _ [(wWalk g w (ru 0) sp nb mt pl (up op 0 t) (up no 0 0) (0 + 1) stm wc), (wRules g ru kd fi se sg le de nx he ro rc re rr)] 16 [(2, .int (iI wc)), (0, .ref (w 0)), (1, .int (iI t))] []
  refine r_iconst 17 hE dX7_visit_16 rfl ?_
  refine r_istore_n 18 hE [(3, .int (iI 0)), (2, .int (iI wc)), (0, .ref (w 0)), (1, .int (iI t))] dX7_visit_17 rfl rfl (by decide) rfl ?_
  refine G.to (fs' := [(wWalk g w (ru 0) sp nb mt pl (up op 0 t) (up no 0 0) (0 + 1) stm wc), (wRules g ru kd fi se sg le de nx he ro rc re rr)]) (lv' := [(0, .ref (w 0)), (1, .int (iI t)), (2, .int (iI wc)), (3, .int (iI 0))]) [0, 1] [2, 3, 1, 0] rfl rfl rfl ?_
  exact cut18 _ sp nb mt pl (up op 0 t) (up no 0 0) (0 + 1) wc _ 0 (by first | exact hW | exact hW9 | exact hW8) (by omega) (by first | exact hen2 | exact (fun j a b => by rw [show j = 0 by omega, up_same]; exact htt)) (by first | exact hvs2 | (rw [show (0 : Int) + 1 = 0 + 1 from rfl, stk_push (by omega), stk_0 _ _ _ (by omega)]; rfl)) (by first | exact hno2 | (rw [stk_push (by omega), stk_0 _ _ _ (by omega)]; show _ ∧ 0 + (nod (R t) + 0) ≤ 1199 ∧ _; omega)) (Nat.lt_succ_self _)
