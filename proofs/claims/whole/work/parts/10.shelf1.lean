/-! ===== a shelf: what it holds ===== -/
def atF (L ln : Int → Int) (t p : Int) : Int := if 0 ≤ p ∧ p < ln t then L (600 * t + p) else -1
theorem atF_in {ln : Int → Int} (L : Int → Int) {t p : Int} (h : 0 ≤ p ∧ p < ln t) : atF L ln t p = L (t * 600 + p) := by
  unfold atF; rw [if_pos h, Int.mul_comm]
theorem atF_no {ln : Int → Int} (L : Int → Int) {t p : Int} (h : ¬ (0 ≤ p ∧ p < ln t)) : atF L ln t p = -1 := by
  unfold atF; rw [if_neg h]
def wShelf (g : Gm) (a : Nat → Nat) (L : Int → Int) (ln : Int → Int) (tp : Int → Int) (rd : Int → Int) (cnt : Int) (era : Int) (nws : Int) : va_W := [ob (a 0) 5 [.ref (a 1), .ref (a 2), .ref (a 3), .ref (a 4), .int (iI cnt), .int (iI era), .int (iI nws)], ba g (a 1) 4800 L, ia g (a 2) 8 ln, ia g (a 3) 8 tp, ia g (a 4) 8 rd]
set_option maxHeartbeats 4000000 in
set_option maxRecDepth 100000 in
theorem c_X5_has {g : Gm} {a : Nat → Nat} {L ln tp rd : Int → Int} {cnt era nws : Int} {t : Int} (ht : -2147483648 ≤ t ∧ t ≤ 2147483647) (hc : 0 ≤ cnt ∧ cnt ≤ 8) : Ct g 0 0 0 yX5_has cX5_has 2 (some .boolean) [.ref (a 0), .int (iI t)] [(wShelf g a L ln tp rd cnt era nws)] (fun v w => v = some (.int (iI (bI (0 ≤ t ∧ t < cnt)))) ∧ w = [(wShelf g a L ln tp rd cnt era nws)]) := by
  refine Ct.of (by decide) (Nat.le_of_ble_eq_true rfl) (lv := [(0, .ref (a 0)), (1, .int (iI t))]) rfl ?_
  intro E hE hR hnm
  refine r_iload_n 1 hE 1 dX5_has_0 rfl rfl rfl ?_
  refine r_if_lt 4 22 hE dX5_has_1 rfl (by decide) (by omega) (fun c1 => ?_) (fun c1 => ?_)
  · skip
    refine r_iconst 23 hE dX5_has_22 rfl ?_
    refine r_zreturn hE hR [(wShelf g a L ln tp rd cnt era nws)] dX5_has_23 (Nat.le_of_ble_eq_true rfl) (Nat.le_of_ble_eq_true rfl) (by decide) rfl ?_
    exact ⟨ret0 (by omega), rfl⟩
  · skip
    refine r_iload_n 5 hE 1 dX5_has_4 rfl rfl rfl ?_
    refine r_aload_n 6 hE 0 dX5_has_5 rfl rfl rfl ?_
    refine r_get 9 hE 0 0 ok5 4 dX5_has_6 rfl wd_82 rfl rfl (by decide) rfl ?_
    refine r_icmp_ge 12 22 hE dX5_has_9 rfl (by decide) (by omega) (fun c9 => ?_) (fun c9 => ?_)
    · skip
      refine r_iconst 23 hE dX5_has_22 rfl ?_
      refine r_zreturn hE hR [(wShelf g a L ln tp rd cnt era nws)] dX5_has_23 (Nat.le_of_ble_eq_true rfl) (Nat.le_of_ble_eq_true rfl) (by decide) rfl ?_
      exact ⟨ret0 (by omega), rfl⟩
    · skip
      refine r_iload_n 13 hE 1 dX5_has_12 rfl rfl rfl ?_
      refine r_bipush 15 hE dX5_has_13 rfl (by decide) ?_
      refine r_icmp_ge 18 22 hE dX5_has_15 rfl (by decide) (by omega) (fun c15 => ?_) (fun c15 => ?_)
      · skip
        refine r_iconst 23 hE dX5_has_22 rfl ?_
        refine r_zreturn hE hR [(wShelf g a L ln tp rd cnt era nws)] dX5_has_23 (Nat.le_of_ble_eq_true rfl) (Nat.le_of_ble_eq_true rfl) (by decide) rfl ?_
        exact ⟨ret0 (by omega), rfl⟩
      · skip
        refine r_iconst 19 hE dX5_has_18 rfl ?_
        refine r_goto 23 hE dX5_has_19 (by decide) ?_
        refine r_zreturn hE hR [(wShelf g a L ln tp rd cnt era nws)] dX5_has_23 (Nat.le_of_ble_eq_true rfl) (Nat.le_of_ble_eq_true rfl) (by decide) rfl ?_
        exact ⟨ret1 (by omega), rfl⟩
set_option maxHeartbeats 4000000 in
set_option maxRecDepth 100000 in
theorem c_X5_lengthOf {g : Gm} {a : Nat → Nat} {L ln tp rd : Int → Int} {cnt era nws : Int} {t : Int} (hin : 0 ≤ t ∧ t < cnt) (hc : 0 ≤ cnt ∧ cnt ≤ 8) : Ct g 1 0 0 yX5_lengthOf cX5_lengthOf 2 (some .int) [.ref (a 0), .int (iI t)] [(wShelf g a L ln tp rd cnt era nws)] (fun v w => v = some (.int (iI (ln t))) ∧ w = [(wShelf g a L ln tp rd cnt era nws)]) := by
  refine Ct.of (by decide) (Nat.le_of_ble_eq_true rfl) (lv := [(0, .ref (a 0)), (1, .int (iI t))]) rfl ?_
  intro E hE hR hnm
  refine r_aload_n 1 hE 0 dX5_lengthOf_0 rfl rfl rfl ?_
  refine r_iload_n 2 hE 1 dX5_lengthOf_1 rfl rfl rfl ?_
  refine r_callV 5 hE [0] [] [(wShelf g a L ln tp rd cnt era nws)] [] 0 5 ok5 [] (c_X5_has (by omega) (by omega)) dX5_lengthOf_2 rfl rfl wd_634 wd_578 wd_579 wd_4 wd_580 ne_X5 np_X5_has (Nat.le_of_ble_eq_true rfl)  (by decide) (by decide) rfl (Nat.le_of_ble_eq_true rfl) rfl rfl rfl rfl (by decide) rfl (fun v1 f1 hp => ?_)
  obtain ⟨rfl, rfl⟩ := hp
  show G g E _ _ _ [(wShelf g a L ln tp rd cnt era nws)] 5 [(0, .ref (a 0)), (1, .int (iI t))] [.int (iI (bI (0 ≤ t ∧ t < cnt)))]
  refine r_if_eq 8 17 hE dX5_lengthOf_5 rfl (by decide) (bI_rg _) (fun c5 => ?_) (fun c5 => ?_)
  · skip
    have c5 := bI0 c5
    exact absurd hin c5
  · skip
    have c5 := bI1 c5
    refine r_aload_n 9 hE 0 dX5_lengthOf_8 rfl rfl rfl ?_
    refine r_get 12 hE 0 0 ok5 1 dX5_lengthOf_9 rfl wd_78 rfl rfl (by decide) rfl ?_
    refine r_iload_n 13 hE 1 dX5_lengthOf_12 rfl rfl rfl ?_
    refine r_iald 14 hE 0 2 dX5_lengthOf_13 rfl rfl rfl (by omega) ?_
    refine r_goto 18 hE dX5_lengthOf_14 (by decide) ?_
    refine r_ireturn hE hR [(wShelf g a L ln tp rd cnt era nws)] dX5_lengthOf_18 (Nat.le_of_ble_eq_true rfl) (Nat.le_of_ble_eq_true rfl) rfl ?_
    exact ⟨retI (rfl), rfl⟩
set_option maxHeartbeats 4000000 in
set_option maxRecDepth 100000 in
theorem c_X5_topOf {g : Gm} {a : Nat → Nat} {L ln tp rd : Int → Int} {cnt era nws : Int} {t : Int} (hin : 0 ≤ t ∧ t < cnt) (hc : 0 ≤ cnt ∧ cnt ≤ 8) : Ct g 1 0 0 yX5_topOf cX5_topOf 2 (some .int) [.ref (a 0), .int (iI t)] [(wShelf g a L ln tp rd cnt era nws)] (fun v w => v = some (.int (iI (tp t))) ∧ w = [(wShelf g a L ln tp rd cnt era nws)]) := by
  refine Ct.of (by decide) (Nat.le_of_ble_eq_true rfl) (lv := [(0, .ref (a 0)), (1, .int (iI t))]) rfl ?_
  intro E hE hR hnm
  refine r_aload_n 1 hE 0 dX5_topOf_0 rfl rfl rfl ?_
  refine r_iload_n 2 hE 1 dX5_topOf_1 rfl rfl rfl ?_
  refine r_callV 5 hE [0] [] [(wShelf g a L ln tp rd cnt era nws)] [] 0 5 ok5 [] (c_X5_has (by omega) (by omega)) dX5_topOf_2 rfl rfl wd_634 wd_578 wd_579 wd_4 wd_580 ne_X5 np_X5_has (Nat.le_of_ble_eq_true rfl)  (by decide) (by decide) rfl (Nat.le_of_ble_eq_true rfl) rfl rfl rfl rfl (by decide) rfl (fun v1 f1 hp => ?_)
  obtain ⟨rfl, rfl⟩ := hp
  show G g E _ _ _ [(wShelf g a L ln tp rd cnt era nws)] 5 [(0, .ref (a 0)), (1, .int (iI t))] [.int (iI (bI (0 ≤ t ∧ t < cnt)))]
  refine r_if_eq 8 17 hE dX5_topOf_5 rfl (by decide) (bI_rg _) (fun c5 => ?_) (fun c5 => ?_)
  · skip
    have c5 := bI0 c5
    exact absurd hin c5
  · skip
    have c5 := bI1 c5
    refine r_aload_n 9 hE 0 dX5_topOf_8 rfl rfl rfl ?_
    refine r_get 12 hE 0 0 ok5 2 dX5_topOf_9 rfl wd_80 rfl rfl (by decide) rfl ?_
    refine r_iload_n 13 hE 1 dX5_topOf_12 rfl rfl rfl ?_
    refine r_iald 14 hE 0 3 dX5_topOf_13 rfl rfl rfl (by omega) ?_
    refine r_goto 18 hE dX5_topOf_14 (by decide) ?_
    refine r_ireturn hE hR [(wShelf g a L ln tp rd cnt era nws)] dX5_topOf_18 (Nat.le_of_ble_eq_true rfl) (Nat.le_of_ble_eq_true rfl) rfl ?_
    exact ⟨retI (rfl), rfl⟩
set_option maxHeartbeats 4000000 in
set_option maxRecDepth 100000 in
theorem c_X5_roundsOf {g : Gm} {a : Nat → Nat} {L ln tp rd : Int → Int} {cnt era nws : Int} {t : Int} (hin : 0 ≤ t ∧ t < cnt) (hc : 0 ≤ cnt ∧ cnt ≤ 8) : Ct g 1 0 0 yX5_roundsOf cX5_roundsOf 2 (some .int) [.ref (a 0), .int (iI t)] [(wShelf g a L ln tp rd cnt era nws)] (fun v w => v = some (.int (iI (rd t))) ∧ w = [(wShelf g a L ln tp rd cnt era nws)]) := by
  refine Ct.of (by decide) (Nat.le_of_ble_eq_true rfl) (lv := [(0, .ref (a 0)), (1, .int (iI t))]) rfl ?_
  intro E hE hR hnm
  refine r_aload_n 1 hE 0 dX5_roundsOf_0 rfl rfl rfl ?_
  refine r_iload_n 2 hE 1 dX5_roundsOf_1 rfl rfl rfl ?_
  refine r_callV 5 hE [0] [] [(wShelf g a L ln tp rd cnt era nws)] [] 0 5 ok5 [] (c_X5_has (by omega) (by omega)) dX5_roundsOf_2 rfl rfl wd_634 wd_578 wd_579 wd_4 wd_580 ne_X5 np_X5_has (Nat.le_of_ble_eq_true rfl)  (by decide) (by decide) rfl (Nat.le_of_ble_eq_true rfl) rfl rfl rfl rfl (by decide) rfl (fun v1 f1 hp => ?_)
  obtain ⟨rfl, rfl⟩ := hp
  show G g E _ _ _ [(wShelf g a L ln tp rd cnt era nws)] 5 [(0, .ref (a 0)), (1, .int (iI t))] [.int (iI (bI (0 ≤ t ∧ t < cnt)))]
  refine r_if_eq 8 17 hE dX5_roundsOf_5 rfl (by decide) (bI_rg _) (fun c5 => ?_) (fun c5 => ?_)
  · skip
    have c5 := bI0 c5
    exact absurd hin c5
  · skip
    have c5 := bI1 c5
    refine r_aload_n 9 hE 0 dX5_roundsOf_8 rfl rfl rfl ?_
    refine r_get 12 hE 0 0 ok5 3 dX5_roundsOf_9 rfl wd_81 rfl rfl (by decide) rfl ?_
    refine r_iload_n 13 hE 1 dX5_roundsOf_12 rfl rfl rfl ?_
    refine r_iald 14 hE 0 4 dX5_roundsOf_13 rfl rfl rfl (by omega) ?_
    refine r_goto 18 hE dX5_roundsOf_14 (by decide) ?_
    refine r_ireturn hE hR [(wShelf g a L ln tp rd cnt era nws)] dX5_roundsOf_18 (Nat.le_of_ble_eq_true rfl) (Nat.le_of_ble_eq_true rfl) rfl ?_
    exact ⟨retI (rfl), rfl⟩
set_option maxHeartbeats 4000000 in
set_option maxRecDepth 100000 in
theorem c_X5_setTop {g : Gm} {a : Nat → Nat} {L ln tp rd : Int → Int} {cnt era nws : Int} {t top rds : Int} (hin : 0 ≤ t ∧ t < cnt) (hc : 0 ≤ cnt ∧ cnt ≤ 8) : Ct g 1 0 0 yX5_setTop cX5_setTop 4 none [.ref (a 0), .int (iI t), .int (iI top), .int (iI rds)] [(wShelf g a L ln tp rd cnt era nws)] (fun v w => v = none ∧ w = [(wShelf g a L ln (up tp t top) (up rd t rds) cnt era nws)]) := by
  refine Ct.of (by decide) (Nat.le_of_ble_eq_true rfl) (lv := [(0, .ref (a 0)), (1, .int (iI t)), (2, .int (iI top)), (3, .int (iI rds))]) rfl ?_
  intro E hE hR hnm
  refine r_aload_n 1 hE 0 dX5_setTop_0 rfl rfl rfl ?_
  refine r_iload_n 2 hE 1 dX5_setTop_1 rfl rfl rfl ?_
  refine r_callV 5 hE [0] [] [(wShelf g a L ln tp rd cnt era nws)] [] 0 5 ok5 [] (c_X5_has (by omega) (by omega)) dX5_setTop_2 rfl rfl wd_634 wd_578 wd_579 wd_4 wd_580 ne_X5 np_X5_has (Nat.le_of_ble_eq_true rfl)  (by decide) (by decide) rfl (Nat.le_of_ble_eq_true rfl) rfl rfl rfl rfl (by decide) rfl (fun v1 f1 hp => ?_)
  obtain ⟨rfl, rfl⟩ := hp
  show G g E _ _ _ [(wShelf g a L ln tp rd cnt era nws)] 5 [(0, .ref (a 0)), (1, .int (iI t)), (2, .int (iI top)), (3, .int (iI rds))] [.int (iI (bI (0 ≤ t ∧ t < cnt)))]
  refine r_if_eq 8 22 hE dX5_setTop_5 rfl (by decide) (bI_rg _) (fun c5 => ?_) (fun c5 => ?_)
  · skip
    have c5 := bI0 c5
    exact absurd hin c5
  · skip
    have c5 := bI1 c5
    refine r_aload_n 9 hE 0 dX5_setTop_8 rfl rfl rfl ?_
    refine r_get 12 hE 0 0 ok5 2 dX5_setTop_9 rfl wd_80 rfl rfl (by decide) rfl ?_
    refine r_iload_n 13 hE 1 dX5_setTop_12 rfl rfl rfl ?_
    refine r_iload_n 14 hE 2 dX5_setTop_13 rfl rfl rfl ?_
    refine r_iast 15 hE 0 3 (wShelf g a L ln (up tp t top) rd cnt era nws) [(wShelf g a L ln (up tp t top) rd cnt era nws)] dX5_setTop_14 rfl rfl rfl (by omega) rfl rfl ?_
    refine r_aload_n 16 hE 0 dX5_setTop_15 rfl rfl rfl ?_
    refine r_get 19 hE 0 0 ok5 3 dX5_setTop_16 rfl wd_81 rfl rfl (by decide) rfl ?_
    refine r_iload_n 20 hE 1 dX5_setTop_19 rfl rfl rfl ?_
    refine r_iload_n 21 hE 3 dX5_setTop_20 rfl rfl rfl ?_
    refine r_iast 22 hE 0 4 (wShelf g a L ln (up tp t top) (up rd t rds) cnt era nws) [(wShelf g a L ln (up tp t top) (up rd t rds) cnt era nws)] dX5_setTop_21 rfl rfl rfl (by omega) rfl rfl ?_
    refine r_return hE hR [(wShelf g a L ln (up tp t top) (up rd t rds) cnt era nws)] dX5_setTop_22 (Nat.le_of_ble_eq_true rfl) (Nat.le_of_ble_eq_true rfl) rfl ?_
    exact ⟨rfl, rfl⟩
set_option maxHeartbeats 4000000 in
set_option maxRecDepth 100000 in
theorem c_X5_at {g : Gm} {a : Nat → Nat} {L ln tp rd : Int → Int} {cnt era nws : Int} {t p : Int} (hin : 0 ≤ t ∧ t < cnt) (hc : 0 ≤ cnt ∧ cnt ≤ 8) (hln : ∀ j, 0 ≤ j → j < cnt → 0 ≤ ln j ∧ ln j ≤ 600) (hp : -2147483648 ≤ p ∧ p ≤ 2147483647) : Ct g 1 0 0 yX5_at cX5_at 3 (some .int) [.ref (a 0), .int (iI t), .int (iI p)] [(wShelf g a L ln tp rd cnt era nws)] (fun v w => v = some (.int (iI (atF L ln t p))) ∧ w = [(wShelf g a L ln tp rd cnt era nws)]) := by
  refine Ct.of (by decide) (Nat.le_of_ble_eq_true rfl) (lv := [(0, .ref (a 0)), (1, .int (iI t)), (2, .int (iI p))]) rfl ?_
  intro E hE hR hnm
  have hl0 := hln t hin.1 hin.2
  refine r_aload_n 1 hE 0 dX5_at_0 rfl rfl rfl ?_
  refine r_iload_n 2 hE 1 dX5_at_1 rfl rfl rfl ?_
  refine r_callV 5 hE [0] [] [(wShelf g a L ln tp rd cnt era nws)] [] 0 5 ok5 [] (c_X5_has (by omega) (by omega)) dX5_at_2 rfl rfl wd_634 wd_578 wd_579 wd_4 wd_580 ne_X5 np_X5_has (Nat.le_of_ble_eq_true rfl)  (by decide) (by decide) rfl (Nat.le_of_ble_eq_true rfl) rfl rfl rfl rfl (by decide) rfl (fun v1 f1 hp => ?_)
  obtain ⟨rfl, rfl⟩ := hp
  show G g E _ _ _ [(wShelf g a L ln tp rd cnt era nws)] 5 [(0, .ref (a 0)), (1, .int (iI t)), (2, .int (iI p))] [.int (iI (bI (0 ≤ t ∧ t < cnt)))]
  refine r_if_eq 8 37 hE dX5_at_5 rfl (by decide) (bI_rg _) (fun c5 => ?_) (fun c5 => ?_)
  · skip
    have c5 := bI0 c5
    exact absurd hin c5
  · skip
    have c5 := bI1 c5
    refine r_iload_n 9 hE 2 dX5_at_8 rfl rfl rfl ?_
    refine r_if_lt 12 37 hE dX5_at_9 rfl (by decide) (by omega) (fun c9 => ?_) (fun c9 => ?_)
    · skip
      refine r_iconst 38 hE dX5_at_37 rfl ?_
      refine r_ireturn hE hR [(wShelf g a L ln tp rd cnt era nws)] dX5_at_38 (Nat.le_of_ble_eq_true rfl) (Nat.le_of_ble_eq_true rfl) rfl ?_
      exact ⟨by first | exact retI (atF_no L (by omega)).symm | exact retI (atF_in L (by omega)).symm, rfl⟩
    · skip
      refine r_iload_n 13 hE 2 dX5_at_12 rfl rfl rfl ?_
      refine r_aload_n 14 hE 0 dX5_at_13 rfl rfl rfl ?_
      refine r_get 17 hE 0 0 ok5 1 dX5_at_14 rfl wd_78 rfl rfl (by decide) rfl ?_
      refine r_iload_n 18 hE 1 dX5_at_17 rfl rfl rfl ?_
      refine r_iald 19 hE 0 2 dX5_at_18 rfl rfl rfl (by omega) ?_
      refine r_icmp_ge 22 37 hE dX5_at_19 rfl (by decide) (by omega) (fun c19 => ?_) (fun c19 => ?_)
      · skip
        refine r_iconst 38 hE dX5_at_37 rfl ?_
        refine r_ireturn hE hR [(wShelf g a L ln tp rd cnt era nws)] dX5_at_38 (Nat.le_of_ble_eq_true rfl) (Nat.le_of_ble_eq_true rfl) rfl ?_
        exact ⟨by first | exact retI (atF_no L (by omega)).symm | exact retI (atF_in L (by omega)).symm, rfl⟩
      · skip
        refine r_aload_n 23 hE 0 dX5_at_22 rfl rfl rfl ?_
        refine r_get 26 hE 0 0 ok5 0 dX5_at_23 rfl wd_75 rfl rfl (by decide) rfl ?_
        refine r_iload_n 27 hE 1 dX5_at_26 rfl rfl rfl ?_
        refine r_sipush 30 hE dX5_at_27 rfl (by decide) ?_
        refine r_imul 31 hE (t * 600) dX5_at_30 rfl rfl ?_
        refine r_iload_n 32 hE 2 dX5_at_31 rfl rfl rfl ?_
        refine r_iadd 33 hE ((t * 600) + p) dX5_at_32 rfl rfl ?_
        refine r_bald 34 hE 0 1 dX5_at_33 rfl rfl rfl (by omega) ?_
        refine r_goto 38 hE dX5_at_34 (by decide) ?_
        refine r_ireturn hE hR [(wShelf g a L ln tp rd cnt era nws)] dX5_at_38 (Nat.le_of_ble_eq_true rfl) (Nat.le_of_ble_eq_true rfl) rfl ?_
        exact ⟨by first | exact retI (atF_no L (by omega)).symm | exact retI (atF_in L (by omega)).symm, rfl⟩
set_option maxHeartbeats 4000000 in
set_option maxRecDepth 100000 in
theorem c_X5_reaches {g : Gm} {a : Nat → Nat} {L ln tp rd : Int → Int} {cnt era nws : Int} {t p m : Int} (ht : -2147483648 ≤ t ∧ t ≤ 2147483647) (hc : 0 ≤ cnt ∧ cnt ≤ 8) (hln : ∀ j, 0 ≤ j → j < cnt → 0 ≤ ln j ∧ ln j ≤ 600) (hp : -2147483648 ≤ p ∧ p ≤ 2147483647) (hm : -2147483648 ≤ m ∧ m ≤ 2147483647) : Ct g 1 0 0 yX5_reaches cX5_reaches 4 (some .boolean) [.ref (a 0), .int (iI t), .int (iI p), .int (iI m)] [(wShelf g a L ln tp rd cnt era nws)] (fun v w => v = some (.int (iI (bI ((0 ≤ t ∧ t < cnt) ∧ 0 ≤ p ∧ p ≤ ln t ∧ m ≤ ln t - p)))) ∧ w = [(wShelf g a L ln tp rd cnt era nws)]) := by
  refine Ct.of (by decide) (Nat.le_of_ble_eq_true rfl) (lv := [(0, .ref (a 0)), (1, .int (iI t)), (2, .int (iI p)), (3, .int (iI m))]) rfl ?_
  intro E hE hR hnm
  refine r_aload_n 1 hE 0 dX5_reaches_0 rfl rfl rfl ?_
  refine r_iload_n 2 hE 1 dX5_reaches_1 rfl rfl rfl ?_
  refine r_callV 5 hE [0] [] [(wShelf g a L ln tp rd cnt era nws)] [] 0 5 ok5 [] (c_X5_has (by omega) (by omega)) dX5_reaches_2 rfl rfl wd_634 wd_578 wd_579 wd_4 wd_580 ne_X5 np_X5_has (Nat.le_of_ble_eq_true rfl)  (by decide) (by decide) rfl (Nat.le_of_ble_eq_true rfl) rfl rfl rfl rfl (by decide) rfl (fun v1 f1 hp => ?_)
  obtain ⟨rfl, rfl⟩ := hp
  show G g E _ _ _ [(wShelf g a L ln tp rd cnt era nws)] 5 [(0, .ref (a 0)), (1, .int (iI t)), (2, .int (iI p)), (3, .int (iI m))] [.int (iI (bI (0 ≤ t ∧ t < cnt)))]
  refine r_if_eq 8 38 hE dX5_reaches_5 rfl (by decide) (bI_rg _) (fun c5 => ?_) (fun c5 => ?_)
  · skip
    have c5 := bI0 c5
    refine r_iconst 39 hE dX5_reaches_38 rfl ?_
    refine r_zreturn hE hR [(wShelf g a L ln tp rd cnt era nws)] dX5_reaches_39 (Nat.le_of_ble_eq_true rfl) (Nat.le_of_ble_eq_true rfl) (by decide) rfl ?_
    exact ⟨ret0 (by omega), rfl⟩
  · skip
    have c5 := bI1 c5
    have hl0 := hln t c5.1 c5.2
    refine r_iload_n 9 hE 2 dX5_reaches_8 rfl rfl rfl ?_
    refine r_if_lt 12 38 hE dX5_reaches_9 rfl (by decide) (by omega) (fun c9 => ?_) (fun c9 => ?_)
    · skip
      refine r_iconst 39 hE dX5_reaches_38 rfl ?_
      refine r_zreturn hE hR [(wShelf g a L ln tp rd cnt era nws)] dX5_reaches_39 (Nat.le_of_ble_eq_true rfl) (Nat.le_of_ble_eq_true rfl) (by decide) rfl ?_
      exact ⟨ret0 (by omega), rfl⟩
    · skip
      refine r_iload_n 13 hE 2 dX5_reaches_12 rfl rfl rfl ?_
      refine r_aload_n 14 hE 0 dX5_reaches_13 rfl rfl rfl ?_
      refine r_get 17 hE 0 0 ok5 1 dX5_reaches_14 rfl wd_78 rfl rfl (by decide) rfl ?_
      refine r_iload_n 18 hE 1 dX5_reaches_17 rfl rfl rfl ?_
      refine r_iald 19 hE 0 2 dX5_reaches_18 rfl rfl rfl (by omega) ?_
      refine r_icmp_gt 22 38 hE dX5_reaches_19 rfl (by decide) (by omega) (fun c19 => ?_) (fun c19 => ?_)
      · skip
        refine r_iconst 39 hE dX5_reaches_38 rfl ?_
        refine r_zreturn hE hR [(wShelf g a L ln tp rd cnt era nws)] dX5_reaches_39 (Nat.le_of_ble_eq_true rfl) (Nat.le_of_ble_eq_true rfl) (by decide) rfl ?_
        exact ⟨ret0 (by omega), rfl⟩
      · skip
        refine r_iload_n 23 hE 3 dX5_reaches_22 rfl rfl rfl ?_
        refine r_aload_n 24 hE 0 dX5_reaches_23 rfl rfl rfl ?_
        refine r_get 27 hE 0 0 ok5 1 dX5_reaches_24 rfl wd_78 rfl rfl (by decide) rfl ?_
        refine r_iload_n 28 hE 1 dX5_reaches_27 rfl rfl rfl ?_
        refine r_iald 29 hE 0 2 dX5_reaches_28 rfl rfl rfl (by omega) ?_
        refine r_iload_n 30 hE 2 dX5_reaches_29 rfl rfl rfl ?_
        refine r_isub 31 hE ((ln t) - p) dX5_reaches_30 rfl rfl ?_
        refine r_icmp_gt 34 38 hE dX5_reaches_31 rfl (by decide) (by omega) (fun c31 => ?_) (fun c31 => ?_)
        · skip
          refine r_iconst 39 hE dX5_reaches_38 rfl ?_
          refine r_zreturn hE hR [(wShelf g a L ln tp rd cnt era nws)] dX5_reaches_39 (Nat.le_of_ble_eq_true rfl) (Nat.le_of_ble_eq_true rfl) (by decide) rfl ?_
          exact ⟨ret0 (by omega), rfl⟩
        · skip
          refine r_iconst 35 hE dX5_reaches_34 rfl ?_
          refine r_goto 39 hE dX5_reaches_35 (by decide) ?_
          refine r_zreturn hE hR [(wShelf g a L ln tp rd cnt era nws)] dX5_reaches_39 (Nat.le_of_ble_eq_true rfl) (Nat.le_of_ble_eq_true rfl) (by decide) rfl ?_
          exact ⟨ret1 (by omega), rfl⟩
