theorem G.stc {g : Gm} {E : Cx} {nL k n : Nat} {fs : List va_W} {pc : Nat} {lv : List (Nat × Value)} {st st' : List Value} (h : st = st') (kk : G g E nL k n fs pc lv st') : G g E nL k n fs pc lv st := by subst h; exact kk
theorem RowOk.rg {kd fi se sg le de : Int → Int} {R : Int → Rl} {i : Int} (h : RowOk kd fi se sg le de R i) (h0 : 0 ≤ i ∧ i < 10240) : (0 ≤ kd i ∧ kd i ≤ 2) ∧ (0 ≤ fi i ∧ fi i ≤ 10240) ∧ (-1 ≤ se i ∧ se i ≤ 10240) ∧ (0 ≤ de i ∧ de i ≤ 600) ∧ (1 ≤ le i ∧ le i ≤ 600) ∧ (-2147483648 ≤ sg i ∧ sg i ≤ 2147483647) := by
  obtain ⟨h1, h2, h3, h4, h5, h6⟩ := h
  have := rdep_lt h5
  have := rlen_pos h5
  have := rsign_rg (R i)
  refine ⟨?_, ?_, ?_, by omega, by omega, by omega⟩ <;> rcases h1 with z | z | z <;> omega
def wRules (g : Gm) (ru : Nat → Nat) (kd : Int → Int) (fi : Int → Int) (se : Int → Int) (sg : Int → Int) (le : Int → Int) (de : Int → Int) (nx : Int → Int) (he : Int → Int) (ro : Int → Int) (rc : Int) (re : Int) (rr : Int) : va_W := [ob (ru 0) 3 [.ref (ru 1), .ref (ru 2), .ref (ru 3), .ref (ru 4), .ref (ru 5), .ref (ru 6), .ref (ru 7), .ref (ru 8), .ref (ru 9), .int (iI rc), .int (iI re), .int (iI rr)], ba g (ru 1) 10240 kd, ia g (ru 2) 10240 fi, ia g (ru 3) 10240 se, ia g (ru 4) 10240 sg, ia g (ru 5) 10240 le, ia g (ru 6) 10240 de, ia g (ru 7) 10240 nx, ia g (ru 8) 4096 he, ia g (ru 9) 600 ro]
set_option maxHeartbeats 4000000 in
set_option maxRecDepth 100000 in
theorem c_X3_mix {g : Gm} {x y : Int} : Ct g 0 0 0 yX3_mix cX3_mix 3 (some .int) [.int (iI x), .int (iI y)] [] (fun v w => v = some (.int (iI (mixI x y))) ∧ w = []) := by
  refine Ct.of (by decide) (Nat.le_of_ble_eq_true rfl) (lv := [(0, .int (iI x)), (1, .int (iI y))]) rfl ?_
  intro E hE hR hnm
  refine r_iload_n 1 hE 0 dX3_mix_0 rfl rfl rfl ?_
  refine r_iload_n 2 hE 1 dX3_mix_1 rfl rfl rfl ?_
  refine r_ixor 3 hE dX3_mix_2 rfl ?_
  refine r_ldc 5 hE dX3_mix_3 rfl wd_209 (by decide : _ = iI 16777619) ?_
  refine r_imul 6 hE ((xorI x y) * 16777619) dX3_mix_5 rfl rfl ?_
  refine r_istore_n 7 hE [(2, .int (iI ((xorI x y) * 16777619))), (0, .int (iI x)), (1, .int (iI y))] dX3_mix_6 rfl rfl (by decide) rfl ?_
  refine r_iload_n 8 hE 0 dX3_mix_7 rfl rfl rfl ?_
  refine r_iload_n 9 hE 0 dX3_mix_8 rfl rfl rfl ?_
  refine r_bipush 11 hE dX3_mix_9 rfl (by decide) ?_
  refine r_iushr 12 hE dX3_mix_11 rfl ?_
  refine r_ixor 13 hE dX3_mix_12 rfl ?_
  refine r_ireturn hE hR [] dX3_mix_13 (Nat.le_of_ble_eq_true rfl) (Nat.le_of_ble_eq_true rfl) rfl ?_
  exact ⟨retI (rfl), rfl⟩
set_option maxHeartbeats 4000000 in
set_option maxRecDepth 100000 in
theorem c_X3_room {g : Gm} {ru : Nat → Nat} {kd fi se sg le de nx he ro : Int → Int} {rc re rr : Int} : Ct g 0 0 0 yX3_room cX3_room 1 (some .int) [.ref (ru 0)] [(wRules g ru kd fi se sg le de nx he ro rc re rr)] (fun v w => v = some (.int (iI (10240 - rc))) ∧ w = [(wRules g ru kd fi se sg le de nx he ro rc re rr)]) := by
  refine Ct.of (by decide) (Nat.le_of_ble_eq_true rfl) (lv := [(0, .ref (ru 0))]) rfl ?_
  intro E hE hR hnm
  refine r_sipush 3 hE dX3_room_0 rfl (by decide) ?_
  refine r_aload_n 4 hE 0 dX3_room_3 rfl rfl rfl ?_
  refine r_get 7 hE 0 0 ok3 9 dX3_room_4 rfl wd_222 rfl rfl (by decide) rfl ?_
  refine r_isub 8 hE (10240 - rc) dX3_room_7 rfl rfl ?_
  refine r_ireturn hE hR [(wRules g ru kd fi se sg le de nx he ro rc re rr)] dX3_room_8 (Nat.le_of_ble_eq_true rfl) (Nat.le_of_ble_eq_true rfl) rfl ?_
  exact ⟨retI (rfl), rfl⟩
set_option maxHeartbeats 4000000 in
set_option maxRecDepth 100000 in
theorem c_X3_holds {g : Gm} {ru : Nat → Nat} {kd fi se sg le de nx he ro : Int → Int} {rc re rr : Int} {x : Int} (hx : -2147483648 ≤ x ∧ x ≤ 2147483647) (hrc : 26 ≤ rc ∧ rc ≤ 10240) : Ct g 0 0 0 yX3_holds cX3_holds 2 (some .boolean) [.ref (ru 0), .int (iI x)] [(wRules g ru kd fi se sg le de nx he ro rc re rr)] (fun v w => v = some (.int (iI (bI (0 ≤ x ∧ x < rc)))) ∧ w = [(wRules g ru kd fi se sg le de nx he ro rc re rr)]) := by
  refine Ct.of (by decide) (Nat.le_of_ble_eq_true rfl) (lv := [(0, .ref (ru 0)), (1, .int (iI x))]) rfl ?_
  intro E hE hR hnm
  refine r_iload_n 1 hE 1 dX3_holds_0 rfl rfl rfl ?_
  refine r_if_lt 4 23 hE dX3_holds_1 rfl (by decide) (by omega) (fun c1 => ?_) (fun c1 => ?_)
  · skip
    refine r_iconst 24 hE dX3_holds_23 rfl ?_
    refine r_zreturn hE hR [(wRules g ru kd fi se sg le de nx he ro rc re rr)] dX3_holds_24 (Nat.le_of_ble_eq_true rfl) (Nat.le_of_ble_eq_true rfl) (by decide) rfl ?_
    exact ⟨ret0 (by omega), rfl⟩
  · skip
    refine r_iload_n 5 hE 1 dX3_holds_4 rfl rfl rfl ?_
    refine r_aload_n 6 hE 0 dX3_holds_5 rfl rfl rfl ?_
    refine r_get 9 hE 0 0 ok3 9 dX3_holds_6 rfl wd_222 rfl rfl (by decide) rfl ?_
    refine r_icmp_ge 12 23 hE dX3_holds_9 rfl (by decide) (by omega) (fun c9 => ?_) (fun c9 => ?_)
    · skip
      refine r_iconst 24 hE dX3_holds_23 rfl ?_
      refine r_zreturn hE hR [(wRules g ru kd fi se sg le de nx he ro rc re rr)] dX3_holds_24 (Nat.le_of_ble_eq_true rfl) (Nat.le_of_ble_eq_true rfl) (by decide) rfl ?_
      exact ⟨ret0 (by omega), rfl⟩
    · skip
      refine r_iload_n 13 hE 1 dX3_holds_12 rfl rfl rfl ?_
      refine r_sipush 16 hE dX3_holds_13 rfl (by decide) ?_
      refine r_icmp_ge 19 23 hE dX3_holds_16 rfl (by decide) (by omega) (fun c16 => ?_) (fun c16 => ?_)
      · skip
        refine r_iconst 24 hE dX3_holds_23 rfl ?_
        refine r_zreturn hE hR [(wRules g ru kd fi se sg le de nx he ro rc re rr)] dX3_holds_24 (Nat.le_of_ble_eq_true rfl) (Nat.le_of_ble_eq_true rfl) (by decide) rfl ?_
        exact ⟨ret0 (by omega), rfl⟩
      · skip
        refine r_iconst 20 hE dX3_holds_19 rfl ?_
        refine r_goto 24 hE dX3_holds_20 (by decide) ?_
        refine r_zreturn hE hR [(wRules g ru kd fi se sg le de nx he ro rc re rr)] dX3_holds_24 (Nat.le_of_ble_eq_true rfl) (Nat.le_of_ble_eq_true rfl) (by decide) rfl ?_
        exact ⟨ret1 (by omega), rfl⟩
set_option maxHeartbeats 4000000 in
set_option maxRecDepth 100000 in
theorem c_X3_kindOf {g : Gm} {ru : Nat → Nat} {kd fi se sg le de nx he ro : Int → Int} {rc re rr : Int} {x : Int} (hx : 0 ≤ x ∧ x < rc) (hrc : 26 ≤ rc ∧ rc ≤ 10240) : Ct g 1 0 0 yX3_kindOf cX3_kindOf 2 (some .int) [.ref (ru 0), .int (iI x)] [(wRules g ru kd fi se sg le de nx he ro rc re rr)] (fun v w => v = some (.int (iI (kd x))) ∧ w = [(wRules g ru kd fi se sg le de nx he ro rc re rr)]) := by
  refine Ct.of (by decide) (Nat.le_of_ble_eq_true rfl) (lv := [(0, .ref (ru 0)), (1, .int (iI x))]) rfl ?_
  intro E hE hR hnm
  refine r_aload_n 1 hE 0 dX3_kindOf_0 rfl rfl rfl ?_
  refine r_iload_n 2 hE 1 dX3_kindOf_1 rfl rfl rfl ?_
  refine r_callV 5 hE [0] [] [(wRules g ru kd fi se sg le de nx he ro rc re rr)] [] 0 3 ok3 [] (c_X3_holds (by omega) (by omega)) dX3_kindOf_2 rfl rfl wd_647 wd_648 wd_649 wd_9 wd_650 ne_X3 np_X3_holds (Nat.le_of_ble_eq_true rfl)  (by decide) (by decide) rfl (Nat.le_of_ble_eq_true rfl) rfl rfl rfl rfl (by decide) rfl (fun v1 f1 hp => ?_)
  obtain ⟨rfl, rfl⟩ := hp
  show G g E _ _ _ [(wRules g ru kd fi se sg le de nx he ro rc re rr)] 5 [(0, .ref (ru 0)), (1, .int (iI x))] [.int (iI (bI (0 ≤ x ∧ x < rc)))]
  refine r_if_eq 8 17 hE dX3_kindOf_5 rfl (by decide) (bI_rg _) (fun c5 => ?_) (fun c5 => ?_)
  · skip
    have c5 := bI0 c5
    omega
  · skip
    have c5 := bI1 c5
    refine r_aload_n 9 hE 0 dX3_kindOf_8 rfl rfl rfl ?_
    refine r_get 12 hE 0 0 ok3 0 dX3_kindOf_9 rfl wd_213 rfl rfl (by decide) rfl ?_
    refine r_iload_n 13 hE 1 dX3_kindOf_12 rfl rfl rfl ?_
    refine r_bald 14 hE 0 1 dX3_kindOf_13 rfl rfl rfl (by omega) ?_
    refine r_goto 18 hE dX3_kindOf_14 (by decide) ?_
    refine r_ireturn hE hR [(wRules g ru kd fi se sg le de nx he ro rc re rr)] dX3_kindOf_18 (Nat.le_of_ble_eq_true rfl) (Nat.le_of_ble_eq_true rfl) rfl ?_
    exact ⟨retI (rfl), rfl⟩
set_option maxHeartbeats 4000000 in
set_option maxRecDepth 100000 in
theorem c_X3_firstOf {g : Gm} {ru : Nat → Nat} {kd fi se sg le de nx he ro : Int → Int} {rc re rr : Int} {x : Int} (hx : 0 ≤ x ∧ x < rc) (hrc : 26 ≤ rc ∧ rc ≤ 10240) : Ct g 1 0 0 yX3_firstOf cX3_firstOf 2 (some .int) [.ref (ru 0), .int (iI x)] [(wRules g ru kd fi se sg le de nx he ro rc re rr)] (fun v w => v = some (.int (iI (fi x))) ∧ w = [(wRules g ru kd fi se sg le de nx he ro rc re rr)]) := by
  refine Ct.of (by decide) (Nat.le_of_ble_eq_true rfl) (lv := [(0, .ref (ru 0)), (1, .int (iI x))]) rfl ?_
  intro E hE hR hnm
  refine r_aload_n 1 hE 0 dX3_firstOf_0 rfl rfl rfl ?_
  refine r_iload_n 2 hE 1 dX3_firstOf_1 rfl rfl rfl ?_
  refine r_callV 5 hE [0] [] [(wRules g ru kd fi se sg le de nx he ro rc re rr)] [] 0 3 ok3 [] (c_X3_holds (by omega) (by omega)) dX3_firstOf_2 rfl rfl wd_647 wd_648 wd_649 wd_9 wd_650 ne_X3 np_X3_holds (Nat.le_of_ble_eq_true rfl)  (by decide) (by decide) rfl (Nat.le_of_ble_eq_true rfl) rfl rfl rfl rfl (by decide) rfl (fun v1 f1 hp => ?_)
  obtain ⟨rfl, rfl⟩ := hp
  show G g E _ _ _ [(wRules g ru kd fi se sg le de nx he ro rc re rr)] 5 [(0, .ref (ru 0)), (1, .int (iI x))] [.int (iI (bI (0 ≤ x ∧ x < rc)))]
  refine r_if_eq 8 17 hE dX3_firstOf_5 rfl (by decide) (bI_rg _) (fun c5 => ?_) (fun c5 => ?_)
  · skip
    have c5 := bI0 c5
    omega
  · skip
    have c5 := bI1 c5
    refine r_aload_n 9 hE 0 dX3_firstOf_8 rfl rfl rfl ?_
    refine r_get 12 hE 0 0 ok3 1 dX3_firstOf_9 rfl wd_214 rfl rfl (by decide) rfl ?_
    refine r_iload_n 13 hE 1 dX3_firstOf_12 rfl rfl rfl ?_
    refine r_iald 14 hE 0 2 dX3_firstOf_13 rfl rfl rfl (by omega) ?_
    refine r_goto 18 hE dX3_firstOf_14 (by decide) ?_
    refine r_ireturn hE hR [(wRules g ru kd fi se sg le de nx he ro rc re rr)] dX3_firstOf_18 (Nat.le_of_ble_eq_true rfl) (Nat.le_of_ble_eq_true rfl) rfl ?_
    exact ⟨retI (rfl), rfl⟩
set_option maxHeartbeats 4000000 in
set_option maxRecDepth 100000 in
theorem c_X3_secondOf {g : Gm} {ru : Nat → Nat} {kd fi se sg le de nx he ro : Int → Int} {rc re rr : Int} {x : Int} (hx : 0 ≤ x ∧ x < rc) (hrc : 26 ≤ rc ∧ rc ≤ 10240) : Ct g 1 0 0 yX3_secondOf cX3_secondOf 2 (some .int) [.ref (ru 0), .int (iI x)] [(wRules g ru kd fi se sg le de nx he ro rc re rr)] (fun v w => v = some (.int (iI (se x))) ∧ w = [(wRules g ru kd fi se sg le de nx he ro rc re rr)]) := by
  refine Ct.of (by decide) (Nat.le_of_ble_eq_true rfl) (lv := [(0, .ref (ru 0)), (1, .int (iI x))]) rfl ?_
  intro E hE hR hnm
  refine r_aload_n 1 hE 0 dX3_secondOf_0 rfl rfl rfl ?_
  refine r_iload_n 2 hE 1 dX3_secondOf_1 rfl rfl rfl ?_
  refine r_callV 5 hE [0] [] [(wRules g ru kd fi se sg le de nx he ro rc re rr)] [] 0 3 ok3 [] (c_X3_holds (by omega) (by omega)) dX3_secondOf_2 rfl rfl wd_647 wd_648 wd_649 wd_9 wd_650 ne_X3 np_X3_holds (Nat.le_of_ble_eq_true rfl)  (by decide) (by decide) rfl (Nat.le_of_ble_eq_true rfl) rfl rfl rfl rfl (by decide) rfl (fun v1 f1 hp => ?_)
  obtain ⟨rfl, rfl⟩ := hp
  show G g E _ _ _ [(wRules g ru kd fi se sg le de nx he ro rc re rr)] 5 [(0, .ref (ru 0)), (1, .int (iI x))] [.int (iI (bI (0 ≤ x ∧ x < rc)))]
  refine r_if_eq 8 17 hE dX3_secondOf_5 rfl (by decide) (bI_rg _) (fun c5 => ?_) (fun c5 => ?_)
  · skip
    have c5 := bI0 c5
    omega
  · skip
    have c5 := bI1 c5
    refine r_aload_n 9 hE 0 dX3_secondOf_8 rfl rfl rfl ?_
    refine r_get 12 hE 0 0 ok3 2 dX3_secondOf_9 rfl wd_215 rfl rfl (by decide) rfl ?_
    refine r_iload_n 13 hE 1 dX3_secondOf_12 rfl rfl rfl ?_
    refine r_iald 14 hE 0 3 dX3_secondOf_13 rfl rfl rfl (by omega) ?_
    refine r_goto 18 hE dX3_secondOf_14 (by decide) ?_
    refine r_ireturn hE hR [(wRules g ru kd fi se sg le de nx he ro rc re rr)] dX3_secondOf_18 (Nat.le_of_ble_eq_true rfl) (Nat.le_of_ble_eq_true rfl) rfl ?_
    exact ⟨retI (rfl), rfl⟩
set_option maxHeartbeats 4000000 in
set_option maxRecDepth 100000 in
theorem c_X3_signOf {g : Gm} {ru : Nat → Nat} {kd fi se sg le de nx he ro : Int → Int} {rc re rr : Int} {x : Int} (hx : 0 ≤ x ∧ x < rc) (hrc : 26 ≤ rc ∧ rc ≤ 10240) : Ct g 1 0 0 yX3_signOf cX3_signOf 2 (some .int) [.ref (ru 0), .int (iI x)] [(wRules g ru kd fi se sg le de nx he ro rc re rr)] (fun v w => v = some (.int (iI (sg x))) ∧ w = [(wRules g ru kd fi se sg le de nx he ro rc re rr)]) := by
  refine Ct.of (by decide) (Nat.le_of_ble_eq_true rfl) (lv := [(0, .ref (ru 0)), (1, .int (iI x))]) rfl ?_
  intro E hE hR hnm
  refine r_aload_n 1 hE 0 dX3_signOf_0 rfl rfl rfl ?_
  refine r_iload_n 2 hE 1 dX3_signOf_1 rfl rfl rfl ?_
  refine r_callV 5 hE [0] [] [(wRules g ru kd fi se sg le de nx he ro rc re rr)] [] 0 3 ok3 [] (c_X3_holds (by omega) (by omega)) dX3_signOf_2 rfl rfl wd_647 wd_648 wd_649 wd_9 wd_650 ne_X3 np_X3_holds (Nat.le_of_ble_eq_true rfl)  (by decide) (by decide) rfl (Nat.le_of_ble_eq_true rfl) rfl rfl rfl rfl (by decide) rfl (fun v1 f1 hp => ?_)
  obtain ⟨rfl, rfl⟩ := hp
  show G g E _ _ _ [(wRules g ru kd fi se sg le de nx he ro rc re rr)] 5 [(0, .ref (ru 0)), (1, .int (iI x))] [.int (iI (bI (0 ≤ x ∧ x < rc)))]
  refine r_if_eq 8 17 hE dX3_signOf_5 rfl (by decide) (bI_rg _) (fun c5 => ?_) (fun c5 => ?_)
  · skip
    have c5 := bI0 c5
    omega
  · skip
    have c5 := bI1 c5
    refine r_aload_n 9 hE 0 dX3_signOf_8 rfl rfl rfl ?_
    refine r_get 12 hE 0 0 ok3 3 dX3_signOf_9 rfl wd_216 rfl rfl (by decide) rfl ?_
    refine r_iload_n 13 hE 1 dX3_signOf_12 rfl rfl rfl ?_
    refine r_iald 14 hE 0 4 dX3_signOf_13 rfl rfl rfl (by omega) ?_
    refine r_goto 18 hE dX3_signOf_14 (by decide) ?_
    refine r_ireturn hE hR [(wRules g ru kd fi se sg le de nx he ro rc re rr)] dX3_signOf_18 (Nat.le_of_ble_eq_true rfl) (Nat.le_of_ble_eq_true rfl) rfl ?_
    exact ⟨retI (rfl), rfl⟩
set_option maxHeartbeats 4000000 in
set_option maxRecDepth 100000 in
theorem c_X3_depthOf {g : Gm} {ru : Nat → Nat} {kd fi se sg le de nx he ro : Int → Int} {rc re rr : Int} {x : Int} (hx : 0 ≤ x ∧ x < rc) (hrc : 26 ≤ rc ∧ rc ≤ 10240) : Ct g 1 0 0 yX3_depthOf cX3_depthOf 2 (some .int) [.ref (ru 0), .int (iI x)] [(wRules g ru kd fi se sg le de nx he ro rc re rr)] (fun v w => v = some (.int (iI (de x))) ∧ w = [(wRules g ru kd fi se sg le de nx he ro rc re rr)]) := by
  refine Ct.of (by decide) (Nat.le_of_ble_eq_true rfl) (lv := [(0, .ref (ru 0)), (1, .int (iI x))]) rfl ?_
  intro E hE hR hnm
  refine r_aload_n 1 hE 0 dX3_depthOf_0 rfl rfl rfl ?_
  refine r_iload_n 2 hE 1 dX3_depthOf_1 rfl rfl rfl ?_
  refine r_callV 5 hE [0] [] [(wRules g ru kd fi se sg le de nx he ro rc re rr)] [] 0 3 ok3 [] (c_X3_holds (by omega) (by omega)) dX3_depthOf_2 rfl rfl wd_647 wd_648 wd_649 wd_9 wd_650 ne_X3 np_X3_holds (Nat.le_of_ble_eq_true rfl)  (by decide) (by decide) rfl (Nat.le_of_ble_eq_true rfl) rfl rfl rfl rfl (by decide) rfl (fun v1 f1 hp => ?_)
  obtain ⟨rfl, rfl⟩ := hp
  show G g E _ _ _ [(wRules g ru kd fi se sg le de nx he ro rc re rr)] 5 [(0, .ref (ru 0)), (1, .int (iI x))] [.int (iI (bI (0 ≤ x ∧ x < rc)))]
  refine r_if_eq 8 17 hE dX3_depthOf_5 rfl (by decide) (bI_rg _) (fun c5 => ?_) (fun c5 => ?_)
  · skip
    have c5 := bI0 c5
    omega
  · skip
    have c5 := bI1 c5
    refine r_aload_n 9 hE 0 dX3_depthOf_8 rfl rfl rfl ?_
    refine r_get 12 hE 0 0 ok3 5 dX3_depthOf_9 rfl wd_218 rfl rfl (by decide) rfl ?_
    refine r_iload_n 13 hE 1 dX3_depthOf_12 rfl rfl rfl ?_
    refine r_iald 14 hE 0 6 dX3_depthOf_13 rfl rfl rfl (by omega) ?_
    refine r_goto 18 hE dX3_depthOf_14 (by decide) ?_
    refine r_ireturn hE hR [(wRules g ru kd fi se sg le de nx he ro rc re rr)] dX3_depthOf_18 (Nat.le_of_ble_eq_true rfl) (Nat.le_of_ble_eq_true rfl) rfl ?_
    exact ⟨retI (rfl), rfl⟩
set_option maxHeartbeats 4000000 in
set_option maxRecDepth 100000 in
theorem c_X3_lengthOf {g : Gm} {ru : Nat → Nat} {kd fi se sg le de nx he ro : Int → Int} {rc re rr : Int} {x : Int} (hx : 0 ≤ x ∧ x < rc) (hrc : 26 ≤ rc ∧ rc ≤ 10240) (hle : 1 ≤ le x ∧ le x ≤ 600) : Ct g 1 0 0 yX3_lengthOf cX3_lengthOf 2 (some .int) [.ref (ru 0), .int (iI x)] [(wRules g ru kd fi se sg le de nx he ro rc re rr)] (fun v w => v = some (.int (iI (le x))) ∧ w = [(wRules g ru kd fi se sg le de nx he ro rc re rr)]) := by
  refine Ct.of (by decide) (Nat.le_of_ble_eq_true rfl) (lv := [(0, .ref (ru 0)), (1, .int (iI x))]) rfl ?_
  intro E hE hR hnm
  refine r_aload_n 1 hE 0 dX3_lengthOf_0 rfl rfl rfl ?_
  refine r_iload_n 2 hE 1 dX3_lengthOf_1 rfl rfl rfl ?_
  refine r_callV 5 hE [0] [] [(wRules g ru kd fi se sg le de nx he ro rc re rr)] [] 0 3 ok3 [] (c_X3_holds (by omega) (by omega)) dX3_lengthOf_2 rfl rfl wd_647 wd_648 wd_649 wd_9 wd_650 ne_X3 np_X3_holds (Nat.le_of_ble_eq_true rfl)  (by decide) (by decide) rfl (Nat.le_of_ble_eq_true rfl) rfl rfl rfl rfl (by decide) rfl (fun v1 f1 hp => ?_)
  obtain ⟨rfl, rfl⟩ := hp
  show G g E _ _ _ [(wRules g ru kd fi se sg le de nx he ro rc re rr)] 5 [(0, .ref (ru 0)), (1, .int (iI x))] [.int (iI (bI (0 ≤ x ∧ x < rc)))]
  refine r_if_eq 8 21 hE dX3_lengthOf_5 rfl (by decide) (bI_rg _) (fun c5 => ?_) (fun c5 => ?_)
  · skip
    have c5 := bI0 c5
    omega
  · skip
    have c5 := bI1 c5
    refine r_aload_n 9 hE 0 dX3_lengthOf_8 rfl rfl rfl ?_
    refine r_get 12 hE 0 0 ok3 4 dX3_lengthOf_9 rfl wd_217 rfl rfl (by decide) rfl ?_
    refine r_iload_n 13 hE 1 dX3_lengthOf_12 rfl rfl rfl ?_
    refine r_iald 14 hE 0 5 dX3_lengthOf_13 rfl rfl rfl (by omega) ?_
    refine r_iconst 15 hE dX3_lengthOf_14 rfl ?_
    refine r_max 18 hE dX3_lengthOf_15 rfl wd_651 wd_110 wd_6 wd_111 (Nat.le_of_ble_eq_true rfl) (by decide) (by decide) (Nat.le_of_ble_eq_true rfl) (by omega) ?_
    refine r_goto 22 hE dX3_lengthOf_18 (by decide) ?_
    refine r_ireturn hE hR [(wRules g ru kd fi se sg le de nx he ro rc re rr)] dX3_lengthOf_22 (Nat.le_of_ble_eq_true rfl) (Nat.le_of_ble_eq_true rfl) rfl ?_
    exact ⟨retI (by omega), rfl⟩
set_option maxHeartbeats 4000000 in
set_option maxRecDepth 100000 in
theorem c_X3_bitOf {g : Gm} {ru : Nat → Nat} {kd fi se sg le de nx he ro : Int → Int} {rc re rr : Int} {x b : Int} (hx : 0 ≤ x ∧ x < rc) (hrc : 26 ≤ rc ∧ rc ≤ 10240) : Ct g 1 0 0 yX3_bitOf cX3_bitOf 3 (some .int) [.ref (ru 0), .int (iI x), .int (iI b)] [(wRules g ru kd fi se sg le de nx he ro rc re rr)] (fun v w => v = some (.int (iI (andI (ushrI (sg x) b) 1))) ∧ w = [(wRules g ru kd fi se sg le de nx he ro rc re rr)]) := by
  refine Ct.of (by decide) (Nat.le_of_ble_eq_true rfl) (lv := [(0, .ref (ru 0)), (1, .int (iI x)), (2, .int (iI b))]) rfl ?_
  intro E hE hR hnm
  refine r_aload_n 1 hE 0 dX3_bitOf_0 rfl rfl rfl ?_
  refine r_iload_n 2 hE 1 dX3_bitOf_1 rfl rfl rfl ?_
  refine r_callV 5 hE [0] [] [(wRules g ru kd fi se sg le de nx he ro rc re rr)] [] 0 3 ok3 [] (c_X3_holds (by omega) (by omega)) dX3_bitOf_2 rfl rfl wd_647 wd_648 wd_649 wd_9 wd_650 ne_X3 np_X3_holds (Nat.le_of_ble_eq_true rfl)  (by decide) (by decide) rfl (Nat.le_of_ble_eq_true rfl) rfl rfl rfl rfl (by decide) rfl (fun v1 f1 hp => ?_)
  obtain ⟨rfl, rfl⟩ := hp
  show G g E _ _ _ [(wRules g ru kd fi se sg le de nx he ro rc re rr)] 5 [(0, .ref (ru 0)), (1, .int (iI x)), (2, .int (iI b))] [.int (iI (bI (0 ≤ x ∧ x < rc)))]
  refine r_if_eq 8 21 hE dX3_bitOf_5 rfl (by decide) (bI_rg _) (fun c5 => ?_) (fun c5 => ?_)
  · skip
    have c5 := bI0 c5
    omega
  · skip
    have c5 := bI1 c5
    refine r_aload_n 9 hE 0 dX3_bitOf_8 rfl rfl rfl ?_
    refine r_get 12 hE 0 0 ok3 3 dX3_bitOf_9 rfl wd_216 rfl rfl (by decide) rfl ?_
    refine r_iload_n 13 hE 1 dX3_bitOf_12 rfl rfl rfl ?_
    refine r_iald 14 hE 0 4 dX3_bitOf_13 rfl rfl rfl (by omega) ?_
    refine r_iload_n 15 hE 2 dX3_bitOf_14 rfl rfl rfl ?_
    refine r_iushr 16 hE dX3_bitOf_15 rfl ?_
    refine r_iconst 17 hE dX3_bitOf_16 rfl ?_
    refine r_iand 18 hE dX3_bitOf_17 rfl ?_
    refine r_goto 22 hE dX3_bitOf_18 (by decide) ?_
    refine r_ireturn hE hR [(wRules g ru kd fi se sg le de nx he ro rc re rr)] dX3_bitOf_22 (Nat.le_of_ble_eq_true rfl) (Nat.le_of_ble_eq_true rfl) rfl ?_
    exact ⟨retI (rfl), rfl⟩
set_option maxHeartbeats 4000000 in
set_option maxRecDepth 100000 in
theorem c_X3_make {g : Gm} {ru : Nat → Nat} {kd fi se sg le de nx he ro : Int → Int} {rc re rr : Int} {R : Int → Rl} {kn p q : Int} (hT : RT kd fi se sg le de nx he rc R) (hm : mkOk R rc kn p q) (hro : rc < 10240) : Ct g 1 0 0 yX3_make cX3_make 9 (some .int) [.ref (ru 0), .int (iI kn), .int (iI p), .int (iI q)] [(wRules g ru kd fi se sg le de nx he ro rc re rr)] (fun v w => ∃ kd9 : Int → Int, ∃ fi9 : Int → Int, ∃ se9 : Int → Int, ∃ sg9 : Int → Int, ∃ le9 : Int → Int, ∃ de9 : Int → Int, ∃ nx9 : Int → Int, ∃ he9 : Int → Int, ∃ rc9 : Int, ∃ R9 : Int → Rl, ∃ r : Int, v = some (.int (iI r)) ∧ w = [(wRules g ru kd9 fi9 se9 sg9 le9 de9 nx9 he9 ro rc9 re rr)] ∧ (RT kd9 fi9 se9 sg9 le9 de9 nx9 he9 rc9 R9) ∧ (rc ≤ rc9 ∧ rc9 ≤ rc + 1) ∧ (∀ i, 0 ≤ i → i < rc → R9 i = R i) ∧ (0 ≤ r ∧ r < rc9) ∧ (R9 r = mkT R kn p q)) := by
  refine Ct.of (by decide) (Nat.le_of_ble_eq_true rfl) (lv := [(0, .ref (ru 0)), (1, .int (iI kn)), (2, .int (iI p)), (3, .int (iI q))]) rfl ?_
  intro E hE hR hnm
  have hcn := hT.1
  obtain ⟨hp, hq, hlen⟩ := id hm
  have hkn : kn = 1 ∨ kn = 2 := by rcases hq with z | z <;> omega
  have hqr : 0 ≤ q ∧ q ≤ 10240 := by rcases hq with z | z <;> omega
  have hH := andI_4095 (mkSign sg kn p q)
  have hh0 := hT.2.2.2.1 _ hH.1 hH.2
  have hh1 : he (andI (mkSign sg kn p q) 4095) < rc := by rcases hh0.1 with z | z <;> omega
  have hsa : -2147483648 ≤ sg p ∧ sg p ≤ 2147483647 := by rw [(hT.2.1 p hp.1 hp.2).2.1]; exact rsign_rg _
  have cut288 : ∀ (f : Int) (i : Int), (f = if kn = 2 then 1 else 0) → (∀ j, 0 ≤ j → j < rc → R j ≠ mkT R kn p q) → G g E 9 0 0 [(wRules g ru (up kd rc kn) (up fi rc p) (up se rc q) (up sg rc (mkSign sg kn p q)) (up le rc (if kn = 2 then le p * q else le p + le q)) de nx he ro rc re rr)] 288 [(0, .ref (ru 0)), (1, .int (iI kn)), (2, .int (iI p)), (3, .int (iI q)), (4, .int (iI f)), (5, .int (iI (mkSign sg kn p q))), (6, .int (iI (andI (mkSign sg kn p q) 4095))), (7, .int (iI rc)), (8, .int (iI i))] [.int (iI (if kn = 2 then de p else max (de p) (de q))), .int (iI 1), .int (iI rc), .ref (ru 6)] := by
    intro f i hf hno
    refine r_iadd 289 hE (1 + (if kn = 2 then de p else max (de p) (de q))) dX3_make_288 rfl rfl ?_
    refine r_iast 290 hE 0 6 (wRules g ru (up kd rc kn) (up fi rc p) (up se rc q) (up sg rc (mkSign sg kn p q)) (up le rc (if kn = 2 then le p * q else le p + le q)) (up de rc (1 + (if kn = 2 then de p else max (de p) (de q)))) nx he ro rc re rr) [(wRules g ru (up kd rc kn) (up fi rc p) (up se rc q) (up sg rc (mkSign sg kn p q)) (up le rc (if kn = 2 then le p * q else le p + le q)) (up de rc (1 + (if kn = 2 then de p else max (de p) (de q)))) nx he ro rc re rr)] dX3_make_289 rfl rfl rfl (by omega) rfl rfl ?_
    refine r_aload_n 291 hE 0 dX3_make_290 rfl rfl rfl ?_
    refine r_get 294 hE 0 0 ok3 6 dX3_make_291 rfl wd_219 rfl rfl (by decide) rfl ?_
    refine r_iload 296 hE 7 dX3_make_294 rfl rfl ?_
    refine r_aload_n 297 hE 0 dX3_make_296 rfl rfl rfl ?_
    refine r_get 300 hE 0 0 ok3 7 dX3_make_297 rfl wd_220 rfl rfl (by decide) rfl ?_
    refine r_iload 302 hE 6 dX3_make_300 rfl rfl ?_
    refine r_iald 303 hE 0 8 dX3_make_302 rfl rfl rfl (by omega) ?_
    refine r_iast 304 hE 0 7 (wRules g ru (up kd rc kn) (up fi rc p) (up se rc q) (up sg rc (mkSign sg kn p q)) (up le rc (if kn = 2 then le p * q else le p + le q)) (up de rc (1 + (if kn = 2 then de p else max (de p) (de q)))) (up nx rc (he (andI (mkSign sg kn p q) 4095))) he ro rc re rr) [(wRules g ru (up kd rc kn) (up fi rc p) (up se rc q) (up sg rc (mkSign sg kn p q)) (up le rc (if kn = 2 then le p * q else le p + le q)) (up de rc (1 + (if kn = 2 then de p else max (de p) (de q)))) (up nx rc (he (andI (mkSign sg kn p q) 4095))) he ro rc re rr)] dX3_make_303 rfl rfl rfl (by omega) rfl rfl ?_
    refine r_aload_n 305 hE 0 dX3_make_304 rfl rfl rfl ?_
    refine r_get 308 hE 0 0 ok3 7 dX3_make_305 rfl wd_220 rfl rfl (by decide) rfl ?_
    refine r_iload 310 hE 6 dX3_make_308 rfl rfl ?_
    refine r_iload 312 hE 7 dX3_make_310 rfl rfl ?_
    refine r_iast 313 hE 0 8 (wRules g ru (up kd rc kn) (up fi rc p) (up se rc q) (up sg rc (mkSign sg kn p q)) (up le rc (if kn = 2 then le p * q else le p + le q)) (up de rc (1 + (if kn = 2 then de p else max (de p) (de q)))) (up nx rc (he (andI (mkSign sg kn p q) 4095))) (up he (andI (mkSign sg kn p q) 4095) rc) ro rc re rr) [(wRules g ru (up kd rc kn) (up fi rc p) (up se rc q) (up sg rc (mkSign sg kn p q)) (up le rc (if kn = 2 then le p * q else le p + le q)) (up de rc (1 + (if kn = 2 then de p else max (de p) (de q)))) (up nx rc (he (andI (mkSign sg kn p q) 4095))) (up he (andI (mkSign sg kn p q) 4095) rc) ro rc re rr)] dX3_make_312 rfl rfl rfl (by omega) rfl rfl ?_
    refine r_aload_n 314 hE 0 dX3_make_313 rfl rfl rfl ?_
    refine r_dup 315 hE dX3_make_314 rfl rfl ?_
    refine r_get 318 hE 0 0 ok3 9 dX3_make_315 rfl wd_222 rfl rfl (by decide) rfl ?_
    refine r_iconst 319 hE dX3_make_318 rfl ?_
    refine r_iadd 320 hE (rc + 1) dX3_make_319 rfl rfl ?_
    refine r_put 323 hE 0 0 ok3 9 (wRules g ru (up kd rc kn) (up fi rc p) (up se rc q) (up sg rc (mkSign sg kn p q)) (up le rc (if kn = 2 then le p * q else le p + le q)) (up de rc (1 + (if kn = 2 then de p else max (de p) (de q)))) (up nx rc (he (andI (mkSign sg kn p q) 4095))) (up he (andI (mkSign sg kn p q) 4095) rc) ro (rc + 1) re rr) [(wRules g ru (up kd rc kn) (up fi rc p) (up se rc q) (up sg rc (mkSign sg kn p q)) (up le rc (if kn = 2 then le p * q else le p + le q)) (up de rc (1 + (if kn = 2 then de p else max (de p) (de q)))) (up nx rc (he (andI (mkSign sg kn p q) 4095))) (up he (andI (mkSign sg kn p q) 4095) rc) ro (rc + 1) re rr)] dX3_make_320 rfl wd_222 rfl rfl (by decide) rfl rfl rfl (Nat.le_of_ble_eq_true rfl) rfl rfl ?_
    refine r_iload 325 hE 7 dX3_make_323 rfl rfl ?_
    refine r_ireturn hE hR [(wRules g ru (up kd rc kn) (up fi rc p) (up se rc q) (up sg rc (mkSign sg kn p q)) (up le rc (if kn = 2 then le p * q else le p + le q)) (up de rc (1 + (if kn = 2 then de p else max (de p) (de q)))) (up nx rc (he (andI (mkSign sg kn p q) 4095))) (up he (andI (mkSign sg kn p q) 4095) rc) ro (rc + 1) re rr)] dX3_make_325 (Nat.le_of_ble_eq_true rfl) (Nat.le_of_ble_eq_true rfl) rfl ?_
    exact ⟨_, _, _, _, _, _, _, _, rc + 1, upR R rc (mkT R kn p q), rc, rfl, rfl, hT.push hm hro hno, by omega, fun i a b => upR_ne _ _ (by omega), by omega, upR_same _ _ _⟩
  have cut251 : ∀ (f : Int) (i : Int), (f = if kn = 2 then 1 else 0) → (∀ j, 0 ≤ j → j < rc → R j ≠ mkT R kn p q) → G g E 9 0 0 [(wRules g ru (up kd rc kn) (up fi rc p) (up se rc q) (up sg rc (mkSign sg kn p q)) le de nx he ro rc re rr)] 251 [(0, .ref (ru 0)), (1, .int (iI kn)), (2, .int (iI p)), (3, .int (iI q)), (4, .int (iI f)), (5, .int (iI (mkSign sg kn p q))), (6, .int (iI (andI (mkSign sg kn p q) 4095))), (7, .int (iI rc)), (8, .int (iI i))] [.int (iI (if kn = 2 then le p * q else le p + le q)), .int (iI rc), .ref (ru 5)] := by
    intro f i hf hno
    refine r_iast 252 hE 0 5 (wRules g ru (up kd rc kn) (up fi rc p) (up se rc q) (up sg rc (mkSign sg kn p q)) (up le rc (if kn = 2 then le p * q else le p + le q)) de nx he ro rc re rr) [(wRules g ru (up kd rc kn) (up fi rc p) (up se rc q) (up sg rc (mkSign sg kn p q)) (up le rc (if kn = 2 then le p * q else le p + le q)) de nx he ro rc re rr)] dX3_make_251 rfl rfl rfl (by omega) rfl rfl ?_
    refine r_aload_n 253 hE 0 dX3_make_252 rfl rfl rfl ?_
    refine r_get 256 hE 0 0 ok3 5 dX3_make_253 rfl wd_218 rfl rfl (by decide) rfl ?_
    refine r_iload 258 hE 7 dX3_make_256 rfl rfl ?_
    refine r_iconst 259 hE dX3_make_258 rfl ?_
    refine r_iload 261 hE 4 dX3_make_259 rfl rfl ?_
    refine r_if_eq 264 273 hE dX3_make_261 rfl (by decide) (by split at hf <;> omega) (fun c261 => ?_) (fun c261 => ?_)
    · skip
      have hk2 : kn ≠ 2 := by intro z; rw [if_pos z] at hf; omega
      have hq1 : 0 ≤ q ∧ q < rc := by rcases hq with z | z <;> omega
      have hd1 := (hT.2.1 p hp.1 hp.2).rg (by omega)
      have hd2 := (hT.2.1 q hq1.1 hq1.2).rg (by omega)
      refine r_aload_n 274 hE 0 dX3_make_273 rfl rfl rfl ?_
      refine r_get 277 hE 0 0 ok3 5 dX3_make_274 rfl wd_218 rfl rfl (by decide) rfl ?_
      refine r_iload_n 278 hE 2 dX3_make_277 rfl rfl rfl ?_
      refine r_iald 279 hE 0 6 dX3_make_278 rfl rfl rfl (by omega) ?_
      refine r_aload_n 280 hE 0 dX3_make_279 rfl rfl rfl ?_
      refine r_get 283 hE 0 0 ok3 5 dX3_make_280 rfl wd_218 rfl rfl (by decide) rfl ?_
      refine r_iload_n 284 hE 3 dX3_make_283 rfl rfl rfl ?_
      refine r_iald 285 hE 0 6 dX3_make_284 rfl rfl rfl (by omega) ?_
      refine r_max 288 hE dX3_make_285 rfl wd_651 wd_110 wd_6 wd_111 (Nat.le_of_ble_eq_true rfl) (by decide) (by decide) (Nat.le_of_ble_eq_true rfl) (by omega) ?_
      refine G.stc (st' := [.int (iI (if kn = 2 then de p else max (de p) (de q))), .int (iI 1), .int (iI rc), .ref (ru 6)]) (congrArg (fun z9 : Int => ([.int (iI z9), .int (iI 1), .int (iI rc), .ref (ru 6)] : List Value)) (show (max (de p) (de q) : Int) = if kn = 2 then de p else max (de p) (de q) from by first | rw [if_pos hk2] | rw [if_neg hk2])) ?_
      exact cut288 f i (hf) (hno)
    · skip
      have hk2 : kn = 2 := Decidable.byContradiction fun z => by rw [if_neg z] at hf; omega
      refine r_aload_n 265 hE 0 dX3_make_264 rfl rfl rfl ?_
      refine r_get 268 hE 0 0 ok3 5 dX3_make_265 rfl wd_218 rfl rfl (by decide) rfl ?_
      refine r_iload_n 269 hE 2 dX3_make_268 rfl rfl rfl ?_
      refine r_iald 270 hE 0 6 dX3_make_269 rfl rfl rfl (by omega) ?_
      refine r_goto 288 hE dX3_make_270 (by decide) ?_
      refine G.stc (st' := [.int (iI (if kn = 2 then de p else max (de p) (de q))), .int (iI 1), .int (iI rc), .ref (ru 6)]) (congrArg (fun z9 : Int => ([.int (iI z9), .int (iI 1), .int (iI rc), .ref (ru 6)] : List Value)) (show (de p : Int) = if kn = 2 then de p else max (de p) (de q) from by first | rw [if_pos hk2] | rw [if_neg hk2])) ?_
      exact cut288 f i (hf) (hno)
  have cut164 : ∀ (f : Int) (x : Int) (i : Int), (f = if kn = 2 then 1 else 0) → (∀ j, 0 ≤ j → j < rc → R j ≠ mkT R kn p q) → G g E 9 0 0 [(wRules g ru kd fi se sg le de nx he ro rc re rr)] 164 [(0, .ref (ru 0)), (1, .int (iI kn)), (2, .int (iI p)), (3, .int (iI q)), (4, .int (iI f)), (5, .int (iI (mkSign sg kn p q))), (6, .int (iI (andI (mkSign sg kn p q) 4095))), (7, .int (iI x)), (8, .int (iI i))] [] := by
    intro f x i hf hno
    refine r_aload_n 165 hE 0 dX3_make_164 rfl rfl rfl ?_
    refine r_get 168 hE 0 0 ok3 9 dX3_make_165 rfl wd_222 rfl rfl (by decide) rfl ?_
    refine r_sipush 171 hE dX3_make_168 rfl (by decide) ?_
    refine r_icmp_lt 174 176 hE dX3_make_171 rfl (by decide) (by omega) (fun c171 => ?_) (fun c171 => ?_)
    · skip
      refine r_aload_n 177 hE 0 dX3_make_176 rfl rfl rfl ?_
      refine r_get 180 hE 0 0 ok3 9 dX3_make_177 rfl wd_222 rfl rfl (by decide) rfl ?_
      refine r_istore 182 hE [(7, .int (iI rc)), (0, .ref (ru 0)), (1, .int (iI kn)), (2, .int (iI p)), (3, .int (iI q)), (4, .int (iI f)), (5, .int (iI (mkSign sg kn p q))), (6, .int (iI (andI (mkSign sg kn p q) 4095))), (8, .int (iI i))] dX3_make_180 rfl (by decide) rfl ?_
      refine r_aload_n 183 hE 1 dX3_make_182 rfl rfl rfl ?_
      refine r_get 186 hE 0 0 ok3 0 dX3_make_183 rfl wd_213 rfl rfl (by decide) rfl ?_
      refine r_iload 188 hE 0 dX3_make_186 rfl rfl ?_
      refine r_iload_n 189 hE 2 dX3_make_188 rfl rfl rfl ?_
      refine r_i2b 190 hE dX3_make_189 rfl ?_
      rw [show (byI kn : Int) = kn from byI_id (by omega)]
      refine r_bast 191 hE 0 1 (wRules g ru (up kd rc kn) fi se sg le de nx he ro rc re rr) [(wRules g ru (up kd rc kn) fi se sg le de nx he ro rc re rr)] dX3_make_190 rfl rfl rfl (by omega) (by omega) rfl rfl ?_
      refine r_aload_n 192 hE 1 dX3_make_191 rfl rfl rfl ?_
      refine r_get 195 hE 0 0 ok3 1 dX3_make_192 rfl wd_214 rfl rfl (by decide) rfl ?_
      refine r_iload 197 hE 0 dX3_make_195 rfl rfl ?_
      refine r_iload_n 198 hE 3 dX3_make_197 rfl rfl rfl ?_
      refine r_iast 199 hE 0 2 (wRules g ru (up kd rc kn) (up fi rc p) se sg le de nx he ro rc re rr) [(wRules g ru (up kd rc kn) (up fi rc p) se sg le de nx he ro rc re rr)] dX3_make_198 rfl rfl rfl (by omega) rfl rfl ?_
      refine r_aload_n 200 hE 1 dX3_make_199 rfl rfl rfl ?_
      refine r_get 203 hE 0 0 ok3 2 dX3_make_200 rfl wd_215 rfl rfl (by decide) rfl ?_
      refine r_iload 205 hE 0 dX3_make_203 rfl rfl ?_
      refine r_iload_n 206 hE 4 dX3_make_205 rfl rfl rfl ?_
      refine r_iast 207 hE 0 3 (wRules g ru (up kd rc kn) (up fi rc p) (up se rc q) sg le de nx he ro rc re rr) [(wRules g ru (up kd rc kn) (up fi rc p) (up se rc q) sg le de nx he ro rc re rr)] dX3_make_206 rfl rfl rfl (by omega) rfl rfl ?_
      refine r_aload_n 208 hE 1 dX3_make_207 rfl rfl rfl ?_
      refine r_get 211 hE 0 0 ok3 3 dX3_make_208 rfl wd_216 rfl rfl (by decide) rfl ?_
      refine r_iload 213 hE 0 dX3_make_211 rfl rfl ?_
      refine r_iload 215 hE 6 dX3_make_213 rfl rfl ?_
      refine r_iast 216 hE 0 4 (wRules g ru (up kd rc kn) (up fi rc p) (up se rc q) (up sg rc (mkSign sg kn p q)) le de nx he ro rc re rr) [(wRules g ru (up kd rc kn) (up fi rc p) (up se rc q) (up sg rc (mkSign sg kn p q)) le de nx he ro rc re rr)] dX3_make_215 rfl rfl rfl (by omega) rfl rfl ?_
      refine r_aload_n 217 hE 1 dX3_make_216 rfl rfl rfl ?_
      refine r_get 220 hE 0 0 ok3 4 dX3_make_217 rfl wd_217 rfl rfl (by decide) rfl ?_
      refine r_iload 222 hE 0 dX3_make_220 rfl rfl ?_
      refine r_iload 224 hE 5 dX3_make_222 rfl rfl ?_
      refine r_if_eq 227 238 hE dX3_make_224 rfl (by decide) (by split at hf <;> omega) (fun c224 => ?_) (fun c224 => ?_)
      · skip
        have hk2 : kn ≠ 2 := by intro z; rw [if_pos z] at hf; omega
        have hq1 : 0 ≤ q ∧ q < rc := by rcases hq with z | z <;> omega
        refine r_aload_n 239 hE 1 dX3_make_238 rfl rfl rfl ?_
        refine r_get 242 hE 0 0 ok3 4 dX3_make_239 rfl wd_217 rfl rfl (by decide) rfl ?_
        refine r_iload_n 243 hE 3 dX3_make_242 rfl rfl rfl ?_
        refine r_iald 244 hE 0 5 dX3_make_243 rfl rfl rfl (by omega) ?_
        refine r_aload_n 245 hE 1 dX3_make_244 rfl rfl rfl ?_
        refine r_get 248 hE 0 0 ok3 4 dX3_make_245 rfl wd_217 rfl rfl (by decide) rfl ?_
        refine r_iload_n 249 hE 4 dX3_make_248 rfl rfl rfl ?_
        refine r_iald 250 hE 0 5 dX3_make_249 rfl rfl rfl (by omega) ?_
        refine r_iadd 251 hE ((le p) + (le q)) dX3_make_250 rfl rfl ?_
        refine G.to (fs' := [(wRules g ru (up kd rc kn) (up fi rc p) (up se rc q) (up sg rc (mkSign sg kn p q)) le de nx he ro rc re rr)]) (lv' := [(0, .ref (ru 0)), (1, .int (iI kn)), (2, .int (iI p)), (3, .int (iI q)), (4, .int (iI f)), (5, .int (iI (mkSign sg kn p q))), (6, .int (iI (andI (mkSign sg kn p q) 4095))), (7, .int (iI rc)), (8, .int (iI i))]) [0] [1, 2, 3, 4, 5, 6, 7, 0, 8] rfl rfl rfl ?_
        refine G.stc (st' := [.int (iI (if kn = 2 then le p * q else le p + le q)), .int (iI rc), .ref (ru 5)]) (congrArg (fun z9 : Int => ([.int (iI z9), .int (iI rc), .ref (ru 5)] : List Value)) (show ((le p) + (le q) : Int) = if kn = 2 then le p * q else le p + le q from by first | rw [if_pos hk2] | rw [if_neg hk2])) ?_
        exact cut251 f i (hf) (hno)
      · skip
        have hk2 : kn = 2 := Decidable.byContradiction fun z => by rw [if_neg z] at hf; omega
        refine r_aload_n 228 hE 1 dX3_make_227 rfl rfl rfl ?_
        refine r_get 231 hE 0 0 ok3 4 dX3_make_228 rfl wd_217 rfl rfl (by decide) rfl ?_
        refine r_iload_n 232 hE 3 dX3_make_231 rfl rfl rfl ?_
        refine r_iald 233 hE 0 5 dX3_make_232 rfl rfl rfl (by omega) ?_
        refine r_iload_n 234 hE 4 dX3_make_233 rfl rfl rfl ?_
        refine r_imul 235 hE ((le p) * q) dX3_make_234 rfl rfl ?_
        refine r_goto 251 hE dX3_make_235 (by decide) ?_
        refine G.to (fs' := [(wRules g ru (up kd rc kn) (up fi rc p) (up se rc q) (up sg rc (mkSign sg kn p q)) le de nx he ro rc re rr)]) (lv' := [(0, .ref (ru 0)), (1, .int (iI kn)), (2, .int (iI p)), (3, .int (iI q)), (4, .int (iI f)), (5, .int (iI (mkSign sg kn p q))), (6, .int (iI (andI (mkSign sg kn p q) 4095))), (7, .int (iI rc)), (8, .int (iI i))]) [0] [1, 2, 3, 4, 5, 6, 7, 0, 8] rfl rfl rfl ?_
        refine G.stc (st' := [.int (iI (if kn = 2 then le p * q else le p + le q)), .int (iI rc), .ref (ru 5)]) (congrArg (fun z9 : Int => ([.int (iI z9), .int (iI rc), .ref (ru 5)] : List Value)) (show ((le p) * q : Int) = if kn = 2 then le p * q else le p + le q from by first | rw [if_pos hk2] | rw [if_neg hk2])) ?_
        exact cut251 f i (hf) (hno)
    · skip
      omega
  have cut96 : ∀ (N : Nat) (f : Int) (x : Int) (i : Int), (f = if kn = 2 then 1 else 0) → (0 ≤ i ∧ i + x ≤ 10240) → (x = -1 ∨ (26 ≤ x ∧ x < rc ∧ andI (sg x) 4095 = andI (mkSign sg kn p q) 4095)) → (∀ j, 26 ≤ j → j < rc → andI (sg j) 4095 = andI (mkSign sg kn p q) 4095 → x < j → ¬ (kd j = kn ∧ fi j = p ∧ se j = q)) → (10241 - i).toNat < N → G g E 9 0 0 [(wRules g ru kd fi se sg le de nx he ro rc re rr)] 96 [(0, .ref (ru 0)), (1, .int (iI kn)), (2, .int (iI p)), (3, .int (iI q)), (4, .int (iI f)), (5, .int (iI (mkSign sg kn p q))), (6, .int (iI (andI (mkSign sg kn p q) 4095))), (7, .int (iI x)), (8, .int (iI i))] [] := by
    intro N
    induction N with
    | zero => intro f x i _ _ _ _ hN; exact absurd hN (Nat.not_lt_zero _)
    | succ N ih96 =>
      intro f x i hf hi hx hn hN
      have cut149 : (¬ (kd x = kn ∧ fi x = p ∧ se x = q)) → (26 ≤ x ∧ x < rc ∧ andI (sg x) 4095 = andI (mkSign sg kn p q) 4095) → G g E 9 0 0 [(wRules g ru kd fi se sg le de nx he ro rc re rr)] 149 [(0, .ref (ru 0)), (1, .int (iI kn)), (2, .int (iI p)), (3, .int (iI q)), (4, .int (iI f)), (5, .int (iI (mkSign sg kn p q))), (6, .int (iI (andI (mkSign sg kn p q) 4095))), (7, .int (iI x)), (8, .int (iI i))] [] := by
        intro hmis hxv
        have hM := hT.2.2.2.2 x hxv.1 hxv.2.1
        have hxa := hxv.2.2
        have hMx : nx x = -1 ∨ (26 ≤ nx x ∧ nx x < x) := hM.1.elim (fun z => Or.inl z) (fun z => Or.inr ⟨z.1, z.2.1⟩)
        have hnx : nx x = -1 ∨ (26 ≤ nx x ∧ nx x < rc ∧ andI (sg (nx x)) 4095 = andI (mkSign sg kn p q) 4095) := by
          rcases hM.1 with z | ⟨z1, z2, z3⟩
          · exact Or.inl z
          · exact Or.inr ⟨z1, by omega, by rw [← hxa]; exact z3⟩
        have hnn : ∀ j, 26 ≤ j → j < rc → andI (sg j) 4095 = andI (mkSign sg kn p q) 4095 → nx x < j → ¬ (kd j = kn ∧ fi j = p ∧ se j = q) := by
          intro j a b c d
          rcases Int.lt_trichotomy j x with z | z | z
          · have := hM.2 j a z (by show andI (sg j) 4095 = andI (sg x) 4095; rw [hxa]; exact c); omega
          · subst z; exact hmis
          · exact hn j a b c z
        refine r_aload_n 150 hE 0 dX3_make_149 rfl rfl rfl ?_
        refine r_get 153 hE 0 0 ok3 6 dX3_make_150 rfl wd_219 rfl rfl (by decide) rfl ?_
        refine r_iload 155 hE 7 dX3_make_153 rfl rfl ?_
        refine r_iald 156 hE 0 7 dX3_make_155 rfl rfl rfl (by omega) ?_
        refine r_istore 158 hE [(7, .int (iI (nx x))), (0, .ref (ru 0)), (1, .int (iI kn)), (2, .int (iI p)), (3, .int (iI q)), (4, .int (iI f)), (5, .int (iI (mkSign sg kn p q))), (6, .int (iI (andI (mkSign sg kn p q) 4095))), (8, .int (iI i))] dX3_make_156 rfl (by decide) rfl ?_
        refine r_iinc 161 hE 8 (i + 1) [(8, .int (iI (i + 1))), (7, .int (iI (nx x))), (0, .ref (ru 0)), (1, .int (iI kn)), (2, .int (iI p)), (3, .int (iI q)), (4, .int (iI f)), (5, .int (iI (mkSign sg kn p q))), (6, .int (iI (andI (mkSign sg kn p q) 4095)))] dX3_make_158 rfl rfl rfl (by decide) rfl ?_
        refine r_goto 96 hE dX3_make_161 (by decide) ?_
        refine G.to (fs' := [(wRules g ru kd fi se sg le de nx he ro rc re rr)]) (lv' := [(0, .ref (ru 0)), (1, .int (iI kn)), (2, .int (iI p)), (3, .int (iI q)), (4, .int (iI f)), (5, .int (iI (mkSign sg kn p q))), (6, .int (iI (andI (mkSign sg kn p q) 4095))), (7, .int (iI (nx x))), (8, .int (iI (i + 1)))]) [0] [2, 3, 4, 5, 6, 7, 8, 1, 0] rfl rfl rfl ?_
        exact ih96 f (nx x) (i + 1) (hf) (by first | omega | (have := hMx; omega)) (by first | exact (hT.2.2.2.1 _ hH.1 hH.2).1 | exact hnx) (by first | exact (fun j a b c d => absurd d (by have := (hT.2.2.2.1 _ hH.1 hH.2).2 j a b c; omega)) | exact hnn) (by omega)
      refine r_iload 98 hE 8 dX3_make_96 rfl rfl ?_
      refine r_sipush 101 hE dX3_make_98 rfl (by decide) ?_
      refine r_icmp_ge 104 164 hE dX3_make_101 rfl (by decide) (by omega) (fun c101 => ?_) (fun c101 => ?_)
      · skip
        have hno := hT.miss hm (fun j a b c => hn j a b c (by omega))
        exact cut164 f x i (hf) (hno)
      · skip
        refine r_aload_n 105 hE 0 dX3_make_104 rfl rfl rfl ?_
        refine r_iload 107 hE 7 dX3_make_105 rfl rfl ?_
        refine r_callV 110 hE [0] [] [(wRules g ru kd fi se sg le de nx he ro rc re rr)] [] 0 3 ok3 [] (c_X3_holds (by omega) (by omega)) dX3_make_107 rfl rfl wd_647 wd_648 wd_649 wd_9 wd_650 ne_X3 np_X3_holds (Nat.le_of_ble_eq_true rfl)  (by decide) (by decide) rfl (Nat.le_of_ble_eq_true rfl) rfl rfl rfl rfl (by decide) rfl (fun v1 f1 hp => ?_)
        obtain ⟨rfl, rfl⟩ := hp
        show G g E _ _ _ [(wRules g ru kd fi se sg le de nx he ro rc re rr)] 110 [(0, .ref (ru 0)), (1, .int (iI kn)), (2, .int (iI p)), (3, .int (iI q)), (4, .int (iI f)), (5, .int (iI (mkSign sg kn p q))), (6, .int (iI (andI (mkSign sg kn p q) 4095))), (7, .int (iI x)), (8, .int (iI i))] [.int (iI (bI (0 ≤ x ∧ x < rc)))]
        refine r_if_eq 113 164 hE dX3_make_110 rfl (by decide) (bI_rg _) (fun c110 => ?_) (fun c110 => ?_)
        · skip
          have c110 := bI0 c110
          have hno := hT.miss hm (fun j a b c => hn j a b c (by omega))
          exact cut164 f x i (hf) (hno)
        · skip
          have c110 := bI1 c110
          have hxv : 26 ≤ x ∧ x < rc ∧ andI (sg x) 4095 = andI (mkSign sg kn p q) 4095 := hx.resolve_left (by omega)
          have hxr := (hT.2.1 x (by omega) (by omega)).rg (by omega)
          refine r_aload_n 114 hE 0 dX3_make_113 rfl rfl rfl ?_
          refine r_get 117 hE 0 0 ok3 0 dX3_make_114 rfl wd_213 rfl rfl (by decide) rfl ?_
          refine r_iload 119 hE 7 dX3_make_117 rfl rfl ?_
          refine r_bald 120 hE 0 1 dX3_make_119 rfl rfl rfl (by omega) ?_
          refine r_iload_n 121 hE 1 dX3_make_120 rfl rfl rfl ?_
          refine r_icmp_ne 124 149 hE dX3_make_121 rfl (by decide) (by omega) (fun c121 => ?_) (fun c121 => ?_)
          · skip
            exact cut149  (by omega) (hxv)
          · skip
            refine r_aload_n 125 hE 0 dX3_make_124 rfl rfl rfl ?_
            refine r_get 128 hE 0 0 ok3 1 dX3_make_125 rfl wd_214 rfl rfl (by decide) rfl ?_
            refine r_iload 130 hE 7 dX3_make_128 rfl rfl ?_
            refine r_iald 131 hE 0 2 dX3_make_130 rfl rfl rfl (by omega) ?_
            refine r_iload_n 132 hE 2 dX3_make_131 rfl rfl rfl ?_
            refine r_icmp_ne 135 149 hE dX3_make_132 rfl (by decide) (by omega) (fun c132 => ?_) (fun c132 => ?_)
            · skip
              exact cut149  (by omega) (hxv)
            · skip
              refine r_aload_n 136 hE 0 dX3_make_135 rfl rfl rfl ?_
              refine r_get 139 hE 0 0 ok3 2 dX3_make_136 rfl wd_215 rfl rfl (by decide) rfl ?_
              refine r_iload 141 hE 7 dX3_make_139 rfl rfl ?_
              refine r_iald 142 hE 0 3 dX3_make_141 rfl rfl rfl (by omega) ?_
              refine r_iload_n 143 hE 3 dX3_make_142 rfl rfl rfl ?_
              refine r_icmp_ne 146 149 hE dX3_make_143 rfl (by decide) (by omega) (fun c143 => ?_) (fun c143 => ?_)
              · skip
                exact cut149  (by omega) (hxv)
              · skip
                refine r_iload 148 hE 7 dX3_make_146 rfl rfl ?_
                refine r_ireturn hE hR [(wRules g ru kd fi se sg le de nx he ro rc re rr)] dX3_make_148 (Nat.le_of_ble_eq_true rfl) (Nat.le_of_ble_eq_true rfl) rfl ?_
                exact ⟨kd, fi, se, sg, le, de, nx, he, rc, R, x, rfl, rfl, hT, by omega, fun _ _ _ => rfl, by omega, hT.hit hm (by omega) c121 c132 c143⟩
  have cut71 : ∀ (f : Int), (f = if kn = 2 then 1 else 0) → G g E 9 0 0 [(wRules g ru kd fi se sg le de nx he ro rc re rr)] 71 [(0, .ref (ru 0)), (1, .int (iI kn)), (2, .int (iI p)), (3, .int (iI q)), (4, .int (iI f))] [.int (iI (if kn = 2 then q else sg q)), .int (iI (mixI (if kn = 2 then 11 else 13) (sg p)))] := by
    intro f hf
    refine r_callS 74 hE [] [0] [] [(wRules g ru kd fi se sg le de nx he ro rc re rr)] [] (c_X3_mix) dX3_make_71 rfl wd_206 wd_207 wd_9 wd_208 ne_X3 np_X3_mix (Nat.le_of_ble_eq_true rfl)  (by decide) (by decide) rfl (Nat.le_of_ble_eq_true rfl) rfl rfl rfl rfl (by decide) (fun v1 f1 hp => ?_)
    obtain ⟨rfl, rfl⟩ := hp
    show G g E _ _ _ [(wRules g ru kd fi se sg le de nx he ro rc re rr)] 74 [(0, .ref (ru 0)), (1, .int (iI kn)), (2, .int (iI p)), (3, .int (iI q)), (4, .int (iI f))] [.int (iI (mixI (mixI (if kn = 2 then 11 else 13) (sg p)) (if kn = 2 then q else sg q)))]
    rw [show (mixI (mixI (if kn = 2 then 11 else 13) (sg p)) (if kn = 2 then q else sg q) : Int) = mkSign sg kn p q from rfl]
    refine r_istore 76 hE [(5, .int (iI (mkSign sg kn p q))), (0, .ref (ru 0)), (1, .int (iI kn)), (2, .int (iI p)), (3, .int (iI q)), (4, .int (iI f))] dX3_make_74 rfl (by decide) rfl ?_
    refine r_iload 78 hE 0 dX3_make_76 rfl rfl ?_
    refine r_sipush 81 hE dX3_make_78 rfl (by decide) ?_
    refine r_iand 82 hE dX3_make_81 rfl ?_
    refine r_istore 84 hE [(6, .int (iI (andI (mkSign sg kn p q) 4095))), (5, .int (iI (mkSign sg kn p q))), (0, .ref (ru 0)), (1, .int (iI kn)), (2, .int (iI p)), (3, .int (iI q)), (4, .int (iI f))] dX3_make_82 rfl (by decide) rfl ?_
    refine r_aload_n 85 hE 2 dX3_make_84 rfl rfl rfl ?_
    refine r_get 88 hE 0 0 ok3 7 dX3_make_85 rfl wd_220 rfl rfl (by decide) rfl ?_
    refine r_iload 90 hE 0 dX3_make_88 rfl rfl ?_
    refine r_iald 91 hE 0 8 dX3_make_90 rfl rfl rfl (by omega) ?_
    refine r_istore 93 hE [(7, .int (iI (he (andI (mkSign sg kn p q) 4095)))), (6, .int (iI (andI (mkSign sg kn p q) 4095))), (5, .int (iI (mkSign sg kn p q))), (0, .ref (ru 0)), (1, .int (iI kn)), (2, .int (iI p)), (3, .int (iI q)), (4, .int (iI f))] dX3_make_91 rfl (by decide) rfl ?_
    refine r_iconst 94 hE dX3_make_93 rfl ?_
    refine r_istore 96 hE [(8, .int (iI 0)), (7, .int (iI (he (andI (mkSign sg kn p q) 4095)))), (6, .int (iI (andI (mkSign sg kn p q) 4095))), (5, .int (iI (mkSign sg kn p q))), (0, .ref (ru 0)), (1, .int (iI kn)), (2, .int (iI p)), (3, .int (iI q)), (4, .int (iI f))] dX3_make_94 rfl (by decide) rfl ?_
    refine G.to (fs' := [(wRules g ru kd fi se sg le de nx he ro rc re rr)]) (lv' := [(0, .ref (ru 0)), (1, .int (iI kn)), (2, .int (iI p)), (3, .int (iI q)), (4, .int (iI f)), (5, .int (iI (mkSign sg kn p q))), (6, .int (iI (andI (mkSign sg kn p q) 4095))), (7, .int (iI (he (andI (mkSign sg kn p q) 4095)))), (8, .int (iI 0))]) [0] [4, 5, 6, 7, 8, 3, 2, 1, 0] rfl rfl rfl ?_
    exact cut96 _ f (he (andI (mkSign sg kn p q) 4095)) 0 (hf) (by first | omega | (have := hMx; omega)) (by first | exact (hT.2.2.2.1 _ hH.1 hH.2).1 | exact hnx) (by first | exact (fun j a b c d => absurd d (by have := (hT.2.2.2.1 _ hH.1 hH.2).2 j a b c; omega)) | exact hnn) (Nat.lt_succ_self _)
  have cut47 : ∀ (f : Int), (f = if kn = 2 then 1 else 0) → G g E 9 0 0 [(wRules g ru kd fi se sg le de nx he ro rc re rr)] 47 [(0, .ref (ru 0)), (1, .int (iI kn)), (2, .int (iI p)), (3, .int (iI q)), (4, .int (iI f))] [.int (iI (if kn = 2 then 11 else 13))] := by
    intro f hf
    refine r_aload_n 48 hE 0 dX3_make_47 rfl rfl rfl ?_
    refine r_get 51 hE 0 0 ok3 3 dX3_make_48 rfl wd_216 rfl rfl (by decide) rfl ?_
    refine r_iload_n 52 hE 2 dX3_make_51 rfl rfl rfl ?_
    refine r_iald 53 hE 0 4 dX3_make_52 rfl rfl rfl (by omega) ?_
    refine r_callS 56 hE [] [0] [] [(wRules g ru kd fi se sg le de nx he ro rc re rr)] [] (c_X3_mix) dX3_make_53 rfl wd_206 wd_207 wd_9 wd_208 ne_X3 np_X3_mix (Nat.le_of_ble_eq_true rfl)  (by decide) (by decide) rfl (Nat.le_of_ble_eq_true rfl) rfl rfl rfl rfl (by decide) (fun v1 f1 hp => ?_)
    obtain ⟨rfl, rfl⟩ := hp
    show G g E _ _ _ [(wRules g ru kd fi se sg le de nx he ro rc re rr)] 56 [(0, .ref (ru 0)), (1, .int (iI kn)), (2, .int (iI p)), (3, .int (iI q)), (4, .int (iI f))] [.int (iI (mixI (if kn = 2 then 11 else 13) (sg p)))]
    refine r_iload 58 hE 4 dX3_make_56 rfl rfl ?_
    refine r_if_eq 61 65 hE dX3_make_58 rfl (by decide) (by split at hf <;> omega) (fun c58 => ?_) (fun c58 => ?_)
    · skip
      have hk2 : kn ≠ 2 := by intro z; rw [if_pos z] at hf; omega
      have hq1 : 0 ≤ q ∧ q < rc := by rcases hq with z | z <;> omega
      refine r_aload_n 66 hE 0 dX3_make_65 rfl rfl rfl ?_
      refine r_get 69 hE 0 0 ok3 3 dX3_make_66 rfl wd_216 rfl rfl (by decide) rfl ?_
      refine r_iload_n 70 hE 3 dX3_make_69 rfl rfl rfl ?_
      refine r_iald 71 hE 0 4 dX3_make_70 rfl rfl rfl (by omega) ?_
      refine G.stc (st' := [.int (iI (if kn = 2 then q else sg q)), .int (iI (mixI (if kn = 2 then 11 else 13) (sg p)))]) (congrArg (fun z9 : Int => ([.int (iI z9), .int (iI (mixI (if kn = 2 then 11 else 13) (sg p)))] : List Value)) (show (sg q : Int) = if kn = 2 then q else sg q from by first | rw [if_pos hk2] | rw [if_neg hk2])) ?_
      exact cut71 f (hf)
    · skip
      have hk2 : kn = 2 := Decidable.byContradiction fun z => by rw [if_neg z] at hf; omega
      refine r_iload_n 62 hE 3 dX3_make_61 rfl rfl rfl ?_
      refine r_goto 71 hE dX3_make_62 (by decide) ?_
      refine G.stc (st' := [.int (iI (if kn = 2 then q else sg q)), .int (iI (mixI (if kn = 2 then 11 else 13) (sg p)))]) (congrArg (fun z9 : Int => ([.int (iI z9), .int (iI (mixI (if kn = 2 then 11 else 13) (sg p)))] : List Value)) (show (q : Int) = if kn = 2 then q else sg q from by first | rw [if_pos hk2] | rw [if_neg hk2])) ?_
      exact cut71 f (hf)
  have cut35 : ∀ (f : Int), (f = if kn = 2 then 1 else 0) → G g E 9 0 0 [(wRules g ru kd fi se sg le de nx he ro rc re rr)] 35 [(0, .ref (ru 0)), (1, .int (iI kn)), (2, .int (iI p)), (3, .int (iI q)), (4, .int (iI f))] [] := by
    intro f hf
    refine r_iload 37 hE 4 dX3_make_35 rfl rfl ?_
    refine r_if_eq 40 45 hE dX3_make_37 rfl (by decide) (by split at hf <;> omega) (fun c37 => ?_) (fun c37 => ?_)
    · skip
      have hk2 : kn ≠ 2 := by intro z; rw [if_pos z] at hf; omega
      refine r_bipush 47 hE dX3_make_45 rfl (by decide) ?_
      refine G.stc (st' := [.int (iI (if kn = 2 then 11 else 13))]) (congrArg (fun z9 : Int => ([.int (iI z9)] : List Value)) (show (13 : Int) = if kn = 2 then 11 else 13 from by first | rw [if_pos hk2] | rw [if_neg hk2])) ?_
      exact cut47 f (hf)
    · skip
      have hk2 : kn = 2 := Decidable.byContradiction fun z => by rw [if_neg z] at hf; omega
      refine r_bipush 42 hE dX3_make_40 rfl (by decide) ?_
      refine r_goto 47 hE dX3_make_42 (by decide) ?_
      refine G.stc (st' := [.int (iI (if kn = 2 then 11 else 13))]) (congrArg (fun z9 : Int => ([.int (iI z9)] : List Value)) (show (11 : Int) = if kn = 2 then 11 else 13 from by first | rw [if_pos hk2] | rw [if_neg hk2])) ?_
      exact cut47 f (hf)
  have cut12 : ∀ (f : Int), (f = if kn = 2 then 1 else 0) → G g E 9 0 0 [(wRules g ru kd fi se sg le de nx he ro rc re rr)] 12 [(0, .ref (ru 0)), (1, .int (iI kn)), (2, .int (iI p)), (3, .int (iI q)), (4, .int (iI f))] [] := by
    intro f hf
    refine r_aload_n 13 hE 0 dX3_make_12 rfl rfl rfl ?_
    refine r_iload_n 14 hE 2 dX3_make_13 rfl rfl rfl ?_
    refine r_callV 17 hE [0] [] [(wRules g ru kd fi se sg le de nx he ro rc re rr)] [] 0 3 ok3 [] (c_X3_holds (by omega) (by omega)) dX3_make_14 rfl rfl wd_647 wd_648 wd_649 wd_9 wd_650 ne_X3 np_X3_holds (Nat.le_of_ble_eq_true rfl)  (by decide) (by decide) rfl (Nat.le_of_ble_eq_true rfl) rfl rfl rfl rfl (by decide) rfl (fun v1 f1 hp => ?_)
    obtain ⟨rfl, rfl⟩ := hp
    show G g E _ _ _ [(wRules g ru kd fi se sg le de nx he ro rc re rr)] 17 [(0, .ref (ru 0)), (1, .int (iI kn)), (2, .int (iI p)), (3, .int (iI q)), (4, .int (iI f))] [.int (iI (bI (0 ≤ p ∧ p < rc)))]
    refine r_if_eq 20 33 hE dX3_make_17 rfl (by decide) (bI_rg _) (fun c17 => ?_) (fun c17 => ?_)
    · skip
      have c17 := bI0 c17
      omega
    · skip
      have c17 := bI1 c17
      refine r_iload 22 hE 4 dX3_make_20 rfl rfl ?_
      refine r_if_ne 25 35 hE dX3_make_22 rfl (by decide) (by split at hf <;> omega) (fun c22 => ?_) (fun c22 => ?_)
      · skip
        exact cut35 f (hf)
      · skip
        have hk2 : kn ≠ 2 := by intro z; rw [if_pos z] at hf; omega
        have hq1 : 0 ≤ q ∧ q < rc := by rcases hq with z | z <;> omega
        refine r_aload_n 26 hE 0 dX3_make_25 rfl rfl rfl ?_
        refine r_iload_n 27 hE 3 dX3_make_26 rfl rfl rfl ?_
        refine r_callV 30 hE [0] [] [(wRules g ru kd fi se sg le de nx he ro rc re rr)] [] 0 3 ok3 [] (c_X3_holds (by omega) (by omega)) dX3_make_27 rfl rfl wd_647 wd_648 wd_649 wd_9 wd_650 ne_X3 np_X3_holds (Nat.le_of_ble_eq_true rfl)  (by decide) (by decide) rfl (Nat.le_of_ble_eq_true rfl) rfl rfl rfl rfl (by decide) rfl (fun v1 f1 hp => ?_)
        obtain ⟨rfl, rfl⟩ := hp
        show G g E _ _ _ [(wRules g ru kd fi se sg le de nx he ro rc re rr)] 30 [(0, .ref (ru 0)), (1, .int (iI kn)), (2, .int (iI p)), (3, .int (iI q)), (4, .int (iI f))] [.int (iI (bI (0 ≤ q ∧ q < rc)))]
        refine r_if_ne 33 35 hE dX3_make_30 rfl (by decide) (bI_rg _) (fun c30 => ?_) (fun c30 => ?_)
        · skip
          have c30 := bI1 c30
          exact cut35 f (hf)
        · skip
          have c30 := bI0 c30
          omega
  refine r_iload_n 1 hE 1 dX3_make_0 rfl rfl rfl ?_
  refine r_iconst 2 hE dX3_make_1 rfl ?_
  refine r_icmp_ne 5 9 hE dX3_make_2 rfl (by decide) (by omega) (fun c2 => ?_) (fun c2 => ?_)
  · skip
    refine r_iconst 10 hE dX3_make_9 rfl ?_
    refine r_istore 12 hE [(4, .int (iI 0)), (0, .ref (ru 0)), (1, .int (iI kn)), (2, .int (iI p)), (3, .int (iI q))] dX3_make_10 rfl (by decide) rfl ?_
    refine G.to (fs' := [(wRules g ru kd fi se sg le de nx he ro rc re rr)]) (lv' := [(0, .ref (ru 0)), (1, .int (iI kn)), (2, .int (iI p)), (3, .int (iI q)), (4, .int (iI 0))]) [0] [1, 2, 3, 4, 0] rfl rfl rfl ?_
    exact cut12 0 (by first | (rw [if_pos c2]) | (rw [if_neg c2]))
  · skip
    refine r_iconst 6 hE dX3_make_5 rfl ?_
    refine r_goto 10 hE dX3_make_6 (by decide) ?_
    refine r_istore 12 hE [(4, .int (iI 1)), (0, .ref (ru 0)), (1, .int (iI kn)), (2, .int (iI p)), (3, .int (iI q))] dX3_make_10 rfl (by decide) rfl ?_
    refine G.to (fs' := [(wRules g ru kd fi se sg le de nx he ro rc re rr)]) (lv' := [(0, .ref (ru 0)), (1, .int (iI kn)), (2, .int (iI p)), (3, .int (iI q)), (4, .int (iI 1))]) [0] [1, 2, 3, 4, 0] rfl rfl rfl ?_
    exact cut12 1 (by first | (rw [if_pos c2]) | (rw [if_neg c2]))
