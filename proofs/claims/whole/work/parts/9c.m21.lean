set_option maxHeartbeats 4000000 in
set_option maxRecDepth 100000 in
theorem c_X9_four {g : Gm} {mo : Nat → Nat} {mst mac mmk mr mrd mrm mcm mtp msz mtk mbg men mls mvl mft mfp mfk mdp mto : Int} {tf : Int → Int} {v : Int} (htd : 0 ≤ mtp ∧ mtp ≤ 896) (hTB : BR tf) : Ct g 0 0 0 yX9_four cX9_four 3 none [.ref (mo 0), .int (iI v)] [(wMo g mo mst mac mmk mr mrd mrm mcm mtp msz mtk mbg men mls mvl mft mfp mfk mdp mto), (wMTap g mo tf)] (fun v_ w_ => ∃ tf9 : Int → Int, v_ = none ∧ w_ = [(wMo g mo mst mac mmk mr mrd mrm mcm (mtp + 4) msz mtk mbg men mls mvl mft mfp mfk mdp mto), (wMTap g mo tf9)] ∧ (FourIs tf mtp v tf9 4)) := by
  refine Ct.of (by decide) (Nat.le_of_ble_eq_true rfl) (lv := [(0, .ref (mo 0)), (1, .int (iI v))]) rfl ?_
  intro E hE hR hnm
  have cut2 : ∀ (N : Nat) (j : Int) (tf9 : Int → Int), (0 ≤ j ∧ j ≤ 4) → (FourIs tf mtp v tf9 j) → (4 - j).toNat < N → G g E 3 0 0 [(wMo g mo mst mac mmk mr mrd mrm mcm (mtp + j) msz mtk mbg men mls mvl mft mfp mfk mdp mto), (wMTap g mo tf9)] 2 [(0, .ref (mo 0)), (1, .int (iI v)), (2, .int (iI (3 - j)))] [] := by
    intro N
    induction N with
    | zero => intro j tf9 _ _ hN; exact absurd hN (Nat.not_lt_zero _)
    | succ N ih2 =>
      intro j tf9 hj hv hN
      refine r_iload_n 3 hE 2 dX9_four_2 rfl rfl rfl ?_
      refine r_if_lt 6 38 hE dX9_four_3 rfl (by decide) (by omega) (fun c3 => ?_) (fun c3 => ?_)
      · skip
        refine r_return hE hR [(wMo g mo mst mac mmk mr mrd mrm mcm (mtp + j) msz mtk mbg men mls mvl mft mfp mfk mdp mto), (wMTap g mo tf9)] dX9_four_38 (Nat.le_of_ble_eq_true rfl) (Nat.le_of_ble_eq_true rfl) rfl ?_
        have e : j = 4 := by omega
        subst e
        exact ⟨tf9, rfl, rfl, hv⟩
      · skip
        refine r_aload_n 7 hE 0 dX9_four_6 rfl rfl rfl ?_
        refine r_get 10 hE 0 0 ok9 23 dX9_four_7 rfl wd_1075 rfl rfl (by decide) rfl ?_
        refine r_aload_n 11 hE 0 dX9_four_10 rfl rfl rfl ?_
        refine r_get 14 hE 0 0 ok9 25 dX9_four_11 rfl wd_1077 rfl rfl (by decide) rfl ?_
        refine r_iload_n 15 hE 1 dX9_four_14 rfl rfl rfl ?_
        refine r_bipush 17 hE dX9_four_15 rfl (by decide) ?_
        refine r_iload_n 18 hE 2 dX9_four_17 rfl rfl rfl ?_
        refine r_imul 19 hE (8 * (3 - j)) dX9_four_18 rfl rfl ?_
        refine r_ishr 20 hE dX9_four_19 rfl ?_
        refine r_i2b 21 hE dX9_four_20 rfl ?_
        refine r_bast 22 hE 1 0 (wMTap g mo (up tf9 (mtp + j) (byI (shrI v (8 * (3 - j)))))) [(wMo g mo mst mac mmk mr mrd mrm mcm (mtp + j) msz mtk mbg men mls mvl mft mfp mfk mdp mto), (wMTap g mo (up tf9 (mtp + j) (byI (shrI v (8 * (3 - j))))))] dX9_four_21 rfl rfl rfl (by omega) (byI_rg _) rfl rfl ?_
        refine r_aload_n 23 hE 0 dX9_four_22 rfl rfl rfl ?_
        refine r_dup 24 hE dX9_four_23 rfl rfl ?_
        refine r_get 27 hE 0 0 ok9 25 dX9_four_24 rfl wd_1077 rfl rfl (by decide) rfl ?_
        refine r_iconst 28 hE dX9_four_27 rfl ?_
        refine r_iadd 29 hE ((mtp + j) + 1) dX9_four_28 rfl rfl ?_
        refine r_put 32 hE 0 0 ok9 25 (wMo g mo mst mac mmk mr mrd mrm mcm ((mtp + j) + 1) msz mtk mbg men mls mvl mft mfp mfk mdp mto) [(wMo g mo mst mac mmk mr mrd mrm mcm ((mtp + j) + 1) msz mtk mbg men mls mvl mft mfp mfk mdp mto), (wMTap g mo (up tf9 (mtp + j) (byI (shrI v (8 * (3 - j))))))] dX9_four_29 rfl wd_1077 rfl rfl (by decide) rfl rfl rfl (Nat.le_of_ble_eq_true rfl) rfl rfl ?_
        refine r_iinc 35 hE 2 ((3 - j) + (-1)) [(2, .int (iI ((3 - j) + (-1)))), (0, .ref (mo 0)), (1, .int (iI v))] dX9_four_32 rfl rfl rfl (by decide) rfl ?_
        refine r_goto 2 hE dX9_four_35 (by decide) ?_
        refine G.to (fs' := [(wMo g mo mst mac mmk mr mrd mrm mcm ((mtp + j) + 1) msz mtk mbg men mls mvl mft mfp mfk mdp mto), (wMTap g mo (up tf9 (mtp + j) (byI (shrI v (8 * (3 - j))))))]) (lv' := [(0, .ref (mo 0)), (1, .int (iI v)), (2, .int (iI ((3 - j) + (-1))))]) [0, 1] [1, 2, 0] rfl rfl rfl ?_
        refine G.cast (fs' := [(wMo g mo mst mac mmk mr mrd mrm mcm ((mtp + j) + 1) msz mtk mbg men mls mvl mft mfp mfk mdp mto), (wMTap g mo (up tf9 (mtp + j) (byI (shrI v (8 * (3 - j))))))]) (lv' := [(0, .ref (mo 0)), (1, .int (iI v)), (2, .int (iI (3 - (j + 1))))]) rfl (congrArg (fun z9 : Int => ([(0, .ref (mo 0)), (1, .int (iI v)), (2, .int (iI z9))] : List (Nat × Value))) (show ((3 - j) + (-1) : Int) = 3 - (j + 1) from by omega)) ?_
        refine G.cast (fs' := [(wMo g mo mst mac mmk mr mrd mrm mcm (mtp + (j + 1)) msz mtk mbg men mls mvl mft mfp mfk mdp mto), (wMTap g mo (up tf9 (mtp + j) (byI (shrI v (8 * (3 - j))))))]) (lv' := [(0, .ref (mo 0)), (1, .int (iI v)), (2, .int (iI (3 - (j + 1))))]) (by first | rw [show mtp + j + 1 = mtp + (j + 1) by omega] | rw [Int.add_zero]) rfl ?_
        exact ih2 (j + 1) (up tf9 (mtp + j) (byI (shrI v (8 * (3 - j))))) (by omega) (by first | exact hv.stepM htd.1 (by omega) | exact FourIs.start hTB) (by omega)
  refine r_iconst 1 hE dX9_four_0 rfl ?_
  refine r_istore_n 2 hE [(2, .int (iI 3)), (0, .ref (mo 0)), (1, .int (iI v))] dX9_four_1 rfl rfl (by decide) rfl ?_
  refine G.to (fs' := [(wMo g mo mst mac mmk mr mrd mrm mcm mtp msz mtk mbg men mls mvl mft mfp mfk mdp mto), (wMTap g mo tf)]) (lv' := [(0, .ref (mo 0)), (1, .int (iI v)), (2, .int (iI 3))]) [0, 1] [1, 2, 0] rfl rfl rfl ?_
  refine G.cast (fs' := [(wMo g mo mst mac mmk mr mrd mrm mcm mtp msz mtk mbg men mls mvl mft mfp mfk mdp mto), (wMTap g mo tf)]) (lv' := [(0, .ref (mo 0)), (1, .int (iI v)), (2, .int (iI (3 - 0)))]) rfl (congrArg (fun z9 : Int => ([(0, .ref (mo 0)), (1, .int (iI v)), (2, .int (iI z9))] : List (Nat × Value))) (show (3 : Int) = 3 - 0 from by omega)) ?_
  refine G.cast (fs' := [(wMo g mo mst mac mmk mr mrd mrm mcm (mtp + 0) msz mtk mbg men mls mvl mft mfp mfk mdp mto), (wMTap g mo tf)]) (lv' := [(0, .ref (mo 0)), (1, .int (iI v)), (2, .int (iI (3 - 0)))]) (by first | rw [show mtp + j + 1 = mtp + (j + 1) by omega] | rw [Int.add_zero]) rfl ?_
  exact cut2 _ 0 tf (by omega) (by first | exact hv.stepM htd.1 (by omega) | exact FourIs.start hTB) (Nat.lt_succ_self _)
set_option maxHeartbeats 4000000 in
set_option maxRecDepth 100000 in
theorem c_X9_feed {g : Gm} {mo : Nat → Nat} {mst mac mmk mr mrd mrm mcm mtp msz mtk mbg men mls mvl mft mfp mfk mdp mto : Int} {tf : Int → Int} {v1 v2 v3 v4 v5 : Int} (htd : 0 ≤ mtp ∧ mtp ≤ 880) (hTB : BR tf) : Ct g 1 0 0 yX9_feed cX9_feed 6 (some .int) [.ref (mo 0), .int (iI v1), .int (iI v2), .int (iI v3), .int (iI v4), .int (iI v5)] [(wMo g mo mst mac mmk mr mrd mrm mcm mtp msz mtk mbg men mls mvl mft mfp mfk mdp mto), (wMTap g mo tf)] (fun v_ w_ => ∃ tf9 : Int → Int, v_ = some (.int (iI (mtp + 20))) ∧ w_ = [(wMo g mo mst mac mmk mr mrd mrm mcm (mtp + 20) msz mtk mbg men mls mvl mft mfp mfk mdp mto), (wMTap g mo tf9)] ∧ (∃ f1 f2 f3 f4, FourIs tf mtp v1 f1 4 ∧ FourIs f1 (mtp + 4) v2 f2 4 ∧ FourIs f2 (mtp + 8) v3 f3 4 ∧ FourIs f3 (mtp + 12) v4 f4 4 ∧ FourIs f4 (mtp + 16) v5 tf9 4)) := by
  refine Ct.of (by decide) (Nat.le_of_ble_eq_true rfl) (lv := [(0, .ref (mo 0)), (1, .int (iI v1)), (2, .int (iI v2)), (3, .int (iI v3)), (4, .int (iI v4)), (5, .int (iI v5))]) rfl ?_
  intro E hE hR hnm
  refine r_aload_n 1 hE 0 dX9_feed_0 rfl rfl rfl ?_
  refine r_get 4 hE 0 0 ok9 25 dX9_feed_1 rfl wd_1077 rfl rfl (by decide) rfl ?_
  refine r_sipush 7 hE dX9_feed_4 rfl (by decide) ?_
  refine r_icmp_le 10 12 hE dX9_feed_7 rfl (by decide) (by omega) (fun c7 => ?_) (fun c7 => ?_)
  · skip
    refine r_aload_n 13 hE 0 dX9_feed_12 rfl rfl rfl ?_
    refine r_iload_n 14 hE 1 dX9_feed_13 rfl rfl rfl ?_
    refine r_callV 17 hE [0, 1] [] [(wMo g mo mst mac mmk mr mrd mrm mcm mtp msz mtk mbg men mls mvl mft mfp mfk mdp mto), (wMTap g mo tf)] [] 0 9 ok9 [] (c_X9_four (by omega) (hTB)) dX9_feed_14 rfl rfl wd_1175 wd_1177 ws_46 wd_12 wd_1178 ne_X9 np_X9_four (Nat.le_of_ble_eq_true rfl)  (by decide) (by decide) rfl (Nat.le_of_ble_eq_true rfl) rfl rfl rfl rfl (by decide) rfl (fun v1 f1 hp => ?_)
    obtain ⟨tf9_14, rfl, rfl, h14_0⟩ := hp
    show G g E _ _ _ [(wMo g mo mst mac mmk mr mrd mrm mcm (mtp + 4) msz mtk mbg men mls mvl mft mfp mfk mdp mto), (wMTap g mo tf9_14)] 17 [(0, .ref (mo 0)), (1, .int (iI v1)), (2, .int (iI v2)), (3, .int (iI v3)), (4, .int (iI v4)), (5, .int (iI v5))] []
    refine r_aload_n 18 hE 0 dX9_feed_17 rfl rfl rfl ?_
    refine r_iload_n 19 hE 2 dX9_feed_18 rfl rfl rfl ?_
    refine r_callV 22 hE [0, 1] [] [(wMo g mo mst mac mmk mr mrd mrm mcm (mtp + 4) msz mtk mbg men mls mvl mft mfp mfk mdp mto), (wMTap g mo tf9_14)] [] 0 9 ok9 [] (c_X9_four (by omega) (h14_0.2.2)) dX9_feed_19 rfl rfl wd_1175 wd_1177 ws_46 wd_12 wd_1178 ne_X9 np_X9_four (Nat.le_of_ble_eq_true rfl)  (by decide) (by decide) rfl (Nat.le_of_ble_eq_true rfl) rfl rfl rfl rfl (by decide) rfl (fun v1 f1 hp => ?_)
    obtain ⟨tf9_19, rfl, rfl, h19_0⟩ := hp
    show G g E _ _ _ [(wMo g mo mst mac mmk mr mrd mrm mcm ((mtp + 4) + 4) msz mtk mbg men mls mvl mft mfp mfk mdp mto), (wMTap g mo tf9_19)] 22 [(0, .ref (mo 0)), (1, .int (iI v1)), (2, .int (iI v2)), (3, .int (iI v3)), (4, .int (iI v4)), (5, .int (iI v5))] []
    refine r_aload_n 23 hE 0 dX9_feed_22 rfl rfl rfl ?_
    refine r_iload_n 24 hE 3 dX9_feed_23 rfl rfl rfl ?_
    refine r_callV 27 hE [0, 1] [] [(wMo g mo mst mac mmk mr mrd mrm mcm ((mtp + 4) + 4) msz mtk mbg men mls mvl mft mfp mfk mdp mto), (wMTap g mo tf9_19)] [] 0 9 ok9 [] (c_X9_four (by omega) (h19_0.2.2)) dX9_feed_24 rfl rfl wd_1175 wd_1177 ws_46 wd_12 wd_1178 ne_X9 np_X9_four (Nat.le_of_ble_eq_true rfl)  (by decide) (by decide) rfl (Nat.le_of_ble_eq_true rfl) rfl rfl rfl rfl (by decide) rfl (fun v1 f1 hp => ?_)
    obtain ⟨tf9_24, rfl, rfl, h24_0⟩ := hp
    show G g E _ _ _ [(wMo g mo mst mac mmk mr mrd mrm mcm (((mtp + 4) + 4) + 4) msz mtk mbg men mls mvl mft mfp mfk mdp mto), (wMTap g mo tf9_24)] 27 [(0, .ref (mo 0)), (1, .int (iI v1)), (2, .int (iI v2)), (3, .int (iI v3)), (4, .int (iI v4)), (5, .int (iI v5))] []
    refine r_aload_n 28 hE 0 dX9_feed_27 rfl rfl rfl ?_
    refine r_iload 30 hE 4 dX9_feed_28 rfl rfl ?_
    refine r_callV 33 hE [0, 1] [] [(wMo g mo mst mac mmk mr mrd mrm mcm (((mtp + 4) + 4) + 4) msz mtk mbg men mls mvl mft mfp mfk mdp mto), (wMTap g mo tf9_24)] [] 0 9 ok9 [] (c_X9_four (by omega) (h24_0.2.2)) dX9_feed_30 rfl rfl wd_1175 wd_1177 ws_46 wd_12 wd_1178 ne_X9 np_X9_four (Nat.le_of_ble_eq_true rfl)  (by decide) (by decide) rfl (Nat.le_of_ble_eq_true rfl) rfl rfl rfl rfl (by decide) rfl (fun v1 f1 hp => ?_)
    obtain ⟨tf9_30, rfl, rfl, h30_0⟩ := hp
    show G g E _ _ _ [(wMo g mo mst mac mmk mr mrd mrm mcm ((((mtp + 4) + 4) + 4) + 4) msz mtk mbg men mls mvl mft mfp mfk mdp mto), (wMTap g mo tf9_30)] 33 [(0, .ref (mo 0)), (1, .int (iI v1)), (2, .int (iI v2)), (3, .int (iI v3)), (4, .int (iI v4)), (5, .int (iI v5))] []
    refine r_aload_n 34 hE 0 dX9_feed_33 rfl rfl rfl ?_
    refine r_iload 36 hE 5 dX9_feed_34 rfl rfl ?_
    refine r_callV 39 hE [0, 1] [] [(wMo g mo mst mac mmk mr mrd mrm mcm ((((mtp + 4) + 4) + 4) + 4) msz mtk mbg men mls mvl mft mfp mfk mdp mto), (wMTap g mo tf9_30)] [] 0 9 ok9 [] (c_X9_four (by omega) (h30_0.2.2)) dX9_feed_36 rfl rfl wd_1175 wd_1177 ws_46 wd_12 wd_1178 ne_X9 np_X9_four (Nat.le_of_ble_eq_true rfl)  (by decide) (by decide) rfl (Nat.le_of_ble_eq_true rfl) rfl rfl rfl rfl (by decide) rfl (fun v1 f1 hp => ?_)
    obtain ⟨tf9_36, rfl, rfl, h36_0⟩ := hp
    show G g E _ _ _ [(wMo g mo mst mac mmk mr mrd mrm mcm (((((mtp + 4) + 4) + 4) + 4) + 4) msz mtk mbg men mls mvl mft mfp mfk mdp mto), (wMTap g mo tf9_36)] 39 [(0, .ref (mo 0)), (1, .int (iI v1)), (2, .int (iI v2)), (3, .int (iI v3)), (4, .int (iI v4)), (5, .int (iI v5))] []
    refine r_aload_n 40 hE 0 dX9_feed_39 rfl rfl rfl ?_
    refine r_get 43 hE 0 0 ok9 25 dX9_feed_40 rfl wd_1077 rfl rfl (by decide) rfl ?_
    refine r_ireturn hE hR [(wMo g mo mst mac mmk mr mrd mrm mcm (((((mtp + 4) + 4) + 4) + 4) + 4) msz mtk mbg men mls mvl mft mfp mfk mdp mto), (wMTap g mo tf9_36)] dX9_feed_43 (Nat.le_of_ble_eq_true rfl) (Nat.le_of_ble_eq_true rfl) rfl ?_
    refine ⟨_, retI (by omega), by rw [show mtp + 4 + 4 + 4 + 4 + 4 = mtp + 20 by omega], tf9_14, tf9_19, tf9_24, tf9_30, h14_0, h19_0, ?_, ?_, ?_⟩
    · rw [show mtp + 8 = mtp + 4 + 4 by omega]; exact h24_0
    · rw [show mtp + 12 = mtp + 4 + 4 + 4 by omega]; exact h30_0
    · rw [show mtp + 16 = mtp + 4 + 4 + 4 + 4 by omega]; exact h36_0
  · skip
    omega
set_option maxHeartbeats 4000000 in
set_option maxRecDepth 100000 in
theorem c_X9_feed_no {g : Gm} {mo : Nat → Nat} {mst mac mmk mr mrd mrm mcm mtp msz mtk mbg men mls mvl mft mfp mfk mdp mto : Int} {v1 v2 v3 v4 v5 : Int} (htd : 880 < mtp ∧ mtp ≤ 900) : Ct g 1 0 0 yX9_feed cX9_feed 6 (some .int) [.ref (mo 0), .int (iI v1), .int (iI v2), .int (iI v3), .int (iI v4), .int (iI v5)] [(wMo g mo mst mac mmk mr mrd mrm mcm mtp msz mtk mbg men mls mvl mft mfp mfk mdp mto)] (fun v_ w_ => v_ = some (.int (iI (-1))) ∧ w_ = [(wMo g mo mst mac mmk mr mrd mrm mcm mtp msz mtk mbg men mls mvl mft mfp mfk mdp mto)]) := by
  refine Ct.of (by decide) (Nat.le_of_ble_eq_true rfl) (lv := [(0, .ref (mo 0)), (1, .int (iI v1)), (2, .int (iI v2)), (3, .int (iI v3)), (4, .int (iI v4)), (5, .int (iI v5))]) rfl ?_
  intro E hE hR hnm
  refine r_aload_n 1 hE 0 dX9_feed_0 rfl rfl rfl ?_
  refine r_get 4 hE 0 0 ok9 25 dX9_feed_1 rfl wd_1077 rfl rfl (by decide) rfl ?_
  refine r_sipush 7 hE dX9_feed_4 rfl (by decide) ?_
  refine r_icmp_le 10 12 hE dX9_feed_7 rfl (by decide) (by omega) (fun c7 => ?_) (fun c7 => ?_)
  · skip
    omega
  · skip
    refine r_iconst 11 hE dX9_feed_10 rfl ?_
    refine r_ireturn hE hR [(wMo g mo mst mac mmk mr mrd mrm mcm mtp msz mtk mbg men mls mvl mft mfp mfk mdp mto)] dX9_feed_11 (Nat.le_of_ble_eq_true rfl) (Nat.le_of_ble_eq_true rfl) rfl ?_
    exact ⟨retI (rfl), rfl⟩
set_option maxHeartbeats 4000000 in
set_option maxRecDepth 100000 in
theorem c_X9_byteAt {g : Gm} {mo : Nat → Nat} {mst mac mmk mr mrd mrm mcm mtp msz mtk mbg men mls mvl mft mfp mfk mdp mto : Int} {tt : Int → Int} {q : Int} (hB : BR tt) (hn : 0 ≤ msz ∧ msz ≤ 900) (hq : 0 ≤ q ∧ q ≤ 4000) : Ct g 0 0 0 yX9_byteAt cX9_byteAt 2 (some .int) [.ref (mo 0), .int (iI q)] [(wMo g mo mst mac mmk mr mrd mrm mcm mtp msz mtk mbg men mls mvl mft mfp mfk mdp mto), (wMTxt g mo tt)] (fun v_ w_ => v_ = some (.int (iI (mbA tt msz q))) ∧ w_ = [(wMo g mo mst mac mmk mr mrd mrm mcm mtp msz mtk mbg men mls mvl mft mfp mfk mdp mto), (wMTxt g mo tt)]) := by
  refine Ct.of (by decide) (Nat.le_of_ble_eq_true rfl) (lv := [(0, .ref (mo 0)), (1, .int (iI q))]) rfl ?_
  intro E hE hR hnm
  refine r_iload_n 1 hE 1 dX9_byteAt_0 rfl rfl rfl ?_
  refine r_aload_n 2 hE 0 dX9_byteAt_1 rfl rfl rfl ?_
  refine r_get 5 hE 0 0 ok9 26 dX9_byteAt_2 rfl wd_1078 rfl rfl (by decide) rfl ?_
  refine r_icmp_ge 8 21 hE dX9_byteAt_5 rfl (by decide) (by omega) (fun c5 => ?_) (fun c5 => ?_)
  · skip
    refine r_iconst 22 hE dX9_byteAt_21 rfl ?_
    refine r_ireturn hE hR [(wMo g mo mst mac mmk mr mrd mrm mcm mtp msz mtk mbg men mls mvl mft mfp mfk mdp mto), (wMTxt g mo tt)] dX9_byteAt_22 (Nat.le_of_ble_eq_true rfl) (Nat.le_of_ble_eq_true rfl) rfl ?_
    first
      | exact ⟨retI (by unfold mbA; rw [if_pos (by omega), and255 (hB q)]), rfl⟩
      | exact ⟨retI (by unfold mbA; rw [if_neg (by omega)]), rfl⟩
  · skip
    refine r_aload_n 9 hE 0 dX9_byteAt_8 rfl rfl rfl ?_
    refine r_get 12 hE 0 0 ok9 24 dX9_byteAt_9 rfl wd_1076 rfl rfl (by decide) rfl ?_
    refine r_iload_n 13 hE 1 dX9_byteAt_12 rfl rfl rfl ?_
    refine r_bald 14 hE 1 0 dX9_byteAt_13 rfl rfl rfl (by omega) ?_
    refine r_sipush 17 hE dX9_byteAt_14 rfl (by decide) ?_
    refine r_iand 18 hE dX9_byteAt_17 rfl ?_
    refine r_goto 22 hE dX9_byteAt_18 (by decide) ?_
    refine r_ireturn hE hR [(wMo g mo mst mac mmk mr mrd mrm mcm mtp msz mtk mbg men mls mvl mft mfp mfk mdp mto), (wMTxt g mo tt)] dX9_byteAt_22 (Nat.le_of_ble_eq_true rfl) (Nat.le_of_ble_eq_true rfl) rfl ?_
    first
      | exact ⟨retI (by unfold mbA; rw [if_pos (by omega), and255 (hB q)]), rfl⟩
      | exact ⟨retI (by unfold mbA; rw [if_neg (by omega)]), rfl⟩
set_option maxHeartbeats 4000000 in
set_option maxRecDepth 100000 in
theorem c_X9_isSmall {g : Gm} {v : Int} (hv : -2147483648 ≤ v ∧ v ≤ 2147483647) : Ct g 0 0 0 yX9_isSmall cX9_isSmall 1 (some .boolean) [.int (iI v)] [] (fun v_ w_ => v_ = some (.int (iI (bI (97 ≤ v ∧ v ≤ 122)))) ∧ w_ = []) := by
  refine Ct.of (by decide) (Nat.le_of_ble_eq_true rfl) (lv := [(0, .int (iI v))]) rfl ?_
  intro E hE hR hnm
  refine r_iload_n 1 hE 0 dX9_isSmall_0 rfl rfl rfl ?_
  refine r_bipush 3 hE dX9_isSmall_1 rfl (by decide) ?_
  refine r_icmp_lt 6 16 hE dX9_isSmall_3 rfl (by decide) (by omega) (fun c3 => ?_) (fun c3 => ?_)
  · skip
    refine r_iconst 17 hE dX9_isSmall_16 rfl ?_
    refine r_zreturn hE hR [] dX9_isSmall_17 (Nat.le_of_ble_eq_true rfl) (Nat.le_of_ble_eq_true rfl) (by decide) rfl ?_
    exact ⟨ret0 (by omega), rfl⟩
  · skip
    refine r_iload_n 7 hE 0 dX9_isSmall_6 rfl rfl rfl ?_
    refine r_bipush 9 hE dX9_isSmall_7 rfl (by decide) ?_
    refine r_icmp_gt 12 16 hE dX9_isSmall_9 rfl (by decide) (by omega) (fun c9 => ?_) (fun c9 => ?_)
    · skip
      refine r_iconst 17 hE dX9_isSmall_16 rfl ?_
      refine r_zreturn hE hR [] dX9_isSmall_17 (Nat.le_of_ble_eq_true rfl) (Nat.le_of_ble_eq_true rfl) (by decide) rfl ?_
      exact ⟨ret0 (by omega), rfl⟩
    · skip
      refine r_iconst 13 hE dX9_isSmall_12 rfl ?_
      refine r_goto 17 hE dX9_isSmall_13 (by decide) ?_
      refine r_zreturn hE hR [] dX9_isSmall_17 (Nat.le_of_ble_eq_true rfl) (Nat.le_of_ble_eq_true rfl) (by decide) rfl ?_
      exact ⟨ret1 (by omega), rfl⟩
set_option maxHeartbeats 4000000 in
set_option maxRecDepth 100000 in
theorem c_X9_isDigit {g : Gm} {v : Int} (hv : -2147483648 ≤ v ∧ v ≤ 2147483647) : Ct g 0 0 0 yX9_isDigit cX9_isDigit 1 (some .boolean) [.int (iI v)] [] (fun v_ w_ => v_ = some (.int (iI (bI (48 ≤ v ∧ v ≤ 57)))) ∧ w_ = []) := by
  refine Ct.of (by decide) (Nat.le_of_ble_eq_true rfl) (lv := [(0, .int (iI v))]) rfl ?_
  intro E hE hR hnm
  refine r_iload_n 1 hE 0 dX9_isDigit_0 rfl rfl rfl ?_
  refine r_bipush 3 hE dX9_isDigit_1 rfl (by decide) ?_
  refine r_icmp_lt 6 16 hE dX9_isDigit_3 rfl (by decide) (by omega) (fun c3 => ?_) (fun c3 => ?_)
  · skip
    refine r_iconst 17 hE dX9_isDigit_16 rfl ?_
    refine r_zreturn hE hR [] dX9_isDigit_17 (Nat.le_of_ble_eq_true rfl) (Nat.le_of_ble_eq_true rfl) (by decide) rfl ?_
    exact ⟨ret0 (by omega), rfl⟩
  · skip
    refine r_iload_n 7 hE 0 dX9_isDigit_6 rfl rfl rfl ?_
    refine r_bipush 9 hE dX9_isDigit_7 rfl (by decide) ?_
    refine r_icmp_gt 12 16 hE dX9_isDigit_9 rfl (by decide) (by omega) (fun c9 => ?_) (fun c9 => ?_)
    · skip
      refine r_iconst 17 hE dX9_isDigit_16 rfl ?_
      refine r_zreturn hE hR [] dX9_isDigit_17 (Nat.le_of_ble_eq_true rfl) (Nat.le_of_ble_eq_true rfl) (by decide) rfl ?_
      exact ⟨ret0 (by omega), rfl⟩
    · skip
      refine r_iconst 13 hE dX9_isDigit_12 rfl ?_
      refine r_goto 17 hE dX9_isDigit_13 (by decide) ?_
      refine r_zreturn hE hR [] dX9_isDigit_17 (Nat.le_of_ble_eq_true rfl) (Nat.le_of_ble_eq_true rfl) (by decide) rfl ?_
      exact ⟨ret1 (by omega), rfl⟩
set_option maxHeartbeats 4000000 in
set_option maxRecDepth 100000 in
theorem c_X9_isSignOf {g : Gm} {v : Int} (hv : -2147483648 ≤ v ∧ v ≤ 2147483647) : Ct g 0 0 0 yX9_isSignOf cX9_isSignOf 1 (some .boolean) [.int (iI v)] [] (fun v_ w_ => v_ = some (.int (iI (bI (isSg v)))) ∧ w_ = []) := by
  refine Ct.of (by decide) (Nat.le_of_ble_eq_true rfl) (lv := [(0, .int (iI v))]) rfl ?_
  intro E hE hR hnm
  refine r_iload_n 1 hE 0 dX9_isSignOf_0 rfl rfl rfl ?_
  refine r_bipush 3 hE dX9_isSignOf_1 rfl (by decide) ?_
  refine r_icmp_eq 6 66 hE dX9_isSignOf_3 rfl (by decide) (by omega) (fun c3 => ?_) (fun c3 => ?_)
  · skip
    refine r_iconst 67 hE dX9_isSignOf_66 rfl ?_
    refine r_goto 71 hE dX9_isSignOf_67 (by decide) ?_
    refine r_zreturn hE hR [] dX9_isSignOf_71 (Nat.le_of_ble_eq_true rfl) (Nat.le_of_ble_eq_true rfl) (by decide) rfl ?_
    exact ⟨ret1 (by unfold isSg; omega), rfl⟩
  · skip
    refine r_iload_n 7 hE 0 dX9_isSignOf_6 rfl rfl rfl ?_
    refine r_bipush 9 hE dX9_isSignOf_7 rfl (by decide) ?_
    refine r_icmp_eq 12 66 hE dX9_isSignOf_9 rfl (by decide) (by omega) (fun c9 => ?_) (fun c9 => ?_)
    · skip
      refine r_iconst 67 hE dX9_isSignOf_66 rfl ?_
      refine r_goto 71 hE dX9_isSignOf_67 (by decide) ?_
      refine r_zreturn hE hR [] dX9_isSignOf_71 (Nat.le_of_ble_eq_true rfl) (Nat.le_of_ble_eq_true rfl) (by decide) rfl ?_
      exact ⟨ret1 (by unfold isSg; omega), rfl⟩
    · skip
      refine r_iload_n 13 hE 0 dX9_isSignOf_12 rfl rfl rfl ?_
      refine r_bipush 15 hE dX9_isSignOf_13 rfl (by decide) ?_
      refine r_icmp_eq 18 66 hE dX9_isSignOf_15 rfl (by decide) (by omega) (fun c15 => ?_) (fun c15 => ?_)
      · skip
        refine r_iconst 67 hE dX9_isSignOf_66 rfl ?_
        refine r_goto 71 hE dX9_isSignOf_67 (by decide) ?_
        refine r_zreturn hE hR [] dX9_isSignOf_71 (Nat.le_of_ble_eq_true rfl) (Nat.le_of_ble_eq_true rfl) (by decide) rfl ?_
        exact ⟨ret1 (by unfold isSg; omega), rfl⟩
      · skip
        refine r_iload_n 19 hE 0 dX9_isSignOf_18 rfl rfl rfl ?_
        refine r_bipush 21 hE dX9_isSignOf_19 rfl (by decide) ?_
        refine r_icmp_eq 24 66 hE dX9_isSignOf_21 rfl (by decide) (by omega) (fun c21 => ?_) (fun c21 => ?_)
        · skip
          refine r_iconst 67 hE dX9_isSignOf_66 rfl ?_
          refine r_goto 71 hE dX9_isSignOf_67 (by decide) ?_
          refine r_zreturn hE hR [] dX9_isSignOf_71 (Nat.le_of_ble_eq_true rfl) (Nat.le_of_ble_eq_true rfl) (by decide) rfl ?_
          exact ⟨ret1 (by unfold isSg; omega), rfl⟩
        · skip
          refine r_iload_n 25 hE 0 dX9_isSignOf_24 rfl rfl rfl ?_
          refine r_bipush 27 hE dX9_isSignOf_25 rfl (by decide) ?_
          refine r_icmp_eq 30 66 hE dX9_isSignOf_27 rfl (by decide) (by omega) (fun c27 => ?_) (fun c27 => ?_)
          · skip
            refine r_iconst 67 hE dX9_isSignOf_66 rfl ?_
            refine r_goto 71 hE dX9_isSignOf_67 (by decide) ?_
            refine r_zreturn hE hR [] dX9_isSignOf_71 (Nat.le_of_ble_eq_true rfl) (Nat.le_of_ble_eq_true rfl) (by decide) rfl ?_
            exact ⟨ret1 (by unfold isSg; omega), rfl⟩
          · skip
            refine r_iload_n 31 hE 0 dX9_isSignOf_30 rfl rfl rfl ?_
            refine r_bipush 33 hE dX9_isSignOf_31 rfl (by decide) ?_
            refine r_icmp_eq 36 66 hE dX9_isSignOf_33 rfl (by decide) (by omega) (fun c33 => ?_) (fun c33 => ?_)
            · skip
              refine r_iconst 67 hE dX9_isSignOf_66 rfl ?_
              refine r_goto 71 hE dX9_isSignOf_67 (by decide) ?_
              refine r_zreturn hE hR [] dX9_isSignOf_71 (Nat.le_of_ble_eq_true rfl) (Nat.le_of_ble_eq_true rfl) (by decide) rfl ?_
              exact ⟨ret1 (by unfold isSg; omega), rfl⟩
            · skip
              refine r_iload_n 37 hE 0 dX9_isSignOf_36 rfl rfl rfl ?_
              refine r_bipush 39 hE dX9_isSignOf_37 rfl (by decide) ?_
              refine r_icmp_eq 42 66 hE dX9_isSignOf_39 rfl (by decide) (by omega) (fun c39 => ?_) (fun c39 => ?_)
              · skip
                refine r_iconst 67 hE dX9_isSignOf_66 rfl ?_
                refine r_goto 71 hE dX9_isSignOf_67 (by decide) ?_
                refine r_zreturn hE hR [] dX9_isSignOf_71 (Nat.le_of_ble_eq_true rfl) (Nat.le_of_ble_eq_true rfl) (by decide) rfl ?_
                exact ⟨ret1 (by unfold isSg; omega), rfl⟩
              · skip
                refine r_iload_n 43 hE 0 dX9_isSignOf_42 rfl rfl rfl ?_
                refine r_bipush 45 hE dX9_isSignOf_43 rfl (by decide) ?_
                refine r_icmp_eq 48 66 hE dX9_isSignOf_45 rfl (by decide) (by omega) (fun c45 => ?_) (fun c45 => ?_)
                · skip
                  refine r_iconst 67 hE dX9_isSignOf_66 rfl ?_
                  refine r_goto 71 hE dX9_isSignOf_67 (by decide) ?_
                  refine r_zreturn hE hR [] dX9_isSignOf_71 (Nat.le_of_ble_eq_true rfl) (Nat.le_of_ble_eq_true rfl) (by decide) rfl ?_
                  exact ⟨ret1 (by unfold isSg; omega), rfl⟩
                · skip
                  refine r_iload_n 49 hE 0 dX9_isSignOf_48 rfl rfl rfl ?_
                  refine r_bipush 51 hE dX9_isSignOf_49 rfl (by decide) ?_
                  refine r_icmp_eq 54 66 hE dX9_isSignOf_51 rfl (by decide) (by omega) (fun c51 => ?_) (fun c51 => ?_)
                  · skip
                    refine r_iconst 67 hE dX9_isSignOf_66 rfl ?_
                    refine r_goto 71 hE dX9_isSignOf_67 (by decide) ?_
                    refine r_zreturn hE hR [] dX9_isSignOf_71 (Nat.le_of_ble_eq_true rfl) (Nat.le_of_ble_eq_true rfl) (by decide) rfl ?_
                    exact ⟨ret1 (by unfold isSg; omega), rfl⟩
                  · skip
                    refine r_iload_n 55 hE 0 dX9_isSignOf_54 rfl rfl rfl ?_
                    refine r_bipush 57 hE dX9_isSignOf_55 rfl (by decide) ?_
                    refine r_icmp_eq 60 66 hE dX9_isSignOf_57 rfl (by decide) (by omega) (fun c57 => ?_) (fun c57 => ?_)
                    · skip
                      refine r_iconst 67 hE dX9_isSignOf_66 rfl ?_
                      refine r_goto 71 hE dX9_isSignOf_67 (by decide) ?_
                      refine r_zreturn hE hR [] dX9_isSignOf_71 (Nat.le_of_ble_eq_true rfl) (Nat.le_of_ble_eq_true rfl) (by decide) rfl ?_
                      exact ⟨ret1 (by unfold isSg; omega), rfl⟩
                    · skip
                      refine r_iload_n 61 hE 0 dX9_isSignOf_60 rfl rfl rfl ?_
                      refine r_bipush 63 hE dX9_isSignOf_61 rfl (by decide) ?_
                      refine r_icmp_ne 66 70 hE dX9_isSignOf_63 rfl (by decide) (by omega) (fun c63 => ?_) (fun c63 => ?_)
                      · skip
                        refine r_iconst 71 hE dX9_isSignOf_70 rfl ?_
                        refine r_zreturn hE hR [] dX9_isSignOf_71 (Nat.le_of_ble_eq_true rfl) (Nat.le_of_ble_eq_true rfl) (by decide) rfl ?_
                        exact ⟨ret0 (by unfold isSg; omega), rfl⟩
                      · skip
                        refine r_iconst 67 hE dX9_isSignOf_66 rfl ?_
                        refine r_goto 71 hE dX9_isSignOf_67 (by decide) ?_
                        refine r_zreturn hE hR [] dX9_isSignOf_71 (Nat.le_of_ble_eq_true rfl) (Nat.le_of_ble_eq_true rfl) (by decide) rfl ?_
                        exact ⟨ret1 (by unfold isSg; omega), rfl⟩
