/-! ===== a shelf that was copied has the same texts ===== -/
theorem tsOf_copy {n : Int} {L2 ln2 tp2 rd2 L ln tp rd : Int → Int} (h : CopyTo n L2 ln2 tp2 rd2 L ln tp rd) : tsOf L ln n = tsOf L2 ln2 n := by
  unfold tsOf
  refine List.map_congr_left (fun t ht => ?_)
  have h0 := List.mem_range.mp ht
  obtain ⟨z1, -, -, z4⟩ := h (t : Int) (by omega) (by omega)
  rw [z1]
  exact rowL_cong (fun k a b => by unfold tx; exact z4 k a b)
set_option maxHeartbeats 4000000 in
set_option maxRecDepth 100000 in
theorem c_X8_settle_k {g : Gm} {a : Nat → Nat} {L ln tp rd : Int → Int} {cnt era nws : Int} {ru : Nat → Nat} {kd fi se sg le de nx he ro : Int → Int} {rc re rr : Int} {R : Int → Rl} {x tpa da pa qa wa sa bka : Nat} {taped told : Int} {v : Int} (hT : RT kd fi se sg le de nx he rc R) (hsh : ShOk L ln cnt) (hv : 0 ≤ v ∧ v ≤ 4800) (hre : 0 ≤ re ∧ re ≤ 1000000 ∧ -1 ≤ era ∧ era ≤ re) (hto : era = re → TopsOk R rc L ln tp rd cnt) (hroom : era ≠ re → v ≤ 10240 - rc → rc + sumF ln cnt ≤ 10240) (hvr : v ≤ 10240 - rc) : Ct g 4 0 0 yX8_settle cX8_settle 4 none [.ref x, .int (iI v)] [(wMain g x tpa (a 0) da pa qa (ru 0) wa sa bka taped told), (wShelf g a L ln tp rd cnt era nws), (wRules g ru kd fi se sg le de nx he ro rc re rr)] (fun v_ w_ => ∃ kd9 : Int → Int, ∃ fi9 : Int → Int, ∃ se9 : Int → Int, ∃ sg9 : Int → Int, ∃ le9 : Int → Int, ∃ de9 : Int → Int, ∃ nx9 : Int → Int, ∃ he9 : Int → Int, ∃ rc9 : Int, ∃ R9 : Int → Rl, ∃ ro9 : Int → Int, ∃ re9 : Int, ∃ rr9 : Int, ∃ tp9 : Int → Int, ∃ rd9 : Int → Int, v_ = none ∧ w_ = [(wMain g x tpa (a 0) da pa qa (ru 0) wa sa bka taped told), (wShelf g a L ln tp9 rd9 cnt re9 nws), (wRules g ru kd9 fi9 se9 sg9 le9 de9 nx9 he9 ro9 rc9 re9 rr9)] ∧ (RT kd9 fi9 se9 sg9 le9 de9 nx9 he9 rc9 R9) ∧ (TopsOk R9 rc9 L ln tp9 rd9 cnt) ∧ (re9 = re ∧ rc ≤ rc9 ∧ (∀ i, 0 ≤ i → i < rc → R9 i = R i))) := by
  refine Ct.of (by decide) (Nat.le_of_ble_eq_true rfl) (lv := [(0, .ref x), (1, .int (iI v))]) rfl ?_
  intro E hE hR hnm
  have hcn := hT.1
  have hln := hsh.ln
  have hc := hsh.1
  have hB := hsh.2.1
  have hs6 := sumF_600 hln hc
  have cut18 : ∀ (he8 : Int → Int) (rc8 : Int) (re8 : Int), (RT kd fi se sg le de nx he8 rc8 R) → (re8 = re ∧ rc8 = rc ∧ v ≤ 10240 - rc) → G g E 4 0 0 [(wMain g x tpa (a 0) da pa qa (ru 0) wa sa bka taped told), (wShelf g a L ln tp rd cnt era nws), (wRules g ru kd fi se sg le de nx he8 ro rc8 re8 rr)] 18 [(0, .ref x), (1, .int (iI v))] [] := by
    intro he8 rc8 re8 hT8 h8
    have cut38 : ∀ (N : Nat) (kd9 : Int → Int) (fi9 : Int → Int) (se9 : Int → Int) (sg9 : Int → Int) (le9 : Int → Int) (de9 : Int → Int) (nx9 : Int → Int) (he9 : Int → Int) (rc9 : Int) (R9 : Int → Rl) (ro9 : Int → Int) (rr9 : Int) (tp9 : Int → Int) (rd9 : Int → Int) (i : Int), (RT kd9 fi9 se9 sg9 le9 de9 nx9 he9 rc9 R9) → (0 ≤ i ∧ i ≤ cnt) → (rc8 ≤ rc9 ∧ rc9 ≤ rc8 + sumF ln i) → (∀ j, 0 ≤ j → j < rc8 → R9 j = R j) → (TopsOk R9 rc9 L ln tp9 rd9 i) → (era ≠ re8) → (rc8 + sumF ln cnt ≤ 10240) → (cnt - i).toNat < N → G g E 4 0 0 [(wMain g x tpa (a 0) da pa qa (ru 0) wa sa bka taped told), (wShelf g a L ln tp9 rd9 cnt era nws), (wRules g ru kd9 fi9 se9 sg9 le9 de9 nx9 he9 ro9 rc9 re8 rr9)] 38 [(0, .ref x), (1, .int (iI v)), (2, .int (iI i))] [] := by
      intro N
      induction N with
      | zero => intro kd9 fi9 se9 sg9 le9 de9 nx9 he9 rc9 R9 ro9 rr9 tp9 rd9 i _ _ _ _ _ _ _ hN; exact absurd hN (Nat.not_lt_zero _)
      | succ N ih38 =>
        intro kd9 fi9 se9 sg9 le9 de9 nx9 he9 rc9 R9 ro9 rr9 tp9 rd9 i hT9 hi hrc hag htp hne hrm8 hN
        have hcn9 := hT9.1
        refine r_iload_n 39 hE 2 dX8_settle_38 rfl rfl rfl ?_
        refine r_aload_n 40 hE 0 dX8_settle_39 rfl rfl rfl ?_
        refine r_get 43 hE 0 0 ok8 4 dX8_settle_40 rfl wd_301 rfl rfl (by decide) rfl ?_
        refine r_get 46 hE 1 0 ok5 4 dX8_settle_43 rfl wd_84 rfl rfl (by decide) rfl ?_
        refine r_icmp_ge 49 99 hE dX8_settle_46 rfl (by decide) (by omega) (fun c46 => ?_) (fun c46 => ?_)
        · skip
          refine r_aload_n 100 hE 0 dX8_settle_99 rfl rfl rfl ?_
          refine r_get 103 hE 0 0 ok8 4 dX8_settle_100 rfl wd_301 rfl rfl (by decide) rfl ?_
          refine r_aload_n 104 hE 0 dX8_settle_103 rfl rfl rfl ?_
          refine r_get 107 hE 0 0 ok8 9 dX8_settle_104 rfl wd_306 rfl rfl (by decide) rfl ?_
          refine r_get 110 hE 2 0 ok3 10 dX8_settle_107 rfl wd_224 rfl rfl (by decide) rfl ?_
          refine r_put 113 hE 1 0 ok5 5 (wShelf g a L ln tp9 rd9 cnt re8 nws) [(wMain g x tpa (a 0) da pa qa (ru 0) wa sa bka taped told), (wShelf g a L ln tp9 rd9 cnt re8 nws), (wRules g ru kd9 fi9 se9 sg9 le9 de9 nx9 he9 ro9 rc9 re8 rr9)] dX8_settle_110 rfl wd_86 rfl rfl (by decide) rfl rfl rfl (Nat.le_of_ble_eq_true rfl) rfl rfl ?_
          refine r_return hE hR [(wMain g x tpa (a 0) da pa qa (ru 0) wa sa bka taped told), (wShelf g a L ln tp9 rd9 cnt re8 nws), (wRules g ru kd9 fi9 se9 sg9 le9 de9 nx9 he9 ro9 rc9 re8 rr9)] dX8_settle_113 (Nat.le_of_ble_eq_true rfl) (Nat.le_of_ble_eq_true rfl) rfl ?_
          have hic : i = cnt := by omega
          subst hic
          have hre8 : re8 = re := by omega
          exact ⟨kd9, fi9, se9, sg9, le9, de9, nx9, he9, rc9, R9, ro9, re8, rr9, tp9, rd9, rfl, rfl, hT9, htp, hre8, by omega, fun j a b => hag j a (by omega)⟩
        · skip
          have hl1 := (hsh.2.2 i hi.1 c46).1
          have hs1 := sumF_succ ln hi.1
          have hs2 := sumF_le (f := ln) (i := i + 1) (n := cnt) (fun j a b => (hln j a b).1) (by omega) (by omega)
          have hfl := (hsh.2.2 i hi.1 c46).2
          refine r_aload_n 50 hE 0 dX8_settle_49 rfl rfl rfl ?_
          refine r_get 53 hE 0 0 ok8 9 dX8_settle_50 rfl wd_306 rfl rfl (by decide) rfl ?_
          refine r_aload_n 54 hE 0 dX8_settle_53 rfl rfl rfl ?_
          refine r_get 57 hE 0 0 ok8 4 dX8_settle_54 rfl wd_301 rfl rfl (by decide) rfl ?_
          refine r_get 60 hE 1 0 ok5 0 dX8_settle_57 rfl wd_77 rfl rfl (by decide) rfl ?_
          refine r_iload_n 61 hE 2 dX8_settle_60 rfl rfl rfl ?_
          refine r_sipush 64 hE dX8_settle_61 rfl (by decide) ?_
          refine r_imul 65 hE (i * 600) dX8_settle_64 rfl rfl ?_
          refine r_aload_n 66 hE 0 dX8_settle_65 rfl rfl rfl ?_
          refine r_get 69 hE 0 0 ok8 4 dX8_settle_66 rfl wd_301 rfl rfl (by decide) rfl ?_
          refine r_iload_n 70 hE 2 dX8_settle_69 rfl rfl rfl ?_
          refine r_callV 73 hE [1] [0, 2] [(wShelf g a L ln tp9 rd9 cnt era nws)] [(wMain g x tpa (a 0) da pa qa (ru 0) wa sa bka taped told), (wRules g ru kd9 fi9 se9 sg9 le9 de9 nx9 he9 ro9 rc9 re8 rr9)] 0 5 ok5 [.int (iI (i * 600)), .ref (a 1), .ref (ru 0)] (c_X5_lengthOf (by omega) (by omega)) dX8_settle_70 rfl rfl wd_630 wd_631 wd_632 wd_4 wd_633 ne_X5 np_X5_lengthOf (Nat.le_of_ble_eq_true rfl)  (by decide) (by decide) rfl (Nat.le_of_ble_eq_true rfl) rfl rfl rfl rfl (by decide) rfl (fun v1 f1 hp => ?_)
          obtain ⟨rfl, rfl⟩ := hp
          show G g E _ _ _ [(wShelf g a L ln tp9 rd9 cnt era nws), (wMain g x tpa (a 0) da pa qa (ru 0) wa sa bka taped told), (wRules g ru kd9 fi9 se9 sg9 le9 de9 nx9 he9 ro9 rc9 re8 rr9)] 73 [(0, .ref x), (1, .int (iI v)), (2, .int (iI i))] [.int (iI (ln i)), .int (iI (i * 600)), .ref (a 1), .ref (ru 0)]
          refine G.cast (fs' := [(wShelfH g a cnt era nws), (wBytes g (a 1) 4800 L), (wShelfT g a ln tp9 rd9), (wMain g x tpa (a 0) da pa qa (ru 0) wa sa bka taped told), (wRules g ru kd9 fi9 se9 sg9 le9 de9 nx9 he9 ro9 rc9 re8 rr9)]) (lv' := [(0, .ref x), (1, .int (iI v)), (2, .int (iI i))]) rfl rfl ?_
          refine r_callV 76 hE [4, 1] [0, 2, 3] [(wRules g ru kd9 fi9 se9 sg9 le9 de9 nx9 he9 ro9 rc9 re8 rr9), (wBytes g (a 1) 4800 L)] [(wShelfH g a cnt era nws), (wShelfT g a ln tp9 rd9), (wMain g x tpa (a 0) da pa qa (ru 0) wa sa bka taped told)] 0 3 ok3 [] (c_X3_build (hT9) (by omega) (by omega) (fun k a b => by have := hfl k a b; rw [show i * 600 + k = 600 * i + k by omega]; exact this) (by omega)) dX8_settle_73 rfl rfl wd_635 wd_636 wd_637 wd_9 wd_638 ne_X3 np_X3_build (Nat.le_of_ble_eq_true rfl)  (by decide) (by decide) rfl (Nat.le_of_ble_eq_true rfl) rfl rfl rfl rfl (by decide) rfl (fun v1 f1 hp => ?_)
          obtain ⟨kd9_73, fi9_73, se9_73, sg9_73, le9_73, de9_73, nx9_73, he9_73, rc9_73, R9_73, ro9_73, rr9_73, r_73, rfl, rfl, h73_0, h73_1, h73_2, h73_3, h73_4, h73_5⟩ := hp
          show G g E _ _ _ [(wRules g ru kd9_73 fi9_73 se9_73 sg9_73 le9_73 de9_73 nx9_73 he9_73 ro9_73 rc9_73 re8 rr9_73), (wBytes g (a 1) 4800 L), (wShelfH g a cnt era nws), (wShelfT g a ln tp9 rd9), (wMain g x tpa (a 0) da pa qa (ru 0) wa sa bka taped told)] 76 [(0, .ref x), (1, .int (iI v)), (2, .int (iI i))] [.int (iI r_73)]
          have hag2 : ∀ j, 0 ≤ j → j < rc8 → R9_73 j = R j := fun j a b => by rw [h73_2 j a (by omega)]; exact hag j a b
          have hrc2 : rc8 ≤ rc9_73 ∧ rc9_73 ≤ rc8 + sumF ln (i + 1) := by omega
          have htp2 := (htp.ext h73_1.1 h73_2).step h73_3 h73_4
          refine G.to (fs' := [(wShelfH g a cnt era nws), (wBytes g (a 1) 4800 L), (wShelfT g a ln tp9 rd9), (wRules g ru kd9_73 fi9_73 se9_73 sg9_73 le9_73 de9_73 nx9_73 he9_73 ro9_73 rc9_73 re8 rr9_73), (wMain g x tpa (a 0) da pa qa (ru 0) wa sa bka taped told)]) (lv' := [(0, .ref x), (1, .int (iI v)), (2, .int (iI i))]) [2, 1, 3, 0, 4] [0, 1, 2] rfl rfl rfl ?_
          refine G.cast (fs' := [(wShelf g a L ln tp9 rd9 cnt era nws), (wRules g ru kd9_73 fi9_73 se9_73 sg9_73 le9_73 de9_73 nx9_73 he9_73 ro9_73 rc9_73 re8 rr9_73), (wMain g x tpa (a 0) da pa qa (ru 0) wa sa bka taped told)]) (lv' := [(0, .ref x), (1, .int (iI v)), (2, .int (iI i))]) rfl rfl ?_
          refine r_istore_n 77 hE [(3, .int (iI r_73)), (0, .ref x), (1, .int (iI v)), (2, .int (iI i))] dX8_settle_76 rfl rfl (by decide) rfl ?_
          refine r_aload_n 78 hE 1 dX8_settle_77 rfl rfl rfl ?_
          refine r_get 81 hE 2 0 ok8 4 dX8_settle_78 rfl wd_301 rfl rfl (by decide) rfl ?_
          refine r_iload_n 82 hE 3 dX8_settle_81 rfl rfl rfl ?_
          refine r_iload_n 83 hE 0 dX8_settle_82 rfl rfl rfl ?_
          refine r_aload_n 84 hE 1 dX8_settle_83 rfl rfl rfl ?_
          refine r_get 87 hE 2 0 ok8 9 dX8_settle_84 rfl wd_306 rfl rfl (by decide) rfl ?_
          refine r_get 90 hE 1 0 ok3 11 dX8_settle_87 rfl wd_226 rfl rfl (by decide) rfl ?_
          refine r_callV 93 hE [0] [1, 2] [(wShelf g a L ln tp9 rd9 cnt era nws)] [(wRules g ru kd9_73 fi9_73 se9_73 sg9_73 le9_73 de9_73 nx9_73 he9_73 ro9_73 rc9_73 re8 rr9_73), (wMain g x tpa (a 0) da pa qa (ru 0) wa sa bka taped told)] 0 5 ok5 [] (c_X5_setTop (by omega) (by omega)) dX8_settle_90 rfl rfl wd_664 wd_665 wd_666 wd_4 wd_667 ne_X5 np_X5_setTop (Nat.le_of_ble_eq_true rfl)  (by decide) (by decide) rfl (Nat.le_of_ble_eq_true rfl) rfl rfl rfl rfl (by decide) rfl (fun v1 f1 hp => ?_)
          obtain ⟨rfl, rfl⟩ := hp
          show G g E _ _ _ [(wShelf g a L ln (up tp9 i r_73) (up rd9 i rr9_73) cnt era nws), (wRules g ru kd9_73 fi9_73 se9_73 sg9_73 le9_73 de9_73 nx9_73 he9_73 ro9_73 rc9_73 re8 rr9_73), (wMain g x tpa (a 0) da pa qa (ru 0) wa sa bka taped told)] 93 [(3, .int (iI r_73)), (0, .ref x), (1, .int (iI v)), (2, .int (iI i))] []
          refine r_iinc 96 hE 3 (i + 1) [(2, .int (iI (i + 1))), (3, .int (iI r_73)), (0, .ref x), (1, .int (iI v))] dX8_settle_93 rfl rfl rfl (by decide) rfl ?_
          refine r_goto 38 hE dX8_settle_96 (by decide) ?_
          refine G.to (fs' := [(wMain g x tpa (a 0) da pa qa (ru 0) wa sa bka taped told), (wShelf g a L ln (up tp9 i r_73) (up rd9 i rr9_73) cnt era nws), (wRules g ru kd9_73 fi9_73 se9_73 sg9_73 le9_73 de9_73 nx9_73 he9_73 ro9_73 rc9_73 re8 rr9_73)]) (lv' := [(0, .ref x), (1, .int (iI v)), (2, .int (iI (i + 1)))]) [2, 0, 1] [2, 3, 0] rfl rfl rfl ?_
          exact ih38 kd9_73 fi9_73 se9_73 sg9_73 le9_73 de9_73 nx9_73 he9_73 rc9_73 _ ro9_73 rr9_73 (up tp9 i r_73) (up rd9 i rr9_73) (i + 1) (by first | exact h73_0 | exact hT8) (by omega) (by first | exact hrc2 | (rw [sumF_0]; omega)) (by first | exact hag2 | exact (fun _ _ _ => rfl)) (by first | exact htp2 | exact (fun t a b => absurd b (by omega))) (by first | exact hne | exact c32) (hrm8) (by omega)
    refine r_aload_n 19 hE 0 dX8_settle_18 rfl rfl rfl ?_
    refine r_get 22 hE 0 0 ok8 4 dX8_settle_19 rfl wd_301 rfl rfl (by decide) rfl ?_
    refine r_get 25 hE 1 0 ok5 5 dX8_settle_22 rfl wd_86 rfl rfl (by decide) rfl ?_
    refine r_aload_n 26 hE 0 dX8_settle_25 rfl rfl rfl ?_
    refine r_get 29 hE 0 0 ok8 9 dX8_settle_26 rfl wd_306 rfl rfl (by decide) rfl ?_
    refine r_get 32 hE 2 0 ok3 10 dX8_settle_29 rfl wd_224 rfl rfl (by decide) rfl ?_
    refine r_icmp_ne 35 36 hE dX8_settle_32 rfl (by decide) (by omega) (fun c32 => ?_) (fun c32 => ?_)
    · skip
      have hrm8 : rc8 + sumF ln cnt ≤ 10240 := by have := hroom (by omega) (by omega); omega
      refine r_iconst 37 hE dX8_settle_36 rfl ?_
      refine r_istore_n 38 hE [(2, .int (iI 0)), (0, .ref x), (1, .int (iI v))] dX8_settle_37 rfl rfl (by decide) rfl ?_
      refine G.to (fs' := [(wMain g x tpa (a 0) da pa qa (ru 0) wa sa bka taped told), (wShelf g a L ln tp rd cnt era nws), (wRules g ru kd fi se sg le de nx he8 ro rc8 re8 rr)]) (lv' := [(0, .ref x), (1, .int (iI v)), (2, .int (iI 0))]) [0, 1, 2] [1, 2, 0] rfl rfl rfl ?_
      exact cut38 _ kd fi se sg le de nx he8 rc8 _ ro rr tp rd 0 (by first | exact h73_0 | exact hT8) (by omega) (by first | exact hrc2 | (rw [sumF_0]; omega)) (by first | exact hag2 | exact (fun _ _ _ => rfl)) (by first | exact htp2 | exact (fun t a b => absurd b (by omega))) (by first | exact hne | exact c32) (hrm8) (Nat.lt_succ_self _)
    · skip
      refine r_return hE hR [(wMain g x tpa (a 0) da pa qa (ru 0) wa sa bka taped told), (wShelf g a L ln tp rd cnt era nws), (wRules g ru kd fi se sg le de nx he8 ro rc8 re8 rr)] dX8_settle_35 (Nat.le_of_ble_eq_true rfl) (Nat.le_of_ble_eq_true rfl) rfl ?_
      have hre8 : re8 = re := by omega
      have hrc8 : rc8 = rc := by omega
      subst hre8
      exact ⟨kd, fi, se, sg, le, de, nx, he8, rc8, R, ro, re8, rr, tp, rd, rfl, by rw [c32], hT8, by rw [hrc8]; exact hto c32, rfl, by omega, fun _ _ _ => rfl⟩
  refine r_aload_n 1 hE 0 dX8_settle_0 rfl rfl rfl ?_
  refine r_get 4 hE 0 0 ok8 9 dX8_settle_1 rfl wd_306 rfl rfl (by decide) rfl ?_
  refine r_callV 7 hE [2] [0, 1] [(wRules g ru kd fi se sg le de nx he ro rc re rr)] [(wMain g x tpa (a 0) da pa qa (ru 0) wa sa bka taped told), (wShelf g a L ln tp rd cnt era nws)] 0 3 ok3 [] (c_X3_room) dX8_settle_4 rfl rfl wd_622 wd_623 wd_624 wd_9 wd_625 ne_X3 np_X3_room (Nat.le_of_ble_eq_true rfl)  (by decide) (by decide) rfl (Nat.le_of_ble_eq_true rfl) rfl rfl rfl rfl (by decide) rfl (fun v1 f1 hp => ?_)
  obtain ⟨rfl, rfl⟩ := hp
  show G g E _ _ _ [(wRules g ru kd fi se sg le de nx he ro rc re rr), (wMain g x tpa (a 0) da pa qa (ru 0) wa sa bka taped told), (wShelf g a L ln tp rd cnt era nws)] 7 [(0, .ref x), (1, .int (iI v))] [.int (iI (10240 - rc))]
  refine r_iload_n 8 hE 1 dX8_settle_7 rfl rfl rfl ?_
  refine r_icmp_ge 11 18 hE dX8_settle_8 rfl (by decide) (by omega) (fun c8 => ?_) (fun c8 => ?_)
  · skip
    refine G.to (fs' := [(wMain g x tpa (a 0) da pa qa (ru 0) wa sa bka taped told), (wShelf g a L ln tp rd cnt era nws), (wRules g ru kd fi se sg le de nx he ro rc re rr)]) (lv' := [(0, .ref x), (1, .int (iI v))]) [1, 2, 0] [0, 1] rfl rfl rfl ?_
    exact cut18 he rc re (by first | exact hT | exact h15_0) (by omega)
  · skip
    omega
set_option maxHeartbeats 4000000 in
set_option maxRecDepth 100000 in
theorem c_X0_read {g : Gm} {k : Nat → Nat} {tpa : Nat} {kk kp kn : Int → Int} {sz kc fg ps : Int} {tf : Int → Int} {bk : Nat → Nat} {eo es ep : Int → Int} {dp ss pp sg us fk fp : Int} {a : Nat → Nat} {L ln tp rd : Int → Int} {cnt era nws : Int} {r : Nat → Nat} {m : Nat} {RL : Int → Int} {rlen : Int} {v : Int} (hv : 0 ≤ v ∧ v ≤ 900) (hTB : BR tf) (hB : BR L) (hm48 : (m : Int) = 4800) (hBR : BR RL) (hEo : R32 eo) : Ct g 8 0 0 yX0_read cX0_read 3 none [.ref (bk 0), .int (iI v)] [(wBook g bk (k 0) (a 0) (r 0) eo es ep dp ss pp sg us fk fp), (wTok g k tpa kk kp kn sz kc fg ps), (wBytes g tpa 900 tf), (wShelf g a L ln tp rd cnt era nws), (wRow g r m RL rlen)] (fun v_ w_ => ∃ RL9 : Int → Int, ∃ rl9 : Int, ∃ fg9 : Int, ∃ ps9 : Int, ∃ fk9 : Int, ∃ fp9 : Int, ∃ eo9 : Int → Int, ∃ es9 : Int → Int, ∃ ep9 : Int → Int, ∃ dp9 : Int, ∃ ss9 : Int, ∃ pp9 : Int, ∃ sg9 : Int, ∃ L9 : Int → Int, ∃ ln9 : Int → Int, ∃ cnt9 : Int, ∃ kk9 : Int → Int, ∃ kp9 : Int → Int, ∃ kn9 : Int → Int, ∃ kc9 : Int, v_ = none ∧ w_ = [(wBook g bk (k 0) (a 0) (r 0) eo9 es9 ep9 dp9 ss9 pp9 sg9 1 fk9 fp9), (wTok g k tpa kk9 kp9 kn9 v kc9 fg9 ps9), (wBytes g tpa 900 tf), (wShelf g a L9 ln9 tp rd cnt9 era nws), (wRow g r m RL9 rl9)] ∧ ((bookE (bkOf tf v) 901 [] 0 = .ok (tsOf L9 ln9 cnt9) ∧ fk9 = 0) ∨ (bookE (bkOf tf v) 901 [] 0 = .error (fk9, fp9) ∧ fk9 ≠ 0)) ∧ (ShOk L9 ln9 cnt9) ∧ (BR RL9) ∧ (R32 eo9) ∧ (-1 ≤ fk9 ∧ fk9 ≤ 9)) := by
  refine Ct.of (by decide) (Nat.le_of_ble_eq_true rfl) (lv := [(0, .ref (bk 0)), (1, .int (iI v))]) rfl ?_
  intro E hE hR hnm
  have cut33 : ∀ (N : Nat) (RL9 : Int → Int) (rl9 : Int) (fg9 : Int) (ps9 : Int) (fk9 : Int) (fp9 : Int) (eo9 : Int → Int) (es9 : Int → Int) (ep9 : Int → Int) (dp9 : Int) (ss9 : Int) (pp9 : Int) (sg9 : Int) (L9 : Int → Int) (ln9 : Int → Int) (cnt9 : Int) (kk9 : Int → Int) (kp9 : Int → Int) (kn9 : Int → Int) (kc9 : Int) (i : Int), (TkG tf v kk9 kp9 kn9 kc9) → (ShOk L9 ln9 cnt9) → (0 ≤ fg9 ∧ fg9 < kc9) → (-1 ≤ fk9 ∧ fk9 ≤ 9) → (BR RL9) → (R32 eo9) → (0 ≤ i ∧ i ≤ 901) → (fk9 = 0 → bookE (bkOf tf v) 901 [] 0 = bookE (bkOf tf v) (901 - i).toNat (tsOf L9 ln9 cnt9) fg9.toNat ∧ i ≤ fg9) → (fk9 ≠ 0 → bookE (bkOf tf v) 901 [] 0 = .error (fk9, fp9)) → (902 - i).toNat < N → G g E 3 0 0 [(wBook g bk (k 0) (a 0) (r 0) eo9 es9 ep9 dp9 ss9 pp9 sg9 1 fk9 fp9), (wTok g k tpa kk9 kp9 kn9 v kc9 fg9 ps9), (wBytes g tpa 900 tf), (wShelf g a L9 ln9 tp rd cnt9 era nws), (wRow g r m RL9 rl9)] 33 [(0, .ref (bk 0)), (1, .int (iI v)), (2, .int (iI i))] [] := by
    intro N
    induction N with
    | zero => intro RL9 rl9 fg9 ps9 fk9 fp9 eo9 es9 ep9 dp9 ss9 pp9 sg9 L9 ln9 cnt9 kk9 kp9 kn9 kc9 i _ _ _ _ _ _ _ _ _ hN; exact absurd hN (Nat.not_lt_zero _)
    | succ N ih33 =>
      intro RL9 rl9 fg9 ps9 fk9 fp9 eo9 es9 ep9 dp9 ss9 pp9 sg9 L9 ln9 cnt9 kk9 kp9 kn9 kc9 i hK8 hsh9 hg9 hfk9 hB9 hE9 hi hA hX hN
      have hkc := hK8.1
      have hat := hK8.at hg9
      refine r_iload_n 34 hE 2 dX0_read_33 rfl rfl rfl ?_
      refine r_sipush 37 hE dX0_read_34 rfl (by decide) ?_
      refine r_icmp_gt 40 67 hE dX0_read_37 rfl (by decide) (by omega) (fun c37 => ?_) (fun c37 => ?_)
      · skip
        refine r_return hE hR [(wBook g bk (k 0) (a 0) (r 0) eo9 es9 ep9 dp9 ss9 pp9 sg9 1 fk9 fp9), (wTok g k tpa kk9 kp9 kn9 v kc9 fg9 ps9), (wBytes g tpa 900 tf), (wShelf g a L9 ln9 tp rd cnt9 era nws), (wRow g r m RL9 rl9)] dX0_read_67 (Nat.le_of_ble_eq_true rfl) (Nat.le_of_ble_eq_true rfl) rfl ?_
        by_cases q : fk9 = 0
        · have hA1 := hA q
          first
            | (exfalso; omega)
            | exact ⟨_, _, _, _, _, _, _, _, _, _, _, _, _, _, _, _, _, _, _, _, rfl, rfl, Or.inl ⟨by rw [hA1.1, book_end (by omega) (by rw [← hat.1.1]; exact c54)], q⟩, hsh9, hB9, hE9, hfk9⟩
        · exact ⟨_, _, _, _, _, _, _, _, _, _, _, _, _, _, _, _, _, _, _, _, rfl, rfl, Or.inr ⟨hX q, q⟩, hsh9, hB9, hE9, hfk9⟩
      · skip
        refine r_aload_n 41 hE 0 dX0_read_40 rfl rfl rfl ?_
        refine r_get 44 hE 0 0 ok0 11 dX0_read_41 rfl wd_138 rfl rfl (by decide) rfl ?_
        refine r_if_ne 47 67 hE dX0_read_44 rfl (by decide) (by omega) (fun c44 => ?_) (fun c44 => ?_)
        · skip
          refine r_return hE hR [(wBook g bk (k 0) (a 0) (r 0) eo9 es9 ep9 dp9 ss9 pp9 sg9 1 fk9 fp9), (wTok g k tpa kk9 kp9 kn9 v kc9 fg9 ps9), (wBytes g tpa 900 tf), (wShelf g a L9 ln9 tp rd cnt9 era nws), (wRow g r m RL9 rl9)] dX0_read_67 (Nat.le_of_ble_eq_true rfl) (Nat.le_of_ble_eq_true rfl) rfl ?_
          by_cases q : fk9 = 0
          · have hA1 := hA q
            first
              | (exfalso; omega)
              | exact ⟨_, _, _, _, _, _, _, _, _, _, _, _, _, _, _, _, _, _, _, _, rfl, rfl, Or.inl ⟨by rw [hA1.1, book_end (by omega) (by rw [← hat.1.1]; exact c54)], q⟩, hsh9, hB9, hE9, hfk9⟩
          · exact ⟨_, _, _, _, _, _, _, _, _, _, _, _, _, _, _, _, _, _, _, _, rfl, rfl, Or.inr ⟨hX q, q⟩, hsh9, hB9, hE9, hfk9⟩
        · skip
          refine r_aload_n 48 hE 0 dX0_read_47 rfl rfl rfl ?_
          refine r_get 51 hE 0 0 ok0 0 dX0_read_48 rfl wd_124 rfl rfl (by decide) rfl ?_
          refine r_callV 54 hE [1] [0, 2, 3, 4] [(wTok g k tpa kk9 kp9 kn9 v kc9 fg9 ps9)] [(wBook g bk (k 0) (a 0) (r 0) eo9 es9 ep9 dp9 ss9 pp9 sg9 1 fk9 fp9), (wBytes g tpa 900 tf), (wShelf g a L9 ln9 tp rd cnt9 era nws), (wRow g r m RL9 rl9)] 0 6 ok6 [] (c_X6_kind (by omega)) dX0_read_51 rfl rfl wd_507 wd_508 wd_509 wd_3 wd_510 ne_X6 np_X6_kind (Nat.le_of_ble_eq_true rfl)  (by decide) (by decide) rfl (Nat.le_of_ble_eq_true rfl) rfl rfl rfl rfl (by decide) rfl (fun v1 f1 hp => ?_)
          obtain ⟨rfl, rfl⟩ := hp
          show G g E _ _ _ [(wTok g k tpa kk9 kp9 kn9 v kc9 fg9 ps9), (wBook g bk (k 0) (a 0) (r 0) eo9 es9 ep9 dp9 ss9 pp9 sg9 1 fk9 fp9), (wBytes g tpa 900 tf), (wShelf g a L9 ln9 tp rd cnt9 era nws), (wRow g r m RL9 rl9)] 54 [(0, .ref (bk 0)), (1, .int (iI v)), (2, .int (iI i))] [.int (iI (kk9 fg9))]
          refine r_if_eq 57 67 hE dX0_read_54 rfl (by decide) (by omega) (fun c54 => ?_) (fun c54 => ?_)
          · skip
            refine G.to (fs' := [(wBook g bk (k 0) (a 0) (r 0) eo9 es9 ep9 dp9 ss9 pp9 sg9 1 fk9 fp9), (wTok g k tpa kk9 kp9 kn9 v kc9 fg9 ps9), (wBytes g tpa 900 tf), (wShelf g a L9 ln9 tp rd cnt9 era nws), (wRow g r m RL9 rl9)]) [1, 0, 2, 3, 4] [0, 1, 2] rfl rfl rfl ?_
            refine r_return hE hR [(wBook g bk (k 0) (a 0) (r 0) eo9 es9 ep9 dp9 ss9 pp9 sg9 1 fk9 fp9), (wTok g k tpa kk9 kp9 kn9 v kc9 fg9 ps9), (wBytes g tpa 900 tf), (wShelf g a L9 ln9 tp rd cnt9 era nws), (wRow g r m RL9 rl9)] dX0_read_67 (Nat.le_of_ble_eq_true rfl) (Nat.le_of_ble_eq_true rfl) rfl ?_
            by_cases q : fk9 = 0
            · have hA1 := hA q
              first
                | (exfalso; omega)
                | exact ⟨_, _, _, _, _, _, _, _, _, _, _, _, _, _, _, _, _, _, _, _, rfl, rfl, Or.inl ⟨by rw [hA1.1, book_end (by omega) (by rw [← hat.1.1]; exact c54)], q⟩, hsh9, hB9, hE9, hfk9⟩
            · exact ⟨_, _, _, _, _, _, _, _, _, _, _, _, _, _, _, _, _, _, _, _, rfl, rfl, Or.inr ⟨hX q, q⟩, hsh9, hB9, hE9, hfk9⟩
          · skip
            refine r_aload_n 58 hE 0 dX0_read_57 rfl rfl rfl ?_
            refine r_callV 61 hE [1, 0, 2, 3, 4] [] [(wBook g bk (k 0) (a 0) (r 0) eo9 es9 ep9 dp9 ss9 pp9 sg9 1 fk9 fp9), (wTok g k tpa kk9 kp9 kn9 v kc9 fg9 ps9), (wBytes g tpa 900 tf), (wShelf g a L9 ln9 tp rd cnt9 era nws), (wRow g r m RL9 rl9)] [] 0 0 ok0 [] (c_X0_readLine (hK8) (by omega) (by omega) (hsh9) (hm48) (hB9) (hE9)) dX0_read_58 rfl rfl wd_511 wd_513 ws_9 wd_2 wd_514 ne_X0 np_X0_readLine (Nat.le_of_ble_eq_true rfl)  (by decide) (by decide) rfl (Nat.le_of_ble_eq_true rfl) rfl rfl rfl rfl (by decide) rfl (fun v1 f1 hp => ?_)
            obtain ⟨RL9_58, rl9_58, fg9_58, ps9_58, fk9_58, fp9_58, eo9_58, es9_58, ep9_58, dp9_58, ss9_58, pp9_58, sg9_58, L9_58, ln9_58, cnt9_58, rfl, rfl, h58_0, h58_1, h58_2, h58_3, h58_4, h58_5⟩ := hp
            show G g E _ _ _ [(wBook g bk (k 0) (a 0) (r 0) eo9_58 es9_58 ep9_58 dp9_58 ss9_58 pp9_58 sg9_58 1 fk9_58 fp9_58), (wTok g k tpa kk9 kp9 kn9 v kc9 fg9_58 ps9_58), (wBytes g tpa 900 tf), (wShelf g a L9_58 ln9_58 tp rd cnt9_58 era nws), (wRow g r m RL9_58 rl9_58)] 61 [(0, .ref (bk 0)), (1, .int (iI v)), (2, .int (iI i))] []
            have hA1 := hA c44
            have hk0 : (bkOf tf v).K fg9.toNat ≠ 0 := by rw [← hat.1.1]; exact c54
            have hA2 : fk9_58 = 0 → bookE (bkOf tf v) 901 [] 0 = bookE (bkOf tf v) (901 - (i + 1)).toNat (tsOf L9_58 ln9_58 cnt9_58) fg9_58.toNat ∧ i + 1 ≤ fg9_58 := by
              intro q
              rcases h58_0 with z | z
              · refine ⟨?_, by omega⟩
                rw [hA1.1, book_line (by omega) hk0 z.1, show (901 - i).toNat - 1 = (901 - (i + 1)).toNat by omega]
              · exact absurd q z.2
            have hX2 : fk9_58 ≠ 0 → bookE (bkOf tf v) 901 [] 0 = .error (fk9_58, fp9_58) := by
              intro q
              rcases h58_0 with z | z
              · exact absurd z.2.1 q
              · rw [hA1.1, book_er (by omega) hk0 z.1]
            refine r_iinc 64 hE 2 (i + 1) [(2, .int (iI (i + 1))), (0, .ref (bk 0)), (1, .int (iI v))] dX0_read_61 rfl rfl rfl (by decide) rfl ?_
            refine r_goto 33 hE dX0_read_64 (by decide) ?_
            refine G.to (fs' := [(wBook g bk (k 0) (a 0) (r 0) eo9_58 es9_58 ep9_58 dp9_58 ss9_58 pp9_58 sg9_58 1 fk9_58 fp9_58), (wTok g k tpa kk9 kp9 kn9 v kc9 fg9_58 ps9_58), (wBytes g tpa 900 tf), (wShelf g a L9_58 ln9_58 tp rd cnt9_58 era nws), (wRow g r m RL9_58 rl9_58)]) (lv' := [(0, .ref (bk 0)), (1, .int (iI v)), (2, .int (iI (i + 1)))]) [0, 1, 2, 3, 4] [1, 2, 0] rfl rfl rfl ?_
            exact ih33 RL9_58 rl9_58 fg9_58 ps9_58 fk9_58 fp9_58 eo9_58 es9_58 ep9_58 dp9_58 ss9_58 pp9_58 sg9_58 L9_58 ln9_58 cnt9_58 kk9 kp9 kn9 kc9 (i + 1) (by first | exact hK0 | exact hK8) (by first | exact h58_1 | exact hsh0) (by first | exact h58_2 | omega) (by first | exact h58_3 | omega) (by first | exact h58_4 | exact hBR) (by first | exact h58_5 | exact hEo) (by omega) (by first | exact hA2 | exact (fun _ => ⟨rfl, by omega⟩)) (by first | exact hX2 | exact (fun z => absurd rfl z)) (by omega)
  refine r_aload_n 1 hE 0 dX0_read_0 rfl rfl rfl ?_
  refine r_iconst 2 hE dX0_read_1 rfl ?_
  refine r_put 5 hE 0 0 ok0 10 (wBook g bk (k 0) (a 0) (r 0) eo es ep dp ss pp sg 1 fk fp) [(wBook g bk (k 0) (a 0) (r 0) eo es ep dp ss pp sg 1 fk fp), (wTok g k tpa kk kp kn sz kc fg ps), (wBytes g tpa 900 tf), (wShelf g a L ln tp rd cnt era nws), (wRow g r m RL rlen)] dX0_read_2 rfl wd_136 rfl rfl (by decide) rfl rfl rfl (Nat.le_of_ble_eq_true rfl) rfl rfl ?_
  refine r_aload_n 6 hE 0 dX0_read_5 rfl rfl rfl ?_
  refine r_iconst 7 hE dX0_read_6 rfl ?_
  refine r_put 10 hE 0 0 ok0 11 (wBook g bk (k 0) (a 0) (r 0) eo es ep dp ss pp sg 1 0 fp) [(wBook g bk (k 0) (a 0) (r 0) eo es ep dp ss pp sg 1 0 fp), (wTok g k tpa kk kp kn sz kc fg ps), (wBytes g tpa 900 tf), (wShelf g a L ln tp rd cnt era nws), (wRow g r m RL rlen)] dX0_read_7 rfl wd_138 rfl rfl (by decide) rfl rfl rfl (Nat.le_of_ble_eq_true rfl) rfl rfl ?_
  refine r_aload_n 11 hE 0 dX0_read_10 rfl rfl rfl ?_
  refine r_iconst 12 hE dX0_read_11 rfl ?_
  refine r_put 15 hE 0 0 ok0 12 (wBook g bk (k 0) (a 0) (r 0) eo es ep dp ss pp sg 1 0 (-1)) [(wBook g bk (k 0) (a 0) (r 0) eo es ep dp ss pp sg 1 0 (-1)), (wTok g k tpa kk kp kn sz kc fg ps), (wBytes g tpa 900 tf), (wShelf g a L ln tp rd cnt era nws), (wRow g r m RL rlen)] dX0_read_12 rfl wd_140 rfl rfl (by decide) rfl rfl rfl (Nat.le_of_ble_eq_true rfl) rfl rfl ?_
  refine r_aload_n 16 hE 0 dX0_read_15 rfl rfl rfl ?_
  refine r_get 19 hE 0 0 ok0 1 dX0_read_16 rfl wd_126 rfl rfl (by decide) rfl ?_
  refine r_iconst 20 hE dX0_read_19 rfl ?_
  refine r_put 23 hE 3 0 ok5 4 (wShelf g a L ln tp rd 0 era nws) [(wBook g bk (k 0) (a 0) (r 0) eo es ep dp ss pp sg 1 0 (-1)), (wTok g k tpa kk kp kn sz kc fg ps), (wBytes g tpa 900 tf), (wShelf g a L ln tp rd 0 era nws), (wRow g r m RL rlen)] dX0_read_20 rfl wd_83 rfl rfl (by decide) rfl rfl rfl (Nat.le_of_ble_eq_true rfl) rfl rfl ?_
  refine r_aload_n 24 hE 0 dX0_read_23 rfl rfl rfl ?_
  refine r_get 27 hE 0 0 ok0 0 dX0_read_24 rfl wd_124 rfl rfl (by decide) rfl ?_
  refine r_iload_n 28 hE 1 dX0_read_27 rfl rfl rfl ?_
  refine r_callV 31 hE [1, 2] [0, 3, 4] [(wTok g k tpa kk kp kn sz kc fg ps), (wBytes g tpa 900 tf)] [(wBook g bk (k 0) (a 0) (r 0) eo es ep dp ss pp sg 1 0 (-1)), (wShelf g a L ln tp rd 0 era nws), (wRow g r m RL rlen)] 0 6 ok6 [] (c_X6_cut (by omega) (hTB)) dX0_read_28 rfl rfl wd_355 wd_356 wd_357 wd_3 wd_358 ne_X6 np_X6_cut (Nat.le_of_ble_eq_true rfl)  (by decide) (by decide) rfl (Nat.le_of_ble_eq_true rfl) rfl rfl rfl rfl (by decide) rfl (fun v1 f1 hp => ?_)
  obtain ⟨kk9_28, kp9_28, kn9_28, kc9_28, rfl, rfl, h28_0, h28_1, h28_2, h28_3⟩ := hp
  show G g E _ _ _ [(wTok g k tpa kk9_28 kp9_28 kn9_28 v kc9_28 0 (-1)), (wBytes g tpa 900 tf), (wBook g bk (k 0) (a 0) (r 0) eo es ep dp ss pp sg 1 0 (-1)), (wShelf g a L ln tp rd 0 era nws), (wRow g r m RL rlen)] 31 [(0, .ref (bk 0)), (1, .int (iI v))] []
  have hK0 : TkG tf v kk9_28 kp9_28 kn9_28 kc9_28 := ⟨h28_0, h28_1, h28_2, by omega, hTB⟩
  have hsh0 : ShOk L ln 0 := ⟨by omega, hB, fun t a b => absurd b (by omega)⟩
  refine r_iconst 32 hE dX0_read_31 rfl ?_
  refine r_istore_n 33 hE [(2, .int (iI 0)), (0, .ref (bk 0)), (1, .int (iI v))] dX0_read_32 rfl rfl (by decide) rfl ?_
  refine G.to (fs' := [(wBook g bk (k 0) (a 0) (r 0) eo es ep dp ss pp sg 1 0 (-1)), (wTok g k tpa kk9_28 kp9_28 kn9_28 v kc9_28 0 (-1)), (wBytes g tpa 900 tf), (wShelf g a L ln tp rd 0 era nws), (wRow g r m RL rlen)]) (lv' := [(0, .ref (bk 0)), (1, .int (iI v)), (2, .int (iI 0))]) [2, 0, 1, 3, 4] [1, 2, 0] rfl rfl rfl ?_
  exact cut33 _ RL rlen 0 (-1) 0 (-1) eo es ep dp ss pp sg L ln 0 kk9_28 kp9_28 kn9_28 kc9_28 0 (by first | exact hK0 | exact hK8) (by first | exact h58_1 | exact hsh0) (by first | exact h58_2 | omega) (by first | exact h58_3 | omega) (by first | exact h58_4 | exact hBR) (by first | exact h58_5 | exact hEo) (by omega) (by first | exact hA2 | exact (fun _ => ⟨rfl, by omega⟩)) (by first | exact hX2 | exact (fun z => absurd rfl z)) (Nat.lt_succ_self _)
set_option maxHeartbeats 4000000 in
set_option maxRecDepth 100000 in
theorem c_X8_load_no {g : Gm} {x tpa na da pa qa rua wa sa bka : Nat} {taped told : Int} {v : Int} (hv : -2147483648 ≤ v ∧ v ≤ 2147483647) (htd : 0 ≤ taped ∧ taped ≤ 900) (hno : ¬ (0 ≤ v ∧ v ≤ taped)) : Ct g 9 0 0 yX8_load cX8_load 2 (some .int) [.ref x, .int (iI v)] [(wMain g x tpa na da pa qa rua wa sa bka taped told)] (fun v_ w_ => v_ = some (.int (iI (-1))) ∧ w_ = [(wMain g x tpa na da pa qa rua wa sa bka taped 1)]) := by
  refine Ct.of (by decide) (Nat.le_of_ble_eq_true rfl) (lv := [(0, .ref x), (1, .int (iI v))]) rfl ?_
  intro E hE hR hnm
  refine r_iload_n 1 hE 1 dX8_load_0 rfl rfl rfl ?_
  refine r_if_lt 4 12 hE dX8_load_1 rfl (by decide) (by omega) (fun c1 => ?_) (fun c1 => ?_)
  · skip
    refine r_aload_n 13 hE 0 dX8_load_12 rfl rfl rfl ?_
    refine r_iconst 14 hE dX8_load_13 rfl ?_
    refine r_callV 17 hE [0] [] [(wMain g x tpa na da pa qa rua wa sa bka taped told)] [] 0 8 ok8 [] (c_X8_refuse) dX8_load_14 rfl rfl wd_347 wd_349 ws_1 wd_1 wd_350 ne_X8 np_X8_refuse (Nat.le_of_ble_eq_true rfl)  (by decide) (by decide) rfl (Nat.le_of_ble_eq_true rfl) rfl rfl rfl rfl (by decide) rfl (fun v1 f1 hp => ?_)
    obtain ⟨rfl, rfl⟩ := hp
    show G g E _ _ _ [(wMain g x tpa na da pa qa rua wa sa bka taped 1)] 17 [(0, .ref x), (1, .int (iI v))] [.int (iI (-1))]
    refine r_ireturn hE hR [(wMain g x tpa na da pa qa rua wa sa bka taped 1)] dX8_load_17 (Nat.le_of_ble_eq_true rfl) (Nat.le_of_ble_eq_true rfl) rfl ?_
    exact ⟨retI (rfl), rfl⟩
  · skip
    refine r_iload_n 5 hE 1 dX8_load_4 rfl rfl rfl ?_
    refine r_aload_n 6 hE 0 dX8_load_5 rfl rfl rfl ?_
    refine r_get 9 hE 0 0 ok8 2 dX8_load_6 rfl wd_299 rfl rfl (by decide) rfl ?_
    refine r_icmp_le 12 18 hE dX8_load_9 rfl (by decide) (by omega) (fun c9 => ?_) (fun c9 => ?_)
    · skip
      omega
    · skip
      refine r_aload_n 13 hE 0 dX8_load_12 rfl rfl rfl ?_
      refine r_iconst 14 hE dX8_load_13 rfl ?_
      refine r_callV 17 hE [0] [] [(wMain g x tpa na da pa qa rua wa sa bka taped told)] [] 0 8 ok8 [] (c_X8_refuse) dX8_load_14 rfl rfl wd_347 wd_349 ws_1 wd_1 wd_350 ne_X8 np_X8_refuse (Nat.le_of_ble_eq_true rfl)  (by decide) (by decide) rfl (Nat.le_of_ble_eq_true rfl) rfl rfl rfl rfl (by decide) rfl (fun v1 f1 hp => ?_)
      obtain ⟨rfl, rfl⟩ := hp
      show G g E _ _ _ [(wMain g x tpa na da pa qa rua wa sa bka taped 1)] 17 [(0, .ref x), (1, .int (iI v))] [.int (iI (-1))]
      refine r_ireturn hE hR [(wMain g x tpa na da pa qa rua wa sa bka taped 1)] dX8_load_17 (Nat.le_of_ble_eq_true rfl) (Nat.le_of_ble_eq_true rfl) rfl ?_
      exact ⟨retI (rfl), rfl⟩
set_option maxHeartbeats 4000000 in
set_option maxRecDepth 100000 in
theorem c_X8_load_er {g : Gm} {b : Nat → Nat} {L2 ln2 tp2 rd2 : Int → Int} {cnt2 era2 nws2 : Int} {k : Nat → Nat} {kk kp kn : Int → Int} {sz kc fg ps : Int} {tf : Int → Int} {bk : Nat → Nat} {eo es ep : Int → Int} {dp bss pp bsg us fk fp : Int} {r : Nat → Nat} {m : Nat} {RL : Int → Int} {rlen : Int} {x tpa na da pa qa rua wa sa : Nat} {taped told : Int} {v : Int} {e : Ft} (hv : 0 ≤ v ∧ v ≤ taped) (htd : 0 ≤ taped ∧ taped ≤ 900) (hTB : BR tf) (hB2 : BR L2) (hm48 : (m : Int) = 4800) (hBR : BR RL) (hEo : R32 eo) (hbe : bookE (bkOf tf v) 901 [] 0 = .error e) : Ct g 9 0 0 yX8_load cX8_load 2 (some .int) [.ref x, .int (iI v)] [(wMain g x tpa na da pa qa rua wa sa (bk 0) taped told), (wBook g bk (k 0) (b 0) (r 0) eo es ep dp bss pp bsg us fk fp), (wTok g k tpa kk kp kn sz kc fg ps), (wBytes g tpa 900 tf), (wShelf g b L2 ln2 tp2 rd2 cnt2 era2 nws2), (wRow g r m RL rlen)] (fun v_ w_ => ∃ RL9 : Int → Int, ∃ rl9 : Int, ∃ fg9 : Int, ∃ ps9 : Int, ∃ fk9 : Int, ∃ fp9 : Int, ∃ eo9 : Int → Int, ∃ es9 : Int → Int, ∃ ep9 : Int → Int, ∃ dp9 : Int, ∃ bs9 : Int, ∃ pp9 : Int, ∃ bg9 : Int, ∃ Lb : Int → Int, ∃ lnb : Int → Int, ∃ cntb : Int, ∃ kk9 : Int → Int, ∃ kp9 : Int → Int, ∃ kn9 : Int → Int, ∃ kc9 : Int, v_ = some (.int (iI (-1))) ∧ w_ = [(wMain g x tpa na da pa qa rua wa sa (bk 0) 0 9), (wBook g bk (k 0) (b 0) (r 0) eo9 es9 ep9 dp9 bs9 pp9 bg9 1 fk9 fp9), (wTok g k tpa kk9 kp9 kn9 v kc9 fg9 ps9), (wBytes g tpa 900 tf), (wShelf g b Lb lnb tp2 rd2 cntb era2 nws2), (wRow g r m RL9 rl9)] ∧ (fk9 = e.1 ∧ fp9 = e.2) ∧ (ShOk Lb lnb cntb) ∧ (BR RL9) ∧ (R32 eo9) ∧ (-1 ≤ fk9 ∧ fk9 ≤ 9)) := by
  refine Ct.of (by decide) (Nat.le_of_ble_eq_true rfl) (lv := [(0, .ref x), (1, .int (iI v))]) rfl ?_
  intro E hE hR hnm
  refine r_iload_n 1 hE 1 dX8_load_0 rfl rfl rfl ?_
  refine r_if_lt 4 12 hE dX8_load_1 rfl (by decide) (by omega) (fun c1 => ?_) (fun c1 => ?_)
  · skip
    omega
  · skip
    refine r_iload_n 5 hE 1 dX8_load_4 rfl rfl rfl ?_
    refine r_aload_n 6 hE 0 dX8_load_5 rfl rfl rfl ?_
    refine r_get 9 hE 0 0 ok8 2 dX8_load_6 rfl wd_299 rfl rfl (by decide) rfl ?_
    refine r_icmp_le 12 18 hE dX8_load_9 rfl (by decide) (by omega) (fun c9 => ?_) (fun c9 => ?_)
    · skip
      refine r_aload_n 19 hE 0 dX8_load_18 rfl rfl rfl ?_
      refine r_iconst 20 hE dX8_load_19 rfl ?_
      refine r_put 23 hE 0 0 ok8 2 (wMain g x tpa na da pa qa rua wa sa (bk 0) 0 told) [(wMain g x tpa na da pa qa rua wa sa (bk 0) 0 told), (wBook g bk (k 0) (b 0) (r 0) eo es ep dp bss pp bsg us fk fp), (wTok g k tpa kk kp kn sz kc fg ps), (wBytes g tpa 900 tf), (wShelf g b L2 ln2 tp2 rd2 cnt2 era2 nws2), (wRow g r m RL rlen)] dX8_load_20 rfl wd_299 rfl rfl (by decide) rfl rfl rfl (Nat.le_of_ble_eq_true rfl) rfl rfl ?_
      refine r_aload_n 24 hE 0 dX8_load_23 rfl rfl rfl ?_
      refine r_get 27 hE 0 0 ok8 0 dX8_load_24 rfl wd_297 rfl rfl (by decide) rfl ?_
      refine r_iload_n 28 hE 1 dX8_load_27 rfl rfl rfl ?_
      refine r_callV 31 hE [1, 2, 3, 4, 5] [0] [(wBook g bk (k 0) (b 0) (r 0) eo es ep dp bss pp bsg us fk fp), (wTok g k tpa kk kp kn sz kc fg ps), (wBytes g tpa 900 tf), (wShelf g b L2 ln2 tp2 rd2 cnt2 era2 nws2), (wRow g r m RL rlen)] [(wMain g x tpa na da pa qa rua wa sa (bk 0) 0 told)] 0 0 ok0 [] (c_X0_read (by omega) (hTB) (hB2) (hm48) (hBR) (hEo)) dX8_load_28 rfl rfl wd_351 wd_352 wd_353 wd_2 wd_354 ne_X0 np_X0_read (Nat.le_of_ble_eq_true rfl)  (by decide) (by decide) rfl (Nat.le_of_ble_eq_true rfl) rfl rfl rfl rfl (by decide) rfl (fun v1 f1 hp => ?_)
      obtain ⟨RL9_28, rl9_28, fg9_28, ps9_28, fk9_28, fp9_28, eo9_28, es9_28, ep9_28, dp9_28, ss9_28, pp9_28, sg9_28, L9_28, ln9_28, cnt9_28, kk9_28, kp9_28, kn9_28, kc9_28, rfl, rfl, h28_0, h28_1, h28_2, h28_3, h28_4⟩ := hp
      show G g E _ _ _ [(wBook g bk (k 0) (b 0) (r 0) eo9_28 es9_28 ep9_28 dp9_28 ss9_28 pp9_28 sg9_28 1 fk9_28 fp9_28), (wTok g k tpa kk9_28 kp9_28 kn9_28 v kc9_28 fg9_28 ps9_28), (wBytes g tpa 900 tf), (wShelf g b L9_28 ln9_28 tp2 rd2 cnt9_28 era2 nws2), (wRow g r m RL9_28 rl9_28), (wMain g x tpa na da pa qa rua wa sa (bk 0) 0 told)] 31 [(0, .ref x), (1, .int (iI v))] []
      have her : (fk9_28, fp9_28) = e ∧ fk9_28 ≠ 0 := by
        rcases h28_0 with z | z
        · rw [hbe] at z; cases z.1
        · refine ⟨?_, z.2⟩; have h9 := z.1; rw [hbe] at h9; exact (Except.error.inj h9).symm
      refine r_aload_n 32 hE 0 dX8_load_31 rfl rfl rfl ?_
      refine r_get 35 hE 5 0 ok8 0 dX8_load_32 rfl wd_297 rfl rfl (by decide) rfl ?_
      refine r_get 38 hE 0 0 ok0 11 dX8_load_35 rfl wd_139 rfl rfl (by decide) rfl ?_
      refine r_if_eq 41 48 hE dX8_load_38 rfl (by decide) (by omega) (fun c38 => ?_) (fun c38 => ?_)
      · skip
        exact absurd c38 her.2
      · skip
        refine r_aload_n 42 hE 0 dX8_load_41 rfl rfl rfl ?_
        refine r_bipush 44 hE dX8_load_42 rfl (by decide) ?_
        refine r_callV 47 hE [5] [0, 1, 2, 3, 4] [(wMain g x tpa na da pa qa rua wa sa (bk 0) 0 told)] [(wBook g bk (k 0) (b 0) (r 0) eo9_28 es9_28 ep9_28 dp9_28 ss9_28 pp9_28 sg9_28 1 fk9_28 fp9_28), (wTok g k tpa kk9_28 kp9_28 kn9_28 v kc9_28 fg9_28 ps9_28), (wBytes g tpa 900 tf), (wShelf g b L9_28 ln9_28 tp2 rd2 cnt9_28 era2 nws2), (wRow g r m RL9_28 rl9_28)] 0 8 ok8 [] (c_X8_refuse) dX8_load_44 rfl rfl wd_347 wd_349 ws_1 wd_1 wd_350 ne_X8 np_X8_refuse (Nat.le_of_ble_eq_true rfl)  (by decide) (by decide) rfl (Nat.le_of_ble_eq_true rfl) rfl rfl rfl rfl (by decide) rfl (fun v1 f1 hp => ?_)
        obtain ⟨rfl, rfl⟩ := hp
        show G g E _ _ _ [(wMain g x tpa na da pa qa rua wa sa (bk 0) 0 9), (wBook g bk (k 0) (b 0) (r 0) eo9_28 es9_28 ep9_28 dp9_28 ss9_28 pp9_28 sg9_28 1 fk9_28 fp9_28), (wTok g k tpa kk9_28 kp9_28 kn9_28 v kc9_28 fg9_28 ps9_28), (wBytes g tpa 900 tf), (wShelf g b L9_28 ln9_28 tp2 rd2 cnt9_28 era2 nws2), (wRow g r m RL9_28 rl9_28)] 47 [(0, .ref x), (1, .int (iI v))] [.int (iI (-1))]
        refine r_ireturn hE hR [(wMain g x tpa na da pa qa rua wa sa (bk 0) 0 9), (wBook g bk (k 0) (b 0) (r 0) eo9_28 es9_28 ep9_28 dp9_28 ss9_28 pp9_28 sg9_28 1 fk9_28 fp9_28), (wTok g k tpa kk9_28 kp9_28 kn9_28 v kc9_28 fg9_28 ps9_28), (wBytes g tpa 900 tf), (wShelf g b L9_28 ln9_28 tp2 rd2 cnt9_28 era2 nws2), (wRow g r m RL9_28 rl9_28)] dX8_load_47 (Nat.le_of_ble_eq_true rfl) (Nat.le_of_ble_eq_true rfl) rfl ?_
        exact ⟨RL9_28, rl9_28, fg9_28, ps9_28, fk9_28, fp9_28, eo9_28, es9_28, ep9_28, dp9_28, ss9_28, pp9_28, sg9_28, L9_28, ln9_28, cnt9_28, kk9_28, kp9_28, kn9_28, kc9_28, rfl, rfl, ⟨congrArg Prod.fst her.1, congrArg Prod.snd her.1⟩, h28_1, h28_2, h28_3, h28_4⟩
    · skip
      omega
set_option maxHeartbeats 4000000 in
set_option maxRecDepth 100000 in
theorem c_X8_load {g : Gm} {a : Nat → Nat} {L ln tp rd : Int → Int} {cnt era nws : Int} {b : Nat → Nat} {L2 ln2 tp2 rd2 : Int → Int} {cnt2 era2 nws2 : Int} {ru : Nat → Nat} {kd fi se sg le de nx he ro : Int → Int} {rc re rr : Int} {R : Int → Rl} {w : Nat → Nat} {sp nb mt pl op no : Int → Int} {od stm wc : Int} {p : Nat → Nat} {n : Nat} {sh : Nat → Option Nat} {old cn : Int} {ad : Nat → Nat → Nat} {ss : Nat → ShS} {k : Nat → Nat} {kk kp kn : Int → Int} {sz kc fg ps : Int} {tf : Int → Int} {bk : Nat → Nat} {eo es ep : Int → Int} {dp bss pp bsg us fk fp : Int} {r : Nat → Nat} {m : Nat} {RL : Int → Int} {rlen : Int} {x tpa da qa sa : Nat} {taped told : Int} {v : Int} {T : List (List Int)} (hT : RT kd fi se sg le de nx he rc R) (hsh : ShOk L ln cnt) (hre : 0 ≤ re ∧ re ≤ 900000 ∧ -1 ≤ era ∧ era ≤ re) (hto : era = re → TopsOk R rc L ln tp rd cnt) (hce : 0 < cnt → era = re) (hWI : 0 ≤ stm ∧ ∀ i, 0 ≤ i → i < 10240 → 0 ≤ sp i ∧ sp i ≤ stm) (hs2 : stm ≤ 1500000000) (hpn : 1 ≤ (n : Int) ∧ (n : Int) ≤ 8) (hpo : 0 ≤ old ∧ old < (n : Int) ∧ 0 ≤ cn ∧ cn ≤ (n : Int)) (hsa : ∀ i, i < n → sh i = some ((ad i) 0)) (hBs : ∀ i, i < n → BR (ss i).L) (hv : 0 ≤ v ∧ v ≤ taped) (htd : 0 ≤ taped ∧ taped ≤ 900) (hTB : BR tf) (hB2 : BR L2) (hm48 : (m : Int) = 4800) (hBR : BR RL) (hEo : R32 eo) (her2 : era2 = -1) (hbe : bookE (bkOf tf v) 901 [] 0 = .ok T) : Ct g 9 0 0 yX8_load cX8_load 2 (some .int) [.ref x, .int (iI v)] [(wMain g x tpa (a 0) da (p 0) qa (ru 0) (w 0) sa (bk 0) taped told), (wShelf g a L ln tp rd cnt era nws), (wRules g ru kd fi se sg le de nx he ro rc re rr), (wWalk g w (ru 0) sp nb mt pl op no od stm wc), (wPileH g p n sh old cn), (wPool g ad ss n), (wBook g bk (k 0) (b 0) (r 0) eo es ep dp bss pp bsg us fk fp), (wTok g k tpa kk kp kn sz kc fg ps), (wBytes g tpa 900 tf), (wShelf g b L2 ln2 tp2 rd2 cnt2 era2 nws2), (wRow g r m RL rlen)] (fun v_ w_ => ∃ kd9 : Int → Int, ∃ fi9 : Int → Int, ∃ se9 : Int → Int, ∃ sg9 : Int → Int, ∃ le9 : Int → Int, ∃ de9 : Int → Int, ∃ nx9 : Int → Int, ∃ he9 : Int → Int, ∃ rc9 : Int, ∃ R9 : Int → Rl, ∃ ro9 : Int → Int, ∃ re9 : Int, ∃ rr9 : Int, ∃ tp9 : Int → Int, ∃ rd9 : Int → Int, ∃ sp9 : Int → Int, ∃ nb9 : Int → Int, ∃ mt9 : Int → Int, ∃ pl9 : Int → Int, ∃ op9 : Int → Int, ∃ no9 : Int → Int, ∃ od9 : Int, ∃ wc9 : Int, ∃ old9 : Int, ∃ cn9 : Int, ∃ i9 : Nat, ∃ Lp : Int → Int, ∃ lnp : Int → Int, ∃ tpp : Int → Int, ∃ rdp : Int → Int, ∃ news9 : Int, ∃ L9 : Int → Int, ∃ ln9 : Int → Int, ∃ cnt9 : Int, ∃ RL9 : Int → Int, ∃ rl9 : Int, ∃ fg9 : Int, ∃ ps9 : Int, ∃ fk9 : Int, ∃ fp9 : Int, ∃ eo9 : Int → Int, ∃ es9 : Int → Int, ∃ ep9 : Int → Int, ∃ dp9 : Int, ∃ bs9 : Int, ∃ pp9 : Int, ∃ bg9 : Int, ∃ Lb : Int → Int, ∃ lnb : Int → Int, ∃ cntb : Int, ∃ kk9 : Int → Int, ∃ kp9 : Int → Int, ∃ kn9 : Int → Int, ∃ kc9 : Int, v_ = some (.int (iI cnt9)) ∧ w_ = [(wMain g x tpa (a 0) da (p 0) qa (ru 0) (w 0) sa (bk 0) 0 0), (wShelf g a L9 ln9 tp9 rd9 cnt9 re9 nws), (wRules g ru kd9 fi9 se9 sg9 le9 de9 nx9 he9 ro9 rc9 re9 rr9), (wWalk g w (ru 0) sp9 nb9 mt9 pl9 op9 no9 od9 (stm + 1) wc9), (wPileH g p n sh old9 cn9), (wPool g ad (upS ss i9 (shs Lp lnp tpp rdp cnt re9 news9)) n), (wBook g bk (k 0) (b 0) (r 0) eo9 es9 ep9 dp9 bs9 pp9 bg9 1 fk9 fp9), (wTok g k tpa kk9 kp9 kn9 v kc9 fg9 ps9), (wBytes g tpa 900 tf), (wShelf g b Lb lnb tp2 rd2 cntb era2 nws2), (wRow g r m RL9 rl9)] ∧ (RT kd9 fi9 se9 sg9 le9 de9 nx9 he9 rc9 R9) ∧ ((re9 = re ∧ rc ≤ rc9 ∧ (∀ i, 0 ≤ i → i < rc → R9 i = R i)) ∨ re9 = re + 1) ∧ (0 ≤ stm + 1 ∧ ∀ i, 0 ≤ i → i < 10240 → 0 ≤ sp9 i ∧ sp9 i ≤ stm + 1) ∧ (PushIs n old cn old9 cn9 i9) ∧ (∀ t, 0 ≤ t → t < cnt → lnp t = ln t ∧ ∀ k, 0 ≤ k → k < ln t → Lp (600 * t + k) = L (600 * t + k)) ∧ (KeptOk R9 rc9 re9 (shs Lp lnp tpp rdp cnt re9 news9)) ∧ (TopsOk R9 rc9 L9 ln9 tp9 rd9 cnt9) ∧ (ShOk L9 ln9 cnt9) ∧ (NewsF (tx L) ln cnt (tx L9) ln9 cnt9 news9) ∧ (tsOf L9 ln9 cnt9 = T) ∧ (ShOk Lb lnb cntb) ∧ (BR RL9) ∧ (R32 eo9) ∧ (fk9 = 0)) := by
  refine Ct.of (by decide) (Nat.le_of_ble_eq_true rfl) (lv := [(0, .ref x), (1, .int (iI v))]) rfl ?_
  intro E hE hR hnm
  have hcn := hT.1
  have hc := hsh.1
  have hln := hsh.ln
  have hs6 := sumF_600 hln hc
  refine r_iload_n 1 hE 1 dX8_load_0 rfl rfl rfl ?_
  refine r_if_lt 4 12 hE dX8_load_1 rfl (by decide) (by omega) (fun c1 => ?_) (fun c1 => ?_)
  · skip
    omega
  · skip
    refine r_iload_n 5 hE 1 dX8_load_4 rfl rfl rfl ?_
    refine r_aload_n 6 hE 0 dX8_load_5 rfl rfl rfl ?_
    refine r_get 9 hE 0 0 ok8 2 dX8_load_6 rfl wd_299 rfl rfl (by decide) rfl ?_
    refine r_icmp_le 12 18 hE dX8_load_9 rfl (by decide) (by omega) (fun c9 => ?_) (fun c9 => ?_)
    · skip
      refine r_aload_n 19 hE 0 dX8_load_18 rfl rfl rfl ?_
      refine r_iconst 20 hE dX8_load_19 rfl ?_
      refine r_put 23 hE 0 0 ok8 2 (wMain g x tpa (a 0) da (p 0) qa (ru 0) (w 0) sa (bk 0) 0 told) [(wMain g x tpa (a 0) da (p 0) qa (ru 0) (w 0) sa (bk 0) 0 told), (wShelf g a L ln tp rd cnt era nws), (wRules g ru kd fi se sg le de nx he ro rc re rr), (wWalk g w (ru 0) sp nb mt pl op no od stm wc), (wPileH g p n sh old cn), (wPool g ad ss n), (wBook g bk (k 0) (b 0) (r 0) eo es ep dp bss pp bsg us fk fp), (wTok g k tpa kk kp kn sz kc fg ps), (wBytes g tpa 900 tf), (wShelf g b L2 ln2 tp2 rd2 cnt2 era2 nws2), (wRow g r m RL rlen)] dX8_load_20 rfl wd_299 rfl rfl (by decide) rfl rfl rfl (Nat.le_of_ble_eq_true rfl) rfl rfl ?_
      refine r_aload_n 24 hE 0 dX8_load_23 rfl rfl rfl ?_
      refine r_get 27 hE 0 0 ok8 0 dX8_load_24 rfl wd_297 rfl rfl (by decide) rfl ?_
      refine r_iload_n 28 hE 1 dX8_load_27 rfl rfl rfl ?_
      refine r_callV 31 hE [6, 7, 8, 9, 10] [0, 1, 2, 3, 4, 5] [(wBook g bk (k 0) (b 0) (r 0) eo es ep dp bss pp bsg us fk fp), (wTok g k tpa kk kp kn sz kc fg ps), (wBytes g tpa 900 tf), (wShelf g b L2 ln2 tp2 rd2 cnt2 era2 nws2), (wRow g r m RL rlen)] [(wMain g x tpa (a 0) da (p 0) qa (ru 0) (w 0) sa (bk 0) 0 told), (wShelf g a L ln tp rd cnt era nws), (wRules g ru kd fi se sg le de nx he ro rc re rr), (wWalk g w (ru 0) sp nb mt pl op no od stm wc), (wPileH g p n sh old cn), (wPool g ad ss n)] 0 0 ok0 [] (c_X0_read (by omega) (hTB) (hB2) (hm48) (hBR) (hEo)) dX8_load_28 rfl rfl wd_351 wd_352 wd_353 wd_2 wd_354 ne_X0 np_X0_read (Nat.le_of_ble_eq_true rfl)  (by decide) (by decide) rfl (Nat.le_of_ble_eq_true rfl) rfl rfl rfl rfl (by decide) rfl (fun v1 f1 hp => ?_)
      obtain ⟨RL9_28, rl9_28, fg9_28, ps9_28, fk9_28, fp9_28, eo9_28, es9_28, ep9_28, dp9_28, ss9_28, pp9_28, sg9_28, L9_28, ln9_28, cnt9_28, kk9_28, kp9_28, kn9_28, kc9_28, rfl, rfl, h28_0, h28_1, h28_2, h28_3, h28_4⟩ := hp
      show G g E _ _ _ [(wBook g bk (k 0) (b 0) (r 0) eo9_28 es9_28 ep9_28 dp9_28 ss9_28 pp9_28 sg9_28 1 fk9_28 fp9_28), (wTok g k tpa kk9_28 kp9_28 kn9_28 v kc9_28 fg9_28 ps9_28), (wBytes g tpa 900 tf), (wShelf g b L9_28 ln9_28 tp2 rd2 cnt9_28 era2 nws2), (wRow g r m RL9_28 rl9_28), (wMain g x tpa (a 0) da (p 0) qa (ru 0) (w 0) sa (bk 0) 0 told), (wShelf g a L ln tp rd cnt era nws), (wRules g ru kd fi se sg le de nx he ro rc re rr), (wWalk g w (ru 0) sp nb mt pl op no od stm wc), (wPileH g p n sh old cn), (wPool g ad ss n)] 31 [(0, .ref x), (1, .int (iI v))] []
      have hok : bookE (bkOf tf v) 901 [] 0 = .ok (tsOf L9_28 ln9_28 cnt9_28) ∧ fk9_28 = 0 := by
        rcases h28_0 with z | z
        · exact z
        · rw [hbe] at z; cases z.1
      have hts : tsOf L9_28 ln9_28 cnt9_28 = T := by have h9 := hok.1; rw [hbe] at h9; exact (Except.ok.inj h9).symm
      refine r_aload_n 32 hE 0 dX8_load_31 rfl rfl rfl ?_
      refine r_get 35 hE 5 0 ok8 0 dX8_load_32 rfl wd_297 rfl rfl (by decide) rfl ?_
      refine r_get 38 hE 0 0 ok0 11 dX8_load_35 rfl wd_139 rfl rfl (by decide) rfl ?_
      refine r_if_eq 41 48 hE dX8_load_38 rfl (by decide) (by omega) (fun c38 => ?_) (fun c38 => ?_)
      · skip
        refine r_aload_n 49 hE 0 dX8_load_48 rfl rfl rfl ?_
        refine r_sipush 52 hE dX8_load_49 rfl (by decide) ?_
        refine r_callV 55 hE [5, 6, 7] [0, 1, 2, 3, 4, 8, 9, 10] [(wMain g x tpa (a 0) da (p 0) qa (ru 0) (w 0) sa (bk 0) 0 told), (wShelf g a L ln tp rd cnt era nws), (wRules g ru kd fi se sg le de nx he ro rc re rr)] [(wBook g bk (k 0) (b 0) (r 0) eo9_28 es9_28 ep9_28 dp9_28 ss9_28 pp9_28 sg9_28 1 fk9_28 fp9_28), (wTok g k tpa kk9_28 kp9_28 kn9_28 v kc9_28 fg9_28 ps9_28), (wBytes g tpa 900 tf), (wShelf g b L9_28 ln9_28 tp2 rd2 cnt9_28 era2 nws2), (wRow g r m RL9_28 rl9_28), (wWalk g w (ru 0) sp nb mt pl op no od stm wc), (wPileH g p n sh old cn), (wPool g ad ss n)] 0 8 ok8 [] (c_X8_settle (hT) (hsh) (by omega) (by omega) (hto) (fun e _ => by have h9 : cnt = 0 := Decidable.byContradiction (fun z => e (hce (by omega))); rw [h9, sumF_0]; omega)) dX8_load_52 rfl rfl wd_618 wd_620 ws_22 wd_1 wd_621 ne_X8 np_X8_settle (Nat.le_of_ble_eq_true rfl)  (by decide) (by decide) rfl (Nat.le_of_ble_eq_true rfl) rfl rfl rfl rfl (by decide) rfl (fun v1 f1 hp => ?_)
        obtain ⟨kd9_52, fi9_52, se9_52, sg9_52, le9_52, de9_52, nx9_52, he9_52, rc9_52, R9_52, ro9_52, re9_52, rr9_52, tp9_52, rd9_52, rfl, rfl, h52_0, h52_1, h52_2⟩ := hp
        show G g E _ _ _ [(wMain g x tpa (a 0) da (p 0) qa (ru 0) (w 0) sa (bk 0) 0 told), (wShelf g a L ln tp9_52 rd9_52 cnt re9_52 nws), (wRules g ru kd9_52 fi9_52 se9_52 sg9_52 le9_52 de9_52 nx9_52 he9_52 ro9_52 rc9_52 re9_52 rr9_52), (wBook g bk (k 0) (b 0) (r 0) eo9_28 es9_28 ep9_28 dp9_28 ss9_28 pp9_28 sg9_28 1 fk9_28 fp9_28), (wTok g k tpa kk9_28 kp9_28 kn9_28 v kc9_28 fg9_28 ps9_28), (wBytes g tpa 900 tf), (wShelf g b L9_28 ln9_28 tp2 rd2 cnt9_28 era2 nws2), (wRow g r m RL9_28 rl9_28), (wWalk g w (ru 0) sp nb mt pl op no od stm wc), (wPileH g p n sh old cn), (wPool g ad ss n)] 55 [(0, .ref x), (1, .int (iI v))] []
        have hrm : rc9_52 + 4800 ≤ 10240 := by
          rcases h52_2 with z | z
          · have h9 := z.2.2.2.2 (by by_cases q : 0 < cnt; exact Or.inl (hce q); exact Or.inr (by omega)); omega
          · omega
        have hre9 : 0 ≤ re9_52 ∧ re9_52 ≤ 1000000 := by rcases h52_2 with z | z <;> omega
        refine r_aload_n 56 hE 0 dX8_load_55 rfl rfl rfl ?_
        refine r_callV 59 hE [0, 1, 8, 2, 9, 10] [3, 4, 5, 6, 7] [(wMain g x tpa (a 0) da (p 0) qa (ru 0) (w 0) sa (bk 0) 0 told), (wShelf g a L ln tp9_52 rd9_52 cnt re9_52 nws), (wWalk g w (ru 0) sp nb mt pl op no od stm wc), (wRules g ru kd9_52 fi9_52 se9_52 sg9_52 le9_52 de9_52 nx9_52 he9_52 ro9_52 rc9_52 re9_52 rr9_52), (wPileH g p n sh old cn), (wPool g ad ss n)] [(wBook g bk (k 0) (b 0) (r 0) eo9_28 es9_28 ep9_28 dp9_28 ss9_28 pp9_28 sg9_28 1 fk9_28 fp9_28), (wTok g k tpa kk9_28 kp9_28 kn9_28 v kc9_28 fg9_28 ps9_28), (wBytes g tpa 900 tf), (wShelf g b L9_28 ln9_28 tp2 rd2 cnt9_28 era2 nws2), (wRow g r m RL9_28 rl9_28)] 0 8 ok8 [] (c_X8_beginAct (h52_0) (hsh) (h52_1) (hWI) (by omega) (by omega) (by omega) (hsa) (hBs)) dX8_load_56 rfl rfl wd_668 wd_670 ws_28 wd_1 wd_671 ne_X8 np_X8_beginAct (Nat.le_of_ble_eq_true rfl)  (by decide) (by decide) rfl (Nat.le_of_ble_eq_true rfl) rfl rfl rfl rfl (by decide) rfl (fun v1 f1 hp => ?_)
        obtain ⟨sp9_56, nb9_56, mt9_56, pl9_56, op9_56, no9_56, od9_56, wc9_56, V9_56, old9_56, cn9_56, i9_56, L9_56, ln9_56, tp9_56, rd9_56, rfl, rfl, h56_0, h56_1, h56_2, h56_3, h56_4⟩ := hp
        show G g E _ _ _ [(wMain g x tpa (a 0) da (p 0) qa (ru 0) (w 0) sa (bk 0) 0 told), (wShelf g a L ln tp9_52 rd9_52 cnt re9_52 nws), (wWalk g w (ru 0) sp9_56 nb9_56 mt9_56 pl9_56 op9_56 no9_56 od9_56 (stm + 1) wc9_56), (wRules g ru kd9_52 fi9_52 se9_52 sg9_52 le9_52 de9_52 nx9_52 he9_52 ro9_52 rc9_52 re9_52 rr9_52), (wPileH g p n sh old9_56 cn9_56), (wPool g ad (upS ss i9_56 (shs L9_56 ln9_56 tp9_56 rd9_56 cnt re9_52 (ss i9_56).nws)) n), (wBook g bk (k 0) (b 0) (r 0) eo9_28 es9_28 ep9_28 dp9_28 ss9_28 pp9_28 sg9_28 1 fk9_28 fp9_28), (wTok g k tpa kk9_28 kp9_28 kn9_28 v kc9_28 fg9_28 ps9_28), (wBytes g tpa 900 tf), (wShelf g b L9_28 ln9_28 tp2 rd2 cnt9_28 era2 nws2), (wRow g r m RL9_28 rl9_28)] 59 [(0, .ref x), (1, .int (iI v))] []
        have hPr := h56_2.rg hpn.1 hpo
        refine r_aload_n 60 hE 0 dX8_load_59 rfl rfl rfl ?_
        refine r_get 63 hE 0 0 ok8 4 dX8_load_60 rfl wd_301 rfl rfl (by decide) rfl ?_
        refine r_aload_n 64 hE 0 dX8_load_63 rfl rfl rfl ?_
        refine r_get 67 hE 0 0 ok8 0 dX8_load_64 rfl wd_297 rfl rfl (by decide) rfl ?_
        refine r_get 70 hE 6 0 ok0 1 dX8_load_67 rfl wd_127 rfl rfl (by decide) rfl ?_
        refine r_callV 73 hE [1, 9] [0, 2, 3, 4, 5, 6, 7, 8, 10] [(wShelf g a L ln tp9_52 rd9_52 cnt re9_52 nws), (wShelf g b L9_28 ln9_28 tp2 rd2 cnt9_28 era2 nws2)] [(wMain g x tpa (a 0) da (p 0) qa (ru 0) (w 0) sa (bk 0) 0 told), (wWalk g w (ru 0) sp9_56 nb9_56 mt9_56 pl9_56 op9_56 no9_56 od9_56 (stm + 1) wc9_56), (wRules g ru kd9_52 fi9_52 se9_52 sg9_52 le9_52 de9_52 nx9_52 he9_52 ro9_52 rc9_52 re9_52 rr9_52), (wPileH g p n sh old9_56 cn9_56), (wPool g ad (upS ss i9_56 (shs L9_56 ln9_56 tp9_56 rd9_56 cnt re9_52 (ss i9_56).nws)) n), (wBook g bk (k 0) (b 0) (r 0) eo9_28 es9_28 ep9_28 dp9_28 ss9_28 pp9_28 sg9_28 1 fk9_28 fp9_28), (wTok g k tpa kk9_28 kp9_28 kn9_28 v kc9_28 fg9_28 ps9_28), (wBytes g tpa 900 tf), (wRow g r m RL9_28 rl9_28)] 0 5 ok5 [] (c_X5_copy (h28_1.1) (h28_1.ln) (hsh.2.1) (h28_1.2.1)) dX8_load_70 rfl rfl wd_733 wd_726 wd_727 wd_4 wd_728 ne_X5 np_X5_copy (Nat.le_of_ble_eq_true rfl)  (by decide) (by decide) rfl (Nat.le_of_ble_eq_true rfl) rfl rfl rfl rfl (by decide) rfl (fun v1 f1 hp => ?_)
        obtain ⟨L9_70, ln9_70, tp9_70, rd9_70, rfl, rfl, h70_0, h70_1⟩ := hp
        show G g E _ _ _ [(wShelf g a L9_70 ln9_70 tp9_70 rd9_70 cnt9_28 era2 nws), (wShelf g b L9_28 ln9_28 tp2 rd2 cnt9_28 era2 nws2), (wMain g x tpa (a 0) da (p 0) qa (ru 0) (w 0) sa (bk 0) 0 told), (wWalk g w (ru 0) sp9_56 nb9_56 mt9_56 pl9_56 op9_56 no9_56 od9_56 (stm + 1) wc9_56), (wRules g ru kd9_52 fi9_52 se9_52 sg9_52 le9_52 de9_52 nx9_52 he9_52 ro9_52 rc9_52 re9_52 rr9_52), (wPileH g p n sh old9_56 cn9_56), (wPool g ad (upS ss i9_56 (shs L9_56 ln9_56 tp9_56 rd9_56 cnt re9_52 (ss i9_56).nws)) n), (wBook g bk (k 0) (b 0) (r 0) eo9_28 es9_28 ep9_28 dp9_28 ss9_28 pp9_28 sg9_28 1 fk9_28 fp9_28), (wTok g k tpa kk9_28 kp9_28 kn9_28 v kc9_28 fg9_28 ps9_28), (wBytes g tpa 900 tf), (wRow g r m RL9_28 rl9_28)] 73 [(0, .ref x), (1, .int (iI v))] []
        have hS9 := h28_1.copy h70_0 h70_1
        refine r_aload_n 74 hE 0 dX8_load_73 rfl rfl rfl ?_
        refine r_iconst 75 hE dX8_load_74 rfl ?_
        refine r_callV 78 hE [2, 0, 4] [1, 3, 5, 6, 7, 8, 9, 10] [(wMain g x tpa (a 0) da (p 0) qa (ru 0) (w 0) sa (bk 0) 0 told), (wShelf g a L9_70 ln9_70 tp9_70 rd9_70 cnt9_28 era2 nws), (wRules g ru kd9_52 fi9_52 se9_52 sg9_52 le9_52 de9_52 nx9_52 he9_52 ro9_52 rc9_52 re9_52 rr9_52)] [(wShelf g b L9_28 ln9_28 tp2 rd2 cnt9_28 era2 nws2), (wWalk g w (ru 0) sp9_56 nb9_56 mt9_56 pl9_56 op9_56 no9_56 od9_56 (stm + 1) wc9_56), (wPileH g p n sh old9_56 cn9_56), (wPool g ad (upS ss i9_56 (shs L9_56 ln9_56 tp9_56 rd9_56 cnt re9_52 (ss i9_56).nws)) n), (wBook g bk (k 0) (b 0) (r 0) eo9_28 es9_28 ep9_28 dp9_28 ss9_28 pp9_28 sg9_28 1 fk9_28 fp9_28), (wTok g k tpa kk9_28 kp9_28 kn9_28 v kc9_28 fg9_28 ps9_28), (wBytes g tpa 900 tf), (wRow g r m RL9_28 rl9_28)] 0 8 ok8 [] (c_X8_settle_k (h52_0) (hS9) (by omega) (by omega) (fun e => by omega) (fun _ _ => by have := sumF_600 hS9.ln hS9.1; omega) (by omega)) dX8_load_75 rfl rfl wd_618 wd_620 ws_22 wd_1 wd_621 ne_X8 np_X8_settle (Nat.le_of_ble_eq_true rfl)  (by decide) (by decide) rfl (Nat.le_of_ble_eq_true rfl) rfl rfl rfl rfl (by decide) rfl (fun v1 f1 hp => ?_)
        obtain ⟨kd9_75, fi9_75, se9_75, sg9_75, le9_75, de9_75, nx9_75, he9_75, rc9_75, R9_75, ro9_75, re9_75, rr9_75, tp9_75, rd9_75, rfl, rfl, h75_0, h75_1, h75_2⟩ := hp
        show G g E _ _ _ [(wMain g x tpa (a 0) da (p 0) qa (ru 0) (w 0) sa (bk 0) 0 told), (wShelf g a L9_70 ln9_70 tp9_75 rd9_75 cnt9_28 re9_75 nws), (wRules g ru kd9_75 fi9_75 se9_75 sg9_75 le9_75 de9_75 nx9_75 he9_75 ro9_75 rc9_75 re9_75 rr9_75), (wShelf g b L9_28 ln9_28 tp2 rd2 cnt9_28 era2 nws2), (wWalk g w (ru 0) sp9_56 nb9_56 mt9_56 pl9_56 op9_56 no9_56 od9_56 (stm + 1) wc9_56), (wPileH g p n sh old9_56 cn9_56), (wPool g ad (upS ss i9_56 (shs L9_56 ln9_56 tp9_56 rd9_56 cnt re9_52 (ss i9_56).nws)) n), (wBook g bk (k 0) (b 0) (r 0) eo9_28 es9_28 ep9_28 dp9_28 ss9_28 pp9_28 sg9_28 1 fk9_28 fp9_28), (wTok g k tpa kk9_28 kp9_28 kn9_28 v kc9_28 fg9_28 ps9_28), (wBytes g tpa 900 tf), (wRow g r m RL9_28 rl9_28)] 78 [(0, .ref x), (1, .int (iI v))] []
        have hWe := h56_0.ext (R2 := R9_75) (rc2 := rc9_75) ⟨h75_2.2.1, h75_0.1.2⟩ h75_2.2.2 h75_0.2.2.1
        refine r_aload_n 79 hE 0 dX8_load_78 rfl rfl rfl ?_
        refine r_callV 82 hE [0, 1, 4, 2, 5, 6] [3, 7, 8, 9, 10] [(wMain g x tpa (a 0) da (p 0) qa (ru 0) (w 0) sa (bk 0) 0 told), (wShelf g a L9_70 ln9_70 tp9_75 rd9_75 cnt9_28 re9_75 nws), (wWalk g w (ru 0) sp9_56 nb9_56 mt9_56 pl9_56 op9_56 no9_56 od9_56 (stm + 1) wc9_56), (wRules g ru kd9_75 fi9_75 se9_75 sg9_75 le9_75 de9_75 nx9_75 he9_75 ro9_75 rc9_75 re9_75 rr9_75), (wPileH g p n sh old9_56 cn9_56), (wPool g ad (upS ss i9_56 (shs L9_56 ln9_56 tp9_56 rd9_56 cnt re9_52 (ss i9_56).nws)) n)] [(wShelf g b L9_28 ln9_28 tp2 rd2 cnt9_28 era2 nws2), (wBook g bk (k 0) (b 0) (r 0) eo9_28 es9_28 ep9_28 dp9_28 ss9_28 pp9_28 sg9_28 1 fk9_28 fp9_28), (wTok g k tpa kk9_28 kp9_28 kn9_28 v kc9_28 fg9_28 ps9_28), (wBytes g tpa 900 tf), (wRow g r m RL9_28 rl9_28)] 0 8 ok8 [] (c_X8_endAct (h75_0) (hWe) (hS9.1) (h75_1) (by omega) (by omega) (by omega) (hsa) (by omega)) dX8_load_79 rfl rfl wd_734 wd_736 ws_32 wd_1 wd_737 ne_X8 np_X8_endAct (Nat.le_of_ble_eq_true rfl)  (by decide) (by decide) rfl (Nat.le_of_ble_eq_true rfl) rfl rfl rfl rfl (by decide) rfl (fun v1 f1 hp => ?_)
        obtain ⟨sp9_79, nb9_79, mt9_79, pl9_79, op9_79, no9_79, od9_79, wc9_79, V9_79, i9_79, rfl, rfl, h79_0, h79_1, h79_2, h79_3⟩ := hp
        show G g E _ _ _ [(wMain g x tpa (a 0) da (p 0) qa (ru 0) (w 0) sa (bk 0) 0 told), (wShelf g a L9_70 ln9_70 tp9_75 rd9_75 cnt9_28 re9_75 nws), (wWalk g w (ru 0) sp9_79 nb9_79 mt9_79 pl9_79 op9_79 no9_79 od9_79 (stm + 1) wc9_79), (wRules g ru kd9_75 fi9_75 se9_75 sg9_75 le9_75 de9_75 nx9_75 he9_75 ro9_75 rc9_75 re9_75 rr9_75), (wPileH g p n sh old9_56 cn9_56), (wPool g ad (upS (upS ss i9_56 (shs L9_56 ln9_56 tp9_56 rd9_56 cnt re9_52 (ss i9_56).nws)) i9_79 (shs ((upS ss i9_56 (shs L9_56 ln9_56 tp9_56 rd9_56 cnt re9_52 (ss i9_56).nws)) i9_79).L ((upS ss i9_56 (shs L9_56 ln9_56 tp9_56 rd9_56 cnt re9_52 (ss i9_56).nws)) i9_79).ln ((upS ss i9_56 (shs L9_56 ln9_56 tp9_56 rd9_56 cnt re9_52 (ss i9_56).nws)) i9_79).tp ((upS ss i9_56 (shs L9_56 ln9_56 tp9_56 rd9_56 cnt re9_52 (ss i9_56).nws)) i9_79).rd ((upS ss i9_56 (shs L9_56 ln9_56 tp9_56 rd9_56 cnt re9_52 (ss i9_56).nws)) i9_79).cnt ((upS ss i9_56 (shs L9_56 ln9_56 tp9_56 rd9_56 cnt re9_52 (ss i9_56).nws)) i9_79).era (wc9_79 - wc9_56))) n), (wShelf g b L9_28 ln9_28 tp2 rd2 cnt9_28 era2 nws2), (wBook g bk (k 0) (b 0) (r 0) eo9_28 es9_28 ep9_28 dp9_28 ss9_28 pp9_28 sg9_28 1 fk9_28 fp9_28), (wTok g k tpa kk9_28 kp9_28 kn9_28 v kc9_28 fg9_28 ps9_28), (wBytes g tpa 900 tf), (wRow g r m RL9_28 rl9_28)] 82 [(0, .ref x), (1, .int (iI v))] []
        refine r_aload_n 83 hE 0 dX8_load_82 rfl rfl rfl ?_
        refine r_aload_n 84 hE 0 dX8_load_83 rfl rfl rfl ?_
        refine r_get 87 hE 0 0 ok8 4 dX8_load_84 rfl wd_301 rfl rfl (by decide) rfl ?_
        refine r_get 90 hE 1 0 ok5 4 dX8_load_87 rfl wd_84 rfl rfl (by decide) rfl ?_
        refine r_callV 93 hE [0] [1, 2, 3, 4, 5, 6, 7, 8, 9, 10] [(wMain g x tpa (a 0) da (p 0) qa (ru 0) (w 0) sa (bk 0) 0 told)] [(wShelf g a L9_70 ln9_70 tp9_75 rd9_75 cnt9_28 re9_75 nws), (wWalk g w (ru 0) sp9_79 nb9_79 mt9_79 pl9_79 op9_79 no9_79 od9_79 (stm + 1) wc9_79), (wRules g ru kd9_75 fi9_75 se9_75 sg9_75 le9_75 de9_75 nx9_75 he9_75 ro9_75 rc9_75 re9_75 rr9_75), (wPileH g p n sh old9_56 cn9_56), (wPool g ad (upS (upS ss i9_56 (shs L9_56 ln9_56 tp9_56 rd9_56 cnt re9_52 (ss i9_56).nws)) i9_79 (shs ((upS ss i9_56 (shs L9_56 ln9_56 tp9_56 rd9_56 cnt re9_52 (ss i9_56).nws)) i9_79).L ((upS ss i9_56 (shs L9_56 ln9_56 tp9_56 rd9_56 cnt re9_52 (ss i9_56).nws)) i9_79).ln ((upS ss i9_56 (shs L9_56 ln9_56 tp9_56 rd9_56 cnt re9_52 (ss i9_56).nws)) i9_79).tp ((upS ss i9_56 (shs L9_56 ln9_56 tp9_56 rd9_56 cnt re9_52 (ss i9_56).nws)) i9_79).rd ((upS ss i9_56 (shs L9_56 ln9_56 tp9_56 rd9_56 cnt re9_52 (ss i9_56).nws)) i9_79).cnt ((upS ss i9_56 (shs L9_56 ln9_56 tp9_56 rd9_56 cnt re9_52 (ss i9_56).nws)) i9_79).era (wc9_79 - wc9_56))) n), (wShelf g b L9_28 ln9_28 tp2 rd2 cnt9_28 era2 nws2), (wBook g bk (k 0) (b 0) (r 0) eo9_28 es9_28 ep9_28 dp9_28 ss9_28 pp9_28 sg9_28 1 fk9_28 fp9_28), (wTok g k tpa kk9_28 kp9_28 kn9_28 v kc9_28 fg9_28 ps9_28), (wBytes g tpa 900 tf), (wRow g r m RL9_28 rl9_28)] 0 8 ok8 [] (c_X8_answer) dX8_load_90 rfl rfl wd_739 wd_741 ws_33 wd_1 wd_742 ne_X8 np_X8_answer (Nat.le_of_ble_eq_true rfl)  (by decide) (by decide) rfl (Nat.le_of_ble_eq_true rfl) rfl rfl rfl rfl (by decide) rfl (fun v1 f1 hp => ?_)
        obtain ⟨rfl, rfl⟩ := hp
        show G g E _ _ _ [(wMain g x tpa (a 0) da (p 0) qa (ru 0) (w 0) sa (bk 0) 0 0), (wShelf g a L9_70 ln9_70 tp9_75 rd9_75 cnt9_28 re9_75 nws), (wWalk g w (ru 0) sp9_79 nb9_79 mt9_79 pl9_79 op9_79 no9_79 od9_79 (stm + 1) wc9_79), (wRules g ru kd9_75 fi9_75 se9_75 sg9_75 le9_75 de9_75 nx9_75 he9_75 ro9_75 rc9_75 re9_75 rr9_75), (wPileH g p n sh old9_56 cn9_56), (wPool g ad (upS (upS ss i9_56 (shs L9_56 ln9_56 tp9_56 rd9_56 cnt re9_52 (ss i9_56).nws)) i9_79 (shs ((upS ss i9_56 (shs L9_56 ln9_56 tp9_56 rd9_56 cnt re9_52 (ss i9_56).nws)) i9_79).L ((upS ss i9_56 (shs L9_56 ln9_56 tp9_56 rd9_56 cnt re9_52 (ss i9_56).nws)) i9_79).ln ((upS ss i9_56 (shs L9_56 ln9_56 tp9_56 rd9_56 cnt re9_52 (ss i9_56).nws)) i9_79).tp ((upS ss i9_56 (shs L9_56 ln9_56 tp9_56 rd9_56 cnt re9_52 (ss i9_56).nws)) i9_79).rd ((upS ss i9_56 (shs L9_56 ln9_56 tp9_56 rd9_56 cnt re9_52 (ss i9_56).nws)) i9_79).cnt ((upS ss i9_56 (shs L9_56 ln9_56 tp9_56 rd9_56 cnt re9_52 (ss i9_56).nws)) i9_79).era (wc9_79 - wc9_56))) n), (wShelf g b L9_28 ln9_28 tp2 rd2 cnt9_28 era2 nws2), (wBook g bk (k 0) (b 0) (r 0) eo9_28 es9_28 ep9_28 dp9_28 ss9_28 pp9_28 sg9_28 1 fk9_28 fp9_28), (wTok g k tpa kk9_28 kp9_28 kn9_28 v kc9_28 fg9_28 ps9_28), (wBytes g tpa 900 tf), (wRow g r m RL9_28 rl9_28)] 93 [(0, .ref x), (1, .int (iI v))] [.int (iI cnt9_28)]
        refine G.to (fs' := [(wMain g x tpa (a 0) da (p 0) qa (ru 0) (w 0) sa (bk 0) 0 0), (wShelf g a L9_70 ln9_70 tp9_75 rd9_75 cnt9_28 re9_75 nws), (wRules g ru kd9_75 fi9_75 se9_75 sg9_75 le9_75 de9_75 nx9_75 he9_75 ro9_75 rc9_75 re9_75 rr9_75), (wWalk g w (ru 0) sp9_79 nb9_79 mt9_79 pl9_79 op9_79 no9_79 od9_79 (stm + 1) wc9_79), (wPileH g p n sh old9_56 cn9_56), (wPool g ad (upS (upS ss i9_56 (shs L9_56 ln9_56 tp9_56 rd9_56 cnt re9_52 (ss i9_56).nws)) i9_79 (shs ((upS ss i9_56 (shs L9_56 ln9_56 tp9_56 rd9_56 cnt re9_52 (ss i9_56).nws)) i9_79).L ((upS ss i9_56 (shs L9_56 ln9_56 tp9_56 rd9_56 cnt re9_52 (ss i9_56).nws)) i9_79).ln ((upS ss i9_56 (shs L9_56 ln9_56 tp9_56 rd9_56 cnt re9_52 (ss i9_56).nws)) i9_79).tp ((upS ss i9_56 (shs L9_56 ln9_56 tp9_56 rd9_56 cnt re9_52 (ss i9_56).nws)) i9_79).rd ((upS ss i9_56 (shs L9_56 ln9_56 tp9_56 rd9_56 cnt re9_52 (ss i9_56).nws)) i9_79).cnt ((upS ss i9_56 (shs L9_56 ln9_56 tp9_56 rd9_56 cnt re9_52 (ss i9_56).nws)) i9_79).era (wc9_79 - wc9_56))) n), (wBook g bk (k 0) (b 0) (r 0) eo9_28 es9_28 ep9_28 dp9_28 ss9_28 pp9_28 sg9_28 1 fk9_28 fp9_28), (wTok g k tpa kk9_28 kp9_28 kn9_28 v kc9_28 fg9_28 ps9_28), (wBytes g tpa 900 tf), (wShelf g b L9_28 ln9_28 tp2 rd2 cnt9_28 era2 nws2), (wRow g r m RL9_28 rl9_28)]) [0, 1, 3, 2, 4, 5, 7, 8, 9, 6, 10] [0, 1] rfl rfl rfl ?_
        refine r_ireturn hE hR [(wMain g x tpa (a 0) da (p 0) qa (ru 0) (w 0) sa (bk 0) 0 0), (wShelf g a L9_70 ln9_70 tp9_75 rd9_75 cnt9_28 re9_75 nws), (wRules g ru kd9_75 fi9_75 se9_75 sg9_75 le9_75 de9_75 nx9_75 he9_75 ro9_75 rc9_75 re9_75 rr9_75), (wWalk g w (ru 0) sp9_79 nb9_79 mt9_79 pl9_79 op9_79 no9_79 od9_79 (stm + 1) wc9_79), (wPileH g p n sh old9_56 cn9_56), (wPool g ad (upS (upS ss i9_56 (shs L9_56 ln9_56 tp9_56 rd9_56 cnt re9_52 (ss i9_56).nws)) i9_79 (shs ((upS ss i9_56 (shs L9_56 ln9_56 tp9_56 rd9_56 cnt re9_52 (ss i9_56).nws)) i9_79).L ((upS ss i9_56 (shs L9_56 ln9_56 tp9_56 rd9_56 cnt re9_52 (ss i9_56).nws)) i9_79).ln ((upS ss i9_56 (shs L9_56 ln9_56 tp9_56 rd9_56 cnt re9_52 (ss i9_56).nws)) i9_79).tp ((upS ss i9_56 (shs L9_56 ln9_56 tp9_56 rd9_56 cnt re9_52 (ss i9_56).nws)) i9_79).rd ((upS ss i9_56 (shs L9_56 ln9_56 tp9_56 rd9_56 cnt re9_52 (ss i9_56).nws)) i9_79).cnt ((upS ss i9_56 (shs L9_56 ln9_56 tp9_56 rd9_56 cnt re9_52 (ss i9_56).nws)) i9_79).era (wc9_79 - wc9_56))) n), (wBook g bk (k 0) (b 0) (r 0) eo9_28 es9_28 ep9_28 dp9_28 ss9_28 pp9_28 sg9_28 1 fk9_28 fp9_28), (wTok g k tpa kk9_28 kp9_28 kn9_28 v kc9_28 fg9_28 ps9_28), (wBytes g tpa 900 tf), (wShelf g b L9_28 ln9_28 tp2 rd2 cnt9_28 era2 nws2), (wRow g r m RL9_28 rl9_28)] dX8_load_93 (Nat.le_of_ble_eq_true rfl) (Nat.le_of_ble_eq_true rfl) rfl ?_
        have hi : i9_79 = i9_56 := by have h7 := h56_2.2.1; omega
        subst hi
        have he9 : re9_75 = re9_52 := h75_2.1
        have hn9 : NewsIs L ln cnt L9_70 ln9_70 cnt9_28 (wc9_79 - wc9_56) := by
          refine ⟨fun j => R9_52 (tp9_52 j), fun j => R9_75 (tp9_75 j), fun j a b => ⟨_, (h52_1 j a b).2⟩, fun j a b => ⟨_, (h75_1 j a b).2⟩, ?_⟩
          rw [← h56_1, ← h79_1, h79_0.1, h56_0.1]
        refine ⟨kd9_75, fi9_75, se9_75, sg9_75, le9_75, de9_75, nx9_75, he9_75, rc9_75, R9_75, ro9_75, re9_75, rr9_75, tp9_75, rd9_75, sp9_79, nb9_79, mt9_79, pl9_79, op9_79, no9_79, od9_79, wc9_79, old9_56, cn9_56, i9_79, L9_56, ln9_56, tp9_56, rd9_56, wc9_79 - wc9_56, L9_70, ln9_70, cnt9_28, RL9_28, rl9_28, fg9_28, ps9_28, fk9_28, fp9_28, eo9_28, es9_28, ep9_28, dp9_28, ss9_28, pp9_28, sg9_28, L9_28, ln9_28, cnt9_28, kk9_28, kp9_28, kn9_28, kc9_28, rfl, ?_, h75_0, ?_, h79_0.2.1, h56_2, ?_, ?_, h75_1, hS9, hn9.F, by rw [tsOf_copy h70_0]; exact hts, h28_1, h28_2, h28_3, hok.2⟩
        · rw [upS_upS, upS_same, he9]; rfl
        · rcases h52_2 with z | z
          · exact Or.inl ⟨by omega, by have := h75_2.2.1; omega, fun i a b => by rw [h75_2.2.2 i a (by omega)]; exact z.2.2.1 i a b⟩
          · exact Or.inr (by omega)
        · intro j a b
          obtain ⟨z1, -, -, z4⟩ := h56_3 j a b
          exact ⟨z1, z4⟩
        · exact ⟨hsh.copy h56_3 h56_4, ⟨by show -1 ≤ re9_75; omega, Int.le_refl _⟩, fun _ => (h52_1.ext h75_2.2.1 h75_2.2.2).copy h56_3⟩
      · skip
        exact absurd hok.2 c38
    · skip
      omega
set_option maxHeartbeats 4000000 in
set_option maxRecDepth 100000 in
theorem c_X8_fault_u {g : Gm} {bk : Nat → Nat} {ka sa2 ra : Nat} {eo es ep : Int → Int} {dp ss pp sg us fk fp : Int} {x tpa na da pa qa rua wa sa : Nat} {taped told : Int} {v : Int} (hus : us = 0) : Ct g 0 0 0 yX8_fault cX8_fault 2 (some .int) [.ref x, .int (iI v)] [(wMain g x tpa na da pa qa rua wa sa (bk 0) taped told), (wBook g bk ka sa2 ra eo es ep dp ss pp sg us fk fp)] (fun v_ w_ => v_ = some (.int (iI (-1))) ∧ w_ = [(wMain g x tpa na da pa qa rua wa sa (bk 0) taped told), (wBook g bk ka sa2 ra eo es ep dp ss pp sg us fk fp)]) := by
  refine Ct.of (by decide) (Nat.le_of_ble_eq_true rfl) (lv := [(0, .ref x), (1, .int (iI v))]) rfl ?_
  intro E hE hR hnm
  refine r_aload_n 1 hE 0 dX8_fault_0 rfl rfl rfl ?_
  refine r_get 4 hE 0 0 ok8 0 dX8_fault_1 rfl wd_297 rfl rfl (by decide) rfl ?_
  refine r_get 7 hE 1 0 ok0 10 dX8_fault_4 rfl wd_137 rfl rfl (by decide) rfl ?_
  refine r_if_ne 10 12 hE dX8_fault_7 rfl (by decide) (by omega) (fun c7 => ?_) (fun c7 => ?_)
  · skip
    exact absurd hus c7
  · skip
    refine r_iconst 11 hE dX8_fault_10 rfl ?_
    refine r_ireturn hE hR [(wMain g x tpa na da pa qa rua wa sa (bk 0) taped told), (wBook g bk ka sa2 ra eo es ep dp ss pp sg us fk fp)] dX8_fault_11 (Nat.le_of_ble_eq_true rfl) (Nat.le_of_ble_eq_true rfl) rfl ?_
    exact ⟨retI (rfl), rfl⟩
set_option maxHeartbeats 4000000 in
set_option maxRecDepth 100000 in
theorem c_X8_fault_0 {g : Gm} {bk : Nat → Nat} {ka sa2 ra : Nat} {eo es ep : Int → Int} {dp ss pp sg us fk fp : Int} {x tpa na da pa qa rua wa sa : Nat} {taped told : Int} {v : Int} (hus : us = 1) (hw : v = 0) : Ct g 0 0 0 yX8_fault cX8_fault 2 (some .int) [.ref x, .int (iI v)] [(wMain g x tpa na da pa qa rua wa sa (bk 0) taped told), (wBook g bk ka sa2 ra eo es ep dp ss pp sg us fk fp)] (fun v_ w_ => v_ = some (.int (iI fk)) ∧ w_ = [(wMain g x tpa na da pa qa rua wa sa (bk 0) taped told), (wBook g bk ka sa2 ra eo es ep dp ss pp sg us fk fp)]) := by
  refine Ct.of (by decide) (Nat.le_of_ble_eq_true rfl) (lv := [(0, .ref x), (1, .int (iI v))]) rfl ?_
  intro E hE hR hnm
  refine r_aload_n 1 hE 0 dX8_fault_0 rfl rfl rfl ?_
  refine r_get 4 hE 0 0 ok8 0 dX8_fault_1 rfl wd_297 rfl rfl (by decide) rfl ?_
  refine r_get 7 hE 1 0 ok0 10 dX8_fault_4 rfl wd_137 rfl rfl (by decide) rfl ?_
  refine r_if_ne 10 12 hE dX8_fault_7 rfl (by decide) (by omega) (fun c7 => ?_) (fun c7 => ?_)
  · skip
    refine r_iload_n 13 hE 1 dX8_fault_12 rfl rfl rfl ?_
    refine r_tsIn 40 hE 0 dX8_fault_13 (hw) (by decide) rfl (by decide) ?_
    refine r_aload_n 41 hE 0 dX8_fault_40 rfl rfl rfl ?_
    refine r_get 44 hE 0 0 ok8 0 dX8_fault_41 rfl wd_297 rfl rfl (by decide) rfl ?_
    refine r_get 47 hE 1 0 ok0 11 dX8_fault_44 rfl wd_139 rfl rfl (by decide) rfl ?_
    refine r_ireturn hE hR [(wMain g x tpa na da pa qa rua wa sa (bk 0) taped told), (wBook g bk ka sa2 ra eo es ep dp ss pp sg us fk fp)] dX8_fault_47 (Nat.le_of_ble_eq_true rfl) (Nat.le_of_ble_eq_true rfl) rfl ?_
    exact ⟨retI (rfl), rfl⟩
  · skip
    omega
set_option maxHeartbeats 4000000 in
set_option maxRecDepth 100000 in
theorem c_X8_fault_1 {g : Gm} {bk : Nat → Nat} {ka sa2 ra : Nat} {eo es ep : Int → Int} {dp ss pp sg us fk fp : Int} {x tpa na da pa qa rua wa sa : Nat} {taped told : Int} {v : Int} (hus : us = 1) (hfk : -1 ≤ fk ∧ fk ≤ 9) (hw : v = 1) : Ct g 0 0 0 yX8_fault cX8_fault 2 (some .int) [.ref x, .int (iI v)] [(wMain g x tpa na da pa qa rua wa sa (bk 0) taped told), (wBook g bk ka sa2 ra eo es ep dp ss pp sg us fk fp)] (fun v_ w_ => v_ = some (.int (iI (if fk = 0 then (-1) else fp))) ∧ w_ = [(wMain g x tpa na da pa qa rua wa sa (bk 0) taped told), (wBook g bk ka sa2 ra eo es ep dp ss pp sg us fk fp)]) := by
  refine Ct.of (by decide) (Nat.le_of_ble_eq_true rfl) (lv := [(0, .ref x), (1, .int (iI v))]) rfl ?_
  intro E hE hR hnm
  refine r_aload_n 1 hE 0 dX8_fault_0 rfl rfl rfl ?_
  refine r_get 4 hE 0 0 ok8 0 dX8_fault_1 rfl wd_297 rfl rfl (by decide) rfl ?_
  refine r_get 7 hE 1 0 ok0 10 dX8_fault_4 rfl wd_137 rfl rfl (by decide) rfl ?_
  refine r_if_ne 10 12 hE dX8_fault_7 rfl (by decide) (by omega) (fun c7 => ?_) (fun c7 => ?_)
  · skip
    refine r_iload_n 13 hE 1 dX8_fault_12 rfl rfl rfl ?_
    refine r_tsIn 48 hE 1 dX8_fault_13 (hw) (by decide) rfl (by decide) ?_
    refine r_aload_n 49 hE 0 dX8_fault_48 rfl rfl rfl ?_
    refine r_get 52 hE 0 0 ok8 0 dX8_fault_49 rfl wd_297 rfl rfl (by decide) rfl ?_
    refine r_get 55 hE 1 0 ok0 11 dX8_fault_52 rfl wd_139 rfl rfl (by decide) rfl ?_
    refine r_if_ne 58 62 hE dX8_fault_55 rfl (by decide) (by omega) (fun c55 => ?_) (fun c55 => ?_)
    · skip
      refine r_aload_n 63 hE 0 dX8_fault_62 rfl rfl rfl ?_
      refine r_get 66 hE 0 0 ok8 0 dX8_fault_63 rfl wd_297 rfl rfl (by decide) rfl ?_
      refine r_get 69 hE 1 0 ok0 12 dX8_fault_66 rfl wd_141 rfl rfl (by decide) rfl ?_
      refine r_ireturn hE hR [(wMain g x tpa na da pa qa rua wa sa (bk 0) taped told), (wBook g bk ka sa2 ra eo es ep dp ss pp sg us fk fp)] dX8_fault_69 (Nat.le_of_ble_eq_true rfl) (Nat.le_of_ble_eq_true rfl) rfl ?_
      first | exact ⟨retI (if_pos c55).symm, rfl⟩ | exact ⟨retI (if_neg c55).symm, rfl⟩
    · skip
      refine r_iconst 59 hE dX8_fault_58 rfl ?_
      refine r_goto 69 hE dX8_fault_59 (by decide) ?_
      refine r_ireturn hE hR [(wMain g x tpa na da pa qa rua wa sa (bk 0) taped told), (wBook g bk ka sa2 ra eo es ep dp ss pp sg us fk fp)] dX8_fault_69 (Nat.le_of_ble_eq_true rfl) (Nat.le_of_ble_eq_true rfl) rfl ?_
      first | exact ⟨retI (if_pos c55).symm, rfl⟩ | exact ⟨retI (if_neg c55).symm, rfl⟩
  · skip
    omega
set_option maxHeartbeats 4000000 in
set_option maxRecDepth 100000 in
theorem c_X8_fault_2 {g : Gm} {bk : Nat → Nat} {ka sa2 ra : Nat} {eo es ep : Int → Int} {dp ss pp sg us fk fp : Int} {x tpa na da pa qa rua wa sa : Nat} {taped told : Int} {v : Int} (hus : us = 1) (hfk : -1 ≤ fk ∧ fk ≤ 9) (hw : v = 2) : Ct g 0 0 0 yX8_fault cX8_fault 2 (some .int) [.ref x, .int (iI v)] [(wMain g x tpa na da pa qa rua wa sa (bk 0) taped told), (wBook g bk ka sa2 ra eo es ep dp ss pp sg us fk fp)] (fun v_ w_ => v_ = some (.int (iI ((fk + 1) / 2))) ∧ w_ = [(wMain g x tpa na da pa qa rua wa sa (bk 0) taped told), (wBook g bk ka sa2 ra eo es ep dp ss pp sg us fk fp)]) := by
  refine Ct.of (by decide) (Nat.le_of_ble_eq_true rfl) (lv := [(0, .ref x), (1, .int (iI v))]) rfl ?_
  intro E hE hR hnm
  refine r_aload_n 1 hE 0 dX8_fault_0 rfl rfl rfl ?_
  refine r_get 4 hE 0 0 ok8 0 dX8_fault_1 rfl wd_297 rfl rfl (by decide) rfl ?_
  refine r_get 7 hE 1 0 ok0 10 dX8_fault_4 rfl wd_137 rfl rfl (by decide) rfl ?_
  refine r_if_ne 10 12 hE dX8_fault_7 rfl (by decide) (by omega) (fun c7 => ?_) (fun c7 => ?_)
  · skip
    refine r_iload_n 13 hE 1 dX8_fault_12 rfl rfl rfl ?_
    refine r_tsIn 70 hE 2 dX8_fault_13 (hw) (by decide) rfl (by decide) ?_
    refine r_aload_n 71 hE 0 dX8_fault_70 rfl rfl rfl ?_
    refine r_get 74 hE 0 0 ok8 0 dX8_fault_71 rfl wd_297 rfl rfl (by decide) rfl ?_
    refine r_get 77 hE 1 0 ok0 11 dX8_fault_74 rfl wd_139 rfl rfl (by decide) rfl ?_
    refine r_iconst 78 hE dX8_fault_77 rfl ?_
    refine r_iadd 79 hE (fk + 1) dX8_fault_78 rfl rfl ?_
    refine r_iconst 80 hE dX8_fault_79 rfl ?_
    refine r_idiv 81 hE dX8_fault_80 rfl (by omega) ?_
    refine r_ireturn hE hR [(wMain g x tpa na da pa qa rua wa sa (bk 0) taped told), (wBook g bk ka sa2 ra eo es ep dp ss pp sg us fk fp)] dX8_fault_81 (Nat.le_of_ble_eq_true rfl) (Nat.le_of_ble_eq_true rfl) rfl ?_
    exact ⟨retI (rfl), rfl⟩
  · skip
    omega
set_option maxHeartbeats 4000000 in
set_option maxRecDepth 100000 in
theorem c_X8_fault_d {g : Gm} {bk : Nat → Nat} {ka sa2 ra : Nat} {eo es ep : Int → Int} {dp ss pp sg us fk fp : Int} {x tpa na da pa qa rua wa sa : Nat} {taped told : Int} {v : Int} (hus : us = 1) (hw : (-2147483648 ≤ v ∧ v ≤ 2147483647) ∧ (v < 0 ∨ 2 < v)) : Ct g 0 0 0 yX8_fault cX8_fault 2 (some .int) [.ref x, .int (iI v)] [(wMain g x tpa na da pa qa rua wa sa (bk 0) taped told), (wBook g bk ka sa2 ra eo es ep dp ss pp sg us fk fp)] (fun v_ w_ => v_ = some (.int (iI (-1))) ∧ w_ = [(wMain g x tpa na da pa qa rua wa sa (bk 0) taped told), (wBook g bk ka sa2 ra eo es ep dp ss pp sg us fk fp)]) := by
  refine Ct.of (by decide) (Nat.le_of_ble_eq_true rfl) (lv := [(0, .ref x), (1, .int (iI v))]) rfl ?_
  intro E hE hR hnm
  refine r_aload_n 1 hE 0 dX8_fault_0 rfl rfl rfl ?_
  refine r_get 4 hE 0 0 ok8 0 dX8_fault_1 rfl wd_297 rfl rfl (by decide) rfl ?_
  refine r_get 7 hE 1 0 ok0 10 dX8_fault_4 rfl wd_137 rfl rfl (by decide) rfl ?_
  refine r_if_ne 10 12 hE dX8_fault_7 rfl (by decide) (by omega) (fun c7 => ?_) (fun c7 => ?_)
  · skip
    refine r_iload_n 13 hE 1 dX8_fault_12 rfl rfl rfl ?_
    refine r_tsOut 82 hE dX8_fault_13 (hw) (by decide) ?_
    refine r_iconst 83 hE dX8_fault_82 rfl ?_
    refine r_ireturn hE hR [(wMain g x tpa na da pa qa rua wa sa (bk 0) taped told), (wBook g bk ka sa2 ra eo es ep dp ss pp sg us fk fp)] dX8_fault_83 (Nat.le_of_ble_eq_true rfl) (Nat.le_of_ble_eq_true rfl) rfl ?_
    exact ⟨retI (rfl), rfl⟩
  · skip
    omega
