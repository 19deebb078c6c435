set_option maxHeartbeats 4000000 in
set_option maxRecDepth 100000 in
theorem lc_rename {g : Gm} {E : Cx} {x b L k n : Nat} {mo : Nat → Nat} {xs : Nat → Int32} {i : Int} {V V2 : Vw} {C M : va_W} (hE : Ok g E 4 RL cL_law 2048 600000 7302250) (hkn : k ≤ 600000 ∧ n ≤ 7302250) (hX : ScrOk E b L xs) (hi : 0 ≤ i ∧ i + 6 ≤ (L : Int)) (hC : ClS g x i V C) (hM : MoS g mo V2 M) (e : VEq V V2) (next : ∀ (V9 W9 : Vw) (C9 M9 : va_W), ClS g x (i + 6) V9 C9 → MoS g mo W9 M9 → VEq V9 W9 → G g E 4 k n [C9, M9] 1168 [(0, .ref b), (1, .ref x), (2, .ref (mo 0)), (3, .int (iI i))] []) : G g E 4 k n [C, M] 670 [(0, .ref b), (1, .ref x), (2, .ref (mo 0)), (3, .int (iI i))] [] := by
  have hL := hX.2.2.2
  obtain ⟨vs, hrc⟩ := hC.rc
  obtain ⟨vs2, hrm⟩ := hM.rc
  refine r_aload_n 671 hE 1 dL_law_670 rfl rfl rfl ?_
  refine r_aload_n 672 hE 0 dL_law_671 rfl rfl rfl ?_
  refine r_iload_n 673 hE 3 dL_law_672 rfl rfl rfl ?_
  refine r_iconst 674 hE dL_law_673 rfl ?_
  refine r_iadd 675 hE (i + 1) dL_law_674 rfl rfl ?_
  refine r_sld 676 hE hX (by omega) dL_law_675 rfl ?_
  refine r_aload_n 677 hE 0 dL_law_676 rfl rfl rfl ?_
  refine r_iload_n 678 hE 3 dL_law_677 rfl rfl rfl ?_
  refine r_iconst 679 hE dL_law_678 rfl ?_
  refine r_iadd 680 hE (i + 2) dL_law_679 rfl rfl ?_
  refine r_sld 681 hE hX (by omega) dL_law_680 rfl ?_
  refine r_aload_n 682 hE 0 dL_law_681 rfl rfl rfl ?_
  refine r_iload_n 683 hE 3 dL_law_682 rfl rfl rfl ?_
  refine r_iconst 684 hE dL_law_683 rfl ?_
  refine r_iadd 685 hE (i + 3) dL_law_684 rfl rfl ?_
  refine r_sld 686 hE hX (by omega) dL_law_685 rfl ?_
  refine r_callV 689 hE [0] [1] [C] [M] 0 8 ok8 [] (P8_rename (u1 := sx xs (i + 1)) (u2 := sx xs (i + 2)) (u3 := sx xs (i + 3)) (by omega) (sx_rg _ _) (sx_rg _ _) (sx_rg _ _) hC) dL_law_686 rfl rfl wd_921 wd_922 wd_923 wd_1 wd_924 ne_X8 np_X8_rename (Nat.le_of_ble_eq_true rfl) (by decide) hkn rfl (Nat.le_of_ble_eq_true rfl) rfl rfl rfl rfl (by decide) hrc (fun v1 f1 hp => ?_)
  obtain ⟨r1, V9, C9, rfl, rfl, hC9, hA⟩ := hp
  show G g E 4 k n [C9, M] 689 [(0, .ref b), (1, .ref x), (2, .ref (mo 0)), (3, .int (iI i))] [.int (iI r1)]
  refine r_aload_n 690 hE 2 dL_law_689 rfl rfl rfl ?_
  refine r_aload_n 691 hE 0 dL_law_690 rfl rfl rfl ?_
  refine r_iload_n 692 hE 3 dL_law_691 rfl rfl rfl ?_
  refine r_iconst 693 hE dL_law_692 rfl ?_
  refine r_iadd 694 hE (i + 1) dL_law_693 rfl rfl ?_
  refine r_sld 695 hE hX (by omega) dL_law_694 rfl ?_
  refine r_aload_n 696 hE 0 dL_law_695 rfl rfl rfl ?_
  refine r_iload_n 697 hE 3 dL_law_696 rfl rfl rfl ?_
  refine r_iconst 698 hE dL_law_697 rfl ?_
  refine r_iadd 699 hE (i + 2) dL_law_698 rfl rfl ?_
  refine r_sld 700 hE hX (by omega) dL_law_699 rfl ?_
  refine r_aload_n 701 hE 0 dL_law_700 rfl rfl rfl ?_
  refine r_iload_n 702 hE 3 dL_law_701 rfl rfl rfl ?_
  refine r_iconst 703 hE dL_law_702 rfl ?_
  refine r_iadd 704 hE (i + 3) dL_law_703 rfl rfl ?_
  refine r_sld 705 hE hX (by omega) dL_law_704 rfl ?_
  refine r_callV 708 hE [1] [0] [M] [C9] 0 9 ok9 [.int (iI r1)] (P9_rename (u1 := sx xs (i + 1)) (u2 := sx xs (i + 2)) (u3 := sx xs (i + 3)) (sx_rg _ _) (sx_rg _ _) (sx_rg _ _) hM) dL_law_705 rfl rfl wd_1390 wd_1391 wd_1392 wd_12 wd_1393 ne_X9 np_X9_rename (Nat.le_of_ble_eq_true rfl) (by decide) hkn rfl (Nat.le_of_ble_eq_true rfl) rfl rfl rfl rfl (by decide) hrm (fun v1 f1 hp => ?_)
  obtain ⟨r2, W9, M9, rfl, rfl, hM9, hB⟩ := hp
  show G g E 4 k n [M9, C9] 708 [(0, .ref b), (1, .ref x), (2, .ref (mo 0)), (3, .int (iI i))] [.int (iI r2), .int (iI r1)]
  obtain ⟨hr, e9⟩ := TR_rename.one hC.vok e hA hB
  subst hr
  refine r_icmp_same 1168 hE dL_law_708 (by decide) ?_
  refine G.to (fs' := [C9, M9]) (lv' := [(0, .ref b), (1, .ref x), (2, .ref (mo 0)), (3, .int (iI i))]) [1, 0] [0, 1, 2, 3] rfl rfl rfl ?_
  exact next _ _ _ _ hC9 hM9 e9
set_option maxHeartbeats 4000000 in
set_option maxRecDepth 100000 in
theorem lc_drop {g : Gm} {E : Cx} {x b L k n : Nat} {mo : Nat → Nat} {xs : Nat → Int32} {i : Int} {V V2 : Vw} {C M : va_W} (hE : Ok g E 4 RL cL_law 2048 600000 7302250) (hkn : k ≤ 600000 ∧ n ≤ 7302250) (hX : ScrOk E b L xs) (hi : 0 ≤ i ∧ i + 6 ≤ (L : Int)) (hC : ClS g x i V C) (hM : MoS g mo V2 M) (e : VEq V V2) (next : ∀ (V9 W9 : Vw) (C9 M9 : va_W), ClS g x (i + 6) V9 C9 → MoS g mo W9 M9 → VEq V9 W9 → G g E 4 k n [C9, M9] 1168 [(0, .ref b), (1, .ref x), (2, .ref (mo 0)), (3, .int (iI i))] []) : G g E 4 k n [C, M] 713 [(0, .ref b), (1, .ref x), (2, .ref (mo 0)), (3, .int (iI i))] [] := by
  have hL := hX.2.2.2
  obtain ⟨vs, hrc⟩ := hC.rc
  obtain ⟨vs2, hrm⟩ := hM.rc
  refine r_aload_n 714 hE 1 dL_law_713 rfl rfl rfl ?_
  refine r_aload_n 715 hE 0 dL_law_714 rfl rfl rfl ?_
  refine r_iload_n 716 hE 3 dL_law_715 rfl rfl rfl ?_
  refine r_iconst 717 hE dL_law_716 rfl ?_
  refine r_iadd 718 hE (i + 1) dL_law_717 rfl rfl ?_
  refine r_sld 719 hE hX (by omega) dL_law_718 rfl ?_
  refine r_callV 722 hE [0] [1] [C] [M] 0 8 ok8 [] (P8_drop (u1 := sx xs (i + 1)) (by omega) (sx_rg _ _) hC) dL_law_719 rfl rfl wd_936 wd_937 wd_938 wd_1 wd_939 ne_X8 np_X8_drop (Nat.le_of_ble_eq_true rfl) (by decide) hkn rfl (Nat.le_of_ble_eq_true rfl) rfl rfl rfl rfl (by decide) hrc (fun v1 f1 hp => ?_)
  obtain ⟨r1, V9, C9, rfl, rfl, hC9, hA⟩ := hp
  show G g E 4 k n [C9, M] 722 [(0, .ref b), (1, .ref x), (2, .ref (mo 0)), (3, .int (iI i))] [.int (iI r1)]
  refine r_aload_n 723 hE 2 dL_law_722 rfl rfl rfl ?_
  refine r_aload_n 724 hE 0 dL_law_723 rfl rfl rfl ?_
  refine r_iload_n 725 hE 3 dL_law_724 rfl rfl rfl ?_
  refine r_iconst 726 hE dL_law_725 rfl ?_
  refine r_iadd 727 hE (i + 1) dL_law_726 rfl rfl ?_
  refine r_sld 728 hE hX (by omega) dL_law_727 rfl ?_
  refine r_callV 731 hE [1] [0] [M] [C9] 0 9 ok9 [.int (iI r1)] (P9_drop (u1 := sx xs (i + 1)) (sx_rg _ _) hM) dL_law_728 rfl rfl wd_1398 wd_1399 wd_1400 wd_12 wd_1401 ne_X9 np_X9_drop (Nat.le_of_ble_eq_true rfl) (by decide) hkn rfl (Nat.le_of_ble_eq_true rfl) rfl rfl rfl rfl (by decide) hrm (fun v1 f1 hp => ?_)
  obtain ⟨r2, W9, M9, rfl, rfl, hM9, hB⟩ := hp
  show G g E 4 k n [M9, C9] 731 [(0, .ref b), (1, .ref x), (2, .ref (mo 0)), (3, .int (iI i))] [.int (iI r2), .int (iI r1)]
  obtain ⟨hr, e9⟩ := TR_drop.one hC.vok e hA hB
  subst hr
  refine r_icmp_same 1168 hE dL_law_731 (by decide) ?_
  refine G.to (fs' := [C9, M9]) (lv' := [(0, .ref b), (1, .ref x), (2, .ref (mo 0)), (3, .int (iI i))]) [1, 0] [0, 1, 2, 3] rfl rfl rfl ?_
  exact next _ _ _ _ hC9 hM9 e9
set_option maxHeartbeats 4000000 in
set_option maxRecDepth 100000 in
theorem lc_undo {g : Gm} {E : Cx} {x b L k n : Nat} {mo : Nat → Nat} {xs : Nat → Int32} {i : Int} {V V2 : Vw} {C M : va_W} (hE : Ok g E 4 RL cL_law 2048 600000 7302250) (hkn : k ≤ 600000 ∧ n ≤ 7302250) (hX : ScrOk E b L xs) (hi : 0 ≤ i ∧ i + 6 ≤ (L : Int)) (hC : ClS g x i V C) (hM : MoS g mo V2 M) (e : VEq V V2) (next : ∀ (V9 W9 : Vw) (C9 M9 : va_W), ClS g x (i + 6) V9 C9 → MoS g mo W9 M9 → VEq V9 W9 → G g E 4 k n [C9, M9] 1168 [(0, .ref b), (1, .ref x), (2, .ref (mo 0)), (3, .int (iI i))] []) : G g E 4 k n [C, M] 736 [(0, .ref b), (1, .ref x), (2, .ref (mo 0)), (3, .int (iI i))] [] := by
  have hL := hX.2.2.2
  obtain ⟨vs, hrc⟩ := hC.rc
  obtain ⟨vs2, hrm⟩ := hM.rc
  refine r_aload_n 737 hE 1 dL_law_736 rfl rfl rfl ?_
  refine r_callV 740 hE [0] [1] [C] [M] 0 8 ok8 [] (P8_undo (by omega) hC) dL_law_737 rfl rfl wd_944 wd_945 wd_946 wd_1 wd_947 ne_X8 np_X8_undo (Nat.le_of_ble_eq_true rfl) (by decide) hkn rfl (Nat.le_of_ble_eq_true rfl) rfl rfl rfl rfl (by decide) hrc (fun v1 f1 hp => ?_)
  obtain ⟨r1, V9, C9, rfl, rfl, hC9, hA⟩ := hp
  show G g E 4 k n [C9, M] 740 [(0, .ref b), (1, .ref x), (2, .ref (mo 0)), (3, .int (iI i))] [.int (iI r1)]
  refine r_aload_n 741 hE 2 dL_law_740 rfl rfl rfl ?_
  refine r_callV 744 hE [1] [0] [M] [C9] 0 9 ok9 [.int (iI r1)] (P9_undo hM) dL_law_741 rfl rfl wd_1402 wd_1403 wd_1404 wd_12 wd_1405 ne_X9 np_X9_undo (Nat.le_of_ble_eq_true rfl) (by decide) hkn rfl (Nat.le_of_ble_eq_true rfl) rfl rfl rfl rfl (by decide) hrm (fun v1 f1 hp => ?_)
  obtain ⟨r2, W9, M9, rfl, rfl, hM9, hB⟩ := hp
  show G g E 4 k n [M9, C9] 744 [(0, .ref b), (1, .ref x), (2, .ref (mo 0)), (3, .int (iI i))] [.int (iI r2), .int (iI r1)]
  obtain ⟨hr, e9⟩ := TR_undo.one hC.vok e hA hB
  subst hr
  refine r_icmp_same 1168 hE dL_law_744 (by decide) ?_
  refine G.to (fs' := [C9, M9]) (lv' := [(0, .ref b), (1, .ref x), (2, .ref (mo 0)), (3, .int (iI i))]) [1, 0] [0, 1, 2, 3] rfl rfl rfl ?_
  exact next _ _ _ _ hC9 hM9 e9
set_option maxHeartbeats 4000000 in
set_option maxRecDepth 100000 in
theorem lc_mark {g : Gm} {E : Cx} {x b L k n : Nat} {mo : Nat → Nat} {xs : Nat → Int32} {i : Int} {V V2 : Vw} {C M : va_W} (hE : Ok g E 4 RL cL_law 2048 600000 7302250) (hkn : k ≤ 600000 ∧ n ≤ 7302250) (hX : ScrOk E b L xs) (hi : 0 ≤ i ∧ i + 6 ≤ (L : Int)) (hC : ClS g x i V C) (hM : MoS g mo V2 M) (e : VEq V V2) (next : ∀ (V9 W9 : Vw) (C9 M9 : va_W), ClS g x (i + 6) V9 C9 → MoS g mo W9 M9 → VEq V9 W9 → G g E 4 k n [C9, M9] 1168 [(0, .ref b), (1, .ref x), (2, .ref (mo 0)), (3, .int (iI i))] []) : G g E 4 k n [C, M] 749 [(0, .ref b), (1, .ref x), (2, .ref (mo 0)), (3, .int (iI i))] [] := by
  have hL := hX.2.2.2
  obtain ⟨vs, hrc⟩ := hC.rc
  obtain ⟨vs2, hrm⟩ := hM.rc
  refine r_aload_n 750 hE 1 dL_law_749 rfl rfl rfl ?_
  refine r_callV 753 hE [0] [1] [C] [M] 0 8 ok8 [] (P8_mark (by omega) hC) dL_law_750 rfl rfl wd_956 wd_957 wd_958 wd_1 wd_959 ne_X8 np_X8_mark (Nat.le_of_ble_eq_true rfl) (by decide) hkn rfl (Nat.le_of_ble_eq_true rfl) rfl rfl rfl rfl (by decide) hrc (fun v1 f1 hp => ?_)
  obtain ⟨r1, V9, C9, rfl, rfl, hC9, hA⟩ := hp
  show G g E 4 k n [C9, M] 753 [(0, .ref b), (1, .ref x), (2, .ref (mo 0)), (3, .int (iI i))] [.int (iI r1)]
  refine r_aload_n 754 hE 2 dL_law_753 rfl rfl rfl ?_
  refine r_callV 757 hE [1] [0] [M] [C9] 0 9 ok9 [.int (iI r1)] (P9_mark hM) dL_law_754 rfl rfl wd_1406 wd_1407 wd_1408 wd_12 wd_1409 ne_X9 np_X9_mark (Nat.le_of_ble_eq_true rfl) (by decide) hkn rfl (Nat.le_of_ble_eq_true rfl) rfl rfl rfl rfl (by decide) hrm (fun v1 f1 hp => ?_)
  obtain ⟨r2, W9, M9, rfl, rfl, hM9, hB⟩ := hp
  show G g E 4 k n [M9, C9] 757 [(0, .ref b), (1, .ref x), (2, .ref (mo 0)), (3, .int (iI i))] [.int (iI r2), .int (iI r1)]
  obtain ⟨hr, e9⟩ := TR_mark.one hC.vok e hA hB
  subst hr
  refine r_icmp_same 1168 hE dL_law_757 (by decide) ?_
  refine G.to (fs' := [C9, M9]) (lv' := [(0, .ref b), (1, .ref x), (2, .ref (mo 0)), (3, .int (iI i))]) [1, 0] [0, 1, 2, 3] rfl rfl rfl ?_
  exact next _ _ _ _ hC9 hM9 e9
set_option maxHeartbeats 4000000 in
set_option maxRecDepth 100000 in
theorem lc_back {g : Gm} {E : Cx} {x b L k n : Nat} {mo : Nat → Nat} {xs : Nat → Int32} {i : Int} {V V2 : Vw} {C M : va_W} (hE : Ok g E 4 RL cL_law 2048 600000 7302250) (hkn : k ≤ 600000 ∧ n ≤ 7302250) (hX : ScrOk E b L xs) (hi : 0 ≤ i ∧ i + 6 ≤ (L : Int)) (hC : ClS g x i V C) (hM : MoS g mo V2 M) (e : VEq V V2) (next : ∀ (V9 W9 : Vw) (C9 M9 : va_W), ClS g x (i + 6) V9 C9 → MoS g mo W9 M9 → VEq V9 W9 → G g E 4 k n [C9, M9] 1168 [(0, .ref b), (1, .ref x), (2, .ref (mo 0)), (3, .int (iI i))] []) : G g E 4 k n [C, M] 762 [(0, .ref b), (1, .ref x), (2, .ref (mo 0)), (3, .int (iI i))] [] := by
  have hL := hX.2.2.2
  obtain ⟨vs, hrc⟩ := hC.rc
  obtain ⟨vs2, hrm⟩ := hM.rc
  refine r_aload_n 763 hE 1 dL_law_762 rfl rfl rfl ?_
  refine r_callV 766 hE [0] [1] [C] [M] 0 8 ok8 [] (P8_back (by omega) hC) dL_law_763 rfl rfl wd_961 wd_962 wd_963 wd_1 wd_964 ne_X8 np_X8_back (Nat.le_of_ble_eq_true rfl) (by decide) hkn rfl (Nat.le_of_ble_eq_true rfl) rfl rfl rfl rfl (by decide) hrc (fun v1 f1 hp => ?_)
  obtain ⟨r1, V9, C9, rfl, rfl, hC9, hA⟩ := hp
  show G g E 4 k n [C9, M] 766 [(0, .ref b), (1, .ref x), (2, .ref (mo 0)), (3, .int (iI i))] [.int (iI r1)]
  refine r_aload_n 767 hE 2 dL_law_766 rfl rfl rfl ?_
  refine r_callV 770 hE [1] [0] [M] [C9] 0 9 ok9 [.int (iI r1)] (P9_back hM) dL_law_767 rfl rfl wd_1411 wd_1412 wd_1413 wd_12 wd_1414 ne_X9 np_X9_back (Nat.le_of_ble_eq_true rfl) (by decide) hkn rfl (Nat.le_of_ble_eq_true rfl) rfl rfl rfl rfl (by decide) hrm (fun v1 f1 hp => ?_)
  obtain ⟨r2, W9, M9, rfl, rfl, hM9, hB⟩ := hp
  show G g E 4 k n [M9, C9] 770 [(0, .ref b), (1, .ref x), (2, .ref (mo 0)), (3, .int (iI i))] [.int (iI r2), .int (iI r1)]
  obtain ⟨hr, e9⟩ := TR_back.one hC.vok e hA hB
  subst hr
  refine r_icmp_same 1168 hE dL_law_770 (by decide) ?_
  refine G.to (fs' := [C9, M9]) (lv' := [(0, .ref b), (1, .ref x), (2, .ref (mo 0)), (3, .int (iI i))]) [1, 0] [0, 1, 2, 3] rfl rfl rfl ?_
  exact next _ _ _ _ hC9 hM9 e9
set_option maxHeartbeats 4000000 in
set_option maxRecDepth 100000 in
theorem lc_alike {g : Gm} {E : Cx} {x b L k n : Nat} {mo : Nat → Nat} {xs : Nat → Int32} {i : Int} {V V2 : Vw} {C M : va_W} (hE : Ok g E 4 RL cL_law 2048 600000 7302250) (hkn : k ≤ 600000 ∧ n ≤ 7302250) (hX : ScrOk E b L xs) (hi : 0 ≤ i ∧ i + 6 ≤ (L : Int)) (hC : ClS g x i V C) (hM : MoS g mo V2 M) (e : VEq V V2) (next : ∀ (V9 W9 : Vw) (C9 M9 : va_W), ClS g x (i + 6) V9 C9 → MoS g mo W9 M9 → VEq V9 W9 → G g E 4 k n [C9, M9] 1168 [(0, .ref b), (1, .ref x), (2, .ref (mo 0)), (3, .int (iI i))] []) : G g E 4 k n [C, M] 775 [(0, .ref b), (1, .ref x), (2, .ref (mo 0)), (3, .int (iI i))] [] := by
  have hL := hX.2.2.2
  obtain ⟨vs, hrc⟩ := hC.rc
  obtain ⟨vs2, hrm⟩ := hM.rc
  refine r_aload_n 776 hE 1 dL_law_775 rfl rfl rfl ?_
  refine r_aload_n 777 hE 0 dL_law_776 rfl rfl rfl ?_
  refine r_iload_n 778 hE 3 dL_law_777 rfl rfl rfl ?_
  refine r_iconst 779 hE dL_law_778 rfl ?_
  refine r_iadd 780 hE (i + 1) dL_law_779 rfl rfl ?_
  refine r_sld 781 hE hX (by omega) dL_law_780 rfl ?_
  refine r_aload_n 782 hE 0 dL_law_781 rfl rfl rfl ?_
  refine r_iload_n 783 hE 3 dL_law_782 rfl rfl rfl ?_
  refine r_iconst 784 hE dL_law_783 rfl ?_
  refine r_iadd 785 hE (i + 2) dL_law_784 rfl rfl ?_
  refine r_sld 786 hE hX (by omega) dL_law_785 rfl ?_
  refine r_aload_n 787 hE 0 dL_law_786 rfl rfl rfl ?_
  refine r_iload_n 788 hE 3 dL_law_787 rfl rfl rfl ?_
  refine r_iconst 789 hE dL_law_788 rfl ?_
  refine r_iadd 790 hE (i + 3) dL_law_789 rfl rfl ?_
  refine r_sld 791 hE hX (by omega) dL_law_790 rfl ?_
  refine r_aload_n 792 hE 0 dL_law_791 rfl rfl rfl ?_
  refine r_iload_n 793 hE 3 dL_law_792 rfl rfl rfl ?_
  refine r_iconst 794 hE dL_law_793 rfl ?_
  refine r_iadd 795 hE (i + 4) dL_law_794 rfl rfl ?_
  refine r_sld 796 hE hX (by omega) dL_law_795 rfl ?_
  refine r_callV 799 hE [0] [1] [C] [M] 0 8 ok8 [] (P8_alike (u1 := sx xs (i + 1)) (u2 := sx xs (i + 2)) (u3 := sx xs (i + 3)) (u4 := sx xs (i + 4)) (by omega) (sx_rg _ _) (sx_rg _ _) (sx_rg _ _) (sx_rg _ _) hC) dL_law_796 rfl rfl wd_965 wd_966 wd_967 wd_1 wd_968 ne_X8 np_X8_alike (Nat.le_of_ble_eq_true rfl) (by decide) hkn rfl (Nat.le_of_ble_eq_true rfl) rfl rfl rfl rfl (by decide) hrc (fun v1 f1 hp => ?_)
  obtain ⟨r1, V9, C9, rfl, rfl, hC9, hA⟩ := hp
  show G g E 4 k n [C9, M] 799 [(0, .ref b), (1, .ref x), (2, .ref (mo 0)), (3, .int (iI i))] [.int (iI r1)]
  refine r_aload_n 800 hE 2 dL_law_799 rfl rfl rfl ?_
  refine r_aload_n 801 hE 0 dL_law_800 rfl rfl rfl ?_
  refine r_iload_n 802 hE 3 dL_law_801 rfl rfl rfl ?_
  refine r_iconst 803 hE dL_law_802 rfl ?_
  refine r_iadd 804 hE (i + 1) dL_law_803 rfl rfl ?_
  refine r_sld 805 hE hX (by omega) dL_law_804 rfl ?_
  refine r_aload_n 806 hE 0 dL_law_805 rfl rfl rfl ?_
  refine r_iload_n 807 hE 3 dL_law_806 rfl rfl rfl ?_
  refine r_iconst 808 hE dL_law_807 rfl ?_
  refine r_iadd 809 hE (i + 2) dL_law_808 rfl rfl ?_
  refine r_sld 810 hE hX (by omega) dL_law_809 rfl ?_
  refine r_aload_n 811 hE 0 dL_law_810 rfl rfl rfl ?_
  refine r_iload_n 812 hE 3 dL_law_811 rfl rfl rfl ?_
  refine r_iconst 813 hE dL_law_812 rfl ?_
  refine r_iadd 814 hE (i + 3) dL_law_813 rfl rfl ?_
  refine r_sld 815 hE hX (by omega) dL_law_814 rfl ?_
  refine r_aload_n 816 hE 0 dL_law_815 rfl rfl rfl ?_
  refine r_iload_n 817 hE 3 dL_law_816 rfl rfl rfl ?_
  refine r_iconst 818 hE dL_law_817 rfl ?_
  refine r_iadd 819 hE (i + 4) dL_law_818 rfl rfl ?_
  refine r_sld 820 hE hX (by omega) dL_law_819 rfl ?_
  refine r_callV 823 hE [1] [0] [M] [C9] 0 9 ok9 [.int (iI r1)] (P9_alike (u1 := sx xs (i + 1)) (u2 := sx xs (i + 2)) (u3 := sx xs (i + 3)) (u4 := sx xs (i + 4)) (sx_rg _ _) (sx_rg _ _) (sx_rg _ _) (sx_rg _ _) hM) dL_law_820 rfl rfl wd_1469 wd_1470 wd_1471 wd_12 wd_1472 ne_X9 np_X9_alike (Nat.le_of_ble_eq_true rfl) (by decide) hkn rfl (Nat.le_of_ble_eq_true rfl) rfl rfl rfl rfl (by decide) hrm (fun v1 f1 hp => ?_)
  obtain ⟨r2, W9, M9, rfl, rfl, hM9, hB⟩ := hp
  show G g E 4 k n [M9, C9] 823 [(0, .ref b), (1, .ref x), (2, .ref (mo 0)), (3, .int (iI i))] [.int (iI r2), .int (iI r1)]
  obtain ⟨hr, e9⟩ := TR_alike.one hC.vok e hA hB
  subst hr
  refine r_icmp_same 1168 hE dL_law_823 (by decide) ?_
  refine G.to (fs' := [C9, M9]) (lv' := [(0, .ref b), (1, .ref x), (2, .ref (mo 0)), (3, .int (iI i))]) [1, 0] [0, 1, 2, 3] rfl rfl rfl ?_
  exact next _ _ _ _ hC9 hM9 e9
set_option maxHeartbeats 4000000 in
set_option maxRecDepth 100000 in
theorem lc_against {g : Gm} {E : Cx} {x b L k n : Nat} {mo : Nat → Nat} {xs : Nat → Int32} {i : Int} {V V2 : Vw} {C M : va_W} (hE : Ok g E 4 RL cL_law 2048 600000 7302250) (hkn : k ≤ 600000 ∧ n ≤ 7302250) (hX : ScrOk E b L xs) (hi : 0 ≤ i ∧ i + 6 ≤ (L : Int)) (hC : ClS g x i V C) (hM : MoS g mo V2 M) (e : VEq V V2) (next : ∀ (V9 W9 : Vw) (C9 M9 : va_W), ClS g x (i + 6) V9 C9 → MoS g mo W9 M9 → VEq V9 W9 → G g E 4 k n [C9, M9] 1168 [(0, .ref b), (1, .ref x), (2, .ref (mo 0)), (3, .int (iI i))] []) : G g E 4 k n [C, M] 828 [(0, .ref b), (1, .ref x), (2, .ref (mo 0)), (3, .int (iI i))] [] := by
  have hL := hX.2.2.2
  obtain ⟨vs, hrc⟩ := hC.rc
  obtain ⟨vs2, hrm⟩ := hM.rc
  refine r_aload_n 829 hE 1 dL_law_828 rfl rfl rfl ?_
  refine r_aload_n 830 hE 0 dL_law_829 rfl rfl rfl ?_
  refine r_iload_n 831 hE 3 dL_law_830 rfl rfl rfl ?_
  refine r_iconst 832 hE dL_law_831 rfl ?_
  refine r_iadd 833 hE (i + 1) dL_law_832 rfl rfl ?_
  refine r_sld 834 hE hX (by omega) dL_law_833 rfl ?_
  refine r_aload_n 835 hE 0 dL_law_834 rfl rfl rfl ?_
  refine r_iload_n 836 hE 3 dL_law_835 rfl rfl rfl ?_
  refine r_iconst 837 hE dL_law_836 rfl ?_
  refine r_iadd 838 hE (i + 2) dL_law_837 rfl rfl ?_
  refine r_sld 839 hE hX (by omega) dL_law_838 rfl ?_
  refine r_aload_n 840 hE 0 dL_law_839 rfl rfl rfl ?_
  refine r_iload_n 841 hE 3 dL_law_840 rfl rfl rfl ?_
  refine r_iconst 842 hE dL_law_841 rfl ?_
  refine r_iadd 843 hE (i + 3) dL_law_842 rfl rfl ?_
  refine r_sld 844 hE hX (by omega) dL_law_843 rfl ?_
  refine r_callV 847 hE [0] [1] [C] [M] 0 8 ok8 [] (P8_against (u1 := sx xs (i + 1)) (u2 := sx xs (i + 2)) (u3 := sx xs (i + 3)) (by omega) (sx_rg _ _) (sx_rg _ _) (sx_rg _ _) hC) dL_law_844 rfl rfl wd_979 wd_980 wd_981 wd_1 wd_982 ne_X8 np_X8_against (Nat.le_of_ble_eq_true rfl) (by decide) hkn rfl (Nat.le_of_ble_eq_true rfl) rfl rfl rfl rfl (by decide) hrc (fun v1 f1 hp => ?_)
  obtain ⟨r1, V9, C9, rfl, rfl, hC9, hA⟩ := hp
  show G g E 4 k n [C9, M] 847 [(0, .ref b), (1, .ref x), (2, .ref (mo 0)), (3, .int (iI i))] [.int (iI r1)]
  refine r_aload_n 848 hE 2 dL_law_847 rfl rfl rfl ?_
  refine r_aload_n 849 hE 0 dL_law_848 rfl rfl rfl ?_
  refine r_iload_n 850 hE 3 dL_law_849 rfl rfl rfl ?_
  refine r_iconst 851 hE dL_law_850 rfl ?_
  refine r_iadd 852 hE (i + 1) dL_law_851 rfl rfl ?_
  refine r_sld 853 hE hX (by omega) dL_law_852 rfl ?_
  refine r_aload_n 854 hE 0 dL_law_853 rfl rfl rfl ?_
  refine r_iload_n 855 hE 3 dL_law_854 rfl rfl rfl ?_
  refine r_iconst 856 hE dL_law_855 rfl ?_
  refine r_iadd 857 hE (i + 2) dL_law_856 rfl rfl ?_
  refine r_sld 858 hE hX (by omega) dL_law_857 rfl ?_
  refine r_aload_n 859 hE 0 dL_law_858 rfl rfl rfl ?_
  refine r_iload_n 860 hE 3 dL_law_859 rfl rfl rfl ?_
  refine r_iconst 861 hE dL_law_860 rfl ?_
  refine r_iadd 862 hE (i + 3) dL_law_861 rfl rfl ?_
  refine r_sld 863 hE hX (by omega) dL_law_862 rfl ?_
  refine r_callV 866 hE [1] [0] [M] [C9] 0 9 ok9 [.int (iI r1)] (P9_against (u1 := sx xs (i + 1)) (u2 := sx xs (i + 2)) (u3 := sx xs (i + 3)) (sx_rg _ _) (sx_rg _ _) (sx_rg _ _) hM) dL_law_863 rfl rfl wd_1477 wd_1478 wd_1479 wd_12 wd_1480 ne_X9 np_X9_against (Nat.le_of_ble_eq_true rfl) (by decide) hkn rfl (Nat.le_of_ble_eq_true rfl) rfl rfl rfl rfl (by decide) hrm (fun v1 f1 hp => ?_)
  obtain ⟨r2, W9, M9, rfl, rfl, hM9, hB⟩ := hp
  show G g E 4 k n [M9, C9] 866 [(0, .ref b), (1, .ref x), (2, .ref (mo 0)), (3, .int (iI i))] [.int (iI r2), .int (iI r1)]
  obtain ⟨hr, e9⟩ := TR_against.one hC.vok e hA hB
  subst hr
  refine r_icmp_same 1168 hE dL_law_866 (by decide) ?_
  refine G.to (fs' := [C9, M9]) (lv' := [(0, .ref b), (1, .ref x), (2, .ref (mo 0)), (3, .int (iI i))]) [1, 0] [0, 1, 2, 3] rfl rfl rfl ?_
  exact next _ _ _ _ hC9 hM9 e9
set_option maxHeartbeats 4000000 in
set_option maxRecDepth 100000 in
theorem lc_find {g : Gm} {E : Cx} {x b L k n : Nat} {mo : Nat → Nat} {xs : Nat → Int32} {i : Int} {V V2 : Vw} {C M : va_W} (hE : Ok g E 4 RL cL_law 2048 600000 7302250) (hkn : k ≤ 600000 ∧ n ≤ 7302250) (hX : ScrOk E b L xs) (hi : 0 ≤ i ∧ i + 6 ≤ (L : Int)) (hC : ClS g x i V C) (hM : MoS g mo V2 M) (e : VEq V V2) (next : ∀ (V9 W9 : Vw) (C9 M9 : va_W), ClS g x (i + 6) V9 C9 → MoS g mo W9 M9 → VEq V9 W9 → G g E 4 k n [C9, M9] 1168 [(0, .ref b), (1, .ref x), (2, .ref (mo 0)), (3, .int (iI i))] []) : G g E 4 k n [C, M] 871 [(0, .ref b), (1, .ref x), (2, .ref (mo 0)), (3, .int (iI i))] [] := by
  have hL := hX.2.2.2
  obtain ⟨vs, hrc⟩ := hC.rc
  obtain ⟨vs2, hrm⟩ := hM.rc
  refine r_aload_n 872 hE 1 dL_law_871 rfl rfl rfl ?_
  refine r_aload_n 873 hE 0 dL_law_872 rfl rfl rfl ?_
  refine r_iload_n 874 hE 3 dL_law_873 rfl rfl rfl ?_
  refine r_iconst 875 hE dL_law_874 rfl ?_
  refine r_iadd 876 hE (i + 1) dL_law_875 rfl rfl ?_
  refine r_sld 877 hE hX (by omega) dL_law_876 rfl ?_
  refine r_aload_n 878 hE 0 dL_law_877 rfl rfl rfl ?_
  refine r_iload_n 879 hE 3 dL_law_878 rfl rfl rfl ?_
  refine r_iconst 880 hE dL_law_879 rfl ?_
  refine r_iadd 881 hE (i + 2) dL_law_880 rfl rfl ?_
  refine r_sld 882 hE hX (by omega) dL_law_881 rfl ?_
  refine r_aload_n 883 hE 0 dL_law_882 rfl rfl rfl ?_
  refine r_iload_n 884 hE 3 dL_law_883 rfl rfl rfl ?_
  refine r_iconst 885 hE dL_law_884 rfl ?_
  refine r_iadd 886 hE (i + 3) dL_law_885 rfl rfl ?_
  refine r_sld 887 hE hX (by omega) dL_law_886 rfl ?_
  refine r_callV 890 hE [0] [1] [C] [M] 0 8 ok8 [] (P8_find (u1 := sx xs (i + 1)) (u2 := sx xs (i + 2)) (u3 := sx xs (i + 3)) (by omega) (sx_rg _ _) (sx_rg _ _) (sx_rg _ _) hC) dL_law_887 rfl rfl wd_995 wd_996 wd_997 wd_1 wd_998 ne_X8 np_X8_find (Nat.le_of_ble_eq_true rfl) (by decide) hkn rfl (Nat.le_of_ble_eq_true rfl) rfl rfl rfl rfl (by decide) hrc (fun v1 f1 hp => ?_)
  obtain ⟨r1, V9, C9, rfl, rfl, hC9, hA⟩ := hp
  show G g E 4 k n [C9, M] 890 [(0, .ref b), (1, .ref x), (2, .ref (mo 0)), (3, .int (iI i))] [.int (iI r1)]
  refine r_aload_n 891 hE 2 dL_law_890 rfl rfl rfl ?_
  refine r_aload_n 892 hE 0 dL_law_891 rfl rfl rfl ?_
  refine r_iload_n 893 hE 3 dL_law_892 rfl rfl rfl ?_
  refine r_iconst 894 hE dL_law_893 rfl ?_
  refine r_iadd 895 hE (i + 1) dL_law_894 rfl rfl ?_
  refine r_sld 896 hE hX (by omega) dL_law_895 rfl ?_
  refine r_aload_n 897 hE 0 dL_law_896 rfl rfl rfl ?_
  refine r_iload_n 898 hE 3 dL_law_897 rfl rfl rfl ?_
  refine r_iconst 899 hE dL_law_898 rfl ?_
  refine r_iadd 900 hE (i + 2) dL_law_899 rfl rfl ?_
  refine r_sld 901 hE hX (by omega) dL_law_900 rfl ?_
  refine r_aload_n 902 hE 0 dL_law_901 rfl rfl rfl ?_
  refine r_iload_n 903 hE 3 dL_law_902 rfl rfl rfl ?_
  refine r_iconst 904 hE dL_law_903 rfl ?_
  refine r_iadd 905 hE (i + 3) dL_law_904 rfl rfl ?_
  refine r_sld 906 hE hX (by omega) dL_law_905 rfl ?_
  refine r_callV 909 hE [1] [0] [M] [C9] 0 9 ok9 [.int (iI r1)] (P9_find (u1 := sx xs (i + 1)) (u2 := sx xs (i + 2)) (u3 := sx xs (i + 3)) (sx_rg _ _) (sx_rg _ _) (sx_rg _ _) hM) dL_law_906 rfl rfl wd_1493 wd_1494 wd_1495 wd_12 wd_1496 ne_X9 np_X9_find (Nat.le_of_ble_eq_true rfl) (by decide) hkn rfl (Nat.le_of_ble_eq_true rfl) rfl rfl rfl rfl (by decide) hrm (fun v1 f1 hp => ?_)
  obtain ⟨r2, W9, M9, rfl, rfl, hM9, hB⟩ := hp
  show G g E 4 k n [M9, C9] 909 [(0, .ref b), (1, .ref x), (2, .ref (mo 0)), (3, .int (iI i))] [.int (iI r2), .int (iI r1)]
  obtain ⟨hr, e9⟩ := TR_find.one hC.vok e hA hB
  subst hr
  refine r_icmp_same 1168 hE dL_law_909 (by decide) ?_
  refine G.to (fs' := [C9, M9]) (lv' := [(0, .ref b), (1, .ref x), (2, .ref (mo 0)), (3, .int (iI i))]) [1, 0] [0, 1, 2, 3] rfl rfl rfl ?_
  exact next _ _ _ _ hC9 hM9 e9
set_option maxHeartbeats 4000000 in
set_option maxRecDepth 100000 in
theorem lc_finds {g : Gm} {E : Cx} {x b L k n : Nat} {mo : Nat → Nat} {xs : Nat → Int32} {i : Int} {V V2 : Vw} {C M : va_W} (hE : Ok g E 4 RL cL_law 2048 600000 7302250) (hkn : k ≤ 600000 ∧ n ≤ 7302250) (hX : ScrOk E b L xs) (hi : 0 ≤ i ∧ i + 6 ≤ (L : Int)) (hC : ClS g x i V C) (hM : MoS g mo V2 M) (e : VEq V V2) (next : ∀ (V9 W9 : Vw) (C9 M9 : va_W), ClS g x (i + 6) V9 C9 → MoS g mo W9 M9 → VEq V9 W9 → G g E 4 k n [C9, M9] 1168 [(0, .ref b), (1, .ref x), (2, .ref (mo 0)), (3, .int (iI i))] []) : G g E 4 k n [C, M] 914 [(0, .ref b), (1, .ref x), (2, .ref (mo 0)), (3, .int (iI i))] [] := by
  have hL := hX.2.2.2
  obtain ⟨vs, hrc⟩ := hC.rc
  obtain ⟨vs2, hrm⟩ := hM.rc
  refine r_aload_n 915 hE 1 dL_law_914 rfl rfl rfl ?_
  refine r_aload_n 916 hE 0 dL_law_915 rfl rfl rfl ?_
  refine r_iload_n 917 hE 3 dL_law_916 rfl rfl rfl ?_
  refine r_iconst 918 hE dL_law_917 rfl ?_
  refine r_iadd 919 hE (i + 1) dL_law_918 rfl rfl ?_
  refine r_sld 920 hE hX (by omega) dL_law_919 rfl ?_
  refine r_aload_n 921 hE 0 dL_law_920 rfl rfl rfl ?_
  refine r_iload_n 922 hE 3 dL_law_921 rfl rfl rfl ?_
  refine r_iconst 923 hE dL_law_922 rfl ?_
  refine r_iadd 924 hE (i + 2) dL_law_923 rfl rfl ?_
  refine r_sld 925 hE hX (by omega) dL_law_924 rfl ?_
  refine r_callV 928 hE [0] [1] [C] [M] 0 8 ok8 [] (P8_finds (u1 := sx xs (i + 1)) (u2 := sx xs (i + 2)) (by omega) (sx_rg _ _) (sx_rg _ _) hC) dL_law_925 rfl rfl wd_1003 wd_1004 wd_1005 wd_1 wd_1006 ne_X8 np_X8_finds (Nat.le_of_ble_eq_true rfl) (by decide) hkn rfl (Nat.le_of_ble_eq_true rfl) rfl rfl rfl rfl (by decide) hrc (fun v1 f1 hp => ?_)
  obtain ⟨r1, V9, C9, rfl, rfl, hC9, hA⟩ := hp
  show G g E 4 k n [C9, M] 928 [(0, .ref b), (1, .ref x), (2, .ref (mo 0)), (3, .int (iI i))] [.int (iI r1)]
  refine r_aload_n 929 hE 2 dL_law_928 rfl rfl rfl ?_
  refine r_aload_n 930 hE 0 dL_law_929 rfl rfl rfl ?_
  refine r_iload_n 931 hE 3 dL_law_930 rfl rfl rfl ?_
  refine r_iconst 932 hE dL_law_931 rfl ?_
  refine r_iadd 933 hE (i + 1) dL_law_932 rfl rfl ?_
  refine r_sld 934 hE hX (by omega) dL_law_933 rfl ?_
  refine r_aload_n 935 hE 0 dL_law_934 rfl rfl rfl ?_
  refine r_iload_n 936 hE 3 dL_law_935 rfl rfl rfl ?_
  refine r_iconst 937 hE dL_law_936 rfl ?_
  refine r_iadd 938 hE (i + 2) dL_law_937 rfl rfl ?_
  refine r_sld 939 hE hX (by omega) dL_law_938 rfl ?_
  refine r_callV 942 hE [1] [0] [M] [C9] 0 9 ok9 [.int (iI r1)] (P9_finds (u1 := sx xs (i + 1)) (u2 := sx xs (i + 2)) (sx_rg _ _) (sx_rg _ _) hM) dL_law_939 rfl rfl wd_1501 wd_1502 wd_1503 wd_12 wd_1504 ne_X9 np_X9_finds (Nat.le_of_ble_eq_true rfl) (by decide) hkn rfl (Nat.le_of_ble_eq_true rfl) rfl rfl rfl rfl (by decide) hrm (fun v1 f1 hp => ?_)
  obtain ⟨r2, W9, M9, rfl, rfl, hM9, hB⟩ := hp
  show G g E 4 k n [M9, C9] 942 [(0, .ref b), (1, .ref x), (2, .ref (mo 0)), (3, .int (iI i))] [.int (iI r2), .int (iI r1)]
  obtain ⟨hr, e9⟩ := TR_finds.one hC.vok e hA hB
  subst hr
  refine r_icmp_same 1168 hE dL_law_942 (by decide) ?_
  refine G.to (fs' := [C9, M9]) (lv' := [(0, .ref b), (1, .ref x), (2, .ref (mo 0)), (3, .int (iI i))]) [1, 0] [0, 1, 2, 3] rfl rfl rfl ?_
  exact next _ _ _ _ hC9 hM9 e9
set_option maxHeartbeats 4000000 in
set_option maxRecDepth 100000 in
theorem lc_mirror {g : Gm} {E : Cx} {x b L k n : Nat} {mo : Nat → Nat} {xs : Nat → Int32} {i : Int} {V V2 : Vw} {C M : va_W} (hE : Ok g E 4 RL cL_law 2048 600000 7302250) (hkn : k ≤ 600000 ∧ n ≤ 7302250) (hX : ScrOk E b L xs) (hi : 0 ≤ i ∧ i + 6 ≤ (L : Int)) (hC : ClS g x i V C) (hM : MoS g mo V2 M) (e : VEq V V2) (next : ∀ (V9 W9 : Vw) (C9 M9 : va_W), ClS g x (i + 6) V9 C9 → MoS g mo W9 M9 → VEq V9 W9 → G g E 4 k n [C9, M9] 1168 [(0, .ref b), (1, .ref x), (2, .ref (mo 0)), (3, .int (iI i))] []) : G g E 4 k n [C, M] 947 [(0, .ref b), (1, .ref x), (2, .ref (mo 0)), (3, .int (iI i))] [] := by
  have hL := hX.2.2.2
  obtain ⟨vs, hrc⟩ := hC.rc
  obtain ⟨vs2, hrm⟩ := hM.rc
  refine r_aload_n 948 hE 1 dL_law_947 rfl rfl rfl ?_
  refine r_aload_n 949 hE 0 dL_law_948 rfl rfl rfl ?_
  refine r_iload_n 950 hE 3 dL_law_949 rfl rfl rfl ?_
  refine r_iconst 951 hE dL_law_950 rfl ?_
  refine r_iadd 952 hE (i + 1) dL_law_951 rfl rfl ?_
  refine r_sld 953 hE hX (by omega) dL_law_952 rfl ?_
  refine r_aload_n 954 hE 0 dL_law_953 rfl rfl rfl ?_
  refine r_iload_n 955 hE 3 dL_law_954 rfl rfl rfl ?_
  refine r_iconst 956 hE dL_law_955 rfl ?_
  refine r_iadd 957 hE (i + 2) dL_law_956 rfl rfl ?_
  refine r_sld 958 hE hX (by omega) dL_law_957 rfl ?_
  refine r_aload_n 959 hE 0 dL_law_958 rfl rfl rfl ?_
  refine r_iload_n 960 hE 3 dL_law_959 rfl rfl rfl ?_
  refine r_iconst 961 hE dL_law_960 rfl ?_
  refine r_iadd 962 hE (i + 3) dL_law_961 rfl rfl ?_
  refine r_sld 963 hE hX (by omega) dL_law_962 rfl ?_
  refine r_if_eq 966 970 hE dL_law_963 rfl (by decide) (sx_rg _ _) (fun c963 => ?_) (fun c963 => ?_)
  · skip
    refine r_iconst 971 hE dL_law_970 rfl ?_
    refine r_callV 974 hE [0] [1] [C] [M] 0 8 ok8 [] (P8_mirror (u1 := sx xs (i + 1)) (u2 := sx xs (i + 2)) (u3 := 0) (by omega) (sx_rg _ _) (sx_rg _ _) (by decide) hC) dL_law_971 rfl rfl wd_1011 wd_1012 wd_1013 wd_1 wd_1014 ne_X8 np_X8_mirror (Nat.le_of_ble_eq_true rfl) (by decide) hkn rfl (Nat.le_of_ble_eq_true rfl) rfl rfl rfl rfl (by decide) hrc (fun v1 f1 hp => ?_)
    obtain ⟨r1, V9, C9, rfl, rfl, hC9, hA⟩ := hp
    show G g E 4 k n [C9, M] 974 [(0, .ref b), (1, .ref x), (2, .ref (mo 0)), (3, .int (iI i))] [.int (iI r1)]
    refine r_aload_n 975 hE 2 dL_law_974 rfl rfl rfl ?_
    refine r_aload_n 976 hE 0 dL_law_975 rfl rfl rfl ?_
    refine r_iload_n 977 hE 3 dL_law_976 rfl rfl rfl ?_
    refine r_iconst 978 hE dL_law_977 rfl ?_
    refine r_iadd 979 hE (i + 1) dL_law_978 rfl rfl ?_
    refine r_sld 980 hE hX (by omega) dL_law_979 rfl ?_
    refine r_aload_n 981 hE 0 dL_law_980 rfl rfl rfl ?_
    refine r_iload_n 982 hE 3 dL_law_981 rfl rfl rfl ?_
    refine r_iconst 983 hE dL_law_982 rfl ?_
    refine r_iadd 984 hE (i + 2) dL_law_983 rfl rfl ?_
    refine r_sld 985 hE hX (by omega) dL_law_984 rfl ?_
    refine r_aload_n 986 hE 0 dL_law_985 rfl rfl rfl ?_
    refine r_iload_n 987 hE 3 dL_law_986 rfl rfl rfl ?_
    refine r_iconst 988 hE dL_law_987 rfl ?_
    refine r_iadd 989 hE (i + 3) dL_law_988 rfl rfl ?_
    refine r_sld 990 hE hX (by omega) dL_law_989 rfl ?_
    refine r_if_eq 993 997 hE dL_law_990 rfl (by decide) (sx_rg _ _) (fun c990 => ?_) (fun c990 => ?_)
    · skip
      refine r_iconst 998 hE dL_law_997 rfl ?_
      refine r_callV 1001 hE [1] [0] [M] [C9] 0 9 ok9 [.int (iI r1)] (P9_mirror (u1 := sx xs (i + 1)) (u2 := sx xs (i + 2)) (u3 := 0) (sx_rg _ _) (sx_rg _ _) (by decide) hM) dL_law_998 rfl rfl wd_1505 wd_1506 wd_1507 wd_12 wd_1508 ne_X9 np_X9_mirror (Nat.le_of_ble_eq_true rfl) (by decide) hkn rfl (Nat.le_of_ble_eq_true rfl) rfl rfl rfl rfl (by decide) hrm (fun v1 f1 hp => ?_)
      obtain ⟨r2, W9, M9, rfl, rfl, hM9, hB⟩ := hp
      show G g E 4 k n [M9, C9] 1001 [(0, .ref b), (1, .ref x), (2, .ref (mo 0)), (3, .int (iI i))] [.int (iI r2), .int (iI r1)]
      obtain ⟨hr, e9⟩ := TR_mirror.one hC.vok e hA hB
      subst hr
      refine r_icmp_same 1168 hE dL_law_1001 (by decide) ?_
      refine G.to (fs' := [C9, M9]) (lv' := [(0, .ref b), (1, .ref x), (2, .ref (mo 0)), (3, .int (iI i))]) [1, 0] [0, 1, 2, 3] rfl rfl rfl ?_
      exact next _ _ _ _ hC9 hM9 e9
    · skip
      exact absurd c963 c990
  · skip
    refine r_iconst 967 hE dL_law_966 rfl ?_
    refine r_goto 971 hE dL_law_967 (by decide) ?_
    refine r_callV 974 hE [0] [1] [C] [M] 0 8 ok8 [] (P8_mirror (u1 := sx xs (i + 1)) (u2 := sx xs (i + 2)) (u3 := 1) (by omega) (sx_rg _ _) (sx_rg _ _) (by decide) hC) dL_law_971 rfl rfl wd_1011 wd_1012 wd_1013 wd_1 wd_1014 ne_X8 np_X8_mirror (Nat.le_of_ble_eq_true rfl) (by decide) hkn rfl (Nat.le_of_ble_eq_true rfl) rfl rfl rfl rfl (by decide) hrc (fun v1 f1 hp => ?_)
    obtain ⟨r1, V9, C9, rfl, rfl, hC9, hA⟩ := hp
    show G g E 4 k n [C9, M] 974 [(0, .ref b), (1, .ref x), (2, .ref (mo 0)), (3, .int (iI i))] [.int (iI r1)]
    refine r_aload_n 975 hE 2 dL_law_974 rfl rfl rfl ?_
    refine r_aload_n 976 hE 0 dL_law_975 rfl rfl rfl ?_
    refine r_iload_n 977 hE 3 dL_law_976 rfl rfl rfl ?_
    refine r_iconst 978 hE dL_law_977 rfl ?_
    refine r_iadd 979 hE (i + 1) dL_law_978 rfl rfl ?_
    refine r_sld 980 hE hX (by omega) dL_law_979 rfl ?_
    refine r_aload_n 981 hE 0 dL_law_980 rfl rfl rfl ?_
    refine r_iload_n 982 hE 3 dL_law_981 rfl rfl rfl ?_
    refine r_iconst 983 hE dL_law_982 rfl ?_
    refine r_iadd 984 hE (i + 2) dL_law_983 rfl rfl ?_
    refine r_sld 985 hE hX (by omega) dL_law_984 rfl ?_
    refine r_aload_n 986 hE 0 dL_law_985 rfl rfl rfl ?_
    refine r_iload_n 987 hE 3 dL_law_986 rfl rfl rfl ?_
    refine r_iconst 988 hE dL_law_987 rfl ?_
    refine r_iadd 989 hE (i + 3) dL_law_988 rfl rfl ?_
    refine r_sld 990 hE hX (by omega) dL_law_989 rfl ?_
    refine r_if_eq 993 997 hE dL_law_990 rfl (by decide) (sx_rg _ _) (fun c990 => ?_) (fun c990 => ?_)
    · skip
      exact absurd c990 c963
    · skip
      refine r_iconst 994 hE dL_law_993 rfl ?_
      refine r_goto 998 hE dL_law_994 (by decide) ?_
      refine r_callV 1001 hE [1] [0] [M] [C9] 0 9 ok9 [.int (iI r1)] (P9_mirror (u1 := sx xs (i + 1)) (u2 := sx xs (i + 2)) (u3 := 1) (sx_rg _ _) (sx_rg _ _) (by decide) hM) dL_law_998 rfl rfl wd_1505 wd_1506 wd_1507 wd_12 wd_1508 ne_X9 np_X9_mirror (Nat.le_of_ble_eq_true rfl) (by decide) hkn rfl (Nat.le_of_ble_eq_true rfl) rfl rfl rfl rfl (by decide) hrm (fun v1 f1 hp => ?_)
      obtain ⟨r2, W9, M9, rfl, rfl, hM9, hB⟩ := hp
      show G g E 4 k n [M9, C9] 1001 [(0, .ref b), (1, .ref x), (2, .ref (mo 0)), (3, .int (iI i))] [.int (iI r2), .int (iI r1)]
      obtain ⟨hr, e9⟩ := TR_mirror.one hC.vok e hA hB
      subst hr
      refine r_icmp_same 1168 hE dL_law_1001 (by decide) ?_
      refine G.to (fs' := [C9, M9]) (lv' := [(0, .ref b), (1, .ref x), (2, .ref (mo 0)), (3, .int (iI i))]) [1, 0] [0, 1, 2, 3] rfl rfl rfl ?_
      exact next _ _ _ _ hC9 hM9 e9
set_option maxHeartbeats 4000000 in
set_option maxRecDepth 100000 in
theorem lc_rank {g : Gm} {E : Cx} {x b L k n : Nat} {mo : Nat → Nat} {xs : Nat → Int32} {i : Int} {V V2 : Vw} {C M : va_W} (hE : Ok g E 4 RL cL_law 2048 600000 7302250) (hkn : k ≤ 600000 ∧ n ≤ 7302250) (hX : ScrOk E b L xs) (hi : 0 ≤ i ∧ i + 6 ≤ (L : Int)) (hC : ClS g x i V C) (hM : MoS g mo V2 M) (e : VEq V V2) (next : ∀ (V9 W9 : Vw) (C9 M9 : va_W), ClS g x (i + 6) V9 C9 → MoS g mo W9 M9 → VEq V9 W9 → G g E 4 k n [C9, M9] 1168 [(0, .ref b), (1, .ref x), (2, .ref (mo 0)), (3, .int (iI i))] []) : G g E 4 k n [C, M] 1006 [(0, .ref b), (1, .ref x), (2, .ref (mo 0)), (3, .int (iI i))] [] := by
  have hL := hX.2.2.2
  obtain ⟨vs, hrc⟩ := hC.rc
  obtain ⟨vs2, hrm⟩ := hM.rc
  refine r_aload_n 1007 hE 1 dL_law_1006 rfl rfl rfl ?_
  refine r_aload_n 1008 hE 0 dL_law_1007 rfl rfl rfl ?_
  refine r_iload_n 1009 hE 3 dL_law_1008 rfl rfl rfl ?_
  refine r_iconst 1010 hE dL_law_1009 rfl ?_
  refine r_iadd 1011 hE (i + 1) dL_law_1010 rfl rfl ?_
  refine r_sld 1012 hE hX (by omega) dL_law_1011 rfl ?_
  refine r_aload_n 1013 hE 0 dL_law_1012 rfl rfl rfl ?_
  refine r_iload_n 1014 hE 3 dL_law_1013 rfl rfl rfl ?_
  refine r_iconst 1015 hE dL_law_1014 rfl ?_
  refine r_iadd 1016 hE (i + 2) dL_law_1015 rfl rfl ?_
  refine r_sld 1017 hE hX (by omega) dL_law_1016 rfl ?_
  refine r_aload_n 1018 hE 0 dL_law_1017 rfl rfl rfl ?_
  refine r_iload_n 1019 hE 3 dL_law_1018 rfl rfl rfl ?_
  refine r_iconst 1020 hE dL_law_1019 rfl ?_
  refine r_iadd 1021 hE (i + 3) dL_law_1020 rfl rfl ?_
  refine r_sld 1022 hE hX (by omega) dL_law_1021 rfl ?_
  refine r_callV 1025 hE [0] [1] [C] [M] 0 8 ok8 [] (P8_rank (u1 := sx xs (i + 1)) (u2 := sx xs (i + 2)) (u3 := sx xs (i + 3)) (by omega) (sx_rg _ _) (sx_rg _ _) (sx_rg _ _) hC) dL_law_1022 rfl rfl wd_1019 wd_1020 wd_1021 wd_1 wd_1022 ne_X8 np_X8_rank (Nat.le_of_ble_eq_true rfl) (by decide) hkn rfl (Nat.le_of_ble_eq_true rfl) rfl rfl rfl rfl (by decide) hrc (fun v1 f1 hp => ?_)
  obtain ⟨r1, V9, C9, rfl, rfl, hC9, hA⟩ := hp
  show G g E 4 k n [C9, M] 1025 [(0, .ref b), (1, .ref x), (2, .ref (mo 0)), (3, .int (iI i))] [.int (iI r1)]
  refine r_aload_n 1026 hE 2 dL_law_1025 rfl rfl rfl ?_
  refine r_aload_n 1027 hE 0 dL_law_1026 rfl rfl rfl ?_
  refine r_iload_n 1028 hE 3 dL_law_1027 rfl rfl rfl ?_
  refine r_iconst 1029 hE dL_law_1028 rfl ?_
  refine r_iadd 1030 hE (i + 1) dL_law_1029 rfl rfl ?_
  refine r_sld 1031 hE hX (by omega) dL_law_1030 rfl ?_
  refine r_aload_n 1032 hE 0 dL_law_1031 rfl rfl rfl ?_
  refine r_iload_n 1033 hE 3 dL_law_1032 rfl rfl rfl ?_
  refine r_iconst 1034 hE dL_law_1033 rfl ?_
  refine r_iadd 1035 hE (i + 2) dL_law_1034 rfl rfl ?_
  refine r_sld 1036 hE hX (by omega) dL_law_1035 rfl ?_
  refine r_aload_n 1037 hE 0 dL_law_1036 rfl rfl rfl ?_
  refine r_iload_n 1038 hE 3 dL_law_1037 rfl rfl rfl ?_
  refine r_iconst 1039 hE dL_law_1038 rfl ?_
  refine r_iadd 1040 hE (i + 3) dL_law_1039 rfl rfl ?_
  refine r_sld 1041 hE hX (by omega) dL_law_1040 rfl ?_
  refine r_callV 1044 hE [1] [0] [M] [C9] 0 9 ok9 [.int (iI r1)] (P9_rank (u1 := sx xs (i + 1)) (u2 := sx xs (i + 2)) (u3 := sx xs (i + 3)) (sx_rg _ _) (sx_rg _ _) (sx_rg _ _) hM) dL_law_1041 rfl rfl wd_1509 wd_1510 wd_1511 wd_12 wd_1512 ne_X9 np_X9_rank (Nat.le_of_ble_eq_true rfl) (by decide) hkn rfl (Nat.le_of_ble_eq_true rfl) rfl rfl rfl rfl (by decide) hrm (fun v1 f1 hp => ?_)
  obtain ⟨r2, W9, M9, rfl, rfl, hM9, hB⟩ := hp
  show G g E 4 k n [M9, C9] 1044 [(0, .ref b), (1, .ref x), (2, .ref (mo 0)), (3, .int (iI i))] [.int (iI r2), .int (iI r1)]
  obtain ⟨hr, e9⟩ := TR_rank.one hC.vok e hA hB
  subst hr
  refine r_icmp_same 1168 hE dL_law_1044 (by decide) ?_
  refine G.to (fs' := [C9, M9]) (lv' := [(0, .ref b), (1, .ref x), (2, .ref (mo 0)), (3, .int (iI i))]) [1, 0] [0, 1, 2, 3] rfl rfl rfl ?_
  exact next _ _ _ _ hC9 hM9 e9
set_option maxHeartbeats 4000000 in
set_option maxRecDepth 100000 in
theorem lc_select {g : Gm} {E : Cx} {x b L k n : Nat} {mo : Nat → Nat} {xs : Nat → Int32} {i : Int} {V V2 : Vw} {C M : va_W} (hE : Ok g E 4 RL cL_law 2048 600000 7302250) (hkn : k ≤ 600000 ∧ n ≤ 7302250) (hX : ScrOk E b L xs) (hi : 0 ≤ i ∧ i + 6 ≤ (L : Int)) (hC : ClS g x i V C) (hM : MoS g mo V2 M) (e : VEq V V2) (next : ∀ (V9 W9 : Vw) (C9 M9 : va_W), ClS g x (i + 6) V9 C9 → MoS g mo W9 M9 → VEq V9 W9 → G g E 4 k n [C9, M9] 1168 [(0, .ref b), (1, .ref x), (2, .ref (mo 0)), (3, .int (iI i))] []) : G g E 4 k n [C, M] 1049 [(0, .ref b), (1, .ref x), (2, .ref (mo 0)), (3, .int (iI i))] [] := by
  have hL := hX.2.2.2
  obtain ⟨vs, hrc⟩ := hC.rc
  obtain ⟨vs2, hrm⟩ := hM.rc
  refine r_aload_n 1050 hE 1 dL_law_1049 rfl rfl rfl ?_
  refine r_aload_n 1051 hE 0 dL_law_1050 rfl rfl rfl ?_
  refine r_iload_n 1052 hE 3 dL_law_1051 rfl rfl rfl ?_
  refine r_iconst 1053 hE dL_law_1052 rfl ?_
  refine r_iadd 1054 hE (i + 1) dL_law_1053 rfl rfl ?_
  refine r_sld 1055 hE hX (by omega) dL_law_1054 rfl ?_
  refine r_aload_n 1056 hE 0 dL_law_1055 rfl rfl rfl ?_
  refine r_iload_n 1057 hE 3 dL_law_1056 rfl rfl rfl ?_
  refine r_iconst 1058 hE dL_law_1057 rfl ?_
  refine r_iadd 1059 hE (i + 2) dL_law_1058 rfl rfl ?_
  refine r_sld 1060 hE hX (by omega) dL_law_1059 rfl ?_
  refine r_aload_n 1061 hE 0 dL_law_1060 rfl rfl rfl ?_
  refine r_iload_n 1062 hE 3 dL_law_1061 rfl rfl rfl ?_
  refine r_iconst 1063 hE dL_law_1062 rfl ?_
  refine r_iadd 1064 hE (i + 3) dL_law_1063 rfl rfl ?_
  refine r_sld 1065 hE hX (by omega) dL_law_1064 rfl ?_
  refine r_callV 1068 hE [0] [1] [C] [M] 0 8 ok8 [] (P8_select (u1 := sx xs (i + 1)) (u2 := sx xs (i + 2)) (u3 := sx xs (i + 3)) (by omega) (sx_rg _ _) (sx_rg _ _) (sx_rg _ _) hC) dL_law_1065 rfl rfl wd_1023 wd_1024 wd_1025 wd_1 wd_1026 ne_X8 np_X8_select (Nat.le_of_ble_eq_true rfl) (by decide) hkn rfl (Nat.le_of_ble_eq_true rfl) rfl rfl rfl rfl (by decide) hrc (fun v1 f1 hp => ?_)
  obtain ⟨r1, V9, C9, rfl, rfl, hC9, hA⟩ := hp
  show G g E 4 k n [C9, M] 1068 [(0, .ref b), (1, .ref x), (2, .ref (mo 0)), (3, .int (iI i))] [.int (iI r1)]
  refine r_aload_n 1069 hE 2 dL_law_1068 rfl rfl rfl ?_
  refine r_aload_n 1070 hE 0 dL_law_1069 rfl rfl rfl ?_
  refine r_iload_n 1071 hE 3 dL_law_1070 rfl rfl rfl ?_
  refine r_iconst 1072 hE dL_law_1071 rfl ?_
  refine r_iadd 1073 hE (i + 1) dL_law_1072 rfl rfl ?_
  refine r_sld 1074 hE hX (by omega) dL_law_1073 rfl ?_
  refine r_aload_n 1075 hE 0 dL_law_1074 rfl rfl rfl ?_
  refine r_iload_n 1076 hE 3 dL_law_1075 rfl rfl rfl ?_
  refine r_iconst 1077 hE dL_law_1076 rfl ?_
  refine r_iadd 1078 hE (i + 2) dL_law_1077 rfl rfl ?_
  refine r_sld 1079 hE hX (by omega) dL_law_1078 rfl ?_
  refine r_aload_n 1080 hE 0 dL_law_1079 rfl rfl rfl ?_
  refine r_iload_n 1081 hE 3 dL_law_1080 rfl rfl rfl ?_
  refine r_iconst 1082 hE dL_law_1081 rfl ?_
  refine r_iadd 1083 hE (i + 3) dL_law_1082 rfl rfl ?_
  refine r_sld 1084 hE hX (by omega) dL_law_1083 rfl ?_
  refine r_callV 1087 hE [1] [0] [M] [C9] 0 9 ok9 [.int (iI r1)] (P9_select (u1 := sx xs (i + 1)) (u2 := sx xs (i + 2)) (u3 := sx xs (i + 3)) (sx_rg _ _) (sx_rg _ _) (sx_rg _ _) hM) dL_law_1084 rfl rfl wd_1513 wd_1514 wd_1515 wd_12 wd_1516 ne_X9 np_X9_select (Nat.le_of_ble_eq_true rfl) (by decide) hkn rfl (Nat.le_of_ble_eq_true rfl) rfl rfl rfl rfl (by decide) hrm (fun v1 f1 hp => ?_)
  obtain ⟨r2, W9, M9, rfl, rfl, hM9, hB⟩ := hp
  show G g E 4 k n [M9, C9] 1087 [(0, .ref b), (1, .ref x), (2, .ref (mo 0)), (3, .int (iI i))] [.int (iI r2), .int (iI r1)]
  obtain ⟨hr, e9⟩ := TR_select.one hC.vok e hA hB
  subst hr
  refine r_icmp_same 1168 hE dL_law_1087 (by decide) ?_
  refine G.to (fs' := [C9, M9]) (lv' := [(0, .ref b), (1, .ref x), (2, .ref (mo 0)), (3, .int (iI i))]) [1, 0] [0, 1, 2, 3] rfl rfl rfl ?_
  exact next _ _ _ _ hC9 hM9 e9
set_option maxHeartbeats 4000000 in
set_option maxRecDepth 100000 in
theorem lc_sorted {g : Gm} {E : Cx} {x b L k n : Nat} {mo : Nat → Nat} {xs : Nat → Int32} {i : Int} {V V2 : Vw} {C M : va_W} (hE : Ok g E 4 RL cL_law 2048 600000 7302250) (hkn : k ≤ 600000 ∧ n ≤ 7302250) (hX : ScrOk E b L xs) (hi : 0 ≤ i ∧ i + 6 ≤ (L : Int)) (hC : ClS g x i V C) (hM : MoS g mo V2 M) (e : VEq V V2) (next : ∀ (V9 W9 : Vw) (C9 M9 : va_W), ClS g x (i + 6) V9 C9 → MoS g mo W9 M9 → VEq V9 W9 → G g E 4 k n [C9, M9] 1168 [(0, .ref b), (1, .ref x), (2, .ref (mo 0)), (3, .int (iI i))] []) : G g E 4 k n [C, M] 1092 [(0, .ref b), (1, .ref x), (2, .ref (mo 0)), (3, .int (iI i))] [] := by
  have hL := hX.2.2.2
  obtain ⟨vs, hrc⟩ := hC.rc
  obtain ⟨vs2, hrm⟩ := hM.rc
  refine r_aload_n 1093 hE 1 dL_law_1092 rfl rfl rfl ?_
  refine r_aload_n 1094 hE 0 dL_law_1093 rfl rfl rfl ?_
  refine r_iload_n 1095 hE 3 dL_law_1094 rfl rfl rfl ?_
  refine r_iconst 1096 hE dL_law_1095 rfl ?_
  refine r_iadd 1097 hE (i + 1) dL_law_1096 rfl rfl ?_
  refine r_sld 1098 hE hX (by omega) dL_law_1097 rfl ?_
  refine r_callV 1101 hE [0] [1] [C] [M] 0 8 ok8 [] (P8_sorted (u1 := sx xs (i + 1)) (by omega) (sx_rg _ _) hC) dL_law_1098 rfl rfl wd_1031 wd_1032 wd_1033 wd_1 wd_1034 ne_X8 np_X8_sorted (Nat.le_of_ble_eq_true rfl) (by decide) hkn rfl (Nat.le_of_ble_eq_true rfl) rfl rfl rfl rfl (by decide) hrc (fun v1 f1 hp => ?_)
  obtain ⟨r1, V9, C9, rfl, rfl, hC9, hA⟩ := hp
  show G g E 4 k n [C9, M] 1101 [(0, .ref b), (1, .ref x), (2, .ref (mo 0)), (3, .int (iI i))] [.int (iI r1)]
  refine r_aload_n 1102 hE 2 dL_law_1101 rfl rfl rfl ?_
  refine r_aload_n 1103 hE 0 dL_law_1102 rfl rfl rfl ?_
  refine r_iload_n 1104 hE 3 dL_law_1103 rfl rfl rfl ?_
  refine r_iconst 1105 hE dL_law_1104 rfl ?_
  refine r_iadd 1106 hE (i + 1) dL_law_1105 rfl rfl ?_
  refine r_sld 1107 hE hX (by omega) dL_law_1106 rfl ?_
  refine r_callV 1110 hE [1] [0] [M] [C9] 0 9 ok9 [.int (iI r1)] (P9_sorted (u1 := sx xs (i + 1)) (sx_rg _ _) hM) dL_law_1107 rfl rfl wd_1517 wd_1518 wd_1519 wd_12 wd_1520 ne_X9 np_X9_sorted (Nat.le_of_ble_eq_true rfl) (by decide) hkn rfl (Nat.le_of_ble_eq_true rfl) rfl rfl rfl rfl (by decide) hrm (fun v1 f1 hp => ?_)
  obtain ⟨r2, W9, M9, rfl, rfl, hM9, hB⟩ := hp
  show G g E 4 k n [M9, C9] 1110 [(0, .ref b), (1, .ref x), (2, .ref (mo 0)), (3, .int (iI i))] [.int (iI r2), .int (iI r1)]
  obtain ⟨hr, e9⟩ := TR_sorted.one hC.vok e hA hB
  subst hr
  refine r_icmp_same 1168 hE dL_law_1110 (by decide) ?_
  refine G.to (fs' := [C9, M9]) (lv' := [(0, .ref b), (1, .ref x), (2, .ref (mo 0)), (3, .int (iI i))]) [1, 0] [0, 1, 2, 3] rfl rfl rfl ?_
  exact next _ _ _ _ hC9 hM9 e9
set_option maxHeartbeats 4000000 in
set_option maxRecDepth 100000 in
theorem lc_would {g : Gm} {E : Cx} {x b L k n : Nat} {mo : Nat → Nat} {xs : Nat → Int32} {i : Int} {V V2 : Vw} {C M : va_W} (hE : Ok g E 4 RL cL_law 2048 600000 7302250) (hkn : k ≤ 600000 ∧ n ≤ 7302250) (hX : ScrOk E b L xs) (hi : 0 ≤ i ∧ i + 6 ≤ (L : Int)) (hC : ClS g x i V C) (hM : MoS g mo V2 M) (e : VEq V V2) (next : ∀ (V9 W9 : Vw) (C9 M9 : va_W), ClS g x (i + 6) V9 C9 → MoS g mo W9 M9 → VEq V9 W9 → G g E 4 k n [C9, M9] 1168 [(0, .ref b), (1, .ref x), (2, .ref (mo 0)), (3, .int (iI i))] []) : G g E 4 k n [C, M] 1115 [(0, .ref b), (1, .ref x), (2, .ref (mo 0)), (3, .int (iI i))] [] := by
  have hL := hX.2.2.2
  obtain ⟨vs, hrc⟩ := hC.rc
  obtain ⟨vs2, hrm⟩ := hM.rc
  refine r_aload_n 1116 hE 1 dL_law_1115 rfl rfl rfl ?_
  refine r_aload_n 1117 hE 0 dL_law_1116 rfl rfl rfl ?_
  refine r_iload_n 1118 hE 3 dL_law_1117 rfl rfl rfl ?_
  refine r_iconst 1119 hE dL_law_1118 rfl ?_
  refine r_iadd 1120 hE (i + 1) dL_law_1119 rfl rfl ?_
  refine r_sld 1121 hE hX (by omega) dL_law_1120 rfl ?_
  refine r_aload_n 1122 hE 0 dL_law_1121 rfl rfl rfl ?_
  refine r_iload_n 1123 hE 3 dL_law_1122 rfl rfl rfl ?_
  refine r_iconst 1124 hE dL_law_1123 rfl ?_
  refine r_iadd 1125 hE (i + 2) dL_law_1124 rfl rfl ?_
  refine r_sld 1126 hE hX (by omega) dL_law_1125 rfl ?_
  refine r_aload_n 1127 hE 0 dL_law_1126 rfl rfl rfl ?_
  refine r_iload_n 1128 hE 3 dL_law_1127 rfl rfl rfl ?_
  refine r_iconst 1129 hE dL_law_1128 rfl ?_
  refine r_iadd 1130 hE (i + 3) dL_law_1129 rfl rfl ?_
  refine r_sld 1131 hE hX (by omega) dL_law_1130 rfl ?_
  refine r_aload_n 1132 hE 0 dL_law_1131 rfl rfl rfl ?_
  refine r_iload_n 1133 hE 3 dL_law_1132 rfl rfl rfl ?_
  refine r_iconst 1134 hE dL_law_1133 rfl ?_
  refine r_iadd 1135 hE (i + 4) dL_law_1134 rfl rfl ?_
  refine r_sld 1136 hE hX (by omega) dL_law_1135 rfl ?_
  refine r_callV 1139 hE [0] [1] [C] [M] 0 8 ok8 [] (P8_would (u1 := sx xs (i + 1)) (u2 := sx xs (i + 2)) (u3 := sx xs (i + 3)) (u4 := sx xs (i + 4)) (by omega) (sx_rg _ _) (sx_rg _ _) (sx_rg _ _) (sx_rg _ _) hC) dL_law_1136 rfl rfl wd_1040 wd_1041 wd_1042 wd_1 wd_1043 ne_X8 np_X8_would (Nat.le_of_ble_eq_true rfl) (by decide) hkn rfl (Nat.le_of_ble_eq_true rfl) rfl rfl rfl rfl (by decide) hrc (fun v1 f1 hp => ?_)
  obtain ⟨r1, V9, C9, rfl, rfl, hC9, hA⟩ := hp
  show G g E 4 k n [C9, M] 1139 [(0, .ref b), (1, .ref x), (2, .ref (mo 0)), (3, .int (iI i))] [.int (iI r1)]
  refine r_aload_n 1140 hE 2 dL_law_1139 rfl rfl rfl ?_
  refine r_aload_n 1141 hE 0 dL_law_1140 rfl rfl rfl ?_
  refine r_iload_n 1142 hE 3 dL_law_1141 rfl rfl rfl ?_
  refine r_iconst 1143 hE dL_law_1142 rfl ?_
  refine r_iadd 1144 hE (i + 1) dL_law_1143 rfl rfl ?_
  refine r_sld 1145 hE hX (by omega) dL_law_1144 rfl ?_
  refine r_aload_n 1146 hE 0 dL_law_1145 rfl rfl rfl ?_
  refine r_iload_n 1147 hE 3 dL_law_1146 rfl rfl rfl ?_
  refine r_iconst 1148 hE dL_law_1147 rfl ?_
  refine r_iadd 1149 hE (i + 2) dL_law_1148 rfl rfl ?_
  refine r_sld 1150 hE hX (by omega) dL_law_1149 rfl ?_
  refine r_aload_n 1151 hE 0 dL_law_1150 rfl rfl rfl ?_
  refine r_iload_n 1152 hE 3 dL_law_1151 rfl rfl rfl ?_
  refine r_iconst 1153 hE dL_law_1152 rfl ?_
  refine r_iadd 1154 hE (i + 3) dL_law_1153 rfl rfl ?_
  refine r_sld 1155 hE hX (by omega) dL_law_1154 rfl ?_
  refine r_aload_n 1156 hE 0 dL_law_1155 rfl rfl rfl ?_
  refine r_iload_n 1157 hE 3 dL_law_1156 rfl rfl rfl ?_
  refine r_iconst 1158 hE dL_law_1157 rfl ?_
  refine r_iadd 1159 hE (i + 4) dL_law_1158 rfl rfl ?_
  refine r_sld 1160 hE hX (by omega) dL_law_1159 rfl ?_
  refine r_callV 1163 hE [1] [0] [M] [C9] 0 9 ok9 [.int (iI r1)] (P9_would (u1 := sx xs (i + 1)) (u2 := sx xs (i + 2)) (u3 := sx xs (i + 3)) (u4 := sx xs (i + 4)) (sx_rg _ _) (sx_rg _ _) (sx_rg _ _) (sx_rg _ _) hM) dL_law_1160 rfl rfl wd_1374 wd_1375 wd_1376 wd_12 wd_1377 ne_X9 np_X9_would (Nat.le_of_ble_eq_true rfl) (by decide) hkn rfl (Nat.le_of_ble_eq_true rfl) rfl rfl rfl rfl (by decide) hrm (fun v1 f1 hp => ?_)
  obtain ⟨r2, W9, M9, rfl, rfl, hM9, hB⟩ := hp
  show G g E 4 k n [M9, C9] 1163 [(0, .ref b), (1, .ref x), (2, .ref (mo 0)), (3, .int (iI i))] [.int (iI r2), .int (iI r1)]
  obtain ⟨hr, e9⟩ := TR_would.one hC.vok e hA hB
  subst hr
  refine r_icmp_same 1168 hE dL_law_1163 (by decide) ?_
  refine G.to (fs' := [C9, M9]) (lv' := [(0, .ref b), (1, .ref x), (2, .ref (mo 0)), (3, .int (iI i))]) [1, 0] [0, 1, 2, 3] rfl rfl rfl ?_
  exact next _ _ _ _ hC9 hM9 e9
