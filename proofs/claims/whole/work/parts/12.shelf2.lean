def wRow (g : Gm) (r : Nat → Nat) (m : Nat) (RL : Int → Int) (rlen : Int) : va_W := [ob (r 0) 2 [.ref (r 1), .int (iI rlen)], ba g (r 1) m RL]
set_option maxHeartbeats 4000000 in
set_option maxRecDepth 100000 in
theorem c_J6_compare_7cf53 {g : Gm} {x y : Int} (hx : -2147483648 ≤ x ∧ x ≤ 2147483647) (hy : -2147483648 ≤ y ∧ y ≤ 2147483647) : Ct g 0 0 0 yJ6_compare_7cf53 cJ6_compare_7cf53 2 (some .int) [.int (iI x), .int (iI y)] [] (fun v w => v = some (.int (iI (cmpI x y))) ∧ w = []) := by
  refine Ct.of (by decide) (Nat.le_of_ble_eq_true rfl) (lv := [(0, .int (iI x)), (1, .int (iI y))]) rfl ?_
  intro E hE hR hnm
  refine r_iload_n 1 hE 0 dJ6_compare_7cf53_0 rfl rfl rfl ?_
  refine r_iload_n 2 hE 1 dJ6_compare_7cf53_1 rfl rfl rfl ?_
  refine r_icmp_ge 5 9 hE dJ6_compare_7cf53_2 rfl (by decide) (by omega) (fun c2 => ?_) (fun c2 => ?_)
  · skip
    refine r_iload_n 10 hE 0 dJ6_compare_7cf53_9 rfl rfl rfl ?_
    refine r_iload_n 11 hE 1 dJ6_compare_7cf53_10 rfl rfl rfl ?_
    refine r_icmp_ne 14 18 hE dJ6_compare_7cf53_11 rfl (by decide) (by omega) (fun c11 => ?_) (fun c11 => ?_)
    · skip
      refine r_iconst 19 hE dJ6_compare_7cf53_18 rfl ?_
      refine r_ireturn hE hR [] dJ6_compare_7cf53_19 (Nat.le_of_ble_eq_true rfl) (Nat.le_of_ble_eq_true rfl) rfl ?_
      exact ⟨retI (by unfold cmpI; (repeat (first | rw [if_pos (by omega)] | rw [if_neg (by omega)]))), rfl⟩
    · skip
      refine r_iconst 15 hE dJ6_compare_7cf53_14 rfl ?_
      refine r_goto 19 hE dJ6_compare_7cf53_15 (by decide) ?_
      refine r_ireturn hE hR [] dJ6_compare_7cf53_19 (Nat.le_of_ble_eq_true rfl) (Nat.le_of_ble_eq_true rfl) rfl ?_
      exact ⟨retI (by unfold cmpI; (repeat (first | rw [if_pos (by omega)] | rw [if_neg (by omega)]))), rfl⟩
  · skip
    refine r_iconst 6 hE dJ6_compare_7cf53_5 rfl ?_
    refine r_goto 19 hE dJ6_compare_7cf53_6 (by decide) ?_
    refine r_ireturn hE hR [] dJ6_compare_7cf53_19 (Nat.le_of_ble_eq_true rfl) (Nat.le_of_ble_eq_true rfl) rfl ?_
    exact ⟨retI (by unfold cmpI; (repeat (first | rw [if_pos (by omega)] | rw [if_neg (by omega)]))), rfl⟩
set_option maxHeartbeats 4000000 in
set_option maxRecDepth 100000 in
theorem c_X5_allLetters {g : Gm} {a : Nat → Nat} {L ln tp rd : Int → Int} {cnt era nws : Int} (hc : 0 ≤ cnt ∧ cnt ≤ 8) (hln : ∀ j, 0 ≤ j → j < cnt → 0 ≤ ln j ∧ ln j ≤ 600) : Ct g 2 0 0 yX5_allLetters cX5_allLetters 3 (some .int) [.ref (a 0)] [(wShelf g a L ln tp rd cnt era nws)] (fun v w => v = some (.int (iI (sumF ln cnt))) ∧ w = [(wShelf g a L ln tp rd cnt era nws)]) := by
  refine Ct.of (by decide) (Nat.le_of_ble_eq_true rfl) (lv := [(0, .ref (a 0))]) rfl ?_
  intro E hE hR hnm
  have cut4 : ∀ (N : Nat) (i : Int), 0 ≤ i ∧ i ≤ cnt → (cnt - i).toNat < N → G g E 3 0 0 [(wShelf g a L ln tp rd cnt era nws)] 4 [(0, .ref (a 0)), (1, .int (iI (sumF ln i))), (2, .int (iI i))] [] := by
    intro N
    induction N with
    | zero => intro i _ hN; exact absurd hN (Nat.not_lt_zero _)
    | succ N ih4 =>
      intro i hi hN
      have hs := sumF_bd (f := ln) (m := 600) (by omega) i.toNat (fun j a b => hln j a (by omega))
      refine r_iload_n 5 hE 2 dX5_allLetters_4 rfl rfl rfl ?_
      refine r_aload_n 6 hE 0 dX5_allLetters_5 rfl rfl rfl ?_
      refine r_get 9 hE 0 0 ok5 4 dX5_allLetters_6 rfl wd_82 rfl rfl (by decide) rfl ?_
      refine r_icmp_ge 12 26 hE dX5_allLetters_9 rfl (by decide) (by omega) (fun c9 => ?_) (fun c9 => ?_)
      · skip
        refine r_iload_n 27 hE 1 dX5_allLetters_26 rfl rfl rfl ?_
        refine r_ireturn hE hR [(wShelf g a L ln tp rd cnt era nws)] dX5_allLetters_27 (Nat.le_of_ble_eq_true rfl) (Nat.le_of_ble_eq_true rfl) rfl ?_
        exact ⟨retI (by rw [show i = cnt by omega]), rfl⟩
      · skip
        refine r_iload_n 13 hE 1 dX5_allLetters_12 rfl rfl rfl ?_
        refine r_aload_n 14 hE 0 dX5_allLetters_13 rfl rfl rfl ?_
        refine r_iload_n 15 hE 2 dX5_allLetters_14 rfl rfl rfl ?_
        refine r_callV 18 hE [0] [] [(wShelf g a L ln tp rd cnt era nws)] [] 0 5 ok5 [.int (iI (sumF ln i))] (c_X5_lengthOf (by omega) (by omega)) dX5_allLetters_15 rfl rfl wd_755 wd_631 wd_632 wd_4 wd_633 ne_X5 np_X5_lengthOf (Nat.le_of_ble_eq_true rfl)  (by decide) (by decide) rfl (Nat.le_of_ble_eq_true rfl) rfl rfl rfl rfl (by decide) rfl (fun v1 f1 hp => ?_)
        obtain ⟨rfl, rfl⟩ := hp
        show G g E _ _ _ [(wShelf g a L ln tp rd cnt era nws)] 18 [(0, .ref (a 0)), (1, .int (iI (sumF ln i))), (2, .int (iI i))] [.int (iI (ln i)), .int (iI (sumF ln i))]
        refine r_iadd 19 hE ((sumF ln i) + (ln i)) dX5_allLetters_18 rfl rfl ?_
        refine r_istore_n 20 hE [(1, .int (iI ((sumF ln i) + (ln i)))), (0, .ref (a 0)), (2, .int (iI i))] dX5_allLetters_19 rfl rfl (by decide) rfl ?_
        refine r_iinc 23 hE 2 (i + 1) [(2, .int (iI (i + 1))), (1, .int (iI ((sumF ln i) + (ln i)))), (0, .ref (a 0))] dX5_allLetters_20 rfl rfl rfl (by decide) rfl ?_
        refine r_goto 4 hE dX5_allLetters_23 (by decide) ?_
        refine G.to (fs' := [(wShelf g a L ln tp rd cnt era nws)]) (lv' := [(0, .ref (a 0)), (1, .int (iI ((sumF ln i) + (ln i)))), (2, .int (iI (i + 1)))]) [0] [2, 1, 0] rfl rfl rfl ?_
        rw [show ((sumF ln i) + (ln i) : Int) = sumF ln (i + 1) from by first | exact (sumF_succ ln hi.1).symm | rfl]
        exact ih4 (i + 1) (by omega) (by omega)
  refine r_iconst 1 hE dX5_allLetters_0 rfl ?_
  refine r_istore_n 2 hE [(1, .int (iI 0)), (0, .ref (a 0))] dX5_allLetters_1 rfl rfl (by decide) rfl ?_
  refine r_iconst 3 hE dX5_allLetters_2 rfl ?_
  refine r_istore_n 4 hE [(2, .int (iI 0)), (1, .int (iI 0)), (0, .ref (a 0))] dX5_allLetters_3 rfl rfl (by decide) rfl ?_
  refine G.to (fs' := [(wShelf g a L ln tp rd cnt era nws)]) (lv' := [(0, .ref (a 0)), (1, .int (iI 0)), (2, .int (iI 0))]) [0] [2, 1, 0] rfl rfl rfl ?_
  rw [show (0 : Int) = sumF ln 0 from by first | exact (sumF_succ ln hi.1).symm | rfl]
  exact cut4 _ 0 (by omega) (Nat.lt_succ_self _)
set_option maxHeartbeats 4000000 in
set_option maxRecDepth 100000 in
theorem c_X5_copyText {g : Gm} {a : Nat → Nat} {L ln tp rd : Int → Int} {cnt era nws : Int} {b : Nat → Nat} {L2 ln2 tp2 rd2 : Int → Int} {cnt2 era2 nws2 : Int} {t u : Int} (hin : 0 ≤ t ∧ t < cnt2) (hc2 : 0 ≤ cnt2 ∧ cnt2 ≤ 8) (hu : 0 ≤ u ∧ u < 8) (hl : 0 ≤ ln2 t ∧ ln2 t ≤ 600) (hB : BR L2) : Ct g 1 0 0 yX5_copyText cX5_copyText 4 none [.ref (a 0), .ref (b 0), .int (iI t), .int (iI u)] [(wShelf g a L ln tp rd cnt era nws), (wShelf g b L2 ln2 tp2 rd2 cnt2 era2 nws2)] (fun v w => v = none ∧ w = [(wShelf g a (cpy L2 L (t * 600) (u * 600) (ln2 t)) (up ln u (ln2 t)) (up tp u (tp2 t)) (up rd u (rd2 t)) cnt era nws), (wShelf g b L2 ln2 tp2 rd2 cnt2 era2 nws2)]) := by
  refine Ct.of (by decide) (Nat.le_of_ble_eq_true rfl) (lv := [(0, .ref (a 0)), (1, .ref (b 0)), (2, .int (iI t)), (3, .int (iI u))]) rfl ?_
  intro E hE hR hnm
  refine r_aload_n 1 hE 1 dX5_copyText_0 rfl rfl rfl ?_
  refine r_iload_n 2 hE 2 dX5_copyText_1 rfl rfl rfl ?_
  refine r_callV 5 hE [1] [0] [(wShelf g b L2 ln2 tp2 rd2 cnt2 era2 nws2)] [(wShelf g a L ln tp rd cnt era nws)] 0 5 ok5 [] (c_X5_has (by omega) (by omega)) dX5_copyText_2 rfl rfl wd_634 wd_578 wd_579 wd_4 wd_580 ne_X5 np_X5_has (Nat.le_of_ble_eq_true rfl)  (by decide) (by decide) rfl (Nat.le_of_ble_eq_true rfl) rfl rfl rfl rfl (by decide) rfl (fun v1 f1 hp => ?_)
  obtain ⟨rfl, rfl⟩ := hp
  show G g E _ _ _ [(wShelf g b L2 ln2 tp2 rd2 cnt2 era2 nws2), (wShelf g a L ln tp rd cnt era nws)] 5 [(0, .ref (a 0)), (1, .ref (b 0)), (2, .int (iI t)), (3, .int (iI u))] [.int (iI (bI (0 ≤ t ∧ t < cnt2)))]
  refine r_if_eq 8 18 hE dX5_copyText_5 rfl (by decide) (bI_rg _) (fun c5 => ?_) (fun c5 => ?_)
  · skip
    have c5 := bI0 c5
    exact absurd hin c5
  · skip
    have c5 := bI1 c5
    refine r_iload_n 9 hE 3 dX5_copyText_8 rfl rfl rfl ?_
    refine r_if_lt 12 18 hE dX5_copyText_9 rfl (by decide) (by omega) (fun c9 => ?_) (fun c9 => ?_)
    · skip
      omega
    · skip
      refine r_iload_n 13 hE 3 dX5_copyText_12 rfl rfl rfl ?_
      refine r_bipush 15 hE dX5_copyText_13 rfl (by decide) ?_
      refine r_icmp_lt 18 19 hE dX5_copyText_15 rfl (by decide) (by omega) (fun c15 => ?_) (fun c15 => ?_)
      · skip
        refine r_aload_n 20 hE 1 dX5_copyText_19 rfl rfl rfl ?_
        refine r_get 23 hE 0 0 ok5 0 dX5_copyText_20 rfl wd_75 rfl rfl (by decide) rfl ?_
        refine r_iload_n 24 hE 2 dX5_copyText_23 rfl rfl rfl ?_
        refine r_sipush 27 hE dX5_copyText_24 rfl (by decide) ?_
        refine r_imul 28 hE (t * 600) dX5_copyText_27 rfl rfl ?_
        refine r_aload_n 29 hE 0 dX5_copyText_28 rfl rfl rfl ?_
        refine r_get 32 hE 1 0 ok5 0 dX5_copyText_29 rfl wd_75 rfl rfl (by decide) rfl ?_
        refine r_iload_n 33 hE 3 dX5_copyText_32 rfl rfl rfl ?_
        refine r_sipush 36 hE dX5_copyText_33 rfl (by decide) ?_
        refine r_imul 37 hE (u * 600) dX5_copyText_36 rfl rfl ?_
        refine r_aload_n 38 hE 1 dX5_copyText_37 rfl rfl rfl ?_
        refine r_get 41 hE 0 0 ok5 1 dX5_copyText_38 rfl wd_78 rfl rfl (by decide) rfl ?_
        refine r_iload_n 42 hE 2 dX5_copyText_41 rfl rfl rfl ?_
        refine r_iald 43 hE 0 2 dX5_copyText_42 rfl rfl rfl (by omega) ?_
        refine r_copyB 46 hE 0 1 1 1 (wShelf g a (cpy L2 L (t * 600) (u * 600) (ln2 t)) ln tp rd cnt era nws) [(wShelf g b L2 ln2 tp2 rd2 cnt2 era2 nws2), (wShelf g a (cpy L2 L (t * 600) (u * 600) (ln2 t)) ln tp rd cnt era nws)] dX5_copyText_43 rfl wd_616 wd_587 wd_586 wd_18 (Nat.le_of_ble_eq_true rfl) (by decide) rfl rfl rfl rfl (by omega) (hB) rfl rfl ?_
        refine r_aload_n 47 hE 0 dX5_copyText_46 rfl rfl rfl ?_
        refine r_get 50 hE 1 0 ok5 1 dX5_copyText_47 rfl wd_78 rfl rfl (by decide) rfl ?_
        refine r_iload_n 51 hE 3 dX5_copyText_50 rfl rfl rfl ?_
        refine r_aload_n 52 hE 1 dX5_copyText_51 rfl rfl rfl ?_
        refine r_get 55 hE 0 0 ok5 1 dX5_copyText_52 rfl wd_78 rfl rfl (by decide) rfl ?_
        refine r_iload_n 56 hE 2 dX5_copyText_55 rfl rfl rfl ?_
        refine r_iald 57 hE 0 2 dX5_copyText_56 rfl rfl rfl (by omega) ?_
        refine r_iast 58 hE 1 2 (wShelf g a (cpy L2 L (t * 600) (u * 600) (ln2 t)) (up ln u (ln2 t)) tp rd cnt era nws) [(wShelf g b L2 ln2 tp2 rd2 cnt2 era2 nws2), (wShelf g a (cpy L2 L (t * 600) (u * 600) (ln2 t)) (up ln u (ln2 t)) tp rd cnt era nws)] dX5_copyText_57 rfl rfl rfl (by omega) rfl rfl ?_
        refine r_aload_n 59 hE 0 dX5_copyText_58 rfl rfl rfl ?_
        refine r_get 62 hE 1 0 ok5 2 dX5_copyText_59 rfl wd_80 rfl rfl (by decide) rfl ?_
        refine r_iload_n 63 hE 3 dX5_copyText_62 rfl rfl rfl ?_
        refine r_aload_n 64 hE 1 dX5_copyText_63 rfl rfl rfl ?_
        refine r_get 67 hE 0 0 ok5 2 dX5_copyText_64 rfl wd_80 rfl rfl (by decide) rfl ?_
        refine r_iload_n 68 hE 2 dX5_copyText_67 rfl rfl rfl ?_
        refine r_iald 69 hE 0 3 dX5_copyText_68 rfl rfl rfl (by omega) ?_
        refine r_iast 70 hE 1 3 (wShelf g a (cpy L2 L (t * 600) (u * 600) (ln2 t)) (up ln u (ln2 t)) (up tp u (tp2 t)) rd cnt era nws) [(wShelf g b L2 ln2 tp2 rd2 cnt2 era2 nws2), (wShelf g a (cpy L2 L (t * 600) (u * 600) (ln2 t)) (up ln u (ln2 t)) (up tp u (tp2 t)) rd cnt era nws)] dX5_copyText_69 rfl rfl rfl (by omega) rfl rfl ?_
        refine r_aload_n 71 hE 0 dX5_copyText_70 rfl rfl rfl ?_
        refine r_get 74 hE 1 0 ok5 3 dX5_copyText_71 rfl wd_81 rfl rfl (by decide) rfl ?_
        refine r_iload_n 75 hE 3 dX5_copyText_74 rfl rfl rfl ?_
        refine r_aload_n 76 hE 1 dX5_copyText_75 rfl rfl rfl ?_
        refine r_get 79 hE 0 0 ok5 3 dX5_copyText_76 rfl wd_81 rfl rfl (by decide) rfl ?_
        refine r_iload_n 80 hE 2 dX5_copyText_79 rfl rfl rfl ?_
        refine r_iald 81 hE 0 4 dX5_copyText_80 rfl rfl rfl (by omega) ?_
        refine r_iast 82 hE 1 4 (wShelf g a (cpy L2 L (t * 600) (u * 600) (ln2 t)) (up ln u (ln2 t)) (up tp u (tp2 t)) (up rd u (rd2 t)) cnt era nws) [(wShelf g b L2 ln2 tp2 rd2 cnt2 era2 nws2), (wShelf g a (cpy L2 L (t * 600) (u * 600) (ln2 t)) (up ln u (ln2 t)) (up tp u (tp2 t)) (up rd u (rd2 t)) cnt era nws)] dX5_copyText_81 rfl rfl rfl (by omega) rfl rfl ?_
        refine G.to (fs' := [(wShelf g a (cpy L2 L (t * 600) (u * 600) (ln2 t)) (up ln u (ln2 t)) (up tp u (tp2 t)) (up rd u (rd2 t)) cnt era nws), (wShelf g b L2 ln2 tp2 rd2 cnt2 era2 nws2)]) [1, 0] [0, 1, 2, 3] rfl rfl rfl ?_
        refine r_return hE hR [(wShelf g a (cpy L2 L (t * 600) (u * 600) (ln2 t)) (up ln u (ln2 t)) (up tp u (tp2 t)) (up rd u (rd2 t)) cnt era nws), (wShelf g b L2 ln2 tp2 rd2 cnt2 era2 nws2)] dX5_copyText_82 (Nat.le_of_ble_eq_true rfl) (Nat.le_of_ble_eq_true rfl) rfl ?_
        exact ⟨rfl, rfl⟩
      · skip
        omega
set_option maxHeartbeats 4000000 in
set_option maxRecDepth 100000 in
theorem c_X5_copyText_self {g : Gm} {a : Nat → Nat} {L ln tp rd : Int → Int} {cnt era nws : Int} {t u : Int} (hin : 0 ≤ t ∧ t < cnt) (hc : 0 ≤ cnt ∧ cnt ≤ 8) (hu : 0 ≤ u ∧ u < 8) (hl : 0 ≤ ln t ∧ ln t ≤ 600) (hn : t ≠ u) (hB : BR L) : Ct g 1 0 0 yX5_copyText cX5_copyText 4 none [.ref (a 0), .ref (a 0), .int (iI t), .int (iI u)] [(wShelf g a L ln tp rd cnt era nws)] (fun v w => v = none ∧ w = [(wShelf g a (cpy L L (t * 600) (u * 600) (ln t)) (up ln u (ln t)) (up tp u (tp t)) (up rd u (rd t)) cnt era nws)]) := by
  refine Ct.of (by decide) (Nat.le_of_ble_eq_true rfl) (lv := [(0, .ref (a 0)), (1, .ref (a 0)), (2, .int (iI t)), (3, .int (iI u))]) rfl ?_
  intro E hE hR hnm
  refine r_aload_n 1 hE 1 dX5_copyText_0 rfl rfl rfl ?_
  refine r_iload_n 2 hE 2 dX5_copyText_1 rfl rfl rfl ?_
  refine r_callV 5 hE [0] [] [(wShelf g a L ln tp rd cnt era nws)] [] 0 5 ok5 [] (c_X5_has (by omega) (by omega)) dX5_copyText_2 rfl rfl wd_634 wd_578 wd_579 wd_4 wd_580 ne_X5 np_X5_has (Nat.le_of_ble_eq_true rfl)  (by decide) (by decide) rfl (Nat.le_of_ble_eq_true rfl) rfl rfl rfl rfl (by decide) rfl (fun v1 f1 hp => ?_)
  obtain ⟨rfl, rfl⟩ := hp
  show G g E _ _ _ [(wShelf g a L ln tp rd cnt era nws)] 5 [(0, .ref (a 0)), (1, .ref (a 0)), (2, .int (iI t)), (3, .int (iI u))] [.int (iI (bI (0 ≤ t ∧ t < cnt)))]
  refine r_if_eq 8 18 hE dX5_copyText_5 rfl (by decide) (bI_rg _) (fun c5 => ?_) (fun c5 => ?_)
  · skip
    have c5 := bI0 c5
    exact absurd hin c5
  · skip
    have c5 := bI1 c5
    refine r_iload_n 9 hE 3 dX5_copyText_8 rfl rfl rfl ?_
    refine r_if_lt 12 18 hE dX5_copyText_9 rfl (by decide) (by omega) (fun c9 => ?_) (fun c9 => ?_)
    · skip
      omega
    · skip
      refine r_iload_n 13 hE 3 dX5_copyText_12 rfl rfl rfl ?_
      refine r_bipush 15 hE dX5_copyText_13 rfl (by decide) ?_
      refine r_icmp_lt 18 19 hE dX5_copyText_15 rfl (by decide) (by omega) (fun c15 => ?_) (fun c15 => ?_)
      · skip
        refine r_aload_n 20 hE 1 dX5_copyText_19 rfl rfl rfl ?_
        refine r_get 23 hE 0 0 ok5 0 dX5_copyText_20 rfl wd_75 rfl rfl (by decide) rfl ?_
        refine r_iload_n 24 hE 2 dX5_copyText_23 rfl rfl rfl ?_
        refine r_sipush 27 hE dX5_copyText_24 rfl (by decide) ?_
        refine r_imul 28 hE (t * 600) dX5_copyText_27 rfl rfl ?_
        refine r_aload_n 29 hE 0 dX5_copyText_28 rfl rfl rfl ?_
        refine r_get 32 hE 0 0 ok5 0 dX5_copyText_29 rfl wd_75 rfl rfl (by decide) rfl ?_
        refine r_iload_n 33 hE 3 dX5_copyText_32 rfl rfl rfl ?_
        refine r_sipush 36 hE dX5_copyText_33 rfl (by decide) ?_
        refine r_imul 37 hE (u * 600) dX5_copyText_36 rfl rfl ?_
        refine r_aload_n 38 hE 1 dX5_copyText_37 rfl rfl rfl ?_
        refine r_get 41 hE 0 0 ok5 1 dX5_copyText_38 rfl wd_78 rfl rfl (by decide) rfl ?_
        refine r_iload_n 42 hE 2 dX5_copyText_41 rfl rfl rfl ?_
        refine r_iald 43 hE 0 2 dX5_copyText_42 rfl rfl rfl (by omega) ?_
        refine r_copyB 46 hE 0 1 0 1 (wShelf g a (cpy L L (t * 600) (u * 600) (ln t)) ln tp rd cnt era nws) [(wShelf g a (cpy L L (t * 600) (u * 600) (ln t)) ln tp rd cnt era nws)] dX5_copyText_43 rfl wd_616 wd_587 wd_586 wd_18 (Nat.le_of_ble_eq_true rfl) (by decide) rfl rfl rfl rfl (by omega) (hB) rfl rfl ?_
        refine r_aload_n 47 hE 0 dX5_copyText_46 rfl rfl rfl ?_
        refine r_get 50 hE 0 0 ok5 1 dX5_copyText_47 rfl wd_78 rfl rfl (by decide) rfl ?_
        refine r_iload_n 51 hE 3 dX5_copyText_50 rfl rfl rfl ?_
        refine r_aload_n 52 hE 1 dX5_copyText_51 rfl rfl rfl ?_
        refine r_get 55 hE 0 0 ok5 1 dX5_copyText_52 rfl wd_78 rfl rfl (by decide) rfl ?_
        refine r_iload_n 56 hE 2 dX5_copyText_55 rfl rfl rfl ?_
        refine r_iald 57 hE 0 2 dX5_copyText_56 rfl rfl rfl (by omega) ?_
        refine r_iast 58 hE 0 2 (wShelf g a (cpy L L (t * 600) (u * 600) (ln t)) (up ln u (ln t)) tp rd cnt era nws) [(wShelf g a (cpy L L (t * 600) (u * 600) (ln t)) (up ln u (ln t)) tp rd cnt era nws)] dX5_copyText_57 rfl rfl rfl (by omega) rfl rfl ?_
        refine r_aload_n 59 hE 0 dX5_copyText_58 rfl rfl rfl ?_
        refine r_get 62 hE 0 0 ok5 2 dX5_copyText_59 rfl wd_80 rfl rfl (by decide) rfl ?_
        refine r_iload_n 63 hE 3 dX5_copyText_62 rfl rfl rfl ?_
        refine r_aload_n 64 hE 1 dX5_copyText_63 rfl rfl rfl ?_
        refine r_get 67 hE 0 0 ok5 2 dX5_copyText_64 rfl wd_80 rfl rfl (by decide) rfl ?_
        refine r_iload_n 68 hE 2 dX5_copyText_67 rfl rfl rfl ?_
        refine r_iald 69 hE 0 3 dX5_copyText_68 rfl rfl rfl (by omega) ?_
        refine r_iast 70 hE 0 3 (wShelf g a (cpy L L (t * 600) (u * 600) (ln t)) (up ln u (ln t)) (up tp u (tp t)) rd cnt era nws) [(wShelf g a (cpy L L (t * 600) (u * 600) (ln t)) (up ln u (ln t)) (up tp u (tp t)) rd cnt era nws)] dX5_copyText_69 rfl rfl rfl (by omega) rfl rfl ?_
        refine r_aload_n 71 hE 0 dX5_copyText_70 rfl rfl rfl ?_
        refine r_get 74 hE 0 0 ok5 3 dX5_copyText_71 rfl wd_81 rfl rfl (by decide) rfl ?_
        refine r_iload_n 75 hE 3 dX5_copyText_74 rfl rfl rfl ?_
        refine r_aload_n 76 hE 1 dX5_copyText_75 rfl rfl rfl ?_
        refine r_get 79 hE 0 0 ok5 3 dX5_copyText_76 rfl wd_81 rfl rfl (by decide) rfl ?_
        refine r_iload_n 80 hE 2 dX5_copyText_79 rfl rfl rfl ?_
        refine r_iald 81 hE 0 4 dX5_copyText_80 rfl rfl rfl (by omega) ?_
        refine r_iast 82 hE 0 4 (wShelf g a (cpy L L (t * 600) (u * 600) (ln t)) (up ln u (ln t)) (up tp u (tp t)) (up rd u (rd t)) cnt era nws) [(wShelf g a (cpy L L (t * 600) (u * 600) (ln t)) (up ln u (ln t)) (up tp u (tp t)) (up rd u (rd t)) cnt era nws)] dX5_copyText_81 rfl rfl rfl (by omega) rfl rfl ?_
        refine r_return hE hR [(wShelf g a (cpy L L (t * 600) (u * 600) (ln t)) (up ln u (ln t)) (up tp u (tp t)) (up rd u (rd t)) cnt era nws)] dX5_copyText_82 (Nat.le_of_ble_eq_true rfl) (Nat.le_of_ble_eq_true rfl) rfl ?_
        exact ⟨rfl, rfl⟩
      · skip
        omega
set_option maxHeartbeats 4000000 in
set_option maxRecDepth 100000 in
theorem c_X5_copy {g : Gm} {a : Nat → Nat} {L ln tp rd : Int → Int} {cnt era nws : Int} {b : Nat → Nat} {L2 ln2 tp2 rd2 : Int → Int} {cnt2 era2 nws2 : Int} (hc2 : 0 ≤ cnt2 ∧ cnt2 ≤ 8) (hln2 : ∀ j, 0 ≤ j → j < cnt2 → 0 ≤ ln2 j ∧ ln2 j ≤ 600) (hB : BR L) (hB2 : BR L2) : Ct g 2 0 0 yX5_copy cX5_copy 3 none [.ref (a 0), .ref (b 0)] [(wShelf g a L ln tp rd cnt era nws), (wShelf g b L2 ln2 tp2 rd2 cnt2 era2 nws2)] (fun v w => ∃ L9 : Int → Int, ∃ ln9 : Int → Int, ∃ tp9 : Int → Int, ∃ rd9 : Int → Int, v = none ∧ w = [(wShelf g a L9 ln9 tp9 rd9 cnt2 era2 nws), (wShelf g b L2 ln2 tp2 rd2 cnt2 era2 nws2)] ∧ (CopyTo cnt2 L2 ln2 tp2 rd2 L9 ln9 tp9 rd9) ∧ (BR L9)) := by
  refine Ct.of (by decide) (Nat.le_of_ble_eq_true rfl) (lv := [(0, .ref (a 0)), (1, .ref (b 0))]) rfl ?_
  intro E hE hR hnm
  have cut2 : ∀ (N : Nat) (i : Int) (L9 : Int → Int) (ln9 : Int → Int) (tp9 : Int → Int) (rd9 : Int → Int), 0 ≤ i ∧ i ≤ cnt2 → CopyTo i L2 ln2 tp2 rd2 L9 ln9 tp9 rd9 → BR L9 → (cnt2 - i).toNat < N → G g E 3 0 0 [(wShelf g a L9 ln9 tp9 rd9 cnt era nws), (wShelf g b L2 ln2 tp2 rd2 cnt2 era2 nws2)] 2 [(0, .ref (a 0)), (1, .ref (b 0)), (2, .int (iI i))] [] := by
    intro N
    induction N with
    | zero => intro i L9 ln9 tp9 rd9 _ _ _ hN; exact absurd hN (Nat.not_lt_zero _)
    | succ N ih2 =>
      intro i L9 ln9 tp9 rd9 hi hcp hb9 hN
      refine r_iload_n 3 hE 2 dX5_copy_2 rfl rfl rfl ?_
      refine r_aload_n 4 hE 1 dX5_copy_3 rfl rfl rfl ?_
      refine r_get 7 hE 1 0 ok5 4 dX5_copy_4 rfl wd_82 rfl rfl (by decide) rfl ?_
      refine r_icmp_ge 10 23 hE dX5_copy_7 rfl (by decide) (by omega) (fun c7 => ?_) (fun c7 => ?_)
      · skip
        refine r_aload_n 24 hE 0 dX5_copy_23 rfl rfl rfl ?_
        refine r_aload_n 25 hE 1 dX5_copy_24 rfl rfl rfl ?_
        refine r_get 28 hE 1 0 ok5 4 dX5_copy_25 rfl wd_82 rfl rfl (by decide) rfl ?_
        refine r_put 31 hE 0 0 ok5 4 (wShelf g a L9 ln9 tp9 rd9 cnt2 era nws) [(wShelf g a L9 ln9 tp9 rd9 cnt2 era nws), (wShelf g b L2 ln2 tp2 rd2 cnt2 era2 nws2)] dX5_copy_28 rfl wd_82 rfl rfl (by decide) rfl rfl rfl (Nat.le_of_ble_eq_true rfl) rfl rfl ?_
        refine r_aload_n 32 hE 0 dX5_copy_31 rfl rfl rfl ?_
        refine r_aload_n 33 hE 1 dX5_copy_32 rfl rfl rfl ?_
        refine r_get 36 hE 1 0 ok5 5 dX5_copy_33 rfl wd_85 rfl rfl (by decide) rfl ?_
        refine r_put 39 hE 0 0 ok5 5 (wShelf g a L9 ln9 tp9 rd9 cnt2 era2 nws) [(wShelf g a L9 ln9 tp9 rd9 cnt2 era2 nws), (wShelf g b L2 ln2 tp2 rd2 cnt2 era2 nws2)] dX5_copy_36 rfl wd_85 rfl rfl (by decide) rfl rfl rfl (Nat.le_of_ble_eq_true rfl) rfl rfl ?_
        refine r_return hE hR [(wShelf g a L9 ln9 tp9 rd9 cnt2 era2 nws), (wShelf g b L2 ln2 tp2 rd2 cnt2 era2 nws2)] dX5_copy_39 (Nat.le_of_ble_eq_true rfl) (Nat.le_of_ble_eq_true rfl) rfl ?_
        have e : i = cnt2 := by omega
        subst e
        exact ⟨L9, ln9, tp9, rd9, rfl, rfl, hcp, hb9⟩
      · skip
        refine r_aload_n 11 hE 0 dX5_copy_10 rfl rfl rfl ?_
        refine r_aload_n 12 hE 1 dX5_copy_11 rfl rfl rfl ?_
        refine r_iload_n 13 hE 2 dX5_copy_12 rfl rfl rfl ?_
        refine r_iload_n 14 hE 2 dX5_copy_13 rfl rfl rfl ?_
        refine r_callV 17 hE [0, 1] [] [(wShelf g a L9 ln9 tp9 rd9 cnt era nws), (wShelf g b L2 ln2 tp2 rd2 cnt2 era2 nws2)] [] 0 5 ok5 [] (c_X5_copyText (by omega) (by omega) (by omega) (hln2 i (by omega) (by omega)) (hB2)) dX5_copy_14 rfl rfl wd_729 wd_730 wd_731 wd_4 wd_732 ne_X5 np_X5_copyText (Nat.le_of_ble_eq_true rfl)  (by decide) (by decide) rfl (Nat.le_of_ble_eq_true rfl) rfl rfl rfl rfl (by decide) rfl (fun v1 f1 hp => ?_)
        obtain ⟨rfl, rfl⟩ := hp
        show G g E _ _ _ [(wShelf g a (cpy L2 L9 (i * 600) (i * 600) (ln2 i)) (up ln9 i (ln2 i)) (up tp9 i (tp2 i)) (up rd9 i (rd2 i)) cnt era nws), (wShelf g b L2 ln2 tp2 rd2 cnt2 era2 nws2)] 17 [(0, .ref (a 0)), (1, .ref (b 0)), (2, .int (iI i))] []
        refine r_iinc 20 hE 2 (i + 1) [(2, .int (iI (i + 1))), (0, .ref (a 0)), (1, .ref (b 0))] dX5_copy_17 rfl rfl rfl (by decide) rfl ?_
        refine r_goto 2 hE dX5_copy_20 (by decide) ?_
        refine G.to (fs' := [(wShelf g a (cpy L2 L9 (i * 600) (i * 600) (ln2 i)) (up ln9 i (ln2 i)) (up tp9 i (tp2 i)) (up rd9 i (rd2 i)) cnt era nws), (wShelf g b L2 ln2 tp2 rd2 cnt2 era2 nws2)]) (lv' := [(0, .ref (a 0)), (1, .ref (b 0)), (2, .int (iI (i + 1)))]) [0, 1] [1, 2, 0] rfl rfl rfl ?_
        exact ih2 (i + 1) (cpy L2 L9 (i * 600) (i * 600) (ln2 i)) (up ln9 i (ln2 i)) (up tp9 i (tp2 i)) (up rd9 i (rd2 i)) (by omega) (by first | exact hcp.step (by omega) (fun t a b => (hln2 t a (by omega)).2) | exact (fun t a b => absurd b (by omega))) (by first | exact BR_cpy hB2 hb9 _ _ _ | exact hB) (by omega)
  refine r_iconst 1 hE dX5_copy_0 rfl ?_
  refine r_istore_n 2 hE [(2, .int (iI 0)), (0, .ref (a 0)), (1, .ref (b 0))] dX5_copy_1 rfl rfl (by decide) rfl ?_
  refine G.to (fs' := [(wShelf g a L ln tp rd cnt era nws), (wShelf g b L2 ln2 tp2 rd2 cnt2 era2 nws2)]) (lv' := [(0, .ref (a 0)), (1, .ref (b 0)), (2, .int (iI 0))]) [0, 1] [1, 2, 0] rfl rfl rfl ?_
  exact cut2 _ 0 L ln tp rd (by omega) (by first | exact hcp.step (by omega) (fun t a b => (hln2 t a (by omega)).2) | exact (fun t a b => absurd b (by omega))) (by first | exact BR_cpy hB2 hb9 _ _ _ | exact hB) (Nat.lt_succ_self _)
set_option maxHeartbeats 4000000 in
set_option maxRecDepth 100000 in
theorem c_X5_write {g : Gm} {a : Nat → Nat} {L ln tp rd : Int → Int} {cnt era nws : Int} {r : Nat → Nat} {m : Nat} {RL : Int → Int} {rlen : Int} {t : Int} (hc : 0 ≤ cnt ∧ cnt ≤ 8) (ht : 0 ≤ t ∧ t ≤ cnt ∧ t < 8) (hr : 0 ≤ rlen ∧ rlen ≤ 600 ∧ rlen ≤ (m : Int)) (hB : BR RL) : Ct g 1 0 0 yX5_write cX5_write 3 none [.ref (a 0), .int (iI t), .ref (r 0)] [(wShelf g a L ln tp rd cnt era nws), (wRow g r m RL rlen)] (fun v w => v = none ∧ w = [(wShelf g a (cpy RL L 0 (t * 600) rlen) (up ln t rlen) tp rd (max cnt (t + 1)) era nws), (wRow g r m RL rlen)]) := by
  refine Ct.of (by decide) (Nat.le_of_ble_eq_true rfl) (lv := [(0, .ref (a 0)), (1, .int (iI t)), (2, .ref (r 0))]) rfl ?_
  intro E hE hR hnm
  refine r_iload_n 1 hE 1 dX5_write_0 rfl rfl rfl ?_
  refine r_if_lt 4 28 hE dX5_write_1 rfl (by decide) (by omega) (fun c1 => ?_) (fun c1 => ?_)
  · skip
    omega
  · skip
    refine r_iload_n 5 hE 1 dX5_write_4 rfl rfl rfl ?_
    refine r_aload_n 6 hE 0 dX5_write_5 rfl rfl rfl ?_
    refine r_get 9 hE 0 0 ok5 4 dX5_write_6 rfl wd_82 rfl rfl (by decide) rfl ?_
    refine r_icmp_gt 12 28 hE dX5_write_9 rfl (by decide) (by omega) (fun c9 => ?_) (fun c9 => ?_)
    · skip
      omega
    · skip
      refine r_iload_n 13 hE 1 dX5_write_12 rfl rfl rfl ?_
      refine r_bipush 15 hE dX5_write_13 rfl (by decide) ?_
      refine r_icmp_ge 18 28 hE dX5_write_15 rfl (by decide) (by omega) (fun c15 => ?_) (fun c15 => ?_)
      · skip
        omega
      · skip
        refine r_aload_n 19 hE 2 dX5_write_18 rfl rfl rfl ?_
        refine r_get 22 hE 1 0 ok2 1 dX5_write_19 rfl wd_117 rfl rfl (by decide) rfl ?_
        refine r_sipush 25 hE dX5_write_22 rfl (by decide) ?_
        refine r_icmp_le 28 29 hE dX5_write_25 rfl (by decide) (by omega) (fun c25 => ?_) (fun c25 => ?_)
        · skip
          refine r_aload_n 30 hE 2 dX5_write_29 rfl rfl rfl ?_
          refine r_get 33 hE 1 0 ok2 0 dX5_write_30 rfl wd_113 rfl rfl (by decide) rfl ?_
          refine r_iconst 34 hE dX5_write_33 rfl ?_
          refine r_aload_n 35 hE 0 dX5_write_34 rfl rfl rfl ?_
          refine r_get 38 hE 0 0 ok5 0 dX5_write_35 rfl wd_75 rfl rfl (by decide) rfl ?_
          refine r_iload_n 39 hE 1 dX5_write_38 rfl rfl rfl ?_
          refine r_sipush 42 hE dX5_write_39 rfl (by decide) ?_
          refine r_imul 43 hE (t * 600) dX5_write_42 rfl rfl ?_
          refine r_aload_n 44 hE 2 dX5_write_43 rfl rfl rfl ?_
          refine r_get 47 hE 1 0 ok2 1 dX5_write_44 rfl wd_117 rfl rfl (by decide) rfl ?_
          refine r_copyB 50 hE 1 1 0 1 (wShelf g a (cpy RL L 0 (t * 600) rlen) ln tp rd cnt era nws) [(wShelf g a (cpy RL L 0 (t * 600) rlen) ln tp rd cnt era nws), (wRow g r m RL rlen)] dX5_write_47 rfl wd_616 wd_587 wd_586 wd_18 (Nat.le_of_ble_eq_true rfl) (by decide) rfl rfl rfl rfl (by omega) (hB) rfl rfl ?_
          refine r_aload_n 51 hE 0 dX5_write_50 rfl rfl rfl ?_
          refine r_get 54 hE 0 0 ok5 1 dX5_write_51 rfl wd_78 rfl rfl (by decide) rfl ?_
          refine r_iload_n 55 hE 1 dX5_write_54 rfl rfl rfl ?_
          refine r_aload_n 56 hE 2 dX5_write_55 rfl rfl rfl ?_
          refine r_get 59 hE 1 0 ok2 1 dX5_write_56 rfl wd_117 rfl rfl (by decide) rfl ?_
          refine r_iast 60 hE 0 2 (wShelf g a (cpy RL L 0 (t * 600) rlen) (up ln t rlen) tp rd cnt era nws) [(wShelf g a (cpy RL L 0 (t * 600) rlen) (up ln t rlen) tp rd cnt era nws), (wRow g r m RL rlen)] dX5_write_59 rfl rfl rfl (by omega) rfl rfl ?_
          refine r_aload_n 61 hE 0 dX5_write_60 rfl rfl rfl ?_
          refine r_aload_n 62 hE 0 dX5_write_61 rfl rfl rfl ?_
          refine r_get 65 hE 0 0 ok5 4 dX5_write_62 rfl wd_82 rfl rfl (by decide) rfl ?_
          refine r_iload_n 66 hE 1 dX5_write_65 rfl rfl rfl ?_
          refine r_iconst 67 hE dX5_write_66 rfl ?_
          refine r_iadd 68 hE (t + 1) dX5_write_67 rfl rfl ?_
          refine r_max 71 hE dX5_write_68 rfl wd_617 wd_110 wd_6 wd_111 (Nat.le_of_ble_eq_true rfl) (by decide) (by decide) (Nat.le_of_ble_eq_true rfl) (by omega) ?_
          refine r_put 74 hE 0 0 ok5 4 (wShelf g a (cpy RL L 0 (t * 600) rlen) (up ln t rlen) tp rd (max cnt (t + 1)) era nws) [(wShelf g a (cpy RL L 0 (t * 600) rlen) (up ln t rlen) tp rd (max cnt (t + 1)) era nws), (wRow g r m RL rlen)] dX5_write_71 rfl wd_82 rfl rfl (by decide) rfl rfl rfl (Nat.le_of_ble_eq_true rfl) rfl rfl ?_
          refine r_return hE hR [(wShelf g a (cpy RL L 0 (t * 600) rlen) (up ln t rlen) tp rd (max cnt (t + 1)) era nws), (wRow g r m RL rlen)] dX5_write_74 (Nat.le_of_ble_eq_true rfl) (Nat.le_of_ble_eq_true rfl) rfl ?_
          exact ⟨rfl, rfl⟩
        · skip
          omega
