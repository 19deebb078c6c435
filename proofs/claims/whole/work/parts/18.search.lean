def wSearch (g : Gm) (s : Nat → Nat) (bo : Int → Int) (sl : Int) : va_W := [ob (s 0) 4 [.ref (s 1), .int (iI sl)], ia g (s 1) 601 bo]
set_option maxHeartbeats 4000000 in
set_option maxRecDepth 100000 in
theorem c_X4_goOn {g : Gm} {a : Nat → Nat} {L ln tp rd : Int → Int} {cnt era nws : Int} {s : Nat → Nat} {bo : Int → Int} {sl : Int} {t q c : Int} (ht : 0 ≤ t ∧ t < cnt) (hc : 0 ≤ cnt ∧ cnt ≤ 8) (hln : ∀ j, 0 ≤ j → j < cnt → 0 ≤ ln j ∧ ln j ≤ 600) (hB : BR L) (hq : 0 ≤ q ∧ q ≤ ln t) (hcc : 0 ≤ c ∧ c ≤ 127) (hbo : ∀ j, 1 ≤ j → j ≤ q → IsB (tx L t) j (bo j)) : Ct g 2 0 0 yX4_goOn cX4_goOn 7 (some .int) [.ref (s 0), .ref (a 0), .int (iI t), .int (iI q), .int (iI c)] [(wSearch g s bo sl), (wShelf g a L ln tp rd cnt era nws)] (fun v w => ∃ r : Int, v = some (.int (iI r)) ∧ w = [(wSearch g s bo sl), (wShelf g a L ln tp rd cnt era nws)] ∧ (GoIs (tx L t) (ln t) q c r)) := by
  refine Ct.of (by decide) (Nat.le_of_ble_eq_true rfl) (lv := [(0, .ref (s 0)), (1, .ref (a 0)), (2, .int (iI t)), (3, .int (iI q)), (4, .int (iI c))]) rfl ?_
  intro E hE hR hnm
  have hl1 := hln t ht.1 ht.2
  have cut46 : ∀ (m : Int) (i : Int), (0 ≤ m ∧ m ≤ q) → (Bd (tx L t) q m) → (∀ j, m < j → j ≤ q → j < ln t → Bd (tx L t) q j → tx L t j ≠ c) → (m = 0 ∨ atF L ln t m = c) → G g E 7 0 0 [(wSearch g s bo sl), (wShelf g a L ln tp rd cnt era nws)] 46 [(0, .ref (s 0)), (1, .ref (a 0)), (2, .int (iI t)), (3, .int (iI q)), (4, .int (iI c)), (5, .int (iI m)), (6, .int (iI i))] [] := by
    intro m i hi hv hx he
    refine r_aload_n 47 hE 1 dX4_goOn_46 rfl rfl rfl ?_
    refine r_iload_n 48 hE 2 dX4_goOn_47 rfl rfl rfl ?_
    refine r_iload 50 hE 5 dX4_goOn_48 rfl rfl ?_
    refine r_callV 53 hE [1] [0] [(wShelf g a L ln tp rd cnt era nws)] [(wSearch g s bo sl)] 0 5 ok5 [] (c_X5_at (by omega) (by omega) (hln) (by omega)) dX4_goOn_50 rfl rfl wd_791 wd_792 wd_793 wd_4 wd_794 ne_X5 np_X5_at (Nat.le_of_ble_eq_true rfl)  (by decide) (by decide) rfl (Nat.le_of_ble_eq_true rfl) rfl rfl rfl rfl (by decide) rfl (fun v1 f1 hp => ?_)
    obtain ⟨rfl, rfl⟩ := hp
    show G g E _ _ _ [(wShelf g a L ln tp rd cnt era nws), (wSearch g s bo sl)] 53 [(0, .ref (s 0)), (1, .ref (a 0)), (2, .int (iI t)), (3, .int (iI q)), (4, .int (iI c)), (5, .int (iI m)), (6, .int (iI i))] [.int (iI (atF L ln t m))]
    refine r_iload 55 hE 4 dX4_goOn_53 rfl rfl ?_
    refine r_icmp_ne 58 65 hE dX4_goOn_55 rfl (by decide) (by have := atF_rg hB ln t m; omega) (fun c55 => ?_) (fun c55 => ?_)
    · skip
      refine r_iconst 66 hE dX4_goOn_65 rfl ?_
      refine G.to (fs' := [(wSearch g s bo sl), (wShelf g a L ln tp rd cnt era nws)]) [1, 0] [0, 1, 2, 3, 4, 5, 6] rfl rfl rfl ?_
      refine r_ireturn hE hR [(wSearch g s bo sl), (wShelf g a L ln tp rd cnt era nws)] dX4_goOn_66 (Nat.le_of_ble_eq_true rfl) (Nat.le_of_ble_eq_true rfl) rfl ?_
      first
        | exact ⟨m + 1, rfl, rfl, goOn_yes hcc.1 hi hv hx c55⟩
        | exact ⟨0, rfl, rfl, goOn_no hq hx he c55⟩
    · skip
      refine r_iload 60 hE 5 dX4_goOn_58 rfl rfl ?_
      refine r_iconst 61 hE dX4_goOn_60 rfl ?_
      refine r_iadd 62 hE (m + 1) dX4_goOn_61 rfl rfl ?_
      refine r_goto 66 hE dX4_goOn_62 (by decide) ?_
      refine G.to (fs' := [(wSearch g s bo sl), (wShelf g a L ln tp rd cnt era nws)]) [1, 0] [0, 1, 2, 3, 4, 5, 6] rfl rfl rfl ?_
      refine r_ireturn hE hR [(wSearch g s bo sl), (wShelf g a L ln tp rd cnt era nws)] dX4_goOn_66 (Nat.le_of_ble_eq_true rfl) (Nat.le_of_ble_eq_true rfl) rfl ?_
      first
        | exact ⟨m + 1, rfl, rfl, goOn_yes hcc.1 hi hv hx c55⟩
        | exact ⟨0, rfl, rfl, goOn_no hq hx he c55⟩
  have cut6 : ∀ (N : Nat) (m : Int) (i : Int), (0 ≤ i ∧ 0 ≤ m ∧ i + m ≤ 600 ∧ m ≤ q) → (Bd (tx L t) q m) → (∀ j, m < j → j ≤ q → j < ln t → Bd (tx L t) q j → tx L t j ≠ c) → (601 - i).toNat < N → G g E 7 0 0 [(wSearch g s bo sl), (wShelf g a L ln tp rd cnt era nws)] 6 [(0, .ref (s 0)), (1, .ref (a 0)), (2, .int (iI t)), (3, .int (iI q)), (4, .int (iI c)), (5, .int (iI m)), (6, .int (iI i))] [] := by
    intro N
    induction N with
    | zero => intro m i _ _ _ hN; exact absurd hN (Nat.not_lt_zero _)
    | succ N ih6 =>
      intro m i hi hv hx hN
      refine r_iload 8 hE 6 dX4_goOn_6 rfl rfl ?_
      refine r_sipush 11 hE dX4_goOn_8 rfl (by decide) ?_
      refine r_icmp_gt 14 46 hE dX4_goOn_11 rfl (by decide) (by omega) (fun c11 => ?_) (fun c11 => ?_)
      · skip
        exact cut46 m i (by omega) (hv) (hx) (by first | exact Or.inl (by omega) | exact Or.inr c28)
      · skip
        refine r_iload 16 hE 5 dX4_goOn_14 rfl rfl ?_
        refine r_if_le 19 46 hE dX4_goOn_16 rfl (by decide) (by omega) (fun c16 => ?_) (fun c16 => ?_)
        · skip
          exact cut46 m i (by omega) (hv) (hx) (by first | exact Or.inl (by omega) | exact Or.inr c28)
        · skip
          refine r_aload_n 20 hE 1 dX4_goOn_19 rfl rfl rfl ?_
          refine r_iload_n 21 hE 2 dX4_goOn_20 rfl rfl rfl ?_
          refine r_iload 23 hE 5 dX4_goOn_21 rfl rfl ?_
          refine r_callV 26 hE [1] [0] [(wShelf g a L ln tp rd cnt era nws)] [(wSearch g s bo sl)] 0 5 ok5 [] (c_X5_at (by omega) (by omega) (hln) (by omega)) dX4_goOn_23 rfl rfl wd_791 wd_792 wd_793 wd_4 wd_794 ne_X5 np_X5_at (Nat.le_of_ble_eq_true rfl)  (by decide) (by decide) rfl (Nat.le_of_ble_eq_true rfl) rfl rfl rfl rfl (by decide) rfl (fun v1 f1 hp => ?_)
          obtain ⟨rfl, rfl⟩ := hp
          show G g E _ _ _ [(wShelf g a L ln tp rd cnt era nws), (wSearch g s bo sl)] 26 [(0, .ref (s 0)), (1, .ref (a 0)), (2, .int (iI t)), (3, .int (iI q)), (4, .int (iI c)), (5, .int (iI m)), (6, .int (iI i))] [.int (iI (atF L ln t m))]
          refine r_iload 28 hE 4 dX4_goOn_26 rfl rfl ?_
          refine r_icmp_eq 31 46 hE dX4_goOn_28 rfl (by decide) (by have := atF_rg hB ln t m; omega) (fun c28 => ?_) (fun c28 => ?_)
          · skip
            refine G.to (fs' := [(wSearch g s bo sl), (wShelf g a L ln tp rd cnt era nws)]) (lv' := [(0, .ref (s 0)), (1, .ref (a 0)), (2, .int (iI t)), (3, .int (iI q)), (4, .int (iI c)), (5, .int (iI m)), (6, .int (iI i))]) [1, 0] [0, 1, 2, 3, 4, 5, 6] rfl rfl rfl ?_
            exact cut46 m i (by omega) (hv) (hx) (by first | exact Or.inl (by omega) | exact Or.inr c28)
          · skip
            have hbm := hbo m (by omega) (by omega)
            have hx2 : ∀ j, bo m < j → j ≤ q → j < ln t → Bd (tx L t) q j → tx L t j ≠ c := by
              intro j j0 j1 j2 jb
              by_cases e : m < j
              · exact hx j e j1 j2 jb
              · by_cases e2 : j = m
                · subst e2; rw [atF_tx ⟨jb.1, j2⟩] at c28; exact c28
                · have := hbm.2.2 j (by omega) (hv.down jb (by omega)); omega
            refine r_aload_n 32 hE 0 dX4_goOn_31 rfl rfl rfl ?_
            refine r_get 35 hE 1 0 ok4 0 dX4_goOn_32 rfl wd_290 rfl rfl (by decide) rfl ?_
            refine r_iload 37 hE 5 dX4_goOn_35 rfl rfl ?_
            refine r_iald 38 hE 1 1 dX4_goOn_37 rfl rfl rfl (by omega) ?_
            refine r_istore 40 hE [(5, .int (iI (bo m))), (0, .ref (s 0)), (1, .ref (a 0)), (2, .int (iI t)), (3, .int (iI q)), (4, .int (iI c)), (6, .int (iI i))] dX4_goOn_38 rfl (by decide) rfl ?_
            refine r_iinc 43 hE 6 (i + 1) [(6, .int (iI (i + 1))), (5, .int (iI (bo m))), (0, .ref (s 0)), (1, .ref (a 0)), (2, .int (iI t)), (3, .int (iI q)), (4, .int (iI c))] dX4_goOn_40 rfl rfl rfl (by decide) rfl ?_
            refine r_goto 6 hE dX4_goOn_43 (by decide) ?_
            refine G.to (fs' := [(wSearch g s bo sl), (wShelf g a L ln tp rd cnt era nws)]) (lv' := [(0, .ref (s 0)), (1, .ref (a 0)), (2, .int (iI t)), (3, .int (iI q)), (4, .int (iI c)), (5, .int (iI (bo m))), (6, .int (iI (i + 1)))]) [1, 0] [2, 3, 4, 5, 6, 1, 0] rfl rfl rfl ?_
            exact ih6 (bo m) (i + 1) (by first | omega | (have := (hbo m (by omega) (by omega)).1; have := (hbo m (by omega) (by omega)).2.1.1; omega)) (by first | exact Bd.self hq.1 | exact hv.trans (hbo m (by omega) (by omega)).2.1) (by first | exact (fun j a b => absurd a (by omega)) | exact hx2) (by omega)
  refine r_iload_n 1 hE 3 dX4_goOn_0 rfl rfl rfl ?_
  refine r_istore 3 hE [(5, .int (iI q)), (0, .ref (s 0)), (1, .ref (a 0)), (2, .int (iI t)), (3, .int (iI q)), (4, .int (iI c))] dX4_goOn_1 rfl (by decide) rfl ?_
  refine r_iconst 4 hE dX4_goOn_3 rfl ?_
  refine r_istore 6 hE [(6, .int (iI 0)), (5, .int (iI q)), (0, .ref (s 0)), (1, .ref (a 0)), (2, .int (iI t)), (3, .int (iI q)), (4, .int (iI c))] dX4_goOn_4 rfl (by decide) rfl ?_
  refine G.to (fs' := [(wSearch g s bo sl), (wShelf g a L ln tp rd cnt era nws)]) (lv' := [(0, .ref (s 0)), (1, .ref (a 0)), (2, .int (iI t)), (3, .int (iI q)), (4, .int (iI c)), (5, .int (iI q)), (6, .int (iI 0))]) [0, 1] [2, 3, 4, 5, 6, 1, 0] rfl rfl rfl ?_
  exact cut6 _ q 0 (by first | omega | (have := (hbo m (by omega) (by omega)).1; have := (hbo m (by omega) (by omega)).2.1.1; omega)) (by first | exact Bd.self hq.1 | exact hv.trans (hbo m (by omega) (by omega)).2.1) (by first | exact (fun j a b => absurd a (by omega)) | exact hx2) (Nat.lt_succ_self _)
set_option maxHeartbeats 4000000 in
set_option maxRecDepth 100000 in
theorem c_X4_prepare {g : Gm} {a : Nat → Nat} {L ln tp rd : Int → Int} {cnt era nws : Int} {s : Nat → Nat} {bo : Int → Int} {sl : Int} {t : Int} (ht : 0 ≤ t ∧ t < cnt) (hc : 0 ≤ cnt ∧ cnt ≤ 8) (hln : ∀ j, 0 ≤ j → j < cnt → 0 ≤ ln j ∧ ln j ≤ 600) (hB : BR L) (hL : ∀ k, 0 ≤ k → k < ln t → 0 ≤ tx L t k) (h1 : 1 ≤ ln t) : Ct g 3 0 0 yX4_prepare cX4_prepare 4 none [.ref (s 0), .ref (a 0), .int (iI t)] [(wSearch g s bo sl), (wShelf g a L ln tp rd cnt era nws)] (fun v w => ∃ bo9 : Int → Int, v = none ∧ w = [(wSearch g s bo9 (ln t)), (wShelf g a L ln tp rd cnt era nws)] ∧ (∀ j, 1 ≤ j → j ≤ ln t → IsB (tx L t) j (bo9 j))) := by
  refine Ct.of (by decide) (Nat.le_of_ble_eq_true rfl) (lv := [(0, .ref (s 0)), (1, .ref (a 0)), (2, .int (iI t))]) rfl ?_
  intro E hE hR hnm
  have hl1 := hln t ht.1 ht.2
  have em : min (ln t) 600 = ln t := by omega
  have em2 : min (ln t) 1 = 1 := by omega
  have cut38 : ∀ (N : Nat) (i : Int) (bo9 : Int → Int), (1 ≤ i ∧ i ≤ ln t) → (∀ j, 1 ≤ j → j ≤ i → IsB (tx L t) j (bo9 j)) → (ln t - i).toNat < N → G g E 4 0 0 [(wSearch g s bo9 (ln t)), (wShelf g a L ln tp rd cnt era nws)] 38 [(0, .ref (s 0)), (1, .ref (a 0)), (2, .int (iI t)), (3, .int (iI i))] [] := by
    intro N
    induction N with
    | zero => intro i bo9 _ _ hN; exact absurd hN (Nat.not_lt_zero _)
    | succ N ih38 =>
      intro i bo9 hi hv hN
      refine r_iload_n 39 hE 3 dX4_prepare_38 rfl rfl rfl ?_
      refine r_aload_n 40 hE 0 dX4_prepare_39 rfl rfl rfl ?_
      refine r_get 43 hE 0 0 ok4 1 dX4_prepare_40 rfl wd_291 rfl rfl (by decide) rfl ?_
      refine r_icmp_ge 46 78 hE dX4_prepare_43 rfl (by decide) (by omega) (fun c43 => ?_) (fun c43 => ?_)
      · skip
        refine r_return hE hR [(wSearch g s bo9 (ln t)), (wShelf g a L ln tp rd cnt era nws)] dX4_prepare_78 (Nat.le_of_ble_eq_true rfl) (Nat.le_of_ble_eq_true rfl) rfl ?_
        exact ⟨bo9, rfl, rfl, fun j a b => hv j a (by omega)⟩
      · skip
        refine r_aload_n 47 hE 0 dX4_prepare_46 rfl rfl rfl ?_
        refine r_get 50 hE 0 0 ok4 0 dX4_prepare_47 rfl wd_290 rfl rfl (by decide) rfl ?_
        refine r_iload_n 51 hE 3 dX4_prepare_50 rfl rfl rfl ?_
        refine r_iconst 52 hE dX4_prepare_51 rfl ?_
        refine r_iadd 53 hE (i + 1) dX4_prepare_52 rfl rfl ?_
        refine r_aload_n 54 hE 0 dX4_prepare_53 rfl rfl rfl ?_
        refine r_aload_n 55 hE 1 dX4_prepare_54 rfl rfl rfl ?_
        refine r_iload_n 56 hE 2 dX4_prepare_55 rfl rfl rfl ?_
        refine r_aload_n 57 hE 0 dX4_prepare_56 rfl rfl rfl ?_
        refine r_get 60 hE 0 0 ok4 0 dX4_prepare_57 rfl wd_290 rfl rfl (by decide) rfl ?_
        refine r_iload_n 61 hE 3 dX4_prepare_60 rfl rfl rfl ?_
        refine r_iald 62 hE 0 1 dX4_prepare_61 rfl rfl rfl (by omega) ?_
        refine r_aload_n 63 hE 1 dX4_prepare_62 rfl rfl rfl ?_
        refine r_iload_n 64 hE 2 dX4_prepare_63 rfl rfl rfl ?_
        refine r_iload_n 65 hE 3 dX4_prepare_64 rfl rfl rfl ?_
        refine r_callV 68 hE [1] [0] [(wShelf g a L ln tp rd cnt era nws)] [(wSearch g s bo9 (ln t))] 0 5 ok5 [.int (iI (bo9 i)), .int (iI t), .ref (a 0), .ref (s 0), .int (iI (i + 1)), .ref (s 1)] (c_X5_at (by omega) (by omega) (hln) (by omega)) dX4_prepare_65 rfl rfl wd_791 wd_792 wd_793 wd_4 wd_794 ne_X5 np_X5_at (Nat.le_of_ble_eq_true rfl)  (by decide) (by decide) rfl (Nat.le_of_ble_eq_true rfl) rfl rfl rfl rfl (by decide) rfl (fun v1 f1 hp => ?_)
        obtain ⟨rfl, rfl⟩ := hp
        show G g E _ _ _ [(wShelf g a L ln tp rd cnt era nws), (wSearch g s bo9 (ln t))] 68 [(0, .ref (s 0)), (1, .ref (a 0)), (2, .int (iI t)), (3, .int (iI i))] [.int (iI (atF L ln t i)), .int (iI (bo9 i)), .int (iI t), .ref (a 0), .ref (s 0), .int (iI (i + 1)), .ref (s 1)]
        rw [show (atF L ln t i : Int) = tx L t i from atF_tx (by omega)]
        refine r_callV 71 hE [1, 0] [] [(wSearch g s bo9 (ln t)), (wShelf g a L ln tp rd cnt era nws)] [] 0 4 ok4 [.int (iI (i + 1)), .ref (s 1)] (c_X4_goOn (by omega) (by omega) (hln) (hB) (by have := (hv i (by omega) (by omega)).1; have := (hv i (by omega) (by omega)).2.1.1; omega) (by have h2 := hL i (by omega) (by omega); have h3 : tx L t i ≤ 127 := (hB _).2; omega) (fun j a b => hv j a (by have := (hv i (by omega) (by omega)).1; omega))) dX4_prepare_68 rfl rfl wd_795 wd_797 ws_37 wd_11 wd_798 ne_X4 np_X4_goOn (Nat.le_of_ble_eq_true rfl)  (by decide) (by decide) rfl (Nat.le_of_ble_eq_true rfl) rfl rfl rfl rfl (by decide) rfl (fun v1 f1 hp => ?_)
        obtain ⟨r_68, rfl, rfl, h68_0⟩ := hp
        show G g E _ _ _ [(wSearch g s bo9 (ln t)), (wShelf g a L ln tp rd cnt era nws)] 71 [(0, .ref (s 0)), (1, .ref (a 0)), (2, .int (iI t)), (3, .int (iI i))] [.int (iI r_68), .int (iI (i + 1)), .ref (s 1)]
        have hv2 : ∀ j, 1 ≤ j → j ≤ i + 1 → IsB (tx L t) j (up bo9 (i + 1) r_68 j) := by
          intro j a b
          by_cases e : j = i + 1
          · subst e; rw [up_same]; exact h68_0.next (by omega) (hv i (by omega) (by omega))
          · rw [up_ne _ _ e]; exact hv j a (by omega)
        refine r_iast 72 hE 0 1 (wSearch g s (up bo9 (i + 1) r_68) (ln t)) [(wSearch g s (up bo9 (i + 1) r_68) (ln t)), (wShelf g a L ln tp rd cnt era nws)] dX4_prepare_71 rfl rfl rfl (by omega) rfl rfl ?_
        refine r_iinc 75 hE 3 (i + 1) [(3, .int (iI (i + 1))), (0, .ref (s 0)), (1, .ref (a 0)), (2, .int (iI t))] dX4_prepare_72 rfl rfl rfl (by decide) rfl ?_
        refine r_goto 38 hE dX4_prepare_75 (by decide) ?_
        refine G.to (fs' := [(wSearch g s (up bo9 (i + 1) r_68) (ln t)), (wShelf g a L ln tp rd cnt era nws)]) (lv' := [(0, .ref (s 0)), (1, .ref (a 0)), (2, .int (iI t)), (3, .int (iI (i + 1)))]) [0, 1] [1, 2, 3, 0] rfl rfl rfl ?_
        exact ih38 (i + 1) (up bo9 (i + 1) r_68) (by omega) (by first | exact hv2 | (intro j a b; rw [show j = 1 by omega, up_same]; exact IsB_one)) (by omega)
  refine r_aload_n 1 hE 0 dX4_prepare_0 rfl rfl rfl ?_
  refine r_aload_n 2 hE 1 dX4_prepare_1 rfl rfl rfl ?_
  refine r_iload_n 3 hE 2 dX4_prepare_2 rfl rfl rfl ?_
  refine r_callV 6 hE [1] [0] [(wShelf g a L ln tp rd cnt era nws)] [(wSearch g s bo sl)] 0 5 ok5 [.ref (s 0)] (c_X5_lengthOf (by omega) (by omega)) dX4_prepare_3 rfl rfl wd_789 wd_631 wd_632 wd_4 wd_633 ne_X5 np_X5_lengthOf (Nat.le_of_ble_eq_true rfl)  (by decide) (by decide) rfl (Nat.le_of_ble_eq_true rfl) rfl rfl rfl rfl (by decide) rfl (fun v1 f1 hp => ?_)
  obtain ⟨rfl, rfl⟩ := hp
  show G g E _ _ _ [(wShelf g a L ln tp rd cnt era nws), (wSearch g s bo sl)] 6 [(0, .ref (s 0)), (1, .ref (a 0)), (2, .int (iI t))] [.int (iI (ln t)), .ref (s 0)]
  refine r_sipush 9 hE dX4_prepare_6 rfl (by decide) ?_
  refine r_min 12 hE dX4_prepare_9 rfl wd_790 wd_360 wd_6 wd_361 (Nat.le_of_ble_eq_true rfl) (by decide) (by decide) (Nat.le_of_ble_eq_true rfl) (by omega) ?_
  rw [show (min (ln t) 600 : Int) = ln t from by omega]
  refine r_put 15 hE 1 0 ok4 1 (wSearch g s bo (ln t)) [(wShelf g a L ln tp rd cnt era nws), (wSearch g s bo (ln t))] dX4_prepare_12 rfl wd_291 rfl rfl (by decide) rfl rfl rfl (Nat.le_of_ble_eq_true rfl) rfl rfl ?_
  refine r_aload_n 16 hE 0 dX4_prepare_15 rfl rfl rfl ?_
  refine r_get 19 hE 1 0 ok4 0 dX4_prepare_16 rfl wd_290 rfl rfl (by decide) rfl ?_
  refine r_iconst 20 hE dX4_prepare_19 rfl ?_
  refine r_iconst 21 hE dX4_prepare_20 rfl ?_
  refine r_iast 22 hE 1 1 (wSearch g s (up bo 0 0) (ln t)) [(wShelf g a L ln tp rd cnt era nws), (wSearch g s (up bo 0 0) (ln t))] dX4_prepare_21 rfl rfl rfl (by omega) rfl rfl ?_
  refine r_aload_n 23 hE 0 dX4_prepare_22 rfl rfl rfl ?_
  refine r_get 26 hE 1 0 ok4 0 dX4_prepare_23 rfl wd_290 rfl rfl (by decide) rfl ?_
  refine r_aload_n 27 hE 0 dX4_prepare_26 rfl rfl rfl ?_
  refine r_get 30 hE 1 0 ok4 1 dX4_prepare_27 rfl wd_291 rfl rfl (by decide) rfl ?_
  refine r_iconst 31 hE dX4_prepare_30 rfl ?_
  refine r_min 34 hE dX4_prepare_31 rfl wd_790 wd_360 wd_6 wd_361 (Nat.le_of_ble_eq_true rfl) (by decide) (by decide) (Nat.le_of_ble_eq_true rfl) (by omega) ?_
  rw [show (min (ln t) 1 : Int) = 1 from by omega]
  refine r_iconst 35 hE dX4_prepare_34 rfl ?_
  refine r_iast 36 hE 1 1 (wSearch g s (up (up bo 0 0) 1 0) (ln t)) [(wShelf g a L ln tp rd cnt era nws), (wSearch g s (up (up bo 0 0) 1 0) (ln t))] dX4_prepare_35 rfl rfl rfl (by omega) rfl rfl ?_
  refine r_iconst 37 hE dX4_prepare_36 rfl ?_
  refine r_istore_n 38 hE [(3, .int (iI 1)), (0, .ref (s 0)), (1, .ref (a 0)), (2, .int (iI t))] dX4_prepare_37 rfl rfl (by decide) rfl ?_
  refine G.to (fs' := [(wSearch g s (up (up bo 0 0) 1 0) (ln t)), (wShelf g a L ln tp rd cnt era nws)]) (lv' := [(0, .ref (s 0)), (1, .ref (a 0)), (2, .int (iI t)), (3, .int (iI 1))]) [1, 0] [1, 2, 3, 0] rfl rfl rfl ?_
  exact cut38 _ 1 (up (up bo 0 0) 1 0) (by omega) (by first | exact hv2 | (intro j a b; rw [show j = 1 by omega, up_same]; exact IsB_one)) (Nat.lt_succ_self _)
set_option maxHeartbeats 4000000 in
set_option maxRecDepth 100000 in
theorem c_X4_period {g : Gm} {a : Nat → Nat} {L ln tp rd : Int → Int} {cnt era nws : Int} {s : Nat → Nat} {bo : Int → Int} {sl : Int} {t : Int} (ht : 0 ≤ t ∧ t < cnt) (hc : 0 ≤ cnt ∧ cnt ≤ 8) (hln : ∀ j, 0 ≤ j → j < cnt → 0 ≤ ln j ∧ ln j ≤ 600) (hB : BR L) (hL : ∀ k, 0 ≤ k → k < ln t → 0 ≤ tx L t k) (h1 : 1 ≤ ln t) : Ct g 4 0 0 yX4_period cX4_period 3 (some .int) [.ref (s 0), .ref (a 0), .int (iI t)] [(wSearch g s bo sl), (wShelf g a L ln tp rd cnt era nws)] (fun v w => ∃ bo9 : Int → Int, ∃ r : Int, v = some (.int (iI r)) ∧ w = [(wSearch g s bo9 (ln t)), (wShelf g a L ln tp rd cnt era nws)] ∧ (PerIs (tx L t) (ln t) r)) := by
  refine Ct.of (by decide) (Nat.le_of_ble_eq_true rfl) (lv := [(0, .ref (s 0)), (1, .ref (a 0)), (2, .int (iI t))]) rfl ?_
  intro E hE hR hnm
  have hl1 := hln t ht.1 ht.2
  refine r_aload_n 1 hE 0 dX4_period_0 rfl rfl rfl ?_
  refine r_aload_n 2 hE 1 dX4_period_1 rfl rfl rfl ?_
  refine r_iload_n 3 hE 2 dX4_period_2 rfl rfl rfl ?_
  refine r_callV 6 hE [0, 1] [] [(wSearch g s bo sl), (wShelf g a L ln tp rd cnt era nws)] [] 0 4 ok4 [] (c_X4_prepare (by omega) (by omega) (hln) (hB) (hL) (by omega)) dX4_period_3 rfl rfl wd_785 wd_787 ws_36 wd_11 wd_788 ne_X4 np_X4_prepare (Nat.le_of_ble_eq_true rfl)  (by decide) (by decide) rfl (Nat.le_of_ble_eq_true rfl) rfl rfl rfl rfl (by decide) rfl (fun v1 f1 hp => ?_)
  obtain ⟨bo9, rfl, rfl, h3_0⟩ := hp
  show G g E _ _ _ [(wSearch g s bo9 (ln t)), (wShelf g a L ln tp rd cnt era nws)] 6 [(0, .ref (s 0)), (1, .ref (a 0)), (2, .int (iI t))] []
  refine r_aload_n 7 hE 0 dX4_period_6 rfl rfl rfl ?_
  refine r_get 10 hE 0 0 ok4 1 dX4_period_7 rfl wd_291 rfl rfl (by decide) rfl ?_
  refine r_aload_n 11 hE 0 dX4_period_10 rfl rfl rfl ?_
  refine r_get 14 hE 0 0 ok4 0 dX4_period_11 rfl wd_290 rfl rfl (by decide) rfl ?_
  refine r_aload_n 15 hE 0 dX4_period_14 rfl rfl rfl ?_
  refine r_get 18 hE 0 0 ok4 1 dX4_period_15 rfl wd_291 rfl rfl (by decide) rfl ?_
  refine r_iald 19 hE 0 1 dX4_period_18 rfl rfl rfl (by omega) ?_
  refine r_isub 20 hE ((ln t) - (bo9 (ln t))) dX4_period_19 rfl rfl ?_
  refine r_ireturn hE hR [(wSearch g s bo9 (ln t)), (wShelf g a L ln tp rd cnt era nws)] dX4_period_20 (Nat.le_of_ble_eq_true rfl) (Nat.le_of_ble_eq_true rfl) rfl ?_
  exact ⟨bo9, _, rfl, rfl, PerIs.of (h3_0 (ln t) (by omega) (by omega))⟩
set_option maxHeartbeats 4000000 in
set_option maxRecDepth 100000 in
theorem c_X4_firstFrom {g : Gm} {a : Nat → Nat} {L ln tp rd : Int → Int} {cnt era nws : Int} {s : Nat → Nat} {bo : Int → Int} {sl : Int} {t u fr : Int} (ht : 0 ≤ t ∧ t < cnt) (hu : 0 ≤ u ∧ u < cnt) (hc : 0 ≤ cnt ∧ cnt ≤ 8) (hln : ∀ j, 0 ≤ j → j < cnt → 0 ≤ ln j ∧ ln j ≤ 600) (hB : BR L) (hL : ∀ k, 0 ≤ k → k < ln u → 0 ≤ tx L u k) (hLt : ∀ k, 0 ≤ k → k < ln t → 0 ≤ tx L t k) (h1 : 1 ≤ ln u) (hfr : 0 ≤ fr ∧ fr ≤ 2147483647) : Ct g 4 0 0 yX4_firstFrom cX4_firstFrom 7 (some .int) [.ref (s 0), .ref (a 0), .int (iI t), .int (iI u), .int (iI fr)] [(wSearch g s bo sl), (wShelf g a L ln tp rd cnt era nws)] (fun v w => ∃ bo9 : Int → Int, ∃ r : Int, v = some (.int (iI r)) ∧ w = [(wSearch g s bo9 (ln u)), (wShelf g a L ln tp rd cnt era nws)] ∧ (FindIs (tx L u) (ln u) (tx L t) (ln t) fr r)) := by
  refine Ct.of (by decide) (Nat.le_of_ble_eq_true rfl) (lv := [(0, .ref (s 0)), (1, .ref (a 0)), (2, .int (iI t)), (3, .int (iI u)), (4, .int (iI fr))]) rfl ?_
  intro E hE hR hnm
  have hl1 := hln t ht.1 ht.2
  have hl2 := hln u hu.1 hu.2
  have cut13 : ∀ (N : Nat) (p : Int) (q : Int) (bo9 : Int → Int), (fr ≤ p ∧ (p ≤ ln t ∨ p = fr)) → (∀ j, 1 ≤ j → j ≤ ln u → IsB (tx L u) j (bo9 j)) → (MtIs (tx L u) (ln u) (tx L t) fr p q) → (∀ k, fr ≤ k → k + ln u ≤ p → ¬ Mch (tx L u) (ln u) (tx L t) k) → (ln t - p).toNat < N → G g E 7 0 0 [(wSearch g s bo9 (ln u)), (wShelf g a L ln tp rd cnt era nws)] 13 [(0, .ref (s 0)), (1, .ref (a 0)), (2, .int (iI t)), (3, .int (iI u)), (4, .int (iI fr)), (5, .int (iI q)), (6, .int (iI p))] [] := by
    intro N
    induction N with
    | zero => intro p q bo9 _ _ _ _ hN; exact absurd hN (Nat.not_lt_zero _)
    | succ N ih13 =>
      intro p q bo9 hp hbo hv hx hN
      refine r_iload 15 hE 6 dX4_firstFrom_13 rfl rfl ?_
      refine r_aload_n 16 hE 1 dX4_firstFrom_15 rfl rfl rfl ?_
      refine r_iload_n 17 hE 2 dX4_firstFrom_16 rfl rfl rfl ?_
      refine r_callV 20 hE [1] [0] [(wShelf g a L ln tp rd cnt era nws)] [(wSearch g s bo9 (ln u))] 0 5 ok5 [.int (iI p)] (c_X5_lengthOf (by omega) (by omega)) dX4_firstFrom_17 rfl rfl wd_789 wd_631 wd_632 wd_4 wd_633 ne_X5 np_X5_lengthOf (Nat.le_of_ble_eq_true rfl)  (by decide) (by decide) rfl (Nat.le_of_ble_eq_true rfl) rfl rfl rfl rfl (by decide) rfl (fun v1 f1 hp => ?_)
      obtain ⟨rfl, rfl⟩ := hp
      show G g E _ _ _ [(wShelf g a L ln tp rd cnt era nws), (wSearch g s bo9 (ln u))] 20 [(0, .ref (s 0)), (1, .ref (a 0)), (2, .int (iI t)), (3, .int (iI u)), (4, .int (iI fr)), (5, .int (iI q)), (6, .int (iI p))] [.int (iI (ln t)), .int (iI p)]
      refine r_icmp_ge 23 65 hE dX4_firstFrom_20 rfl (by decide) (by omega) (fun c20 => ?_) (fun c20 => ?_)
      · skip
        refine r_iconst 66 hE dX4_firstFrom_65 rfl ?_
        refine G.to (fs' := [(wSearch g s bo9 (ln u)), (wShelf g a L ln tp rd cnt era nws)]) [1, 0] [0, 1, 2, 3, 4, 5, 6] rfl rfl rfl ?_
        refine r_ireturn hE hR [(wSearch g s bo9 (ln u)), (wShelf g a L ln tp rd cnt era nws)] dX4_firstFrom_66 (Nat.le_of_ble_eq_true rfl) (Nat.le_of_ble_eq_true rfl) rfl ?_
        exact ⟨bo9, -1, rfl, rfl, Or.inl ⟨rfl, fun k a b => hx k a (by omega)⟩⟩
      · skip
        refine r_aload_n 24 hE 0 dX4_firstFrom_23 rfl rfl rfl ?_
        refine r_aload_n 25 hE 1 dX4_firstFrom_24 rfl rfl rfl ?_
        refine r_iload_n 26 hE 3 dX4_firstFrom_25 rfl rfl rfl ?_
        refine r_iload 28 hE 5 dX4_firstFrom_26 rfl rfl ?_
        refine r_aload_n 29 hE 1 dX4_firstFrom_28 rfl rfl rfl ?_
        refine r_iload_n 30 hE 2 dX4_firstFrom_29 rfl rfl rfl ?_
        refine r_iload 32 hE 6 dX4_firstFrom_30 rfl rfl ?_
        refine r_callV 35 hE [0] [1] [(wShelf g a L ln tp rd cnt era nws)] [(wSearch g s bo9 (ln u))] 0 5 ok5 [.int (iI q), .int (iI u), .ref (a 0), .ref (s 0)] (c_X5_at (by omega) (by omega) (hln) (by omega)) dX4_firstFrom_32 rfl rfl wd_791 wd_792 wd_793 wd_4 wd_794 ne_X5 np_X5_at (Nat.le_of_ble_eq_true rfl)  (by decide) (by decide) rfl (Nat.le_of_ble_eq_true rfl) rfl rfl rfl rfl (by decide) rfl (fun v1 f1 hp => ?_)
        obtain ⟨rfl, rfl⟩ := hp
        show G g E _ _ _ [(wShelf g a L ln tp rd cnt era nws), (wSearch g s bo9 (ln u))] 35 [(0, .ref (s 0)), (1, .ref (a 0)), (2, .int (iI t)), (3, .int (iI u)), (4, .int (iI fr)), (5, .int (iI q)), (6, .int (iI p))] [.int (iI (atF L ln t p)), .int (iI q), .int (iI u), .ref (a 0), .ref (s 0)]
        rw [show (atF L ln t p : Int) = tx L t p from atF_tx (by omega)]
        refine r_callV 38 hE [1, 0] [] [(wSearch g s bo9 (ln u)), (wShelf g a L ln tp rd cnt era nws)] [] 0 4 ok4 [] (c_X4_goOn (by omega) (by omega) (hln) (hB) (by have := hv.1; have := hv.2.1; omega) (by have h2 := hLt p (by omega) (by omega); have h3 : tx L t p ≤ 127 := (hB _).2; omega) (fun j a b => hbo j a (by have := hv.2.1; omega))) dX4_firstFrom_35 rfl rfl wd_795 wd_797 ws_37 wd_11 wd_798 ne_X4 np_X4_goOn (Nat.le_of_ble_eq_true rfl)  (by decide) (by decide) rfl (Nat.le_of_ble_eq_true rfl) rfl rfl rfl rfl (by decide) rfl (fun v1 f1 hp => ?_)
        obtain ⟨r_35, rfl, rfl, h35_0⟩ := hp
        show G g E _ _ _ [(wSearch g s bo9 (ln u)), (wShelf g a L ln tp rd cnt era nws)] 38 [(0, .ref (s 0)), (1, .ref (a 0)), (2, .int (iI t)), (3, .int (iI u)), (4, .int (iI fr)), (5, .int (iI q)), (6, .int (iI p))] [.int (iI r_35)]
        have hv2 := hv.next h35_0
        have hvr := hv2.1
        have hvr2 := hv2.2.1
        refine r_istore 40 hE [(5, .int (iI r_35)), (0, .ref (s 0)), (1, .ref (a 0)), (2, .int (iI t)), (3, .int (iI u)), (4, .int (iI fr)), (6, .int (iI p))] dX4_firstFrom_38 rfl (by decide) rfl ?_
        refine r_iload 42 hE 0 dX4_firstFrom_40 rfl rfl ?_
        refine r_aload_n 43 hE 1 dX4_firstFrom_42 rfl rfl rfl ?_
        refine r_get 46 hE 0 0 ok4 1 dX4_firstFrom_43 rfl wd_291 rfl rfl (by decide) rfl ?_
        refine r_icmp_ne 49 59 hE dX4_firstFrom_46 rfl (by decide) (by omega) (fun c46 => ?_) (fun c46 => ?_)
        · skip
          have hx2 : ∀ k, fr ≤ k → k + ln u ≤ p + 1 → ¬ Mch (tx L u) (ln u) (tx L t) k := by
            intro k a b
            by_cases e : k + ln u ≤ p
            · exact hx k a e
            · rw [show k = p + 1 - ln u by omega]; exact hv2.no c46 (by omega)
          refine r_iinc 62 hE 6 (p + 1) [(6, .int (iI (p + 1))), (5, .int (iI r_35)), (0, .ref (s 0)), (1, .ref (a 0)), (2, .int (iI t)), (3, .int (iI u)), (4, .int (iI fr))] dX4_firstFrom_59 rfl rfl rfl (by decide) rfl ?_
          refine r_goto 13 hE dX4_firstFrom_62 (by decide) ?_
          refine G.to (fs' := [(wSearch g s bo9 (ln u)), (wShelf g a L ln tp rd cnt era nws)]) (lv' := [(0, .ref (s 0)), (1, .ref (a 0)), (2, .int (iI t)), (3, .int (iI u)), (4, .int (iI fr)), (5, .int (iI r_35)), (6, .int (iI (p + 1)))]) [0, 1] [2, 3, 4, 5, 6, 1, 0] rfl rfl rfl ?_
          exact ih13 (p + 1) r_35 bo9 (by omega) (by first | exact hbo | exact h3_0) (by first | exact hv2 | exact MtIs.start (by omega)) (by first | exact hx2 | exact (fun k a b => absurd b (by omega))) (by omega)
        · skip
          refine r_iload 51 hE 6 dX4_firstFrom_49 rfl rfl ?_
          refine r_aload_n 52 hE 1 dX4_firstFrom_51 rfl rfl rfl ?_
          refine r_get 55 hE 0 0 ok4 1 dX4_firstFrom_52 rfl wd_291 rfl rfl (by decide) rfl ?_
          refine r_isub 56 hE (p - (ln u)) dX4_firstFrom_55 rfl rfl ?_
          refine r_iconst 57 hE dX4_firstFrom_56 rfl ?_
          refine r_iadd 58 hE ((p - (ln u)) + 1) dX4_firstFrom_57 rfl rfl ?_
          refine r_ireturn hE hR [(wSearch g s bo9 (ln u)), (wShelf g a L ln tp rd cnt era nws)] dX4_firstFrom_58 (Nat.le_of_ble_eq_true rfl) (Nat.le_of_ble_eq_true rfl) rfl ?_
          rw [c46] at hv2
          have hy := hv2.yes
          have hyf := hv2.2.2.1
          exact ⟨bo9, p - ln u + 1, rfl, rfl, Or.inr ⟨by omega, by omega, by rw [show p - ln u + 1 = p + 1 - ln u by omega]; exact hy, fun k a b => hx k a (by omega)⟩⟩
  refine r_aload_n 1 hE 0 dX4_firstFrom_0 rfl rfl rfl ?_
  refine r_aload_n 2 hE 1 dX4_firstFrom_1 rfl rfl rfl ?_
  refine r_iload_n 3 hE 3 dX4_firstFrom_2 rfl rfl rfl ?_
  refine r_callV 6 hE [0, 1] [] [(wSearch g s bo sl), (wShelf g a L ln tp rd cnt era nws)] [] 0 4 ok4 [] (c_X4_prepare (by omega) (by omega) (hln) (hB) (hL) (h1)) dX4_firstFrom_3 rfl rfl wd_785 wd_787 ws_36 wd_11 wd_788 ne_X4 np_X4_prepare (Nat.le_of_ble_eq_true rfl)  (by decide) (by decide) rfl (Nat.le_of_ble_eq_true rfl) rfl rfl rfl rfl (by decide) rfl (fun v1 f1 hp => ?_)
  obtain ⟨bo9, rfl, rfl, h3_0⟩ := hp
  show G g E _ _ _ [(wSearch g s bo9 (ln u)), (wShelf g a L ln tp rd cnt era nws)] 6 [(0, .ref (s 0)), (1, .ref (a 0)), (2, .int (iI t)), (3, .int (iI u)), (4, .int (iI fr))] []
  refine r_iconst 7 hE dX4_firstFrom_6 rfl ?_
  refine r_istore 9 hE [(5, .int (iI 0)), (0, .ref (s 0)), (1, .ref (a 0)), (2, .int (iI t)), (3, .int (iI u)), (4, .int (iI fr))] dX4_firstFrom_7 rfl (by decide) rfl ?_
  refine r_iload 11 hE 5 dX4_firstFrom_9 rfl rfl ?_
  refine r_istore 13 hE [(6, .int (iI fr)), (5, .int (iI 0)), (0, .ref (s 0)), (1, .ref (a 0)), (2, .int (iI t)), (3, .int (iI u)), (4, .int (iI fr))] dX4_firstFrom_11 rfl (by decide) rfl ?_
  refine G.to (fs' := [(wSearch g s bo9 (ln u)), (wShelf g a L ln tp rd cnt era nws)]) (lv' := [(0, .ref (s 0)), (1, .ref (a 0)), (2, .int (iI t)), (3, .int (iI u)), (4, .int (iI fr)), (5, .int (iI 0)), (6, .int (iI fr))]) [0, 1] [2, 3, 4, 5, 6, 1, 0] rfl rfl rfl ?_
  exact cut13 _ fr 0 bo9 (by omega) (by first | exact hbo | exact h3_0) (by first | exact hv2 | exact MtIs.start (by omega)) (by first | exact hx2 | exact (fun k a b => absurd b (by omega))) (Nat.lt_succ_self _)
set_option maxHeartbeats 4000000 in
set_option maxRecDepth 100000 in
theorem c_X4_countAll {g : Gm} {a : Nat → Nat} {L ln tp rd : Int → Int} {cnt era nws : Int} {s : Nat → Nat} {bo : Int → Int} {sl : Int} {t u : Int} (ht : 0 ≤ t ∧ t < cnt) (hu : 0 ≤ u ∧ u < cnt) (hc : 0 ≤ cnt ∧ cnt ≤ 8) (hln : ∀ j, 0 ≤ j → j < cnt → 0 ≤ ln j ∧ ln j ≤ 600) (hB : BR L) (hL : ∀ k, 0 ≤ k → k < ln u → 0 ≤ tx L u k) (hLt : ∀ k, 0 ≤ k → k < ln t → 0 ≤ tx L t k) (h1 : 1 ≤ ln u) : Ct g 4 0 0 yX4_countAll cX4_countAll 7 (some .int) [.ref (s 0), .ref (a 0), .int (iI t), .int (iI u)] [(wSearch g s bo sl), (wShelf g a L ln tp rd cnt era nws)] (fun v w => ∃ bo9 : Int → Int, v = some (.int (iI (fndCnt (tx L u) (ln u) (tx L t) (ln t - ln u + 1)))) ∧ w = [(wSearch g s bo9 (ln u)), (wShelf g a L ln tp rd cnt era nws)]) := by
  refine Ct.of (by decide) (Nat.le_of_ble_eq_true rfl) (lv := [(0, .ref (s 0)), (1, .ref (a 0)), (2, .int (iI t)), (3, .int (iI u))]) rfl ?_
  intro E hE hR hnm
  have hl1 := hln t ht.1 ht.2
  have hl2 := hln u hu.1 hu.2
  have cut15 : ∀ (N : Nat) (p : Int) (q : Int) (bo9 : Int → Int), (0 ≤ p ∧ p ≤ ln t) → (∀ j, 1 ≤ j → j ≤ ln u → IsB (tx L u) j (bo9 j)) → (MtIs (tx L u) (ln u) (tx L t) 0 p q) → (ln t - p).toNat < N → G g E 7 0 0 [(wSearch g s bo9 (ln u)), (wShelf g a L ln tp rd cnt era nws)] 15 [(0, .ref (s 0)), (1, .ref (a 0)), (2, .int (iI t)), (3, .int (iI u)), (4, .int (iI q)), (5, .int (iI (fndCnt (tx L u) (ln u) (tx L t) (p - ln u + 1)))), (6, .int (iI p))] [] := by
    intro N
    induction N with
    | zero => intro p q bo9 _ _ _ hN; exact absurd hN (Nat.not_lt_zero _)
    | succ N ih15 =>
      intro p q bo9 hp hbo hv hN
      have hs := fndCnt_bd (tx L u) (ln u) (tx L t) (p - ln u + 1)
      refine r_iload 17 hE 6 dX4_countAll_15 rfl rfl ?_
      refine r_aload_n 18 hE 1 dX4_countAll_17 rfl rfl rfl ?_
      refine r_iload_n 19 hE 2 dX4_countAll_18 rfl rfl rfl ?_
      refine r_callV 22 hE [1] [0] [(wShelf g a L ln tp rd cnt era nws)] [(wSearch g s bo9 (ln u))] 0 5 ok5 [.int (iI p)] (c_X5_lengthOf (by omega) (by omega)) dX4_countAll_19 rfl rfl wd_789 wd_631 wd_632 wd_4 wd_633 ne_X5 np_X5_lengthOf (Nat.le_of_ble_eq_true rfl)  (by decide) (by decide) rfl (Nat.le_of_ble_eq_true rfl) rfl rfl rfl rfl (by decide) rfl (fun v1 f1 hp => ?_)
      obtain ⟨rfl, rfl⟩ := hp
      show G g E _ _ _ [(wShelf g a L ln tp rd cnt era nws), (wSearch g s bo9 (ln u))] 22 [(0, .ref (s 0)), (1, .ref (a 0)), (2, .int (iI t)), (3, .int (iI u)), (4, .int (iI q)), (5, .int (iI (fndCnt (tx L u) (ln u) (tx L t) (p - ln u + 1)))), (6, .int (iI p))] [.int (iI (ln t)), .int (iI p)]
      refine r_icmp_ge 25 60 hE dX4_countAll_22 rfl (by decide) (by omega) (fun c22 => ?_) (fun c22 => ?_)
      · skip
        refine r_iload 62 hE 5 dX4_countAll_60 rfl rfl ?_
        refine G.to (fs' := [(wSearch g s bo9 (ln u)), (wShelf g a L ln tp rd cnt era nws)]) [1, 0] [0, 1, 2, 3, 4, 5, 6] rfl rfl rfl ?_
        refine r_ireturn hE hR [(wSearch g s bo9 (ln u)), (wShelf g a L ln tp rd cnt era nws)] dX4_countAll_62 (Nat.le_of_ble_eq_true rfl) (Nat.le_of_ble_eq_true rfl) rfl ?_
        exact ⟨bo9, retI (by rw [show p = ln t by omega]), rfl⟩
      · skip
        refine r_aload_n 26 hE 0 dX4_countAll_25 rfl rfl rfl ?_
        refine r_aload_n 27 hE 1 dX4_countAll_26 rfl rfl rfl ?_
        refine r_iload_n 28 hE 3 dX4_countAll_27 rfl rfl rfl ?_
        refine r_iload 30 hE 4 dX4_countAll_28 rfl rfl ?_
        refine r_aload_n 31 hE 1 dX4_countAll_30 rfl rfl rfl ?_
        refine r_iload_n 32 hE 2 dX4_countAll_31 rfl rfl rfl ?_
        refine r_iload 34 hE 6 dX4_countAll_32 rfl rfl ?_
        refine r_callV 37 hE [0] [1] [(wShelf g a L ln tp rd cnt era nws)] [(wSearch g s bo9 (ln u))] 0 5 ok5 [.int (iI q), .int (iI u), .ref (a 0), .ref (s 0)] (c_X5_at (by omega) (by omega) (hln) (by omega)) dX4_countAll_34 rfl rfl wd_791 wd_792 wd_793 wd_4 wd_794 ne_X5 np_X5_at (Nat.le_of_ble_eq_true rfl)  (by decide) (by decide) rfl (Nat.le_of_ble_eq_true rfl) rfl rfl rfl rfl (by decide) rfl (fun v1 f1 hp => ?_)
        obtain ⟨rfl, rfl⟩ := hp
        show G g E _ _ _ [(wShelf g a L ln tp rd cnt era nws), (wSearch g s bo9 (ln u))] 37 [(0, .ref (s 0)), (1, .ref (a 0)), (2, .int (iI t)), (3, .int (iI u)), (4, .int (iI q)), (5, .int (iI (fndCnt (tx L u) (ln u) (tx L t) (p - ln u + 1)))), (6, .int (iI p))] [.int (iI (atF L ln t p)), .int (iI q), .int (iI u), .ref (a 0), .ref (s 0)]
        rw [show (atF L ln t p : Int) = tx L t p from atF_tx (by omega)]
        refine r_callV 40 hE [1, 0] [] [(wSearch g s bo9 (ln u)), (wShelf g a L ln tp rd cnt era nws)] [] 0 4 ok4 [] (c_X4_goOn (by omega) (by omega) (hln) (hB) (by have := hv.1; have := hv.2.1; omega) (by have h2 := hLt p (by omega) (by omega); have h3 : tx L t p ≤ 127 := (hB _).2; omega) (fun j a b => hbo j a (by have := hv.2.1; omega))) dX4_countAll_37 rfl rfl wd_795 wd_797 ws_37 wd_11 wd_798 ne_X4 np_X4_goOn (Nat.le_of_ble_eq_true rfl)  (by decide) (by decide) rfl (Nat.le_of_ble_eq_true rfl) rfl rfl rfl rfl (by decide) rfl (fun v1 f1 hp => ?_)
        obtain ⟨r_37, rfl, rfl, h37_0⟩ := hp
        show G g E _ _ _ [(wSearch g s bo9 (ln u)), (wShelf g a L ln tp rd cnt era nws)] 40 [(0, .ref (s 0)), (1, .ref (a 0)), (2, .int (iI t)), (3, .int (iI u)), (4, .int (iI q)), (5, .int (iI (fndCnt (tx L u) (ln u) (tx L t) (p - ln u + 1)))), (6, .int (iI p))] [.int (iI r_37)]
        have hv2 := hv.next h37_0
        have hvr := hv2.1
        have hvr2 := hv2.2.1
        have hvr3 := hv2.2.2.1
        refine r_istore 42 hE [(4, .int (iI r_37)), (0, .ref (s 0)), (1, .ref (a 0)), (2, .int (iI t)), (3, .int (iI u)), (5, .int (iI (fndCnt (tx L u) (ln u) (tx L t) (p - ln u + 1)))), (6, .int (iI p))] dX4_countAll_40 rfl (by decide) rfl ?_
        refine r_iload 44 hE 0 dX4_countAll_42 rfl rfl ?_
        refine r_aload_n 45 hE 1 dX4_countAll_44 rfl rfl rfl ?_
        refine r_get 48 hE 0 0 ok4 1 dX4_countAll_45 rfl wd_291 rfl rfl (by decide) rfl ?_
        refine r_icmp_ne 51 54 hE dX4_countAll_48 rfl (by decide) (by omega) (fun c48 => ?_) (fun c48 => ?_)
        · skip
          have hcn : fndCnt (tx L u) (ln u) (tx L t) (p - ln u + 1) = fndCnt (tx L u) (ln u) (tx L t) (p + 1 - ln u + 1) := by
            rw [fndCnt_no h1 hv2 c48, show p + 1 - ln u = p - ln u + 1 by omega]
          refine r_iinc 57 hE 6 (p + 1) [(6, .int (iI (p + 1))), (4, .int (iI r_37)), (0, .ref (s 0)), (1, .ref (a 0)), (2, .int (iI t)), (3, .int (iI u)), (5, .int (iI (fndCnt (tx L u) (ln u) (tx L t) (p - ln u + 1))))] dX4_countAll_54 rfl rfl rfl (by decide) rfl ?_
          refine r_goto 15 hE dX4_countAll_57 (by decide) ?_
          refine G.to (fs' := [(wSearch g s bo9 (ln u)), (wShelf g a L ln tp rd cnt era nws)]) (lv' := [(0, .ref (s 0)), (1, .ref (a 0)), (2, .int (iI t)), (3, .int (iI u)), (4, .int (iI r_37)), (5, .int (iI (fndCnt (tx L u) (ln u) (tx L t) (p - ln u + 1)))), (6, .int (iI (p + 1)))]) [0, 1] [2, 3, 4, 5, 1, 6, 0] rfl rfl rfl ?_
          refine G.cast (fs' := [(wSearch g s bo9 (ln u)), (wShelf g a L ln tp rd cnt era nws)]) (lv' := [(0, .ref (s 0)), (1, .ref (a 0)), (2, .int (iI t)), (3, .int (iI u)), (4, .int (iI r_37)), (5, .int (iI (fndCnt (tx L u) (ln u) (tx L t) ((p + 1) - ln u + 1)))), (6, .int (iI (p + 1)))]) rfl (congrArg (fun z9 : Int => ([(0, .ref (s 0)), (1, .ref (a 0)), (2, .int (iI t)), (3, .int (iI u)), (4, .int (iI r_37)), (5, .int (iI z9)), (6, .int (iI (p + 1)))] : List (Nat × Value))) (show (fndCnt (tx L u) (ln u) (tx L t) (p - ln u + 1) : Int) = fndCnt (tx L u) (ln u) (tx L t) ((p + 1) - ln u + 1) from by first | exact (fndCnt_neg _ _ _ (by omega)).symm | exact hcy | exact hcn)) ?_
          exact ih15 (p + 1) r_37 bo9 (by omega) (by first | exact hbo | exact h3_0) (by first | exact hv2 | exact MtIs.start (by omega)) (by omega)
        · skip
          have hcy : fndCnt (tx L u) (ln u) (tx L t) (p - ln u + 1) + 1 = fndCnt (tx L u) (ln u) (tx L t) (p + 1 - ln u + 1) := by
            have h9 := hv2
            rw [c48] at h9
            rw [fndCnt_yes h1 (by omega) h9, show p + 1 - ln u = p - ln u + 1 by omega]
          refine r_iinc 54 hE 5 ((fndCnt (tx L u) (ln u) (tx L t) (p - ln u + 1)) + 1) [(5, .int (iI ((fndCnt (tx L u) (ln u) (tx L t) (p - ln u + 1)) + 1))), (4, .int (iI r_37)), (0, .ref (s 0)), (1, .ref (a 0)), (2, .int (iI t)), (3, .int (iI u)), (6, .int (iI p))] dX4_countAll_51 rfl rfl rfl (by decide) rfl ?_
          refine r_iinc 57 hE 6 (p + 1) [(6, .int (iI (p + 1))), (5, .int (iI ((fndCnt (tx L u) (ln u) (tx L t) (p - ln u + 1)) + 1))), (4, .int (iI r_37)), (0, .ref (s 0)), (1, .ref (a 0)), (2, .int (iI t)), (3, .int (iI u))] dX4_countAll_54 rfl rfl rfl (by decide) rfl ?_
          refine r_goto 15 hE dX4_countAll_57 (by decide) ?_
          refine G.to (fs' := [(wSearch g s bo9 (ln u)), (wShelf g a L ln tp rd cnt era nws)]) (lv' := [(0, .ref (s 0)), (1, .ref (a 0)), (2, .int (iI t)), (3, .int (iI u)), (4, .int (iI r_37)), (5, .int (iI ((fndCnt (tx L u) (ln u) (tx L t) (p - ln u + 1)) + 1))), (6, .int (iI (p + 1)))]) [0, 1] [3, 4, 5, 6, 2, 1, 0] rfl rfl rfl ?_
          refine G.cast (fs' := [(wSearch g s bo9 (ln u)), (wShelf g a L ln tp rd cnt era nws)]) (lv' := [(0, .ref (s 0)), (1, .ref (a 0)), (2, .int (iI t)), (3, .int (iI u)), (4, .int (iI r_37)), (5, .int (iI (fndCnt (tx L u) (ln u) (tx L t) ((p + 1) - ln u + 1)))), (6, .int (iI (p + 1)))]) rfl (congrArg (fun z9 : Int => ([(0, .ref (s 0)), (1, .ref (a 0)), (2, .int (iI t)), (3, .int (iI u)), (4, .int (iI r_37)), (5, .int (iI z9)), (6, .int (iI (p + 1)))] : List (Nat × Value))) (show ((fndCnt (tx L u) (ln u) (tx L t) (p - ln u + 1)) + 1 : Int) = fndCnt (tx L u) (ln u) (tx L t) ((p + 1) - ln u + 1) from by first | exact (fndCnt_neg _ _ _ (by omega)).symm | exact hcy | exact hcn)) ?_
          exact ih15 (p + 1) r_37 bo9 (by omega) (by first | exact hbo | exact h3_0) (by first | exact hv2 | exact MtIs.start (by omega)) (by omega)
  refine r_aload_n 1 hE 0 dX4_countAll_0 rfl rfl rfl ?_
  refine r_aload_n 2 hE 1 dX4_countAll_1 rfl rfl rfl ?_
  refine r_iload_n 3 hE 3 dX4_countAll_2 rfl rfl rfl ?_
  refine r_callV 6 hE [0, 1] [] [(wSearch g s bo sl), (wShelf g a L ln tp rd cnt era nws)] [] 0 4 ok4 [] (c_X4_prepare (by omega) (by omega) (hln) (hB) (hL) (h1)) dX4_countAll_3 rfl rfl wd_785 wd_787 ws_36 wd_11 wd_788 ne_X4 np_X4_prepare (Nat.le_of_ble_eq_true rfl)  (by decide) (by decide) rfl (Nat.le_of_ble_eq_true rfl) rfl rfl rfl rfl (by decide) rfl (fun v1 f1 hp => ?_)
  obtain ⟨bo9, rfl, rfl, h3_0⟩ := hp
  show G g E _ _ _ [(wSearch g s bo9 (ln u)), (wShelf g a L ln tp rd cnt era nws)] 6 [(0, .ref (s 0)), (1, .ref (a 0)), (2, .int (iI t)), (3, .int (iI u))] []
  refine r_iconst 7 hE dX4_countAll_6 rfl ?_
  refine r_istore 9 hE [(4, .int (iI 0)), (0, .ref (s 0)), (1, .ref (a 0)), (2, .int (iI t)), (3, .int (iI u))] dX4_countAll_7 rfl (by decide) rfl ?_
  refine r_iconst 10 hE dX4_countAll_9 rfl ?_
  refine r_istore 12 hE [(5, .int (iI 0)), (4, .int (iI 0)), (0, .ref (s 0)), (1, .ref (a 0)), (2, .int (iI t)), (3, .int (iI u))] dX4_countAll_10 rfl (by decide) rfl ?_
  refine r_iconst 13 hE dX4_countAll_12 rfl ?_
  refine r_istore 15 hE [(6, .int (iI 0)), (5, .int (iI 0)), (4, .int (iI 0)), (0, .ref (s 0)), (1, .ref (a 0)), (2, .int (iI t)), (3, .int (iI u))] dX4_countAll_13 rfl (by decide) rfl ?_
  refine G.to (fs' := [(wSearch g s bo9 (ln u)), (wShelf g a L ln tp rd cnt era nws)]) (lv' := [(0, .ref (s 0)), (1, .ref (a 0)), (2, .int (iI t)), (3, .int (iI u)), (4, .int (iI 0)), (5, .int (iI 0)), (6, .int (iI 0))]) [0, 1] [3, 4, 5, 6, 2, 1, 0] rfl rfl rfl ?_
  refine G.cast (fs' := [(wSearch g s bo9 (ln u)), (wShelf g a L ln tp rd cnt era nws)]) (lv' := [(0, .ref (s 0)), (1, .ref (a 0)), (2, .int (iI t)), (3, .int (iI u)), (4, .int (iI 0)), (5, .int (iI (fndCnt (tx L u) (ln u) (tx L t) (0 - ln u + 1)))), (6, .int (iI 0))]) rfl (congrArg (fun z9 : Int => ([(0, .ref (s 0)), (1, .ref (a 0)), (2, .int (iI t)), (3, .int (iI u)), (4, .int (iI 0)), (5, .int (iI z9)), (6, .int (iI 0))] : List (Nat × Value))) (show (0 : Int) = fndCnt (tx L u) (ln u) (tx L t) (0 - ln u + 1) from by first | exact (fndCnt_neg _ _ _ (by omega)).symm | exact hcy | exact hcn)) ?_
  exact cut15 _ 0 0 bo9 (by omega) (by first | exact hbo | exact h3_0) (by first | exact hv2 | exact MtIs.start (by omega)) (Nat.lt_succ_self _)
