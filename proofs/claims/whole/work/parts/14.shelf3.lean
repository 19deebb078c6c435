set_option maxHeartbeats 4000000 in
set_option maxRecDepth 100000 in
theorem c_X5_remove {g : Gm} {a : Nat → Nat} {L ln tp rd : Int → Int} {cnt era nws : Int} {t : Int} (ht : 0 ≤ t ∧ t < cnt) (hc : 0 ≤ cnt ∧ cnt ≤ 8) (hln : ∀ j, 0 ≤ j → j < cnt → 0 ≤ ln j ∧ ln j ≤ 600) (hB : BR L) : Ct g 2 0 0 yX5_remove cX5_remove 3 none [.ref (a 0), .int (iI t)] [(wShelf g a L ln tp rd cnt era nws)] (fun v w => ∃ L9 : Int → Int, ∃ ln9 : Int → Int, ∃ tp9 : Int → Int, ∃ rd9 : Int → Int, v = none ∧ w = [(wShelf g a L9 ln9 tp9 rd9 (cnt - 1) era nws)] ∧ (ShiftTo t (cnt - 1) L ln tp rd L9 ln9 tp9 rd9) ∧ (BR L9)) := by
  refine Ct.of (by decide) (Nat.le_of_ble_eq_true rfl) (lv := [(0, .ref (a 0)), (1, .int (iI t))]) rfl ?_
  intro E hE hR hnm
  have cut13 : ∀ (N : Nat) (i : Int) (L9 : Int → Int) (ln9 : Int → Int) (tp9 : Int → Int) (rd9 : Int → Int), (t + 1 ≤ i ∧ i ≤ cnt) → (RemInv t i cnt L ln tp rd L9 ln9 tp9 rd9) → (cnt - i).toNat < N → G g E 3 0 0 [(wShelf g a L9 ln9 tp9 rd9 cnt era nws)] 13 [(0, .ref (a 0)), (1, .int (iI t)), (2, .int (iI i))] [] := by
    intro N
    induction N with
    | zero => intro i L9 ln9 tp9 rd9 _ _ hN; exact absurd hN (Nat.not_lt_zero _)
    | succ N ih13 =>
      intro i L9 ln9 tp9 rd9 hi hv hN
      refine r_iload_n 14 hE 2 dX5_remove_13 rfl rfl rfl ?_
      refine r_aload_n 15 hE 0 dX5_remove_14 rfl rfl rfl ?_
      refine r_get 18 hE 0 0 ok5 4 dX5_remove_15 rfl wd_82 rfl rfl (by decide) rfl ?_
      refine r_icmp_ge 21 36 hE dX5_remove_18 rfl (by decide) (by omega) (fun c18 => ?_) (fun c18 => ?_)
      · skip
        refine r_aload_n 37 hE 0 dX5_remove_36 rfl rfl rfl ?_
        refine r_dup 38 hE dX5_remove_37 rfl rfl ?_
        refine r_get 41 hE 0 0 ok5 4 dX5_remove_38 rfl wd_82 rfl rfl (by decide) rfl ?_
        refine r_iconst 42 hE dX5_remove_41 rfl ?_
        refine r_isub 43 hE (cnt - 1) dX5_remove_42 rfl rfl ?_
        refine r_put 46 hE 0 0 ok5 4 (wShelf g a L9 ln9 tp9 rd9 (cnt - 1) era nws) [(wShelf g a L9 ln9 tp9 rd9 (cnt - 1) era nws)] dX5_remove_43 rfl wd_82 rfl rfl (by decide) rfl rfl rfl (Nat.le_of_ble_eq_true rfl) rfl rfl ?_
        refine r_return hE hR [(wShelf g a L9 ln9 tp9 rd9 (cnt - 1) era nws)] dX5_remove_46 (Nat.le_of_ble_eq_true rfl) (Nat.le_of_ble_eq_true rfl) rfl ?_
        have e : i = cnt := by omega
        subst e
        exact ⟨L9, ln9, tp9, rd9, rfl, rfl, hv.1, hv.2.2⟩
      · skip
        refine r_aload_n 22 hE 0 dX5_remove_21 rfl rfl rfl ?_
        refine r_aload_n 23 hE 0 dX5_remove_22 rfl rfl rfl ?_
        refine r_iload_n 24 hE 2 dX5_remove_23 rfl rfl rfl ?_
        refine r_iload_n 25 hE 2 dX5_remove_24 rfl rfl rfl ?_
        refine r_iconst 26 hE dX5_remove_25 rfl ?_
        refine r_isub 27 hE (i - 1) dX5_remove_26 rfl rfl ?_
        refine r_callV 30 hE [0] [] [(wShelf g a L9 ln9 tp9 rd9 cnt era nws)] [] 0 5 ok5 [] (c_X5_copyText_self (by omega) (by omega) (by omega) (by have e := (hv.2.1 i (by omega) (by omega)).1; have := hln i (by omega) (by omega); omega) (by omega) (hv.2.2)) dX5_remove_27 rfl rfl wd_729 wd_730 wd_731 wd_4 wd_732 ne_X5 np_X5_copyText (Nat.le_of_ble_eq_true rfl)  (by decide) (by decide) rfl (Nat.le_of_ble_eq_true rfl) rfl rfl rfl rfl (by decide) rfl (fun v1 f1 hp => ?_)
        obtain ⟨rfl, rfl⟩ := hp
        show G g E _ _ _ [(wShelf g a (cpy L9 L9 (i * 600) ((i - 1) * 600) (ln9 i)) (up ln9 (i - 1) (ln9 i)) (up tp9 (i - 1) (tp9 i)) (up rd9 (i - 1) (rd9 i)) cnt era nws)] 30 [(0, .ref (a 0)), (1, .int (iI t)), (2, .int (iI i))] []
        refine r_iinc 33 hE 2 (i + 1) [(2, .int (iI (i + 1))), (0, .ref (a 0)), (1, .int (iI t))] dX5_remove_30 rfl rfl rfl (by decide) rfl ?_
        refine r_goto 13 hE dX5_remove_33 (by decide) ?_
        refine G.to (fs' := [(wShelf g a (cpy L9 L9 (i * 600) ((i - 1) * 600) (ln9 i)) (up ln9 (i - 1) (ln9 i)) (up tp9 (i - 1) (tp9 i)) (up rd9 (i - 1) (rd9 i)) cnt era nws)]) (lv' := [(0, .ref (a 0)), (1, .int (iI t)), (2, .int (iI (i + 1)))]) [0] [1, 2, 0] rfl rfl rfl ?_
        exact ih13 (i + 1) (cpy L9 L9 (i * 600) ((i - 1) * 600) (ln9 i)) (up ln9 (i - 1) (ln9 i)) (up tp9 (i - 1) (tp9 i)) (up rd9 (i - 1) (rd9 i)) (by omega) (by first | exact hv.step (by omega) hln | exact RemInv.start hB) (by omega)
  refine r_aload_n 1 hE 0 dX5_remove_0 rfl rfl rfl ?_
  refine r_iload_n 2 hE 1 dX5_remove_1 rfl rfl rfl ?_
  refine r_callV 5 hE [0] [] [(wShelf g a L ln tp rd cnt era nws)] [] 0 5 ok5 [] (c_X5_has (by omega) (by omega)) dX5_remove_2 rfl rfl wd_634 wd_578 wd_579 wd_4 wd_580 ne_X5 np_X5_has (Nat.le_of_ble_eq_true rfl)  (by decide) (by decide) rfl (Nat.le_of_ble_eq_true rfl) rfl rfl rfl rfl (by decide) rfl (fun v1 f1 hp => ?_)
  obtain ⟨rfl, rfl⟩ := hp
  show G g E _ _ _ [(wShelf g a L ln tp rd cnt era nws)] 5 [(0, .ref (a 0)), (1, .int (iI t))] [.int (iI (bI (0 ≤ t ∧ t < cnt)))]
  refine r_if_ne 8 9 hE dX5_remove_5 rfl (by decide) (bI_rg _) (fun c5 => ?_) (fun c5 => ?_)
  · skip
    have c5 := bI1 c5
    refine r_iload_n 10 hE 1 dX5_remove_9 rfl rfl rfl ?_
    refine r_iconst 11 hE dX5_remove_10 rfl ?_
    refine r_iadd 12 hE (t + 1) dX5_remove_11 rfl rfl ?_
    refine r_istore_n 13 hE [(2, .int (iI (t + 1))), (0, .ref (a 0)), (1, .int (iI t))] dX5_remove_12 rfl rfl (by decide) rfl ?_
    refine G.to (fs' := [(wShelf g a L ln tp rd cnt era nws)]) (lv' := [(0, .ref (a 0)), (1, .int (iI t)), (2, .int (iI (t + 1)))]) [0] [1, 2, 0] rfl rfl rfl ?_
    exact cut13 _ (t + 1) L ln tp rd (by omega) (by first | exact hv.step (by omega) hln | exact RemInv.start hB) (Nat.lt_succ_self _)
  · skip
    have c5 := bI0 c5
    exact absurd ht c5
set_option maxHeartbeats 4000000 in
set_option maxRecDepth 100000 in
theorem c_X5_same {g : Gm} {a : Nat → Nat} {L ln tp rd : Int → Int} {cnt era nws : Int} {t p u q : Int} (ht : 0 ≤ t ∧ t < cnt) (hu : 0 ≤ u ∧ u < cnt) (hc : 0 ≤ cnt ∧ cnt ≤ 8) (hln : ∀ j, 0 ≤ j → j < cnt → 0 ≤ ln j ∧ ln j ≤ 600) (hB : BR L) (hp : 0 ≤ p ∧ p ≤ ln t) (hq : 0 ≤ q ∧ q ≤ ln u) : Ct g 2 0 0 yX5_same cX5_same 9 (some .int) [.ref (a 0), .int (iI t), .int (iI p), .int (iI u), .int (iI q)] [(wShelf g a L ln tp rd cnt era nws)] (fun v w => ∃ r : Int, v = some (.int (iI r)) ∧ w = [(wShelf g a L ln tp rd cnt era nws)] ∧ (LcpIs (fun k => tx L t (p + k)) (fun k => tx L u (q + k)) (min (ln t - p) (ln u - q)) r)) := by
  refine Ct.of (by decide) (Nat.le_of_ble_eq_true rfl) (lv := [(0, .ref (a 0)), (1, .int (iI t)), (2, .int (iI p)), (3, .int (iI u)), (4, .int (iI q))]) rfl ?_
  intro E hE hR hnm
  have hl1 := hln t ht.1 ht.2
  have hl2 := hln u hu.1 hu.2
  have cut65 : ∀ (N : Nat) (z : Int), (0 ≤ z ∧ z ≤ min (ln t - p) (ln u - q)) → (∀ k, 0 ≤ k → k < z → tx L t (p + k) = tx L u (q + k)) → (min (ln t - p) (ln u - q) - z).toNat < N → G g E 9 0 0 [(wShelf g a L ln tp rd cnt era nws)] 65 [(0, .ref (a 0)), (1, .int (iI t)), (2, .int (iI p)), (3, .int (iI u)), (4, .int (iI q)), (5, .int (iI (min (ln t - p) (ln u - q)))), (6, .int (iI (t * 600 + p))), (7, .int (iI (u * 600 + q))), (8, .int (iI z))] [] := by
    intro N
    induction N with
    | zero => intro z _ _ hN; exact absurd hN (Nat.not_lt_zero _)
    | succ N ih65 =>
      intro z hz hv hN
      refine r_iload 67 hE 8 dX5_same_65 rfl rfl ?_
      refine r_iload 69 hE 5 dX5_same_67 rfl rfl ?_
      refine r_icmp_ge 72 101 hE dX5_same_69 rfl (by decide) (by omega) (fun c69 => ?_) (fun c69 => ?_)
      · skip
        refine r_iload 103 hE 8 dX5_same_101 rfl rfl ?_
        refine r_ireturn hE hR [(wShelf g a L ln tp rd cnt era nws)] dX5_same_103 (Nat.le_of_ble_eq_true rfl) (Nat.le_of_ble_eq_true rfl) rfl ?_
        refine ⟨z, rfl, rfl, hz.1, hz.2, hv, ?_⟩
        first
          | exact Or.inl (by omega)
          | (right; show tx L t (p + z) ≠ tx L u (q + z); unfold tx; rw [show 600 * t + (p + z) = t * 600 + p + z by omega, show 600 * u + (q + z) = u * 600 + q + z by omega]; exact c92)
      · skip
        refine r_aload_n 73 hE 0 dX5_same_72 rfl rfl rfl ?_
        refine r_get 76 hE 0 0 ok5 0 dX5_same_73 rfl wd_75 rfl rfl (by decide) rfl ?_
        refine r_iload 78 hE 6 dX5_same_76 rfl rfl ?_
        refine r_iload 80 hE 8 dX5_same_78 rfl rfl ?_
        refine r_iadd 81 hE ((t * 600 + p) + z) dX5_same_80 rfl rfl ?_
        refine r_bald 82 hE 0 1 dX5_same_81 rfl rfl rfl (by omega) ?_
        refine r_aload_n 83 hE 0 dX5_same_82 rfl rfl rfl ?_
        refine r_get 86 hE 0 0 ok5 0 dX5_same_83 rfl wd_75 rfl rfl (by decide) rfl ?_
        refine r_iload 88 hE 7 dX5_same_86 rfl rfl ?_
        refine r_iload 90 hE 8 dX5_same_88 rfl rfl ?_
        refine r_iadd 91 hE ((u * 600 + q) + z) dX5_same_90 rfl rfl ?_
        refine r_bald 92 hE 0 1 dX5_same_91 rfl rfl rfl (by omega) ?_
        refine r_icmp_ne 95 101 hE dX5_same_92 rfl (by decide) (by have h1 := hB (t * 600 + p + z); have h2 := hB (u * 600 + q + z); omega) (fun c92 => ?_) (fun c92 => ?_)
        · skip
          refine r_iload 103 hE 8 dX5_same_101 rfl rfl ?_
          refine r_ireturn hE hR [(wShelf g a L ln tp rd cnt era nws)] dX5_same_103 (Nat.le_of_ble_eq_true rfl) (Nat.le_of_ble_eq_true rfl) rfl ?_
          refine ⟨z, rfl, rfl, hz.1, hz.2, hv, ?_⟩
          first
            | exact Or.inl (by omega)
            | (right; show tx L t (p + z) ≠ tx L u (q + z); unfold tx; rw [show 600 * t + (p + z) = t * 600 + p + z by omega, show 600 * u + (q + z) = u * 600 + q + z by omega]; exact c92)
        · skip
          have hv2 : ∀ k, 0 ≤ k → k < z + 1 → tx L t (p + k) = tx L u (q + k) := by
            intro k k0 k1
            by_cases e : k = z
            · subst e; unfold tx; rw [show 600 * t + (p + k) = t * 600 + p + k by omega, show 600 * u + (q + k) = u * 600 + q + k by omega]; exact c92
            · exact hv k k0 (by omega)
          refine r_iinc 98 hE 8 (z + 1) [(8, .int (iI (z + 1))), (0, .ref (a 0)), (1, .int (iI t)), (2, .int (iI p)), (3, .int (iI u)), (4, .int (iI q)), (5, .int (iI (min (ln t - p) (ln u - q)))), (6, .int (iI (t * 600 + p))), (7, .int (iI (u * 600 + q)))] dX5_same_95 rfl rfl rfl (by decide) rfl ?_
          refine r_goto 65 hE dX5_same_98 (by decide) ?_
          refine G.to (fs' := [(wShelf g a L ln tp rd cnt era nws)]) (lv' := [(0, .ref (a 0)), (1, .int (iI t)), (2, .int (iI p)), (3, .int (iI u)), (4, .int (iI q)), (5, .int (iI (min (ln t - p) (ln u - q)))), (6, .int (iI (t * 600 + p))), (7, .int (iI (u * 600 + q))), (8, .int (iI (z + 1)))]) [0] [1, 2, 3, 4, 5, 6, 7, 8, 0] rfl rfl rfl ?_
          exact ih65 (z + 1) (by omega) (by first | exact (fun k k0 k1 => absurd k1 (by omega)) | exact hv2) (by omega)
  refine r_aload_n 1 hE 0 dX5_same_0 rfl rfl rfl ?_
  refine r_iload_n 2 hE 1 dX5_same_1 rfl rfl rfl ?_
  refine r_iload_n 3 hE 2 dX5_same_2 rfl rfl rfl ?_
  refine r_iconst 4 hE dX5_same_3 rfl ?_
  refine r_callV 7 hE [0] [] [(wShelf g a L ln tp rd cnt era nws)] [] 0 5 ok5 [] (c_X5_reaches (by omega) (by omega) (hln) (by omega) (by omega)) dX5_same_4 rfl rfl wd_977 wd_874 wd_875 wd_4 wd_876 ne_X5 np_X5_reaches (Nat.le_of_ble_eq_true rfl)  (by decide) (by decide) rfl (Nat.le_of_ble_eq_true rfl) rfl rfl rfl rfl (by decide) rfl (fun v1 f1 hp => ?_)
  obtain ⟨rfl, rfl⟩ := hp
  show G g E _ _ _ [(wShelf g a L ln tp rd cnt era nws)] 7 [(0, .ref (a 0)), (1, .int (iI t)), (2, .int (iI p)), (3, .int (iI u)), (4, .int (iI q))] [.int (iI (bI ((0 ≤ t ∧ t < cnt) ∧ 0 ≤ p ∧ p ≤ ln t ∧ 0 ≤ ln t - p)))]
  refine r_if_eq 10 21 hE dX5_same_7 rfl (by decide) (bI_rg _) (fun c7 => ?_) (fun c7 => ?_)
  · skip
    have c7 := bI0 c7
    omega
  · skip
    have c7 := bI1 c7
    refine r_aload_n 11 hE 0 dX5_same_10 rfl rfl rfl ?_
    refine r_iload_n 12 hE 3 dX5_same_11 rfl rfl rfl ?_
    refine r_iload 14 hE 4 dX5_same_12 rfl rfl ?_
    refine r_iconst 15 hE dX5_same_14 rfl ?_
    refine r_callV 18 hE [0] [] [(wShelf g a L ln tp rd cnt era nws)] [] 0 5 ok5 [] (c_X5_reaches (by omega) (by omega) (hln) (by omega) (by omega)) dX5_same_15 rfl rfl wd_977 wd_874 wd_875 wd_4 wd_876 ne_X5 np_X5_reaches (Nat.le_of_ble_eq_true rfl)  (by decide) (by decide) rfl (Nat.le_of_ble_eq_true rfl) rfl rfl rfl rfl (by decide) rfl (fun v1 f1 hp => ?_)
    obtain ⟨rfl, rfl⟩ := hp
    show G g E _ _ _ [(wShelf g a L ln tp rd cnt era nws)] 18 [(0, .ref (a 0)), (1, .int (iI t)), (2, .int (iI p)), (3, .int (iI u)), (4, .int (iI q))] [.int (iI (bI ((0 ≤ u ∧ u < cnt) ∧ 0 ≤ q ∧ q ≤ ln u ∧ 0 ≤ ln u - q)))]
    refine r_if_ne 21 23 hE dX5_same_18 rfl (by decide) (bI_rg _) (fun c18 => ?_) (fun c18 => ?_)
    · skip
      have c18 := bI1 c18
      refine r_aload_n 24 hE 0 dX5_same_23 rfl rfl rfl ?_
      refine r_iload_n 25 hE 1 dX5_same_24 rfl rfl rfl ?_
      refine r_callV 28 hE [0] [] [(wShelf g a L ln tp rd cnt era nws)] [] 0 5 ok5 [] (c_X5_lengthOf (by omega) (by omega)) dX5_same_25 rfl rfl wd_755 wd_631 wd_632 wd_4 wd_633 ne_X5 np_X5_lengthOf (Nat.le_of_ble_eq_true rfl)  (by decide) (by decide) rfl (Nat.le_of_ble_eq_true rfl) rfl rfl rfl rfl (by decide) rfl (fun v1 f1 hp => ?_)
      obtain ⟨rfl, rfl⟩ := hp
      show G g E _ _ _ [(wShelf g a L ln tp rd cnt era nws)] 28 [(0, .ref (a 0)), (1, .int (iI t)), (2, .int (iI p)), (3, .int (iI u)), (4, .int (iI q))] [.int (iI (ln t))]
      refine r_iload_n 29 hE 2 dX5_same_28 rfl rfl rfl ?_
      refine r_isub 30 hE ((ln t) - p) dX5_same_29 rfl rfl ?_
      refine r_aload_n 31 hE 0 dX5_same_30 rfl rfl rfl ?_
      refine r_iload_n 32 hE 3 dX5_same_31 rfl rfl rfl ?_
      refine r_callV 35 hE [0] [] [(wShelf g a L ln tp rd cnt era nws)] [] 0 5 ok5 [.int (iI ((ln t) - p))] (c_X5_lengthOf (by omega) (by omega)) dX5_same_32 rfl rfl wd_755 wd_631 wd_632 wd_4 wd_633 ne_X5 np_X5_lengthOf (Nat.le_of_ble_eq_true rfl)  (by decide) (by decide) rfl (Nat.le_of_ble_eq_true rfl) rfl rfl rfl rfl (by decide) rfl (fun v1 f1 hp => ?_)
      obtain ⟨rfl, rfl⟩ := hp
      show G g E _ _ _ [(wShelf g a L ln tp rd cnt era nws)] 35 [(0, .ref (a 0)), (1, .int (iI t)), (2, .int (iI p)), (3, .int (iI u)), (4, .int (iI q))] [.int (iI (ln u)), .int (iI ((ln t) - p))]
      refine r_iload 37 hE 4 dX5_same_35 rfl rfl ?_
      refine r_isub 38 hE ((ln u) - q) dX5_same_37 rfl rfl ?_
      refine r_min 41 hE dX5_same_38 rfl wd_978 wd_360 wd_6 wd_361 (Nat.le_of_ble_eq_true rfl) (by decide) (by decide) (Nat.le_of_ble_eq_true rfl) (by omega) ?_
      refine r_istore 43 hE [(5, .int (iI (min ((ln t) - p) ((ln u) - q)))), (0, .ref (a 0)), (1, .int (iI t)), (2, .int (iI p)), (3, .int (iI u)), (4, .int (iI q))] dX5_same_41 rfl (by decide) rfl ?_
      refine r_iload_n 44 hE 2 dX5_same_43 rfl rfl rfl ?_
      refine r_sipush 47 hE dX5_same_44 rfl (by decide) ?_
      refine r_imul 48 hE (t * 600) dX5_same_47 rfl rfl ?_
      refine r_iload_n 49 hE 3 dX5_same_48 rfl rfl rfl ?_
      refine r_iadd 50 hE ((t * 600) + p) dX5_same_49 rfl rfl ?_
      refine r_istore 52 hE [(6, .int (iI ((t * 600) + p))), (5, .int (iI (min ((ln t) - p) ((ln u) - q)))), (0, .ref (a 0)), (1, .int (iI t)), (2, .int (iI p)), (3, .int (iI u)), (4, .int (iI q))] dX5_same_50 rfl (by decide) rfl ?_
      refine r_iload_n 53 hE 5 dX5_same_52 rfl rfl rfl ?_
      refine r_sipush 56 hE dX5_same_53 rfl (by decide) ?_
      refine r_imul 57 hE (u * 600) dX5_same_56 rfl rfl ?_
      refine r_iload 59 hE 6 dX5_same_57 rfl rfl ?_
      refine r_iadd 60 hE ((u * 600) + q) dX5_same_59 rfl rfl ?_
      refine r_istore 62 hE [(7, .int (iI ((u * 600) + q))), (6, .int (iI ((t * 600) + p))), (5, .int (iI (min ((ln t) - p) ((ln u) - q)))), (0, .ref (a 0)), (1, .int (iI t)), (2, .int (iI p)), (3, .int (iI u)), (4, .int (iI q))] dX5_same_60 rfl (by decide) rfl ?_
      refine r_iconst 63 hE dX5_same_62 rfl ?_
      refine r_istore 65 hE [(8, .int (iI 0)), (7, .int (iI ((u * 600) + q))), (6, .int (iI ((t * 600) + p))), (5, .int (iI (min ((ln t) - p) ((ln u) - q)))), (0, .ref (a 0)), (1, .int (iI t)), (2, .int (iI p)), (3, .int (iI u)), (4, .int (iI q))] dX5_same_63 rfl (by decide) rfl ?_
      refine G.to (fs' := [(wShelf g a L ln tp rd cnt era nws)]) (lv' := [(0, .ref (a 0)), (1, .int (iI t)), (2, .int (iI p)), (3, .int (iI u)), (4, .int (iI q)), (5, .int (iI (min ((ln t) - p) ((ln u) - q)))), (6, .int (iI ((t * 600) + p))), (7, .int (iI ((u * 600) + q))), (8, .int (iI 0))]) [0] [4, 5, 6, 7, 8, 3, 2, 1, 0] rfl rfl rfl ?_
      rw [show (min ((ln t) - p) ((ln u) - q) : Int) = min (ln t - p) (ln u - q) from by omega]
      rw [show ((t * 600) + p : Int) = t * 600 + p from by omega]
      rw [show ((u * 600) + q : Int) = u * 600 + q from by omega]
      exact cut65 _ 0 (by omega) (by first | exact (fun k k0 k1 => absurd k1 (by omega)) | exact hv2) (Nat.lt_succ_self _)
    · skip
      have c18 := bI0 c18
      omega
set_option maxHeartbeats 4000000 in
set_option maxRecDepth 100000 in
theorem c_X5_compare {g : Gm} {a : Nat → Nat} {L ln tp rd : Int → Int} {cnt era nws : Int} {t u : Int} (ht : 0 ≤ t ∧ t < cnt) (hu : 0 ≤ u ∧ u < cnt) (hc : 0 ≤ cnt ∧ cnt ≤ 8) (hln : ∀ j, 0 ≤ j → j < cnt → 0 ≤ ln j ∧ ln j ≤ 600) (hB : BR L) : Ct g 3 0 0 yX5_compare cX5_compare 4 (some .int) [.ref (a 0), .int (iI t), .int (iI u)] [(wShelf g a L ln tp rd cnt era nws)] (fun v w => v = some (.int (iI (cmpT (tx L t) (ln t) (tx L u) (ln u)))) ∧ w = [(wShelf g a L ln tp rd cnt era nws)]) := by
  refine Ct.of (by decide) (Nat.le_of_ble_eq_true rfl) (lv := [(0, .ref (a 0)), (1, .int (iI t)), (2, .int (iI u))]) rfl ?_
  intro E hE hR hnm
  have hl1 := hln t ht.1 ht.2
  have hl2 := hln u hu.1 hu.2
  refine r_aload_n 1 hE 0 dX5_compare_0 rfl rfl rfl ?_
  refine r_iload_n 2 hE 1 dX5_compare_1 rfl rfl rfl ?_
  refine r_iconst 3 hE dX5_compare_2 rfl ?_
  refine r_iload_n 4 hE 2 dX5_compare_3 rfl rfl rfl ?_
  refine r_iconst 5 hE dX5_compare_4 rfl ?_
  refine r_callV 8 hE [0] [] [(wShelf g a L ln tp rd cnt era nws)] [] 0 5 ok5 [] (c_X5_same (by omega) (by omega) (by omega) (hln) (hB) (by omega) (by omega)) dX5_compare_5 rfl rfl wd_987 wd_974 wd_975 wd_4 wd_976 ne_X5 np_X5_same (Nat.le_of_ble_eq_true rfl)  (by decide) (by decide) rfl (Nat.le_of_ble_eq_true rfl) rfl rfl rfl rfl (by decide) rfl (fun v1 f1 hp => ?_)
  obtain ⟨r, rfl, rfl, h5_0⟩ := hp
  show G g E _ _ _ [(wShelf g a L ln tp rd cnt era nws)] 8 [(0, .ref (a 0)), (1, .int (iI t)), (2, .int (iI u))] [.int (iI r)]
  have hr := h5_0
  obtain ⟨hr1, hr2, -⟩ := hr
  refine r_istore_n 9 hE [(3, .int (iI r)), (0, .ref (a 0)), (1, .int (iI t)), (2, .int (iI u))] dX5_compare_8 rfl rfl (by decide) rfl ?_
  refine r_aload_n 10 hE 1 dX5_compare_9 rfl rfl rfl ?_
  refine r_iload_n 11 hE 2 dX5_compare_10 rfl rfl rfl ?_
  refine r_iload_n 12 hE 0 dX5_compare_11 rfl rfl rfl ?_
  refine r_callV 15 hE [0] [] [(wShelf g a L ln tp rd cnt era nws)] [] 0 5 ok5 [] (c_X5_at (by omega) (by omega) (hln) (by omega)) dX5_compare_12 rfl rfl wd_803 wd_792 wd_793 wd_4 wd_794 ne_X5 np_X5_at (Nat.le_of_ble_eq_true rfl)  (by decide) (by decide) rfl (Nat.le_of_ble_eq_true rfl) rfl rfl rfl rfl (by decide) rfl (fun v1 f1 hp => ?_)
  obtain ⟨rfl, rfl⟩ := hp
  show G g E _ _ _ [(wShelf g a L ln tp rd cnt era nws)] 15 [(3, .int (iI r)), (0, .ref (a 0)), (1, .int (iI t)), (2, .int (iI u))] [.int (iI (atF L ln t r))]
  refine r_aload_n 16 hE 1 dX5_compare_15 rfl rfl rfl ?_
  refine r_iload_n 17 hE 3 dX5_compare_16 rfl rfl rfl ?_
  refine r_iload_n 18 hE 0 dX5_compare_17 rfl rfl rfl ?_
  refine r_callV 21 hE [0] [] [(wShelf g a L ln tp rd cnt era nws)] [] 0 5 ok5 [.int (iI (atF L ln t r))] (c_X5_at (by omega) (by omega) (hln) (by omega)) dX5_compare_18 rfl rfl wd_803 wd_792 wd_793 wd_4 wd_794 ne_X5 np_X5_at (Nat.le_of_ble_eq_true rfl)  (by decide) (by decide) rfl (Nat.le_of_ble_eq_true rfl) rfl rfl rfl rfl (by decide) rfl (fun v1 f1 hp => ?_)
  obtain ⟨rfl, rfl⟩ := hp
  show G g E _ _ _ [(wShelf g a L ln tp rd cnt era nws)] 21 [(3, .int (iI r)), (0, .ref (a 0)), (1, .int (iI t)), (2, .int (iI u))] [.int (iI (atF L ln u r)), .int (iI (atF L ln t r))]
  refine r_callS 24 hE [] [0] [] [(wShelf g a L ln tp rd cnt era nws)] [] (c_J6_compare_7cf53 (by have := atF_rg hB ln t r; omega) (by have := atF_rg hB ln u r; omega)) dX5_compare_21 rfl wd_988 wd_989 wd_19 wd_990 ne_J6 np_J6_compare_7cf53 (Nat.le_of_ble_eq_true rfl)  (by decide) (by decide) rfl (Nat.le_of_ble_eq_true rfl) rfl rfl rfl rfl (by decide) (fun v1 f1 hp => ?_)
  obtain ⟨rfl, rfl⟩ := hp
  show G g E _ _ _ [(wShelf g a L ln tp rd cnt era nws)] 24 [(3, .int (iI r)), (0, .ref (a 0)), (1, .int (iI t)), (2, .int (iI u))] [.int (iI (cmpI (atF L ln t r) (atF L ln u r)))]
  refine r_ireturn hE hR [(wShelf g a L ln tp rd cnt era nws)] dX5_compare_24 (Nat.le_of_ble_eq_true rfl) (Nat.le_of_ble_eq_true rfl) rfl ?_
  exact ⟨retI (cmpT_at hl1.1 hl2.1 h5_0), rfl⟩
set_option maxHeartbeats 4000000 in
set_option maxRecDepth 100000 in
theorem c_X5_countAheadOf {g : Gm} {a : Nat → Nat} {L ln tp rd : Int → Int} {cnt era nws : Int} {t : Int} (ht : 0 ≤ t ∧ t < cnt) (hc : 0 ≤ cnt ∧ cnt ≤ 8) (hln : ∀ j, 0 ≤ j → j < cnt → 0 ≤ ln j ∧ ln j ≤ 600) (hB : BR L) : Ct g 4 0 0 yX5_countAheadOf cX5_countAheadOf 5 (some .int) [.ref (a 0), .int (iI t)] [(wShelf g a L ln tp rd cnt era nws)] (fun v w => v = some (.int (iI (aheadCnt L ln cnt t))) ∧ w = [(wShelf g a L ln tp rd cnt era nws)]) := by
  refine Ct.of (by decide) (Nat.le_of_ble_eq_true rfl) (lv := [(0, .ref (a 0)), (1, .int (iI t))]) rfl ?_
  intro E hE hR hnm
  have cut4 : ∀ (N : Nat) (i : Int), (0 ≤ i ∧ i ≤ cnt) → (cnt - i).toNat < N → G g E 5 0 0 [(wShelf g a L ln tp rd cnt era nws)] 4 [(0, .ref (a 0)), (1, .int (iI t)), (2, .int (iI (aheadCnt L ln i t))), (3, .int (iI i))] [] := by
    intro N
    induction N with
    | zero => intro i _ hN; exact absurd hN (Nat.not_lt_zero _)
    | succ N ih4 =>
      intro i hi hN
      have hs := aheadCnt_bd L ln t hi.1
      refine r_iload_n 5 hE 3 dX5_countAheadOf_4 rfl rfl rfl ?_
      refine r_aload_n 6 hE 0 dX5_countAheadOf_5 rfl rfl rfl ?_
      refine r_get 9 hE 0 0 ok5 4 dX5_countAheadOf_6 rfl wd_82 rfl rfl (by decide) rfl ?_
      refine r_icmp_ge 12 44 hE dX5_countAheadOf_9 rfl (by decide) (by omega) (fun c9 => ?_) (fun c9 => ?_)
      · skip
        refine r_iload_n 45 hE 2 dX5_countAheadOf_44 rfl rfl rfl ?_
        refine r_ireturn hE hR [(wShelf g a L ln tp rd cnt era nws)] dX5_countAheadOf_45 (Nat.le_of_ble_eq_true rfl) (Nat.le_of_ble_eq_true rfl) rfl ?_
        exact ⟨retI (by rw [show i = cnt by omega]), rfl⟩
      · skip
        refine r_aload_n 13 hE 0 dX5_countAheadOf_12 rfl rfl rfl ?_
        refine r_iload_n 14 hE 3 dX5_countAheadOf_13 rfl rfl rfl ?_
        refine r_iload_n 15 hE 1 dX5_countAheadOf_14 rfl rfl rfl ?_
        refine r_callV 18 hE [0] [] [(wShelf g a L ln tp rd cnt era nws)] [] 0 5 ok5 [] (c_X5_compare (by omega) (by omega) (by omega) (hln) (hB)) dX5_countAheadOf_15 rfl rfl wd_1039 wd_984 wd_985 wd_4 wd_986 ne_X5 np_X5_compare (Nat.le_of_ble_eq_true rfl)  (by decide) (by decide) rfl (Nat.le_of_ble_eq_true rfl) rfl rfl rfl rfl (by decide) rfl (fun v1 f1 hp => ?_)
        obtain ⟨rfl, rfl⟩ := hp
        show G g E _ _ _ [(wShelf g a L ln tp rd cnt era nws)] 18 [(0, .ref (a 0)), (1, .int (iI t)), (2, .int (iI (aheadCnt L ln i t))), (3, .int (iI i))] [.int (iI (cmpT (tx L i) (ln i) (tx L t) (ln t)))]
        have hcr := cmpT_rg (tx L i) (ln i) (tx L t) (ln t)
        refine r_istore 20 hE [(4, .int (iI (cmpT (tx L i) (ln i) (tx L t) (ln t)))), (0, .ref (a 0)), (1, .int (iI t)), (2, .int (iI (aheadCnt L ln i t))), (3, .int (iI i))] dX5_countAheadOf_18 rfl (by decide) rfl ?_
        refine r_iload 22 hE 0 dX5_countAheadOf_20 rfl rfl ?_
        refine r_if_lt 25 35 hE dX5_countAheadOf_22 rfl (by decide) (by omega) (fun c22 => ?_) (fun c22 => ?_)
        · skip
          refine r_iinc 38 hE 3 ((aheadCnt L ln i t) + 1) [(2, .int (iI ((aheadCnt L ln i t) + 1))), (4, .int (iI (cmpT (tx L i) (ln i) (tx L t) (ln t)))), (0, .ref (a 0)), (1, .int (iI t)), (3, .int (iI i))] dX5_countAheadOf_35 rfl rfl rfl (by decide) rfl ?_
          refine r_iinc 41 hE 4 (i + 1) [(3, .int (iI (i + 1))), (2, .int (iI ((aheadCnt L ln i t) + 1))), (4, .int (iI (cmpT (tx L i) (ln i) (tx L t) (ln t)))), (0, .ref (a 0)), (1, .int (iI t))] dX5_countAheadOf_38 rfl rfl rfl (by decide) rfl ?_
          refine r_goto 4 hE dX5_countAheadOf_41 (by decide) ?_
          refine G.to (fs' := [(wShelf g a L ln tp rd cnt era nws)]) (lv' := [(0, .ref (a 0)), (1, .int (iI t)), (2, .int (iI ((aheadCnt L ln i t) + 1))), (3, .int (iI (i + 1)))]) [0] [3, 4, 1, 0] rfl rfl rfl ?_
          rw [show ((aheadCnt L ln i t) + 1 : Int) = aheadCnt L ln (i + 1) t from by first | rfl | (rw [aheadCnt_yes hi.1 (by omega)]) | (rw [aheadCnt_no hi.1 (by omega)])]
          exact ih4 (i + 1) (by omega) (by omega)
        · skip
          refine r_iload 27 hE 0 dX5_countAheadOf_25 rfl rfl ?_
          refine r_if_ne 30 38 hE dX5_countAheadOf_27 rfl (by decide) (by omega) (fun c27 => ?_) (fun c27 => ?_)
          · skip
            refine r_iinc 41 hE 4 (i + 1) [(3, .int (iI (i + 1))), (4, .int (iI (cmpT (tx L i) (ln i) (tx L t) (ln t)))), (0, .ref (a 0)), (1, .int (iI t)), (2, .int (iI (aheadCnt L ln i t)))] dX5_countAheadOf_38 rfl rfl rfl (by decide) rfl ?_
            refine r_goto 4 hE dX5_countAheadOf_41 (by decide) ?_
            refine G.to (fs' := [(wShelf g a L ln tp rd cnt era nws)]) (lv' := [(0, .ref (a 0)), (1, .int (iI t)), (2, .int (iI (aheadCnt L ln i t))), (3, .int (iI (i + 1)))]) [0] [2, 3, 4, 0] rfl rfl rfl ?_
            rw [show (aheadCnt L ln i t : Int) = aheadCnt L ln (i + 1) t from by first | rfl | (rw [aheadCnt_yes hi.1 (by omega)]) | (rw [aheadCnt_no hi.1 (by omega)])]
            exact ih4 (i + 1) (by omega) (by omega)
          · skip
            refine r_iload_n 31 hE 4 dX5_countAheadOf_30 rfl rfl rfl ?_
            refine r_iload_n 32 hE 2 dX5_countAheadOf_31 rfl rfl rfl ?_
            refine r_icmp_ge 35 38 hE dX5_countAheadOf_32 rfl (by decide) (by omega) (fun c32 => ?_) (fun c32 => ?_)
            · skip
              refine r_iinc 41 hE 4 (i + 1) [(3, .int (iI (i + 1))), (4, .int (iI (cmpT (tx L i) (ln i) (tx L t) (ln t)))), (0, .ref (a 0)), (1, .int (iI t)), (2, .int (iI (aheadCnt L ln i t)))] dX5_countAheadOf_38 rfl rfl rfl (by decide) rfl ?_
              refine r_goto 4 hE dX5_countAheadOf_41 (by decide) ?_
              refine G.to (fs' := [(wShelf g a L ln tp rd cnt era nws)]) (lv' := [(0, .ref (a 0)), (1, .int (iI t)), (2, .int (iI (aheadCnt L ln i t))), (3, .int (iI (i + 1)))]) [0] [2, 3, 4, 0] rfl rfl rfl ?_
              rw [show (aheadCnt L ln i t : Int) = aheadCnt L ln (i + 1) t from by first | rfl | (rw [aheadCnt_yes hi.1 (by omega)]) | (rw [aheadCnt_no hi.1 (by omega)])]
              exact ih4 (i + 1) (by omega) (by omega)
            · skip
              refine r_iinc 38 hE 3 ((aheadCnt L ln i t) + 1) [(2, .int (iI ((aheadCnt L ln i t) + 1))), (4, .int (iI (cmpT (tx L i) (ln i) (tx L t) (ln t)))), (0, .ref (a 0)), (1, .int (iI t)), (3, .int (iI i))] dX5_countAheadOf_35 rfl rfl rfl (by decide) rfl ?_
              refine r_iinc 41 hE 4 (i + 1) [(3, .int (iI (i + 1))), (2, .int (iI ((aheadCnt L ln i t) + 1))), (4, .int (iI (cmpT (tx L i) (ln i) (tx L t) (ln t)))), (0, .ref (a 0)), (1, .int (iI t))] dX5_countAheadOf_38 rfl rfl rfl (by decide) rfl ?_
              refine r_goto 4 hE dX5_countAheadOf_41 (by decide) ?_
              refine G.to (fs' := [(wShelf g a L ln tp rd cnt era nws)]) (lv' := [(0, .ref (a 0)), (1, .int (iI t)), (2, .int (iI ((aheadCnt L ln i t) + 1))), (3, .int (iI (i + 1)))]) [0] [3, 4, 1, 0] rfl rfl rfl ?_
              rw [show ((aheadCnt L ln i t) + 1 : Int) = aheadCnt L ln (i + 1) t from by first | rfl | (rw [aheadCnt_yes hi.1 (by omega)]) | (rw [aheadCnt_no hi.1 (by omega)])]
              exact ih4 (i + 1) (by omega) (by omega)
  refine r_iconst 1 hE dX5_countAheadOf_0 rfl ?_
  refine r_istore_n 2 hE [(2, .int (iI 0)), (0, .ref (a 0)), (1, .int (iI t))] dX5_countAheadOf_1 rfl rfl (by decide) rfl ?_
  refine r_iconst 3 hE dX5_countAheadOf_2 rfl ?_
  refine r_istore_n 4 hE [(3, .int (iI 0)), (2, .int (iI 0)), (0, .ref (a 0)), (1, .int (iI t))] dX5_countAheadOf_3 rfl rfl (by decide) rfl ?_
  refine G.to (fs' := [(wShelf g a L ln tp rd cnt era nws)]) (lv' := [(0, .ref (a 0)), (1, .int (iI t)), (2, .int (iI 0)), (3, .int (iI 0))]) [0] [2, 3, 1, 0] rfl rfl rfl ?_
  rw [show (0 : Int) = aheadCnt L ln 0 t from by first | rfl | (rw [aheadCnt_yes hi.1 (by omega)]) | (rw [aheadCnt_no hi.1 (by omega)])]
  exact cut4 _ 0 (by omega) (Nat.lt_succ_self _)
set_option maxHeartbeats 4000000 in
set_option maxRecDepth 100000 in
theorem c_X5_countAhead {g : Gm} {a : Nat → Nat} {L ln tp rd : Int → Int} {cnt era nws : Int} {t c n : Int} (ht : 0 ≤ t ∧ t < cnt) (hc : 0 ≤ cnt ∧ cnt ≤ 8) (hln : ∀ j, 0 ≤ j → j < cnt → 0 ≤ ln j ∧ ln j ≤ 600) (hB : BR L) (hcc : -2147483648 ≤ c ∧ c ≤ 2147483647) (hn : 0 ≤ n ∧ n ≤ ln t) : Ct g 2 0 0 yX5_countAhead cX5_countAhead 6 (some .int) [.ref (a 0), .int (iI t), .int (iI c), .int (iI n)] [(wShelf g a L ln tp rd cnt era nws)] (fun v w => v = some (.int (iI (cntF (tx L t) c n))) ∧ w = [(wShelf g a L ln tp rd cnt era nws)]) := by
  refine Ct.of (by decide) (Nat.le_of_ble_eq_true rfl) (lv := [(0, .ref (a 0)), (1, .int (iI t)), (2, .int (iI c)), (3, .int (iI n))]) rfl ?_
  intro E hE hR hnm
  have hl1 := hln t ht.1 ht.2
  have cut6 : ∀ (N : Nat) (i : Int), (0 ≤ i ∧ i ≤ n) → (n - i).toNat < N → G g E 6 0 0 [(wShelf g a L ln tp rd cnt era nws)] 6 [(0, .ref (a 0)), (1, .int (iI t)), (2, .int (iI c)), (3, .int (iI n)), (4, .int (iI (cntF (tx L t) c i))), (5, .int (iI i))] [] := by
    intro N
    induction N with
    | zero => intro i _ hN; exact absurd hN (Nat.not_lt_zero _)
    | succ N ih6 =>
      intro i hi hN
      have hs := cntF_bd (tx L t) c hi.1
      refine r_iload 8 hE 5 dX5_countAhead_6 rfl rfl ?_
      refine r_iload_n 9 hE 3 dX5_countAhead_8 rfl rfl rfl ?_
      refine r_icmp_ge 12 40 hE dX5_countAhead_9 rfl (by decide) (by omega) (fun c9 => ?_) (fun c9 => ?_)
      · skip
        refine r_iload 42 hE 4 dX5_countAhead_40 rfl rfl ?_
        refine r_ireturn hE hR [(wShelf g a L ln tp rd cnt era nws)] dX5_countAhead_42 (Nat.le_of_ble_eq_true rfl) (Nat.le_of_ble_eq_true rfl) rfl ?_
        exact ⟨retI (by rw [show i = n by omega]), rfl⟩
      · skip
        refine r_iload 14 hE 5 dX5_countAhead_12 rfl rfl ?_
        refine r_sipush 17 hE dX5_countAhead_14 rfl (by decide) ?_
        refine r_icmp_ge 20 40 hE dX5_countAhead_17 rfl (by decide) (by omega) (fun c17 => ?_) (fun c17 => ?_)
        · skip
          omega
        · skip
          refine r_aload_n 21 hE 0 dX5_countAhead_20 rfl rfl rfl ?_
          refine r_iload_n 22 hE 1 dX5_countAhead_21 rfl rfl rfl ?_
          refine r_iload 24 hE 5 dX5_countAhead_22 rfl rfl ?_
          refine r_callV 27 hE [0] [] [(wShelf g a L ln tp rd cnt era nws)] [] 0 5 ok5 [] (c_X5_at (by omega) (by omega) (hln) (by omega)) dX5_countAhead_24 rfl rfl wd_803 wd_792 wd_793 wd_4 wd_794 ne_X5 np_X5_at (Nat.le_of_ble_eq_true rfl)  (by decide) (by decide) rfl (Nat.le_of_ble_eq_true rfl) rfl rfl rfl rfl (by decide) rfl (fun v1 f1 hp => ?_)
          obtain ⟨rfl, rfl⟩ := hp
          show G g E _ _ _ [(wShelf g a L ln tp rd cnt era nws)] 27 [(0, .ref (a 0)), (1, .int (iI t)), (2, .int (iI c)), (3, .int (iI n)), (4, .int (iI (cntF (tx L t) c i))), (5, .int (iI i))] [.int (iI (atF L ln t i))]
          rw [atF_tx (L := L) (ln := ln) (t := t) (p := i) (by omega)]
          refine r_iload_n 28 hE 2 dX5_countAhead_27 rfl rfl rfl ?_
          refine r_icmp_ne 31 34 hE dX5_countAhead_28 rfl (by decide) (by have h9 : -128 ≤ tx L t i ∧ tx L t i ≤ 127 := hB _; omega) (fun c28 => ?_) (fun c28 => ?_)
          · skip
            refine r_iinc 37 hE 5 (i + 1) [(5, .int (iI (i + 1))), (0, .ref (a 0)), (1, .int (iI t)), (2, .int (iI c)), (3, .int (iI n)), (4, .int (iI (cntF (tx L t) c i)))] dX5_countAhead_34 rfl rfl rfl (by decide) rfl ?_
            refine r_goto 6 hE dX5_countAhead_37 (by decide) ?_
            refine G.to (fs' := [(wShelf g a L ln tp rd cnt era nws)]) (lv' := [(0, .ref (a 0)), (1, .int (iI t)), (2, .int (iI c)), (3, .int (iI n)), (4, .int (iI (cntF (tx L t) c i))), (5, .int (iI (i + 1)))]) [0] [1, 2, 3, 4, 5, 0] rfl rfl rfl ?_
            rw [show (cntF (tx L t) c i : Int) = cntF (tx L t) c (i + 1) from by first | rfl | exact (cntF_yes hi.1 c28).symm | exact (cntF_no hi.1 c28).symm]
            exact ih6 (i + 1) (by omega) (by omega)
          · skip
            refine r_iinc 34 hE 4 ((cntF (tx L t) c i) + 1) [(4, .int (iI ((cntF (tx L t) c i) + 1))), (0, .ref (a 0)), (1, .int (iI t)), (2, .int (iI c)), (3, .int (iI n)), (5, .int (iI i))] dX5_countAhead_31 rfl rfl rfl (by decide) rfl ?_
            refine r_iinc 37 hE 5 (i + 1) [(5, .int (iI (i + 1))), (4, .int (iI ((cntF (tx L t) c i) + 1))), (0, .ref (a 0)), (1, .int (iI t)), (2, .int (iI c)), (3, .int (iI n))] dX5_countAhead_34 rfl rfl rfl (by decide) rfl ?_
            refine r_goto 6 hE dX5_countAhead_37 (by decide) ?_
            refine G.to (fs' := [(wShelf g a L ln tp rd cnt era nws)]) (lv' := [(0, .ref (a 0)), (1, .int (iI t)), (2, .int (iI c)), (3, .int (iI n)), (4, .int (iI ((cntF (tx L t) c i) + 1))), (5, .int (iI (i + 1)))]) [0] [2, 3, 4, 5, 1, 0] rfl rfl rfl ?_
            rw [show ((cntF (tx L t) c i) + 1 : Int) = cntF (tx L t) c (i + 1) from by first | rfl | exact (cntF_yes hi.1 c28).symm | exact (cntF_no hi.1 c28).symm]
            exact ih6 (i + 1) (by omega) (by omega)
  refine r_iconst 1 hE dX5_countAhead_0 rfl ?_
  refine r_istore 3 hE [(4, .int (iI 0)), (0, .ref (a 0)), (1, .int (iI t)), (2, .int (iI c)), (3, .int (iI n))] dX5_countAhead_1 rfl (by decide) rfl ?_
  refine r_iconst 4 hE dX5_countAhead_3 rfl ?_
  refine r_istore 6 hE [(5, .int (iI 0)), (4, .int (iI 0)), (0, .ref (a 0)), (1, .int (iI t)), (2, .int (iI c)), (3, .int (iI n))] dX5_countAhead_4 rfl (by decide) rfl ?_
  refine G.to (fs' := [(wShelf g a L ln tp rd cnt era nws)]) (lv' := [(0, .ref (a 0)), (1, .int (iI t)), (2, .int (iI c)), (3, .int (iI n)), (4, .int (iI 0)), (5, .int (iI 0))]) [0] [2, 3, 4, 5, 1, 0] rfl rfl rfl ?_
  rw [show (0 : Int) = cntF (tx L t) c 0 from by first | rfl | exact (cntF_yes hi.1 c28).symm | exact (cntF_no hi.1 c28).symm]
  exact cut6 _ 0 (by omega) (Nat.lt_succ_self _)
set_option maxHeartbeats 4000000 in
set_option maxRecDepth 100000 in
theorem c_X5_placeOf {g : Gm} {a : Nat → Nat} {L ln tp rd : Int → Int} {cnt era nws : Int} {t c n : Int} (ht : 0 ≤ t ∧ t < cnt) (hc : 0 ≤ cnt ∧ cnt ≤ 8) (hln : ∀ j, 0 ≤ j → j < cnt → 0 ≤ ln j ∧ ln j ≤ 600) (hB : BR L) (hcc : -2147483648 ≤ c ∧ c ≤ 2147483647) (hn : 0 ≤ n ∧ n ≤ 2147483647) : Ct g 2 0 0 yX5_placeOf cX5_placeOf 6 (some .int) [.ref (a 0), .int (iI t), .int (iI c), .int (iI n)] [(wShelf g a L ln tp rd cnt era nws)] (fun v w => ∃ r : Int, v = some (.int (iI r)) ∧ w = [(wShelf g a L ln tp rd cnt era nws)] ∧ (SelIs (tx L t) (ln t) c n r)) := by
  refine Ct.of (by decide) (Nat.le_of_ble_eq_true rfl) (lv := [(0, .ref (a 0)), (1, .int (iI t)), (2, .int (iI c)), (3, .int (iI n))]) rfl ?_
  intro E hE hR hnm
  have hl1 := hln t ht.1 ht.2
  have cut6 : ∀ (N : Nat) (i : Int), (0 ≤ i ∧ i ≤ ln t) → (cntF (tx L t) c i ≤ n) → (ln t - i).toNat < N → G g E 6 0 0 [(wShelf g a L ln tp rd cnt era nws)] 6 [(0, .ref (a 0)), (1, .int (iI t)), (2, .int (iI c)), (3, .int (iI n)), (4, .int (iI (cntF (tx L t) c i))), (5, .int (iI i))] [] := by
    intro N
    induction N with
    | zero => intro i _ _ hN; exact absurd hN (Nat.not_lt_zero _)
    | succ N ih6 =>
      intro i hi hv hN
      have hs := cntF_bd (tx L t) c hi.1
      refine r_iload 8 hE 5 dX5_placeOf_6 rfl rfl ?_
      refine r_aload_n 9 hE 0 dX5_placeOf_8 rfl rfl rfl ?_
      refine r_iload_n 10 hE 1 dX5_placeOf_9 rfl rfl rfl ?_
      refine r_callV 13 hE [0] [] [(wShelf g a L ln tp rd cnt era nws)] [] 0 5 ok5 [.int (iI i)] (c_X5_lengthOf (by omega) (by omega)) dX5_placeOf_10 rfl rfl wd_755 wd_631 wd_632 wd_4 wd_633 ne_X5 np_X5_lengthOf (Nat.le_of_ble_eq_true rfl)  (by decide) (by decide) rfl (Nat.le_of_ble_eq_true rfl) rfl rfl rfl rfl (by decide) rfl (fun v1 f1 hp => ?_)
      obtain ⟨rfl, rfl⟩ := hp
      show G g E _ _ _ [(wShelf g a L ln tp rd cnt era nws)] 13 [(0, .ref (a 0)), (1, .int (iI t)), (2, .int (iI c)), (3, .int (iI n)), (4, .int (iI (cntF (tx L t) c i))), (5, .int (iI i))] [.int (iI (ln t)), .int (iI i)]
      refine r_icmp_ge 16 45 hE dX5_placeOf_13 rfl (by decide) (by omega) (fun c13 => ?_) (fun c13 => ?_)
      · skip
        refine r_iconst 46 hE dX5_placeOf_45 rfl ?_
        refine r_ireturn hE hR [(wShelf g a L ln tp rd cnt era nws)] dX5_placeOf_46 (Nat.le_of_ble_eq_true rfl) (Nat.le_of_ble_eq_true rfl) rfl ?_
        exact ⟨-1, rfl, rfl, Or.inl ⟨rfl, by rw [show ln t = i by omega]; exact hv⟩⟩
      · skip
        refine r_aload_n 17 hE 0 dX5_placeOf_16 rfl rfl rfl ?_
        refine r_iload_n 18 hE 1 dX5_placeOf_17 rfl rfl rfl ?_
        refine r_iload 20 hE 5 dX5_placeOf_18 rfl rfl ?_
        refine r_callV 23 hE [0] [] [(wShelf g a L ln tp rd cnt era nws)] [] 0 5 ok5 [] (c_X5_at (by omega) (by omega) (hln) (by omega)) dX5_placeOf_20 rfl rfl wd_803 wd_792 wd_793 wd_4 wd_794 ne_X5 np_X5_at (Nat.le_of_ble_eq_true rfl)  (by decide) (by decide) rfl (Nat.le_of_ble_eq_true rfl) rfl rfl rfl rfl (by decide) rfl (fun v1 f1 hp => ?_)
        obtain ⟨rfl, rfl⟩ := hp
        show G g E _ _ _ [(wShelf g a L ln tp rd cnt era nws)] 23 [(0, .ref (a 0)), (1, .int (iI t)), (2, .int (iI c)), (3, .int (iI n)), (4, .int (iI (cntF (tx L t) c i))), (5, .int (iI i))] [.int (iI (atF L ln t i))]
        rw [atF_tx (L := L) (ln := ln) (t := t) (p := i) (by omega)]
        refine r_iload_n 24 hE 2 dX5_placeOf_23 rfl rfl rfl ?_
        refine r_icmp_ne 27 39 hE dX5_placeOf_24 rfl (by decide) (by have h9 : -128 ≤ tx L t i ∧ tx L t i ≤ 127 := hB _; omega) (fun c24 => ?_) (fun c24 => ?_)
        · skip
          refine r_iinc 42 hE 5 (i + 1) [(5, .int (iI (i + 1))), (0, .ref (a 0)), (1, .int (iI t)), (2, .int (iI c)), (3, .int (iI n)), (4, .int (iI (cntF (tx L t) c i)))] dX5_placeOf_39 rfl rfl rfl (by decide) rfl ?_
          refine r_goto 6 hE dX5_placeOf_42 (by decide) ?_
          refine G.to (fs' := [(wShelf g a L ln tp rd cnt era nws)]) (lv' := [(0, .ref (a 0)), (1, .int (iI t)), (2, .int (iI c)), (3, .int (iI n)), (4, .int (iI (cntF (tx L t) c i))), (5, .int (iI (i + 1)))]) [0] [1, 2, 3, 4, 5, 0] rfl rfl rfl ?_
          rw [show (cntF (tx L t) c i : Int) = cntF (tx L t) c (i + 1) from by first | rfl | exact (cntF_yes hi.1 c24).symm | exact (cntF_no hi.1 c24).symm]
          exact ih6 (i + 1) (by omega) (by first | (rw [cntF_0]; omega) | (rw [cntF_yes hi.1 c24]; omega) | (rw [cntF_no hi.1 c24]; exact hv)) (by omega)
        · skip
          refine r_iload 29 hE 4 dX5_placeOf_27 rfl rfl ?_
          refine r_iload_n 30 hE 3 dX5_placeOf_29 rfl rfl rfl ?_
          refine r_icmp_ne 33 36 hE dX5_placeOf_30 rfl (by decide) (by omega) (fun c30 => ?_) (fun c30 => ?_)
          · skip
            refine r_iinc 39 hE 4 ((cntF (tx L t) c i) + 1) [(4, .int (iI ((cntF (tx L t) c i) + 1))), (0, .ref (a 0)), (1, .int (iI t)), (2, .int (iI c)), (3, .int (iI n)), (5, .int (iI i))] dX5_placeOf_36 rfl rfl rfl (by decide) rfl ?_
            refine r_iinc 42 hE 5 (i + 1) [(5, .int (iI (i + 1))), (4, .int (iI ((cntF (tx L t) c i) + 1))), (0, .ref (a 0)), (1, .int (iI t)), (2, .int (iI c)), (3, .int (iI n))] dX5_placeOf_39 rfl rfl rfl (by decide) rfl ?_
            refine r_goto 6 hE dX5_placeOf_42 (by decide) ?_
            refine G.to (fs' := [(wShelf g a L ln tp rd cnt era nws)]) (lv' := [(0, .ref (a 0)), (1, .int (iI t)), (2, .int (iI c)), (3, .int (iI n)), (4, .int (iI ((cntF (tx L t) c i) + 1))), (5, .int (iI (i + 1)))]) [0] [2, 3, 4, 5, 1, 0] rfl rfl rfl ?_
            rw [show ((cntF (tx L t) c i) + 1 : Int) = cntF (tx L t) c (i + 1) from by first | rfl | exact (cntF_yes hi.1 c24).symm | exact (cntF_no hi.1 c24).symm]
            exact ih6 (i + 1) (by omega) (by first | (rw [cntF_0]; omega) | (rw [cntF_yes hi.1 c24]; omega) | (rw [cntF_no hi.1 c24]; exact hv)) (by omega)
          · skip
            refine r_iload 35 hE 5 dX5_placeOf_33 rfl rfl ?_
            refine r_ireturn hE hR [(wShelf g a L ln tp rd cnt era nws)] dX5_placeOf_35 (Nat.le_of_ble_eq_true rfl) (Nat.le_of_ble_eq_true rfl) rfl ?_
            exact ⟨i, rfl, rfl, Or.inr ⟨hi.1, by omega, c24, c30⟩⟩
  refine r_iconst 1 hE dX5_placeOf_0 rfl ?_
  refine r_istore 3 hE [(4, .int (iI 0)), (0, .ref (a 0)), (1, .int (iI t)), (2, .int (iI c)), (3, .int (iI n))] dX5_placeOf_1 rfl (by decide) rfl ?_
  refine r_iconst 4 hE dX5_placeOf_3 rfl ?_
  refine r_istore 6 hE [(5, .int (iI 0)), (4, .int (iI 0)), (0, .ref (a 0)), (1, .int (iI t)), (2, .int (iI c)), (3, .int (iI n))] dX5_placeOf_4 rfl (by decide) rfl ?_
  refine G.to (fs' := [(wShelf g a L ln tp rd cnt era nws)]) (lv' := [(0, .ref (a 0)), (1, .int (iI t)), (2, .int (iI c)), (3, .int (iI n)), (4, .int (iI 0)), (5, .int (iI 0))]) [0] [2, 3, 4, 5, 1, 0] rfl rfl rfl ?_
  rw [show (0 : Int) = cntF (tx L t) c 0 from by first | rfl | exact (cntF_yes hi.1 c24).symm | exact (cntF_no hi.1 c24).symm]
  exact cut6 _ 0 (by omega) (by first | (rw [cntF_0]; omega) | (rw [cntF_yes hi.1 c24]; omega) | (rw [cntF_no hi.1 c24]; exact hv)) (Nat.lt_succ_self _)
set_option maxHeartbeats 4000000 in
set_option maxRecDepth 100000 in
theorem c_X5_mirrored {g : Gm} {a : Nat → Nat} {L ln tp rd : Int → Int} {cnt era nws : Int} {t l r : Int} (ht : 0 ≤ t ∧ t < cnt) (hc : 0 ≤ cnt ∧ cnt ≤ 8) (hln : ∀ j, 0 ≤ j → j < cnt → 0 ≤ ln j ∧ ln j ≤ 600) (hB : BR L) (hL : ∀ k, 0 ≤ k → k < ln t → 0 ≤ tx L t k) (hl : -1 ≤ l ∧ l < ln t) (hr : 0 ≤ r ∧ r ≤ ln t) : Ct g 2 0 0 yX5_mirrored cX5_mirrored 5 (some .int) [.ref (a 0), .int (iI t), .int (iI l), .int (iI r)] [(wShelf g a L ln tp rd cnt era nws)] (fun v w => ∃ far : Int, v = some (.int (iI far)) ∧ w = [(wShelf g a L ln tp rd cnt era nws)] ∧ (MirIs (tx L t) (ln t) l r far)) := by
  refine Ct.of (by decide) (Nat.le_of_ble_eq_true rfl) (lv := [(0, .ref (a 0)), (1, .int (iI t)), (2, .int (iI l)), (3, .int (iI r))]) rfl ?_
  intro E hE hR hnm
  have hl1 := hln t ht.1 ht.2
  have cut3 : ∀ (N : Nat) (i : Int), (0 ≤ i ∧ i ≤ l + 1) → (∀ k, 0 ≤ k → k < i → 0 ≤ l - k ∧ r + k < ln t ∧ tx L t (l - k) = tx L t (r + k)) → (601 - i).toNat < N → G g E 5 0 0 [(wShelf g a L ln tp rd cnt era nws)] 3 [(0, .ref (a 0)), (1, .int (iI t)), (2, .int (iI l)), (3, .int (iI r)), (4, .int (iI i))] [] := by
    intro N
    induction N with
    | zero => intro i _ _ hN; exact absurd hN (Nat.not_lt_zero _)
    | succ N ih3 =>
      intro i hi hv hN
      refine r_iload 5 hE 4 dX5_mirrored_3 rfl rfl ?_
      refine r_sipush 8 hE dX5_mirrored_5 rfl (by decide) ?_
      refine r_icmp_ge 11 51 hE dX5_mirrored_8 rfl (by decide) (by omega) (fun c8 => ?_) (fun c8 => ?_)
      · skip
        refine r_iload 53 hE 4 dX5_mirrored_51 rfl rfl ?_
        refine r_ireturn hE hR [(wShelf g a L ln tp rd cnt era nws)] dX5_mirrored_53 (Nat.le_of_ble_eq_true rfl) (Nat.le_of_ble_eq_true rfl) rfl ?_
        refine ⟨i, rfl, rfl, hi.1, hv, fun z => ?_⟩
        first
          | (have := z.1; omega)
          | (rw [atF_tx (by omega)] at c21; have := hL (l - i) z.1 (by omega); omega)
          | (rw [atF_tx (by omega), atF_tx (by omega)] at c42; exact c42 z.2.2)
      · skip
        refine r_aload_n 12 hE 0 dX5_mirrored_11 rfl rfl rfl ?_
        refine r_iload_n 13 hE 1 dX5_mirrored_12 rfl rfl rfl ?_
        refine r_iload_n 14 hE 2 dX5_mirrored_13 rfl rfl rfl ?_
        refine r_iload 16 hE 4 dX5_mirrored_14 rfl rfl ?_
        refine r_isub 17 hE (l - i) dX5_mirrored_16 rfl rfl ?_
        refine r_callV 20 hE [0] [] [(wShelf g a L ln tp rd cnt era nws)] [] 0 5 ok5 [] (c_X5_at (by omega) (by omega) (hln) (by omega)) dX5_mirrored_17 rfl rfl wd_803 wd_792 wd_793 wd_4 wd_794 ne_X5 np_X5_at (Nat.le_of_ble_eq_true rfl)  (by decide) (by decide) rfl (Nat.le_of_ble_eq_true rfl) rfl rfl rfl rfl (by decide) rfl (fun v1 f1 hp => ?_)
        obtain ⟨rfl, rfl⟩ := hp
        show G g E _ _ _ [(wShelf g a L ln tp rd cnt era nws)] 20 [(0, .ref (a 0)), (1, .int (iI t)), (2, .int (iI l)), (3, .int (iI r)), (4, .int (iI i))] [.int (iI (atF L ln t (l - i)))]
        refine r_iconst 21 hE dX5_mirrored_20 rfl ?_
        refine r_icmp_eq 24 51 hE dX5_mirrored_21 rfl (by decide) (by have := atF_rg hB ln t (l - i); omega) (fun c21 => ?_) (fun c21 => ?_)
        · skip
          refine r_iload 53 hE 4 dX5_mirrored_51 rfl rfl ?_
          refine r_ireturn hE hR [(wShelf g a L ln tp rd cnt era nws)] dX5_mirrored_53 (Nat.le_of_ble_eq_true rfl) (Nat.le_of_ble_eq_true rfl) rfl ?_
          refine ⟨i, rfl, rfl, hi.1, hv, fun z => ?_⟩
          first
            | (have := z.1; omega)
            | (rw [atF_tx (by omega)] at c21; have := hL (l - i) z.1 (by omega); omega)
            | (rw [atF_tx (by omega), atF_tx (by omega)] at c42; exact c42 z.2.2)
        · skip
          have hin : 0 ≤ l - i := by
            by_cases q : 0 ≤ l - i ∧ l - i < ln t
            · exact q.1
            · exact absurd (atF_no L q) c21
          refine r_aload_n 25 hE 0 dX5_mirrored_24 rfl rfl rfl ?_
          refine r_iload_n 26 hE 1 dX5_mirrored_25 rfl rfl rfl ?_
          refine r_iload_n 27 hE 2 dX5_mirrored_26 rfl rfl rfl ?_
          refine r_iload 29 hE 4 dX5_mirrored_27 rfl rfl ?_
          refine r_isub 30 hE (l - i) dX5_mirrored_29 rfl rfl ?_
          refine r_callV 33 hE [0] [] [(wShelf g a L ln tp rd cnt era nws)] [] 0 5 ok5 [] (c_X5_at (by omega) (by omega) (hln) (by omega)) dX5_mirrored_30 rfl rfl wd_803 wd_792 wd_793 wd_4 wd_794 ne_X5 np_X5_at (Nat.le_of_ble_eq_true rfl)  (by decide) (by decide) rfl (Nat.le_of_ble_eq_true rfl) rfl rfl rfl rfl (by decide) rfl (fun v1 f1 hp => ?_)
          obtain ⟨rfl, rfl⟩ := hp
          show G g E _ _ _ [(wShelf g a L ln tp rd cnt era nws)] 33 [(0, .ref (a 0)), (1, .int (iI t)), (2, .int (iI l)), (3, .int (iI r)), (4, .int (iI i))] [.int (iI (atF L ln t (l - i)))]
          refine r_aload_n 34 hE 0 dX5_mirrored_33 rfl rfl rfl ?_
          refine r_iload_n 35 hE 1 dX5_mirrored_34 rfl rfl rfl ?_
          refine r_iload_n 36 hE 3 dX5_mirrored_35 rfl rfl rfl ?_
          refine r_iload 38 hE 4 dX5_mirrored_36 rfl rfl ?_
          refine r_iadd 39 hE (r + i) dX5_mirrored_38 rfl rfl ?_
          refine r_callV 42 hE [0] [] [(wShelf g a L ln tp rd cnt era nws)] [] 0 5 ok5 [.int (iI (atF L ln t (l - i)))] (c_X5_at (by omega) (by omega) (hln) (by omega)) dX5_mirrored_39 rfl rfl wd_803 wd_792 wd_793 wd_4 wd_794 ne_X5 np_X5_at (Nat.le_of_ble_eq_true rfl)  (by decide) (by decide) rfl (Nat.le_of_ble_eq_true rfl) rfl rfl rfl rfl (by decide) rfl (fun v1 f1 hp => ?_)
          obtain ⟨rfl, rfl⟩ := hp
          show G g E _ _ _ [(wShelf g a L ln tp rd cnt era nws)] 42 [(0, .ref (a 0)), (1, .int (iI t)), (2, .int (iI l)), (3, .int (iI r)), (4, .int (iI i))] [.int (iI (atF L ln t (r + i))), .int (iI (atF L ln t (l - i)))]
          refine r_icmp_ne 45 51 hE dX5_mirrored_42 rfl (by decide) (by have h1 := atF_rg hB ln t (l - i); have h2 := atF_rg hB ln t (r + i); omega) (fun c42 => ?_) (fun c42 => ?_)
          · skip
            refine r_iload 53 hE 4 dX5_mirrored_51 rfl rfl ?_
            refine r_ireturn hE hR [(wShelf g a L ln tp rd cnt era nws)] dX5_mirrored_53 (Nat.le_of_ble_eq_true rfl) (Nat.le_of_ble_eq_true rfl) rfl ?_
            refine ⟨i, rfl, rfl, hi.1, hv, fun z => ?_⟩
            first
              | (have := z.1; omega)
              | (rw [atF_tx (by omega)] at c21; have := hL (l - i) z.1 (by omega); omega)
              | (rw [atF_tx (by omega), atF_tx (by omega)] at c42; exact c42 z.2.2)
          · skip
            have hin2 : r + i < ln t := by
              by_cases q : 0 ≤ r + i ∧ r + i < ln t
              · exact q.2
              · rw [atF_no L q] at c42; exact absurd c42 c21
            rw [atF_tx (by omega), atF_tx (by omega)] at c42
            have hv2 : ∀ k, 0 ≤ k → k < i + 1 → 0 ≤ l - k ∧ r + k < ln t ∧ tx L t (l - k) = tx L t (r + k) := by
              intro k k0 k1
              by_cases e : k = i
              · subst e; exact ⟨hin, hin2, c42⟩
              · exact hv k k0 (by omega)
            refine r_iinc 48 hE 4 (i + 1) [(4, .int (iI (i + 1))), (0, .ref (a 0)), (1, .int (iI t)), (2, .int (iI l)), (3, .int (iI r))] dX5_mirrored_45 rfl rfl rfl (by decide) rfl ?_
            refine r_goto 3 hE dX5_mirrored_48 (by decide) ?_
            refine G.to (fs' := [(wShelf g a L ln tp rd cnt era nws)]) (lv' := [(0, .ref (a 0)), (1, .int (iI t)), (2, .int (iI l)), (3, .int (iI r)), (4, .int (iI (i + 1)))]) [0] [1, 2, 3, 4, 0] rfl rfl rfl ?_
            exact ih3 (i + 1) (by omega) (by first | exact (fun k k0 k1 => absurd k1 (by omega)) | exact hv2) (by omega)
  refine r_iconst 1 hE dX5_mirrored_0 rfl ?_
  refine r_istore 3 hE [(4, .int (iI 0)), (0, .ref (a 0)), (1, .int (iI t)), (2, .int (iI l)), (3, .int (iI r))] dX5_mirrored_1 rfl (by decide) rfl ?_
  refine G.to (fs' := [(wShelf g a L ln tp rd cnt era nws)]) (lv' := [(0, .ref (a 0)), (1, .int (iI t)), (2, .int (iI l)), (3, .int (iI r)), (4, .int (iI 0))]) [0] [1, 2, 3, 4, 0] rfl rfl rfl ?_
  exact cut3 _ 0 (by omega) (by first | exact (fun k k0 k1 => absurd k1 (by omega)) | exact hv2) (Nat.lt_succ_self _)
