set_option maxHeartbeats 4000000 in
set_option maxRecDepth 100000 in
theorem c_J6_bitCount_0f7a4 {g : Gm} {v : Int} : Ct g 0 0 0 yJ6_bitCount_0f7a4 cJ6_bitCount_0f7a4 1 (some .int) [.int (iI v)] [] (fun v_ w_ => v_ = some (.int (iI (bcI v))) ∧ w_ = []) := by
  refine Ct.of (by decide) (Nat.le_of_ble_eq_true rfl) (lv := [(0, .int (iI v))]) rfl ?_
  intro E hE hR hnm
  refine r_iload_n 1 hE 0 dJ6_bitCount_0f7a4_0 rfl rfl rfl ?_
  refine r_iload_n 2 hE 0 dJ6_bitCount_0f7a4_1 rfl rfl rfl ?_
  refine r_iconst 3 hE dJ6_bitCount_0f7a4_2 rfl ?_
  refine r_iushr 4 hE dJ6_bitCount_0f7a4_3 rfl ?_
  refine r_ldcw 7 hE dJ6_bitCount_0f7a4_4 rfl wd_807 (by decide : _ = iI 1431655765) ?_
  refine r_iand 8 hE dJ6_bitCount_0f7a4_7 rfl ?_
  refine r_isub 9 hE (v - (andI (ushrI v 1) 1431655765)) dJ6_bitCount_0f7a4_8 rfl rfl ?_
  refine r_istore_n 10 hE [(0, .int (iI (v - (andI (ushrI v 1) 1431655765))))] dJ6_bitCount_0f7a4_9 rfl rfl (by decide) rfl ?_
  refine r_iload_n 11 hE 0 dJ6_bitCount_0f7a4_10 rfl rfl rfl ?_
  refine r_ldcw 14 hE dJ6_bitCount_0f7a4_11 rfl wd_808 (by decide : _ = iI 858993459) ?_
  refine r_iand 15 hE dJ6_bitCount_0f7a4_14 rfl ?_
  refine r_iload_n 16 hE 0 dJ6_bitCount_0f7a4_15 rfl rfl rfl ?_
  refine r_iconst 17 hE dJ6_bitCount_0f7a4_16 rfl ?_
  refine r_iushr 18 hE dJ6_bitCount_0f7a4_17 rfl ?_
  refine r_ldcw 21 hE dJ6_bitCount_0f7a4_18 rfl wd_808 (by decide : _ = iI 858993459) ?_
  refine r_iand 22 hE dJ6_bitCount_0f7a4_21 rfl ?_
  refine r_iadd 23 hE ((andI (v - (andI (ushrI v 1) 1431655765)) 858993459) + (andI (ushrI (v - (andI (ushrI v 1) 1431655765)) 2) 858993459)) dJ6_bitCount_0f7a4_22 rfl rfl ?_
  refine r_istore_n 24 hE [(0, .int (iI ((andI (v - (andI (ushrI v 1) 1431655765)) 858993459) + (andI (ushrI (v - (andI (ushrI v 1) 1431655765)) 2) 858993459))))] dJ6_bitCount_0f7a4_23 rfl rfl (by decide) rfl ?_
  refine r_iload_n 25 hE 0 dJ6_bitCount_0f7a4_24 rfl rfl rfl ?_
  refine r_iload_n 26 hE 0 dJ6_bitCount_0f7a4_25 rfl rfl rfl ?_
  refine r_iconst 27 hE dJ6_bitCount_0f7a4_26 rfl ?_
  refine r_iushr 28 hE dJ6_bitCount_0f7a4_27 rfl ?_
  refine r_iadd 29 hE (((andI (v - (andI (ushrI v 1) 1431655765)) 858993459) + (andI (ushrI (v - (andI (ushrI v 1) 1431655765)) 2) 858993459)) + (ushrI ((andI (v - (andI (ushrI v 1) 1431655765)) 858993459) + (andI (ushrI (v - (andI (ushrI v 1) 1431655765)) 2) 858993459)) 4)) dJ6_bitCount_0f7a4_28 rfl rfl ?_
  refine r_ldcw 32 hE dJ6_bitCount_0f7a4_29 rfl wd_809 (by decide : _ = iI 252645135) ?_
  refine r_iand 33 hE dJ6_bitCount_0f7a4_32 rfl ?_
  refine r_istore_n 34 hE [(0, .int (iI (andI (((andI (v - (andI (ushrI v 1) 1431655765)) 858993459) + (andI (ushrI (v - (andI (ushrI v 1) 1431655765)) 2) 858993459)) + (ushrI ((andI (v - (andI (ushrI v 1) 1431655765)) 858993459) + (andI (ushrI (v - (andI (ushrI v 1) 1431655765)) 2) 858993459)) 4)) 252645135)))] dJ6_bitCount_0f7a4_33 rfl rfl (by decide) rfl ?_
  refine r_iload_n 35 hE 0 dJ6_bitCount_0f7a4_34 rfl rfl rfl ?_
  refine r_iload_n 36 hE 0 dJ6_bitCount_0f7a4_35 rfl rfl rfl ?_
  refine r_bipush 38 hE dJ6_bitCount_0f7a4_36 rfl (by decide) ?_
  refine r_iushr 39 hE dJ6_bitCount_0f7a4_38 rfl ?_
  refine r_iadd 40 hE ((andI (((andI (v - (andI (ushrI v 1) 1431655765)) 858993459) + (andI (ushrI (v - (andI (ushrI v 1) 1431655765)) 2) 858993459)) + (ushrI ((andI (v - (andI (ushrI v 1) 1431655765)) 858993459) + (andI (ushrI (v - (andI (ushrI v 1) 1431655765)) 2) 858993459)) 4)) 252645135) + (ushrI (andI (((andI (v - (andI (ushrI v 1) 1431655765)) 858993459) + (andI (ushrI (v - (andI (ushrI v 1) 1431655765)) 2) 858993459)) + (ushrI ((andI (v - (andI (ushrI v 1) 1431655765)) 858993459) + (andI (ushrI (v - (andI (ushrI v 1) 1431655765)) 2) 858993459)) 4)) 252645135) 8)) dJ6_bitCount_0f7a4_39 rfl rfl ?_
  refine r_istore_n 41 hE [(0, .int (iI ((andI (((andI (v - (andI (ushrI v 1) 1431655765)) 858993459) + (andI (ushrI (v - (andI (ushrI v 1) 1431655765)) 2) 858993459)) + (ushrI ((andI (v - (andI (ushrI v 1) 1431655765)) 858993459) + (andI (ushrI (v - (andI (ushrI v 1) 1431655765)) 2) 858993459)) 4)) 252645135) + (ushrI (andI (((andI (v - (andI (ushrI v 1) 1431655765)) 858993459) + (andI (ushrI (v - (andI (ushrI v 1) 1431655765)) 2) 858993459)) + (ushrI ((andI (v - (andI (ushrI v 1) 1431655765)) 858993459) + (andI (ushrI (v - (andI (ushrI v 1) 1431655765)) 2) 858993459)) 4)) 252645135) 8))))] dJ6_bitCount_0f7a4_40 rfl rfl (by decide) rfl ?_
  refine r_iload_n 42 hE 0 dJ6_bitCount_0f7a4_41 rfl rfl rfl ?_
  refine r_iload_n 43 hE 0 dJ6_bitCount_0f7a4_42 rfl rfl rfl ?_
  refine r_bipush 45 hE dJ6_bitCount_0f7a4_43 rfl (by decide) ?_
  refine r_iushr 46 hE dJ6_bitCount_0f7a4_45 rfl ?_
  refine r_iadd 47 hE (((andI (((andI (v - (andI (ushrI v 1) 1431655765)) 858993459) + (andI (ushrI (v - (andI (ushrI v 1) 1431655765)) 2) 858993459)) + (ushrI ((andI (v - (andI (ushrI v 1) 1431655765)) 858993459) + (andI (ushrI (v - (andI (ushrI v 1) 1431655765)) 2) 858993459)) 4)) 252645135) + (ushrI (andI (((andI (v - (andI (ushrI v 1) 1431655765)) 858993459) + (andI (ushrI (v - (andI (ushrI v 1) 1431655765)) 2) 858993459)) + (ushrI ((andI (v - (andI (ushrI v 1) 1431655765)) 858993459) + (andI (ushrI (v - (andI (ushrI v 1) 1431655765)) 2) 858993459)) 4)) 252645135) 8)) + (ushrI ((andI (((andI (v - (andI (ushrI v 1) 1431655765)) 858993459) + (andI (ushrI (v - (andI (ushrI v 1) 1431655765)) 2) 858993459)) + (ushrI ((andI (v - (andI (ushrI v 1) 1431655765)) 858993459) + (andI (ushrI (v - (andI (ushrI v 1) 1431655765)) 2) 858993459)) 4)) 252645135) + (ushrI (andI (((andI (v - (andI (ushrI v 1) 1431655765)) 858993459) + (andI (ushrI (v - (andI (ushrI v 1) 1431655765)) 2) 858993459)) + (ushrI ((andI (v - (andI (ushrI v 1) 1431655765)) 858993459) + (andI (ushrI (v - (andI (ushrI v 1) 1431655765)) 2) 858993459)) 4)) 252645135) 8)) 16)) dJ6_bitCount_0f7a4_46 rfl rfl ?_
  refine r_istore_n 48 hE [(0, .int (iI (((andI (((andI (v - (andI (ushrI v 1) 1431655765)) 858993459) + (andI (ushrI (v - (andI (ushrI v 1) 1431655765)) 2) 858993459)) + (ushrI ((andI (v - (andI (ushrI v 1) 1431655765)) 858993459) + (andI (ushrI (v - (andI (ushrI v 1) 1431655765)) 2) 858993459)) 4)) 252645135) + (ushrI (andI (((andI (v - (andI (ushrI v 1) 1431655765)) 858993459) + (andI (ushrI (v - (andI (ushrI v 1) 1431655765)) 2) 858993459)) + (ushrI ((andI (v - (andI (ushrI v 1) 1431655765)) 858993459) + (andI (ushrI (v - (andI (ushrI v 1) 1431655765)) 2) 858993459)) 4)) 252645135) 8)) + (ushrI ((andI (((andI (v - (andI (ushrI v 1) 1431655765)) 858993459) + (andI (ushrI (v - (andI (ushrI v 1) 1431655765)) 2) 858993459)) + (ushrI ((andI (v - (andI (ushrI v 1) 1431655765)) 858993459) + (andI (ushrI (v - (andI (ushrI v 1) 1431655765)) 2) 858993459)) 4)) 252645135) + (ushrI (andI (((andI (v - (andI (ushrI v 1) 1431655765)) 858993459) + (andI (ushrI (v - (andI (ushrI v 1) 1431655765)) 2) 858993459)) + (ushrI ((andI (v - (andI (ushrI v 1) 1431655765)) 858993459) + (andI (ushrI (v - (andI (ushrI v 1) 1431655765)) 2) 858993459)) 4)) 252645135) 8)) 16))))] dJ6_bitCount_0f7a4_47 rfl rfl (by decide) rfl ?_
  refine r_iload_n 49 hE 0 dJ6_bitCount_0f7a4_48 rfl rfl rfl ?_
  refine r_bipush 51 hE dJ6_bitCount_0f7a4_49 rfl (by decide) ?_
  refine r_iand 52 hE dJ6_bitCount_0f7a4_51 rfl ?_
  refine r_ireturn hE hR [] dJ6_bitCount_0f7a4_52 (Nat.le_of_ble_eq_true rfl) (Nat.le_of_ble_eq_true rfl) rfl ?_
  exact ⟨retI (rfl), rfl⟩
set_option maxHeartbeats 4000000 in
set_option maxRecDepth 100000 in
theorem c_X5_unlikeLetters {g : Gm} {a : Nat → Nat} {L ln tp rd : Int → Int} {cnt era nws : Int} {t : Int} (ht : 0 ≤ t ∧ t < cnt) (hsh : ShOk L ln cnt) : Ct g 2 0 0 yX5_unlikeLetters cX5_unlikeLetters 4 (some .int) [.ref (a 0), .int (iI t)] [(wShelf g a L ln tp rd cnt era nws)] (fun v_ w_ => v_ = some (.int (iI (unlF (tx L t) (ln t)))) ∧ w_ = [(wShelf g a L ln tp rd cnt era nws)]) := by
  refine Ct.of (by decide) (Nat.le_of_ble_eq_true rfl) (lv := [(0, .ref (a 0)), (1, .int (iI t))]) rfl ?_
  intro E hE hR hnm
  have hc := hsh.1
  have hln := hsh.ln
  have hB := hsh.2.1
  have hl1 := hln t ht.1 ht.2
  have cut4 : ∀ (N : Nat) (M : Int) (i : Int), (0 ≤ i ∧ i ≤ ln t) → (MaskIs (tx L t) i M) → (ln t - i).toNat < N → G g E 4 0 0 [(wShelf g a L ln tp rd cnt era nws)] 4 [(0, .ref (a 0)), (1, .int (iI t)), (2, .int (iI M)), (3, .int (iI i))] [] := by
    intro N
    induction N with
    | zero => intro M i _ _ hN; exact absurd hN (Nat.not_lt_zero _)
    | succ N ih4 =>
      intro M i hi hv hN
      refine r_iload_n 5 hE 3 dX5_unlikeLetters_4 rfl rfl rfl ?_
      refine r_aload_n 6 hE 0 dX5_unlikeLetters_5 rfl rfl rfl ?_
      refine r_iload_n 7 hE 1 dX5_unlikeLetters_6 rfl rfl rfl ?_
      refine r_callV 10 hE [0] [] [(wShelf g a L ln tp rd cnt era nws)] [] 0 5 ok5 [.int (iI i)] (c_X5_lengthOf (by omega) (by omega)) dX5_unlikeLetters_7 rfl rfl wd_755 wd_631 wd_632 wd_4 wd_633 ne_X5 np_X5_lengthOf (Nat.le_of_ble_eq_true rfl)  (by decide) (by decide) rfl (Nat.le_of_ble_eq_true rfl) rfl rfl rfl rfl (by decide) rfl (fun v1 f1 hp => ?_)
      obtain ⟨rfl, rfl⟩ := hp
      show G g E _ _ _ [(wShelf g a L ln tp rd cnt era nws)] 10 [(0, .ref (a 0)), (1, .int (iI t)), (2, .int (iI M)), (3, .int (iI i))] [.int (iI (ln t)), .int (iI i)]
      refine r_icmp_ge 13 30 hE dX5_unlikeLetters_10 rfl (by decide) (by omega) (fun c10 => ?_) (fun c10 => ?_)
      · skip
        refine r_iload_n 31 hE 2 dX5_unlikeLetters_30 rfl rfl rfl ?_
        refine r_callS 34 hE [] [0] [] [(wShelf g a L ln tp rd cnt era nws)] [] (c_J6_bitCount_0f7a4) dX5_unlikeLetters_31 rfl wd_804 wd_805 wd_19 wd_806 ne_J6 np_J6_bitCount_0f7a4 (Nat.le_of_ble_eq_true rfl)  (by decide) (by decide) rfl (Nat.le_of_ble_eq_true rfl) rfl rfl rfl rfl (by decide) (fun v1 f1 hp => ?_)
        obtain ⟨rfl, rfl⟩ := hp
        show G g E _ _ _ [(wShelf g a L ln tp rd cnt era nws)] 34 [(0, .ref (a 0)), (1, .int (iI t)), (2, .int (iI M)), (3, .int (iI i))] [.int (iI (bcI M))]
        refine r_ireturn hE hR [(wShelf g a L ln tp rd cnt era nws)] dX5_unlikeLetters_34 (Nat.le_of_ble_eq_true rfl) (Nat.le_of_ble_eq_true rfl) rfl ?_
        exact ⟨retI (by rw [mask_cnt hv, show i = ln t by omega]), rfl⟩
      · skip
        have hv2 := hv.step hi.1 ((hsh.2.2 t ht.1 ht.2).2 i hi.1 c10) rfl
        refine r_iload_n 14 hE 2 dX5_unlikeLetters_13 rfl rfl rfl ?_
        refine r_iconst 15 hE dX5_unlikeLetters_14 rfl ?_
        refine r_aload_n 16 hE 0 dX5_unlikeLetters_15 rfl rfl rfl ?_
        refine r_iload_n 17 hE 1 dX5_unlikeLetters_16 rfl rfl rfl ?_
        refine r_iload_n 18 hE 3 dX5_unlikeLetters_17 rfl rfl rfl ?_
        refine r_callV 21 hE [0] [] [(wShelf g a L ln tp rd cnt era nws)] [] 0 5 ok5 [.int (iI 1), .int (iI M)] (c_X5_at (by omega) (by omega) (hln) (by omega)) dX5_unlikeLetters_18 rfl rfl wd_803 wd_792 wd_793 wd_4 wd_794 ne_X5 np_X5_at (Nat.le_of_ble_eq_true rfl)  (by decide) (by decide) rfl (Nat.le_of_ble_eq_true rfl) rfl rfl rfl rfl (by decide) rfl (fun v1 f1 hp => ?_)
        obtain ⟨rfl, rfl⟩ := hp
        show G g E _ _ _ [(wShelf g a L ln tp rd cnt era nws)] 21 [(0, .ref (a 0)), (1, .int (iI t)), (2, .int (iI M)), (3, .int (iI i))] [.int (iI (atF L ln t i)), .int (iI 1), .int (iI M)]
        rw [show (atF L ln t i : Int) = tx L t i from atF_tx (by omega)]
        refine r_ishl 22 hE dX5_unlikeLetters_21 rfl ?_
        refine r_ior 23 hE dX5_unlikeLetters_22 rfl ?_
        refine r_istore_n 24 hE [(2, .int (iI (orI M (shlI 1 (tx L t i))))), (0, .ref (a 0)), (1, .int (iI t)), (3, .int (iI i))] dX5_unlikeLetters_23 rfl rfl (by decide) rfl ?_
        refine r_iinc 27 hE 3 (i + 1) [(3, .int (iI (i + 1))), (2, .int (iI (orI M (shlI 1 (tx L t i))))), (0, .ref (a 0)), (1, .int (iI t))] dX5_unlikeLetters_24 rfl rfl rfl (by decide) rfl ?_
        refine r_goto 4 hE dX5_unlikeLetters_27 (by decide) ?_
        refine G.to (fs' := [(wShelf g a L ln tp rd cnt era nws)]) (lv' := [(0, .ref (a 0)), (1, .int (iI t)), (2, .int (iI (orI M (shlI 1 (tx L t i))))), (3, .int (iI (i + 1)))]) [0] [2, 3, 1, 0] rfl rfl rfl ?_
        exact ih4 (orI M (shlI 1 (tx L t i))) (i + 1) (by omega) (by first | exact hv2 | exact MaskIs.start _) (by omega)
  refine r_iconst 1 hE dX5_unlikeLetters_0 rfl ?_
  refine r_istore_n 2 hE [(2, .int (iI 0)), (0, .ref (a 0)), (1, .int (iI t))] dX5_unlikeLetters_1 rfl rfl (by decide) rfl ?_
  refine r_iconst 3 hE dX5_unlikeLetters_2 rfl ?_
  refine r_istore_n 4 hE [(3, .int (iI 0)), (2, .int (iI 0)), (0, .ref (a 0)), (1, .int (iI t))] dX5_unlikeLetters_3 rfl rfl (by decide) rfl ?_
  refine G.to (fs' := [(wShelf g a L ln tp rd cnt era nws)]) (lv' := [(0, .ref (a 0)), (1, .int (iI t)), (2, .int (iI 0)), (3, .int (iI 0))]) [0] [2, 3, 1, 0] rfl rfl rfl ?_
  exact cut4 _ 0 0 (by omega) (by first | exact hv2 | exact MaskIs.start _) (Nat.lt_succ_self _)
set_option maxHeartbeats 4000000 in
set_option maxRecDepth 100000 in
theorem c_X8_of_6 {g : Gm} {a : Nat → Nat} {L ln tp rd : Int → Int} {cnt era nws : Int} {ru : Nat → Nat} {kd fi se sg le de nx he ro : Int → Int} {rc re rr : Int} {R : Int → Rl} {x tpa da pa qa wa sa bka : Nat} {taped told : Int} {t v : Int} (hw : v = 6) (hsh : ShOk L ln cnt) (ht : 0 ≤ t ∧ t < cnt) (hT : RT kd fi se sg le de nx he rc R) (hto : TopsOk R rc L ln tp rd cnt) : Ct g 5 0 0 yX8_of cX8_of 3 (some .int) [.ref x, .int (iI t), .int (iI v)] [(wMain g x tpa (a 0) da pa qa (ru 0) wa sa bka taped told), (wShelf g a L ln tp rd cnt era nws), (wRules g ru kd fi se sg le de nx he ro rc re rr)] (fun v_ w_ => ∃ r9 : Int, v_ = some (.int (iI r9)) ∧ w_ = [(wMain g x tpa (a 0) da pa qa (ru 0) wa sa bka taped 0), (wShelf g a L ln tp rd cnt era nws), (wRules g ru kd fi se sg le de nx he ro rc re rr)] ∧ (OfIs (tx L t) (ln t) 6 r9)) := by
  refine Ct.of (by decide) (Nat.le_of_ble_eq_true rfl) (lv := [(0, .ref x), (1, .int (iI t)), (2, .int (iI v))]) rfl ?_
  intro E hE hR hnm
  have hc := hsh.1
  have hln := hsh.ln
  have hB := hsh.2.1
  refine r_iload_n 1 hE 2 dX8_of_0 rfl rfl rfl ?_
  refine r_if_lt 4 10 hE dX8_of_1 rfl (by decide) (by omega) (fun c1 => ?_) (fun c1 => ?_)
  · skip
    omega
  · skip
    refine r_iload_n 5 hE 2 dX8_of_4 rfl rfl rfl ?_
    refine r_bipush 7 hE dX8_of_5 rfl (by decide) ?_
    refine r_icmp_le 10 16 hE dX8_of_7 rfl (by decide) (by omega) (fun c7 => ?_) (fun c7 => ?_)
    · skip
      refine r_aload_n 17 hE 0 dX8_of_16 rfl rfl rfl ?_
      refine r_get 20 hE 0 0 ok8 4 dX8_of_17 rfl wd_301 rfl rfl (by decide) rfl ?_
      refine r_iload_n 21 hE 1 dX8_of_20 rfl rfl rfl ?_
      refine r_callV 24 hE [1] [0, 2] [(wShelf g a L ln tp rd cnt era nws)] [(wMain g x tpa (a 0) da pa qa (ru 0) wa sa bka taped told), (wRules g ru kd fi se sg le de nx he ro rc re rr)] 0 5 ok5 [] (c_X5_has (by omega) (by omega)) dX8_of_21 rfl rfl wd_764 wd_578 wd_579 wd_4 wd_580 ne_X5 np_X5_has (Nat.le_of_ble_eq_true rfl)  (by decide) (by decide) rfl (Nat.le_of_ble_eq_true rfl) rfl rfl rfl rfl (by decide) rfl (fun v1 f1 hp => ?_)
      obtain ⟨rfl, rfl⟩ := hp
      show G g E _ _ _ [(wShelf g a L ln tp rd cnt era nws), (wMain g x tpa (a 0) da pa qa (ru 0) wa sa bka taped told), (wRules g ru kd fi se sg le de nx he ro rc re rr)] 24 [(0, .ref x), (1, .int (iI t)), (2, .int (iI v))] [.int (iI (bI (0 ≤ t ∧ t < cnt)))]
      refine r_if_ne 27 33 hE dX8_of_24 rfl (by decide) (bI_rg _) (fun c24 => ?_) (fun c24 => ?_)
      · skip
        have c24 := bI1 c24
        refine r_iload_n 34 hE 2 dX8_of_33 rfl rfl rfl ?_
        refine r_tsOut 165 hE dX8_of_34 (by omega) (by decide) ?_
        refine r_aload_n 166 hE 0 dX8_of_165 rfl rfl rfl ?_
        refine r_aload_n 167 hE 0 dX8_of_166 rfl rfl rfl ?_
        refine r_get 170 hE 1 0 ok8 4 dX8_of_167 rfl wd_301 rfl rfl (by decide) rfl ?_
        refine r_iload_n 171 hE 1 dX8_of_170 rfl rfl rfl ?_
        refine r_callV 174 hE [0] [1, 2] [(wShelf g a L ln tp rd cnt era nws)] [(wMain g x tpa (a 0) da pa qa (ru 0) wa sa bka taped told), (wRules g ru kd fi se sg le de nx he ro rc re rr)] 0 5 ok5 [.ref x] (c_X5_unlikeLetters (by omega) (hsh)) dX8_of_171 rfl rfl wd_799 wd_800 wd_801 wd_4 wd_802 ne_X5 np_X5_unlikeLetters (Nat.le_of_ble_eq_true rfl)  (by decide) (by decide) rfl (Nat.le_of_ble_eq_true rfl) rfl rfl rfl rfl (by decide) rfl (fun v1 f1 hp => ?_)
        obtain ⟨rfl, rfl⟩ := hp
        show G g E _ _ _ [(wShelf g a L ln tp rd cnt era nws), (wMain g x tpa (a 0) da pa qa (ru 0) wa sa bka taped told), (wRules g ru kd fi se sg le de nx he ro rc re rr)] 174 [(0, .ref x), (1, .int (iI t)), (2, .int (iI v))] [.int (iI (unlF (tx L t) (ln t))), .ref x]
        refine r_callV 177 hE [1] [0, 2] [(wMain g x tpa (a 0) da pa qa (ru 0) wa sa bka taped told)] [(wShelf g a L ln tp rd cnt era nws), (wRules g ru kd fi se sg le de nx he ro rc re rr)] 0 8 ok8 [] (c_X8_answer) dX8_of_174 rfl rfl wd_739 wd_741 ws_33 wd_1 wd_742 ne_X8 np_X8_answer (Nat.le_of_ble_eq_true rfl)  (by decide) (by decide) rfl (Nat.le_of_ble_eq_true rfl) rfl rfl rfl rfl (by decide) rfl (fun v1 f1 hp => ?_)
        obtain ⟨rfl, rfl⟩ := hp
        show G g E _ _ _ [(wMain g x tpa (a 0) da pa qa (ru 0) wa sa bka taped 0), (wShelf g a L ln tp rd cnt era nws), (wRules g ru kd fi se sg le de nx he ro rc re rr)] 177 [(0, .ref x), (1, .int (iI t)), (2, .int (iI v))] [.int (iI (unlF (tx L t) (ln t)))]
        refine r_ireturn hE hR [(wMain g x tpa (a 0) da pa qa (ru 0) wa sa bka taped 0), (wShelf g a L ln tp rd cnt era nws), (wRules g ru kd fi se sg le de nx he ro rc re rr)] dX8_of_177 (Nat.le_of_ble_eq_true rfl) (Nat.le_of_ble_eq_true rfl) rfl ?_
        exact ⟨unlF (tx L t) (ln t), rfl, rfl, _, _, by rw [← lts_tx]; exact (hto t ht.1 ht.2).2, Or.inr (Or.inr (Or.inr (Or.inr (Or.inr (Or.inr ⟨rfl, rfl⟩)))))⟩
      · skip
        have c24 := bI0 c24
        omega
    · skip
      omega
