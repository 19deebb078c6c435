set_option maxHeartbeats 4000000 in
set_option maxRecDepth 100000 in
theorem c_X8_letter {g : Gm} {a : Nat → Nat} {L ln tp rd : Int → Int} {cnt era nws : Int} {x tpa da pa qa rua wa sa bka : Nat} {taped told : Int} {t p : Int} (hsh : ShOk L ln cnt) (ht : -2147483648 ≤ t ∧ t ≤ 2147483647) (hp : -2147483648 ≤ p ∧ p ≤ 2147483647) : Ct g 3 0 0 yX8_letter cX8_letter 4 (some .int) [.ref x, .int (iI t), .int (iI p)] [(wMain g x tpa (a 0) da pa qa rua wa sa bka taped told), (wShelf g a L ln tp rd cnt era nws)] (fun v_ w_ => ∃ r9 : Int, ∃ s9 : Int, v_ = some (.int (iI r9)) ∧ w_ = [(wMain g x tpa (a 0) da pa qa rua wa sa bka taped s9), (wShelf g a L ln tp rd cnt era nws)] ∧ (QLetter (tx L) ln cnt t p r9 s9)) := by
  refine Ct.of (by decide) (Nat.le_of_ble_eq_true rfl) (lv := [(0, .ref x), (1, .int (iI t)), (2, .int (iI p))]) rfl ?_
  intro E hE hR hnm
  have hc := hsh.1
  have hln := hsh.ln
  have hB := hsh.2.1
  refine r_aload_n 1 hE 0 dX8_letter_0 rfl rfl rfl ?_
  refine r_iload_n 2 hE 1 dX8_letter_1 rfl rfl rfl ?_
  refine r_iload_n 3 hE 2 dX8_letter_2 rfl rfl rfl ?_
  refine r_iconst 4 hE dX8_letter_3 rfl ?_
  refine r_callV 7 hE [0, 1] [] [(wMain g x tpa (a 0) da pa qa rua wa sa bka taped told), (wShelf g a L ln tp rd cnt era nws)] [] 0 8 ok8 [] (c_X8_wrongPlace (by omega) (hln) (by omega) (by omega) (by omega)) dX8_letter_4 rfl rfl wd_814 wd_816 ws_38 wd_1 wd_817 ne_X8 np_X8_wrongPlace (Nat.le_of_ble_eq_true rfl)  (by decide) (by decide) rfl (Nat.le_of_ble_eq_true rfl) rfl rfl rfl rfl (by decide) rfl (fun v1 f1 hp => ?_)
  obtain ⟨rfl, rfl⟩ := hp
  show G g E _ _ _ [(wMain g x tpa (a 0) da pa qa rua wa sa bka taped told), (wShelf g a L ln tp rd cnt era nws)] 7 [(0, .ref x), (1, .int (iI t)), (2, .int (iI p))] [.int (iI (wpF ln cnt t p 0))]
  have hw := wpF_rg ln cnt t p 0
  refine r_istore_n 8 hE [(3, .int (iI (wpF ln cnt t p 0))), (0, .ref x), (1, .int (iI t)), (2, .int (iI p))] dX8_letter_7 rfl rfl (by decide) rfl ?_
  refine r_iload_n 9 hE 0 dX8_letter_8 rfl rfl rfl ?_
  refine r_if_eq 12 20 hE dX8_letter_9 rfl (by decide) (by omega) (fun c9 => ?_) (fun c9 => ?_)
  · skip
    have hk := wpF_ok c9
    refine r_aload_n 21 hE 1 dX8_letter_20 rfl rfl rfl ?_
    refine r_aload_n 22 hE 1 dX8_letter_21 rfl rfl rfl ?_
    refine r_get 25 hE 0 0 ok8 4 dX8_letter_22 rfl wd_301 rfl rfl (by decide) rfl ?_
    refine r_iload_n 26 hE 2 dX8_letter_25 rfl rfl rfl ?_
    refine r_iload_n 27 hE 3 dX8_letter_26 rfl rfl rfl ?_
    refine r_callV 30 hE [1] [0] [(wShelf g a L ln tp rd cnt era nws)] [(wMain g x tpa (a 0) da pa qa rua wa sa bka taped told)] 0 5 ok5 [.ref x] (c_X5_at (by omega) (by omega) (hln) (by omega)) dX8_letter_27 rfl rfl wd_818 wd_792 wd_793 wd_4 wd_794 ne_X5 np_X5_at (Nat.le_of_ble_eq_true rfl)  (by decide) (by decide) rfl (Nat.le_of_ble_eq_true rfl) rfl rfl rfl rfl (by decide) rfl (fun v1 f1 hp => ?_)
    obtain ⟨rfl, rfl⟩ := hp
    show G g E _ _ _ [(wShelf g a L ln tp rd cnt era nws), (wMain g x tpa (a 0) da pa qa rua wa sa bka taped told)] 30 [(3, .int (iI (wpF ln cnt t p 0))), (0, .ref x), (1, .int (iI t)), (2, .int (iI p))] [.int (iI (atF L ln t p)), .ref x]
    refine r_callV 33 hE [1] [0] [(wMain g x tpa (a 0) da pa qa rua wa sa bka taped told)] [(wShelf g a L ln tp rd cnt era nws)] 0 8 ok8 [] (c_X8_answer) dX8_letter_30 rfl rfl wd_739 wd_741 ws_33 wd_1 wd_742 ne_X8 np_X8_answer (Nat.le_of_ble_eq_true rfl)  (by decide) (by decide) rfl (Nat.le_of_ble_eq_true rfl) rfl rfl rfl rfl (by decide) rfl (fun v1 f1 hp => ?_)
    obtain ⟨rfl, rfl⟩ := hp
    show G g E _ _ _ [(wMain g x tpa (a 0) da pa qa rua wa sa bka taped 0), (wShelf g a L ln tp rd cnt era nws)] 33 [(3, .int (iI (wpF ln cnt t p 0))), (0, .ref x), (1, .int (iI t)), (2, .int (iI p))] [.int (iI (atF L ln t p))]
    refine r_ireturn hE hR [(wMain g x tpa (a 0) da pa qa rua wa sa bka taped 0), (wShelf g a L ln tp rd cnt era nws)] dX8_letter_33 (Nat.le_of_ble_eq_true rfl) (Nat.le_of_ble_eq_true rfl) rfl ?_
    first
      | exact ⟨_, _, rfl, rfl, rfl, Or.inr ⟨c9, rfl⟩⟩
      | exact ⟨_, _, rfl, rfl, c9.symm, Or.inl ⟨rfl, atF_tx (by omega)⟩⟩
  · skip
    refine r_aload_n 13 hE 1 dX8_letter_12 rfl rfl rfl ?_
    refine r_iload_n 14 hE 0 dX8_letter_13 rfl rfl rfl ?_
    refine r_callV 17 hE [0] [1] [(wMain g x tpa (a 0) da pa qa rua wa sa bka taped told)] [(wShelf g a L ln tp rd cnt era nws)] 0 8 ok8 [] (c_X8_refuse) dX8_letter_14 rfl rfl wd_347 wd_349 ws_1 wd_1 wd_350 ne_X8 np_X8_refuse (Nat.le_of_ble_eq_true rfl)  (by decide) (by decide) rfl (Nat.le_of_ble_eq_true rfl) rfl rfl rfl rfl (by decide) rfl (fun v1 f1 hp => ?_)
    obtain ⟨rfl, rfl⟩ := hp
    show G g E _ _ _ [(wMain g x tpa (a 0) da pa qa rua wa sa bka taped (wpF ln cnt t p 0)), (wShelf g a L ln tp rd cnt era nws)] 17 [(3, .int (iI (wpF ln cnt t p 0))), (0, .ref x), (1, .int (iI t)), (2, .int (iI p))] [.int (iI (-1))]
    refine r_goto 33 hE dX8_letter_17 (by decide) ?_
    refine r_ireturn hE hR [(wMain g x tpa (a 0) da pa qa rua wa sa bka taped (wpF ln cnt t p 0)), (wShelf g a L ln tp rd cnt era nws)] dX8_letter_33 (Nat.le_of_ble_eq_true rfl) (Nat.le_of_ble_eq_true rfl) rfl ?_
    first
      | exact ⟨_, _, rfl, rfl, rfl, Or.inr ⟨c9, rfl⟩⟩
      | exact ⟨_, _, rfl, rfl, c9.symm, Or.inl ⟨rfl, atF_tx (by omega)⟩⟩
set_option maxHeartbeats 4000000 in
set_option maxRecDepth 100000 in
theorem c_X8_alike {g : Gm} {a : Nat → Nat} {L ln tp rd : Int → Int} {cnt era nws : Int} {x tpa da pa qa rua wa sa bka : Nat} {taped told : Int} {t p u q : Int} (hsh : ShOk L ln cnt) (ht : -2147483648 ≤ t ∧ t ≤ 2147483647) (hp : -2147483648 ≤ p ∧ p ≤ 2147483647) (hu : -2147483648 ≤ u ∧ u ≤ 2147483647) (hq : -2147483648 ≤ q ∧ q ≤ 2147483647) : Ct g 3 0 0 yX8_alike cX8_alike 7 (some .int) [.ref x, .int (iI t), .int (iI p), .int (iI u), .int (iI q)] [(wMain g x tpa (a 0) da pa qa rua wa sa bka taped told), (wShelf g a L ln tp rd cnt era nws)] (fun v_ w_ => ∃ r9 : Int, ∃ s9 : Int, v_ = some (.int (iI r9)) ∧ w_ = [(wMain g x tpa (a 0) da pa qa rua wa sa bka taped s9), (wShelf g a L ln tp rd cnt era nws)] ∧ (QAlike (tx L) ln cnt t p u q r9 s9)) := by
  refine Ct.of (by decide) (Nat.le_of_ble_eq_true rfl) (lv := [(0, .ref x), (1, .int (iI t)), (2, .int (iI p)), (3, .int (iI u)), (4, .int (iI q))]) rfl ?_
  intro E hE hR hnm
  have hc := hsh.1
  have hln := hsh.ln
  have hB := hsh.2.1
  refine r_aload_n 1 hE 0 dX8_alike_0 rfl rfl rfl ?_
  refine r_iload_n 2 hE 1 dX8_alike_1 rfl rfl rfl ?_
  refine r_iload_n 3 hE 2 dX8_alike_2 rfl rfl rfl ?_
  refine r_iconst 4 hE dX8_alike_3 rfl ?_
  refine r_callV 7 hE [0, 1] [] [(wMain g x tpa (a 0) da pa qa rua wa sa bka taped told), (wShelf g a L ln tp rd cnt era nws)] [] 0 8 ok8 [] (c_X8_wrongPlace (by omega) (hln) (by omega) (by omega) (by omega)) dX8_alike_4 rfl rfl wd_814 wd_816 ws_38 wd_1 wd_817 ne_X8 np_X8_wrongPlace (Nat.le_of_ble_eq_true rfl)  (by decide) (by decide) rfl (Nat.le_of_ble_eq_true rfl) rfl rfl rfl rfl (by decide) rfl (fun v1 f1 hp => ?_)
  obtain ⟨rfl, rfl⟩ := hp
  show G g E _ _ _ [(wMain g x tpa (a 0) da pa qa rua wa sa bka taped told), (wShelf g a L ln tp rd cnt era nws)] 7 [(0, .ref x), (1, .int (iI t)), (2, .int (iI p)), (3, .int (iI u)), (4, .int (iI q))] [.int (iI (wpF ln cnt t p 1))]
  have hw := wpF_rg ln cnt t p 1
  refine r_istore 9 hE [(5, .int (iI (wpF ln cnt t p 1))), (0, .ref x), (1, .int (iI t)), (2, .int (iI p)), (3, .int (iI u)), (4, .int (iI q))] dX8_alike_7 rfl (by decide) rfl ?_
  refine r_aload_n 10 hE 1 dX8_alike_9 rfl rfl rfl ?_
  refine r_iload_n 11 hE 4 dX8_alike_10 rfl rfl rfl ?_
  refine r_iload 13 hE 5 dX8_alike_11 rfl rfl ?_
  refine r_iconst 14 hE dX8_alike_13 rfl ?_
  refine r_callV 17 hE [0, 1] [] [(wMain g x tpa (a 0) da pa qa rua wa sa bka taped told), (wShelf g a L ln tp rd cnt era nws)] [] 0 8 ok8 [] (c_X8_wrongPlace (by omega) (hln) (by omega) (by omega) (by omega)) dX8_alike_14 rfl rfl wd_814 wd_816 ws_38 wd_1 wd_817 ne_X8 np_X8_wrongPlace (Nat.le_of_ble_eq_true rfl)  (by decide) (by decide) rfl (Nat.le_of_ble_eq_true rfl) rfl rfl rfl rfl (by decide) rfl (fun v1 f1 hp => ?_)
  obtain ⟨rfl, rfl⟩ := hp
  show G g E _ _ _ [(wMain g x tpa (a 0) da pa qa rua wa sa bka taped told), (wShelf g a L ln tp rd cnt era nws)] 17 [(5, .int (iI (wpF ln cnt t p 1))), (0, .ref x), (1, .int (iI t)), (2, .int (iI p)), (3, .int (iI u)), (4, .int (iI q))] [.int (iI (wpF ln cnt u q 1))]
  have hw2 := wpF_rg ln cnt u q 1
  refine r_istore 19 hE [(6, .int (iI (wpF ln cnt u q 1))), (5, .int (iI (wpF ln cnt t p 1))), (0, .ref x), (1, .int (iI t)), (2, .int (iI p)), (3, .int (iI u)), (4, .int (iI q))] dX8_alike_17 rfl (by decide) rfl ?_
  refine r_iload 21 hE 1 dX8_alike_19 rfl rfl ?_
  refine r_if_ne 24 29 hE dX8_alike_21 rfl (by decide) (by omega) (fun c21 => ?_) (fun c21 => ?_)
  · skip
    refine r_aload_n 30 hE 2 dX8_alike_29 rfl rfl rfl ?_
    refine r_iload 32 hE 1 dX8_alike_30 rfl rfl ?_
    refine r_iload 34 hE 0 dX8_alike_32 rfl rfl ?_
    refine r_callS 37 hE [] [0, 1] [] [(wMain g x tpa (a 0) da pa qa rua wa sa bka taped told), (wShelf g a L ln tp rd cnt era nws)] [.ref x] (c_X8_lesserWrong (by omega) (by omega)) dX8_alike_34 rfl wd_969 wd_970 wd_1 wd_971 ne_X8 np_X8_lesserWrong (Nat.le_of_ble_eq_true rfl)  (by decide) (by decide) rfl (Nat.le_of_ble_eq_true rfl) rfl rfl rfl rfl (by decide) (fun v1 f1 hp => ?_)
    obtain ⟨rfl, rfl⟩ := hp
    show G g E _ _ _ [(wMain g x tpa (a 0) da pa qa rua wa sa bka taped told), (wShelf g a L ln tp rd cnt era nws)] 37 [(6, .int (iI (wpF ln cnt u q 1))), (5, .int (iI (wpF ln cnt t p 1))), (0, .ref x), (1, .int (iI t)), (2, .int (iI p)), (3, .int (iI u)), (4, .int (iI q))] [.int (iI (lwF (wpF ln cnt t p 1) (wpF ln cnt u q 1))), .ref x]
    refine r_callV 40 hE [0] [1] [(wMain g x tpa (a 0) da pa qa rua wa sa bka taped told)] [(wShelf g a L ln tp rd cnt era nws)] 0 8 ok8 [] (c_X8_refuse) dX8_alike_37 rfl rfl wd_347 wd_349 ws_1 wd_1 wd_350 ne_X8 np_X8_refuse (Nat.le_of_ble_eq_true rfl)  (by decide) (by decide) rfl (Nat.le_of_ble_eq_true rfl) rfl rfl rfl rfl (by decide) rfl (fun v1 f1 hp => ?_)
    obtain ⟨rfl, rfl⟩ := hp
    show G g E _ _ _ [(wMain g x tpa (a 0) da pa qa rua wa sa bka taped (lwF (wpF ln cnt t p 1) (wpF ln cnt u q 1))), (wShelf g a L ln tp rd cnt era nws)] 40 [(6, .int (iI (wpF ln cnt u q 1))), (5, .int (iI (wpF ln cnt t p 1))), (0, .ref x), (1, .int (iI t)), (2, .int (iI p)), (3, .int (iI u)), (4, .int (iI q))] [.int (iI (-1))]
    refine r_ireturn hE hR [(wMain g x tpa (a 0) da pa qa rua wa sa bka taped (lwF (wpF ln cnt t p 1) (wpF ln cnt u q 1))), (wShelf g a L ln tp rd cnt era nws)] dX8_alike_40 (Nat.le_of_ble_eq_true rfl) (Nat.le_of_ble_eq_true rfl) rfl ?_
    exact ⟨_, _, rfl, rfl, rfl, Or.inr ⟨lwF_n hw.1 hw2.1 (by omega), rfl⟩⟩
  · skip
    refine r_iload 26 hE 0 dX8_alike_24 rfl rfl ?_
    refine r_if_eq 29 41 hE dX8_alike_26 rfl (by decide) (by omega) (fun c26 => ?_) (fun c26 => ?_)
    · skip
      have hk := wpF_ok c21
      have hk2 := wpF_ok c26
      refine r_aload_n 42 hE 2 dX8_alike_41 rfl rfl rfl ?_
      refine r_aload_n 43 hE 2 dX8_alike_42 rfl rfl rfl ?_
      refine r_get 46 hE 0 0 ok8 4 dX8_alike_43 rfl wd_301 rfl rfl (by decide) rfl ?_
      refine r_iload_n 47 hE 3 dX8_alike_46 rfl rfl rfl ?_
      refine r_iload_n 48 hE 4 dX8_alike_47 rfl rfl rfl ?_
      refine r_iload_n 49 hE 5 dX8_alike_48 rfl rfl rfl ?_
      refine r_iload 51 hE 6 dX8_alike_49 rfl rfl ?_
      refine r_callV 54 hE [1] [0] [(wShelf g a L ln tp rd cnt era nws)] [(wMain g x tpa (a 0) da pa qa rua wa sa bka taped told)] 0 5 ok5 [.ref x] (c_X5_same (by omega) (by omega) (by omega) (hln) (hB) (by omega) (by omega)) dX8_alike_51 rfl rfl wd_973 wd_974 wd_975 wd_4 wd_976 ne_X5 np_X5_same (Nat.le_of_ble_eq_true rfl)  (by decide) (by decide) rfl (Nat.le_of_ble_eq_true rfl) rfl rfl rfl rfl (by decide) rfl (fun v1 f1 hp => ?_)
      obtain ⟨r_51, rfl, rfl, h51_0⟩ := hp
      show G g E _ _ _ [(wShelf g a L ln tp rd cnt era nws), (wMain g x tpa (a 0) da pa qa rua wa sa bka taped told)] 54 [(6, .int (iI (wpF ln cnt u q 1))), (5, .int (iI (wpF ln cnt t p 1))), (0, .ref x), (1, .int (iI t)), (2, .int (iI p)), (3, .int (iI u)), (4, .int (iI q))] [.int (iI r_51), .ref x]
      refine r_callV 57 hE [1] [0] [(wMain g x tpa (a 0) da pa qa rua wa sa bka taped told)] [(wShelf g a L ln tp rd cnt era nws)] 0 8 ok8 [] (c_X8_answer) dX8_alike_54 rfl rfl wd_739 wd_741 ws_33 wd_1 wd_742 ne_X8 np_X8_answer (Nat.le_of_ble_eq_true rfl)  (by decide) (by decide) rfl (Nat.le_of_ble_eq_true rfl) rfl rfl rfl rfl (by decide) rfl (fun v1 f1 hp => ?_)
      obtain ⟨rfl, rfl⟩ := hp
      show G g E _ _ _ [(wMain g x tpa (a 0) da pa qa rua wa sa bka taped 0), (wShelf g a L ln tp rd cnt era nws)] 57 [(6, .int (iI (wpF ln cnt u q 1))), (5, .int (iI (wpF ln cnt t p 1))), (0, .ref x), (1, .int (iI t)), (2, .int (iI p)), (3, .int (iI u)), (4, .int (iI q))] [.int (iI r_51)]
      refine r_ireturn hE hR [(wMain g x tpa (a 0) da pa qa rua wa sa bka taped 0), (wShelf g a L ln tp rd cnt era nws)] dX8_alike_57 (Nat.le_of_ble_eq_true rfl) (Nat.le_of_ble_eq_true rfl) rfl ?_
      exact ⟨_, _, rfl, rfl, (lwF_z c21 c26).symm, Or.inl ⟨rfl, h51_0⟩⟩
    · skip
      refine r_aload_n 30 hE 2 dX8_alike_29 rfl rfl rfl ?_
      refine r_iload 32 hE 1 dX8_alike_30 rfl rfl ?_
      refine r_iload 34 hE 0 dX8_alike_32 rfl rfl ?_
      refine r_callS 37 hE [] [0, 1] [] [(wMain g x tpa (a 0) da pa qa rua wa sa bka taped told), (wShelf g a L ln tp rd cnt era nws)] [.ref x] (c_X8_lesserWrong (by omega) (by omega)) dX8_alike_34 rfl wd_969 wd_970 wd_1 wd_971 ne_X8 np_X8_lesserWrong (Nat.le_of_ble_eq_true rfl)  (by decide) (by decide) rfl (Nat.le_of_ble_eq_true rfl) rfl rfl rfl rfl (by decide) (fun v1 f1 hp => ?_)
      obtain ⟨rfl, rfl⟩ := hp
      show G g E _ _ _ [(wMain g x tpa (a 0) da pa qa rua wa sa bka taped told), (wShelf g a L ln tp rd cnt era nws)] 37 [(6, .int (iI (wpF ln cnt u q 1))), (5, .int (iI (wpF ln cnt t p 1))), (0, .ref x), (1, .int (iI t)), (2, .int (iI p)), (3, .int (iI u)), (4, .int (iI q))] [.int (iI (lwF (wpF ln cnt t p 1) (wpF ln cnt u q 1))), .ref x]
      refine r_callV 40 hE [0] [1] [(wMain g x tpa (a 0) da pa qa rua wa sa bka taped told)] [(wShelf g a L ln tp rd cnt era nws)] 0 8 ok8 [] (c_X8_refuse) dX8_alike_37 rfl rfl wd_347 wd_349 ws_1 wd_1 wd_350 ne_X8 np_X8_refuse (Nat.le_of_ble_eq_true rfl)  (by decide) (by decide) rfl (Nat.le_of_ble_eq_true rfl) rfl rfl rfl rfl (by decide) rfl (fun v1 f1 hp => ?_)
      obtain ⟨rfl, rfl⟩ := hp
      show G g E _ _ _ [(wMain g x tpa (a 0) da pa qa rua wa sa bka taped (lwF (wpF ln cnt t p 1) (wpF ln cnt u q 1))), (wShelf g a L ln tp rd cnt era nws)] 40 [(6, .int (iI (wpF ln cnt u q 1))), (5, .int (iI (wpF ln cnt t p 1))), (0, .ref x), (1, .int (iI t)), (2, .int (iI p)), (3, .int (iI u)), (4, .int (iI q))] [.int (iI (-1))]
      refine r_ireturn hE hR [(wMain g x tpa (a 0) da pa qa rua wa sa bka taped (lwF (wpF ln cnt t p 1) (wpF ln cnt u q 1))), (wShelf g a L ln tp rd cnt era nws)] dX8_alike_40 (Nat.le_of_ble_eq_true rfl) (Nat.le_of_ble_eq_true rfl) rfl ?_
      exact ⟨_, _, rfl, rfl, rfl, Or.inr ⟨lwF_n hw.1 hw2.1 (by omega), rfl⟩⟩
set_option maxHeartbeats 4000000 in
set_option maxRecDepth 100000 in
theorem c_X8_rank {g : Gm} {a : Nat → Nat} {L ln tp rd : Int → Int} {cnt era nws : Int} {x tpa da pa qa rua wa sa bka : Nat} {taped told : Int} {t l p : Int} (hsh : ShOk L ln cnt) (ht : -2147483648 ≤ t ∧ t ≤ 2147483647) (hl : -2147483648 ≤ l ∧ l ≤ 2147483647) (hp : -2147483648 ≤ p ∧ p ≤ 2147483647) : Ct g 3 0 0 yX8_rank cX8_rank 5 (some .int) [.ref x, .int (iI t), .int (iI l), .int (iI p)] [(wMain g x tpa (a 0) da pa qa rua wa sa bka taped told), (wShelf g a L ln tp rd cnt era nws)] (fun v_ w_ => ∃ r9 : Int, ∃ s9 : Int, v_ = some (.int (iI r9)) ∧ w_ = [(wMain g x tpa (a 0) da pa qa rua wa sa bka taped s9), (wShelf g a L ln tp rd cnt era nws)] ∧ (QRank (tx L) ln cnt t l p r9 s9)) := by
  refine Ct.of (by decide) (Nat.le_of_ble_eq_true rfl) (lv := [(0, .ref x), (1, .int (iI t)), (2, .int (iI l)), (3, .int (iI p))]) rfl ?_
  intro E hE hR hnm
  have hc := hsh.1
  have hln := hsh.ln
  have hB := hsh.2.1
  have cut18 : ∀ (v : Int), (v = if 0 ≤ l ∧ l < 26 then wpF ln cnt t p 1 else 1) → (0 ≤ v ∧ v ≤ 5) → G g E 5 0 0 [(wMain g x tpa (a 0) da pa qa rua wa sa bka taped told), (wShelf g a L ln tp rd cnt era nws)] 18 [(0, .ref x), (1, .int (iI t)), (2, .int (iI l)), (3, .int (iI p))] [.int (iI v)] := by
    intro v hv hvr
    refine r_istore 20 hE [(4, .int (iI v)), (0, .ref x), (1, .int (iI t)), (2, .int (iI l)), (3, .int (iI p))] dX8_rank_18 rfl (by decide) rfl ?_
    refine r_iload 22 hE 0 dX8_rank_20 rfl rfl ?_
    refine r_if_eq 25 34 hE dX8_rank_22 rfl (by decide) (by omega) (fun c22 => ?_) (fun c22 => ?_)
    · skip
      have hll : 0 ≤ l ∧ l < 26 := Decidable.byContradiction fun z => by rw [if_neg z] at hv; omega
      rw [if_pos hll] at hv
      have hk := wpF_ok (show wpF ln cnt t p 1 = 0 by omega)
      refine r_aload_n 35 hE 1 dX8_rank_34 rfl rfl rfl ?_
      refine r_aload_n 36 hE 1 dX8_rank_35 rfl rfl rfl ?_
      refine r_get 39 hE 0 0 ok8 4 dX8_rank_36 rfl wd_301 rfl rfl (by decide) rfl ?_
      refine r_iload_n 40 hE 2 dX8_rank_39 rfl rfl rfl ?_
      refine r_iload_n 41 hE 3 dX8_rank_40 rfl rfl rfl ?_
      refine r_iload_n 42 hE 4 dX8_rank_41 rfl rfl rfl ?_
      refine r_callV 45 hE [1] [0] [(wShelf g a L ln tp rd cnt era nws)] [(wMain g x tpa (a 0) da pa qa rua wa sa bka taped told)] 0 5 ok5 [.ref x] (c_X5_countAhead (by omega) (by omega) (hln) (hB) (by omega) (by omega)) dX8_rank_42 rfl rfl wd_928 wd_929 wd_930 wd_4 wd_931 ne_X5 np_X5_countAhead (Nat.le_of_ble_eq_true rfl)  (by decide) (by decide) rfl (Nat.le_of_ble_eq_true rfl) rfl rfl rfl rfl (by decide) rfl (fun v1 f1 hp => ?_)
      obtain ⟨rfl, rfl⟩ := hp
      show G g E _ _ _ [(wShelf g a L ln tp rd cnt era nws), (wMain g x tpa (a 0) da pa qa rua wa sa bka taped told)] 45 [(4, .int (iI v)), (0, .ref x), (1, .int (iI t)), (2, .int (iI l)), (3, .int (iI p))] [.int (iI (cntF (tx L t) l p)), .ref x]
      refine r_callV 48 hE [1] [0] [(wMain g x tpa (a 0) da pa qa rua wa sa bka taped told)] [(wShelf g a L ln tp rd cnt era nws)] 0 8 ok8 [] (c_X8_answer) dX8_rank_45 rfl rfl wd_739 wd_741 ws_33 wd_1 wd_742 ne_X8 np_X8_answer (Nat.le_of_ble_eq_true rfl)  (by decide) (by decide) rfl (Nat.le_of_ble_eq_true rfl) rfl rfl rfl rfl (by decide) rfl (fun v1 f1 hp => ?_)
      obtain ⟨rfl, rfl⟩ := hp
      show G g E _ _ _ [(wMain g x tpa (a 0) da pa qa rua wa sa bka taped 0), (wShelf g a L ln tp rd cnt era nws)] 48 [(4, .int (iI v)), (0, .ref x), (1, .int (iI t)), (2, .int (iI l)), (3, .int (iI p))] [.int (iI (cntF (tx L t) l p))]
      refine r_ireturn hE hR [(wMain g x tpa (a 0) da pa qa rua wa sa bka taped 0), (wShelf g a L ln tp rd cnt era nws)] dX8_rank_48 (Nat.le_of_ble_eq_true rfl) (Nat.le_of_ble_eq_true rfl) rfl ?_
      first
        | exact ⟨_, _, rfl, rfl, hv, Or.inr ⟨c22, rfl⟩⟩
        | exact ⟨_, _, rfl, rfl, by rw [if_pos hll]; omega, Or.inl ⟨rfl, rfl⟩⟩
    · skip
      refine r_aload_n 26 hE 1 dX8_rank_25 rfl rfl rfl ?_
      refine r_iload 28 hE 0 dX8_rank_26 rfl rfl ?_
      refine r_callV 31 hE [0] [1] [(wMain g x tpa (a 0) da pa qa rua wa sa bka taped told)] [(wShelf g a L ln tp rd cnt era nws)] 0 8 ok8 [] (c_X8_refuse) dX8_rank_28 rfl rfl wd_347 wd_349 ws_1 wd_1 wd_350 ne_X8 np_X8_refuse (Nat.le_of_ble_eq_true rfl)  (by decide) (by decide) rfl (Nat.le_of_ble_eq_true rfl) rfl rfl rfl rfl (by decide) rfl (fun v1 f1 hp => ?_)
      obtain ⟨rfl, rfl⟩ := hp
      show G g E _ _ _ [(wMain g x tpa (a 0) da pa qa rua wa sa bka taped v), (wShelf g a L ln tp rd cnt era nws)] 31 [(4, .int (iI v)), (0, .ref x), (1, .int (iI t)), (2, .int (iI l)), (3, .int (iI p))] [.int (iI (-1))]
      refine r_goto 48 hE dX8_rank_31 (by decide) ?_
      refine r_ireturn hE hR [(wMain g x tpa (a 0) da pa qa rua wa sa bka taped v), (wShelf g a L ln tp rd cnt era nws)] dX8_rank_48 (Nat.le_of_ble_eq_true rfl) (Nat.le_of_ble_eq_true rfl) rfl ?_
      first
        | exact ⟨_, _, rfl, rfl, hv, Or.inr ⟨c22, rfl⟩⟩
        | exact ⟨_, _, rfl, rfl, by rw [if_pos hll]; omega, Or.inl ⟨rfl, rfl⟩⟩
  refine r_iload_n 1 hE 2 dX8_rank_0 rfl rfl rfl ?_
  refine r_callS 4 hE [] [0, 1] [] [(wMain g x tpa (a 0) da pa qa rua wa sa bka taped told), (wShelf g a L ln tp rd cnt era nws)] [] (c_X8_isLetter (by omega)) dX8_rank_1 rfl wd_925 wd_926 wd_1 wd_927 ne_X8 np_X8_isLetter (Nat.le_of_ble_eq_true rfl)  (by decide) (by decide) rfl (Nat.le_of_ble_eq_true rfl) rfl rfl rfl rfl (by decide) (fun v1 f1 hp => ?_)
  obtain ⟨rfl, rfl⟩ := hp
  show G g E _ _ _ [(wMain g x tpa (a 0) da pa qa rua wa sa bka taped told), (wShelf g a L ln tp rd cnt era nws)] 4 [(0, .ref x), (1, .int (iI t)), (2, .int (iI l)), (3, .int (iI p))] [.int (iI (bI (0 ≤ l ∧ l < 26)))]
  refine r_if_eq 7 17 hE dX8_rank_4 rfl (by decide) (bI_rg _) (fun c4 => ?_) (fun c4 => ?_)
  · skip
    have c4 := bI0 c4
    refine r_iconst 18 hE dX8_rank_17 rfl ?_
    exact cut18 1 (by first | rw [if_pos c4] | rw [if_neg c4]) (by first | omega | exact wpF_rg _ _ _ _ _)
  · skip
    have c4 := bI1 c4
    refine r_aload_n 8 hE 0 dX8_rank_7 rfl rfl rfl ?_
    refine r_iload_n 9 hE 1 dX8_rank_8 rfl rfl rfl ?_
    refine r_iload_n 10 hE 3 dX8_rank_9 rfl rfl rfl ?_
    refine r_iconst 11 hE dX8_rank_10 rfl ?_
    refine r_callV 14 hE [0, 1] [] [(wMain g x tpa (a 0) da pa qa rua wa sa bka taped told), (wShelf g a L ln tp rd cnt era nws)] [] 0 8 ok8 [] (c_X8_wrongPlace (by omega) (hln) (by omega) (by omega) (by omega)) dX8_rank_11 rfl rfl wd_814 wd_816 ws_38 wd_1 wd_817 ne_X8 np_X8_wrongPlace (Nat.le_of_ble_eq_true rfl)  (by decide) (by decide) rfl (Nat.le_of_ble_eq_true rfl) rfl rfl rfl rfl (by decide) rfl (fun v1 f1 hp => ?_)
    obtain ⟨rfl, rfl⟩ := hp
    show G g E _ _ _ [(wMain g x tpa (a 0) da pa qa rua wa sa bka taped told), (wShelf g a L ln tp rd cnt era nws)] 14 [(0, .ref x), (1, .int (iI t)), (2, .int (iI l)), (3, .int (iI p))] [.int (iI (wpF ln cnt t p 1))]
    refine r_goto 18 hE dX8_rank_14 (by decide) ?_
    exact cut18 (wpF ln cnt t p 1) (by first | rw [if_pos c4] | rw [if_neg c4]) (by first | omega | exact wpF_rg _ _ _ _ _)
set_option maxHeartbeats 4000000 in
set_option maxRecDepth 100000 in
theorem c_X8_select {g : Gm} {a : Nat → Nat} {L ln tp rd : Int → Int} {cnt era nws : Int} {x tpa da pa qa rua wa sa bka : Nat} {taped told : Int} {t l i : Int} (hsh : ShOk L ln cnt) (ht : -2147483648 ≤ t ∧ t ≤ 2147483647) (hl : -2147483648 ≤ l ∧ l ≤ 2147483647) (hi : -2147483648 ≤ i ∧ i ≤ 2147483647) : Ct g 3 0 0 yX8_select cX8_select 5 (some .int) [.ref x, .int (iI t), .int (iI l), .int (iI i)] [(wMain g x tpa (a 0) da pa qa rua wa sa bka taped told), (wShelf g a L ln tp rd cnt era nws)] (fun v_ w_ => ∃ r9 : Int, ∃ s9 : Int, v_ = some (.int (iI r9)) ∧ w_ = [(wMain g x tpa (a 0) da pa qa rua wa sa bka taped s9), (wShelf g a L ln tp rd cnt era nws)] ∧ (QSelect (tx L) ln cnt t l i r9 s9)) := by
  refine Ct.of (by decide) (Nat.le_of_ble_eq_true rfl) (lv := [(0, .ref x), (1, .int (iI t)), (2, .int (iI l)), (3, .int (iI i))]) rfl ?_
  intro E hE hR hnm
  have hc := hsh.1
  have hln := hsh.ln
  have hB := hsh.2.1
  refine r_iload_n 1 hE 2 dX8_select_0 rfl rfl rfl ?_
  refine r_callS 4 hE [] [0, 1] [] [(wMain g x tpa (a 0) da pa qa rua wa sa bka taped told), (wShelf g a L ln tp rd cnt era nws)] [] (c_X8_isLetter (by omega)) dX8_select_1 rfl wd_925 wd_926 wd_1 wd_927 ne_X8 np_X8_isLetter (Nat.le_of_ble_eq_true rfl)  (by decide) (by decide) rfl (Nat.le_of_ble_eq_true rfl) rfl rfl rfl rfl (by decide) (fun v1 f1 hp => ?_)
  obtain ⟨rfl, rfl⟩ := hp
  show G g E _ _ _ [(wMain g x tpa (a 0) da pa qa rua wa sa bka taped told), (wShelf g a L ln tp rd cnt era nws)] 4 [(0, .ref x), (1, .int (iI t)), (2, .int (iI l)), (3, .int (iI i))] [.int (iI (bI (0 ≤ l ∧ l < 26)))]
  refine r_if_eq 7 11 hE dX8_select_4 rfl (by decide) (bI_rg _) (fun c4 => ?_) (fun c4 => ?_)
  · skip
    have c4 := bI0 c4
    refine r_aload_n 12 hE 0 dX8_select_11 rfl rfl rfl ?_
    refine r_iconst 13 hE dX8_select_12 rfl ?_
    refine r_callV 16 hE [0] [1] [(wMain g x tpa (a 0) da pa qa rua wa sa bka taped told)] [(wShelf g a L ln tp rd cnt era nws)] 0 8 ok8 [] (c_X8_refuse) dX8_select_13 rfl rfl wd_347 wd_349 ws_1 wd_1 wd_350 ne_X8 np_X8_refuse (Nat.le_of_ble_eq_true rfl)  (by decide) (by decide) rfl (Nat.le_of_ble_eq_true rfl) rfl rfl rfl rfl (by decide) rfl (fun v1 f1 hp => ?_)
    obtain ⟨rfl, rfl⟩ := hp
    show G g E _ _ _ [(wMain g x tpa (a 0) da pa qa rua wa sa bka taped 1), (wShelf g a L ln tp rd cnt era nws)] 16 [(0, .ref x), (1, .int (iI t)), (2, .int (iI l)), (3, .int (iI i))] [.int (iI (-1))]
    refine r_ireturn hE hR [(wMain g x tpa (a 0) da pa qa rua wa sa bka taped 1), (wShelf g a L ln tp rd cnt era nws)] dX8_select_16 (Nat.le_of_ble_eq_true rfl) (Nat.le_of_ble_eq_true rfl) rfl ?_
    exact ⟨_, _, rfl, rfl, Or.inl ⟨by omega, rfl, rfl⟩⟩
  · skip
    have c4 := bI1 c4
    refine r_iload_n 8 hE 3 dX8_select_7 rfl rfl rfl ?_
    refine r_if_ge 11 17 hE dX8_select_8 rfl (by decide) (by omega) (fun c8 => ?_) (fun c8 => ?_)
    · skip
      refine r_aload_n 18 hE 0 dX8_select_17 rfl rfl rfl ?_
      refine r_get 21 hE 0 0 ok8 4 dX8_select_18 rfl wd_301 rfl rfl (by decide) rfl ?_
      refine r_iload_n 22 hE 1 dX8_select_21 rfl rfl rfl ?_
      refine r_callV 25 hE [1] [0] [(wShelf g a L ln tp rd cnt era nws)] [(wMain g x tpa (a 0) da pa qa rua wa sa bka taped told)] 0 5 ok5 [] (c_X5_has (by omega) (by omega)) dX8_select_22 rfl rfl wd_764 wd_578 wd_579 wd_4 wd_580 ne_X5 np_X5_has (Nat.le_of_ble_eq_true rfl)  (by decide) (by decide) rfl (Nat.le_of_ble_eq_true rfl) rfl rfl rfl rfl (by decide) rfl (fun v1 f1 hp => ?_)
      obtain ⟨rfl, rfl⟩ := hp
      show G g E _ _ _ [(wShelf g a L ln tp rd cnt era nws), (wMain g x tpa (a 0) da pa qa rua wa sa bka taped told)] 25 [(0, .ref x), (1, .int (iI t)), (2, .int (iI l)), (3, .int (iI i))] [.int (iI (bI (0 ≤ t ∧ t < cnt)))]
      refine r_if_ne 28 34 hE dX8_select_25 rfl (by decide) (bI_rg _) (fun c25 => ?_) (fun c25 => ?_)
      · skip
        have c25 := bI1 c25
        refine r_aload_n 35 hE 0 dX8_select_34 rfl rfl rfl ?_
        refine r_get 38 hE 1 0 ok8 4 dX8_select_35 rfl wd_301 rfl rfl (by decide) rfl ?_
        refine r_iload_n 39 hE 1 dX8_select_38 rfl rfl rfl ?_
        refine r_iload_n 40 hE 2 dX8_select_39 rfl rfl rfl ?_
        refine r_iload_n 41 hE 3 dX8_select_40 rfl rfl rfl ?_
        refine r_callV 44 hE [0] [1] [(wShelf g a L ln tp rd cnt era nws)] [(wMain g x tpa (a 0) da pa qa rua wa sa bka taped told)] 0 5 ok5 [] (c_X5_placeOf (by omega) (by omega) (hln) (hB) (by omega) (by omega)) dX8_select_41 rfl rfl wd_1027 wd_1028 wd_1029 wd_4 wd_1030 ne_X5 np_X5_placeOf (Nat.le_of_ble_eq_true rfl)  (by decide) (by decide) rfl (Nat.le_of_ble_eq_true rfl) rfl rfl rfl rfl (by decide) rfl (fun v1 f1 hp => ?_)
        obtain ⟨r_41, rfl, rfl, h41_0⟩ := hp
        show G g E _ _ _ [(wShelf g a L ln tp rd cnt era nws), (wMain g x tpa (a 0) da pa qa rua wa sa bka taped told)] 44 [(0, .ref x), (1, .int (iI t)), (2, .int (iI l)), (3, .int (iI i))] [.int (iI r_41)]
        have hsr : -1 ≤ r_41 ∧ r_41 ≤ 600 := by rcases h41_0 with z | z <;> have := hln t c25.1 c25.2 <;> omega
        refine r_istore 46 hE [(4, .int (iI r_41)), (0, .ref x), (1, .int (iI t)), (2, .int (iI l)), (3, .int (iI i))] dX8_select_44 rfl (by decide) rfl ?_
        refine r_iload 48 hE 0 dX8_select_46 rfl rfl ?_
        refine r_iconst 49 hE dX8_select_48 rfl ?_
        refine r_icmp_ne 52 60 hE dX8_select_49 rfl (by decide) (by omega) (fun c49 => ?_) (fun c49 => ?_)
        · skip
          refine r_aload_n 61 hE 1 dX8_select_60 rfl rfl rfl ?_
          refine r_iload 63 hE 0 dX8_select_61 rfl rfl ?_
          refine r_callV 66 hE [1] [0] [(wMain g x tpa (a 0) da pa qa rua wa sa bka taped told)] [(wShelf g a L ln tp rd cnt era nws)] 0 8 ok8 [] (c_X8_answer) dX8_select_63 rfl rfl wd_739 wd_741 ws_33 wd_1 wd_742 ne_X8 np_X8_answer (Nat.le_of_ble_eq_true rfl)  (by decide) (by decide) rfl (Nat.le_of_ble_eq_true rfl) rfl rfl rfl rfl (by decide) rfl (fun v1 f1 hp => ?_)
          obtain ⟨rfl, rfl⟩ := hp
          show G g E _ _ _ [(wMain g x tpa (a 0) da pa qa rua wa sa bka taped 0), (wShelf g a L ln tp rd cnt era nws)] 66 [(4, .int (iI r_41)), (0, .ref x), (1, .int (iI t)), (2, .int (iI l)), (3, .int (iI i))] [.int (iI r_41)]
          refine r_ireturn hE hR [(wMain g x tpa (a 0) da pa qa rua wa sa bka taped 0), (wShelf g a L ln tp rd cnt era nws)] dX8_select_66 (Nat.le_of_ble_eq_true rfl) (Nat.le_of_ble_eq_true rfl) rfl ?_
          first
            | exact ⟨_, _, rfl, rfl, Or.inr (Or.inr ⟨by omega, c25, by rw [← c49]; exact h41_0, by rw [if_pos rfl]⟩)⟩
            | exact ⟨_, _, rfl, rfl, Or.inr (Or.inr ⟨by omega, c25, h41_0, by rw [if_neg c49]⟩)⟩
        · skip
          refine r_aload_n 53 hE 1 dX8_select_52 rfl rfl rfl ?_
          refine r_iconst 54 hE dX8_select_53 rfl ?_
          refine r_callV 57 hE [1] [0] [(wMain g x tpa (a 0) da pa qa rua wa sa bka taped told)] [(wShelf g a L ln tp rd cnt era nws)] 0 8 ok8 [] (c_X8_refuse) dX8_select_54 rfl rfl wd_347 wd_349 ws_1 wd_1 wd_350 ne_X8 np_X8_refuse (Nat.le_of_ble_eq_true rfl)  (by decide) (by decide) rfl (Nat.le_of_ble_eq_true rfl) rfl rfl rfl rfl (by decide) rfl (fun v1 f1 hp => ?_)
          obtain ⟨rfl, rfl⟩ := hp
          show G g E _ _ _ [(wMain g x tpa (a 0) da pa qa rua wa sa bka taped 5), (wShelf g a L ln tp rd cnt era nws)] 57 [(4, .int (iI r_41)), (0, .ref x), (1, .int (iI t)), (2, .int (iI l)), (3, .int (iI i))] [.int (iI (-1))]
          refine r_goto 66 hE dX8_select_57 (by decide) ?_
          refine r_ireturn hE hR [(wMain g x tpa (a 0) da pa qa rua wa sa bka taped 5), (wShelf g a L ln tp rd cnt era nws)] dX8_select_66 (Nat.le_of_ble_eq_true rfl) (Nat.le_of_ble_eq_true rfl) rfl ?_
          first
            | exact ⟨_, _, rfl, rfl, Or.inr (Or.inr ⟨by omega, c25, by rw [← c49]; exact h41_0, by rw [if_pos rfl]⟩)⟩
            | exact ⟨_, _, rfl, rfl, Or.inr (Or.inr ⟨by omega, c25, h41_0, by rw [if_neg c49]⟩)⟩
      · skip
        have c25 := bI0 c25
        refine r_aload_n 29 hE 0 dX8_select_28 rfl rfl rfl ?_
        refine r_iconst 30 hE dX8_select_29 rfl ?_
        refine r_callV 33 hE [1] [0] [(wMain g x tpa (a 0) da pa qa rua wa sa bka taped told)] [(wShelf g a L ln tp rd cnt era nws)] 0 8 ok8 [] (c_X8_refuse) dX8_select_30 rfl rfl wd_347 wd_349 ws_1 wd_1 wd_350 ne_X8 np_X8_refuse (Nat.le_of_ble_eq_true rfl)  (by decide) (by decide) rfl (Nat.le_of_ble_eq_true rfl) rfl rfl rfl rfl (by decide) rfl (fun v1 f1 hp => ?_)
        obtain ⟨rfl, rfl⟩ := hp
        show G g E _ _ _ [(wMain g x tpa (a 0) da pa qa rua wa sa bka taped 2), (wShelf g a L ln tp rd cnt era nws)] 33 [(0, .ref x), (1, .int (iI t)), (2, .int (iI l)), (3, .int (iI i))] [.int (iI (-1))]
        refine r_ireturn hE hR [(wMain g x tpa (a 0) da pa qa rua wa sa bka taped 2), (wShelf g a L ln tp rd cnt era nws)] dX8_select_33 (Nat.le_of_ble_eq_true rfl) (Nat.le_of_ble_eq_true rfl) rfl ?_
        exact ⟨_, _, rfl, rfl, Or.inr (Or.inl ⟨by omega, c25, rfl, rfl⟩)⟩
    · skip
      refine r_aload_n 12 hE 0 dX8_select_11 rfl rfl rfl ?_
      refine r_iconst 13 hE dX8_select_12 rfl ?_
      refine r_callV 16 hE [0] [1] [(wMain g x tpa (a 0) da pa qa rua wa sa bka taped told)] [(wShelf g a L ln tp rd cnt era nws)] 0 8 ok8 [] (c_X8_refuse) dX8_select_13 rfl rfl wd_347 wd_349 ws_1 wd_1 wd_350 ne_X8 np_X8_refuse (Nat.le_of_ble_eq_true rfl)  (by decide) (by decide) rfl (Nat.le_of_ble_eq_true rfl) rfl rfl rfl rfl (by decide) rfl (fun v1 f1 hp => ?_)
      obtain ⟨rfl, rfl⟩ := hp
      show G g E _ _ _ [(wMain g x tpa (a 0) da pa qa rua wa sa bka taped 1), (wShelf g a L ln tp rd cnt era nws)] 16 [(0, .ref x), (1, .int (iI t)), (2, .int (iI l)), (3, .int (iI i))] [.int (iI (-1))]
      refine r_ireturn hE hR [(wMain g x tpa (a 0) da pa qa rua wa sa bka taped 1), (wShelf g a L ln tp rd cnt era nws)] dX8_select_16 (Nat.le_of_ble_eq_true rfl) (Nat.le_of_ble_eq_true rfl) rfl ?_
      exact ⟨_, _, rfl, rfl, Or.inl ⟨by omega, rfl, rfl⟩⟩
set_option maxHeartbeats 4000000 in
set_option maxRecDepth 100000 in
theorem c_X8_mirror {g : Gm} {a : Nat → Nat} {L ln tp rd : Int → Int} {cnt era nws : Int} {x tpa da pa qa rua wa sa bka : Nat} {taped told : Int} {t p e : Int} (hsh : ShOk L ln cnt) (ht : -2147483648 ≤ t ∧ t ≤ 2147483647) (hp : -2147483648 ≤ p ∧ p ≤ 2147483647) (he : 0 ≤ e ∧ e ≤ 1) : Ct g 3 0 0 yX8_mirror cX8_mirror 5 (some .int) [.ref x, .int (iI t), .int (iI p), .int (iI e)] [(wMain g x tpa (a 0) da pa qa rua wa sa bka taped told), (wShelf g a L ln tp rd cnt era nws)] (fun v_ w_ => ∃ r9 : Int, ∃ s9 : Int, v_ = some (.int (iI r9)) ∧ w_ = [(wMain g x tpa (a 0) da pa qa rua wa sa bka taped s9), (wShelf g a L ln tp rd cnt era nws)] ∧ (QMirror (tx L) ln cnt t p e r9 s9)) := by
  refine Ct.of (by decide) (Nat.le_of_ble_eq_true rfl) (lv := [(0, .ref x), (1, .int (iI t)), (2, .int (iI p)), (3, .int (iI e))]) rfl ?_
  intro E hE hR hnm
  have hc := hsh.1
  have hln := hsh.ln
  have hB := hsh.2.1
  refine r_aload_n 1 hE 0 dX8_mirror_0 rfl rfl rfl ?_
  refine r_iload_n 2 hE 1 dX8_mirror_1 rfl rfl rfl ?_
  refine r_iload_n 3 hE 2 dX8_mirror_2 rfl rfl rfl ?_
  refine r_iconst 4 hE dX8_mirror_3 rfl ?_
  refine r_callV 7 hE [0, 1] [] [(wMain g x tpa (a 0) da pa qa rua wa sa bka taped told), (wShelf g a L ln tp rd cnt era nws)] [] 0 8 ok8 [] (c_X8_wrongPlace (by omega) (hln) (by omega) (by omega) (by omega)) dX8_mirror_4 rfl rfl wd_814 wd_816 ws_38 wd_1 wd_817 ne_X8 np_X8_wrongPlace (Nat.le_of_ble_eq_true rfl)  (by decide) (by decide) rfl (Nat.le_of_ble_eq_true rfl) rfl rfl rfl rfl (by decide) rfl (fun v1 f1 hp => ?_)
  obtain ⟨rfl, rfl⟩ := hp
  show G g E _ _ _ [(wMain g x tpa (a 0) da pa qa rua wa sa bka taped told), (wShelf g a L ln tp rd cnt era nws)] 7 [(0, .ref x), (1, .int (iI t)), (2, .int (iI p)), (3, .int (iI e))] [.int (iI (wpF ln cnt t p 0))]
  have hw := wpF_rg ln cnt t p 0
  refine r_istore 9 hE [(4, .int (iI (wpF ln cnt t p 0))), (0, .ref x), (1, .int (iI t)), (2, .int (iI p)), (3, .int (iI e))] dX8_mirror_7 rfl (by decide) rfl ?_
  refine r_iload 11 hE 0 dX8_mirror_9 rfl rfl ?_
  refine r_if_eq 14 21 hE dX8_mirror_11 rfl (by decide) (by omega) (fun c11 => ?_) (fun c11 => ?_)
  · skip
    have hk := wpF_ok c11
    have hLt := (hsh.2.2 t hk.2.1.1 hk.2.1.2).2
    refine r_iload_n 22 hE 4 dX8_mirror_21 rfl rfl rfl ?_
    refine r_if_eq 25 44 hE dX8_mirror_22 rfl (by decide) (by omega) (fun c22 => ?_) (fun c22 => ?_)
    · skip
      refine r_aload_n 45 hE 1 dX8_mirror_44 rfl rfl rfl ?_
      refine r_iconst 46 hE dX8_mirror_45 rfl ?_
      refine r_aload_n 47 hE 1 dX8_mirror_46 rfl rfl rfl ?_
      refine r_get 50 hE 0 0 ok8 4 dX8_mirror_47 rfl wd_301 rfl rfl (by decide) rfl ?_
      refine r_iload_n 51 hE 2 dX8_mirror_50 rfl rfl rfl ?_
      refine r_iload_n 52 hE 3 dX8_mirror_51 rfl rfl rfl ?_
      refine r_iconst 53 hE dX8_mirror_52 rfl ?_
      refine r_isub 54 hE (p - 1) dX8_mirror_53 rfl rfl ?_
      refine r_iload_n 55 hE 3 dX8_mirror_54 rfl rfl rfl ?_
      refine r_iconst 56 hE dX8_mirror_55 rfl ?_
      refine r_iadd 57 hE (p + 1) dX8_mirror_56 rfl rfl ?_
      refine r_callV 60 hE [1] [0] [(wShelf g a L ln tp rd cnt era nws)] [(wMain g x tpa (a 0) da pa qa rua wa sa bka taped told)] 0 5 ok5 [.int (iI 2), .ref x] (c_X5_mirrored (by omega) (by omega) (hln) (hB) (fun k a b => (hLt k a b).1) (by omega) (by omega)) dX8_mirror_57 rfl rfl wd_1015 wd_1016 wd_1017 wd_4 wd_1018 ne_X5 np_X5_mirrored (Nat.le_of_ble_eq_true rfl)  (by decide) (by decide) rfl (Nat.le_of_ble_eq_true rfl) rfl rfl rfl rfl (by decide) rfl (fun v1 f1 hp => ?_)
      obtain ⟨far_57, rfl, rfl, h57_0⟩ := hp
      show G g E _ _ _ [(wShelf g a L ln tp rd cnt era nws), (wMain g x tpa (a 0) da pa qa rua wa sa bka taped told)] 60 [(4, .int (iI (wpF ln cnt t p 0))), (0, .ref x), (1, .int (iI t)), (2, .int (iI p)), (3, .int (iI e))] [.int (iI far_57), .int (iI 2), .ref x]
      refine r_imul 61 hE (2 * far_57) dX8_mirror_60 rfl rfl ?_
      refine r_iconst 62 hE dX8_mirror_61 rfl ?_
      refine r_iadd 63 hE ((2 * far_57) + 1) dX8_mirror_62 rfl rfl ?_
      refine r_callV 66 hE [1] [0] [(wMain g x tpa (a 0) da pa qa rua wa sa bka taped told)] [(wShelf g a L ln tp rd cnt era nws)] 0 8 ok8 [] (c_X8_answer) dX8_mirror_63 rfl rfl wd_739 wd_741 ws_33 wd_1 wd_742 ne_X8 np_X8_answer (Nat.le_of_ble_eq_true rfl)  (by decide) (by decide) rfl (Nat.le_of_ble_eq_true rfl) rfl rfl rfl rfl (by decide) rfl (fun v1 f1 hp => ?_)
      obtain ⟨rfl, rfl⟩ := hp
      show G g E _ _ _ [(wMain g x tpa (a 0) da pa qa rua wa sa bka taped 0), (wShelf g a L ln tp rd cnt era nws)] 66 [(4, .int (iI (wpF ln cnt t p 0))), (0, .ref x), (1, .int (iI t)), (2, .int (iI p)), (3, .int (iI e))] [.int (iI ((2 * far_57) + 1))]
      refine r_ireturn hE hR [(wMain g x tpa (a 0) da pa qa rua wa sa bka taped 0), (wShelf g a L ln tp rd cnt era nws)] dX8_mirror_66 (Nat.le_of_ble_eq_true rfl) (Nat.le_of_ble_eq_true rfl) rfl ?_
      exact ⟨_, _, rfl, rfl, c11.symm, Or.inl ⟨rfl, _, by rw [if_pos c22]; exact h57_0, by rw [if_pos c22]⟩⟩
    · skip
      refine r_aload_n 26 hE 1 dX8_mirror_25 rfl rfl rfl ?_
      refine r_iconst 27 hE dX8_mirror_26 rfl ?_
      refine r_aload_n 28 hE 1 dX8_mirror_27 rfl rfl rfl ?_
      refine r_get 31 hE 0 0 ok8 4 dX8_mirror_28 rfl wd_301 rfl rfl (by decide) rfl ?_
      refine r_iload_n 32 hE 2 dX8_mirror_31 rfl rfl rfl ?_
      refine r_iload_n 33 hE 3 dX8_mirror_32 rfl rfl rfl ?_
      refine r_iconst 34 hE dX8_mirror_33 rfl ?_
      refine r_isub 35 hE (p - 1) dX8_mirror_34 rfl rfl ?_
      refine r_iload_n 36 hE 3 dX8_mirror_35 rfl rfl rfl ?_
      refine r_callV 39 hE [1] [0] [(wShelf g a L ln tp rd cnt era nws)] [(wMain g x tpa (a 0) da pa qa rua wa sa bka taped told)] 0 5 ok5 [.int (iI 2), .ref x] (c_X5_mirrored (by omega) (by omega) (hln) (hB) (fun k a b => (hLt k a b).1) (by omega) (by omega)) dX8_mirror_36 rfl rfl wd_1015 wd_1016 wd_1017 wd_4 wd_1018 ne_X5 np_X5_mirrored (Nat.le_of_ble_eq_true rfl)  (by decide) (by decide) rfl (Nat.le_of_ble_eq_true rfl) rfl rfl rfl rfl (by decide) rfl (fun v1 f1 hp => ?_)
      obtain ⟨far_36, rfl, rfl, h36_0⟩ := hp
      show G g E _ _ _ [(wShelf g a L ln tp rd cnt era nws), (wMain g x tpa (a 0) da pa qa rua wa sa bka taped told)] 39 [(4, .int (iI (wpF ln cnt t p 0))), (0, .ref x), (1, .int (iI t)), (2, .int (iI p)), (3, .int (iI e))] [.int (iI far_36), .int (iI 2), .ref x]
      refine r_imul 40 hE (2 * far_36) dX8_mirror_39 rfl rfl ?_
      refine r_callV 43 hE [1] [0] [(wMain g x tpa (a 0) da pa qa rua wa sa bka taped told)] [(wShelf g a L ln tp rd cnt era nws)] 0 8 ok8 [] (c_X8_answer) dX8_mirror_40 rfl rfl wd_739 wd_741 ws_33 wd_1 wd_742 ne_X8 np_X8_answer (Nat.le_of_ble_eq_true rfl)  (by decide) (by decide) rfl (Nat.le_of_ble_eq_true rfl) rfl rfl rfl rfl (by decide) rfl (fun v1 f1 hp => ?_)
      obtain ⟨rfl, rfl⟩ := hp
      show G g E _ _ _ [(wMain g x tpa (a 0) da pa qa rua wa sa bka taped 0), (wShelf g a L ln tp rd cnt era nws)] 43 [(4, .int (iI (wpF ln cnt t p 0))), (0, .ref x), (1, .int (iI t)), (2, .int (iI p)), (3, .int (iI e))] [.int (iI (2 * far_36))]
      refine r_ireturn hE hR [(wMain g x tpa (a 0) da pa qa rua wa sa bka taped 0), (wShelf g a L ln tp rd cnt era nws)] dX8_mirror_43 (Nat.le_of_ble_eq_true rfl) (Nat.le_of_ble_eq_true rfl) rfl ?_
      exact ⟨_, _, rfl, rfl, c11.symm, Or.inl ⟨rfl, _, by rw [if_neg c22]; exact h36_0, by rw [if_neg c22]; omega⟩⟩
  · skip
    refine r_aload_n 15 hE 1 dX8_mirror_14 rfl rfl rfl ?_
    refine r_iload 17 hE 0 dX8_mirror_15 rfl rfl ?_
    refine r_callV 20 hE [0] [1] [(wMain g x tpa (a 0) da pa qa rua wa sa bka taped told)] [(wShelf g a L ln tp rd cnt era nws)] 0 8 ok8 [] (c_X8_refuse) dX8_mirror_17 rfl rfl wd_347 wd_349 ws_1 wd_1 wd_350 ne_X8 np_X8_refuse (Nat.le_of_ble_eq_true rfl)  (by decide) (by decide) rfl (Nat.le_of_ble_eq_true rfl) rfl rfl rfl rfl (by decide) rfl (fun v1 f1 hp => ?_)
    obtain ⟨rfl, rfl⟩ := hp
    show G g E _ _ _ [(wMain g x tpa (a 0) da pa qa rua wa sa bka taped (wpF ln cnt t p 0)), (wShelf g a L ln tp rd cnt era nws)] 20 [(4, .int (iI (wpF ln cnt t p 0))), (0, .ref x), (1, .int (iI t)), (2, .int (iI p)), (3, .int (iI e))] [.int (iI (-1))]
    refine r_ireturn hE hR [(wMain g x tpa (a 0) da pa qa rua wa sa bka taped (wpF ln cnt t p 0)), (wShelf g a L ln tp rd cnt era nws)] dX8_mirror_20 (Nat.le_of_ble_eq_true rfl) (Nat.le_of_ble_eq_true rfl) rfl ?_
    exact ⟨_, _, rfl, rfl, rfl, Or.inr ⟨c11, rfl⟩⟩
set_option maxHeartbeats 4000000 in
set_option maxRecDepth 100000 in
theorem c_X8_find {g : Gm} {a : Nat → Nat} {L ln tp rd : Int → Int} {cnt era nws : Int} {s : Nat → Nat} {bo : Int → Int} {sl : Int} {x tpa da pa qa rua wa bka : Nat} {taped told : Int} {t u fr : Int} (hsh : ShOk L ln cnt) (ht : -2147483648 ≤ t ∧ t ≤ 2147483647) (hu : -2147483648 ≤ u ∧ u ≤ 2147483647) (hfr : -2147483648 ≤ fr ∧ fr ≤ 2147483647) : Ct g 5 0 0 yX8_find cX8_find 5 (some .int) [.ref x, .int (iI t), .int (iI u), .int (iI fr)] [(wMain g x tpa (a 0) da pa qa rua wa (s 0) bka taped told), (wShelf g a L ln tp rd cnt era nws), (wSearch g s bo sl)] (fun v_ w_ => ∃ r9 : Int, ∃ s9 : Int, ∃ bo9 : Int → Int, ∃ sl9 : Int, v_ = some (.int (iI r9)) ∧ w_ = [(wMain g x tpa (a 0) da pa qa rua wa (s 0) bka taped s9), (wShelf g a L ln tp rd cnt era nws), (wSearch g s bo9 sl9)] ∧ (QFind (tx L) ln cnt t u fr r9 s9)) := by
  refine Ct.of (by decide) (Nat.le_of_ble_eq_true rfl) (lv := [(0, .ref x), (1, .int (iI t)), (2, .int (iI u)), (3, .int (iI fr))]) rfl ?_
  intro E hE hR hnm
  have hc := hsh.1
  have hln := hsh.ln
  have hB := hsh.2.1
  refine r_iload_n 1 hE 3 dX8_find_0 rfl rfl rfl ?_
  refine r_if_ge 4 10 hE dX8_find_1 rfl (by decide) (by omega) (fun c1 => ?_) (fun c1 => ?_)
  · skip
    refine r_aload_n 11 hE 0 dX8_find_10 rfl rfl rfl ?_
    refine r_get 14 hE 0 0 ok8 4 dX8_find_11 rfl wd_301 rfl rfl (by decide) rfl ?_
    refine r_iload_n 15 hE 1 dX8_find_14 rfl rfl rfl ?_
    refine r_callV 18 hE [1] [0, 2] [(wShelf g a L ln tp rd cnt era nws)] [(wMain g x tpa (a 0) da pa qa rua wa (s 0) bka taped told), (wSearch g s bo sl)] 0 5 ok5 [] (c_X5_has (by omega) (by omega)) dX8_find_15 rfl rfl wd_764 wd_578 wd_579 wd_4 wd_580 ne_X5 np_X5_has (Nat.le_of_ble_eq_true rfl)  (by decide) (by decide) rfl (Nat.le_of_ble_eq_true rfl) rfl rfl rfl rfl (by decide) rfl (fun v1 f1 hp => ?_)
    obtain ⟨rfl, rfl⟩ := hp
    show G g E _ _ _ [(wShelf g a L ln tp rd cnt era nws), (wMain g x tpa (a 0) da pa qa rua wa (s 0) bka taped told), (wSearch g s bo sl)] 18 [(0, .ref x), (1, .int (iI t)), (2, .int (iI u)), (3, .int (iI fr))] [.int (iI (bI (0 ≤ t ∧ t < cnt)))]
    refine r_if_eq 21 32 hE dX8_find_18 rfl (by decide) (bI_rg _) (fun c18 => ?_) (fun c18 => ?_)
    · skip
      have c18 := bI0 c18
      refine r_aload_n 33 hE 0 dX8_find_32 rfl rfl rfl ?_
      refine r_iconst 34 hE dX8_find_33 rfl ?_
      refine r_callV 37 hE [1] [0, 2] [(wMain g x tpa (a 0) da pa qa rua wa (s 0) bka taped told)] [(wShelf g a L ln tp rd cnt era nws), (wSearch g s bo sl)] 0 8 ok8 [] (c_X8_refuse) dX8_find_34 rfl rfl wd_347 wd_349 ws_1 wd_1 wd_350 ne_X8 np_X8_refuse (Nat.le_of_ble_eq_true rfl)  (by decide) (by decide) rfl (Nat.le_of_ble_eq_true rfl) rfl rfl rfl rfl (by decide) rfl (fun v1 f1 hp => ?_)
      obtain ⟨rfl, rfl⟩ := hp
      show G g E _ _ _ [(wMain g x tpa (a 0) da pa qa rua wa (s 0) bka taped 2), (wShelf g a L ln tp rd cnt era nws), (wSearch g s bo sl)] 37 [(0, .ref x), (1, .int (iI t)), (2, .int (iI u)), (3, .int (iI fr))] [.int (iI (-1))]
      refine r_ireturn hE hR [(wMain g x tpa (a 0) da pa qa rua wa (s 0) bka taped 2), (wShelf g a L ln tp rd cnt era nws), (wSearch g s bo sl)] dX8_find_37 (Nat.le_of_ble_eq_true rfl) (Nat.le_of_ble_eq_true rfl) rfl ?_
      exact ⟨_, _, _, _, rfl, rfl, Or.inr (Or.inl ⟨by omega, by unfold HasT; omega, rfl, rfl⟩)⟩
    · skip
      have c18 := bI1 c18
      refine r_aload_n 22 hE 0 dX8_find_21 rfl rfl rfl ?_
      refine r_get 25 hE 1 0 ok8 4 dX8_find_22 rfl wd_301 rfl rfl (by decide) rfl ?_
      refine r_iload_n 26 hE 2 dX8_find_25 rfl rfl rfl ?_
      refine r_callV 29 hE [0] [1, 2] [(wShelf g a L ln tp rd cnt era nws)] [(wMain g x tpa (a 0) da pa qa rua wa (s 0) bka taped told), (wSearch g s bo sl)] 0 5 ok5 [] (c_X5_has (by omega) (by omega)) dX8_find_26 rfl rfl wd_764 wd_578 wd_579 wd_4 wd_580 ne_X5 np_X5_has (Nat.le_of_ble_eq_true rfl)  (by decide) (by decide) rfl (Nat.le_of_ble_eq_true rfl) rfl rfl rfl rfl (by decide) rfl (fun v1 f1 hp => ?_)
      obtain ⟨rfl, rfl⟩ := hp
      show G g E _ _ _ [(wShelf g a L ln tp rd cnt era nws), (wMain g x tpa (a 0) da pa qa rua wa (s 0) bka taped told), (wSearch g s bo sl)] 29 [(0, .ref x), (1, .int (iI t)), (2, .int (iI u)), (3, .int (iI fr))] [.int (iI (bI (0 ≤ u ∧ u < cnt)))]
      refine r_if_ne 32 38 hE dX8_find_29 rfl (by decide) (bI_rg _) (fun c29 => ?_) (fun c29 => ?_)
      · skip
        have c29 := bI1 c29
        refine r_aload_n 39 hE 0 dX8_find_38 rfl rfl rfl ?_
        refine r_get 42 hE 1 0 ok8 10 dX8_find_39 rfl wd_307 rfl rfl (by decide) rfl ?_
        refine r_aload_n 43 hE 0 dX8_find_42 rfl rfl rfl ?_
        refine r_get 46 hE 1 0 ok8 4 dX8_find_43 rfl wd_301 rfl rfl (by decide) rfl ?_
        refine r_iload_n 47 hE 1 dX8_find_46 rfl rfl rfl ?_
        refine r_iload_n 48 hE 2 dX8_find_47 rfl rfl rfl ?_
        refine r_iload_n 49 hE 3 dX8_find_48 rfl rfl rfl ?_
        refine r_callV 52 hE [2, 0] [1] [(wSearch g s bo sl), (wShelf g a L ln tp rd cnt era nws)] [(wMain g x tpa (a 0) da pa qa rua wa (s 0) bka taped told)] 0 4 ok4 [] (c_X4_firstFrom (by omega) (by omega) (by omega) (hln) (hB) (fun k a b => ((hsh.2.2 u c29.1 c29.2).2 k a b).1) (fun k a b => ((hsh.2.2 t c18.1 c18.2).2 k a b).1) ((hsh.2.2 u c29.1 c29.2).1.1) (by omega)) dX8_find_49 rfl rfl wd_999 wd_1000 wd_1001 wd_11 wd_1002 ne_X4 np_X4_firstFrom (Nat.le_of_ble_eq_true rfl)  (by decide) (by decide) rfl (Nat.le_of_ble_eq_true rfl) rfl rfl rfl rfl (by decide) rfl (fun v1 f1 hp => ?_)
        obtain ⟨bo9_49, r_49, rfl, rfl, h49_0⟩ := hp
        show G g E _ _ _ [(wSearch g s bo9_49 (ln u)), (wShelf g a L ln tp rd cnt era nws), (wMain g x tpa (a 0) da pa qa rua wa (s 0) bka taped told)] 52 [(0, .ref x), (1, .int (iI t)), (2, .int (iI u)), (3, .int (iI fr))] [.int (iI r_49)]
        have hsr : -1 ≤ r_49 ∧ r_49 ≤ 600 := by rcases h49_0 with z | z <;> have := hln t c18.1 c18.2 <;> have := hln u c29.1 c29.2 <;> omega
        refine r_istore 54 hE [(4, .int (iI r_49)), (0, .ref x), (1, .int (iI t)), (2, .int (iI u)), (3, .int (iI fr))] dX8_find_52 rfl (by decide) rfl ?_
        refine r_iload 56 hE 0 dX8_find_54 rfl rfl ?_
        refine r_iconst 57 hE dX8_find_56 rfl ?_
        refine r_icmp_ne 60 68 hE dX8_find_57 rfl (by decide) (by omega) (fun c57 => ?_) (fun c57 => ?_)
        · skip
          refine r_aload_n 69 hE 1 dX8_find_68 rfl rfl rfl ?_
          refine r_iload 71 hE 0 dX8_find_69 rfl rfl ?_
          refine r_callV 74 hE [2] [0, 1] [(wMain g x tpa (a 0) da pa qa rua wa (s 0) bka taped told)] [(wSearch g s bo9_49 (ln u)), (wShelf g a L ln tp rd cnt era nws)] 0 8 ok8 [] (c_X8_answer) dX8_find_71 rfl rfl wd_739 wd_741 ws_33 wd_1 wd_742 ne_X8 np_X8_answer (Nat.le_of_ble_eq_true rfl)  (by decide) (by decide) rfl (Nat.le_of_ble_eq_true rfl) rfl rfl rfl rfl (by decide) rfl (fun v1 f1 hp => ?_)
          obtain ⟨rfl, rfl⟩ := hp
          show G g E _ _ _ [(wMain g x tpa (a 0) da pa qa rua wa (s 0) bka taped 0), (wSearch g s bo9_49 (ln u)), (wShelf g a L ln tp rd cnt era nws)] 74 [(4, .int (iI r_49)), (0, .ref x), (1, .int (iI t)), (2, .int (iI u)), (3, .int (iI fr))] [.int (iI r_49)]
          refine G.to (fs' := [(wMain g x tpa (a 0) da pa qa rua wa (s 0) bka taped 0), (wShelf g a L ln tp rd cnt era nws), (wSearch g s bo9_49 (ln u))]) [0, 2, 1] [0, 1, 2, 3, 4] rfl rfl rfl ?_
          refine r_ireturn hE hR [(wMain g x tpa (a 0) da pa qa rua wa (s 0) bka taped 0), (wShelf g a L ln tp rd cnt era nws), (wSearch g s bo9_49 (ln u))] dX8_find_74 (Nat.le_of_ble_eq_true rfl) (Nat.le_of_ble_eq_true rfl) rfl ?_
          first
            | exact ⟨_, _, _, _, rfl, rfl, Or.inr (Or.inr ⟨by omega, ⟨c18, c29⟩, by rw [← c57]; exact h49_0, by rw [if_pos rfl]⟩)⟩
            | exact ⟨_, _, _, _, rfl, rfl, Or.inr (Or.inr ⟨by omega, ⟨c18, c29⟩, h49_0, by rw [if_neg c57]⟩)⟩
        · skip
          refine r_aload_n 61 hE 1 dX8_find_60 rfl rfl rfl ?_
          refine r_iconst 62 hE dX8_find_61 rfl ?_
          refine r_callV 65 hE [2] [0, 1] [(wMain g x tpa (a 0) da pa qa rua wa (s 0) bka taped told)] [(wSearch g s bo9_49 (ln u)), (wShelf g a L ln tp rd cnt era nws)] 0 8 ok8 [] (c_X8_refuse) dX8_find_62 rfl rfl wd_347 wd_349 ws_1 wd_1 wd_350 ne_X8 np_X8_refuse (Nat.le_of_ble_eq_true rfl)  (by decide) (by decide) rfl (Nat.le_of_ble_eq_true rfl) rfl rfl rfl rfl (by decide) rfl (fun v1 f1 hp => ?_)
          obtain ⟨rfl, rfl⟩ := hp
          show G g E _ _ _ [(wMain g x tpa (a 0) da pa qa rua wa (s 0) bka taped 5), (wSearch g s bo9_49 (ln u)), (wShelf g a L ln tp rd cnt era nws)] 65 [(4, .int (iI r_49)), (0, .ref x), (1, .int (iI t)), (2, .int (iI u)), (3, .int (iI fr))] [.int (iI (-1))]
          refine r_goto 74 hE dX8_find_65 (by decide) ?_
          refine G.to (fs' := [(wMain g x tpa (a 0) da pa qa rua wa (s 0) bka taped 5), (wShelf g a L ln tp rd cnt era nws), (wSearch g s bo9_49 (ln u))]) [0, 2, 1] [0, 1, 2, 3, 4] rfl rfl rfl ?_
          refine r_ireturn hE hR [(wMain g x tpa (a 0) da pa qa rua wa (s 0) bka taped 5), (wShelf g a L ln tp rd cnt era nws), (wSearch g s bo9_49 (ln u))] dX8_find_74 (Nat.le_of_ble_eq_true rfl) (Nat.le_of_ble_eq_true rfl) rfl ?_
          first
            | exact ⟨_, _, _, _, rfl, rfl, Or.inr (Or.inr ⟨by omega, ⟨c18, c29⟩, by rw [← c57]; exact h49_0, by rw [if_pos rfl]⟩)⟩
            | exact ⟨_, _, _, _, rfl, rfl, Or.inr (Or.inr ⟨by omega, ⟨c18, c29⟩, h49_0, by rw [if_neg c57]⟩)⟩
      · skip
        have c29 := bI0 c29
        refine r_aload_n 33 hE 0 dX8_find_32 rfl rfl rfl ?_
        refine r_iconst 34 hE dX8_find_33 rfl ?_
        refine r_callV 37 hE [1] [0, 2] [(wMain g x tpa (a 0) da pa qa rua wa (s 0) bka taped told)] [(wShelf g a L ln tp rd cnt era nws), (wSearch g s bo sl)] 0 8 ok8 [] (c_X8_refuse) dX8_find_34 rfl rfl wd_347 wd_349 ws_1 wd_1 wd_350 ne_X8 np_X8_refuse (Nat.le_of_ble_eq_true rfl)  (by decide) (by decide) rfl (Nat.le_of_ble_eq_true rfl) rfl rfl rfl rfl (by decide) rfl (fun v1 f1 hp => ?_)
        obtain ⟨rfl, rfl⟩ := hp
        show G g E _ _ _ [(wMain g x tpa (a 0) da pa qa rua wa (s 0) bka taped 2), (wShelf g a L ln tp rd cnt era nws), (wSearch g s bo sl)] 37 [(0, .ref x), (1, .int (iI t)), (2, .int (iI u)), (3, .int (iI fr))] [.int (iI (-1))]
        refine r_ireturn hE hR [(wMain g x tpa (a 0) da pa qa rua wa (s 0) bka taped 2), (wShelf g a L ln tp rd cnt era nws), (wSearch g s bo sl)] dX8_find_37 (Nat.le_of_ble_eq_true rfl) (Nat.le_of_ble_eq_true rfl) rfl ?_
        exact ⟨_, _, _, _, rfl, rfl, Or.inr (Or.inl ⟨by omega, by unfold HasT; omega, rfl, rfl⟩)⟩
  · skip
    refine r_aload_n 5 hE 0 dX8_find_4 rfl rfl rfl ?_
    refine r_iconst 6 hE dX8_find_5 rfl ?_
    refine r_callV 9 hE [0] [1, 2] [(wMain g x tpa (a 0) da pa qa rua wa (s 0) bka taped told)] [(wShelf g a L ln tp rd cnt era nws), (wSearch g s bo sl)] 0 8 ok8 [] (c_X8_refuse) dX8_find_6 rfl rfl wd_347 wd_349 ws_1 wd_1 wd_350 ne_X8 np_X8_refuse (Nat.le_of_ble_eq_true rfl)  (by decide) (by decide) rfl (Nat.le_of_ble_eq_true rfl) rfl rfl rfl rfl (by decide) rfl (fun v1 f1 hp => ?_)
    obtain ⟨rfl, rfl⟩ := hp
    show G g E _ _ _ [(wMain g x tpa (a 0) da pa qa rua wa (s 0) bka taped 1), (wShelf g a L ln tp rd cnt era nws), (wSearch g s bo sl)] 9 [(0, .ref x), (1, .int (iI t)), (2, .int (iI u)), (3, .int (iI fr))] [.int (iI (-1))]
    refine r_ireturn hE hR [(wMain g x tpa (a 0) da pa qa rua wa (s 0) bka taped 1), (wShelf g a L ln tp rd cnt era nws), (wSearch g s bo sl)] dX8_find_9 (Nat.le_of_ble_eq_true rfl) (Nat.le_of_ble_eq_true rfl) rfl ?_
    exact ⟨_, _, _, _, rfl, rfl, Or.inl ⟨c1, rfl, rfl⟩⟩
set_option maxHeartbeats 4000000 in
set_option maxRecDepth 100000 in
theorem c_X8_finds {g : Gm} {a : Nat → Nat} {L ln tp rd : Int → Int} {cnt era nws : Int} {s : Nat → Nat} {bo : Int → Int} {sl : Int} {x tpa da pa qa rua wa bka : Nat} {taped told : Int} {t u : Int} (hsh : ShOk L ln cnt) (ht : -2147483648 ≤ t ∧ t ≤ 2147483647) (hu : -2147483648 ≤ u ∧ u ≤ 2147483647) : Ct g 5 0 0 yX8_finds cX8_finds 3 (some .int) [.ref x, .int (iI t), .int (iI u)] [(wMain g x tpa (a 0) da pa qa rua wa (s 0) bka taped told), (wShelf g a L ln tp rd cnt era nws), (wSearch g s bo sl)] (fun v_ w_ => ∃ r9 : Int, ∃ s9 : Int, ∃ bo9 : Int → Int, ∃ sl9 : Int, v_ = some (.int (iI r9)) ∧ w_ = [(wMain g x tpa (a 0) da pa qa rua wa (s 0) bka taped s9), (wShelf g a L ln tp rd cnt era nws), (wSearch g s bo9 sl9)] ∧ (QFinds (tx L) ln cnt t u r9 s9)) := by
  refine Ct.of (by decide) (Nat.le_of_ble_eq_true rfl) (lv := [(0, .ref x), (1, .int (iI t)), (2, .int (iI u))]) rfl ?_
  intro E hE hR hnm
  have hc := hsh.1
  have hln := hsh.ln
  have hB := hsh.2.1
  refine r_aload_n 1 hE 0 dX8_finds_0 rfl rfl rfl ?_
  refine r_get 4 hE 0 0 ok8 4 dX8_finds_1 rfl wd_301 rfl rfl (by decide) rfl ?_
  refine r_iload_n 5 hE 1 dX8_finds_4 rfl rfl rfl ?_
  refine r_callV 8 hE [1] [0, 2] [(wShelf g a L ln tp rd cnt era nws)] [(wMain g x tpa (a 0) da pa qa rua wa (s 0) bka taped told), (wSearch g s bo sl)] 0 5 ok5 [] (c_X5_has (by omega) (by omega)) dX8_finds_5 rfl rfl wd_764 wd_578 wd_579 wd_4 wd_580 ne_X5 np_X5_has (Nat.le_of_ble_eq_true rfl)  (by decide) (by decide) rfl (Nat.le_of_ble_eq_true rfl) rfl rfl rfl rfl (by decide) rfl (fun v1 f1 hp => ?_)
  obtain ⟨rfl, rfl⟩ := hp
  show G g E _ _ _ [(wShelf g a L ln tp rd cnt era nws), (wMain g x tpa (a 0) da pa qa rua wa (s 0) bka taped told), (wSearch g s bo sl)] 8 [(0, .ref x), (1, .int (iI t)), (2, .int (iI u))] [.int (iI (bI (0 ≤ t ∧ t < cnt)))]
  refine r_if_eq 11 22 hE dX8_finds_8 rfl (by decide) (bI_rg _) (fun c8 => ?_) (fun c8 => ?_)
  · skip
    have c8 := bI0 c8
    refine r_aload_n 23 hE 0 dX8_finds_22 rfl rfl rfl ?_
    refine r_iconst 24 hE dX8_finds_23 rfl ?_
    refine r_callV 27 hE [1] [0, 2] [(wMain g x tpa (a 0) da pa qa rua wa (s 0) bka taped told)] [(wShelf g a L ln tp rd cnt era nws), (wSearch g s bo sl)] 0 8 ok8 [] (c_X8_refuse) dX8_finds_24 rfl rfl wd_347 wd_349 ws_1 wd_1 wd_350 ne_X8 np_X8_refuse (Nat.le_of_ble_eq_true rfl)  (by decide) (by decide) rfl (Nat.le_of_ble_eq_true rfl) rfl rfl rfl rfl (by decide) rfl (fun v1 f1 hp => ?_)
    obtain ⟨rfl, rfl⟩ := hp
    show G g E _ _ _ [(wMain g x tpa (a 0) da pa qa rua wa (s 0) bka taped 2), (wShelf g a L ln tp rd cnt era nws), (wSearch g s bo sl)] 27 [(0, .ref x), (1, .int (iI t)), (2, .int (iI u))] [.int (iI (-1))]
    refine r_ireturn hE hR [(wMain g x tpa (a 0) da pa qa rua wa (s 0) bka taped 2), (wShelf g a L ln tp rd cnt era nws), (wSearch g s bo sl)] dX8_finds_27 (Nat.le_of_ble_eq_true rfl) (Nat.le_of_ble_eq_true rfl) rfl ?_
    exact ⟨_, _, _, _, rfl, rfl, Or.inl ⟨by unfold HasT; omega, rfl, rfl⟩⟩
  · skip
    have c8 := bI1 c8
    refine r_aload_n 12 hE 0 dX8_finds_11 rfl rfl rfl ?_
    refine r_get 15 hE 1 0 ok8 4 dX8_finds_12 rfl wd_301 rfl rfl (by decide) rfl ?_
    refine r_iload_n 16 hE 2 dX8_finds_15 rfl rfl rfl ?_
    refine r_callV 19 hE [0] [1, 2] [(wShelf g a L ln tp rd cnt era nws)] [(wMain g x tpa (a 0) da pa qa rua wa (s 0) bka taped told), (wSearch g s bo sl)] 0 5 ok5 [] (c_X5_has (by omega) (by omega)) dX8_finds_16 rfl rfl wd_764 wd_578 wd_579 wd_4 wd_580 ne_X5 np_X5_has (Nat.le_of_ble_eq_true rfl)  (by decide) (by decide) rfl (Nat.le_of_ble_eq_true rfl) rfl rfl rfl rfl (by decide) rfl (fun v1 f1 hp => ?_)
    obtain ⟨rfl, rfl⟩ := hp
    show G g E _ _ _ [(wShelf g a L ln tp rd cnt era nws), (wMain g x tpa (a 0) da pa qa rua wa (s 0) bka taped told), (wSearch g s bo sl)] 19 [(0, .ref x), (1, .int (iI t)), (2, .int (iI u))] [.int (iI (bI (0 ≤ u ∧ u < cnt)))]
    refine r_if_ne 22 28 hE dX8_finds_19 rfl (by decide) (bI_rg _) (fun c19 => ?_) (fun c19 => ?_)
    · skip
      have c19 := bI1 c19
      refine r_aload_n 29 hE 0 dX8_finds_28 rfl rfl rfl ?_
      refine r_aload_n 30 hE 0 dX8_finds_29 rfl rfl rfl ?_
      refine r_get 33 hE 1 0 ok8 10 dX8_finds_30 rfl wd_307 rfl rfl (by decide) rfl ?_
      refine r_aload_n 34 hE 0 dX8_finds_33 rfl rfl rfl ?_
      refine r_get 37 hE 1 0 ok8 4 dX8_finds_34 rfl wd_301 rfl rfl (by decide) rfl ?_
      refine r_iload_n 38 hE 1 dX8_finds_37 rfl rfl rfl ?_
      refine r_iload_n 39 hE 2 dX8_finds_38 rfl rfl rfl ?_
      refine r_callV 42 hE [2, 0] [1] [(wSearch g s bo sl), (wShelf g a L ln tp rd cnt era nws)] [(wMain g x tpa (a 0) da pa qa rua wa (s 0) bka taped told)] 0 4 ok4 [.ref x] (c_X4_countAll (by omega) (by omega) (by omega) (hln) (hB) (fun k a b => ((hsh.2.2 u c19.1 c19.2).2 k a b).1) (fun k a b => ((hsh.2.2 t c8.1 c8.2).2 k a b).1) ((hsh.2.2 u c19.1 c19.2).1.1)) dX8_finds_39 rfl rfl wd_1007 wd_1008 wd_1009 wd_11 wd_1010 ne_X4 np_X4_countAll (Nat.le_of_ble_eq_true rfl)  (by decide) (by decide) rfl (Nat.le_of_ble_eq_true rfl) rfl rfl rfl rfl (by decide) rfl (fun v1 f1 hp => ?_)
      obtain ⟨bo9_39, rfl, rfl⟩ := hp
      show G g E _ _ _ [(wSearch g s bo9_39 (ln u)), (wShelf g a L ln tp rd cnt era nws), (wMain g x tpa (a 0) da pa qa rua wa (s 0) bka taped told)] 42 [(0, .ref x), (1, .int (iI t)), (2, .int (iI u))] [.int (iI (fndCnt (tx L u) (ln u) (tx L t) (ln t - ln u + 1))), .ref x]
      refine r_callV 45 hE [2] [0, 1] [(wMain g x tpa (a 0) da pa qa rua wa (s 0) bka taped told)] [(wSearch g s bo9_39 (ln u)), (wShelf g a L ln tp rd cnt era nws)] 0 8 ok8 [] (c_X8_answer) dX8_finds_42 rfl rfl wd_739 wd_741 ws_33 wd_1 wd_742 ne_X8 np_X8_answer (Nat.le_of_ble_eq_true rfl)  (by decide) (by decide) rfl (Nat.le_of_ble_eq_true rfl) rfl rfl rfl rfl (by decide) rfl (fun v1 f1 hp => ?_)
      obtain ⟨rfl, rfl⟩ := hp
      show G g E _ _ _ [(wMain g x tpa (a 0) da pa qa rua wa (s 0) bka taped 0), (wSearch g s bo9_39 (ln u)), (wShelf g a L ln tp rd cnt era nws)] 45 [(0, .ref x), (1, .int (iI t)), (2, .int (iI u))] [.int (iI (fndCnt (tx L u) (ln u) (tx L t) (ln t - ln u + 1)))]
      refine G.to (fs' := [(wMain g x tpa (a 0) da pa qa rua wa (s 0) bka taped 0), (wShelf g a L ln tp rd cnt era nws), (wSearch g s bo9_39 (ln u))]) [0, 2, 1] [0, 1, 2] rfl rfl rfl ?_
      refine r_ireturn hE hR [(wMain g x tpa (a 0) da pa qa rua wa (s 0) bka taped 0), (wShelf g a L ln tp rd cnt era nws), (wSearch g s bo9_39 (ln u))] dX8_finds_45 (Nat.le_of_ble_eq_true rfl) (Nat.le_of_ble_eq_true rfl) rfl ?_
      exact ⟨_, _, _, _, rfl, rfl, Or.inr ⟨⟨c8, c19⟩, rfl, rfl⟩⟩
    · skip
      have c19 := bI0 c19
      refine r_aload_n 23 hE 0 dX8_finds_22 rfl rfl rfl ?_
      refine r_iconst 24 hE dX8_finds_23 rfl ?_
      refine r_callV 27 hE [1] [0, 2] [(wMain g x tpa (a 0) da pa qa rua wa (s 0) bka taped told)] [(wShelf g a L ln tp rd cnt era nws), (wSearch g s bo sl)] 0 8 ok8 [] (c_X8_refuse) dX8_finds_24 rfl rfl wd_347 wd_349 ws_1 wd_1 wd_350 ne_X8 np_X8_refuse (Nat.le_of_ble_eq_true rfl)  (by decide) (by decide) rfl (Nat.le_of_ble_eq_true rfl) rfl rfl rfl rfl (by decide) rfl (fun v1 f1 hp => ?_)
      obtain ⟨rfl, rfl⟩ := hp
      show G g E _ _ _ [(wMain g x tpa (a 0) da pa qa rua wa (s 0) bka taped 2), (wShelf g a L ln tp rd cnt era nws), (wSearch g s bo sl)] 27 [(0, .ref x), (1, .int (iI t)), (2, .int (iI u))] [.int (iI (-1))]
      refine r_ireturn hE hR [(wMain g x tpa (a 0) da pa qa rua wa (s 0) bka taped 2), (wShelf g a L ln tp rd cnt era nws), (wSearch g s bo sl)] dX8_finds_27 (Nat.le_of_ble_eq_true rfl) (Nat.le_of_ble_eq_true rfl) rfl ?_
      exact ⟨_, _, _, _, rfl, rfl, Or.inl ⟨by unfold HasT; omega, rfl, rfl⟩⟩
set_option maxHeartbeats 4000000 in
set_option maxRecDepth 100000 in
theorem c_X8_sorted {g : Gm} {a : Nat → Nat} {L ln tp rd : Int → Int} {cnt era nws : Int} {x tpa da pa qa rua wa sa bka : Nat} {taped told : Int} {i : Int} (hsh : ShOk L ln cnt) (hi : -2147483648 ≤ i ∧ i ≤ 2147483647) : Ct g 5 0 0 yX8_sorted cX8_sorted 3 (some .int) [.ref x, .int (iI i)] [(wMain g x tpa (a 0) da pa qa rua wa sa bka taped told), (wShelf g a L ln tp rd cnt era nws)] (fun v_ w_ => ∃ r9 : Int, ∃ s9 : Int, v_ = some (.int (iI r9)) ∧ w_ = [(wMain g x tpa (a 0) da pa qa rua wa sa bka taped s9), (wShelf g a L ln tp rd cnt era nws)] ∧ (QSorted (tx L) ln cnt i r9 s9)) := by
  refine Ct.of (by decide) (Nat.le_of_ble_eq_true rfl) (lv := [(0, .ref x), (1, .int (iI i))]) rfl ?_
  intro E hE hR hnm
  have hc := hsh.1
  have hln := hsh.ln
  have hB := hsh.2.1
  have cut12 : ∀ (N : Nat) (t : Int), (0 ≤ i) → (0 ≤ t ∧ t ≤ cnt) → (∀ j, 0 ≤ j → j < t → aheadF (tx L) ln cnt j ≠ i) → (cnt - t).toNat < N → G g E 3 0 0 [(wMain g x tpa (a 0) da pa qa rua wa sa bka taped told), (wShelf g a L ln tp rd cnt era nws)] 12 [(0, .ref x), (1, .int (iI i)), (2, .int (iI t))] [] := by
    intro N
    induction N with
    | zero => intro t _ _ _ hN; exact absurd hN (Nat.not_lt_zero _)
    | succ N ih12 =>
      intro t hi0 ht hv hN
      refine r_iload_n 13 hE 2 dX8_sorted_12 rfl rfl rfl ?_
      refine r_aload_n 14 hE 0 dX8_sorted_13 rfl rfl rfl ?_
      refine r_get 17 hE 0 0 ok8 4 dX8_sorted_14 rfl wd_301 rfl rfl (by decide) rfl ?_
      refine r_get 20 hE 1 0 ok5 4 dX8_sorted_17 rfl wd_84 rfl rfl (by decide) rfl ?_
      refine r_icmp_ge 23 47 hE dX8_sorted_20 rfl (by decide) (by omega) (fun c20 => ?_) (fun c20 => ?_)
      · skip
        refine r_aload_n 48 hE 0 dX8_sorted_47 rfl rfl rfl ?_
        refine r_iconst 49 hE dX8_sorted_48 rfl ?_
        refine r_callV 52 hE [0] [1] [(wMain g x tpa (a 0) da pa qa rua wa sa bka taped told)] [(wShelf g a L ln tp rd cnt era nws)] 0 8 ok8 [] (c_X8_refuse) dX8_sorted_49 rfl rfl wd_347 wd_349 ws_1 wd_1 wd_350 ne_X8 np_X8_refuse (Nat.le_of_ble_eq_true rfl)  (by decide) (by decide) rfl (Nat.le_of_ble_eq_true rfl) rfl rfl rfl rfl (by decide) rfl (fun v1 f1 hp => ?_)
        obtain ⟨rfl, rfl⟩ := hp
        show G g E _ _ _ [(wMain g x tpa (a 0) da pa qa rua wa sa bka taped 5), (wShelf g a L ln tp rd cnt era nws)] 52 [(0, .ref x), (1, .int (iI i)), (2, .int (iI t))] [.int (iI (-1))]
        refine r_ireturn hE hR [(wMain g x tpa (a 0) da pa qa rua wa sa bka taped 5), (wShelf g a L ln tp rd cnt era nws)] dX8_sorted_52 (Nat.le_of_ble_eq_true rfl) (Nat.le_of_ble_eq_true rfl) rfl ?_
        exact ⟨_, _, rfl, rfl, Or.inr (Or.inl ⟨hi0, rfl, rfl, fun j a b => hv j a (by omega)⟩)⟩
      · skip
        refine r_aload_n 24 hE 0 dX8_sorted_23 rfl rfl rfl ?_
        refine r_get 27 hE 0 0 ok8 4 dX8_sorted_24 rfl wd_301 rfl rfl (by decide) rfl ?_
        refine r_iload_n 28 hE 2 dX8_sorted_27 rfl rfl rfl ?_
        refine r_callV 31 hE [1] [0] [(wShelf g a L ln tp rd cnt era nws)] [(wMain g x tpa (a 0) da pa qa rua wa sa bka taped told)] 0 5 ok5 [] (c_X5_countAheadOf (by omega) (by omega) (hln) (hB)) dX8_sorted_28 rfl rfl wd_1035 wd_1036 wd_1037 wd_4 wd_1038 ne_X5 np_X5_countAheadOf (Nat.le_of_ble_eq_true rfl)  (by decide) (by decide) rfl (Nat.le_of_ble_eq_true rfl) rfl rfl rfl rfl (by decide) rfl (fun v1 f1 hp => ?_)
        obtain ⟨rfl, rfl⟩ := hp
        show G g E _ _ _ [(wShelf g a L ln tp rd cnt era nws), (wMain g x tpa (a 0) da pa qa rua wa sa bka taped told)] 31 [(0, .ref x), (1, .int (iI i)), (2, .int (iI t))] [.int (iI (aheadCnt L ln cnt t))]
        refine r_iload_n 32 hE 1 dX8_sorted_31 rfl rfl rfl ?_
        refine r_icmp_ne 35 41 hE dX8_sorted_32 rfl (by decide) (by have := aheadCnt_bd L ln t hc.1; omega) (fun c32 => ?_) (fun c32 => ?_)
        · skip
          refine r_iinc 44 hE 2 (t + 1) [(2, .int (iI (t + 1))), (0, .ref x), (1, .int (iI i))] dX8_sorted_41 rfl rfl rfl (by decide) rfl ?_
          refine r_goto 12 hE dX8_sorted_44 (by decide) ?_
          refine G.to (fs' := [(wMain g x tpa (a 0) da pa qa rua wa sa bka taped told), (wShelf g a L ln tp rd cnt era nws)]) (lv' := [(0, .ref x), (1, .int (iI i)), (2, .int (iI (t + 1)))]) [1, 0] [1, 2, 0] rfl rfl rfl ?_
          exact ih12 (t + 1) (by omega) (by omega) (by first | exact (fun j a b => if z : j = t then z ▸ c32 else hv j a (by omega)) | exact (fun j a b => absurd b (by omega))) (by omega)
        · skip
          refine r_aload_n 36 hE 0 dX8_sorted_35 rfl rfl rfl ?_
          refine r_iload_n 37 hE 2 dX8_sorted_36 rfl rfl rfl ?_
          refine r_callV 40 hE [1] [0] [(wMain g x tpa (a 0) da pa qa rua wa sa bka taped told)] [(wShelf g a L ln tp rd cnt era nws)] 0 8 ok8 [] (c_X8_answer) dX8_sorted_37 rfl rfl wd_739 wd_741 ws_33 wd_1 wd_742 ne_X8 np_X8_answer (Nat.le_of_ble_eq_true rfl)  (by decide) (by decide) rfl (Nat.le_of_ble_eq_true rfl) rfl rfl rfl rfl (by decide) rfl (fun v1 f1 hp => ?_)
          obtain ⟨rfl, rfl⟩ := hp
          show G g E _ _ _ [(wMain g x tpa (a 0) da pa qa rua wa sa bka taped 0), (wShelf g a L ln tp rd cnt era nws)] 40 [(0, .ref x), (1, .int (iI i)), (2, .int (iI t))] [.int (iI t)]
          refine r_ireturn hE hR [(wMain g x tpa (a 0) da pa qa rua wa sa bka taped 0), (wShelf g a L ln tp rd cnt era nws)] dX8_sorted_40 (Nat.le_of_ble_eq_true rfl) (Nat.le_of_ble_eq_true rfl) rfl ?_
          exact ⟨_, _, rfl, rfl, Or.inr (Or.inr ⟨hi0, rfl, by omega, by omega, c32, hv⟩)⟩
  refine r_iload_n 1 hE 1 dX8_sorted_0 rfl rfl rfl ?_
  refine r_if_ge 4 10 hE dX8_sorted_1 rfl (by decide) (by omega) (fun c1 => ?_) (fun c1 => ?_)
  · skip
    refine r_iconst 11 hE dX8_sorted_10 rfl ?_
    refine r_istore_n 12 hE [(2, .int (iI 0)), (0, .ref x), (1, .int (iI i))] dX8_sorted_11 rfl rfl (by decide) rfl ?_
    refine G.to (fs' := [(wMain g x tpa (a 0) da pa qa rua wa sa bka taped told), (wShelf g a L ln tp rd cnt era nws)]) (lv' := [(0, .ref x), (1, .int (iI i)), (2, .int (iI 0))]) [0, 1] [1, 2, 0] rfl rfl rfl ?_
    exact cut12 _ 0 (by omega) (by omega) (by first | exact (fun j a b => if z : j = t then z ▸ c32 else hv j a (by omega)) | exact (fun j a b => absurd b (by omega))) (Nat.lt_succ_self _)
  · skip
    refine r_aload_n 5 hE 0 dX8_sorted_4 rfl rfl rfl ?_
    refine r_iconst 6 hE dX8_sorted_5 rfl ?_
    refine r_callV 9 hE [0] [1] [(wMain g x tpa (a 0) da pa qa rua wa sa bka taped told)] [(wShelf g a L ln tp rd cnt era nws)] 0 8 ok8 [] (c_X8_refuse) dX8_sorted_6 rfl rfl wd_347 wd_349 ws_1 wd_1 wd_350 ne_X8 np_X8_refuse (Nat.le_of_ble_eq_true rfl)  (by decide) (by decide) rfl (Nat.le_of_ble_eq_true rfl) rfl rfl rfl rfl (by decide) rfl (fun v1 f1 hp => ?_)
    obtain ⟨rfl, rfl⟩ := hp
    show G g E _ _ _ [(wMain g x tpa (a 0) da pa qa rua wa sa bka taped 1), (wShelf g a L ln tp rd cnt era nws)] 9 [(0, .ref x), (1, .int (iI i))] [.int (iI (-1))]
    refine r_ireturn hE hR [(wMain g x tpa (a 0) da pa qa rua wa sa bka taped 1), (wShelf g a L ln tp rd cnt era nws)] dX8_sorted_9 (Nat.le_of_ble_eq_true rfl) (Nat.le_of_ble_eq_true rfl) rfl ?_
    exact ⟨_, _, rfl, rfl, Or.inl ⟨c1, rfl, rfl⟩⟩
