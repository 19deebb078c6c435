set_option maxHeartbeats 4000000 in
set_option maxRecDepth 100000 in
theorem c_X6_kind {g : Gm} {k : Nat → Nat} {tpa : Nat} {kk kp kn : Int → Int} {sz kc fg ps : Int} (hfg : 0 ≤ fg ∧ fg < kc ∧ kc ≤ 901) : Ct g 0 0 0 yX6_kind cX6_kind 1 (some .int) [.ref (k 0)] [(wTok g k tpa kk kp kn sz kc fg ps)] (fun v_ w_ => v_ = some (.int (iI (kk fg))) ∧ w_ = [(wTok g k tpa kk kp kn sz kc fg ps)]) := by
  refine Ct.of (by decide) (Nat.le_of_ble_eq_true rfl) (lv := [(0, .ref (k 0))]) rfl ?_
  intro E hE hR hnm
  refine r_aload_n 1 hE 0 dX6_kind_0 rfl rfl rfl ?_
  refine r_get 4 hE 0 0 ok6 6 dX6_kind_1 rfl wd_47 rfl rfl (by decide) rfl ?_
  refine r_aload_n 5 hE 0 dX6_kind_4 rfl rfl rfl ?_
  refine r_get 8 hE 0 0 ok6 5 dX6_kind_5 rfl wd_46 rfl rfl (by decide) rfl ?_
  refine r_icmp_ge 11 23 hE dX6_kind_8 rfl (by decide) (by omega) (fun c8 => ?_) (fun c8 => ?_)
  · skip
    omega
  · skip
    refine r_aload_n 12 hE 0 dX6_kind_11 rfl rfl rfl ?_
    refine r_get 15 hE 0 0 ok6 1 dX6_kind_12 rfl wd_42 rfl rfl (by decide) rfl ?_
    refine r_aload_n 16 hE 0 dX6_kind_15 rfl rfl rfl ?_
    refine r_get 19 hE 0 0 ok6 6 dX6_kind_16 rfl wd_47 rfl rfl (by decide) rfl ?_
    refine r_iald 20 hE 0 1 dX6_kind_19 rfl rfl rfl (by omega) ?_
    refine r_goto 24 hE dX6_kind_20 (by decide) ?_
    refine r_ireturn hE hR [(wTok g k tpa kk kp kn sz kc fg ps)] dX6_kind_24 (Nat.le_of_ble_eq_true rfl) (Nat.le_of_ble_eq_true rfl) rfl ?_
    exact ⟨retI (rfl), rfl⟩
set_option maxHeartbeats 4000000 in
set_option maxRecDepth 100000 in
theorem c_X6_place {g : Gm} {k : Nat → Nat} {tpa : Nat} {kk kp kn : Int → Int} {sz kc fg ps : Int} (hfg : 0 ≤ fg ∧ fg < kc ∧ kc ≤ 901) : Ct g 0 0 0 yX6_place cX6_place 1 (some .int) [.ref (k 0)] [(wTok g k tpa kk kp kn sz kc fg ps)] (fun v_ w_ => v_ = some (.int (iI (kp fg))) ∧ w_ = [(wTok g k tpa kk kp kn sz kc fg ps)]) := by
  refine Ct.of (by decide) (Nat.le_of_ble_eq_true rfl) (lv := [(0, .ref (k 0))]) rfl ?_
  intro E hE hR hnm
  refine r_aload_n 1 hE 0 dX6_place_0 rfl rfl rfl ?_
  refine r_get 4 hE 0 0 ok6 6 dX6_place_1 rfl wd_47 rfl rfl (by decide) rfl ?_
  refine r_aload_n 5 hE 0 dX6_place_4 rfl rfl rfl ?_
  refine r_get 8 hE 0 0 ok6 5 dX6_place_5 rfl wd_46 rfl rfl (by decide) rfl ?_
  refine r_icmp_ge 11 23 hE dX6_place_8 rfl (by decide) (by omega) (fun c8 => ?_) (fun c8 => ?_)
  · skip
    omega
  · skip
    refine r_aload_n 12 hE 0 dX6_place_11 rfl rfl rfl ?_
    refine r_get 15 hE 0 0 ok6 2 dX6_place_12 rfl wd_43 rfl rfl (by decide) rfl ?_
    refine r_aload_n 16 hE 0 dX6_place_15 rfl rfl rfl ?_
    refine r_get 19 hE 0 0 ok6 6 dX6_place_16 rfl wd_47 rfl rfl (by decide) rfl ?_
    refine r_iald 20 hE 0 2 dX6_place_19 rfl rfl rfl (by omega) ?_
    refine r_goto 27 hE dX6_place_20 (by decide) ?_
    refine r_ireturn hE hR [(wTok g k tpa kk kp kn sz kc fg ps)] dX6_place_27 (Nat.le_of_ble_eq_true rfl) (Nat.le_of_ble_eq_true rfl) rfl ?_
    exact ⟨retI (rfl), rfl⟩
set_option maxHeartbeats 4000000 in
set_option maxRecDepth 100000 in
theorem c_X6_number {g : Gm} {k : Nat → Nat} {tpa : Nat} {kk kp kn : Int → Int} {sz kc fg ps : Int} (hfg : 0 ≤ fg ∧ fg < kc ∧ kc ≤ 901) : Ct g 0 0 0 yX6_number cX6_number 1 (some .int) [.ref (k 0)] [(wTok g k tpa kk kp kn sz kc fg ps)] (fun v_ w_ => v_ = some (.int (iI (kn fg))) ∧ w_ = [(wTok g k tpa kk kp kn sz kc fg ps)]) := by
  refine Ct.of (by decide) (Nat.le_of_ble_eq_true rfl) (lv := [(0, .ref (k 0))]) rfl ?_
  intro E hE hR hnm
  refine r_aload_n 1 hE 0 dX6_number_0 rfl rfl rfl ?_
  refine r_get 4 hE 0 0 ok6 6 dX6_number_1 rfl wd_47 rfl rfl (by decide) rfl ?_
  refine r_aload_n 5 hE 0 dX6_number_4 rfl rfl rfl ?_
  refine r_get 8 hE 0 0 ok6 5 dX6_number_5 rfl wd_46 rfl rfl (by decide) rfl ?_
  refine r_icmp_ge 11 23 hE dX6_number_8 rfl (by decide) (by omega) (fun c8 => ?_) (fun c8 => ?_)
  · skip
    omega
  · skip
    refine r_aload_n 12 hE 0 dX6_number_11 rfl rfl rfl ?_
    refine r_get 15 hE 0 0 ok6 3 dX6_number_12 rfl wd_44 rfl rfl (by decide) rfl ?_
    refine r_aload_n 16 hE 0 dX6_number_15 rfl rfl rfl ?_
    refine r_get 19 hE 0 0 ok6 6 dX6_number_16 rfl wd_47 rfl rfl (by decide) rfl ?_
    refine r_iald 20 hE 0 3 dX6_number_19 rfl rfl rfl (by omega) ?_
    refine r_goto 24 hE dX6_number_20 (by decide) ?_
    refine r_ireturn hE hR [(wTok g k tpa kk kp kn sz kc fg ps)] dX6_number_24 (Nat.le_of_ble_eq_true rfl) (Nat.le_of_ble_eq_true rfl) rfl ?_
    exact ⟨retI (rfl), rfl⟩
set_option maxHeartbeats 4000000 in
set_option maxRecDepth 100000 in
theorem c_X6_pass {g : Gm} {k : Nat → Nat} {tpa : Nat} {kk kp kn : Int → Int} {sz kc fg ps : Int} (hfg : 0 ≤ fg ∧ fg < kc ∧ kc ≤ 901) (hf9 : fg < 900) : Ct g 1 0 0 yX6_pass cX6_pass 1 none [.ref (k 0)] [(wTok g k tpa kk kp kn sz kc fg ps)] (fun v_ w_ => v_ = none ∧ w_ = [(wTok g k tpa kk kp kn sz kc (fg + 1) (kp fg))]) := by
  refine Ct.of (by decide) (Nat.le_of_ble_eq_true rfl) (lv := [(0, .ref (k 0))]) rfl ?_
  intro E hE hR hnm
  refine r_aload_n 1 hE 0 dX6_pass_0 rfl rfl rfl ?_
  refine r_aload_n 2 hE 0 dX6_pass_1 rfl rfl rfl ?_
  refine r_callV 5 hE [0] [] [(wTok g k tpa kk kp kn sz kc fg ps)] [] 0 6 ok6 [.ref (k 0)] (c_X6_place (by omega)) dX6_pass_2 rfl rfl wd_531 wd_520 wd_521 wd_3 wd_522 ne_X6 np_X6_place (Nat.le_of_ble_eq_true rfl)  (by decide) (by decide) rfl (Nat.le_of_ble_eq_true rfl) rfl rfl rfl rfl (by decide) rfl (fun v1 f1 hp => ?_)
  obtain ⟨rfl, rfl⟩ := hp
  show G g E _ _ _ [(wTok g k tpa kk kp kn sz kc fg ps)] 5 [(0, .ref (k 0))] [.int (iI (kp fg)), .ref (k 0)]
  refine r_put 8 hE 0 0 ok6 7 (wTok g k tpa kk kp kn sz kc fg (kp fg)) [(wTok g k tpa kk kp kn sz kc fg (kp fg))] dX6_pass_5 rfl wd_48 rfl rfl (by decide) rfl rfl rfl (Nat.le_of_ble_eq_true rfl) rfl rfl ?_
  refine r_aload_n 9 hE 0 dX6_pass_8 rfl rfl rfl ?_
  refine r_aload_n 10 hE 0 dX6_pass_9 rfl rfl rfl ?_
  refine r_get 13 hE 0 0 ok6 6 dX6_pass_10 rfl wd_47 rfl rfl (by decide) rfl ?_
  refine r_iconst 14 hE dX6_pass_13 rfl ?_
  refine r_iadd 15 hE (fg + 1) dX6_pass_14 rfl rfl ?_
  refine r_sipush 18 hE dX6_pass_15 rfl (by decide) ?_
  refine r_min 21 hE dX6_pass_18 rfl wd_359 wd_360 wd_6 wd_361 (Nat.le_of_ble_eq_true rfl) (by decide) (by decide) (Nat.le_of_ble_eq_true rfl) (by omega) ?_
  rw [show (min (fg + 1) 900 : Int) = fg + 1 from by omega]
  refine r_put 24 hE 0 0 ok6 6 (wTok g k tpa kk kp kn sz kc (fg + 1) (kp fg)) [(wTok g k tpa kk kp kn sz kc (fg + 1) (kp fg))] dX6_pass_21 rfl wd_47 rfl rfl (by decide) rfl rfl rfl (Nat.le_of_ble_eq_true rfl) rfl rfl ?_
  refine r_return hE hR [(wTok g k tpa kk kp kn sz kc (fg + 1) (kp fg))] dX6_pass_24 (Nat.le_of_ble_eq_true rfl) (Nat.le_of_ble_eq_true rfl) rfl ?_
  exact ⟨rfl, rfl⟩
set_option maxHeartbeats 4000000 in
set_option maxRecDepth 100000 in
theorem c_X6_byteAt {g : Gm} {k : Nat → Nat} {tpa : Nat} {kk kp kn : Int → Int} {sz kc fg ps : Int} {tf : Int → Int} {p : Int} (hsz : 0 ≤ sz ∧ sz ≤ 900) (hp : -2147483648 ≤ p ∧ p ≤ 2147483647) : Ct g 0 0 0 yX6_byteAt cX6_byteAt 2 (some .int) [.ref (k 0), .int (iI p)] [(wTok g k tpa kk kp kn sz kc fg ps), (wBytes g tpa 900 tf)] (fun v_ w_ => v_ = some (.int (iI (bA tf sz p))) ∧ w_ = [(wTok g k tpa kk kp kn sz kc fg ps), (wBytes g tpa 900 tf)]) := by
  refine Ct.of (by decide) (Nat.le_of_ble_eq_true rfl) (lv := [(0, .ref (k 0)), (1, .int (iI p))]) rfl ?_
  intro E hE hR hnm
  refine r_iload_n 1 hE 1 dX6_byteAt_0 rfl rfl rfl ?_
  refine r_if_lt 4 21 hE dX6_byteAt_1 rfl (by decide) (by omega) (fun c1 => ?_) (fun c1 => ?_)
  · skip
    refine r_iconst 22 hE dX6_byteAt_21 rfl ?_
    refine r_ireturn hE hR [(wTok g k tpa kk kp kn sz kc fg ps), (wBytes g tpa 900 tf)] dX6_byteAt_22 (Nat.le_of_ble_eq_true rfl) (Nat.le_of_ble_eq_true rfl) rfl ?_
    exact ⟨by first | exact retI (bA_no (by omega)).symm | exact retI (bA_in (by omega)).symm, rfl⟩
  · skip
    refine r_iload_n 5 hE 1 dX6_byteAt_4 rfl rfl rfl ?_
    refine r_aload_n 6 hE 0 dX6_byteAt_5 rfl rfl rfl ?_
    refine r_get 9 hE 0 0 ok6 4 dX6_byteAt_6 rfl wd_45 rfl rfl (by decide) rfl ?_
    refine r_icmp_ge 12 21 hE dX6_byteAt_9 rfl (by decide) (by omega) (fun c9 => ?_) (fun c9 => ?_)
    · skip
      refine r_iconst 22 hE dX6_byteAt_21 rfl ?_
      refine r_ireturn hE hR [(wTok g k tpa kk kp kn sz kc fg ps), (wBytes g tpa 900 tf)] dX6_byteAt_22 (Nat.le_of_ble_eq_true rfl) (Nat.le_of_ble_eq_true rfl) rfl ?_
      exact ⟨by first | exact retI (bA_no (by omega)).symm | exact retI (bA_in (by omega)).symm, rfl⟩
    · skip
      refine r_aload_n 13 hE 0 dX6_byteAt_12 rfl rfl rfl ?_
      refine r_get 16 hE 0 0 ok6 0 dX6_byteAt_13 rfl wd_40 rfl rfl (by decide) rfl ?_
      refine r_iload_n 17 hE 1 dX6_byteAt_16 rfl rfl rfl ?_
      refine r_bald 18 hE 1 0 dX6_byteAt_17 rfl rfl rfl (by omega) ?_
      refine r_goto 22 hE dX6_byteAt_18 (by decide) ?_
      refine r_ireturn hE hR [(wTok g k tpa kk kp kn sz kc fg ps), (wBytes g tpa 900 tf)] dX6_byteAt_22 (Nat.le_of_ble_eq_true rfl) (Nat.le_of_ble_eq_true rfl) rfl ?_
      exact ⟨by first | exact retI (bA_no (by omega)).symm | exact retI (bA_in (by omega)).symm, rfl⟩
set_option maxHeartbeats 4000000 in
set_option maxRecDepth 100000 in
theorem c_X6_add {g : Gm} {k : Nat → Nat} {tpa : Nat} {kk kp kn : Int → Int} {sz kc fg ps : Int} {v p m : Int} (hkc : 0 ≤ kc ∧ kc ≤ 900) : Ct g 0 0 0 yX6_add cX6_add 4 none [.ref (k 0), .int (iI v), .int (iI p), .int (iI m)] [(wTok g k tpa kk kp kn sz kc fg ps)] (fun v_ w_ => v_ = none ∧ w_ = [(wTok g k tpa (up kk kc v) (up kp kc p) (up kn kc m) sz (kc + 1) fg ps)]) := by
  refine Ct.of (by decide) (Nat.le_of_ble_eq_true rfl) (lv := [(0, .ref (k 0)), (1, .int (iI v)), (2, .int (iI p)), (3, .int (iI m))]) rfl ?_
  intro E hE hR hnm
  refine r_aload_n 1 hE 0 dX6_add_0 rfl rfl rfl ?_
  refine r_get 4 hE 0 0 ok6 5 dX6_add_1 rfl wd_46 rfl rfl (by decide) rfl ?_
  refine r_sipush 7 hE dX6_add_4 rfl (by decide) ?_
  refine r_icmp_gt 10 50 hE dX6_add_7 rfl (by decide) (by omega) (fun c7 => ?_) (fun c7 => ?_)
  · skip
    omega
  · skip
    refine r_aload_n 11 hE 0 dX6_add_10 rfl rfl rfl ?_
    refine r_get 14 hE 0 0 ok6 1 dX6_add_11 rfl wd_42 rfl rfl (by decide) rfl ?_
    refine r_aload_n 15 hE 0 dX6_add_14 rfl rfl rfl ?_
    refine r_get 18 hE 0 0 ok6 5 dX6_add_15 rfl wd_46 rfl rfl (by decide) rfl ?_
    refine r_iload_n 19 hE 1 dX6_add_18 rfl rfl rfl ?_
    refine r_iast 20 hE 0 1 (wTok g k tpa (up kk kc v) kp kn sz kc fg ps) [(wTok g k tpa (up kk kc v) kp kn sz kc fg ps)] dX6_add_19 rfl rfl rfl (by omega) rfl rfl ?_
    refine r_aload_n 21 hE 0 dX6_add_20 rfl rfl rfl ?_
    refine r_get 24 hE 0 0 ok6 2 dX6_add_21 rfl wd_43 rfl rfl (by decide) rfl ?_
    refine r_aload_n 25 hE 0 dX6_add_24 rfl rfl rfl ?_
    refine r_get 28 hE 0 0 ok6 5 dX6_add_25 rfl wd_46 rfl rfl (by decide) rfl ?_
    refine r_iload_n 29 hE 2 dX6_add_28 rfl rfl rfl ?_
    refine r_iast 30 hE 0 2 (wTok g k tpa (up kk kc v) (up kp kc p) kn sz kc fg ps) [(wTok g k tpa (up kk kc v) (up kp kc p) kn sz kc fg ps)] dX6_add_29 rfl rfl rfl (by omega) rfl rfl ?_
    refine r_aload_n 31 hE 0 dX6_add_30 rfl rfl rfl ?_
    refine r_get 34 hE 0 0 ok6 3 dX6_add_31 rfl wd_44 rfl rfl (by decide) rfl ?_
    refine r_aload_n 35 hE 0 dX6_add_34 rfl rfl rfl ?_
    refine r_get 38 hE 0 0 ok6 5 dX6_add_35 rfl wd_46 rfl rfl (by decide) rfl ?_
    refine r_iload_n 39 hE 3 dX6_add_38 rfl rfl rfl ?_
    refine r_iast 40 hE 0 3 (wTok g k tpa (up kk kc v) (up kp kc p) (up kn kc m) sz kc fg ps) [(wTok g k tpa (up kk kc v) (up kp kc p) (up kn kc m) sz kc fg ps)] dX6_add_39 rfl rfl rfl (by omega) rfl rfl ?_
    refine r_aload_n 41 hE 0 dX6_add_40 rfl rfl rfl ?_
    refine r_dup 42 hE dX6_add_41 rfl rfl ?_
    refine r_get 45 hE 0 0 ok6 5 dX6_add_42 rfl wd_46 rfl rfl (by decide) rfl ?_
    refine r_iconst 46 hE dX6_add_45 rfl ?_
    refine r_iadd 47 hE (kc + 1) dX6_add_46 rfl rfl ?_
    refine r_put 50 hE 0 0 ok6 5 (wTok g k tpa (up kk kc v) (up kp kc p) (up kn kc m) sz (kc + 1) fg ps) [(wTok g k tpa (up kk kc v) (up kp kc p) (up kn kc m) sz (kc + 1) fg ps)] dX6_add_47 rfl wd_46 rfl rfl (by decide) rfl rfl rfl (Nat.le_of_ble_eq_true rfl) rfl rfl ?_
    refine r_return hE hR [(wTok g k tpa (up kk kc v) (up kp kc p) (up kn kc m) sz (kc + 1) fg ps)] dX6_add_50 (Nat.le_of_ble_eq_true rfl) (Nat.le_of_ble_eq_true rfl) rfl ?_
    exact ⟨rfl, rfl⟩
set_option maxHeartbeats 4000000 in
set_option maxRecDepth 100000 in
theorem c_X6_isSmall {g : Gm} {v : Int} (hv : -2147483648 ≤ v ∧ v ≤ 2147483647) : Ct g 0 0 0 yX6_isSmall cX6_isSmall 1 (some .boolean) [.int (iI v)] [] (fun v_ w_ => v_ = some (.int (iI (bI (97 ≤ v ∧ v ≤ 122)))) ∧ w_ = []) := by
  refine Ct.of (by decide) (Nat.le_of_ble_eq_true rfl) (lv := [(0, .int (iI v))]) rfl ?_
  intro E hE hR hnm
  refine r_iload_n 1 hE 0 dX6_isSmall_0 rfl rfl rfl ?_
  refine r_bipush 3 hE dX6_isSmall_1 rfl (by decide) ?_
  refine r_icmp_lt 6 16 hE dX6_isSmall_3 rfl (by decide) (by omega) (fun c3 => ?_) (fun c3 => ?_)
  · skip
    refine r_iconst 17 hE dX6_isSmall_16 rfl ?_
    refine r_zreturn hE hR [] dX6_isSmall_17 (Nat.le_of_ble_eq_true rfl) (Nat.le_of_ble_eq_true rfl) (by decide) rfl ?_
    exact ⟨ret0 (by omega), rfl⟩
  · skip
    refine r_iload_n 7 hE 0 dX6_isSmall_6 rfl rfl rfl ?_
    refine r_bipush 9 hE dX6_isSmall_7 rfl (by decide) ?_
    refine r_icmp_gt 12 16 hE dX6_isSmall_9 rfl (by decide) (by omega) (fun c9 => ?_) (fun c9 => ?_)
    · skip
      refine r_iconst 17 hE dX6_isSmall_16 rfl ?_
      refine r_zreturn hE hR [] dX6_isSmall_17 (Nat.le_of_ble_eq_true rfl) (Nat.le_of_ble_eq_true rfl) (by decide) rfl ?_
      exact ⟨ret0 (by omega), rfl⟩
    · skip
      refine r_iconst 13 hE dX6_isSmall_12 rfl ?_
      refine r_goto 17 hE dX6_isSmall_13 (by decide) ?_
      refine r_zreturn hE hR [] dX6_isSmall_17 (Nat.le_of_ble_eq_true rfl) (Nat.le_of_ble_eq_true rfl) (by decide) rfl ?_
      exact ⟨ret1 (by omega), rfl⟩
set_option maxHeartbeats 4000000 in
set_option maxRecDepth 100000 in
theorem c_X6_isDigit {g : Gm} {v : Int} (hv : -2147483648 ≤ v ∧ v ≤ 2147483647) : Ct g 0 0 0 yX6_isDigit cX6_isDigit 1 (some .boolean) [.int (iI v)] [] (fun v_ w_ => v_ = some (.int (iI (bI (48 ≤ v ∧ v ≤ 57)))) ∧ w_ = []) := by
  refine Ct.of (by decide) (Nat.le_of_ble_eq_true rfl) (lv := [(0, .int (iI v))]) rfl ?_
  intro E hE hR hnm
  refine r_iload_n 1 hE 0 dX6_isDigit_0 rfl rfl rfl ?_
  refine r_bipush 3 hE dX6_isDigit_1 rfl (by decide) ?_
  refine r_icmp_lt 6 16 hE dX6_isDigit_3 rfl (by decide) (by omega) (fun c3 => ?_) (fun c3 => ?_)
  · skip
    refine r_iconst 17 hE dX6_isDigit_16 rfl ?_
    refine r_zreturn hE hR [] dX6_isDigit_17 (Nat.le_of_ble_eq_true rfl) (Nat.le_of_ble_eq_true rfl) (by decide) rfl ?_
    exact ⟨ret0 (by omega), rfl⟩
  · skip
    refine r_iload_n 7 hE 0 dX6_isDigit_6 rfl rfl rfl ?_
    refine r_bipush 9 hE dX6_isDigit_7 rfl (by decide) ?_
    refine r_icmp_gt 12 16 hE dX6_isDigit_9 rfl (by decide) (by omega) (fun c9 => ?_) (fun c9 => ?_)
    · skip
      refine r_iconst 17 hE dX6_isDigit_16 rfl ?_
      refine r_zreturn hE hR [] dX6_isDigit_17 (Nat.le_of_ble_eq_true rfl) (Nat.le_of_ble_eq_true rfl) (by decide) rfl ?_
      exact ⟨ret0 (by omega), rfl⟩
    · skip
      refine r_iconst 13 hE dX6_isDigit_12 rfl ?_
      refine r_goto 17 hE dX6_isDigit_13 (by decide) ?_
      refine r_zreturn hE hR [] dX6_isDigit_17 (Nat.le_of_ble_eq_true rfl) (Nat.le_of_ble_eq_true rfl) (by decide) rfl ?_
      exact ⟨ret1 (by omega), rfl⟩
set_option maxHeartbeats 4000000 in
set_option maxRecDepth 100000 in
theorem c_X6_behindSmall {g : Gm} {k : Nat → Nat} {tpa : Nat} {kk kp kn : Int → Int} {sz kc fg ps : Int} {tf : Int → Int} {p : Int} (hsz : 0 ≤ sz ∧ sz ≤ 900) (hp : 0 ≤ p ∧ p ≤ sz) (hTB : BR tf) : Ct g 1 0 0 yX6_behindSmall cX6_behindSmall 3 (some .int) [.ref (k 0), .int (iI p)] [(wTok g k tpa kk kp kn sz kc fg ps), (wBytes g tpa 900 tf)] (fun v_ w_ => v_ = some (.int (iI (smE tf sz p))) ∧ w_ = [(wTok g k tpa kk kp kn sz kc fg ps), (wBytes g tpa 900 tf)]) := by
  refine Ct.of (by decide) (Nat.le_of_ble_eq_true rfl) (lv := [(0, .ref (k 0)), (1, .int (iI p))]) rfl ?_
  intro E hE hR hnm
  have cut2 : ∀ (N : Nat) (i : Int), (0 ≤ i ∧ i ≤ sz) → (smE tf sz p = smE tf sz i) → (sz - i).toNat < N → G g E 3 0 0 [(wTok g k tpa kk kp kn sz kc fg ps), (wBytes g tpa 900 tf)] 2 [(0, .ref (k 0)), (1, .int (iI p)), (2, .int (iI i))] [] := by
    intro N
    induction N with
    | zero => intro i _ _ hN; exact absurd hN (Nat.not_lt_zero _)
    | succ N ih2 =>
      intro i hi hv hN
      refine r_iload_n 3 hE 2 dX6_behindSmall_2 rfl rfl rfl ?_
      refine r_aload_n 4 hE 0 dX6_behindSmall_3 rfl rfl rfl ?_
      refine r_get 7 hE 0 0 ok6 4 dX6_behindSmall_4 rfl wd_45 rfl rfl (by decide) rfl ?_
      refine r_icmp_ge 10 27 hE dX6_behindSmall_7 rfl (by decide) (by omega) (fun c7 => ?_) (fun c7 => ?_)
      · skip
        refine r_iload_n 28 hE 2 dX6_behindSmall_27 rfl rfl rfl ?_
        refine r_ireturn hE hR [(wTok g k tpa kk kp kn sz kc fg ps), (wBytes g tpa 900 tf)] dX6_behindSmall_28 (Nat.le_of_ble_eq_true rfl) (Nat.le_of_ble_eq_true rfl) rfl ?_
        exact ⟨retI (by rw [hv]; exact (sm_stop (by first | exact Or.inl (by omega) | exact Or.inr c18)).symm), rfl⟩
      · skip
        refine r_aload_n 11 hE 0 dX6_behindSmall_10 rfl rfl rfl ?_
        refine r_iload_n 12 hE 2 dX6_behindSmall_11 rfl rfl rfl ?_
        refine r_callV 15 hE [0, 1] [] [(wTok g k tpa kk kp kn sz kc fg ps), (wBytes g tpa 900 tf)] [] 0 6 ok6 [] (c_X6_byteAt (by omega) (by omega)) dX6_behindSmall_12 rfl rfl wd_363 wd_364 wd_365 wd_3 wd_366 ne_X6 np_X6_byteAt (Nat.le_of_ble_eq_true rfl)  (by decide) (by decide) rfl (Nat.le_of_ble_eq_true rfl) rfl rfl rfl rfl (by decide) rfl (fun v1 f1 hp => ?_)
        obtain ⟨rfl, rfl⟩ := hp
        show G g E _ _ _ [(wTok g k tpa kk kp kn sz kc fg ps), (wBytes g tpa 900 tf)] 15 [(0, .ref (k 0)), (1, .int (iI p)), (2, .int (iI i))] [.int (iI (bA tf sz i))]
        refine r_callS 18 hE [] [0, 1] [] [(wTok g k tpa kk kp kn sz kc fg ps), (wBytes g tpa 900 tf)] [] (c_X6_isSmall (by have := bA_rg hTB sz i; omega)) dX6_behindSmall_15 rfl wd_371 wd_372 wd_3 wd_373 ne_X6 np_X6_isSmall (Nat.le_of_ble_eq_true rfl)  (by decide) (by decide) rfl (Nat.le_of_ble_eq_true rfl) rfl rfl rfl rfl (by decide) (fun v1 f1 hp => ?_)
        obtain ⟨rfl, rfl⟩ := hp
        show G g E _ _ _ [(wTok g k tpa kk kp kn sz kc fg ps), (wBytes g tpa 900 tf)] 18 [(0, .ref (k 0)), (1, .int (iI p)), (2, .int (iI i))] [.int (iI (bI (97 ≤ (bA tf sz i) ∧ (bA tf sz i) ≤ 122)))]
        refine r_if_eq 21 27 hE dX6_behindSmall_18 rfl (by decide) (bI_rg _) (fun c18 => ?_) (fun c18 => ?_)
        · skip
          have c18 := bI0 c18
          rw [bA_in (by omega)] at c18
          refine r_iload_n 28 hE 2 dX6_behindSmall_27 rfl rfl rfl ?_
          refine r_ireturn hE hR [(wTok g k tpa kk kp kn sz kc fg ps), (wBytes g tpa 900 tf)] dX6_behindSmall_28 (Nat.le_of_ble_eq_true rfl) (Nat.le_of_ble_eq_true rfl) rfl ?_
          exact ⟨retI (by rw [hv]; exact (sm_stop (by first | exact Or.inl (by omega) | exact Or.inr c18)).symm), rfl⟩
        · skip
          have c18 := bI1 c18
          rw [bA_in (by omega)] at c18
          have hv2 := hv.trans (sm_step (by omega) c18)
          refine r_iinc 24 hE 2 (i + 1) [(2, .int (iI (i + 1))), (0, .ref (k 0)), (1, .int (iI p))] dX6_behindSmall_21 rfl rfl rfl (by decide) rfl ?_
          refine r_goto 2 hE dX6_behindSmall_24 (by decide) ?_
          refine G.to (fs' := [(wTok g k tpa kk kp kn sz kc fg ps), (wBytes g tpa 900 tf)]) (lv' := [(0, .ref (k 0)), (1, .int (iI p)), (2, .int (iI (i + 1)))]) [0, 1] [1, 2, 0] rfl rfl rfl ?_
          exact ih2 (i + 1) (by omega) (by first | exact hv2 | rfl) (by omega)
  refine r_iload_n 1 hE 1 dX6_behindSmall_0 rfl rfl rfl ?_
  refine r_istore_n 2 hE [(2, .int (iI p)), (0, .ref (k 0)), (1, .int (iI p))] dX6_behindSmall_1 rfl rfl (by decide) rfl ?_
  refine G.to (fs' := [(wTok g k tpa kk kp kn sz kc fg ps), (wBytes g tpa 900 tf)]) (lv' := [(0, .ref (k 0)), (1, .int (iI p)), (2, .int (iI p))]) [0, 1] [1, 2, 0] rfl rfl rfl ?_
  exact cut2 _ p (by omega) (by first | exact hv2 | rfl) (Nat.lt_succ_self _)
set_option maxHeartbeats 4000000 in
set_option maxRecDepth 100000 in
theorem c_X6_isWord_0 {g : Gm} {k : Nat → Nat} {tpa : Nat} {kk kp kn : Int → Int} {sz kc fg ps : Int} {tf : Int → Int} {p e : Int} (hsz : 0 ≤ sz ∧ sz ≤ 900) (hp : 0 ≤ p ∧ p ≤ 2000 ∧ 0 ≤ e ∧ e ≤ 2000) (hTB : BR tf) : Ct g 4 0 0 yX6_isWord cX6_isWord 5 (some .boolean) [.ref (k 0), .int (iI p), .int (iI e), .ref (g.adK 0)] [(wTok g k tpa kk kp kn sz kc fg ps), (wBytes g tpa 900 tf)] (fun v_ w_ => v_ = some (.int (iI (bI (isTx tf sz p e)))) ∧ w_ = [(wTok g k tpa kk kp kn sz kc fg ps), (wBytes g tpa 900 tf)]) := by
  refine Ct.of (by decide) (Nat.le_of_ble_eq_true rfl) (lv := [(0, .ref (k 0)), (1, .int (iI p)), (2, .int (iI e)), (3, .ref (g.adK 0))]) rfl ?_
  intro E hE hR hnm
  have hsl := sL0
  have cut3 : ∀ (N : Nat) (i : Int), (0 ≤ i ∧ i ≤ ((sLen 0 : Nat) : Int)) → (∀ q, 0 ≤ q → q < i → bA tf sz (p + q) = sByt 0 q) → (((sLen 0 : Nat) : Int) - i).toNat < N → G g E 5 0 0 [(wTok g k tpa kk kp kn sz kc fg ps), (wBytes g tpa 900 tf)] 3 [(0, .ref (k 0)), (1, .int (iI p)), (2, .int (iI e)), (3, .ref (g.adK 0)), (4, .int (iI i))] [] := by
    intro N
    induction N with
    | zero => intro i _ _ hN; exact absurd hN (Nat.not_lt_zero _)
    | succ N ih3 =>
      intro i hi hv hN
      refine r_iload 5 hE 4 dX6_isWord_3 rfl rfl ?_
      refine r_aload_n 6 hE 3 dX6_isWord_5 rfl rfl rfl ?_
      refine r_callT 9 hE [] [0, 1] [] [(wTok g k tpa kk kp kn sz kc fg ps), (wBytes g tpa 900 tf)] (by decide) [.int (iI i)] (c_J0_length_8abf5 (by first | exact hj | decide)) dX6_isWord_6 rfl rfl wd_387 wd_388 wd_389 wd_13 wd_390 ne_J0 np_J0_length_8abf5 (Nat.le_of_ble_eq_true rfl)  (by decide) (by decide) rfl (Nat.le_of_ble_eq_true rfl) rfl rfl rfl rfl (by decide) (fun v1 f1 hp => ?_)
      obtain ⟨rfl, rfl⟩ := hp
      show G g E _ _ _ [(wTok g k tpa kk kp kn sz kc fg ps), (wBytes g tpa 900 tf)] 9 [(0, .ref (k 0)), (1, .int (iI p)), (2, .int (iI e)), (3, .ref (g.adK 0)), (4, .int (iI i))] [.int (iI ((sLen 0 : Nat) : Int)), .int (iI i)]
      refine r_icmp_ge 12 37 hE dX6_isWord_9 rfl (by decide) (by omega) (fun c9 => ?_) (fun c9 => ?_)
      · skip
        refine r_iload_n 38 hE 2 dX6_isWord_37 rfl rfl rfl ?_
        refine r_iload_n 39 hE 1 dX6_isWord_38 rfl rfl rfl ?_
        refine r_isub 40 hE (e - p) dX6_isWord_39 rfl rfl ?_
        refine r_aload_n 41 hE 3 dX6_isWord_40 rfl rfl rfl ?_
        refine r_callT 44 hE [] [0, 1] [] [(wTok g k tpa kk kp kn sz kc fg ps), (wBytes g tpa 900 tf)] (by decide) [.int (iI (e - p))] (c_J0_length_8abf5 (by first | exact hj | decide)) dX6_isWord_41 rfl rfl wd_387 wd_388 wd_389 wd_13 wd_390 ne_J0 np_J0_length_8abf5 (Nat.le_of_ble_eq_true rfl)  (by decide) (by decide) rfl (Nat.le_of_ble_eq_true rfl) rfl rfl rfl rfl (by decide) (fun v1 f1 hp => ?_)
        obtain ⟨rfl, rfl⟩ := hp
        show G g E _ _ _ [(wTok g k tpa kk kp kn sz kc fg ps), (wBytes g tpa 900 tf)] 44 [(0, .ref (k 0)), (1, .int (iI p)), (2, .int (iI e)), (3, .ref (g.adK 0)), (4, .int (iI i))] [.int (iI ((sLen 0 : Nat) : Int)), .int (iI (e - p))]
        refine r_icmp_ne 47 51 hE dX6_isWord_44 rfl (by decide) (by omega) (fun c44 => ?_) (fun c44 => ?_)
        · skip
          refine r_iconst 52 hE dX6_isWord_51 rfl ?_
          refine r_zreturn hE hR [(wTok g k tpa kk kp kn sz kc fg ps), (wBytes g tpa 900 tf)] dX6_isWord_52 (Nat.le_of_ble_eq_true rfl) (Nat.le_of_ble_eq_true rfl) (by decide) rfl ?_
          first
            | exact ⟨ret0 (fun z => c44 (by have := (tx_iff.mp z).1; omega)), rfl⟩
            | exact ⟨ret1 (tx_iff.mpr ⟨by omega, fun q a b => hv q a (by omega)⟩), rfl⟩
        · skip
          refine r_iconst 48 hE dX6_isWord_47 rfl ?_
          refine r_goto 52 hE dX6_isWord_48 (by decide) ?_
          refine r_zreturn hE hR [(wTok g k tpa kk kp kn sz kc fg ps), (wBytes g tpa 900 tf)] dX6_isWord_52 (Nat.le_of_ble_eq_true rfl) (Nat.le_of_ble_eq_true rfl) (by decide) rfl ?_
          first
            | exact ⟨ret0 (fun z => c44 (by have := (tx_iff.mp z).1; omega)), rfl⟩
            | exact ⟨ret1 (tx_iff.mpr ⟨by omega, fun q a b => hv q a (by omega)⟩), rfl⟩
      · skip
        refine r_aload_n 13 hE 0 dX6_isWord_12 rfl rfl rfl ?_
        refine r_iload_n 14 hE 1 dX6_isWord_13 rfl rfl rfl ?_
        refine r_iload 16 hE 4 dX6_isWord_14 rfl rfl ?_
        refine r_iadd 17 hE (p + i) dX6_isWord_16 rfl rfl ?_
        refine r_callV 20 hE [0, 1] [] [(wTok g k tpa kk kp kn sz kc fg ps), (wBytes g tpa 900 tf)] [] 0 6 ok6 [] (c_X6_byteAt (by omega) (by omega)) dX6_isWord_17 rfl rfl wd_363 wd_364 wd_365 wd_3 wd_366 ne_X6 np_X6_byteAt (Nat.le_of_ble_eq_true rfl)  (by decide) (by decide) rfl (Nat.le_of_ble_eq_true rfl) rfl rfl rfl rfl (by decide) rfl (fun v1 f1 hp => ?_)
        obtain ⟨rfl, rfl⟩ := hp
        show G g E _ _ _ [(wTok g k tpa kk kp kn sz kc fg ps), (wBytes g tpa 900 tf)] 20 [(0, .ref (k 0)), (1, .int (iI p)), (2, .int (iI e)), (3, .ref (g.adK 0)), (4, .int (iI i))] [.int (iI (bA tf sz (p + i)))]
        refine r_aload_n 21 hE 3 dX6_isWord_20 rfl rfl rfl ?_
        refine r_iload 23 hE 4 dX6_isWord_21 rfl rfl ?_
        refine r_callT 26 hE [] [0, 1] [] [(wTok g k tpa kk kp kn sz kc fg ps), (wBytes g tpa 900 tf)] (by decide) [.int (iI (bA tf sz (p + i)))] (c_J0_charAt_5068e (by decide) (by omega)) dX6_isWord_23 rfl rfl wd_397 wd_398 wd_399 wd_13 wd_400 ne_J0 np_J0_charAt_5068e (Nat.le_of_ble_eq_true rfl)  (by decide) (by decide) rfl (Nat.le_of_ble_eq_true rfl) rfl rfl rfl rfl (by decide) (fun v1 f1 hp => ?_)
        obtain ⟨rfl, rfl⟩ := hp
        show G g E _ _ _ [(wTok g k tpa kk kp kn sz kc fg ps), (wBytes g tpa 900 tf)] 26 [(0, .ref (k 0)), (1, .int (iI p)), (2, .int (iI e)), (3, .ref (g.adK 0)), (4, .int (iI i))] [.int (iI (sByt 0 i)), .int (iI (bA tf sz (p + i)))]
        refine r_icmp_eq 29 31 hE dX6_isWord_26 rfl (by decide) (by have h1 := bA_rg hTB sz (p + i); have h2 := sByt_at (j := 0) (by decide) (k := i) (by omega); omega) (fun c26 => ?_) (fun c26 => ?_)
        · skip
          refine r_iinc 34 hE 4 (i + 1) [(4, .int (iI (i + 1))), (0, .ref (k 0)), (1, .int (iI p)), (2, .int (iI e)), (3, .ref (g.adK 0))] dX6_isWord_31 rfl rfl rfl (by decide) rfl ?_
          refine r_goto 3 hE dX6_isWord_34 (by decide) ?_
          refine G.to (fs' := [(wTok g k tpa kk kp kn sz kc fg ps), (wBytes g tpa 900 tf)]) (lv' := [(0, .ref (k 0)), (1, .int (iI p)), (2, .int (iI e)), (3, .ref (g.adK 0)), (4, .int (iI (i + 1)))]) [0, 1] [1, 2, 3, 4, 0] rfl rfl rfl ?_
          exact ih3 (i + 1) (by omega) (by first | exact (fun q a b => if z : q = i then z ▸ c26 else hv q a (by omega)) | exact (fun q a b => absurd b (by omega))) (by omega)
        · skip
          refine r_iconst 30 hE dX6_isWord_29 rfl ?_
          refine r_zreturn hE hR [(wTok g k tpa kk kp kn sz kc fg ps), (wBytes g tpa 900 tf)] dX6_isWord_30 (Nat.le_of_ble_eq_true rfl) (Nat.le_of_ble_eq_true rfl) (by decide) rfl ?_
          exact ⟨ret0 (fun z => c26 ((tx_iff.mp z).2 i hi.1 (by omega))), rfl⟩
  refine r_iconst 1 hE dX6_isWord_0 rfl ?_
  refine r_istore 3 hE [(4, .int (iI 0)), (0, .ref (k 0)), (1, .int (iI p)), (2, .int (iI e)), (3, .ref (g.adK 0))] dX6_isWord_1 rfl (by decide) rfl ?_
  refine G.to (fs' := [(wTok g k tpa kk kp kn sz kc fg ps), (wBytes g tpa 900 tf)]) (lv' := [(0, .ref (k 0)), (1, .int (iI p)), (2, .int (iI e)), (3, .ref (g.adK 0)), (4, .int (iI 0))]) [0, 1] [1, 2, 3, 4, 0] rfl rfl rfl ?_
  exact cut3 _ 0 (by omega) (by first | exact (fun q a b => if z : q = i then z ▸ c26 else hv q a (by omega)) | exact (fun q a b => absurd b (by omega))) (Nat.lt_succ_self _)
set_option maxHeartbeats 4000000 in
set_option maxRecDepth 100000 in
theorem c_X6_isWord_1 {g : Gm} {k : Nat → Nat} {tpa : Nat} {kk kp kn : Int → Int} {sz kc fg ps : Int} {tf : Int → Int} {p e : Int} (hsz : 0 ≤ sz ∧ sz ≤ 900) (hp : 0 ≤ p ∧ p ≤ 2000 ∧ 0 ≤ e ∧ e ≤ 2000) (hTB : BR tf) : Ct g 4 0 0 yX6_isWord cX6_isWord 5 (some .boolean) [.ref (k 0), .int (iI p), .int (iI e), .ref (g.adK 1)] [(wTok g k tpa kk kp kn sz kc fg ps), (wBytes g tpa 900 tf)] (fun v_ w_ => v_ = some (.int (iI (bI (isPt tf sz p e)))) ∧ w_ = [(wTok g k tpa kk kp kn sz kc fg ps), (wBytes g tpa 900 tf)]) := by
  refine Ct.of (by decide) (Nat.le_of_ble_eq_true rfl) (lv := [(0, .ref (k 0)), (1, .int (iI p)), (2, .int (iI e)), (3, .ref (g.adK 1))]) rfl ?_
  intro E hE hR hnm
  have hsl := sL1
  have cut3 : ∀ (N : Nat) (i : Int), (0 ≤ i ∧ i ≤ ((sLen 1 : Nat) : Int)) → (∀ q, 0 ≤ q → q < i → bA tf sz (p + q) = sByt 1 q) → (((sLen 1 : Nat) : Int) - i).toNat < N → G g E 5 0 0 [(wTok g k tpa kk kp kn sz kc fg ps), (wBytes g tpa 900 tf)] 3 [(0, .ref (k 0)), (1, .int (iI p)), (2, .int (iI e)), (3, .ref (g.adK 1)), (4, .int (iI i))] [] := by
    intro N
    induction N with
    | zero => intro i _ _ hN; exact absurd hN (Nat.not_lt_zero _)
    | succ N ih3 =>
      intro i hi hv hN
      refine r_iload 5 hE 4 dX6_isWord_3 rfl rfl ?_
      refine r_aload_n 6 hE 3 dX6_isWord_5 rfl rfl rfl ?_
      refine r_callT 9 hE [] [0, 1] [] [(wTok g k tpa kk kp kn sz kc fg ps), (wBytes g tpa 900 tf)] (by decide) [.int (iI i)] (c_J0_length_8abf5 (by first | exact hj | decide)) dX6_isWord_6 rfl rfl wd_387 wd_388 wd_389 wd_13 wd_390 ne_J0 np_J0_length_8abf5 (Nat.le_of_ble_eq_true rfl)  (by decide) (by decide) rfl (Nat.le_of_ble_eq_true rfl) rfl rfl rfl rfl (by decide) (fun v1 f1 hp => ?_)
      obtain ⟨rfl, rfl⟩ := hp
      show G g E _ _ _ [(wTok g k tpa kk kp kn sz kc fg ps), (wBytes g tpa 900 tf)] 9 [(0, .ref (k 0)), (1, .int (iI p)), (2, .int (iI e)), (3, .ref (g.adK 1)), (4, .int (iI i))] [.int (iI ((sLen 1 : Nat) : Int)), .int (iI i)]
      refine r_icmp_ge 12 37 hE dX6_isWord_9 rfl (by decide) (by omega) (fun c9 => ?_) (fun c9 => ?_)
      · skip
        refine r_iload_n 38 hE 2 dX6_isWord_37 rfl rfl rfl ?_
        refine r_iload_n 39 hE 1 dX6_isWord_38 rfl rfl rfl ?_
        refine r_isub 40 hE (e - p) dX6_isWord_39 rfl rfl ?_
        refine r_aload_n 41 hE 3 dX6_isWord_40 rfl rfl rfl ?_
        refine r_callT 44 hE [] [0, 1] [] [(wTok g k tpa kk kp kn sz kc fg ps), (wBytes g tpa 900 tf)] (by decide) [.int (iI (e - p))] (c_J0_length_8abf5 (by first | exact hj | decide)) dX6_isWord_41 rfl rfl wd_387 wd_388 wd_389 wd_13 wd_390 ne_J0 np_J0_length_8abf5 (Nat.le_of_ble_eq_true rfl)  (by decide) (by decide) rfl (Nat.le_of_ble_eq_true rfl) rfl rfl rfl rfl (by decide) (fun v1 f1 hp => ?_)
        obtain ⟨rfl, rfl⟩ := hp
        show G g E _ _ _ [(wTok g k tpa kk kp kn sz kc fg ps), (wBytes g tpa 900 tf)] 44 [(0, .ref (k 0)), (1, .int (iI p)), (2, .int (iI e)), (3, .ref (g.adK 1)), (4, .int (iI i))] [.int (iI ((sLen 1 : Nat) : Int)), .int (iI (e - p))]
        refine r_icmp_ne 47 51 hE dX6_isWord_44 rfl (by decide) (by omega) (fun c44 => ?_) (fun c44 => ?_)
        · skip
          refine r_iconst 52 hE dX6_isWord_51 rfl ?_
          refine r_zreturn hE hR [(wTok g k tpa kk kp kn sz kc fg ps), (wBytes g tpa 900 tf)] dX6_isWord_52 (Nat.le_of_ble_eq_true rfl) (Nat.le_of_ble_eq_true rfl) (by decide) rfl ?_
          first
            | exact ⟨ret0 (fun z => c44 (by have := (pt_iff.mp z).1; omega)), rfl⟩
            | exact ⟨ret1 (pt_iff.mpr ⟨by omega, fun q a b => hv q a (by omega)⟩), rfl⟩
        · skip
          refine r_iconst 48 hE dX6_isWord_47 rfl ?_
          refine r_goto 52 hE dX6_isWord_48 (by decide) ?_
          refine r_zreturn hE hR [(wTok g k tpa kk kp kn sz kc fg ps), (wBytes g tpa 900 tf)] dX6_isWord_52 (Nat.le_of_ble_eq_true rfl) (Nat.le_of_ble_eq_true rfl) (by decide) rfl ?_
          first
            | exact ⟨ret0 (fun z => c44 (by have := (pt_iff.mp z).1; omega)), rfl⟩
            | exact ⟨ret1 (pt_iff.mpr ⟨by omega, fun q a b => hv q a (by omega)⟩), rfl⟩
      · skip
        refine r_aload_n 13 hE 0 dX6_isWord_12 rfl rfl rfl ?_
        refine r_iload_n 14 hE 1 dX6_isWord_13 rfl rfl rfl ?_
        refine r_iload 16 hE 4 dX6_isWord_14 rfl rfl ?_
        refine r_iadd 17 hE (p + i) dX6_isWord_16 rfl rfl ?_
        refine r_callV 20 hE [0, 1] [] [(wTok g k tpa kk kp kn sz kc fg ps), (wBytes g tpa 900 tf)] [] 0 6 ok6 [] (c_X6_byteAt (by omega) (by omega)) dX6_isWord_17 rfl rfl wd_363 wd_364 wd_365 wd_3 wd_366 ne_X6 np_X6_byteAt (Nat.le_of_ble_eq_true rfl)  (by decide) (by decide) rfl (Nat.le_of_ble_eq_true rfl) rfl rfl rfl rfl (by decide) rfl (fun v1 f1 hp => ?_)
        obtain ⟨rfl, rfl⟩ := hp
        show G g E _ _ _ [(wTok g k tpa kk kp kn sz kc fg ps), (wBytes g tpa 900 tf)] 20 [(0, .ref (k 0)), (1, .int (iI p)), (2, .int (iI e)), (3, .ref (g.adK 1)), (4, .int (iI i))] [.int (iI (bA tf sz (p + i)))]
        refine r_aload_n 21 hE 3 dX6_isWord_20 rfl rfl rfl ?_
        refine r_iload 23 hE 4 dX6_isWord_21 rfl rfl ?_
        refine r_callT 26 hE [] [0, 1] [] [(wTok g k tpa kk kp kn sz kc fg ps), (wBytes g tpa 900 tf)] (by decide) [.int (iI (bA tf sz (p + i)))] (c_J0_charAt_5068e (by decide) (by omega)) dX6_isWord_23 rfl rfl wd_397 wd_398 wd_399 wd_13 wd_400 ne_J0 np_J0_charAt_5068e (Nat.le_of_ble_eq_true rfl)  (by decide) (by decide) rfl (Nat.le_of_ble_eq_true rfl) rfl rfl rfl rfl (by decide) (fun v1 f1 hp => ?_)
        obtain ⟨rfl, rfl⟩ := hp
        show G g E _ _ _ [(wTok g k tpa kk kp kn sz kc fg ps), (wBytes g tpa 900 tf)] 26 [(0, .ref (k 0)), (1, .int (iI p)), (2, .int (iI e)), (3, .ref (g.adK 1)), (4, .int (iI i))] [.int (iI (sByt 1 i)), .int (iI (bA tf sz (p + i)))]
        refine r_icmp_eq 29 31 hE dX6_isWord_26 rfl (by decide) (by have h1 := bA_rg hTB sz (p + i); have h2 := sByt_at (j := 1) (by decide) (k := i) (by omega); omega) (fun c26 => ?_) (fun c26 => ?_)
        · skip
          refine r_iinc 34 hE 4 (i + 1) [(4, .int (iI (i + 1))), (0, .ref (k 0)), (1, .int (iI p)), (2, .int (iI e)), (3, .ref (g.adK 1))] dX6_isWord_31 rfl rfl rfl (by decide) rfl ?_
          refine r_goto 3 hE dX6_isWord_34 (by decide) ?_
          refine G.to (fs' := [(wTok g k tpa kk kp kn sz kc fg ps), (wBytes g tpa 900 tf)]) (lv' := [(0, .ref (k 0)), (1, .int (iI p)), (2, .int (iI e)), (3, .ref (g.adK 1)), (4, .int (iI (i + 1)))]) [0, 1] [1, 2, 3, 4, 0] rfl rfl rfl ?_
          exact ih3 (i + 1) (by omega) (by first | exact (fun q a b => if z : q = i then z ▸ c26 else hv q a (by omega)) | exact (fun q a b => absurd b (by omega))) (by omega)
        · skip
          refine r_iconst 30 hE dX6_isWord_29 rfl ?_
          refine r_zreturn hE hR [(wTok g k tpa kk kp kn sz kc fg ps), (wBytes g tpa 900 tf)] dX6_isWord_30 (Nat.le_of_ble_eq_true rfl) (Nat.le_of_ble_eq_true rfl) (by decide) rfl ?_
          exact ⟨ret0 (fun z => c26 ((pt_iff.mp z).2 i hi.1 (by omega))), rfl⟩
  refine r_iconst 1 hE dX6_isWord_0 rfl ?_
  refine r_istore 3 hE [(4, .int (iI 0)), (0, .ref (k 0)), (1, .int (iI p)), (2, .int (iI e)), (3, .ref (g.adK 1))] dX6_isWord_1 rfl (by decide) rfl ?_
  refine G.to (fs' := [(wTok g k tpa kk kp kn sz kc fg ps), (wBytes g tpa 900 tf)]) (lv' := [(0, .ref (k 0)), (1, .int (iI p)), (2, .int (iI e)), (3, .ref (g.adK 1)), (4, .int (iI 0))]) [0, 1] [1, 2, 3, 4, 0] rfl rfl rfl ?_
  exact cut3 _ 0 (by omega) (by first | exact (fun q a b => if z : q = i then z ▸ c26 else hv q a (by omega)) | exact (fun q a b => absurd b (by omega))) (Nat.lt_succ_self _)
set_option maxHeartbeats 4000000 in
set_option maxRecDepth 100000 in
theorem c_X6_cutWord {g : Gm} {k : Nat → Nat} {tpa : Nat} {kk kp kn : Int → Int} {sz kc fg ps : Int} {tf : Int → Int} {p : Int} (hsz : 0 ≤ sz ∧ sz ≤ 900) (hkc : 0 ≤ kc ∧ kc ≤ 900) (hTB : BR tf) (hb : 0 ≤ p ∧ p < sz) (hs : smB (tf p) = true) : Ct g 5 0 0 yX6_cutWord cX6_cutWord 4 (some .int) [.ref (k 0), .int (iI p)] [(wTok g k tpa kk kp kn sz kc fg ps), (wBytes g tpa 900 tf)] (fun v_ w_ => v_ = some (.int (iI (tE tf sz p))) ∧ w_ = [(wTok g k tpa (up kk kc (tK tf sz p)) (up kp kc p) (up kn kc (tV tf sz p)) sz (kc + 1) fg ps), (wBytes g tpa 900 tf)]) := by
  refine Ct.of (by decide) (Nat.le_of_ble_eq_true rfl) (lv := [(0, .ref (k 0)), (1, .int (iI p))]) rfl ?_
  intro E hE hR hnm
  have hts := t_sm hb.2 hs
  have hle : smE tf sz p ≤ sz := fwd_le _ (by omega)
  have hge := smE_gt hb.2 hs
  refine r_aload_n 1 hE 0 dX6_cutWord_0 rfl rfl rfl ?_
  refine r_iload_n 2 hE 1 dX6_cutWord_1 rfl rfl rfl ?_
  refine r_callV 5 hE [0, 1] [] [(wTok g k tpa kk kp kn sz kc fg ps), (wBytes g tpa 900 tf)] [] 0 6 ok6 [] (c_X6_behindSmall (by omega) (by omega) (hTB)) dX6_cutWord_2 rfl rfl wd_378 wd_380 ws_4 wd_3 wd_381 ne_X6 np_X6_behindSmall (Nat.le_of_ble_eq_true rfl)  (by decide) (by decide) rfl (Nat.le_of_ble_eq_true rfl) rfl rfl rfl rfl (by decide) rfl (fun v1 f1 hp => ?_)
  obtain ⟨rfl, rfl⟩ := hp
  show G g E _ _ _ [(wTok g k tpa kk kp kn sz kc fg ps), (wBytes g tpa 900 tf)] 5 [(0, .ref (k 0)), (1, .int (iI p))] [.int (iI (smE tf sz p))]
  refine r_istore_n 6 hE [(2, .int (iI (smE tf sz p))), (0, .ref (k 0)), (1, .int (iI p))] dX6_cutWord_5 rfl rfl (by decide) rfl ?_
  refine r_aload_n 7 hE 1 dX6_cutWord_6 rfl rfl rfl ?_
  refine r_iload_n 8 hE 2 dX6_cutWord_7 rfl rfl rfl ?_
  refine r_iload_n 9 hE 0 dX6_cutWord_8 rfl rfl rfl ?_
  refine r_ldcS 11 hE dX6_cutWord_9 rfl hE.2.2.2.1.2.1.1 ?_
  refine r_callV 14 hE [0, 1] [] [(wTok g k tpa kk kp kn sz kc fg ps), (wBytes g tpa 900 tf)] [] 0 6 ok6 [] (c_X6_isWord_0 (by omega) (by omega) (hTB)) dX6_cutWord_11 rfl rfl wd_383 wd_385 ws_5 wd_3 wd_386 ne_X6 np_X6_isWord (Nat.le_of_ble_eq_true rfl)  (by decide) (by decide) rfl (Nat.le_of_ble_eq_true rfl) rfl rfl rfl rfl (by decide) rfl (fun v1 f1 hp => ?_)
  obtain ⟨rfl, rfl⟩ := hp
  show G g E _ _ _ [(wTok g k tpa kk kp kn sz kc fg ps), (wBytes g tpa 900 tf)] 14 [(2, .int (iI (smE tf sz p))), (0, .ref (k 0)), (1, .int (iI p))] [.int (iI (bI (isTx tf sz p (smE tf sz p))))]
  refine r_if_eq 17 21 hE dX6_cutWord_14 rfl (by decide) (bI_rg _) (fun c14 => ?_) (fun c14 => ?_)
  · skip
    have c14 := bI0 c14
    refine r_aload_n 22 hE 1 dX6_cutWord_21 rfl rfl rfl ?_
    refine r_iload_n 23 hE 2 dX6_cutWord_22 rfl rfl rfl ?_
    refine r_iload_n 24 hE 0 dX6_cutWord_23 rfl rfl rfl ?_
    refine r_ldcS 26 hE dX6_cutWord_24 rfl hE.2.2.2.1.2.1.2.1 ?_
    refine r_callV 29 hE [0, 1] [] [(wTok g k tpa kk kp kn sz kc fg ps), (wBytes g tpa 900 tf)] [] 0 6 ok6 [] (c_X6_isWord_1 (by omega) (by omega) (hTB)) dX6_cutWord_26 rfl rfl wd_383 wd_385 ws_5 wd_3 wd_386 ne_X6 np_X6_isWord (Nat.le_of_ble_eq_true rfl)  (by decide) (by decide) rfl (Nat.le_of_ble_eq_true rfl) rfl rfl rfl rfl (by decide) rfl (fun v1 f1 hp => ?_)
    obtain ⟨rfl, rfl⟩ := hp
    show G g E _ _ _ [(wTok g k tpa kk kp kn sz kc fg ps), (wBytes g tpa 900 tf)] 29 [(2, .int (iI (smE tf sz p))), (0, .ref (k 0)), (1, .int (iI p))] [.int (iI (bI (isPt tf sz p (smE tf sz p))))]
    refine r_if_eq 32 36 hE dX6_cutWord_29 rfl (by decide) (bI_rg _) (fun c29 => ?_) (fun c29 => ?_)
    · skip
      have c29 := bI0 c29
      have hkv : tK tf sz p = 2 := by rw [hts.2.1, if_neg c14, if_neg c29]
      refine r_iconst 37 hE dX6_cutWord_36 rfl ?_
      refine r_istore_n 38 hE [(3, .int (iI 2)), (2, .int (iI (smE tf sz p))), (0, .ref (k 0)), (1, .int (iI p))] dX6_cutWord_37 rfl rfl (by decide) rfl ?_
      refine r_aload_n 39 hE 2 dX6_cutWord_38 rfl rfl rfl ?_
      refine r_iload_n 40 hE 0 dX6_cutWord_39 rfl rfl rfl ?_
      refine r_iload_n 41 hE 3 dX6_cutWord_40 rfl rfl rfl ?_
      refine r_iconst 42 hE dX6_cutWord_41 rfl ?_
      refine r_callV 45 hE [0] [1] [(wTok g k tpa kk kp kn sz kc fg ps)] [(wBytes g tpa 900 tf)] 0 6 ok6 [] (c_X6_add (by omega)) dX6_cutWord_42 rfl rfl wd_436 wd_438 ws_6 wd_3 wd_439 ne_X6 np_X6_add (Nat.le_of_ble_eq_true rfl)  (by decide) (by decide) rfl (Nat.le_of_ble_eq_true rfl) rfl rfl rfl rfl (by decide) rfl (fun v1 f1 hp => ?_)
      obtain ⟨rfl, rfl⟩ := hp
      show G g E _ _ _ [(wTok g k tpa (up kk kc 2) (up kp kc p) (up kn kc 0) sz (kc + 1) fg ps), (wBytes g tpa 900 tf)] 45 [(3, .int (iI 2)), (2, .int (iI (smE tf sz p))), (0, .ref (k 0)), (1, .int (iI p))] []
      refine r_iload_n 46 hE 1 dX6_cutWord_45 rfl rfl rfl ?_
      refine r_ireturn hE hR [(wTok g k tpa (up kk kc 2) (up kp kc p) (up kn kc 0) sz (kc + 1) fg ps), (wBytes g tpa 900 tf)] dX6_cutWord_46 (Nat.le_of_ble_eq_true rfl) (Nat.le_of_ble_eq_true rfl) rfl ?_
      exact ⟨retI hts.1.symm, by rw [hts.2.2, hkv]⟩
    · skip
      have c29 := bI1 c29
      have hkv : tK tf sz p = 4 := by rw [hts.2.1, if_neg c14, if_pos c29]
      refine r_iconst 33 hE dX6_cutWord_32 rfl ?_
      refine r_goto 37 hE dX6_cutWord_33 (by decide) ?_
      refine r_istore_n 38 hE [(3, .int (iI 4)), (2, .int (iI (smE tf sz p))), (0, .ref (k 0)), (1, .int (iI p))] dX6_cutWord_37 rfl rfl (by decide) rfl ?_
      refine r_aload_n 39 hE 2 dX6_cutWord_38 rfl rfl rfl ?_
      refine r_iload_n 40 hE 0 dX6_cutWord_39 rfl rfl rfl ?_
      refine r_iload_n 41 hE 3 dX6_cutWord_40 rfl rfl rfl ?_
      refine r_iconst 42 hE dX6_cutWord_41 rfl ?_
      refine r_callV 45 hE [0] [1] [(wTok g k tpa kk kp kn sz kc fg ps)] [(wBytes g tpa 900 tf)] 0 6 ok6 [] (c_X6_add (by omega)) dX6_cutWord_42 rfl rfl wd_436 wd_438 ws_6 wd_3 wd_439 ne_X6 np_X6_add (Nat.le_of_ble_eq_true rfl)  (by decide) (by decide) rfl (Nat.le_of_ble_eq_true rfl) rfl rfl rfl rfl (by decide) rfl (fun v1 f1 hp => ?_)
      obtain ⟨rfl, rfl⟩ := hp
      show G g E _ _ _ [(wTok g k tpa (up kk kc 4) (up kp kc p) (up kn kc 0) sz (kc + 1) fg ps), (wBytes g tpa 900 tf)] 45 [(3, .int (iI 4)), (2, .int (iI (smE tf sz p))), (0, .ref (k 0)), (1, .int (iI p))] []
      refine r_iload_n 46 hE 1 dX6_cutWord_45 rfl rfl rfl ?_
      refine r_ireturn hE hR [(wTok g k tpa (up kk kc 4) (up kp kc p) (up kn kc 0) sz (kc + 1) fg ps), (wBytes g tpa 900 tf)] dX6_cutWord_46 (Nat.le_of_ble_eq_true rfl) (Nat.le_of_ble_eq_true rfl) rfl ?_
      exact ⟨retI hts.1.symm, by rw [hts.2.2, hkv]⟩
  · skip
    have c14 := bI1 c14
    have hkv : tK tf sz p = 3 := by rw [hts.2.1, if_pos c14]
    refine r_iconst 18 hE dX6_cutWord_17 rfl ?_
    refine r_goto 37 hE dX6_cutWord_18 (by decide) ?_
    refine r_istore_n 38 hE [(3, .int (iI 3)), (2, .int (iI (smE tf sz p))), (0, .ref (k 0)), (1, .int (iI p))] dX6_cutWord_37 rfl rfl (by decide) rfl ?_
    refine r_aload_n 39 hE 2 dX6_cutWord_38 rfl rfl rfl ?_
    refine r_iload_n 40 hE 0 dX6_cutWord_39 rfl rfl rfl ?_
    refine r_iload_n 41 hE 3 dX6_cutWord_40 rfl rfl rfl ?_
    refine r_iconst 42 hE dX6_cutWord_41 rfl ?_
    refine r_callV 45 hE [0] [1] [(wTok g k tpa kk kp kn sz kc fg ps)] [(wBytes g tpa 900 tf)] 0 6 ok6 [] (c_X6_add (by omega)) dX6_cutWord_42 rfl rfl wd_436 wd_438 ws_6 wd_3 wd_439 ne_X6 np_X6_add (Nat.le_of_ble_eq_true rfl)  (by decide) (by decide) rfl (Nat.le_of_ble_eq_true rfl) rfl rfl rfl rfl (by decide) rfl (fun v1 f1 hp => ?_)
    obtain ⟨rfl, rfl⟩ := hp
    show G g E _ _ _ [(wTok g k tpa (up kk kc 3) (up kp kc p) (up kn kc 0) sz (kc + 1) fg ps), (wBytes g tpa 900 tf)] 45 [(3, .int (iI 3)), (2, .int (iI (smE tf sz p))), (0, .ref (k 0)), (1, .int (iI p))] []
    refine r_iload_n 46 hE 1 dX6_cutWord_45 rfl rfl rfl ?_
    refine r_ireturn hE hR [(wTok g k tpa (up kk kc 3) (up kp kc p) (up kn kc 0) sz (kc + 1) fg ps), (wBytes g tpa 900 tf)] dX6_cutWord_46 (Nat.le_of_ble_eq_true rfl) (Nat.le_of_ble_eq_true rfl) rfl ?_
    exact ⟨retI hts.1.symm, by rw [hts.2.2, hkv]⟩
set_option maxHeartbeats 4000000 in
set_option maxRecDepth 100000 in
theorem c_X6_cutNumber {g : Gm} {k : Nat → Nat} {tpa : Nat} {kk kp kn : Int → Int} {sz kc fg ps : Int} {tf : Int → Int} {p : Int} (hsz : 0 ≤ sz ∧ sz ≤ 900) (hkc : 0 ≤ kc ∧ kc ≤ 900) (hTB : BR tf) (hb : 0 ≤ p ∧ p < sz) (hs : smB (tf p) = false) (hd : dgB (tf p) = true) : Ct g 1 0 0 yX6_cutNumber cX6_cutNumber 4 (some .int) [.ref (k 0), .int (iI p)] [(wTok g k tpa kk kp kn sz kc fg ps), (wBytes g tpa 900 tf)] (fun v_ w_ => v_ = some (.int (iI (tE tf sz p))) ∧ w_ = [(wTok g k tpa (up kk kc (tK tf sz p)) (up kp kc p) (up kn kc (tV tf sz p)) sz (kc + 1) fg ps), (wBytes g tpa 900 tf)]) := by
  refine Ct.of (by decide) (Nat.le_of_ble_eq_true rfl) (lv := [(0, .ref (k 0)), (1, .int (iI p))]) rfl ?_
  intro E hE hR hnm
  have hts := t_dg hb.2 hs hd
  have hle : dgE tf sz p ≤ sz := fwd_le _ (by omega)
  have cut4 : ∀ (N : Nat) (i : Int), (p ≤ i ∧ i ≤ sz) → (dgE tf sz p = dgE tf sz i) → (∀ q, p ≤ q → q < i → dgB (tf q) = true) → (sz - i).toNat < N → G g E 4 0 0 [(wTok g k tpa kk kp kn sz kc fg ps), (wBytes g tpa 900 tf)] 4 [(0, .ref (k 0)), (1, .int (iI p)), (2, .int (iI (dcN tf p (i - p).toNat))), (3, .int (iI i))] [] := by
    intro N
    induction N with
    | zero => intro i _ _ _ hN; exact absurd hN (Nat.not_lt_zero _)
    | succ N ih4 =>
      intro i hi hv ha hN
      have hdr := dcN_rg (B := tf) (p := p) (i - p).toNat (fun q a b => ha q a (by omega))
      refine r_iload_n 5 hE 3 dX6_cutNumber_4 rfl rfl rfl ?_
      refine r_aload_n 6 hE 0 dX6_cutNumber_5 rfl rfl rfl ?_
      refine r_get 9 hE 0 0 ok6 4 dX6_cutNumber_6 rfl wd_45 rfl rfl (by decide) rfl ?_
      refine r_icmp_ge 12 47 hE dX6_cutNumber_9 rfl (by decide) (by omega) (fun c9 => ?_) (fun c9 => ?_)
      · skip
        have hei : dgE tf sz p = i := by rw [hv]; exact dg_stop (Or.inl (by omega))
        refine r_aload_n 48 hE 0 dX6_cutNumber_47 rfl rfl rfl ?_
        refine r_iload_n 49 hE 3 dX6_cutNumber_48 rfl rfl rfl ?_
        refine r_iload_n 50 hE 1 dX6_cutNumber_49 rfl rfl rfl ?_
        refine r_isub 51 hE (i - p) dX6_cutNumber_50 rfl rfl ?_
        refine r_iconst 52 hE dX6_cutNumber_51 rfl ?_
        refine r_icmp_gt 55 59 hE dX6_cutNumber_52 rfl (by decide) (by omega) (fun c52 => ?_) (fun c52 => ?_)
        · skip
          have hkv : tK tf sz p = 1 := by rw [hts.2.1, if_neg (by rw [hei]; omega)]
          refine r_iconst 60 hE dX6_cutNumber_59 rfl ?_
          refine r_iload_n 61 hE 1 dX6_cutNumber_60 rfl rfl rfl ?_
          refine r_iload_n 62 hE 2 dX6_cutNumber_61 rfl rfl rfl ?_
          refine r_callV 65 hE [0] [1] [(wTok g k tpa kk kp kn sz kc fg ps)] [(wBytes g tpa 900 tf)] 0 6 ok6 [] (c_X6_add (by omega)) dX6_cutNumber_62 rfl rfl wd_436 wd_438 ws_6 wd_3 wd_439 ne_X6 np_X6_add (Nat.le_of_ble_eq_true rfl)  (by decide) (by decide) rfl (Nat.le_of_ble_eq_true rfl) rfl rfl rfl rfl (by decide) rfl (fun v1 f1 hp => ?_)
          obtain ⟨rfl, rfl⟩ := hp
          show G g E _ _ _ [(wTok g k tpa (up kk kc 1) (up kp kc p) (up kn kc (dcN tf p (i - p).toNat)) sz (kc + 1) fg ps), (wBytes g tpa 900 tf)] 65 [(0, .ref (k 0)), (1, .int (iI p)), (2, .int (iI (dcN tf p (i - p).toNat))), (3, .int (iI i))] []
          refine r_iload_n 66 hE 3 dX6_cutNumber_65 rfl rfl rfl ?_
          refine r_ireturn hE hR [(wTok g k tpa (up kk kc 1) (up kp kc p) (up kn kc (dcN tf p (i - p).toNat)) sz (kc + 1) fg ps), (wBytes g tpa 900 tf)] dX6_cutNumber_66 (Nat.le_of_ble_eq_true rfl) (Nat.le_of_ble_eq_true rfl) rfl ?_
          rw [hei] at hts
          exact ⟨retI hts.1.symm, by rw [hts.2.2, hkv]⟩
        · skip
          have hkv : tK tf sz p = 5 := by rw [hts.2.1, if_pos (by rw [hei]; omega)]
          refine r_iconst 56 hE dX6_cutNumber_55 rfl ?_
          refine r_goto 60 hE dX6_cutNumber_56 (by decide) ?_
          refine r_iload_n 61 hE 1 dX6_cutNumber_60 rfl rfl rfl ?_
          refine r_iload_n 62 hE 2 dX6_cutNumber_61 rfl rfl rfl ?_
          refine r_callV 65 hE [0] [1] [(wTok g k tpa kk kp kn sz kc fg ps)] [(wBytes g tpa 900 tf)] 0 6 ok6 [] (c_X6_add (by omega)) dX6_cutNumber_62 rfl rfl wd_436 wd_438 ws_6 wd_3 wd_439 ne_X6 np_X6_add (Nat.le_of_ble_eq_true rfl)  (by decide) (by decide) rfl (Nat.le_of_ble_eq_true rfl) rfl rfl rfl rfl (by decide) rfl (fun v1 f1 hp => ?_)
          obtain ⟨rfl, rfl⟩ := hp
          show G g E _ _ _ [(wTok g k tpa (up kk kc 5) (up kp kc p) (up kn kc (dcN tf p (i - p).toNat)) sz (kc + 1) fg ps), (wBytes g tpa 900 tf)] 65 [(0, .ref (k 0)), (1, .int (iI p)), (2, .int (iI (dcN tf p (i - p).toNat))), (3, .int (iI i))] []
          refine r_iload_n 66 hE 3 dX6_cutNumber_65 rfl rfl rfl ?_
          refine r_ireturn hE hR [(wTok g k tpa (up kk kc 5) (up kp kc p) (up kn kc (dcN tf p (i - p).toNat)) sz (kc + 1) fg ps), (wBytes g tpa 900 tf)] dX6_cutNumber_66 (Nat.le_of_ble_eq_true rfl) (Nat.le_of_ble_eq_true rfl) rfl ?_
          rw [hei] at hts
          exact ⟨retI hts.1.symm, by rw [hts.2.2, hkv]⟩
      · skip
        refine r_aload_n 13 hE 0 dX6_cutNumber_12 rfl rfl rfl ?_
        refine r_iload_n 14 hE 3 dX6_cutNumber_13 rfl rfl rfl ?_
        refine r_callV 17 hE [0, 1] [] [(wTok g k tpa kk kp kn sz kc fg ps), (wBytes g tpa 900 tf)] [] 0 6 ok6 [] (c_X6_byteAt (by omega) (by omega)) dX6_cutNumber_14 rfl rfl wd_363 wd_364 wd_365 wd_3 wd_366 ne_X6 np_X6_byteAt (Nat.le_of_ble_eq_true rfl)  (by decide) (by decide) rfl (Nat.le_of_ble_eq_true rfl) rfl rfl rfl rfl (by decide) rfl (fun v1 f1 hp => ?_)
        obtain ⟨rfl, rfl⟩ := hp
        show G g E _ _ _ [(wTok g k tpa kk kp kn sz kc fg ps), (wBytes g tpa 900 tf)] 17 [(0, .ref (k 0)), (1, .int (iI p)), (2, .int (iI (dcN tf p (i - p).toNat))), (3, .int (iI i))] [.int (iI (bA tf sz i))]
        refine r_callS 20 hE [] [0, 1] [] [(wTok g k tpa kk kp kn sz kc fg ps), (wBytes g tpa 900 tf)] [] (c_X6_isDigit (by have := bA_rg hTB sz i; omega)) dX6_cutNumber_17 rfl wd_440 wd_441 wd_3 wd_442 ne_X6 np_X6_isDigit (Nat.le_of_ble_eq_true rfl)  (by decide) (by decide) rfl (Nat.le_of_ble_eq_true rfl) rfl rfl rfl rfl (by decide) (fun v1 f1 hp => ?_)
        obtain ⟨rfl, rfl⟩ := hp
        show G g E _ _ _ [(wTok g k tpa kk kp kn sz kc fg ps), (wBytes g tpa 900 tf)] 20 [(0, .ref (k 0)), (1, .int (iI p)), (2, .int (iI (dcN tf p (i - p).toNat))), (3, .int (iI i))] [.int (iI (bI (48 ≤ (bA tf sz i) ∧ (bA tf sz i) ≤ 57)))]
        refine r_if_eq 23 47 hE dX6_cutNumber_20 rfl (by decide) (bI_rg _) (fun c20 => ?_) (fun c20 => ?_)
        · skip
          have c20 := bI0 c20
          rw [bA_in (by omega)] at c20
          have hei : dgE tf sz p = i := by rw [hv]; exact dg_stop (Or.inr c20)
          refine r_aload_n 48 hE 0 dX6_cutNumber_47 rfl rfl rfl ?_
          refine r_iload_n 49 hE 3 dX6_cutNumber_48 rfl rfl rfl ?_
          refine r_iload_n 50 hE 1 dX6_cutNumber_49 rfl rfl rfl ?_
          refine r_isub 51 hE (i - p) dX6_cutNumber_50 rfl rfl ?_
          refine r_iconst 52 hE dX6_cutNumber_51 rfl ?_
          refine r_icmp_gt 55 59 hE dX6_cutNumber_52 rfl (by decide) (by omega) (fun c52 => ?_) (fun c52 => ?_)
          · skip
            have hkv : tK tf sz p = 1 := by rw [hts.2.1, if_neg (by rw [hei]; omega)]
            refine r_iconst 60 hE dX6_cutNumber_59 rfl ?_
            refine r_iload_n 61 hE 1 dX6_cutNumber_60 rfl rfl rfl ?_
            refine r_iload_n 62 hE 2 dX6_cutNumber_61 rfl rfl rfl ?_
            refine r_callV 65 hE [0] [1] [(wTok g k tpa kk kp kn sz kc fg ps)] [(wBytes g tpa 900 tf)] 0 6 ok6 [] (c_X6_add (by omega)) dX6_cutNumber_62 rfl rfl wd_436 wd_438 ws_6 wd_3 wd_439 ne_X6 np_X6_add (Nat.le_of_ble_eq_true rfl)  (by decide) (by decide) rfl (Nat.le_of_ble_eq_true rfl) rfl rfl rfl rfl (by decide) rfl (fun v1 f1 hp => ?_)
            obtain ⟨rfl, rfl⟩ := hp
            show G g E _ _ _ [(wTok g k tpa (up kk kc 1) (up kp kc p) (up kn kc (dcN tf p (i - p).toNat)) sz (kc + 1) fg ps), (wBytes g tpa 900 tf)] 65 [(0, .ref (k 0)), (1, .int (iI p)), (2, .int (iI (dcN tf p (i - p).toNat))), (3, .int (iI i))] []
            refine r_iload_n 66 hE 3 dX6_cutNumber_65 rfl rfl rfl ?_
            refine r_ireturn hE hR [(wTok g k tpa (up kk kc 1) (up kp kc p) (up kn kc (dcN tf p (i - p).toNat)) sz (kc + 1) fg ps), (wBytes g tpa 900 tf)] dX6_cutNumber_66 (Nat.le_of_ble_eq_true rfl) (Nat.le_of_ble_eq_true rfl) rfl ?_
            rw [hei] at hts
            exact ⟨retI hts.1.symm, by rw [hts.2.2, hkv]⟩
          · skip
            have hkv : tK tf sz p = 5 := by rw [hts.2.1, if_pos (by rw [hei]; omega)]
            refine r_iconst 56 hE dX6_cutNumber_55 rfl ?_
            refine r_goto 60 hE dX6_cutNumber_56 (by decide) ?_
            refine r_iload_n 61 hE 1 dX6_cutNumber_60 rfl rfl rfl ?_
            refine r_iload_n 62 hE 2 dX6_cutNumber_61 rfl rfl rfl ?_
            refine r_callV 65 hE [0] [1] [(wTok g k tpa kk kp kn sz kc fg ps)] [(wBytes g tpa 900 tf)] 0 6 ok6 [] (c_X6_add (by omega)) dX6_cutNumber_62 rfl rfl wd_436 wd_438 ws_6 wd_3 wd_439 ne_X6 np_X6_add (Nat.le_of_ble_eq_true rfl)  (by decide) (by decide) rfl (Nat.le_of_ble_eq_true rfl) rfl rfl rfl rfl (by decide) rfl (fun v1 f1 hp => ?_)
            obtain ⟨rfl, rfl⟩ := hp
            show G g E _ _ _ [(wTok g k tpa (up kk kc 5) (up kp kc p) (up kn kc (dcN tf p (i - p).toNat)) sz (kc + 1) fg ps), (wBytes g tpa 900 tf)] 65 [(0, .ref (k 0)), (1, .int (iI p)), (2, .int (iI (dcN tf p (i - p).toNat))), (3, .int (iI i))] []
            refine r_iload_n 66 hE 3 dX6_cutNumber_65 rfl rfl rfl ?_
            refine r_ireturn hE hR [(wTok g k tpa (up kk kc 5) (up kp kc p) (up kn kc (dcN tf p (i - p).toNat)) sz (kc + 1) fg ps), (wBytes g tpa 900 tf)] dX6_cutNumber_66 (Nat.le_of_ble_eq_true rfl) (Nat.le_of_ble_eq_true rfl) rfl ?_
            rw [hei] at hts
            exact ⟨retI hts.1.symm, by rw [hts.2.2, hkv]⟩
        · skip
          have c20 := bI1 c20
          rw [bA_in (by omega)] at c20
          have hv2 := hv.trans (dg_step (by omega) c20)
          have ha2 : ∀ q, p ≤ q → q < i + 1 → dgB (tf q) = true := fun q a b => if z : q = i then z ▸ dgB_iff.mpr c20 else ha q a (by omega)
          refine r_iload_n 24 hE 2 dX6_cutNumber_23 rfl rfl rfl ?_
          refine r_sipush 27 hE dX6_cutNumber_24 rfl (by decide) ?_
          refine r_irem 28 hE dX6_cutNumber_27 rfl (by omega) ?_
          refine r_bipush 30 hE dX6_cutNumber_28 rfl (by decide) ?_
          refine r_imul 31 hE (((dcN tf p (i - p).toNat) % 1000) * 10) dX6_cutNumber_30 rfl rfl ?_
          refine r_aload_n 32 hE 0 dX6_cutNumber_31 rfl rfl rfl ?_
          refine r_iload_n 33 hE 3 dX6_cutNumber_32 rfl rfl rfl ?_
          refine r_callV 36 hE [0, 1] [] [(wTok g k tpa kk kp kn sz kc fg ps), (wBytes g tpa 900 tf)] [] 0 6 ok6 [.int (iI (((dcN tf p (i - p).toNat) % 1000) * 10))] (c_X6_byteAt (by omega) (by omega)) dX6_cutNumber_33 rfl rfl wd_363 wd_364 wd_365 wd_3 wd_366 ne_X6 np_X6_byteAt (Nat.le_of_ble_eq_true rfl)  (by decide) (by decide) rfl (Nat.le_of_ble_eq_true rfl) rfl rfl rfl rfl (by decide) rfl (fun v1 f1 hp => ?_)
          obtain ⟨rfl, rfl⟩ := hp
          show G g E _ _ _ [(wTok g k tpa kk kp kn sz kc fg ps), (wBytes g tpa 900 tf)] 36 [(0, .ref (k 0)), (1, .int (iI p)), (2, .int (iI (dcN tf p (i - p).toNat))), (3, .int (iI i))] [.int (iI (bA tf sz i)), .int (iI (((dcN tf p (i - p).toNat) % 1000) * 10))]
          rw [show (bA tf sz i : Int) = tf i from bA_in (by omega)]
          refine r_iadd 37 hE ((((dcN tf p (i - p).toNat) % 1000) * 10) + (tf i)) dX6_cutNumber_36 rfl rfl ?_
          refine r_bipush 39 hE dX6_cutNumber_37 rfl (by decide) ?_
          refine r_isub 40 hE (((((dcN tf p (i - p).toNat) % 1000) * 10) + (tf i)) - 48) dX6_cutNumber_39 rfl rfl ?_
          refine r_istore_n 41 hE [(2, .int (iI (((((dcN tf p (i - p).toNat) % 1000) * 10) + (tf i)) - 48))), (0, .ref (k 0)), (1, .int (iI p)), (3, .int (iI i))] dX6_cutNumber_40 rfl rfl (by decide) rfl ?_
          refine r_iinc 44 hE 3 (i + 1) [(3, .int (iI (i + 1))), (2, .int (iI (((((dcN tf p (i - p).toNat) % 1000) * 10) + (tf i)) - 48))), (0, .ref (k 0)), (1, .int (iI p))] dX6_cutNumber_41 rfl rfl rfl (by decide) rfl ?_
          refine r_goto 4 hE dX6_cutNumber_44 (by decide) ?_
          refine G.to (fs' := [(wTok g k tpa kk kp kn sz kc fg ps), (wBytes g tpa 900 tf)]) (lv' := [(0, .ref (k 0)), (1, .int (iI p)), (2, .int (iI (((((dcN tf p (i - p).toNat) % 1000) * 10) + (tf i)) - 48))), (3, .int (iI (i + 1)))]) [0, 1] [2, 3, 1, 0] rfl rfl rfl ?_
          refine G.cast (fs' := [(wTok g k tpa kk kp kn sz kc fg ps), (wBytes g tpa 900 tf)]) (lv' := [(0, .ref (k 0)), (1, .int (iI p)), (2, .int (iI (dcN tf p ((i + 1) - p).toNat))), (3, .int (iI (i + 1)))]) rfl (congrArg (fun z9 : Int => ([(0, .ref (k 0)), (1, .int (iI p)), (2, .int (iI z9)), (3, .int (iI (i + 1)))] : List (Nat × Value))) (show (((((dcN tf p (i - p).toNat) % 1000) * 10) + (tf i)) - 48 : Int) = dcN tf p ((i + 1) - p).toNat from by first | exact (dcN_next (by omega)).symm | (rw [show (p - p).toNat = 0 by omega]; rfl))) ?_
          exact ih4 (i + 1) (by omega) (by first | exact hv2 | rfl) (by first | exact ha2 | exact (fun q a b => absurd b (by omega))) (by omega)
  refine r_iconst 1 hE dX6_cutNumber_0 rfl ?_
  refine r_istore_n 2 hE [(2, .int (iI 0)), (0, .ref (k 0)), (1, .int (iI p))] dX6_cutNumber_1 rfl rfl (by decide) rfl ?_
  refine r_iload_n 3 hE 2 dX6_cutNumber_2 rfl rfl rfl ?_
  refine r_istore_n 4 hE [(3, .int (iI p)), (2, .int (iI 0)), (0, .ref (k 0)), (1, .int (iI p))] dX6_cutNumber_3 rfl rfl (by decide) rfl ?_
  refine G.to (fs' := [(wTok g k tpa kk kp kn sz kc fg ps), (wBytes g tpa 900 tf)]) (lv' := [(0, .ref (k 0)), (1, .int (iI p)), (2, .int (iI 0)), (3, .int (iI p))]) [0, 1] [2, 3, 1, 0] rfl rfl rfl ?_
  refine G.cast (fs' := [(wTok g k tpa kk kp kn sz kc fg ps), (wBytes g tpa 900 tf)]) (lv' := [(0, .ref (k 0)), (1, .int (iI p)), (2, .int (iI (dcN tf p (p - p).toNat))), (3, .int (iI p))]) rfl (congrArg (fun z9 : Int => ([(0, .ref (k 0)), (1, .int (iI p)), (2, .int (iI z9)), (3, .int (iI p))] : List (Nat × Value))) (show (0 : Int) = dcN tf p (p - p).toNat from by first | exact (dcN_next (by omega)).symm | (rw [show (p - p).toNat = 0 by omega]; rfl))) ?_
  exact cut4 _ p (by omega) (by first | exact hv2 | rfl) (by first | exact ha2 | exact (fun q a b => absurd b (by omega))) (Nat.lt_succ_self _)
set_option maxHeartbeats 4000000 in
set_option maxRecDepth 100000 in
theorem c_X6_cutQuote {g : Gm} {k : Nat → Nat} {tpa : Nat} {kk kp kn : Int → Int} {sz kc fg ps : Int} {tf : Int → Int} {p : Int} (hsz : 0 ≤ sz ∧ sz ≤ 900) (hkc : 0 ≤ kc ∧ kc ≤ 900) (hTB : BR tf) (hb : 0 ≤ p ∧ p < sz) (hq : tf p = 34) : Ct g 2 0 0 yX6_cutQuote cX6_cutQuote 4 (some .int) [.ref (k 0), .int (iI p)] [(wTok g k tpa kk kp kn sz kc fg ps), (wBytes g tpa 900 tf)] (fun v_ w_ => v_ = some (.int (iI (tE tf sz p))) ∧ w_ = [(wTok g k tpa (up kk kc (tK tf sz p)) (up kp kc p) (up kn kc (tV tf sz p)) sz (kc + 1) fg ps), (wBytes g tpa 900 tf)]) := by
  refine Ct.of (by decide) (Nat.le_of_ble_eq_true rfl) (lv := [(0, .ref (k 0)), (1, .int (iI p))]) rfl ?_
  intro E hE hR hnm
  have hts := t_qt hb.2 hq
  have hle : smE tf sz (p + 1) ≤ sz := fwd_le _ (by omega)
  have hge : p + 1 ≤ smE tf sz (p + 1) := fwd_ge _ _ _
  refine r_aload_n 1 hE 0 dX6_cutQuote_0 rfl rfl rfl ?_
  refine r_iload_n 2 hE 1 dX6_cutQuote_1 rfl rfl rfl ?_
  refine r_iconst 3 hE dX6_cutQuote_2 rfl ?_
  refine r_iadd 4 hE (p + 1) dX6_cutQuote_3 rfl rfl ?_
  refine r_callV 7 hE [0, 1] [] [(wTok g k tpa kk kp kn sz kc fg ps), (wBytes g tpa 900 tf)] [] 0 6 ok6 [] (c_X6_behindSmall (by omega) (by omega) (hTB)) dX6_cutQuote_4 rfl rfl wd_378 wd_380 ws_4 wd_3 wd_381 ne_X6 np_X6_behindSmall (Nat.le_of_ble_eq_true rfl)  (by decide) (by decide) rfl (Nat.le_of_ble_eq_true rfl) rfl rfl rfl rfl (by decide) rfl (fun v1 f1 hp => ?_)
  obtain ⟨rfl, rfl⟩ := hp
  show G g E _ _ _ [(wTok g k tpa kk kp kn sz kc fg ps), (wBytes g tpa 900 tf)] 7 [(0, .ref (k 0)), (1, .int (iI p))] [.int (iI (smE tf sz (p + 1)))]
  refine r_istore_n 8 hE [(2, .int (iI (smE tf sz (p + 1)))), (0, .ref (k 0)), (1, .int (iI p))] dX6_cutQuote_7 rfl rfl (by decide) rfl ?_
  refine r_iload_n 9 hE 0 dX6_cutQuote_8 rfl rfl rfl ?_
  refine r_iload_n 10 hE 2 dX6_cutQuote_9 rfl rfl rfl ?_
  refine r_isub 11 hE ((smE tf sz (p + 1)) - p) dX6_cutQuote_10 rfl rfl ?_
  refine r_iconst 12 hE dX6_cutQuote_11 rfl ?_
  refine r_isub 13 hE (((smE tf sz (p + 1)) - p) - 1) dX6_cutQuote_12 rfl rfl ?_
  refine r_istore_n 14 hE [(3, .int (iI (((smE tf sz (p + 1)) - p) - 1))), (2, .int (iI (smE tf sz (p + 1)))), (0, .ref (k 0)), (1, .int (iI p))] dX6_cutQuote_13 rfl rfl (by decide) rfl ?_
  refine r_aload_n 15 hE 2 dX6_cutQuote_14 rfl rfl rfl ?_
  refine r_iload_n 16 hE 0 dX6_cutQuote_15 rfl rfl rfl ?_
  refine r_if_le 19 34 hE dX6_cutQuote_16 rfl (by decide) (by omega) (fun c16 => ?_) (fun c16 => ?_)
  · skip
    have hkv : tK tf sz p = 1 := by rw [hts.2.1, if_neg (fun z => by omega)]
    refine r_iconst 35 hE dX6_cutQuote_34 rfl ?_
    refine r_iload_n 36 hE 3 dX6_cutQuote_35 rfl rfl rfl ?_
    refine r_iload_n 37 hE 0 dX6_cutQuote_36 rfl rfl rfl ?_
    refine r_callV 40 hE [0] [1] [(wTok g k tpa kk kp kn sz kc fg ps)] [(wBytes g tpa 900 tf)] 0 6 ok6 [] (c_X6_add (by omega)) dX6_cutQuote_37 rfl rfl wd_436 wd_438 ws_6 wd_3 wd_439 ne_X6 np_X6_add (Nat.le_of_ble_eq_true rfl)  (by decide) (by decide) rfl (Nat.le_of_ble_eq_true rfl) rfl rfl rfl rfl (by decide) rfl (fun v1 f1 hp => ?_)
    obtain ⟨rfl, rfl⟩ := hp
    show G g E _ _ _ [(wTok g k tpa (up kk kc 1) (up kp kc p) (up kn kc (((smE tf sz (p + 1)) - p) - 1)) sz (kc + 1) fg ps), (wBytes g tpa 900 tf)] 40 [(3, .int (iI (((smE tf sz (p + 1)) - p) - 1))), (2, .int (iI (smE tf sz (p + 1)))), (0, .ref (k 0)), (1, .int (iI p))] []
    refine r_iload_n 41 hE 1 dX6_cutQuote_40 rfl rfl rfl ?_
    refine r_iconst 42 hE dX6_cutQuote_41 rfl ?_
    refine r_iadd 43 hE ((smE tf sz (p + 1)) + 1) dX6_cutQuote_42 rfl rfl ?_
    refine r_ireturn hE hR [(wTok g k tpa (up kk kc 1) (up kp kc p) (up kn kc (((smE tf sz (p + 1)) - p) - 1)) sz (kc + 1) fg ps), (wBytes g tpa 900 tf)] dX6_cutQuote_43 (Nat.le_of_ble_eq_true rfl) (Nat.le_of_ble_eq_true rfl) rfl ?_
    exact ⟨retI hts.1.symm, by rw [hts.2.2, hkv]⟩
  · skip
    refine r_aload_n 20 hE 2 dX6_cutQuote_19 rfl rfl rfl ?_
    refine r_iload_n 21 hE 1 dX6_cutQuote_20 rfl rfl rfl ?_
    refine r_callV 24 hE [0, 1] [] [(wTok g k tpa kk kp kn sz kc fg ps), (wBytes g tpa 900 tf)] [] 0 6 ok6 [.ref (k 0)] (c_X6_byteAt (by omega) (by omega)) dX6_cutQuote_21 rfl rfl wd_363 wd_364 wd_365 wd_3 wd_366 ne_X6 np_X6_byteAt (Nat.le_of_ble_eq_true rfl)  (by decide) (by decide) rfl (Nat.le_of_ble_eq_true rfl) rfl rfl rfl rfl (by decide) rfl (fun v1 f1 hp => ?_)
    obtain ⟨rfl, rfl⟩ := hp
    show G g E _ _ _ [(wTok g k tpa kk kp kn sz kc fg ps), (wBytes g tpa 900 tf)] 24 [(3, .int (iI (((smE tf sz (p + 1)) - p) - 1))), (2, .int (iI (smE tf sz (p + 1)))), (0, .ref (k 0)), (1, .int (iI p))] [.int (iI (bA tf sz (smE tf sz (p + 1)))), .ref (k 0)]
    refine r_bipush 26 hE dX6_cutQuote_24 rfl (by decide) ?_
    refine r_icmp_ne 29 34 hE dX6_cutQuote_26 rfl (by decide) (by have := bA_rg hTB sz (smE tf sz (p + 1)); omega) (fun c26 => ?_) (fun c26 => ?_)
    · skip
      have hkv : tK tf sz p = 1 := by rw [hts.2.1, if_neg (fun z => c26 z.2)]
      refine r_iconst 35 hE dX6_cutQuote_34 rfl ?_
      refine r_iload_n 36 hE 3 dX6_cutQuote_35 rfl rfl rfl ?_
      refine r_iload_n 37 hE 0 dX6_cutQuote_36 rfl rfl rfl ?_
      refine r_callV 40 hE [0] [1] [(wTok g k tpa kk kp kn sz kc fg ps)] [(wBytes g tpa 900 tf)] 0 6 ok6 [] (c_X6_add (by omega)) dX6_cutQuote_37 rfl rfl wd_436 wd_438 ws_6 wd_3 wd_439 ne_X6 np_X6_add (Nat.le_of_ble_eq_true rfl)  (by decide) (by decide) rfl (Nat.le_of_ble_eq_true rfl) rfl rfl rfl rfl (by decide) rfl (fun v1 f1 hp => ?_)
      obtain ⟨rfl, rfl⟩ := hp
      show G g E _ _ _ [(wTok g k tpa (up kk kc 1) (up kp kc p) (up kn kc (((smE tf sz (p + 1)) - p) - 1)) sz (kc + 1) fg ps), (wBytes g tpa 900 tf)] 40 [(3, .int (iI (((smE tf sz (p + 1)) - p) - 1))), (2, .int (iI (smE tf sz (p + 1)))), (0, .ref (k 0)), (1, .int (iI p))] []
      refine r_iload_n 41 hE 1 dX6_cutQuote_40 rfl rfl rfl ?_
      refine r_iconst 42 hE dX6_cutQuote_41 rfl ?_
      refine r_iadd 43 hE ((smE tf sz (p + 1)) + 1) dX6_cutQuote_42 rfl rfl ?_
      refine r_ireturn hE hR [(wTok g k tpa (up kk kc 1) (up kp kc p) (up kn kc (((smE tf sz (p + 1)) - p) - 1)) sz (kc + 1) fg ps), (wBytes g tpa 900 tf)] dX6_cutQuote_43 (Nat.le_of_ble_eq_true rfl) (Nat.le_of_ble_eq_true rfl) rfl ?_
      exact ⟨retI hts.1.symm, by rw [hts.2.2, hkv]⟩
    · skip
      have hkv : tK tf sz p = 6 := by rw [hts.2.1, if_pos ⟨by omega, c26⟩]
      refine r_bipush 31 hE dX6_cutQuote_29 rfl (by decide) ?_
      refine r_goto 35 hE dX6_cutQuote_31 (by decide) ?_
      refine r_iload_n 36 hE 3 dX6_cutQuote_35 rfl rfl rfl ?_
      refine r_iload_n 37 hE 0 dX6_cutQuote_36 rfl rfl rfl ?_
      refine r_callV 40 hE [0] [1] [(wTok g k tpa kk kp kn sz kc fg ps)] [(wBytes g tpa 900 tf)] 0 6 ok6 [] (c_X6_add (by omega)) dX6_cutQuote_37 rfl rfl wd_436 wd_438 ws_6 wd_3 wd_439 ne_X6 np_X6_add (Nat.le_of_ble_eq_true rfl)  (by decide) (by decide) rfl (Nat.le_of_ble_eq_true rfl) rfl rfl rfl rfl (by decide) rfl (fun v1 f1 hp => ?_)
      obtain ⟨rfl, rfl⟩ := hp
      show G g E _ _ _ [(wTok g k tpa (up kk kc 6) (up kp kc p) (up kn kc (((smE tf sz (p + 1)) - p) - 1)) sz (kc + 1) fg ps), (wBytes g tpa 900 tf)] 40 [(3, .int (iI (((smE tf sz (p + 1)) - p) - 1))), (2, .int (iI (smE tf sz (p + 1)))), (0, .ref (k 0)), (1, .int (iI p))] []
      refine r_iload_n 41 hE 1 dX6_cutQuote_40 rfl rfl rfl ?_
      refine r_iconst 42 hE dX6_cutQuote_41 rfl ?_
      refine r_iadd 43 hE ((smE tf sz (p + 1)) + 1) dX6_cutQuote_42 rfl rfl ?_
      refine r_ireturn hE hR [(wTok g k tpa (up kk kc 6) (up kp kc p) (up kn kc (((smE tf sz (p + 1)) - p) - 1)) sz (kc + 1) fg ps), (wBytes g tpa 900 tf)] dX6_cutQuote_43 (Nat.le_of_ble_eq_true rfl) (Nat.le_of_ble_eq_true rfl) rfl ?_
      exact ⟨retI hts.1.symm, by rw [hts.2.2, hkv]⟩
set_option maxHeartbeats 4000000 in
set_option maxRecDepth 100000 in
theorem c_X6_cutToken {g : Gm} {k : Nat → Nat} {tpa : Nat} {kk kp kn : Int → Int} {sz kc fg ps : Int} {tf : Int → Int} {p : Int} (hsz : 0 ≤ sz ∧ sz ≤ 900) (hkc : 0 ≤ kc ∧ kc ≤ 900) (hTB : BR tf) (hb : 0 ≤ p ∧ p < sz) : Ct g 6 0 0 yX6_cutToken cX6_cutToken 3 (some .int) [.ref (k 0), .int (iI p), .int (iI (tf p))] [(wTok g k tpa kk kp kn sz kc fg ps), (wBytes g tpa 900 tf)] (fun v_ w_ => v_ = some (.int (iI (tE tf sz p))) ∧ w_ = [(wTok g k tpa (up kk kc (tK tf sz p)) (up kp kc p) (up kn kc (tV tf sz p)) sz (kc + 1) fg ps), (wBytes g tpa 900 tf)]) := by
  refine Ct.of (by decide) (Nat.le_of_ble_eq_true rfl) (lv := [(0, .ref (k 0)), (1, .int (iI p)), (2, .int (iI (tf p)))]) rfl ?_
  intro E hE hR hnm
  have hbr := hTB p
  refine r_iload_n 1 hE 2 dX6_cutToken_0 rfl rfl rfl ?_
  refine r_callS 4 hE [] [0, 1] [] [(wTok g k tpa kk kp kn sz kc fg ps), (wBytes g tpa 900 tf)] [] (c_X6_isSmall (by omega)) dX6_cutToken_1 rfl wd_371 wd_372 wd_3 wd_373 ne_X6 np_X6_isSmall (Nat.le_of_ble_eq_true rfl)  (by decide) (by decide) rfl (Nat.le_of_ble_eq_true rfl) rfl rfl rfl rfl (by decide) (fun v1 f1 hp => ?_)
  obtain ⟨rfl, rfl⟩ := hp
  show G g E _ _ _ [(wTok g k tpa kk kp kn sz kc fg ps), (wBytes g tpa 900 tf)] 4 [(0, .ref (k 0)), (1, .int (iI p)), (2, .int (iI (tf p)))] [.int (iI (bI (97 ≤ (tf p) ∧ (tf p) ≤ 122)))]
  refine r_if_eq 7 13 hE dX6_cutToken_4 rfl (by decide) (bI_rg _) (fun c4 => ?_) (fun c4 => ?_)
  · skip
    have c4 := bI0 c4
    refine r_iload_n 14 hE 2 dX6_cutToken_13 rfl rfl rfl ?_
    refine r_callS 17 hE [] [0, 1] [] [(wTok g k tpa kk kp kn sz kc fg ps), (wBytes g tpa 900 tf)] [] (c_X6_isDigit (by omega)) dX6_cutToken_14 rfl wd_440 wd_441 wd_3 wd_442 ne_X6 np_X6_isDigit (Nat.le_of_ble_eq_true rfl)  (by decide) (by decide) rfl (Nat.le_of_ble_eq_true rfl) rfl rfl rfl rfl (by decide) (fun v1 f1 hp => ?_)
    obtain ⟨rfl, rfl⟩ := hp
    show G g E _ _ _ [(wTok g k tpa kk kp kn sz kc fg ps), (wBytes g tpa 900 tf)] 17 [(0, .ref (k 0)), (1, .int (iI p)), (2, .int (iI (tf p)))] [.int (iI (bI (48 ≤ (tf p) ∧ (tf p) ≤ 57)))]
    refine r_if_eq 20 26 hE dX6_cutToken_17 rfl (by decide) (bI_rg _) (fun c17 => ?_) (fun c17 => ?_)
    · skip
      have c17 := bI0 c17
      refine r_iload_n 27 hE 2 dX6_cutToken_26 rfl rfl rfl ?_
      refine r_bipush 29 hE dX6_cutToken_27 rfl (by decide) ?_
      refine r_icmp_ne 32 38 hE dX6_cutToken_29 rfl (by decide) (by omega) (fun c29 => ?_) (fun c29 => ?_)
      · skip
        have hts := t_sg hb.2 (smB_no c4) (dgB_no c17) c29
        refine r_aload_n 39 hE 0 dX6_cutToken_38 rfl rfl rfl ?_
        refine r_iload_n 40 hE 2 dX6_cutToken_39 rfl rfl rfl ?_
        refine r_if_le 43 57 hE dX6_cutToken_40 rfl (by decide) (by omega) (fun c40 => ?_) (fun c40 => ?_)
        · skip
          have hkv : tK tf sz p = 1 := by rw [hts.2.1, if_neg (fun z => by unfold isSg at z; omega)]
          refine r_iconst 58 hE dX6_cutToken_57 rfl ?_
          refine r_iload_n 59 hE 1 dX6_cutToken_58 rfl rfl rfl ?_
          refine r_iconst 60 hE dX6_cutToken_59 rfl ?_
          refine r_callV 63 hE [0] [1] [(wTok g k tpa kk kp kn sz kc fg ps)] [(wBytes g tpa 900 tf)] 0 6 ok6 [] (c_X6_add (by omega)) dX6_cutToken_60 rfl rfl wd_436 wd_438 ws_6 wd_3 wd_439 ne_X6 np_X6_add (Nat.le_of_ble_eq_true rfl)  (by decide) (by decide) rfl (Nat.le_of_ble_eq_true rfl) rfl rfl rfl rfl (by decide) rfl (fun v1 f1 hp => ?_)
          obtain ⟨rfl, rfl⟩ := hp
          show G g E _ _ _ [(wTok g k tpa (up kk kc 1) (up kp kc p) (up kn kc 0) sz (kc + 1) fg ps), (wBytes g tpa 900 tf)] 63 [(0, .ref (k 0)), (1, .int (iI p)), (2, .int (iI (tf p)))] []
          refine r_iload_n 64 hE 1 dX6_cutToken_63 rfl rfl rfl ?_
          refine r_iconst 65 hE dX6_cutToken_64 rfl ?_
          refine r_iadd 66 hE (p + 1) dX6_cutToken_65 rfl rfl ?_
          refine r_ireturn hE hR [(wTok g k tpa (up kk kc 1) (up kp kc p) (up kn kc 0) sz (kc + 1) fg ps), (wBytes g tpa 900 tf)] dX6_cutToken_66 (Nat.le_of_ble_eq_true rfl) (Nat.le_of_ble_eq_true rfl) rfl ?_
          exact ⟨retI hts.1.symm, by rw [hts.2.2, hkv]⟩
        · skip
          refine r_ldcS 45 hE dX6_cutToken_43 rfl hE.2.2.2.1.2.1.2.2.1 ?_
          refine r_iload_n 46 hE 2 dX6_cutToken_45 rfl rfl rfl ?_
          refine r_i2c 47 hE dX6_cutToken_46 rfl (by omega) ?_
          refine r_callT 50 hE [] [0, 1] [] [(wTok g k tpa kk kp kn sz kc fg ps), (wBytes g tpa 900 tf)] (by decide) [.ref (k 0)] (c_J0_indexOf_0f7a4 (by decide) (by omega)) dX6_cutToken_47 rfl rfl wd_452 wd_453 wd_454 wd_13 wd_455 ne_J0 np_J0_indexOf_0f7a4 (Nat.le_of_ble_eq_true rfl)  (by decide) (by decide) rfl (Nat.le_of_ble_eq_true rfl) rfl rfl rfl rfl (by decide) (fun v1 f1 hp => ?_)
          obtain ⟨r9_47, rfl, rfl, h47_0⟩ := hp
          show G g E _ _ _ [(wTok g k tpa kk kp kn sz kc fg ps), (wBytes g tpa 900 tf)] 50 [(0, .ref (k 0)), (1, .int (iI p)), (2, .int (iI (tf p)))] [.int (iI r9_47), .ref (k 0)]
          have hsg := h47_0.sg (by omega)
          refine r_if_lt 53 57 hE dX6_cutToken_50 rfl (by decide) (by have h9 := h47_0; unfold IxIs at h9; have := sLen_rg 2 (by decide); omega) (fun c50 => ?_) (fun c50 => ?_)
          · skip
            have hkv : tK tf sz p = 1 := by rw [hts.2.1, if_neg (fun z => by have := hsg.mpr z; omega)]
            refine r_iconst 58 hE dX6_cutToken_57 rfl ?_
            refine r_iload_n 59 hE 1 dX6_cutToken_58 rfl rfl rfl ?_
            refine r_iconst 60 hE dX6_cutToken_59 rfl ?_
            refine r_callV 63 hE [0] [1] [(wTok g k tpa kk kp kn sz kc fg ps)] [(wBytes g tpa 900 tf)] 0 6 ok6 [] (c_X6_add (by omega)) dX6_cutToken_60 rfl rfl wd_436 wd_438 ws_6 wd_3 wd_439 ne_X6 np_X6_add (Nat.le_of_ble_eq_true rfl)  (by decide) (by decide) rfl (Nat.le_of_ble_eq_true rfl) rfl rfl rfl rfl (by decide) rfl (fun v1 f1 hp => ?_)
            obtain ⟨rfl, rfl⟩ := hp
            show G g E _ _ _ [(wTok g k tpa (up kk kc 1) (up kp kc p) (up kn kc 0) sz (kc + 1) fg ps), (wBytes g tpa 900 tf)] 63 [(0, .ref (k 0)), (1, .int (iI p)), (2, .int (iI (tf p)))] []
            refine r_iload_n 64 hE 1 dX6_cutToken_63 rfl rfl rfl ?_
            refine r_iconst 65 hE dX6_cutToken_64 rfl ?_
            refine r_iadd 66 hE (p + 1) dX6_cutToken_65 rfl rfl ?_
            refine r_ireturn hE hR [(wTok g k tpa (up kk kc 1) (up kp kc p) (up kn kc 0) sz (kc + 1) fg ps), (wBytes g tpa 900 tf)] dX6_cutToken_66 (Nat.le_of_ble_eq_true rfl) (Nat.le_of_ble_eq_true rfl) rfl ?_
            exact ⟨retI hts.1.symm, by rw [hts.2.2, hkv]⟩
          · skip
            have hkv : tK tf sz p = tf p := by rw [hts.2.1, if_pos (hsg.mp c50)]
            refine r_iload_n 54 hE 2 dX6_cutToken_53 rfl rfl rfl ?_
            refine r_goto 58 hE dX6_cutToken_54 (by decide) ?_
            refine r_iload_n 59 hE 1 dX6_cutToken_58 rfl rfl rfl ?_
            refine r_iconst 60 hE dX6_cutToken_59 rfl ?_
            refine r_callV 63 hE [0] [1] [(wTok g k tpa kk kp kn sz kc fg ps)] [(wBytes g tpa 900 tf)] 0 6 ok6 [] (c_X6_add (by omega)) dX6_cutToken_60 rfl rfl wd_436 wd_438 ws_6 wd_3 wd_439 ne_X6 np_X6_add (Nat.le_of_ble_eq_true rfl)  (by decide) (by decide) rfl (Nat.le_of_ble_eq_true rfl) rfl rfl rfl rfl (by decide) rfl (fun v1 f1 hp => ?_)
            obtain ⟨rfl, rfl⟩ := hp
            show G g E _ _ _ [(wTok g k tpa (up kk kc (tf p)) (up kp kc p) (up kn kc 0) sz (kc + 1) fg ps), (wBytes g tpa 900 tf)] 63 [(0, .ref (k 0)), (1, .int (iI p)), (2, .int (iI (tf p)))] []
            refine r_iload_n 64 hE 1 dX6_cutToken_63 rfl rfl rfl ?_
            refine r_iconst 65 hE dX6_cutToken_64 rfl ?_
            refine r_iadd 66 hE (p + 1) dX6_cutToken_65 rfl rfl ?_
            refine r_ireturn hE hR [(wTok g k tpa (up kk kc (tf p)) (up kp kc p) (up kn kc 0) sz (kc + 1) fg ps), (wBytes g tpa 900 tf)] dX6_cutToken_66 (Nat.le_of_ble_eq_true rfl) (Nat.le_of_ble_eq_true rfl) rfl ?_
            exact ⟨retI hts.1.symm, by rw [hts.2.2, hkv]⟩
      · skip
        refine r_aload_n 33 hE 0 dX6_cutToken_32 rfl rfl rfl ?_
        refine r_iload_n 34 hE 1 dX6_cutToken_33 rfl rfl rfl ?_
        refine r_callV 37 hE [0, 1] [] [(wTok g k tpa kk kp kn sz kc fg ps), (wBytes g tpa 900 tf)] [] 0 6 ok6 [] (c_X6_cutQuote (by omega) (by omega) (hTB) (by omega) (c29)) dX6_cutToken_34 rfl rfl wd_447 wd_449 ws_8 wd_3 wd_450 ne_X6 np_X6_cutQuote (Nat.le_of_ble_eq_true rfl)  (by decide) (by decide) rfl (Nat.le_of_ble_eq_true rfl) rfl rfl rfl rfl (by decide) rfl (fun v1 f1 hp => ?_)
        obtain ⟨rfl, rfl⟩ := hp
        show G g E _ _ _ [(wTok g k tpa (up kk kc (tK tf sz p)) (up kp kc p) (up kn kc (tV tf sz p)) sz (kc + 1) fg ps), (wBytes g tpa 900 tf)] 37 [(0, .ref (k 0)), (1, .int (iI p)), (2, .int (iI (tf p)))] [.int (iI (tE tf sz p))]
        refine r_ireturn hE hR [(wTok g k tpa (up kk kc (tK tf sz p)) (up kp kc p) (up kn kc (tV tf sz p)) sz (kc + 1) fg ps), (wBytes g tpa 900 tf)] dX6_cutToken_37 (Nat.le_of_ble_eq_true rfl) (Nat.le_of_ble_eq_true rfl) rfl ?_
        exact ⟨rfl, rfl⟩
    · skip
      have c17 := bI1 c17
      refine r_aload_n 21 hE 0 dX6_cutToken_20 rfl rfl rfl ?_
      refine r_iload_n 22 hE 1 dX6_cutToken_21 rfl rfl rfl ?_
      refine r_callV 25 hE [0, 1] [] [(wTok g k tpa kk kp kn sz kc fg ps), (wBytes g tpa 900 tf)] [] 0 6 ok6 [] (c_X6_cutNumber (by omega) (by omega) (hTB) (by omega) (smB_no c4) (dgB_iff.mpr c17)) dX6_cutToken_22 rfl rfl wd_443 wd_445 ws_7 wd_3 wd_446 ne_X6 np_X6_cutNumber (Nat.le_of_ble_eq_true rfl)  (by decide) (by decide) rfl (Nat.le_of_ble_eq_true rfl) rfl rfl rfl rfl (by decide) rfl (fun v1 f1 hp => ?_)
      obtain ⟨rfl, rfl⟩ := hp
      show G g E _ _ _ [(wTok g k tpa (up kk kc (tK tf sz p)) (up kp kc p) (up kn kc (tV tf sz p)) sz (kc + 1) fg ps), (wBytes g tpa 900 tf)] 25 [(0, .ref (k 0)), (1, .int (iI p)), (2, .int (iI (tf p)))] [.int (iI (tE tf sz p))]
      refine r_ireturn hE hR [(wTok g k tpa (up kk kc (tK tf sz p)) (up kp kc p) (up kn kc (tV tf sz p)) sz (kc + 1) fg ps), (wBytes g tpa 900 tf)] dX6_cutToken_25 (Nat.le_of_ble_eq_true rfl) (Nat.le_of_ble_eq_true rfl) rfl ?_
      exact ⟨rfl, rfl⟩
  · skip
    have c4 := bI1 c4
    refine r_aload_n 8 hE 0 dX6_cutToken_7 rfl rfl rfl ?_
    refine r_iload_n 9 hE 1 dX6_cutToken_8 rfl rfl rfl ?_
    refine r_callV 12 hE [0, 1] [] [(wTok g k tpa kk kp kn sz kc fg ps), (wBytes g tpa 900 tf)] [] 0 6 ok6 [] (c_X6_cutWord (by omega) (by omega) (hTB) (by omega) (smB_iff.mpr c4)) dX6_cutToken_9 rfl rfl wd_374 wd_376 ws_3 wd_3 wd_377 ne_X6 np_X6_cutWord (Nat.le_of_ble_eq_true rfl)  (by decide) (by decide) rfl (Nat.le_of_ble_eq_true rfl) rfl rfl rfl rfl (by decide) rfl (fun v1 f1 hp => ?_)
    obtain ⟨rfl, rfl⟩ := hp
    show G g E _ _ _ [(wTok g k tpa (up kk kc (tK tf sz p)) (up kp kc p) (up kn kc (tV tf sz p)) sz (kc + 1) fg ps), (wBytes g tpa 900 tf)] 12 [(0, .ref (k 0)), (1, .int (iI p)), (2, .int (iI (tf p)))] [.int (iI (tE tf sz p))]
    refine r_ireturn hE hR [(wTok g k tpa (up kk kc (tK tf sz p)) (up kp kc p) (up kn kc (tV tf sz p)) sz (kc + 1) fg ps), (wBytes g tpa 900 tf)] dX6_cutToken_12 (Nat.le_of_ble_eq_true rfl) (Nat.le_of_ble_eq_true rfl) rfl ?_
    exact ⟨rfl, rfl⟩
