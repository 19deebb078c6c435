set_option maxHeartbeats 4000000 in
set_option maxRecDepth 100000 in
theorem c_J0_coder_7d493 {g : Gm} {j : Nat} (hj : j < 3) : Ct g 0 0 0 yJ0_coder_7d493 cJ0_coder_7d493 1 (some .byte) [.ref (g.adK j)] [] (fun v_ w_ => v_ = some (.int (iI 0)) ∧ w_ = []) := by
  refine Ct.of (by decide) (Nat.le_of_ble_eq_true rfl) (lv := [(0, .ref (g.adK j))]) rfl ?_
  intro E hE hR hnm
  refine r_getsC 3 hE dJ0_coder_7d493_0 rfl wd_395 ?_
  refine r_if_eq 6 13 hE dJ0_coder_7d493_3 rfl (by decide) (by omega) (fun c3 => ?_) (fun c3 => ?_)
  · skip
    omega
  · skip
    refine r_aload_n 7 hE 0 dJ0_coder_7d493_6 rfl rfl rfl ?_
    refine r_getC 10 hE (hj) dJ0_coder_7d493_7 rfl wd_1522 ?_
    refine r_goto 14 hE dJ0_coder_7d493_10 (by decide) ?_
    refine r_nreturn hE hR [] dJ0_coder_7d493_14 (Nat.le_of_ble_eq_true rfl) (Nat.le_of_ble_eq_true rfl) (by decide) rfl ?_
    exact ⟨retI (rfl), rfl⟩
set_option maxHeartbeats 4000000 in
set_option maxRecDepth 100000 in
theorem c_J0_isLatin1_aae02 {g : Gm} {j : Nat} (hj : j < 3) : Ct g 0 0 0 yJ0_isLatin1_aae02 cJ0_isLatin1_aae02 1 (some .boolean) [.ref (g.adK j)] [] (fun v_ w_ => v_ = some (.int (iI 1)) ∧ w_ = []) := by
  refine Ct.of (by decide) (Nat.le_of_ble_eq_true rfl) (lv := [(0, .ref (g.adK j))]) rfl ?_
  intro E hE hR hnm
  refine r_getsC 3 hE dJ0_isLatin1_aae02_0 rfl wd_395 ?_
  refine r_if_eq 6 17 hE dJ0_isLatin1_aae02_3 rfl (by decide) (by omega) (fun c3 => ?_) (fun c3 => ?_)
  · skip
    omega
  · skip
    refine r_aload_n 7 hE 0 dJ0_isLatin1_aae02_6 rfl rfl rfl ?_
    refine r_getC 10 hE (hj) dJ0_isLatin1_aae02_7 rfl wd_1522 ?_
    refine r_if_ne 13 17 hE dJ0_isLatin1_aae02_10 rfl (by decide) (by omega) (fun c10 => ?_) (fun c10 => ?_)
    · skip
      omega
    · skip
      refine r_iconst 14 hE dJ0_isLatin1_aae02_13 rfl ?_
      refine r_goto 18 hE dJ0_isLatin1_aae02_14 (by decide) ?_
      refine r_zreturn hE hR [] dJ0_isLatin1_aae02_18 (Nat.le_of_ble_eq_true rfl) (Nat.le_of_ble_eq_true rfl) (by decide) rfl ?_
      exact ⟨rfl, rfl⟩
set_option maxHeartbeats 4000000 in
set_option maxRecDepth 100000 in
theorem c_J0_length_8abf5 {g : Gm} {j : Nat} (hj : j < 3) : Ct g 1 0 0 yJ0_length_8abf5 cJ0_length_8abf5 1 (some .int) [.ref (g.adK j)] [] (fun v_ w_ => v_ = some (.int (iI ((sLen j : Nat) : Int))) ∧ w_ = []) := by
  refine Ct.of (by decide) (Nat.le_of_ble_eq_true rfl) (lv := [(0, .ref (g.adK j))]) rfl ?_
  intro E hE hR hnm
  refine r_aload_n 1 hE 0 dJ0_length_8abf5_0 rfl rfl rfl ?_
  refine r_getV 4 hE (hj) dJ0_length_8abf5_1 rfl wd_1521 ?_
  refine r_lenS 5 hE (hj) dJ0_length_8abf5_4 rfl ?_
  refine r_aload_n 6 hE 0 dJ0_length_8abf5_5 rfl rfl rfl ?_
  refine r_callT 9 hE [] [] [] [] (hj) [.int (iI ((sLen j : Nat) : Int))] (c_J0_coder_7d493 (by first | exact hj | decide)) dJ0_length_8abf5_6 rfl rfl wd_391 wd_392 wd_393 wd_13 wd_394 ne_J0 np_J0_coder_7d493 (Nat.le_of_ble_eq_true rfl)  (by decide) (by decide) rfl (Nat.le_of_ble_eq_true rfl) rfl rfl rfl rfl (by decide) (fun v1 f1 hp => ?_)
  obtain ⟨rfl, rfl⟩ := hp
  show G g E _ _ _ [] 9 [(0, .ref (g.adK j))] [.int (iI 0), .int (iI ((sLen j : Nat) : Int))]
  refine r_ishr 10 hE dJ0_length_8abf5_9 rfl ?_
  refine r_ireturn hE hR [] dJ0_length_8abf5_10 (Nat.le_of_ble_eq_true rfl) (Nat.le_of_ble_eq_true rfl) rfl ?_
  exact ⟨retI (shr_len j hj), rfl⟩
set_option maxHeartbeats 4000000 in
set_option maxRecDepth 100000 in
theorem c_J3_checkIndex_8e157 {g : Gm} {z : Nat} {i m : Int} (hi : 0 ≤ i ∧ i < m ∧ m ≤ 2147483647) : Ct g 0 0 0 yJ3_checkIndex_8e157 cJ3_checkIndex_8e157 3 (some .int) [.int (iI i), .int (iI m), .ref z] [] (fun v_ w_ => v_ = some (.int (iI i)) ∧ w_ = []) := by
  refine Ct.of (by decide) (Nat.le_of_ble_eq_true rfl) (lv := [(0, .int (iI i)), (1, .int (iI m)), (2, .ref z)]) rfl ?_
  intro E hE hR hnm
  refine r_iload_n 1 hE 0 dJ3_checkIndex_8e157_0 rfl rfl rfl ?_
  refine r_if_lt 4 9 hE dJ3_checkIndex_8e157_1 rfl (by decide) (by omega) (fun c1 => ?_) (fun c1 => ?_)
  · skip
    omega
  · skip
    refine r_iload_n 5 hE 0 dJ3_checkIndex_8e157_4 rfl rfl rfl ?_
    refine r_iload_n 6 hE 1 dJ3_checkIndex_8e157_5 rfl rfl rfl ?_
    refine r_icmp_lt 9 16 hE dJ3_checkIndex_8e157_6 rfl (by decide) (by omega) (fun c6 => ?_) (fun c6 => ?_)
    · skip
      refine r_iload_n 17 hE 0 dJ3_checkIndex_8e157_16 rfl rfl rfl ?_
      refine r_ireturn hE hR [] dJ3_checkIndex_8e157_17 (Nat.le_of_ble_eq_true rfl) (Nat.le_of_ble_eq_true rfl) rfl ?_
      exact ⟨retI (rfl), rfl⟩
    · skip
      omega
set_option maxHeartbeats 4000000 in
set_option maxRecDepth 100000 in
theorem c_J3_checkIndex_8e157_n {g : Gm} {i m : Int} (hi : 0 ≤ i ∧ i < m ∧ m ≤ 2147483647) : Ct g 0 0 0 yJ3_checkIndex_8e157 cJ3_checkIndex_8e157 3 (some .int) [.int (iI i), .int (iI m), .null] [] (fun v_ w_ => v_ = some (.int (iI i)) ∧ w_ = []) := by
  refine Ct.of (by decide) (Nat.le_of_ble_eq_true rfl) (lv := [(0, .int (iI i)), (1, .int (iI m)), (2, .null)]) rfl ?_
  intro E hE hR hnm
  refine r_iload_n 1 hE 0 dJ3_checkIndex_8e157_0 rfl rfl rfl ?_
  refine r_if_lt 4 9 hE dJ3_checkIndex_8e157_1 rfl (by decide) (by omega) (fun c1 => ?_) (fun c1 => ?_)
  · skip
    omega
  · skip
    refine r_iload_n 5 hE 0 dJ3_checkIndex_8e157_4 rfl rfl rfl ?_
    refine r_iload_n 6 hE 1 dJ3_checkIndex_8e157_5 rfl rfl rfl ?_
    refine r_icmp_lt 9 16 hE dJ3_checkIndex_8e157_6 rfl (by decide) (by omega) (fun c6 => ?_) (fun c6 => ?_)
    · skip
      refine r_iload_n 17 hE 0 dJ3_checkIndex_8e157_16 rfl rfl rfl ?_
      refine r_ireturn hE hR [] dJ3_checkIndex_8e157_17 (Nat.le_of_ble_eq_true rfl) (Nat.le_of_ble_eq_true rfl) rfl ?_
      exact ⟨retI (rfl), rfl⟩
    · skip
      omega
set_option maxHeartbeats 4000000 in
set_option maxRecDepth 100000 in
theorem c_J0_checkIndex_df160 {g : Gm} {i m : Int} (hi : 0 ≤ i ∧ i < m ∧ m ≤ 2147483647) : Ct g 1 0 0 yJ0_checkIndex_df160 cJ0_checkIndex_df160 2 none [.int (iI i), .int (iI m)] [] (fun v_ w_ => v_ = none ∧ w_ = []) := by
  refine Ct.of (by decide) (Nat.le_of_ble_eq_true rfl) (lv := [(0, .int (iI i)), (1, .int (iI m))]) rfl ?_
  intro E hE hR hnm
  refine r_iload_n 1 hE 0 dJ0_checkIndex_df160_0 rfl rfl rfl ?_
  refine r_iload_n 2 hE 1 dJ0_checkIndex_df160_1 rfl rfl rfl ?_
  refine r_getsQ 5 hE dJ0_checkIndex_df160_2 rfl wd_411 ?_ (fun z9 => ?_)
  · skip
    refine r_callS 8 hE [] [] [] [] [] (c_J3_checkIndex_8e157_n (by omega)) dJ0_checkIndex_df160_5 rfl wd_413 wd_414 wd_15 wd_415 ne_J3 np_J3_checkIndex_8e157 (Nat.le_of_ble_eq_true rfl)  (by decide) (by decide) rfl (Nat.le_of_ble_eq_true rfl) rfl rfl rfl rfl (by decide) (fun v1 f1 hp => ?_)
    obtain ⟨rfl, rfl⟩ := hp
    show G g E _ _ _ [] 8 [(0, .int (iI i)), (1, .int (iI m))] [.int (iI i)]
    refine r_pop 9 hE dJ0_checkIndex_df160_8 rfl rfl ?_
    refine r_return hE hR [] dJ0_checkIndex_df160_9 (Nat.le_of_ble_eq_true rfl) (Nat.le_of_ble_eq_true rfl) rfl ?_
    exact ⟨rfl, rfl⟩
  · skip
    refine r_callS 8 hE [] [] [] [] [] (c_J3_checkIndex_8e157 (by omega)) dJ0_checkIndex_df160_5 rfl wd_413 wd_414 wd_15 wd_415 ne_J3 np_J3_checkIndex_8e157 (Nat.le_of_ble_eq_true rfl)  (by decide) (by decide) rfl (Nat.le_of_ble_eq_true rfl) rfl rfl rfl rfl (by decide) (fun v1 f1 hp => ?_)
    obtain ⟨rfl, rfl⟩ := hp
    show G g E _ _ _ [] 8 [(0, .int (iI i)), (1, .int (iI m))] [.int (iI i)]
    refine r_pop 9 hE dJ0_checkIndex_df160_8 rfl rfl ?_
    refine r_return hE hR [] dJ0_checkIndex_df160_9 (Nat.le_of_ble_eq_true rfl) (Nat.le_of_ble_eq_true rfl) rfl ?_
    exact ⟨rfl, rfl⟩
set_option maxHeartbeats 4000000 in
set_option maxRecDepth 100000 in
theorem c_J1_charAt_3b067 {g : Gm} {j : Nat} {i : Int} (hj : j < 3) (hk : 0 ≤ i ∧ i < ((sLen j : Nat) : Int)) : Ct g 2 0 0 yJ1_charAt_3b067 cJ1_charAt_3b067 2 (some .char) [.ref (g.adV j), .int (iI i)] [] (fun v_ w_ => v_ = some (.int (iI (sByt j i))) ∧ w_ = []) := by
  refine Ct.of (by decide) (Nat.le_of_ble_eq_true rfl) (lv := [(0, .ref (g.adV j)), (1, .int (iI i))]) rfl ?_
  intro E hE hR hnm
  have hb := sByt_at hj hk
  have hr := sLen_rg j hj
  refine r_iload_n 1 hE 1 dJ1_charAt_3b067_0 rfl rfl rfl ?_
  refine r_aload_n 2 hE 0 dJ1_charAt_3b067_1 rfl rfl rfl ?_
  refine r_lenS 3 hE (hj) dJ1_charAt_3b067_2 rfl ?_
  refine r_callS 6 hE [] [] [] [] [] (c_J0_checkIndex_df160 (by omega)) dJ1_charAt_3b067_3 rfl wd_408 wd_409 wd_13 wd_410 ne_J0 np_J0_checkIndex_df160 (Nat.le_of_ble_eq_true rfl)  (by decide) (by decide) rfl (Nat.le_of_ble_eq_true rfl) rfl rfl rfl rfl (by decide) (fun v1 f1 hp => ?_)
  obtain ⟨rfl, rfl⟩ := hp
  show G g E _ _ _ [] 6 [(0, .ref (g.adV j)), (1, .int (iI i))] []
  refine r_aload_n 7 hE 0 dJ1_charAt_3b067_6 rfl rfl rfl ?_
  refine r_iload_n 8 hE 1 dJ1_charAt_3b067_7 rfl rfl rfl ?_
  refine r_baldS 9 hE (hj) (by omega) dJ1_charAt_3b067_8 rfl ?_
  refine r_sipush 12 hE dJ1_charAt_3b067_9 rfl (by decide) ?_
  refine r_iand 13 hE dJ1_charAt_3b067_12 rfl ?_
  refine r_i2c 14 hE dJ1_charAt_3b067_13 rfl (by rw [hb.2]; omega) ?_
  refine r_nreturn hE hR [] dJ1_charAt_3b067_14 (Nat.le_of_ble_eq_true rfl) (Nat.le_of_ble_eq_true rfl) (by rw [hb.2]; exact nar_ch hb.1) rfl ?_
  exact ⟨retI (hb.2), rfl⟩
set_option maxHeartbeats 4000000 in
set_option maxRecDepth 100000 in
theorem c_J0_charAt_5068e {g : Gm} {j : Nat} {i : Int} (hj : j < 3) (hk : 0 ≤ i ∧ i < ((sLen j : Nat) : Int)) : Ct g 3 0 0 yJ0_charAt_5068e cJ0_charAt_5068e 2 (some .char) [.ref (g.adK j), .int (iI i)] [] (fun v_ w_ => v_ = some (.int (iI (sByt j i))) ∧ w_ = []) := by
  refine Ct.of (by decide) (Nat.le_of_ble_eq_true rfl) (lv := [(0, .ref (g.adK j)), (1, .int (iI i))]) rfl ?_
  intro E hE hR hnm
  have hb := sByt_at hj hk
  refine r_aload_n 1 hE 0 dJ0_charAt_5068e_0 rfl rfl rfl ?_
  refine r_callT 4 hE [] [] [] [] (hj) [] (c_J0_isLatin1_aae02 (by first | exact hj | decide)) dJ0_charAt_5068e_1 rfl rfl wd_401 wd_402 wd_403 wd_13 wd_404 ne_J0 np_J0_isLatin1_aae02 (Nat.le_of_ble_eq_true rfl)  (by decide) (by decide) rfl (Nat.le_of_ble_eq_true rfl) rfl rfl rfl rfl (by decide) (fun v1 f1 hp => ?_)
  obtain ⟨rfl, rfl⟩ := hp
  show G g E _ _ _ [] 4 [(0, .ref (g.adK j)), (1, .int (iI i))] [.int (iI 1)]
  refine r_if_eq 7 16 hE dJ0_charAt_5068e_4 rfl (by decide) (by omega) (fun c4 => ?_) (fun c4 => ?_)
  · skip
    omega
  · skip
    refine r_aload_n 8 hE 0 dJ0_charAt_5068e_7 rfl rfl rfl ?_
    refine r_getV 11 hE (hj) dJ0_charAt_5068e_8 rfl wd_1521 ?_
    refine r_iload_n 12 hE 1 dJ0_charAt_5068e_11 rfl rfl rfl ?_
    refine r_callS 15 hE [] [] [] [] [] (c_J1_charAt_3b067 (by first | exact hj | decide) (by omega)) dJ0_charAt_5068e_12 rfl wd_405 wd_406 wd_14 wd_407 ne_J1 np_J1_charAt_3b067 (Nat.le_of_ble_eq_true rfl)  (by decide) (by decide) rfl (Nat.le_of_ble_eq_true rfl) rfl rfl rfl rfl (by decide) (fun v1 f1 hp => ?_)
    obtain ⟨rfl, rfl⟩ := hp
    show G g E _ _ _ [] 15 [(0, .ref (g.adK j)), (1, .int (iI i))] [.int (iI (sByt j i))]
    refine r_nreturn hE hR [] dJ0_charAt_5068e_15 (Nat.le_of_ble_eq_true rfl) (Nat.le_of_ble_eq_true rfl) (nar_ch hb.1) rfl ?_
    exact ⟨retI (rfl), rfl⟩
set_option maxHeartbeats 4000000 in
set_option maxRecDepth 100000 in
theorem c_J1_canEncode_9a6ad {g : Gm} {v : Int} (hv : -2147483648 ≤ v ∧ v ≤ 2147483647) : Ct g 0 0 0 yJ1_canEncode_9a6ad cJ1_canEncode_9a6ad 1 (some .boolean) [.int (iI v)] [] (fun v_ w_ => v_ = some (.int (iI (bI (0 ≤ v ∧ v ≤ 255)))) ∧ w_ = []) := by
  refine Ct.of (by decide) (Nat.le_of_ble_eq_true rfl) (lv := [(0, .int (iI v))]) rfl ?_
  intro E hE hR hnm
  refine r_iload_n 1 hE 0 dJ1_canEncode_9a6ad_0 rfl rfl rfl ?_
  refine r_if_lt 4 15 hE dJ1_canEncode_9a6ad_1 rfl (by decide) (by omega) (fun c1 => ?_) (fun c1 => ?_)
  · skip
    refine r_iconst 16 hE dJ1_canEncode_9a6ad_15 rfl ?_
    refine r_zreturn hE hR [] dJ1_canEncode_9a6ad_16 (Nat.le_of_ble_eq_true rfl) (Nat.le_of_ble_eq_true rfl) (by decide) rfl ?_
    exact ⟨ret0 (by omega), rfl⟩
  · skip
    refine r_iload_n 5 hE 0 dJ1_canEncode_9a6ad_4 rfl rfl rfl ?_
    refine r_sipush 8 hE dJ1_canEncode_9a6ad_5 rfl (by decide) ?_
    refine r_icmp_gt 11 15 hE dJ1_canEncode_9a6ad_8 rfl (by decide) (by omega) (fun c8 => ?_) (fun c8 => ?_)
    · skip
      refine r_iconst 16 hE dJ1_canEncode_9a6ad_15 rfl ?_
      refine r_zreturn hE hR [] dJ1_canEncode_9a6ad_16 (Nat.le_of_ble_eq_true rfl) (Nat.le_of_ble_eq_true rfl) (by decide) rfl ?_
      exact ⟨ret0 (by omega), rfl⟩
    · skip
      refine r_iconst 12 hE dJ1_canEncode_9a6ad_11 rfl ?_
      refine r_goto 16 hE dJ1_canEncode_9a6ad_12 (by decide) ?_
      refine r_zreturn hE hR [] dJ1_canEncode_9a6ad_16 (Nat.le_of_ble_eq_true rfl) (Nat.le_of_ble_eq_true rfl) (by decide) rfl ?_
      exact ⟨ret1 (by omega), rfl⟩
set_option maxHeartbeats 4000000 in
set_option maxRecDepth 100000 in
theorem c_J1_indexOfChar_4cfef {g : Gm} {j : Nat} {c : Int} (hj : j < 3) (hc : 0 < c ∧ c ≤ 127) : Ct g 0 0 0 yJ1_indexOfChar_4cfef cJ1_indexOfChar_4cfef 6 (some .int) [.ref (g.adV j), .int (iI c), .int (iI 0), .int (iI ((sLen j : Nat) : Int))] [] (fun v_ w_ => ∃ r9 : Int, v_ = some (.int (iI r9)) ∧ w_ = [] ∧ (IxIs j c r9)) := by
  refine Ct.of (by decide) (Nat.le_of_ble_eq_true rfl) (lv := [(0, .ref (g.adV j)), (1, .int (iI c)), (2, .int (iI 0)), (3, .int (iI ((sLen j : Nat) : Int)))]) rfl ?_
  intro E hE hR hnm
  have hr := sLen_rg j hj
  have hbc := byI_id (v := c) (by omega)
  have cut7 : ∀ (N : Nat) (i : Int), (0 ≤ i ∧ i ≤ ((sLen j : Nat) : Int)) → (∀ k, 0 ≤ k → k < i → sByt j k ≠ c) → (((sLen j : Nat) : Int) - i).toNat < N → G g E 6 0 0 [] 7 [(0, .ref (g.adV j)), (1, .int (iI c)), (2, .int (iI 0)), (3, .int (iI ((sLen j : Nat) : Int))), (4, .int (iI c)), (5, .int (iI i))] [] := by
    intro N
    induction N with
    | zero => intro i _ _ hN; exact absurd hN (Nat.not_lt_zero _)
    | succ N ih7 =>
      intro i hi hv hN
      refine r_iload 9 hE 5 dJ1_indexOfChar_4cfef_7 rfl rfl ?_
      refine r_iload_n 10 hE 3 dJ1_indexOfChar_4cfef_9 rfl rfl rfl ?_
      refine r_icmp_ge 13 31 hE dJ1_indexOfChar_4cfef_10 rfl (by decide) (by omega) (fun c10 => ?_) (fun c10 => ?_)
      · skip
        refine r_iconst 32 hE dJ1_indexOfChar_4cfef_31 rfl ?_
        refine r_ireturn hE hR [] dJ1_indexOfChar_4cfef_32 (Nat.le_of_ble_eq_true rfl) (Nat.le_of_ble_eq_true rfl) rfl ?_
        exact ⟨-1, rfl, rfl, Or.inl ⟨rfl, fun k a b => hv k a (by omega)⟩⟩
      · skip
        refine r_aload_n 14 hE 0 dJ1_indexOfChar_4cfef_13 rfl rfl rfl ?_
        refine r_iload 16 hE 5 dJ1_indexOfChar_4cfef_14 rfl rfl ?_
        refine r_baldS 17 hE (hj) (by omega) dJ1_indexOfChar_4cfef_16 rfl ?_
        refine r_iload 19 hE 4 dJ1_indexOfChar_4cfef_17 rfl rfl ?_
        refine r_icmp_ne 22 25 hE dJ1_indexOfChar_4cfef_19 rfl (by decide) (by have := sByt_at hj (k := i) (by omega); omega) (fun c19 => ?_) (fun c19 => ?_)
        · skip
          refine r_iinc 28 hE 5 (i + 1) [(5, .int (iI (i + 1))), (0, .ref (g.adV j)), (1, .int (iI c)), (2, .int (iI 0)), (3, .int (iI ((sLen j : Nat) : Int))), (4, .int (iI c))] dJ1_indexOfChar_4cfef_25 rfl rfl rfl (by decide) rfl ?_
          refine r_goto 7 hE dJ1_indexOfChar_4cfef_28 (by decide) ?_
          refine G.to (fs' := []) (lv' := [(0, .ref (g.adV j)), (1, .int (iI c)), (2, .int (iI 0)), (3, .int (iI ((sLen j : Nat) : Int))), (4, .int (iI c)), (5, .int (iI (i + 1)))]) [] [1, 2, 3, 4, 5, 0] rfl rfl rfl ?_
          exact ih7 (i + 1) (by omega) (by first | exact (fun k a b => if z : k = i then z ▸ c19 else hv k a (by omega)) | exact (fun k a b => absurd b (by omega))) (by omega)
        · skip
          refine r_iload 24 hE 5 dJ1_indexOfChar_4cfef_22 rfl rfl ?_
          refine r_ireturn hE hR [] dJ1_indexOfChar_4cfef_24 (Nat.le_of_ble_eq_true rfl) (Nat.le_of_ble_eq_true rfl) rfl ?_
          exact ⟨i, rfl, rfl, Or.inr ⟨hi.1, by omega, c19⟩⟩
  refine r_iload_n 1 hE 1 dJ1_indexOfChar_4cfef_0 rfl rfl rfl ?_
  refine r_i2b 2 hE dJ1_indexOfChar_4cfef_1 rfl ?_
  rw [show (byI c : Int) = c from hbc]
  refine r_istore 4 hE [(4, .int (iI c)), (0, .ref (g.adV j)), (1, .int (iI c)), (2, .int (iI 0)), (3, .int (iI ((sLen j : Nat) : Int)))] dJ1_indexOfChar_4cfef_2 rfl (by decide) rfl ?_
  refine r_iload_n 5 hE 3 dJ1_indexOfChar_4cfef_4 rfl rfl rfl ?_
  refine r_istore 7 hE [(5, .int (iI 0)), (4, .int (iI c)), (0, .ref (g.adV j)), (1, .int (iI c)), (2, .int (iI 0)), (3, .int (iI ((sLen j : Nat) : Int)))] dJ1_indexOfChar_4cfef_5 rfl (by decide) rfl ?_
  refine G.to (fs' := []) (lv' := [(0, .ref (g.adV j)), (1, .int (iI c)), (2, .int (iI 0)), (3, .int (iI ((sLen j : Nat) : Int))), (4, .int (iI c)), (5, .int (iI 0))]) [] [2, 3, 4, 5, 1, 0] rfl rfl rfl ?_
  exact cut7 _ 0 (by omega) (by first | exact (fun k a b => if z : k = i then z ▸ c19 else hv k a (by omega)) | exact (fun k a b => absurd b (by omega))) (Nat.lt_succ_self _)
set_option maxHeartbeats 4000000 in
set_option maxRecDepth 100000 in
theorem c_J1_indexOf_4cfef {g : Gm} {j : Nat} {c : Int} (hj : j < 3) (hc : 0 < c ∧ c ≤ 127) : Ct g 1 0 0 yJ1_indexOf_4cfef cJ1_indexOf_4cfef 4 (some .int) [.ref (g.adV j), .int (iI c), .int (iI 0), .int (iI ((sLen j : Nat) : Int))] [] (fun v_ w_ => ∃ r9 : Int, v_ = some (.int (iI r9)) ∧ w_ = [] ∧ (IxIs j c r9)) := by
  refine Ct.of (by decide) (Nat.le_of_ble_eq_true rfl) (lv := [(0, .ref (g.adV j)), (1, .int (iI c)), (2, .int (iI 0)), (3, .int (iI ((sLen j : Nat) : Int)))]) rfl ?_
  intro E hE hR hnm
  have hr := sLen_rg j hj
  refine r_iload_n 1 hE 1 dJ1_indexOf_4cfef_0 rfl rfl rfl ?_
  refine r_callS 4 hE [] [] [] [] [] (c_J1_canEncode_9a6ad (by omega)) dJ1_indexOf_4cfef_1 rfl wd_464 wd_465 wd_14 wd_466 ne_J1 np_J1_canEncode_9a6ad (Nat.le_of_ble_eq_true rfl)  (by decide) (by decide) rfl (Nat.le_of_ble_eq_true rfl) rfl rfl rfl rfl (by decide) (fun v1 f1 hp => ?_)
  obtain ⟨rfl, rfl⟩ := hp
  show G g E _ _ _ [] 4 [(0, .ref (g.adV j)), (1, .int (iI c)), (2, .int (iI 0)), (3, .int (iI ((sLen j : Nat) : Int)))] [.int (iI (bI (0 ≤ c ∧ c ≤ 255)))]
  refine r_if_ne 7 9 hE dJ1_indexOf_4cfef_4 rfl (by decide) (bI_rg _) (fun c4 => ?_) (fun c4 => ?_)
  · skip
    have c4 := bI1 c4
    refine r_iload_n 10 hE 2 dJ1_indexOf_4cfef_9 rfl rfl rfl ?_
    refine r_iconst 11 hE dJ1_indexOf_4cfef_10 rfl ?_
    refine r_max 14 hE dJ1_indexOf_4cfef_11 rfl wd_467 wd_110 wd_6 wd_111 (Nat.le_of_ble_eq_true rfl) (by decide) (by decide) (Nat.le_of_ble_eq_true rfl) (by omega) ?_
    rw [show (max 0 0 : Int) = 0 from by omega]
    refine r_istore_n 15 hE [(2, .int (iI 0)), (0, .ref (g.adV j)), (1, .int (iI c)), (3, .int (iI ((sLen j : Nat) : Int)))] dJ1_indexOf_4cfef_14 rfl rfl (by decide) rfl ?_
    refine r_iload_n 16 hE 3 dJ1_indexOf_4cfef_15 rfl rfl rfl ?_
    refine r_aload_n 17 hE 1 dJ1_indexOf_4cfef_16 rfl rfl rfl ?_
    refine r_lenS 18 hE (hj) dJ1_indexOf_4cfef_17 rfl ?_
    refine r_min 21 hE dJ1_indexOf_4cfef_18 rfl wd_468 wd_360 wd_6 wd_361 (Nat.le_of_ble_eq_true rfl) (by decide) (by decide) (Nat.le_of_ble_eq_true rfl) (by omega) ?_
    rw [show (min ((sLen j : Nat) : Int) ((sLen j : Nat) : Int) : Int) = ((sLen j : Nat) : Int) from by omega]
    refine r_istore_n 22 hE [(3, .int (iI ((sLen j : Nat) : Int))), (2, .int (iI 0)), (0, .ref (g.adV j)), (1, .int (iI c))] dJ1_indexOf_4cfef_21 rfl rfl (by decide) rfl ?_
    refine r_iload_n 23 hE 1 dJ1_indexOf_4cfef_22 rfl rfl rfl ?_
    refine r_iload_n 24 hE 0 dJ1_indexOf_4cfef_23 rfl rfl rfl ?_
    refine r_icmp_lt 27 29 hE dJ1_indexOf_4cfef_24 rfl (by decide) (by omega) (fun c24 => ?_) (fun c24 => ?_)
    · skip
      refine r_aload_n 30 hE 2 dJ1_indexOf_4cfef_29 rfl rfl rfl ?_
      refine r_iload_n 31 hE 3 dJ1_indexOf_4cfef_30 rfl rfl rfl ?_
      refine r_iload_n 32 hE 1 dJ1_indexOf_4cfef_31 rfl rfl rfl ?_
      refine r_iload_n 33 hE 0 dJ1_indexOf_4cfef_32 rfl rfl rfl ?_
      refine r_callS 36 hE [] [] [] [] [] (c_J1_indexOfChar_4cfef (by first | exact hj | decide) (by omega)) dJ1_indexOf_4cfef_33 rfl wd_469 wd_470 wd_14 wd_471 ne_J1 np_J1_indexOfChar_4cfef (Nat.le_of_ble_eq_true rfl)  (by decide) (by decide) rfl (Nat.le_of_ble_eq_true rfl) rfl rfl rfl rfl (by decide) (fun v1 f1 hp => ?_)
      obtain ⟨r9_33, rfl, rfl, h33_0⟩ := hp
      show G g E _ _ _ [] 36 [(3, .int (iI ((sLen j : Nat) : Int))), (2, .int (iI 0)), (0, .ref (g.adV j)), (1, .int (iI c))] [.int (iI r9_33)]
      refine r_ireturn hE hR [] dJ1_indexOf_4cfef_36 (Nat.le_of_ble_eq_true rfl) (Nat.le_of_ble_eq_true rfl) rfl ?_
      exact ⟨r9_33, rfl, rfl, h33_0⟩
    · skip
      omega
  · skip
    have c4 := bI0 c4
    omega
set_option maxHeartbeats 4000000 in
set_option maxRecDepth 100000 in
theorem c_J0_indexOf_7cf53 {g : Gm} {j : Nat} {c : Int} (hj : j < 3) (hc : 0 < c ∧ c ≤ 127) : Ct g 2 0 0 yJ0_indexOf_7cf53 cJ0_indexOf_7cf53 3 (some .int) [.ref (g.adK j), .int (iI c), .int (iI 0)] [] (fun v_ w_ => ∃ r9 : Int, v_ = some (.int (iI r9)) ∧ w_ = [] ∧ (IxIs j c r9)) := by
  refine Ct.of (by decide) (Nat.le_of_ble_eq_true rfl) (lv := [(0, .ref (g.adK j)), (1, .int (iI c)), (2, .int (iI 0))]) rfl ?_
  intro E hE hR hnm
  have hr := sLen_rg j hj
  refine r_aload_n 1 hE 0 dJ0_indexOf_7cf53_0 rfl rfl rfl ?_
  refine r_callT 4 hE [] [] [] [] (hj) [] (c_J0_isLatin1_aae02 (by first | exact hj | decide)) dJ0_indexOf_7cf53_1 rfl rfl wd_401 wd_402 wd_403 wd_13 wd_404 ne_J0 np_J0_isLatin1_aae02 (Nat.le_of_ble_eq_true rfl)  (by decide) (by decide) rfl (Nat.le_of_ble_eq_true rfl) rfl rfl rfl rfl (by decide) (fun v1 f1 hp => ?_)
  obtain ⟨rfl, rfl⟩ := hp
  show G g E _ _ _ [] 4 [(0, .ref (g.adK j)), (1, .int (iI c)), (2, .int (iI 0))] [.int (iI 1)]
  refine r_if_eq 7 23 hE dJ0_indexOf_7cf53_4 rfl (by decide) (by omega) (fun c4 => ?_) (fun c4 => ?_)
  · skip
    omega
  · skip
    refine r_aload_n 8 hE 0 dJ0_indexOf_7cf53_7 rfl rfl rfl ?_
    refine r_getV 11 hE (hj) dJ0_indexOf_7cf53_8 rfl wd_1521 ?_
    refine r_iload_n 12 hE 1 dJ0_indexOf_7cf53_11 rfl rfl rfl ?_
    refine r_iload_n 13 hE 2 dJ0_indexOf_7cf53_12 rfl rfl rfl ?_
    refine r_aload_n 14 hE 0 dJ0_indexOf_7cf53_13 rfl rfl rfl ?_
    refine r_callT 17 hE [] [] [] [] (hj) [.int (iI 0), .int (iI c), .ref (g.adV j)] (c_J0_length_8abf5 (by first | exact hj | decide)) dJ0_indexOf_7cf53_14 rfl rfl wd_460 wd_388 wd_389 wd_13 wd_390 ne_J0 np_J0_length_8abf5 (Nat.le_of_ble_eq_true rfl)  (by decide) (by decide) rfl (Nat.le_of_ble_eq_true rfl) rfl rfl rfl rfl (by decide) (fun v1 f1 hp => ?_)
    obtain ⟨rfl, rfl⟩ := hp
    show G g E _ _ _ [] 17 [(0, .ref (g.adK j)), (1, .int (iI c)), (2, .int (iI 0))] [.int (iI ((sLen j : Nat) : Int)), .int (iI 0), .int (iI c), .ref (g.adV j)]
    refine r_callS 20 hE [] [] [] [] [] (c_J1_indexOf_4cfef (by first | exact hj | decide) (by omega)) dJ0_indexOf_7cf53_17 rfl wd_461 wd_462 wd_14 wd_463 ne_J1 np_J1_indexOf_4cfef (Nat.le_of_ble_eq_true rfl)  (by decide) (by decide) rfl (Nat.le_of_ble_eq_true rfl) rfl rfl rfl rfl (by decide) (fun v1 f1 hp => ?_)
    obtain ⟨r9_17, rfl, rfl, h17_0⟩ := hp
    show G g E _ _ _ [] 20 [(0, .ref (g.adK j)), (1, .int (iI c)), (2, .int (iI 0))] [.int (iI r9_17)]
    refine r_goto 36 hE dJ0_indexOf_7cf53_20 (by decide) ?_
    refine r_ireturn hE hR [] dJ0_indexOf_7cf53_36 (Nat.le_of_ble_eq_true rfl) (Nat.le_of_ble_eq_true rfl) rfl ?_
    exact ⟨r9_17, rfl, rfl, h17_0⟩
set_option maxHeartbeats 4000000 in
set_option maxRecDepth 100000 in
theorem c_J0_indexOf_0f7a4 {g : Gm} {j : Nat} {c : Int} (hj : j < 3) (hc : 0 < c ∧ c ≤ 127) : Ct g 3 0 0 yJ0_indexOf_0f7a4 cJ0_indexOf_0f7a4 2 (some .int) [.ref (g.adK j), .int (iI c)] [] (fun v_ w_ => ∃ r9 : Int, v_ = some (.int (iI r9)) ∧ w_ = [] ∧ (IxIs j c r9)) := by
  refine Ct.of (by decide) (Nat.le_of_ble_eq_true rfl) (lv := [(0, .ref (g.adK j)), (1, .int (iI c))]) rfl ?_
  intro E hE hR hnm
  refine r_aload_n 1 hE 0 dJ0_indexOf_0f7a4_0 rfl rfl rfl ?_
  refine r_iload_n 2 hE 1 dJ0_indexOf_0f7a4_1 rfl rfl rfl ?_
  refine r_iconst 3 hE dJ0_indexOf_0f7a4_2 rfl ?_
  refine r_callT 6 hE [] [] [] [] (hj) [] (c_J0_indexOf_7cf53 (by first | exact hj | decide) (by omega)) dJ0_indexOf_0f7a4_3 rfl rfl wd_456 wd_457 wd_458 wd_13 wd_459 ne_J0 np_J0_indexOf_7cf53 (Nat.le_of_ble_eq_true rfl)  (by decide) (by decide) rfl (Nat.le_of_ble_eq_true rfl) rfl rfl rfl rfl (by decide) (fun v1 f1 hp => ?_)
  obtain ⟨r9_3, rfl, rfl, h3_0⟩ := hp
  show G g E _ _ _ [] 6 [(0, .ref (g.adK j)), (1, .int (iI c))] [.int (iI r9_3)]
  refine r_ireturn hE hR [] dJ0_indexOf_0f7a4_6 (Nat.le_of_ble_eq_true rfl) (Nat.le_of_ble_eq_true rfl) rfl ?_
  exact ⟨r9_3, rfl, rfl, h3_0⟩
