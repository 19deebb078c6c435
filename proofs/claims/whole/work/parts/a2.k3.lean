abbrev dv0 : List Value := [.null, .null, .null, .null, .null, .null, .int (iI 0), .int (iI 0), .int (iI 0), .int (iI 0), .int (iI 0), .int (iI 0), .int (iI 0)]
theorem df0 : ∀ j, j < 13 → defaultValue (tyX0 j) = vp_V dv0 j
  | 0, _ => rfl
  | 1, _ => rfl
  | 2, _ => rfl
  | 3, _ => rfl
  | 4, _ => rfl
  | 5, _ => rfl
  | 6, _ => rfl
  | 7, _ => rfl
  | 8, _ => rfl
  | 9, _ => rfl
  | 10, _ => rfl
  | 11, _ => rfl
  | 12, _ => rfl
  | j + 13, h => absurd h (by omega)
abbrev dv1 : List Value := [.null, .int (iI 0), .int (iI 0)]
theorem df1 : ∀ j, j < 3 → defaultValue (tyX1 j) = vp_V dv1 j
  | 0, _ => rfl
  | 1, _ => rfl
  | 2, _ => rfl
  | j + 3, h => absurd h (by omega)
abbrev dv2 : List Value := [.null, .int (iI 0)]
theorem df2 : ∀ j, j < 2 → defaultValue (tyX2 j) = vp_V dv2 j
  | 0, _ => rfl
  | 1, _ => rfl
  | j + 2, h => absurd h (by omega)
abbrev dv3 : List Value := [.null, .null, .null, .null, .null, .null, .null, .null, .null, .int (iI 0), .int (iI 0), .int (iI 0)]
theorem df3 : ∀ j, j < 12 → defaultValue (tyX3 j) = vp_V dv3 j
  | 0, _ => rfl
  | 1, _ => rfl
  | 2, _ => rfl
  | 3, _ => rfl
  | 4, _ => rfl
  | 5, _ => rfl
  | 6, _ => rfl
  | 7, _ => rfl
  | 8, _ => rfl
  | 9, _ => rfl
  | 10, _ => rfl
  | 11, _ => rfl
  | j + 12, h => absurd h (by omega)
abbrev dv4 : List Value := [.null, .int (iI 0)]
theorem df4 : ∀ j, j < 2 → defaultValue (tyX4 j) = vp_V dv4 j
  | 0, _ => rfl
  | 1, _ => rfl
  | j + 2, h => absurd h (by omega)
abbrev dv5 : List Value := [.null, .null, .null, .null, .int (iI 0), .int (iI 0), .int (iI 0)]
theorem df5 : ∀ j, j < 7 → defaultValue (tyX5 j) = vp_V dv5 j
  | 0, _ => rfl
  | 1, _ => rfl
  | 2, _ => rfl
  | 3, _ => rfl
  | 4, _ => rfl
  | 5, _ => rfl
  | 6, _ => rfl
  | j + 7, h => absurd h (by omega)
abbrev dv6 : List Value := [.null, .null, .null, .null, .int (iI 0), .int (iI 0), .int (iI 0), .int (iI 0)]
theorem df6 : ∀ j, j < 8 → defaultValue (tyX6 j) = vp_V dv6 j
  | 0, _ => rfl
  | 1, _ => rfl
  | 2, _ => rfl
  | 3, _ => rfl
  | 4, _ => rfl
  | 5, _ => rfl
  | 6, _ => rfl
  | 7, _ => rfl
  | j + 8, h => absurd h (by omega)
abbrev dv7 : List Value := [.null, .null, .null, .null, .null, .null, .null, .int (iI 0), .int (iI 0), .int (iI 0)]
theorem df7 : ∀ j, j < 10 → defaultValue (tyX7 j) = vp_V dv7 j
  | 0, _ => rfl
  | 1, _ => rfl
  | 2, _ => rfl
  | 3, _ => rfl
  | 4, _ => rfl
  | 5, _ => rfl
  | 6, _ => rfl
  | 7, _ => rfl
  | 8, _ => rfl
  | 9, _ => rfl
  | j + 10, h => absurd h (by omega)
abbrev dv8 : List Value := [.null, .null, .int (iI 0), .int (iI 0), .null, .null, .null, .null, .null, .null, .null]
theorem df8 : ∀ j, j < 11 → defaultValue (tyX8 j) = vp_V dv8 j
  | 0, _ => rfl
  | 1, _ => rfl
  | 2, _ => rfl
  | 3, _ => rfl
  | 4, _ => rfl
  | 5, _ => rfl
  | 6, _ => rfl
  | 7, _ => rfl
  | 8, _ => rfl
  | 9, _ => rfl
  | 10, _ => rfl
  | j + 11, h => absurd h (by omega)
abbrev dv9 : List Value := [.null, .null, .int (iI 0), .int (iI 0), .int (iI 0), .null, .null, .null, .null, .null, .null, .null, .int (iI 0), .int (iI 0), .null, .int (iI 0), .null, .null, .null, .null, .null, .null, .int (iI 0), .null, .null, .int (iI 0), .int (iI 0), .int (iI 0), .int (iI 0), .int (iI 0), .int (iI 0), .int (iI 0), .int (iI 0), .int (iI 0), .int (iI 0), .int (iI 0), .null, .int (iI 0)]
theorem df9 : ∀ j, j < 38 → defaultValue (tyX9 j) = vp_V dv9 j
  | 0, _ => rfl
  | 1, _ => rfl
  | 2, _ => rfl
  | 3, _ => rfl
  | 4, _ => rfl
  | 5, _ => rfl
  | 6, _ => rfl
  | 7, _ => rfl
  | 8, _ => rfl
  | 9, _ => rfl
  | 10, _ => rfl
  | 11, _ => rfl
  | 12, _ => rfl
  | 13, _ => rfl
  | 14, _ => rfl
  | 15, _ => rfl
  | 16, _ => rfl
  | 17, _ => rfl
  | 18, _ => rfl
  | 19, _ => rfl
  | 20, _ => rfl
  | 21, _ => rfl
  | 22, _ => rfl
  | 23, _ => rfl
  | 24, _ => rfl
  | 25, _ => rfl
  | 26, _ => rfl
  | 27, _ => rfl
  | 28, _ => rfl
  | 29, _ => rfl
  | 30, _ => rfl
  | 31, _ => rfl
  | 32, _ => rfl
  | 33, _ => rfl
  | 34, _ => rfl
  | 35, _ => rfl
  | 36, _ => rfl
  | 37, _ => rfl
  | j + 38, h => absurd h (by omega)
set_option maxHeartbeats 4000000 in
set_option maxRecDepth 100000 in
theorem c_X5_init (g : Gm) (x : Nat) : Ct g 3 4 4824 yX5_init cX5_init 1 none [.ref x] [[ob x 5 dv5]] (fun v_ w_ => ∃ a : Nat → Nat, a 0 = x ∧ v_ = none ∧ w_ = [wShelf g a (fun _ => 0) (fun _ => 0) (fun _ => 0) (fun _ => 0) 0 (-1) 0]) := by
  refine Ct.of (by decide) (Nat.le_of_ble_eq_true rfl) (lv := [(0, .ref x)]) rfl ?_
  intro E hE hR hnm
  show G g E _ _ _ [[ob x 5 [.null, .null, .null, .null, .int (iI 0), .int (iI 0), .int (iI 0)]]] 0 [(0, .ref x)] []
  refine r_aload_n 1 hE 0 dX5_init_0 rfl rfl rfl ?_
  refine r_objInit 4 hE dX5_init_1 rfl wd_74 wd_26 wd_27 (Nat.le_of_ble_eq_true rfl) (Nat.le_of_ble_eq_true rfl) ?_
  refine r_aload_n 5 hE 0 dX5_init_4 rfl rfl rfl ?_
  refine r_sipush 8 hE dX5_init_5 rfl (by decide) ?_
  refine r_newb 10 4800 hE ⟨rfl, by decide⟩ dX5_init_8 rfl (by decide) (fun a8_5 => ?_)
  show G g E _ _ _ [[ob x 5 [.null, .null, .null, .null, .int (iI 0), .int (iI 0), .int (iI 0)]], [ba g a8_5 4800 (fun _ => 0)]] 10 [(0, .ref x)] [.ref a8_5, .ref x]
  refine r_putF 13 hE hnm 0 0 ok5 0 [ob x 5 [.ref a8_5, .null, .null, .null, .int (iI 0), .int (iI 0), .int (iI 0)]] [[ob x 5 [.ref a8_5, .null, .null, .null, .int (iI 0), .int (iI 0), .int (iI 0)]], [ba g a8_5 4800 (fun _ => 0)]] dX5_init_10 rfl wd_75 rfl rfl (by decide) rfl rfl rfl rfl (Nat.le_of_ble_eq_true rfl) rfl rfl ?_
  refine r_aload_n 14 hE 0 dX5_init_13 rfl rfl rfl ?_
  refine r_bipush 16 hE dX5_init_14 rfl (by decide) ?_
  refine r_newi 18 8 hE ⟨rfl, by decide⟩ dX5_init_16 rfl (by decide) (fun a16_9 => ?_)
  show G g E _ _ _ [[ob x 5 [.ref a8_5, .null, .null, .null, .int (iI 0), .int (iI 0), .int (iI 0)]], [ba g a8_5 4800 (fun _ => 0)], [ia g a16_9 8 (fun _ => 0)]] 18 [(0, .ref x)] [.ref a16_9, .ref x]
  refine r_putF 21 hE hnm 0 0 ok5 1 [ob x 5 [.ref a8_5, .ref a16_9, .null, .null, .int (iI 0), .int (iI 0), .int (iI 0)]] [[ob x 5 [.ref a8_5, .ref a16_9, .null, .null, .int (iI 0), .int (iI 0), .int (iI 0)]], [ba g a8_5 4800 (fun _ => 0)], [ia g a16_9 8 (fun _ => 0)]] dX5_init_18 rfl wd_78 rfl rfl (by decide) rfl rfl rfl rfl (Nat.le_of_ble_eq_true rfl) rfl rfl ?_
  refine r_aload_n 22 hE 0 dX5_init_21 rfl rfl rfl ?_
  refine r_bipush 24 hE dX5_init_22 rfl (by decide) ?_
  refine r_newi 26 8 hE ⟨rfl, by decide⟩ dX5_init_24 rfl (by decide) (fun a24_13 => ?_)
  show G g E _ _ _ [[ob x 5 [.ref a8_5, .ref a16_9, .null, .null, .int (iI 0), .int (iI 0), .int (iI 0)]], [ba g a8_5 4800 (fun _ => 0)], [ia g a16_9 8 (fun _ => 0)], [ia g a24_13 8 (fun _ => 0)]] 26 [(0, .ref x)] [.ref a24_13, .ref x]
  refine r_putF 29 hE hnm 0 0 ok5 2 [ob x 5 [.ref a8_5, .ref a16_9, .ref a24_13, .null, .int (iI 0), .int (iI 0), .int (iI 0)]] [[ob x 5 [.ref a8_5, .ref a16_9, .ref a24_13, .null, .int (iI 0), .int (iI 0), .int (iI 0)]], [ba g a8_5 4800 (fun _ => 0)], [ia g a16_9 8 (fun _ => 0)], [ia g a24_13 8 (fun _ => 0)]] dX5_init_26 rfl wd_80 rfl rfl (by decide) rfl rfl rfl rfl (Nat.le_of_ble_eq_true rfl) rfl rfl ?_
  refine r_aload_n 30 hE 0 dX5_init_29 rfl rfl rfl ?_
  refine r_bipush 32 hE dX5_init_30 rfl (by decide) ?_
  refine r_newi 34 8 hE ⟨rfl, by decide⟩ dX5_init_32 rfl (by decide) (fun a32_17 => ?_)
  show G g E _ _ _ [[ob x 5 [.ref a8_5, .ref a16_9, .ref a24_13, .null, .int (iI 0), .int (iI 0), .int (iI 0)]], [ba g a8_5 4800 (fun _ => 0)], [ia g a16_9 8 (fun _ => 0)], [ia g a24_13 8 (fun _ => 0)], [ia g a32_17 8 (fun _ => 0)]] 34 [(0, .ref x)] [.ref a32_17, .ref x]
  refine r_putF 37 hE hnm 0 0 ok5 3 [ob x 5 [.ref a8_5, .ref a16_9, .ref a24_13, .ref a32_17, .int (iI 0), .int (iI 0), .int (iI 0)]] [[ob x 5 [.ref a8_5, .ref a16_9, .ref a24_13, .ref a32_17, .int (iI 0), .int (iI 0), .int (iI 0)]], [ba g a8_5 4800 (fun _ => 0)], [ia g a16_9 8 (fun _ => 0)], [ia g a24_13 8 (fun _ => 0)], [ia g a32_17 8 (fun _ => 0)]] dX5_init_34 rfl wd_81 rfl rfl (by decide) rfl rfl rfl rfl (Nat.le_of_ble_eq_true rfl) rfl rfl ?_
  refine r_aload_n 38 hE 0 dX5_init_37 rfl rfl rfl ?_
  refine r_iconst 39 hE dX5_init_38 rfl ?_
  refine r_put 42 hE 0 0 ok5 5 [ob x 5 [.ref a8_5, .ref a16_9, .ref a24_13, .ref a32_17, .int (iI 0), .int (iI (-1)), .int (iI 0)]] [[ob x 5 [.ref a8_5, .ref a16_9, .ref a24_13, .ref a32_17, .int (iI 0), .int (iI (-1)), .int (iI 0)]], [ba g a8_5 4800 (fun _ => 0)], [ia g a16_9 8 (fun _ => 0)], [ia g a24_13 8 (fun _ => 0)], [ia g a32_17 8 (fun _ => 0)]] dX5_init_39 rfl wd_85 rfl rfl (by decide) rfl rfl rfl (Nat.le_of_ble_eq_true rfl) rfl rfl ?_
  refine r_return hE hR [wShelf g (af [x, a8_5, a16_9, a24_13, a32_17]) (fun _ => 0) (fun _ => 0) (fun _ => 0) (fun _ => 0) 0 (-1) 0] dX5_init_42 (Nat.le_of_ble_eq_true rfl) (Nat.le_of_ble_eq_true rfl) rfl ?_
  exact ⟨(af [x, a8_5, a16_9, a24_13, a32_17]), rfl, rfl, rfl⟩
set_option maxHeartbeats 4000000 in
set_option maxRecDepth 100000 in
theorem c_X4_init (g : Gm) (x : Nat) : Ct g 3 1 601 yX4_init cX4_init 1 none [.ref x] [[ob x 4 dv4]] (fun v_ w_ => ∃ a : Nat → Nat, a 0 = x ∧ v_ = none ∧ w_ = [wSearch g a (fun _ => 0) 0]) := by
  refine Ct.of (by decide) (Nat.le_of_ble_eq_true rfl) (lv := [(0, .ref x)]) rfl ?_
  intro E hE hR hnm
  show G g E _ _ _ [[ob x 4 [.null, .int (iI 0)]]] 0 [(0, .ref x)] []
  refine r_aload_n 1 hE 0 dX4_init_0 rfl rfl rfl ?_
  refine r_objInit 4 hE dX4_init_1 rfl wd_289 wd_26 wd_27 (Nat.le_of_ble_eq_true rfl) (Nat.le_of_ble_eq_true rfl) ?_
  refine r_aload_n 5 hE 0 dX4_init_4 rfl rfl rfl ?_
  refine r_sipush 8 hE dX4_init_5 rfl (by decide) ?_
  refine r_newi 10 601 hE ⟨rfl, by decide⟩ dX4_init_8 rfl (by decide) (fun a8_5 => ?_)
  show G g E _ _ _ [[ob x 4 [.null, .int (iI 0)]], [ia g a8_5 601 (fun _ => 0)]] 10 [(0, .ref x)] [.ref a8_5, .ref x]
  refine r_putF 13 hE hnm 0 0 ok4 0 [ob x 4 [.ref a8_5, .int (iI 0)]] [[ob x 4 [.ref a8_5, .int (iI 0)]], [ia g a8_5 601 (fun _ => 0)]] dX4_init_10 rfl wd_290 rfl rfl (by decide) rfl rfl rfl rfl (Nat.le_of_ble_eq_true rfl) rfl rfl ?_
  refine r_return hE hR [wSearch g (af [x, a8_5]) (fun _ => 0) 0] dX4_init_13 (Nat.le_of_ble_eq_true rfl) (Nat.le_of_ble_eq_true rfl) rfl ?_
  exact ⟨(af [x, a8_5]), rfl, rfl, rfl⟩
set_option maxHeartbeats 4000000 in
set_option maxRecDepth 100000 in
theorem c_X2_init (g : Gm) (x : Nat) (m : Nat) (hm : m ≤ 4800) : Ct g 3 1 m yX2_init cX2_init 2 none [.ref x, .int (iI (m : Int))] [[ob x 2 dv2]] (fun v_ w_ => ∃ a : Nat → Nat, a 0 = x ∧ v_ = none ∧ w_ = [wRow g a m (fun _ => 0) 0]) := by
  refine Ct.of (by decide) (Nat.le_of_ble_eq_true rfl) (lv := [(0, .ref x), (1, .int (iI (m : Int)))]) rfl ?_
  intro E hE hR hnm
  show G g E _ _ _ [[ob x 2 [.null, .int (iI 0)]]] 0 [(0, .ref x), (1, .int (iI (m : Int)))] []
  refine r_aload_n 1 hE 0 dX2_init_0 rfl rfl rfl ?_
  refine r_objInit 4 hE dX2_init_1 rfl wd_108 wd_26 wd_27 (Nat.le_of_ble_eq_true rfl) (Nat.le_of_ble_eq_true rfl) ?_
  refine r_aload_n 5 hE 0 dX2_init_4 rfl rfl rfl ?_
  refine r_iload_n 6 hE 1 dX2_init_5 rfl rfl rfl ?_
  refine r_iconst 7 hE dX2_init_6 rfl ?_
  refine r_max 10 hE dX2_init_7 rfl wd_109 wd_110 wd_6 wd_111 (Nat.le_of_ble_eq_true rfl) (by decide) (by omega) (Nat.le_of_ble_eq_true rfl) (by omega) ?_
  refine r_newb 12 m hE (by omega) dX2_init_10 rfl (by omega) (fun a10_7 => ?_)
  show G g E _ _ _ [[ob x 2 [.null, .int (iI 0)]], [ba g a10_7 m (fun _ => 0)]] 12 [(0, .ref x), (1, .int (iI (m : Int)))] [.ref a10_7, .ref x]
  refine r_putF 15 hE hnm 0 0 ok2 0 [ob x 2 [.ref a10_7, .int (iI 0)]] [[ob x 2 [.ref a10_7, .int (iI 0)]], [ba g a10_7 m (fun _ => 0)]] dX2_init_12 rfl wd_112 rfl rfl (by decide) rfl rfl rfl rfl (Nat.le_of_ble_eq_true rfl) rfl rfl ?_
  refine r_return hE hR [wRow g (af [x, a10_7]) m (fun _ => 0) 0] dX2_init_15 (by omega) (by omega) rfl ?_
  exact ⟨(af [x, a10_7]), rfl, rfl, rfl⟩
set_option maxHeartbeats 4000000 in
set_option maxRecDepth 100000 in
theorem c_X6_init (g : Gm) (x : Nat) : Ct g 3 4 3603 yX6_init cX6_init 1 none [.ref x] [[ob x 6 dv6]] (fun v_ w_ => ∃ (k : Nat → Nat) (u : Nat), k 0 = x ∧ v_ = none ∧ w_ = [wTok g k u (fun _ => 0) (fun _ => 0) (fun _ => 0) 0 0 0 0, wBytes g u 900 (fun _ => 0)]) := by
  refine Ct.of (by decide) (Nat.le_of_ble_eq_true rfl) (lv := [(0, .ref x)]) rfl ?_
  intro E hE hR hnm
  show G g E _ _ _ [[ob x 6 [.null, .null, .null, .null, .int (iI 0), .int (iI 0), .int (iI 0), .int (iI 0)]]] 0 [(0, .ref x)] []
  refine r_aload_n 1 hE 0 dX6_init_0 rfl rfl rfl ?_
  refine r_objInit 4 hE dX6_init_1 rfl wd_39 wd_26 wd_27 (Nat.le_of_ble_eq_true rfl) (Nat.le_of_ble_eq_true rfl) ?_
  refine r_aload_n 5 hE 0 dX6_init_4 rfl rfl rfl ?_
  refine r_sipush 8 hE dX6_init_5 rfl (by decide) ?_
  refine r_newb 10 900 hE ⟨rfl, by decide⟩ dX6_init_8 rfl (by decide) (fun a8_5 => ?_)
  show G g E _ _ _ [[ob x 6 [.null, .null, .null, .null, .int (iI 0), .int (iI 0), .int (iI 0), .int (iI 0)]], [ba g a8_5 900 (fun _ => 0)]] 10 [(0, .ref x)] [.ref a8_5, .ref x]
  refine r_putF 13 hE hnm 0 0 ok6 0 [ob x 6 [.ref a8_5, .null, .null, .null, .int (iI 0), .int (iI 0), .int (iI 0), .int (iI 0)]] [[ob x 6 [.ref a8_5, .null, .null, .null, .int (iI 0), .int (iI 0), .int (iI 0), .int (iI 0)]], [ba g a8_5 900 (fun _ => 0)]] dX6_init_10 rfl wd_40 rfl rfl (by decide) rfl rfl rfl rfl (Nat.le_of_ble_eq_true rfl) rfl rfl ?_
  refine r_aload_n 14 hE 0 dX6_init_13 rfl rfl rfl ?_
  refine r_sipush 17 hE dX6_init_14 rfl (by decide) ?_
  refine r_newi 19 901 hE ⟨rfl, by decide⟩ dX6_init_17 rfl (by decide) (fun a17_9 => ?_)
  show G g E _ _ _ [[ob x 6 [.ref a8_5, .null, .null, .null, .int (iI 0), .int (iI 0), .int (iI 0), .int (iI 0)]], [ba g a8_5 900 (fun _ => 0)], [ia g a17_9 901 (fun _ => 0)]] 19 [(0, .ref x)] [.ref a17_9, .ref x]
  refine r_putF 22 hE hnm 0 0 ok6 1 [ob x 6 [.ref a8_5, .ref a17_9, .null, .null, .int (iI 0), .int (iI 0), .int (iI 0), .int (iI 0)]] [[ob x 6 [.ref a8_5, .ref a17_9, .null, .null, .int (iI 0), .int (iI 0), .int (iI 0), .int (iI 0)]], [ba g a8_5 900 (fun _ => 0)], [ia g a17_9 901 (fun _ => 0)]] dX6_init_19 rfl wd_42 rfl rfl (by decide) rfl rfl rfl rfl (Nat.le_of_ble_eq_true rfl) rfl rfl ?_
  refine r_aload_n 23 hE 0 dX6_init_22 rfl rfl rfl ?_
  refine r_sipush 26 hE dX6_init_23 rfl (by decide) ?_
  refine r_newi 28 901 hE ⟨rfl, by decide⟩ dX6_init_26 rfl (by decide) (fun a26_13 => ?_)
  show G g E _ _ _ [[ob x 6 [.ref a8_5, .ref a17_9, .null, .null, .int (iI 0), .int (iI 0), .int (iI 0), .int (iI 0)]], [ba g a8_5 900 (fun _ => 0)], [ia g a17_9 901 (fun _ => 0)], [ia g a26_13 901 (fun _ => 0)]] 28 [(0, .ref x)] [.ref a26_13, .ref x]
  refine r_putF 31 hE hnm 0 0 ok6 2 [ob x 6 [.ref a8_5, .ref a17_9, .ref a26_13, .null, .int (iI 0), .int (iI 0), .int (iI 0), .int (iI 0)]] [[ob x 6 [.ref a8_5, .ref a17_9, .ref a26_13, .null, .int (iI 0), .int (iI 0), .int (iI 0), .int (iI 0)]], [ba g a8_5 900 (fun _ => 0)], [ia g a17_9 901 (fun _ => 0)], [ia g a26_13 901 (fun _ => 0)]] dX6_init_28 rfl wd_43 rfl rfl (by decide) rfl rfl rfl rfl (Nat.le_of_ble_eq_true rfl) rfl rfl ?_
  refine r_aload_n 32 hE 0 dX6_init_31 rfl rfl rfl ?_
  refine r_sipush 35 hE dX6_init_32 rfl (by decide) ?_
  refine r_newi 37 901 hE ⟨rfl, by decide⟩ dX6_init_35 rfl (by decide) (fun a35_17 => ?_)
  show G g E _ _ _ [[ob x 6 [.ref a8_5, .ref a17_9, .ref a26_13, .null, .int (iI 0), .int (iI 0), .int (iI 0), .int (iI 0)]], [ba g a8_5 900 (fun _ => 0)], [ia g a17_9 901 (fun _ => 0)], [ia g a26_13 901 (fun _ => 0)], [ia g a35_17 901 (fun _ => 0)]] 37 [(0, .ref x)] [.ref a35_17, .ref x]
  refine r_putF 40 hE hnm 0 0 ok6 3 [ob x 6 [.ref a8_5, .ref a17_9, .ref a26_13, .ref a35_17, .int (iI 0), .int (iI 0), .int (iI 0), .int (iI 0)]] [[ob x 6 [.ref a8_5, .ref a17_9, .ref a26_13, .ref a35_17, .int (iI 0), .int (iI 0), .int (iI 0), .int (iI 0)]], [ba g a8_5 900 (fun _ => 0)], [ia g a17_9 901 (fun _ => 0)], [ia g a26_13 901 (fun _ => 0)], [ia g a35_17 901 (fun _ => 0)]] dX6_init_37 rfl wd_44 rfl rfl (by decide) rfl rfl rfl rfl (Nat.le_of_ble_eq_true rfl) rfl rfl ?_
  refine G.to (fs' := [[ob x 6 [.ref a8_5, .ref a17_9, .ref a26_13, .ref a35_17, .int (iI 0), .int (iI 0), .int (iI 0), .int (iI 0)]], [ia g a17_9 901 (fun _ => 0)], [ia g a26_13 901 (fun _ => 0)], [ia g a35_17 901 (fun _ => 0)], [ba g a8_5 900 (fun _ => 0)]]) (lv' := [(0, .ref x)]) [0, 2, 3, 4, 1] [0] rfl rfl rfl ?_
  refine r_return hE hR [wTok g (af [x, a17_9, a26_13, a35_17]) a8_5 (fun _ => 0) (fun _ => 0) (fun _ => 0) 0 0 0 0, wBytes g a8_5 900 (fun _ => 0)] dX6_init_40 (Nat.le_of_ble_eq_true rfl) (Nat.le_of_ble_eq_true rfl) rfl ?_
  exact ⟨(af [x, a17_9, a26_13, a35_17]), a8_5, rfl, rfl, rfl⟩
