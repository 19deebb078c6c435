set_option maxHeartbeats 4000000 in
set_option maxRecDepth 100000 in
theorem law_head {g : Gm} {E : Cx} {b L : Nat} {xs : Nat → Int32} (hE : Ok g E 4 RL cL_law 2048 600000 7302250) (hX : ScrOk E b L xs) (fin : ∀ (k n : Nat), k ≤ 600000 → n ≤ 7302250 → ∀ (C M : va_W), G g E 4 k n [C, M] 1175 [] [.int (iI 1)]) : G g E 4 0 0 [] 0 [(0, .ref b)] [] := by
  refine r_new 3 hE ok8 dv8 dL_law_0 rfl wd_20 wd_21 wd_1 df8 (by decide) (fun x => ?_)
  show G g E _ _ _ [[ob x 8 dv8]] 3 [(0, .ref b)] [.ref x]
  refine r_dup 4 hE dL_law_3 rfl rfl ?_
  refine r_callI 7 hE [0] [] [[ob x 8 dv8]] [] [.ref x] (c_X8_init g x) dL_law_4 rfl rfl wd_22 wd_23 wd_1 wd_24 ne_X8 np_X8_init (Nat.le_of_ble_eq_true rfl) (by decide) (by decide) rfl (Nat.le_of_ble_eq_true rfl) rfl rfl rfl rfl (by decide) (fun v1 f1 hp => ?_)
  obtain ⟨C, rfl, rfl, hC⟩ := hp
  show G g E _ _ _ [C] 7 [(0, .ref b)] [.ref x]
  refine r_astore_n 8 hE [(1, .ref x), (0, .ref b)] dL_law_7 rfl rfl (by decide) rfl ?_
  refine r_new 11 hE ok9 dv9 dL_law_8 rfl wd_1044 wd_1045 wd_12 df9 (by decide) (fun z => ?_)
  show G g E _ _ _ [C, [ob z 9 dv9]] 11 [(1, .ref x), (0, .ref b)] [.ref z]
  refine r_dup 12 hE dL_law_11 rfl rfl ?_
  refine r_callI 15 hE [1] [0] [[ob z 9 dv9]] [C] [.ref z] (c_X9_init g z) dL_law_12 rfl rfl wd_1046 wd_1047 wd_12 wd_1048 ne_X9 np_X9_init (Nat.le_of_ble_eq_true rfl) (by decide) (by decide) rfl (Nat.le_of_ble_eq_true rfl) rfl rfl rfl rfl (by decide) (fun v1 f1 hp => ?_)
  obtain ⟨mo, hmo, rfl, M, rfl, hM⟩ := hp
  subst hmo
  show G g E _ _ _ [M, C] 15 [(1, .ref x), (0, .ref b)] [.ref (mo 0)]
  refine r_astore_n 16 hE [(2, .ref (mo 0)), (1, .ref x), (0, .ref b)] dL_law_15 rfl rfl (by decide) rfl ?_
  refine r_iconst 17 hE dL_law_16 rfl ?_
  refine r_istore_n 18 hE [(3, .int (iI 0)), (2, .ref (mo 0)), (1, .ref x), (0, .ref b)] dL_law_17 rfl rfl (by decide) rfl ?_
  refine G.to (fs' := [C, M]) (lv' := [(0, .ref b), (1, .ref x), (2, .ref (mo 0)), (3, .int (iI 0))]) [1, 0] [3, 2, 1, 0] rfl rfl rfl ?_
  exact law_loop hE ⟨Nat.le_of_ble_eq_true rfl, Nat.le_of_ble_eq_true rfl⟩ hX (fin _ _ (Nat.le_of_ble_eq_true rfl) (Nat.le_of_ble_eq_true rfl)) (L + 7) 0 v0 vM0 C M hC hM veq0 (by omega) (by omega)
