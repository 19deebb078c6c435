set_option maxHeartbeats 4000000 in
set_option maxRecDepth 100000 in
theorem law_loop {g : Gm} {E : Cx} {x b L k n : Nat} {mo : Nat → Nat} {xs : Nat → Int32} (hE : Ok g E 4 RL cL_law 2048 600000 7302250) (hkn : k ≤ 600000 ∧ n ≤ 7302250) (hX : ScrOk E b L xs) (fin : ∀ (C M : va_W), G g E 4 k n [C, M] 1175 [] [.int (iI 1)]) : ∀ (N : Nat) (i : Int) (V V2 : Vw) (C M : va_W), ClS g x i V C → MoS g mo V2 M → VEq V V2 → (0 ≤ i ∧ i ≤ (L : Int) + 6) → ((L : Int) - i).toNat < N → G g E 4 k n [C, M] 18 [(0, .ref b), (1, .ref x), (2, .ref (mo 0)), (3, .int (iI i))] [] := by
  intro N
  induction N with
  | zero => intro i V V2 C M _ _ _ _ hN; exact absurd hN (Nat.not_lt_zero _)
  | succ N ih =>
    intro i V V2 C M hC hM e h0 hN
    have hL := hX.2.2.2
    refine r_iload_n 19 hE 3 dL_law_18 rfl rfl rfl ?_
    refine r_aload_n 20 hE 0 dL_law_19 rfl rfl rfl ?_
    refine r_slen 21 hE hX dL_law_20 rfl ?_
    refine r_bipush 23 hE dL_law_21 rfl (by decide) ?_
    refine r_isub 24 hE ((L : Int) - 6) dL_law_23 rfl rfl ?_
    refine G.stc (st' := [.int (iI ((L : Int) - 6)), .int (iI i)]) rfl ?_
    by_cases hbig : True
    · skip
      refine r_icmp_gt 27 1174 hE dL_law_24 rfl (by decide) (by omega) (fun c24 => ?_) (fun c24 => ?_)
      · skip
        refine r_iconst 1175 hE dL_law_1174 rfl ?_
        refine G.to (fs' := [C, M]) (lv' := []) [0, 1] [] rfl rfl rfl ?_
        exact fin C M
      · skip
        have hi : 0 ≤ i ∧ i + 6 ≤ (L : Int) := by omega
        have next : ∀ (V9 W9 : Vw) (C9 M9 : va_W), ClS g x (i + 6) V9 C9 → MoS g mo W9 M9 → VEq V9 W9 → G g E 4 k n [C9, M9] 1168 [(0, .ref b), (1, .ref x), (2, .ref (mo 0)), (3, .int (iI i))] [] := fun V9 W9 C9 M9 hC9 hM9 e9 => by
          refine r_iinc 1171 hE 3 (i + 6) [(3, .int (iI (i + 6))), (0, .ref b), (1, .ref x), (2, .ref (mo 0))] dL_law_1168 rfl rfl rfl (by decide) rfl ?_
          refine r_goto 18 hE dL_law_1171 (by decide) ?_
          refine G.to (fs' := [C9, M9]) (lv' := [(0, .ref b), (1, .ref x), (2, .ref (mo 0)), (3, .int (iI (i + 6)))]) [0, 1] [1, 2, 3, 0] rfl rfl rfl ?_
          exact ih (i + 6) V9 W9 C9 M9 hC9 hM9 e9 (by omega) (by omega)
        refine r_aload_n 28 hE 0 dL_law_27 rfl rfl rfl ?_
        refine r_iload_n 29 hE 3 dL_law_28 rfl rfl rfl ?_
        refine r_sld 30 hE hX (by omega) dL_law_29 rfl ?_
        refine r_bipush 32 hE dL_law_30 rfl (by decide) ?_
        refine r_iand 33 hE dL_law_32 rfl ?_
        have hz9 : -2147483648 ≤ andI (sx xs i) 31 ∧ andI (sx xs i) 31 ≤ 2147483647 := iI_rg _
        generalize andI (sx xs i) 31 = z at hz9
        by_cases y0 : z = 0
        · skip
          refine r_tsIn 164 hE 0 dL_law_33 y0 (by decide) rfl (by decide) ?_
          exact lc_status hE hkn hX hi hC hM e next
        by_cases y1 : z = 1
        · skip
          refine r_tsIn 177 hE 1 dL_law_33 y1 (by decide) rfl (by decide) ?_
          exact lc_feed hE hkn hX hi hC hM e next
        by_cases y2 : z = 2
        · skip
          refine r_tsIn 240 hE 2 dL_law_33 y2 (by decide) rfl (by decide) ?_
          exact lc_load hE hkn hX hi hC hM e next
        by_cases y3 : z = 3
        · skip
          refine r_tsIn 263 hE 3 dL_law_33 y3 (by decide) rfl (by decide) ?_
          exact lc_fault hE hkn hX hi hC hM e next
        by_cases y4 : z = 4
        · skip
          refine r_tsIn 286 hE 4 dL_law_33 y4 (by decide) rfl (by decide) ?_
          exact lc_many hE hkn hX hi hC hM e next
        by_cases y5 : z = 5
        · skip
          refine r_tsIn 309 hE 5 dL_law_33 y5 (by decide) rfl (by decide) ?_
          exact lc_of hE hkn hX hi hC hM e next
        by_cases y6 : z = 6
        · skip
          refine r_tsIn 342 hE 6 dL_law_33 y6 (by decide) rfl (by decide) ?_
          exact lc_letter hE hkn hX hi hC hM e next
        by_cases y7 : z = 7
        · skip
          refine r_tsIn 375 hE 7 dL_law_33 y7 (by decide) rfl (by decide) ?_
          exact lc_rule hE hkn hX hi hC hM e next
        by_cases y8 : z = 8
        · skip
          refine r_tsIn 418 hE 8 dL_law_33 y8 (by decide) rfl (by decide) ?_
          exact lc_around hE hkn hX hi hC hM e next
        by_cases y9 : z = 9
        · skip
          refine r_tsIn 461 hE 9 dL_law_33 y9 (by decide) rfl (by decide) ?_
          exact lc_value hE hkn hX hi hC hM e next
        by_cases y10 : z = 10
        · skip
          refine r_tsIn 485 hE 10 dL_law_33 y10 (by decide) rfl (by decide) ?_
          exact lc_take hE hkn hX hi hC hM e next
        by_cases y11 : z = 11
        · skip
          refine r_tsIn 528 hE 11 dL_law_33 y11 (by decide) rfl (by decide) ?_
          exact lc_splice hE hkn hX hi hC hM e next
        by_cases y12 : z = 12
        · skip
          refine r_tsIn 581 hE 12 dL_law_33 y12 (by decide) rfl (by decide) ?_
          exact lc_join hE hkn hX hi hC hM e next
        by_cases y13 : z = 13
        · skip
          refine r_tsIn 614 hE 13 dL_law_33 y13 (by decide) rfl (by decide) ?_
          exact lc_repeat hE hkn hX hi hC hM e next
        by_cases y14 : z = 14
        · skip
          refine r_tsIn 647 hE 14 dL_law_33 y14 (by decide) rfl (by decide) ?_
          exact lc_turn hE hkn hX hi hC hM e next
        by_cases y15 : z = 15
        · skip
          refine r_tsIn 670 hE 15 dL_law_33 y15 (by decide) rfl (by decide) ?_
          exact lc_rename hE hkn hX hi hC hM e next
        by_cases y16 : z = 16
        · skip
          refine r_tsIn 713 hE 16 dL_law_33 y16 (by decide) rfl (by decide) ?_
          exact lc_drop hE hkn hX hi hC hM e next
        by_cases y17 : z = 17
        · skip
          refine r_tsIn 736 hE 17 dL_law_33 y17 (by decide) rfl (by decide) ?_
          exact lc_undo hE hkn hX hi hC hM e next
        by_cases y18 : z = 18
        · skip
          refine r_tsIn 749 hE 18 dL_law_33 y18 (by decide) rfl (by decide) ?_
          exact lc_mark hE hkn hX hi hC hM e next
        by_cases y19 : z = 19
        · skip
          refine r_tsIn 762 hE 19 dL_law_33 y19 (by decide) rfl (by decide) ?_
          exact lc_back hE hkn hX hi hC hM e next
        by_cases y20 : z = 20
        · skip
          refine r_tsIn 775 hE 20 dL_law_33 y20 (by decide) rfl (by decide) ?_
          exact lc_alike hE hkn hX hi hC hM e next
        by_cases y21 : z = 21
        · skip
          refine r_tsIn 828 hE 21 dL_law_33 y21 (by decide) rfl (by decide) ?_
          exact lc_against hE hkn hX hi hC hM e next
        by_cases y22 : z = 22
        · skip
          refine r_tsIn 871 hE 22 dL_law_33 y22 (by decide) rfl (by decide) ?_
          exact lc_find hE hkn hX hi hC hM e next
        by_cases y23 : z = 23
        · skip
          refine r_tsIn 914 hE 23 dL_law_33 y23 (by decide) rfl (by decide) ?_
          exact lc_finds hE hkn hX hi hC hM e next
        by_cases y24 : z = 24
        · skip
          refine r_tsIn 947 hE 24 dL_law_33 y24 (by decide) rfl (by decide) ?_
          exact lc_mirror hE hkn hX hi hC hM e next
        by_cases y25 : z = 25
        · skip
          refine r_tsIn 1006 hE 25 dL_law_33 y25 (by decide) rfl (by decide) ?_
          exact lc_rank hE hkn hX hi hC hM e next
        by_cases y26 : z = 26
        · skip
          refine r_tsIn 1049 hE 26 dL_law_33 y26 (by decide) rfl (by decide) ?_
          exact lc_select hE hkn hX hi hC hM e next
        by_cases y27 : z = 27
        · skip
          refine r_tsIn 1092 hE 27 dL_law_33 y27 (by decide) rfl (by decide) ?_
          exact lc_sorted hE hkn hX hi hC hM e next
        by_cases y28 : z = 28
        · skip
          refine r_tsIn 1115 hE 28 dL_law_33 y28 (by decide) rfl (by decide) ?_
          exact lc_would hE hkn hX hi hC hM e next
        refine r_tsOut 1168 hE dL_law_33 ⟨hz9, by omega⟩ (by decide) ?_
        exact next _ _ _ _ hC.up hM e
    · skip
      exact absurd trivial hbig
