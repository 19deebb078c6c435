set_option maxHeartbeats 4000000 in
set_option maxRecDepth 100000 in
theorem c_X7_howOften {g : Gm} {ru : Nat → Nat} {kd fi se sg le de nx he ro : Int → Int} {rc re rr : Int} {R : Int → Rl} {w : Nat → Nat} {sp nb mt pl op no : Int → Int} {od stm wc : Int} {t z : Int} (hT : RT kd fi se sg le de nx he rc R) (htt : 0 ≤ t ∧ t < rc) (hz : 0 ≤ z ∧ z < rc) : Ct g 2 0 0 yX7_howOften cX7_howOften 7 (some .int) [.ref (w 0), .int (iI t), .int (iI z)] [(wWalk g w (ru 0) sp nb mt pl op no od stm wc), (wRules g ru kd fi se sg le de nx he ro rc re rr)] (fun v_ w_ => ∃ op9 : Int → Int, ∃ no9 : Int → Int, ∃ od9 : Int, v_ = some (.int (iI (occ (R z) (R t)))) ∧ w_ = [(wWalk g w (ru 0) sp nb mt pl op9 no9 od9 stm wc), (wRules g ru kd fi se sg le de nx he ro rc re rr)]) := by
  refine Ct.of (by decide) (Nat.le_of_ble_eq_true rfl) (lv := [(0, .ref (w 0)), (1, .int (iI t)), (2, .int (iI z))]) rfl ?_
  intro E hE hR hnm
  have hcn := hT.1
  have hrt := hT.2.1 t htt.1 htt.2
  have hnt := nod_le hrt.2.2.2.2.1
  have hrl := hrt.2.2.2.2.2
  have cut16 : ∀ (N : Nat) (op9 : Int → Int) (no9 : Int → Int) (od9 : Int) (o : Int) (i : Int), (0 ≤ od9 ∧ od9 ≤ 1200) → (∀ j, 0 ≤ j → j < od9 → 0 ≤ op9 j ∧ op9 j < rc) → (o + occS (R z) (stk R op9 no9 od9) = occ (R z) (R t)) → (0 ≤ i ∧ i + nodS (stk R op9 no9 od9) ≤ 1199) → (1300 - i).toNat < N → G g E 7 0 0 [(wWalk g w (ru 0) sp nb mt pl op9 no9 od9 stm wc), (wRules g ru kd fi se sg le de nx he ro rc re rr)] 16 [(0, .ref (w 0)), (1, .int (iI t)), (2, .int (iI z)), (3, .int (iI o)), (4, .int (iI i))] [] := by
    intro N
    induction N with
    | zero => intro op9 no9 od9 o i _ _ _ _ hN; exact absurd hN (Nat.not_lt_zero _)
    | succ N ih16 =>
      intro op9 no9 od9 o i hod hen hoc hno hN
      have hnl := nodS_nn (stk R op9 no9 od9)
      rw [stk_len _ _ _ hod.1] at hnl
      have cut161 : ∀ (op8 : Int → Int) (no8 : Int → Int) (od8 : Int) (o8 : Int), (0 ≤ od8 ∧ od8 ≤ 1200) → (∀ j, 0 ≤ j → j < od8 → 0 ≤ op8 j ∧ op8 j < rc) → (o8 + occS (R z) (stk R op8 no8 od8) = occ (R z) (R t)) → (0 ≤ i + 1 ∧ i + 1 + nodS (stk R op8 no8 od8) ≤ 1199) → G g E 7 0 0 [(wWalk g w (ru 0) sp nb mt pl op8 no8 od8 stm wc), (wRules g ru kd fi se sg le de nx he ro rc re rr)] 161 [(0, .ref (w 0)), (1, .int (iI t)), (2, .int (iI z)), (3, .int (iI o8)), (4, .int (iI i))] [] := by
        intro op8 no8 od8 o8 hod8 hen2 hoc2 hno2
        have hnl8 := nodS_nn (stk R op8 no8 od8)
        rw [stk_len _ _ _ hod8.1] at hnl8
        refine r_iinc 164 hE 4 (i + 1) [(4, .int (iI (i + 1))), (0, .ref (w 0)), (1, .int (iI t)), (2, .int (iI z)), (3, .int (iI o8))] dX7_howOften_161 rfl rfl rfl (by decide) rfl ?_
        refine r_goto 16 hE dX7_howOften_164 (by decide) ?_
        refine G.to (fs' := [(wWalk g w (ru 0) sp nb mt pl op8 no8 od8 stm wc), (wRules g ru kd fi se sg le de nx he ro rc re rr)]) (lv' := [(0, .ref (w 0)), (1, .int (iI t)), (2, .int (iI z)), (3, .int (iI o8)), (4, .int (iI (i + 1)))]) [0, 1] [1, 2, 3, 4, 0] rfl rfl rfl ?_
        exact ih16 op8 no8 od8 o8 (i + 1) (by omega) (by first | exact hen2 | exact (fun j a b => by rw [show j = 0 by omega, up_same]; exact htt)) (by first | exact hoc2 | (rw [stk_push (by omega), stk_0 _ _ _ (by omega)]; show (0 : Int) + (1 * occ (R z) (R t) + 0) = _; omega)) (by first | exact hno2 | (rw [stk_push (by omega), stk_0 _ _ _ (by omega)]; show _ ∧ 0 + (nod (R t) + 0) ≤ 1199; omega)) (by omega)
      refine r_iload 18 hE 4 dX7_howOften_16 rfl rfl ?_
      refine r_sipush 21 hE dX7_howOften_18 rfl (by decide) ?_
      refine r_icmp_ge 24 167 hE dX7_howOften_21 rfl (by decide) (by omega) (fun c21 => ?_) (fun c21 => ?_)
      · skip
        omega
      · skip
        refine r_aload_n 25 hE 0 dX7_howOften_24 rfl rfl rfl ?_
        refine r_get 28 hE 0 0 ok7 7 dX7_howOften_25 rfl wd_260 rfl rfl (by decide) rfl ?_
        refine r_if_le 31 167 hE dX7_howOften_28 rfl (by decide) (by omega) (fun c28 => ?_) (fun c28 => ?_)
        · skip
          refine r_iload_n 168 hE 3 dX7_howOften_167 rfl rfl rfl ?_
          refine r_ireturn hE hR [(wWalk g w (ru 0) sp nb mt pl op9 no9 od9 stm wc), (wRules g ru kd fi se sg le de nx he ro rc re rr)] dX7_howOften_168 (Nat.le_of_ble_eq_true rfl) (Nat.le_of_ble_eq_true rfl) rfl ?_
          rw [stk_0 _ _ _ (by omega)] at hoc
          exact ⟨op9, no9, od9, retI (by have h9 : o + 0 = occ (R z) (R t) := hoc; omega), rfl⟩
        · skip
          have hpop := stk_pop (R := R) (op := op9) (no := no9) c28
          have hx := hen (od9 - 1) (by omega) (by omega)
          have hxr := hT.2.1 (op9 (od9 - 1)) hx.1 hx.2
          have hxg := hxr.rg (by omega)
          refine r_aload_n 32 hE 0 dX7_howOften_31 rfl rfl rfl ?_
          refine r_dup 33 hE dX7_howOften_32 rfl rfl ?_
          refine r_get 36 hE 0 0 ok7 7 dX7_howOften_33 rfl wd_260 rfl rfl (by decide) rfl ?_
          refine r_iconst 37 hE dX7_howOften_36 rfl ?_
          refine r_isub 38 hE (od9 - 1) dX7_howOften_37 rfl rfl ?_
          refine r_put 41 hE 0 0 ok7 7 (wWalk g w (ru 0) sp nb mt pl op9 no9 (od9 - 1) stm wc) [(wWalk g w (ru 0) sp nb mt pl op9 no9 (od9 - 1) stm wc), (wRules g ru kd fi se sg le de nx he ro rc re rr)] dX7_howOften_38 rfl wd_260 rfl rfl (by decide) rfl rfl rfl (Nat.le_of_ble_eq_true rfl) rfl rfl ?_
          refine r_aload_n 42 hE 0 dX7_howOften_41 rfl rfl rfl ?_
          refine r_get 45 hE 0 0 ok7 5 dX7_howOften_42 rfl wd_258 rfl rfl (by decide) rfl ?_
          refine r_aload_n 46 hE 0 dX7_howOften_45 rfl rfl rfl ?_
          refine r_get 49 hE 0 0 ok7 7 dX7_howOften_46 rfl wd_260 rfl rfl (by decide) rfl ?_
          refine r_iald 50 hE 0 5 dX7_howOften_49 rfl rfl rfl (by omega) ?_
          refine r_istore 52 hE [(5, .int (iI (op9 (od9 - 1)))), (0, .ref (w 0)), (1, .int (iI t)), (2, .int (iI z)), (3, .int (iI o)), (4, .int (iI i))] dX7_howOften_50 rfl (by decide) rfl ?_
          refine r_aload_n 53 hE 1 dX7_howOften_52 rfl rfl rfl ?_
          refine r_get 56 hE 0 0 ok7 6 dX7_howOften_53 rfl wd_259 rfl rfl (by decide) rfl ?_
          refine r_aload_n 57 hE 1 dX7_howOften_56 rfl rfl rfl ?_
          refine r_get 60 hE 0 0 ok7 7 dX7_howOften_57 rfl wd_260 rfl rfl (by decide) rfl ?_
          refine r_iald 61 hE 0 6 dX7_howOften_60 rfl rfl rfl (by omega) ?_
          refine r_istore 63 hE [(6, .int (iI (no9 (od9 - 1)))), (5, .int (iI (op9 (od9 - 1)))), (0, .ref (w 0)), (1, .int (iI t)), (2, .int (iI z)), (3, .int (iI o)), (4, .int (iI i))] dX7_howOften_61 rfl (by decide) rfl ?_
          refine r_iload 65 hE 1 dX7_howOften_63 rfl rfl ?_
          refine r_iload_n 66 hE 4 dX7_howOften_65 rfl rfl rfl ?_
          refine r_icmp_ne 69 77 hE dX7_howOften_66 rfl (by decide) (by omega) (fun c66 => ?_) (fun c66 => ?_)
          · skip
            have hne : R (op9 (od9 - 1)) ≠ R z := fun e => c66 (hT.2.2.1 _ _ hx.1 hx.2 hz.1 hz.2 e)
            refine r_aload_n 78 hE 2 dX7_howOften_77 rfl rfl rfl ?_
            refine r_get 81 hE 0 0 ok7 0 dX7_howOften_78 rfl wd_252 rfl rfl (by decide) rfl ?_
            refine r_iload 83 hE 1 dX7_howOften_81 rfl rfl ?_
            refine r_callV 86 hE [1] [0] [(wRules g ru kd fi se sg le de nx he ro rc re rr)] [(wWalk g w (ru 0) sp nb mt pl op9 no9 (od9 - 1) stm wc)] 0 3 ok3 [] (c_X3_kindOf (by omega) (by omega)) dX7_howOften_83 rfl rfl wd_701 wd_702 wd_703 wd_9 wd_704 ne_X3 np_X3_kindOf (Nat.le_of_ble_eq_true rfl)  (by decide) (by decide) rfl (Nat.le_of_ble_eq_true rfl) rfl rfl rfl rfl (by decide) rfl (fun v1 f1 hp => ?_)
            obtain ⟨rfl, rfl⟩ := hp
            show G g E _ _ _ [(wRules g ru kd fi se sg le de nx he ro rc re rr), (wWalk g w (ru 0) sp nb mt pl op9 no9 (od9 - 1) stm wc)] 86 [(6, .int (iI (no9 (od9 - 1)))), (5, .int (iI (op9 (od9 - 1)))), (0, .ref (w 0)), (1, .int (iI t)), (2, .int (iI z)), (3, .int (iI o)), (4, .int (iI i))] [.int (iI (kd (op9 (od9 - 1))))]
            refine r_iconst 87 hE dX7_howOften_86 rfl ?_
            refine r_icmp_ne 90 118 hE dX7_howOften_87 rfl (by decide) (by omega) (fun c87 => ?_) (fun c87 => ?_)
            · skip
              refine r_aload_n 119 hE 2 dX7_howOften_118 rfl rfl rfl ?_
              refine r_get 122 hE 1 0 ok7 0 dX7_howOften_119 rfl wd_252 rfl rfl (by decide) rfl ?_
              refine r_iload 124 hE 1 dX7_howOften_122 rfl rfl ?_
              refine r_callV 127 hE [0] [1] [(wRules g ru kd fi se sg le de nx he ro rc re rr)] [(wWalk g w (ru 0) sp nb mt pl op9 no9 (od9 - 1) stm wc)] 0 3 ok3 [] (c_X3_kindOf (by omega) (by omega)) dX7_howOften_124 rfl rfl wd_701 wd_702 wd_703 wd_9 wd_704 ne_X3 np_X3_kindOf (Nat.le_of_ble_eq_true rfl)  (by decide) (by decide) rfl (Nat.le_of_ble_eq_true rfl) rfl rfl rfl rfl (by decide) rfl (fun v1 f1 hp => ?_)
              obtain ⟨rfl, rfl⟩ := hp
              show G g E _ _ _ [(wRules g ru kd fi se sg le de nx he ro rc re rr), (wWalk g w (ru 0) sp nb mt pl op9 no9 (od9 - 1) stm wc)] 127 [(6, .int (iI (no9 (od9 - 1)))), (5, .int (iI (op9 (od9 - 1)))), (0, .ref (w 0)), (1, .int (iI t)), (2, .int (iI z)), (3, .int (iI o)), (4, .int (iI i))] [.int (iI (kd (op9 (od9 - 1))))]
              refine r_iconst 128 hE dX7_howOften_127 rfl ?_
              refine r_icmp_ne 131 161 hE dX7_howOften_128 rfl (by decide) (by omega) (fun c128 => ?_) (fun c128 => ?_)
              · skip
                have hLet := hxr.let (by omega)
                refine G.to (fs' := [(wWalk g w (ru 0) sp nb mt pl op9 no9 (od9 - 1) stm wc), (wRules g ru kd fi se sg le de nx he ro rc re rr)]) (lv' := [(0, .ref (w 0)), (1, .int (iI t)), (2, .int (iI z)), (3, .int (iI o)), (4, .int (iI i))]) [1, 0] [2, 3, 4, 5, 6] rfl rfl rfl ?_
                exact cut161 op9 no9 (od9 - 1) o (by omega) (by first | exact (fun j a b => hen j a (by omega)) | exact en_push (fun j a b => hen j a (by omega)) (by omega) | (have h9 := en_push (en_push (f := op9) (n := od9 - 1) (c := rc) (fun j a b => hen j a (by omega)) hfiR) hseR; exact fun j a b => h9 j a (by omega))) (by first | exact oc_self hpop hoc (by rw [c66]) | exact oc_let hpop hoc hLet.1 hne | exact oc_run hpop hoc hRun.1 hne (by omega) (by omega) | exact oc_pair hpop hoc hPair.1 hne (by omega)) (by refine ⟨by omega, ?_⟩; first | exact nn_run hpop hno.2 hRun.1 (by omega) | exact nn_pair2 hpop hno.2 hPair.1 (by omega) | exact nn_old hpop hno.2)
              · skip
                have hPair := hxr.pair c128
                have hfiR : 0 ≤ fi (op9 (od9 - 1)) ∧ fi (op9 (od9 - 1)) < rc := by omega
                have hseR : 0 ≤ se (op9 (od9 - 1)) ∧ se (op9 (od9 - 1)) < rc := by omega
                refine r_aload_n 132 hE 2 dX7_howOften_131 rfl rfl rfl ?_
                refine r_aload_n 133 hE 2 dX7_howOften_132 rfl rfl rfl ?_
                refine r_get 136 hE 1 0 ok7 0 dX7_howOften_133 rfl wd_252 rfl rfl (by decide) rfl ?_
                refine r_iload 138 hE 1 dX7_howOften_136 rfl rfl ?_
                refine r_callV 141 hE [0] [1] [(wRules g ru kd fi se sg le de nx he ro rc re rr)] [(wWalk g w (ru 0) sp nb mt pl op9 no9 (od9 - 1) stm wc)] 0 3 ok3 [.ref (w 0)] (c_X3_firstOf (by omega) (by omega)) dX7_howOften_138 rfl rfl wd_697 wd_698 wd_699 wd_9 wd_700 ne_X3 np_X3_firstOf (Nat.le_of_ble_eq_true rfl)  (by decide) (by decide) rfl (Nat.le_of_ble_eq_true rfl) rfl rfl rfl rfl (by decide) rfl (fun v1 f1 hp => ?_)
                obtain ⟨rfl, rfl⟩ := hp
                show G g E _ _ _ [(wRules g ru kd fi se sg le de nx he ro rc re rr), (wWalk g w (ru 0) sp nb mt pl op9 no9 (od9 - 1) stm wc)] 141 [(6, .int (iI (no9 (od9 - 1)))), (5, .int (iI (op9 (od9 - 1)))), (0, .ref (w 0)), (1, .int (iI t)), (2, .int (iI z)), (3, .int (iI o)), (4, .int (iI i))] [.int (iI (fi (op9 (od9 - 1)))), .ref (w 0)]
                refine r_iload 143 hE 0 dX7_howOften_141 rfl rfl ?_
                refine r_callV 146 hE [1] [0] [(wWalk g w (ru 0) sp nb mt pl op9 no9 (od9 - 1) stm wc)] [(wRules g ru kd fi se sg le de nx he ro rc re rr)] 0 7 ok7 [] (c_X7_push (by omega)) dX7_howOften_143 rfl rfl wd_688 wd_690 ws_30 wd_8 wd_691 ne_X7 np_X7_push (Nat.le_of_ble_eq_true rfl)  (by decide) (by decide) rfl (Nat.le_of_ble_eq_true rfl) rfl rfl rfl rfl (by decide) rfl (fun v1 f1 hp => ?_)
                obtain ⟨rfl, rfl⟩ := hp
                show G g E _ _ _ [(wWalk g w (ru 0) sp nb mt pl (up op9 (od9 - 1) (fi (op9 (od9 - 1)))) (up no9 (od9 - 1) (no9 (od9 - 1))) ((od9 - 1) + 1) stm wc), (wRules g ru kd fi se sg le de nx he ro rc re rr)] 146 [(6, .int (iI (no9 (od9 - 1)))), (5, .int (iI (op9 (od9 - 1)))), (0, .ref (w 0)), (1, .int (iI t)), (2, .int (iI z)), (3, .int (iI o)), (4, .int (iI i))] []
                refine r_aload_n 147 hE 2 dX7_howOften_146 rfl rfl rfl ?_
                refine r_aload_n 148 hE 2 dX7_howOften_147 rfl rfl rfl ?_
                refine r_get 151 hE 0 0 ok7 0 dX7_howOften_148 rfl wd_252 rfl rfl (by decide) rfl ?_
                refine r_iload 153 hE 1 dX7_howOften_151 rfl rfl ?_
                refine r_callV 156 hE [1] [0] [(wRules g ru kd fi se sg le de nx he ro rc re rr)] [(wWalk g w (ru 0) sp nb mt pl (up op9 (od9 - 1) (fi (op9 (od9 - 1)))) (up no9 (od9 - 1) (no9 (od9 - 1))) ((od9 - 1) + 1) stm wc)] 0 3 ok3 [.ref (w 0)] (c_X3_secondOf (by omega) (by omega)) dX7_howOften_153 rfl rfl wd_705 wd_706 wd_707 wd_9 wd_708 ne_X3 np_X3_secondOf (Nat.le_of_ble_eq_true rfl)  (by decide) (by decide) rfl (Nat.le_of_ble_eq_true rfl) rfl rfl rfl rfl (by decide) rfl (fun v1 f1 hp => ?_)
                obtain ⟨rfl, rfl⟩ := hp
                show G g E _ _ _ [(wRules g ru kd fi se sg le de nx he ro rc re rr), (wWalk g w (ru 0) sp nb mt pl (up op9 (od9 - 1) (fi (op9 (od9 - 1)))) (up no9 (od9 - 1) (no9 (od9 - 1))) ((od9 - 1) + 1) stm wc)] 156 [(6, .int (iI (no9 (od9 - 1)))), (5, .int (iI (op9 (od9 - 1)))), (0, .ref (w 0)), (1, .int (iI t)), (2, .int (iI z)), (3, .int (iI o)), (4, .int (iI i))] [.int (iI (se (op9 (od9 - 1)))), .ref (w 0)]
                refine r_iload 158 hE 0 dX7_howOften_156 rfl rfl ?_
                refine r_callV 161 hE [1] [0] [(wWalk g w (ru 0) sp nb mt pl (up op9 (od9 - 1) (fi (op9 (od9 - 1)))) (up no9 (od9 - 1) (no9 (od9 - 1))) ((od9 - 1) + 1) stm wc)] [(wRules g ru kd fi se sg le de nx he ro rc re rr)] 0 7 ok7 [] (c_X7_push (by omega)) dX7_howOften_158 rfl rfl wd_688 wd_690 ws_30 wd_8 wd_691 ne_X7 np_X7_push (Nat.le_of_ble_eq_true rfl)  (by decide) (by decide) rfl (Nat.le_of_ble_eq_true rfl) rfl rfl rfl rfl (by decide) rfl (fun v1 f1 hp => ?_)
                obtain ⟨rfl, rfl⟩ := hp
                show G g E _ _ _ [(wWalk g w (ru 0) sp nb mt pl (up (up op9 (od9 - 1) (fi (op9 (od9 - 1)))) ((od9 - 1) + 1) (se (op9 (od9 - 1)))) (up (up no9 (od9 - 1) (no9 (od9 - 1))) ((od9 - 1) + 1) (no9 (od9 - 1))) (((od9 - 1) + 1) + 1) stm wc), (wRules g ru kd fi se sg le de nx he ro rc re rr)] 161 [(6, .int (iI (no9 (od9 - 1)))), (5, .int (iI (op9 (od9 - 1)))), (0, .ref (w 0)), (1, .int (iI t)), (2, .int (iI z)), (3, .int (iI o)), (4, .int (iI i))] []
                refine G.to (fs' := [(wWalk g w (ru 0) sp nb mt pl (up (up op9 (od9 - 1) (fi (op9 (od9 - 1)))) ((od9 - 1) + 1) (se (op9 (od9 - 1)))) (up (up no9 (od9 - 1) (no9 (od9 - 1))) ((od9 - 1) + 1) (no9 (od9 - 1))) (((od9 - 1) + 1) + 1) stm wc), (wRules g ru kd fi se sg le de nx he ro rc re rr)]) (lv' := [(0, .ref (w 0)), (1, .int (iI t)), (2, .int (iI z)), (3, .int (iI o)), (4, .int (iI i))]) [0, 1] [2, 3, 4, 5, 6] rfl rfl rfl ?_
                exact cut161 (up (up op9 (od9 - 1) (fi (op9 (od9 - 1)))) ((od9 - 1) + 1) (se (op9 (od9 - 1)))) (up (up no9 (od9 - 1) (no9 (od9 - 1))) ((od9 - 1) + 1) (no9 (od9 - 1))) (((od9 - 1) + 1) + 1) o (by omega) (by first | exact (fun j a b => hen j a (by omega)) | exact en_push (fun j a b => hen j a (by omega)) (by omega) | (have h9 := en_push (en_push (f := op9) (n := od9 - 1) (c := rc) (fun j a b => hen j a (by omega)) hfiR) hseR; exact fun j a b => h9 j a (by omega))) (by first | exact oc_self hpop hoc (by rw [c66]) | exact oc_let hpop hoc hLet.1 hne | exact oc_run hpop hoc hRun.1 hne (by omega) (by omega) | exact oc_pair hpop hoc hPair.1 hne (by omega)) (by refine ⟨by omega, ?_⟩; first | exact nn_run hpop hno.2 hRun.1 (by omega) | exact nn_pair2 hpop hno.2 hPair.1 (by omega) | exact nn_old hpop hno.2)
            · skip
              have hRun := hxr.run (by omega) (by omega)
              refine r_aload_n 91 hE 2 dX7_howOften_90 rfl rfl rfl ?_
              refine r_aload_n 92 hE 2 dX7_howOften_91 rfl rfl rfl ?_
              refine r_get 95 hE 1 0 ok7 0 dX7_howOften_92 rfl wd_252 rfl rfl (by decide) rfl ?_
              refine r_iload 97 hE 1 dX7_howOften_95 rfl rfl ?_
              refine r_callV 100 hE [0] [1] [(wRules g ru kd fi se sg le de nx he ro rc re rr)] [(wWalk g w (ru 0) sp nb mt pl op9 no9 (od9 - 1) stm wc)] 0 3 ok3 [.ref (w 0)] (c_X3_firstOf (by omega) (by omega)) dX7_howOften_97 rfl rfl wd_697 wd_698 wd_699 wd_9 wd_700 ne_X3 np_X3_firstOf (Nat.le_of_ble_eq_true rfl)  (by decide) (by decide) rfl (Nat.le_of_ble_eq_true rfl) rfl rfl rfl rfl (by decide) rfl (fun v1 f1 hp => ?_)
              obtain ⟨rfl, rfl⟩ := hp
              show G g E _ _ _ [(wRules g ru kd fi se sg le de nx he ro rc re rr), (wWalk g w (ru 0) sp nb mt pl op9 no9 (od9 - 1) stm wc)] 100 [(6, .int (iI (no9 (od9 - 1)))), (5, .int (iI (op9 (od9 - 1)))), (0, .ref (w 0)), (1, .int (iI t)), (2, .int (iI z)), (3, .int (iI o)), (4, .int (iI i))] [.int (iI (fi (op9 (od9 - 1)))), .ref (w 0)]
              refine r_iload 102 hE 0 dX7_howOften_100 rfl rfl ?_
              refine r_aload_n 103 hE 2 dX7_howOften_102 rfl rfl rfl ?_
              refine r_get 106 hE 1 0 ok7 0 dX7_howOften_103 rfl wd_252 rfl rfl (by decide) rfl ?_
              refine r_iload 108 hE 1 dX7_howOften_106 rfl rfl ?_
              refine r_callV 111 hE [0] [1] [(wRules g ru kd fi se sg le de nx he ro rc re rr)] [(wWalk g w (ru 0) sp nb mt pl op9 no9 (od9 - 1) stm wc)] 0 3 ok3 [.int (iI (no9 (od9 - 1))), .int (iI (fi (op9 (od9 - 1)))), .ref (w 0)] (c_X3_secondOf (by omega) (by omega)) dX7_howOften_108 rfl rfl wd_705 wd_706 wd_707 wd_9 wd_708 ne_X3 np_X3_secondOf (Nat.le_of_ble_eq_true rfl)  (by decide) (by decide) rfl (Nat.le_of_ble_eq_true rfl) rfl rfl rfl rfl (by decide) rfl (fun v1 f1 hp => ?_)
              obtain ⟨rfl, rfl⟩ := hp
              show G g E _ _ _ [(wRules g ru kd fi se sg le de nx he ro rc re rr), (wWalk g w (ru 0) sp nb mt pl op9 no9 (od9 - 1) stm wc)] 111 [(6, .int (iI (no9 (od9 - 1)))), (5, .int (iI (op9 (od9 - 1)))), (0, .ref (w 0)), (1, .int (iI t)), (2, .int (iI z)), (3, .int (iI o)), (4, .int (iI i))] [.int (iI (se (op9 (od9 - 1)))), .int (iI (no9 (od9 - 1))), .int (iI (fi (op9 (od9 - 1)))), .ref (w 0)]
              refine r_imul 112 hE ((no9 (od9 - 1)) * (se (op9 (od9 - 1)))) dX7_howOften_111 rfl rfl ?_
              refine r_callV 115 hE [1] [0] [(wWalk g w (ru 0) sp nb mt pl op9 no9 (od9 - 1) stm wc)] [(wRules g ru kd fi se sg le de nx he ro rc re rr)] 0 7 ok7 [] (c_X7_push (by omega)) dX7_howOften_112 rfl rfl wd_688 wd_690 ws_30 wd_8 wd_691 ne_X7 np_X7_push (Nat.le_of_ble_eq_true rfl)  (by decide) (by decide) rfl (Nat.le_of_ble_eq_true rfl) rfl rfl rfl rfl (by decide) rfl (fun v1 f1 hp => ?_)
              obtain ⟨rfl, rfl⟩ := hp
              show G g E _ _ _ [(wWalk g w (ru 0) sp nb mt pl (up op9 (od9 - 1) (fi (op9 (od9 - 1)))) (up no9 (od9 - 1) ((no9 (od9 - 1)) * (se (op9 (od9 - 1))))) ((od9 - 1) + 1) stm wc), (wRules g ru kd fi se sg le de nx he ro rc re rr)] 115 [(6, .int (iI (no9 (od9 - 1)))), (5, .int (iI (op9 (od9 - 1)))), (0, .ref (w 0)), (1, .int (iI t)), (2, .int (iI z)), (3, .int (iI o)), (4, .int (iI i))] []
              refine r_goto 161 hE dX7_howOften_115 (by decide) ?_
              refine G.to (fs' := [(wWalk g w (ru 0) sp nb mt pl (up op9 (od9 - 1) (fi (op9 (od9 - 1)))) (up no9 (od9 - 1) ((no9 (od9 - 1)) * (se (op9 (od9 - 1))))) ((od9 - 1) + 1) stm wc), (wRules g ru kd fi se sg le de nx he ro rc re rr)]) (lv' := [(0, .ref (w 0)), (1, .int (iI t)), (2, .int (iI z)), (3, .int (iI o)), (4, .int (iI i))]) [0, 1] [2, 3, 4, 5, 6] rfl rfl rfl ?_
              exact cut161 (up op9 (od9 - 1) (fi (op9 (od9 - 1)))) (up no9 (od9 - 1) ((no9 (od9 - 1)) * (se (op9 (od9 - 1))))) ((od9 - 1) + 1) o (by omega) (by first | exact (fun j a b => hen j a (by omega)) | exact en_push (fun j a b => hen j a (by omega)) (by omega) | (have h9 := en_push (en_push (f := op9) (n := od9 - 1) (c := rc) (fun j a b => hen j a (by omega)) hfiR) hseR; exact fun j a b => h9 j a (by omega))) (by first | exact oc_self hpop hoc (by rw [c66]) | exact oc_let hpop hoc hLet.1 hne | exact oc_run hpop hoc hRun.1 hne (by omega) (by omega) | exact oc_pair hpop hoc hPair.1 hne (by omega)) (by refine ⟨by omega, ?_⟩; first | exact nn_run hpop hno.2 hRun.1 (by omega) | exact nn_pair2 hpop hno.2 hPair.1 (by omega) | exact nn_old hpop hno.2)
          · skip
            refine r_iload_n 70 hE 5 dX7_howOften_69 rfl rfl rfl ?_
            refine r_iload 72 hE 0 dX7_howOften_70 rfl rfl ?_
            refine r_iadd 73 hE (o + (no9 (od9 - 1))) dX7_howOften_72 rfl rfl ?_
            refine r_istore_n 74 hE [(3, .int (iI (o + (no9 (od9 - 1))))), (6, .int (iI (no9 (od9 - 1)))), (5, .int (iI (op9 (od9 - 1)))), (0, .ref (w 0)), (1, .int (iI t)), (2, .int (iI z)), (4, .int (iI i))] dX7_howOften_73 rfl rfl (by decide) rfl ?_
            refine r_goto 161 hE dX7_howOften_74 (by decide) ?_
            refine G.to (fs' := [(wWalk g w (ru 0) sp nb mt pl op9 no9 (od9 - 1) stm wc), (wRules g ru kd fi se sg le de nx he ro rc re rr)]) (lv' := [(0, .ref (w 0)), (1, .int (iI t)), (2, .int (iI z)), (3, .int (iI (o + (no9 (od9 - 1))))), (4, .int (iI i))]) [0, 1] [3, 4, 5, 0, 6] rfl rfl rfl ?_
            exact cut161 op9 no9 (od9 - 1) (o + (no9 (od9 - 1))) (by omega) (by first | exact (fun j a b => hen j a (by omega)) | exact en_push (fun j a b => hen j a (by omega)) (by omega) | (have h9 := en_push (en_push (f := op9) (n := od9 - 1) (c := rc) (fun j a b => hen j a (by omega)) hfiR) hseR; exact fun j a b => h9 j a (by omega))) (by first | exact oc_self hpop hoc (by rw [c66]) | exact oc_let hpop hoc hLet.1 hne | exact oc_run hpop hoc hRun.1 hne (by omega) (by omega) | exact oc_pair hpop hoc hPair.1 hne (by omega)) (by refine ⟨by omega, ?_⟩; first | exact nn_run hpop hno.2 hRun.1 (by omega) | exact nn_pair2 hpop hno.2 hPair.1 (by omega) | exact nn_old hpop hno.2)
  refine r_iconst 1 hE dX7_howOften_0 rfl ?_
  refine r_istore_n 2 hE [(3, .int (iI 0)), (0, .ref (w 0)), (1, .int (iI t)), (2, .int (iI z))] dX7_howOften_1 rfl rfl (by decide) rfl ?_
  refine r_aload_n 3 hE 1 dX7_howOften_2 rfl rfl rfl ?_
  refine r_iconst 4 hE dX7_howOften_3 rfl ?_
  refine r_put 7 hE 0 0 ok7 7 (wWalk g w (ru 0) sp nb mt pl op no 0 stm wc) [(wWalk g w (ru 0) sp nb mt pl op no 0 stm wc), (wRules g ru kd fi se sg le de nx he ro rc re rr)] dX7_howOften_4 rfl wd_260 rfl rfl (by decide) rfl rfl rfl (Nat.le_of_ble_eq_true rfl) rfl rfl ?_
  refine r_aload_n 8 hE 1 dX7_howOften_7 rfl rfl rfl ?_
  refine r_iload_n 9 hE 2 dX7_howOften_8 rfl rfl rfl ?_
  refine r_iconst 10 hE dX7_howOften_9 rfl ?_
  refine r_callV 13 hE [0] [1] [(wWalk g w (ru 0) sp nb mt pl op no 0 stm wc)] [(wRules g ru kd fi se sg le de nx he ro rc re rr)] 0 7 ok7 [] (c_X7_push (by omega)) dX7_howOften_10 rfl rfl wd_688 wd_690 ws_30 wd_8 wd_691 ne_X7 np_X7_push (Nat.le_of_ble_eq_true rfl)  (by decide) (by decide) rfl (Nat.le_of_ble_eq_true rfl) rfl rfl rfl rfl (by decide) rfl (fun v1 f1 hp => ?_)
  obtain ⟨rfl, rfl⟩ := hp
  show G g E _ _ _ [(wWalk g w (ru 0) sp nb mt pl (up op 0 t) (up no 0 1) (0 + 1) stm wc), (wRules g ru kd fi se sg le de nx he ro rc re rr)] 13 [(3, .int (iI 0)), (0, .ref (w 0)), (1, .int (iI t)), (2, .int (iI z))] []
  refine r_iconst 14 hE dX7_howOften_13 rfl ?_
  refine r_istore 16 hE [(4, .int (iI 0)), (3, .int (iI 0)), (0, .ref (w 0)), (1, .int (iI t)), (2, .int (iI z))] dX7_howOften_14 rfl (by decide) rfl ?_
  refine G.to (fs' := [(wWalk g w (ru 0) sp nb mt pl (up op 0 t) (up no 0 1) (0 + 1) stm wc), (wRules g ru kd fi se sg le de nx he ro rc re rr)]) (lv' := [(0, .ref (w 0)), (1, .int (iI t)), (2, .int (iI z)), (3, .int (iI 0)), (4, .int (iI 0))]) [0, 1] [2, 3, 4, 1, 0] rfl rfl rfl ?_
  exact cut16 _ (up op 0 t) (up no 0 1) (0 + 1) 0 0 (by omega) (by first | exact hen2 | exact (fun j a b => by rw [show j = 0 by omega, up_same]; exact htt)) (by first | exact hoc2 | (rw [stk_push (by omega), stk_0 _ _ _ (by omega)]; show (0 : Int) + (1 * occ (R z) (R t) + 0) = _; omega)) (by first | exact hno2 | (rw [stk_push (by omega), stk_0 _ _ _ (by omega)]; show _ ∧ 0 + (nod (R t) + 0) ≤ 1199; omega)) (Nat.lt_succ_self _)
