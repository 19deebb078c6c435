set_option maxHeartbeats 4000000 in
set_option maxRecDepth 100000 in
theorem c_X3_pairByBit {g : Gm} {ru : Nat → Nat} {kd fi se sg le de nx he ro : Int → Int} {rc re rr : Int} {R : Int → Rl} {sz b : Int} (hT : RT kd fi se sg le de nx he rc R) (hin : ∀ k, 0 ≤ k → k < sz → 0 ≤ ro k ∧ ro k < rc) (hsz : 1 ≤ sz ∧ sz ≤ 600) (hsum : sumLen (seg (rw_ R ro) 0 sz) ≤ 600) (hroom : rc + sz ≤ 10240) (hb : 0 ≤ b ∧ b ≤ 31) : Ct g 2 0 0 yX3_pairByBit cX3_pairByBit 6 (some .int) [.ref (ru 0), .int (iI sz), .int (iI b)] [(wRules g ru kd fi se sg le de nx he ro rc re rr)] (fun v w => ∃ kd9 : Int → Int, ∃ fi9 : Int → Int, ∃ se9 : Int → Int, ∃ sg9 : Int → Int, ∃ le9 : Int → Int, ∃ de9 : Int → Int, ∃ nx9 : Int → Int, ∃ he9 : Int → Int, ∃ rc9 : Int, ∃ R9 : Int → Rl, ∃ ro9 : Int → Int, ∃ n9 : Int, v = some (.int (iI n9)) ∧ w = [(wRules g ru kd9 fi9 se9 sg9 le9 de9 nx9 he9 ro9 rc9 re rr)] ∧ (RT kd9 fi9 se9 sg9 le9 de9 nx9 he9 rc9 R9) ∧ (rc ≤ rc9 ∧ rc9 + n9 ≤ rc + sz) ∧ (∀ i, 0 ≤ i → i < rc → R9 i = R i) ∧ (1 ≤ n9 ∧ n9 ≤ sz) ∧ (∀ k, 0 ≤ k → k < n9 → 0 ≤ ro9 k ∧ ro9 k < rc9) ∧ (seg (rw_ R9 ro9) 0 n9 = pairB b (seg (rw_ R ro) 0 sz)) ∧ (sumLen (seg (rw_ R9 ro9) 0 n9) = sumLen (seg (rw_ R ro) 0 sz))) := by
  refine Ct.of (by decide) (Nat.le_of_ble_eq_true rfl) (lv := [(0, .ref (ru 0)), (1, .int (iI sz)), (2, .int (iI b))]) rfl ?_
  intro E hE hR hnm
  have hcn := hT.1
  have hT92 := hT
  have hv2 : OpInv (pairB b) R ro rc sz 0 0 R ro rc := OpInv.start (by omega)
  have cut5 : ∀ (N : Nat) (kd9 : Int → Int) (fi9 : Int → Int) (se9 : Int → Int) (sg9 : Int → Int) (le9 : Int → Int) (de9 : Int → Int) (nx9 : Int → Int) (he9 : Int → Int) (rc9 : Int) (R9 : Int → Rl) (ro9 : Int → Int) (k : Int) (s : Int), (OpInv (pairB b) R ro rc sz k s R9 ro9 rc9) → (RT kd9 fi9 se9 sg9 le9 de9 nx9 he9 rc9 R9) → (sz - s).toNat < N → G g E 6 0 0 [(wRules g ru kd9 fi9 se9 sg9 le9 de9 nx9 he9 ro9 rc9 re rr)] 5 [(0, .ref (ru 0)), (1, .int (iI sz)), (2, .int (iI b)), (3, .int (iI k)), (4, .int (iI s))] [] := by
    intro N
    induction N with
    | zero => intro kd9 fi9 se9 sg9 le9 de9 nx9 he9 rc9 R9 ro9 k s _ _ hN; exact absurd hN (Nat.not_lt_zero _)
    | succ N ih5 =>
      intro kd9 fi9 se9 sg9 le9 de9 nx9 he9 rc9 R9 ro9 k s hv hT9 hN
      obtain ⟨v1, v2, v3, v4, v5, -⟩ := id hv
      have hcn9 := hT9.1
      have cut57 : ∀ (pd : Int), (s < sz) → ((pd = 1 ∧ s + 1 < sz ∧ bt b (rw_ R ro s) = 0 ∧ bt b (rw_ R ro (s + 1)) = 1) ∨ (pd = 0 ∧ ¬ (s + 1 < sz ∧ bt b (rw_ R ro s) = 0 ∧ bt b (rw_ R ro (s + 1)) = 1))) → G g E 6 0 0 [(wRules g ru kd9 fi9 se9 sg9 le9 de9 nx9 he9 ro9 rc9 re rr)] 57 [(0, .ref (ru 0)), (1, .int (iI sz)), (2, .int (iI b)), (3, .int (iI k)), (4, .int (iI s))] [.int (iI pd)] := by
        intro pd hlt hp
        have hs0 := hin s (by omega) (by omega)
        have hrs := v4 s (by omega) (by omega)
        have hRs : R9 (ro9 s) = rw_ R ro s := by rw [hrs]; exact v3 _ hs0.1 hs0.2
        have hrest := hv.rest hT9 hsum
        have cut100 : ∀ (kd8 : Int → Int) (fi8 : Int → Int) (se8 : Int → Int) (sg8 : Int → Int) (le8 : Int → Int) (de8 : Int → Int) (nx8 : Int → Int) (he8 : Int → Int) (rc8 : Int) (R8 : Int → Rl) (x : Int), (OpInv (pairB b) R ro rc sz (k + 1) (s + (1 + pd)) R8 (up ro9 k x) rc8) → (RT kd8 fi8 se8 sg8 le8 de8 nx8 he8 rc8 R8) → G g E 6 0 0 [(wRules g ru kd8 fi8 se8 sg8 le8 de8 nx8 he8 ro9 rc8 re rr)] 100 [(0, .ref (ru 0)), (1, .int (iI sz)), (2, .int (iI b)), (3, .int (iI k)), (4, .int (iI s)), (5, .int (iI pd))] [.int (iI x), .int (iI k), .ref (ru 9)] := by
          intro kd8 fi8 se8 sg8 le8 de8 nx8 he8 rc8 R8 x hv2 hT8
          have hT92 := hT8
          have cut116 : G g E 6 0 0 [(wRules g ru kd8 fi8 se8 sg8 le8 de8 nx8 he8 (up ro9 k x) rc8 re rr)] 116 [(0, .ref (ru 0)), (1, .int (iI sz)), (2, .int (iI b)), (3, .int (iI (k + 1))), (4, .int (iI s)), (5, .int (iI pd))] [.int (iI (1 + pd)), .int (iI s)] := by
            refine r_iadd 117 hE (s + (1 + pd)) dX3_pairByBit_116 rfl rfl ?_
            refine r_istore 119 hE [(4, .int (iI (s + (1 + pd)))), (0, .ref (ru 0)), (1, .int (iI sz)), (2, .int (iI b)), (3, .int (iI (k + 1))), (5, .int (iI pd))] dX3_pairByBit_117 rfl (by decide) rfl ?_
            refine r_goto 5 hE dX3_pairByBit_119 (by decide) ?_
            refine G.to (fs' := [(wRules g ru kd8 fi8 se8 sg8 le8 de8 nx8 he8 (up ro9 k x) rc8 re rr)]) (lv' := [(0, .ref (ru 0)), (1, .int (iI sz)), (2, .int (iI b)), (3, .int (iI (k + 1))), (4, .int (iI (s + (1 + pd))))]) [0] [1, 2, 3, 4, 0] rfl rfl rfl ?_
            exact ih5 kd8 fi8 se8 sg8 le8 de8 nx8 he8 rc8 _ (up ro9 k x) (k + 1) (s + (1 + pd)) (hv2) (hT92) (by omega)
          refine r_iast 101 hE 0 9 (wRules g ru kd8 fi8 se8 sg8 le8 de8 nx8 he8 (up ro9 k x) rc8 re rr) [(wRules g ru kd8 fi8 se8 sg8 le8 de8 nx8 he8 (up ro9 k x) rc8 re rr)] dX3_pairByBit_100 rfl rfl rfl (by omega) rfl rfl ?_
          refine r_iinc 104 hE 3 (k + 1) [(3, .int (iI (k + 1))), (0, .ref (ru 0)), (1, .int (iI sz)), (2, .int (iI b)), (4, .int (iI s)), (5, .int (iI pd))] dX3_pairByBit_101 rfl rfl rfl (by decide) rfl ?_
          refine r_iload 106 hE 4 dX3_pairByBit_104 rfl rfl ?_
          refine r_iload 108 hE 5 dX3_pairByBit_106 rfl rfl ?_
          refine r_if_eq 111 115 hE dX3_pairByBit_108 rfl (by decide) (by omega) (fun c108 => ?_) (fun c108 => ?_)
          · skip
            refine r_iconst 116 hE dX3_pairByBit_115 rfl ?_
            refine G.to (fs' := [(wRules g ru kd8 fi8 se8 sg8 le8 de8 nx8 he8 (up ro9 k x) rc8 re rr)]) (lv' := [(0, .ref (ru 0)), (1, .int (iI sz)), (2, .int (iI b)), (3, .int (iI (k + 1))), (4, .int (iI s)), (5, .int (iI pd))]) [0] [1, 2, 3, 0, 4, 5] rfl rfl rfl ?_
            refine G.stc (st' := [.int (iI (1 + pd)), .int (iI s)]) (congrArg (fun z9 : Int => ([.int (iI z9), .int (iI s)] : List Value)) (show (1 : Int) = 1 + pd from by omega)) ?_
            exact cut116  
          · skip
            refine r_iconst 112 hE dX3_pairByBit_111 rfl ?_
            refine r_goto 116 hE dX3_pairByBit_112 (by decide) ?_
            refine G.to (fs' := [(wRules g ru kd8 fi8 se8 sg8 le8 de8 nx8 he8 (up ro9 k x) rc8 re rr)]) (lv' := [(0, .ref (ru 0)), (1, .int (iI sz)), (2, .int (iI b)), (3, .int (iI (k + 1))), (4, .int (iI s)), (5, .int (iI pd))]) [0] [1, 2, 3, 0, 4, 5] rfl rfl rfl ?_
            refine G.stc (st' := [.int (iI (1 + pd)), .int (iI s)]) (congrArg (fun z9 : Int => ([.int (iI z9), .int (iI s)] : List Value)) (show (2 : Int) = 1 + pd from by omega)) ?_
            exact cut116  
        refine r_istore 59 hE [(5, .int (iI pd)), (0, .ref (ru 0)), (1, .int (iI sz)), (2, .int (iI b)), (3, .int (iI k)), (4, .int (iI s))] dX3_pairByBit_57 rfl (by decide) rfl ?_
        refine r_aload_n 60 hE 1 dX3_pairByBit_59 rfl rfl rfl ?_
        refine r_get 63 hE 0 0 ok3 8 dX3_pairByBit_60 rfl wd_221 rfl rfl (by decide) rfl ?_
        refine r_iload_n 64 hE 4 dX3_pairByBit_63 rfl rfl rfl ?_
        refine r_iload 66 hE 0 dX3_pairByBit_64 rfl rfl ?_
        refine r_if_eq 69 93 hE dX3_pairByBit_66 rfl (by decide) (by omega) (fun c66 => ?_) (fun c66 => ?_)
        · skip
          have hvb : OpInv (pairB b) R ro rc sz (k + 1) (s + (1 + pd)) R9 (up ro9 k (ro9 s)) rc9 := by
            have hpd : pd = 0 := by omega
            subst hpd
            exact hv.step (t := rw_ R ro s) (by omega) (by omega) (by omega) (fun _ _ _ => rfl) hRs (by rw [pb_no hlt (by omega)]; congr 2) (by rw [sumLen_seg1 hlt]; congr 2)
          refine r_aload_n 94 hE 1 dX3_pairByBit_93 rfl rfl rfl ?_
          refine r_get 97 hE 0 0 ok3 8 dX3_pairByBit_94 rfl wd_221 rfl rfl (by decide) rfl ?_
          refine r_iload 99 hE 5 dX3_pairByBit_97 rfl rfl ?_
          refine r_iald 100 hE 0 9 dX3_pairByBit_99 rfl rfl rfl (by omega) ?_
          refine G.to (fs' := [(wRules g ru kd9 fi9 se9 sg9 le9 de9 nx9 he9 ro9 rc9 re rr)]) (lv' := [(0, .ref (ru 0)), (1, .int (iI sz)), (2, .int (iI b)), (3, .int (iI k)), (4, .int (iI s)), (5, .int (iI pd))]) [0] [1, 2, 3, 4, 5, 0] rfl rfl rfl ?_
          exact cut100 kd9 fi9 se9 sg9 le9 de9 nx9 he9 rc9 _ (ro9 s) (by first | exact hva | exact hvb) (by first | exact h87_0 | exact hT9)
        · skip
          have hs1 := hin (s + 1) (by omega) (by omega)
          have hrs1 := v4 (s + 1) (by omega) (by omega)
          have hRs1 : R9 (ro9 (s + 1)) = rw_ R ro (s + 1) := by rw [hrs1]; exact v3 _ hs1.1 hs1.2
          have hp1 : pd = 1 := by omega
          refine r_aload_n 70 hE 1 dX3_pairByBit_69 rfl rfl rfl ?_
          refine r_iconst 71 hE dX3_pairByBit_70 rfl ?_
          refine r_aload_n 72 hE 1 dX3_pairByBit_71 rfl rfl rfl ?_
          refine r_get 75 hE 0 0 ok3 8 dX3_pairByBit_72 rfl wd_221 rfl rfl (by decide) rfl ?_
          refine r_iload 77 hE 5 dX3_pairByBit_75 rfl rfl ?_
          refine r_iald 78 hE 0 9 dX3_pairByBit_77 rfl rfl rfl (by omega) ?_
          refine r_aload_n 79 hE 1 dX3_pairByBit_78 rfl rfl rfl ?_
          refine r_get 82 hE 0 0 ok3 8 dX3_pairByBit_79 rfl wd_221 rfl rfl (by decide) rfl ?_
          refine r_iload 84 hE 5 dX3_pairByBit_82 rfl rfl ?_
          refine r_iconst 85 hE dX3_pairByBit_84 rfl ?_
          refine r_iadd 86 hE (s + 1) dX3_pairByBit_85 rfl rfl ?_
          refine r_iald 87 hE 0 9 dX3_pairByBit_86 rfl rfl rfl (by omega) ?_
          refine r_callV 90 hE [0] [] [(wRules g ru kd9 fi9 se9 sg9 le9 de9 nx9 he9 ro9 rc9 re rr)] [] 0 3 ok3 [.int (iI k), .ref (ru 9)] (c_X3_make (hT9) (⟨by omega, Or.inl ⟨rfl, by omega, by omega⟩, by show rlen (mkT R9 1 (ro9 s) (ro9 (s + 1))) ≤ 600; unfold mkT; rw [if_neg (by decide), hRs, hRs1]; have h7 := (seg_two (f := rw_ R ro) (s := s) (e := sz) (by omega)).2; have h8 := sumLen_tail hT hin (s := s + 2) (by omega); omega⟩) (by omega)) dX3_pairByBit_87 rfl rfl wd_643 wd_645 ws_24 wd_9 wd_646 ne_X3 np_X3_make (Nat.le_of_ble_eq_true rfl)  (by decide) (by decide) rfl (Nat.le_of_ble_eq_true rfl) rfl rfl rfl rfl (by decide) rfl (fun v1 f1 hp => ?_)
          obtain ⟨kd9_87, fi9_87, se9_87, sg9_87, le9_87, de9_87, nx9_87, he9_87, rc9_87, R9_87, r_87, rfl, rfl, h87_0, h87_1, h87_2, h87_3, h87_4⟩ := hp
          show G g E _ _ _ [(wRules g ru kd9_87 fi9_87 se9_87 sg9_87 le9_87 de9_87 nx9_87 he9_87 ro9 rc9_87 re rr)] 90 [(5, .int (iI pd)), (0, .ref (ru 0)), (1, .int (iI sz)), (2, .int (iI b)), (3, .int (iI k)), (4, .int (iI s))] [.int (iI r_87), .int (iI k), .ref (ru 9)]
          have hva : OpInv (pairB b) R ro rc sz (k + 1) (s + (1 + pd)) R9_87 (up ro9 k r_87) rc9_87 := by
            subst hp1
            exact hv.step (t := rPair (rw_ R ro s) (rw_ R ro (s + 1))) (by omega) (by omega) h87_3 h87_2 (by rw [h87_4]; unfold mkT; rw [if_neg (by decide), hRs, hRs1]) (by rw [pb_yes (by omega) (by omega)]; congr 2) (by rw [(seg_two (by omega)).2]; show _ = rlen (rw_ R ro s) + rlen (rw_ R ro (s + 1)) + _; congr 2)
          refine r_goto 100 hE dX3_pairByBit_90 (by decide) ?_
          refine G.to (fs' := [(wRules g ru kd9_87 fi9_87 se9_87 sg9_87 le9_87 de9_87 nx9_87 he9_87 ro9 rc9_87 re rr)]) (lv' := [(0, .ref (ru 0)), (1, .int (iI sz)), (2, .int (iI b)), (3, .int (iI k)), (4, .int (iI s)), (5, .int (iI pd))]) [0] [1, 2, 3, 4, 5, 0] rfl rfl rfl ?_
          exact cut100 kd9_87 fi9_87 se9_87 sg9_87 le9_87 de9_87 nx9_87 he9_87 rc9_87 _ r_87 (by first | exact hva | exact hvb) (by first | exact h87_0 | exact hT9)
      refine r_iload 7 hE 4 dX3_pairByBit_5 rfl rfl ?_
      refine r_iload_n 8 hE 1 dX3_pairByBit_7 rfl rfl rfl ?_
      refine r_icmp_ge 11 122 hE dX3_pairByBit_8 rfl (by decide) (by omega) (fun c8 => ?_) (fun c8 => ?_)
      · skip
        refine r_iload_n 123 hE 3 dX3_pairByBit_122 rfl rfl rfl ?_
        refine r_ireturn hE hR [(wRules g ru kd9 fi9 se9 sg9 le9 de9 nx9 he9 ro9 rc9 re rr)] dX3_pairByBit_123 (Nat.le_of_ble_eq_true rfl) (Nat.le_of_ble_eq_true rfl) rfl ?_
        have hd := hv.done (by omega) (pairB_nil b)
        obtain ⟨v1, v2, v3, v4, v5, -⟩ := id hv
        have hk1 : 1 ≤ k := by
          by_cases z : k = 0
          · subst z; have := hd.2; rw [seg_nil _ (by omega), sumLen_seg1 (by omega)] at this; have h9 := rlen_pos (hT.wf (hin 0 (by omega) (by omega))); have h8 := sumLen_tail hT hin (s := 0 + 1) (by omega); have h7 : (0 : Int) = rlen (rw_ R ro 0) + sumLen (seg (rw_ R ro) (0 + 1) sz) := this; have h6 : 1 ≤ rlen (rw_ R ro 0) := h9; omega
          · omega
        exact ⟨kd9, fi9, se9, sg9, le9, de9, nx9, he9, rc9, R9, ro9, k, rfl, rfl, hT9, by omega, v3, by omega, v5, hd.1, hd.2⟩
      · skip
        have hs0 := hin s (by omega) (by omega)
        have hrs := v4 s (by omega) (by omega)
        have hRs : R9 (ro9 s) = rw_ R ro s := by rw [hrs]; exact v3 _ hs0.1 hs0.2
        have hb1 : bt b (rw_ R ro s) = andI (ushrI (sg9 (ro9 s)) b) 1 := by unfold bt; rw [← hRs, (hT9.2.1 (ro9 s) (by omega) (by omega)).2.1]
        have ha1 := andI_1 (ushrI (sg9 (ro9 s)) b)
        refine r_iload 13 hE 4 dX3_pairByBit_11 rfl rfl ?_
        refine r_iconst 14 hE dX3_pairByBit_13 rfl ?_
        refine r_iadd 15 hE (s + 1) dX3_pairByBit_14 rfl rfl ?_
        refine r_iload_n 16 hE 1 dX3_pairByBit_15 rfl rfl rfl ?_
        refine r_icmp_ge 19 56 hE dX3_pairByBit_16 rfl (by decide) (by omega) (fun c16 => ?_) (fun c16 => ?_)
        · skip
          refine r_iconst 57 hE dX3_pairByBit_56 rfl ?_
          exact cut57 0 (by omega) (by omega)
        · skip
          have hs1 := hin (s + 1) (by omega) (by omega)
          have hrs1 := v4 (s + 1) (by omega) (by omega)
          have hRs1 : R9 (ro9 (s + 1)) = rw_ R ro (s + 1) := by rw [hrs1]; exact v3 _ hs1.1 hs1.2
          have hb2 : bt b (rw_ R ro (s + 1)) = andI (ushrI (sg9 (ro9 (s + 1))) b) 1 := by unfold bt; rw [← hRs1, (hT9.2.1 (ro9 (s + 1)) (by omega) (by omega)).2.1]
          have ha2 := andI_1 (ushrI (sg9 (ro9 (s + 1))) b)
          refine r_aload_n 20 hE 0 dX3_pairByBit_19 rfl rfl rfl ?_
          refine r_aload_n 21 hE 0 dX3_pairByBit_20 rfl rfl rfl ?_
          refine r_get 24 hE 0 0 ok3 8 dX3_pairByBit_21 rfl wd_221 rfl rfl (by decide) rfl ?_
          refine r_iload 26 hE 4 dX3_pairByBit_24 rfl rfl ?_
          refine r_iald 27 hE 0 9 dX3_pairByBit_26 rfl rfl rfl (by omega) ?_
          refine r_iload_n 28 hE 2 dX3_pairByBit_27 rfl rfl rfl ?_
          refine r_callV 31 hE [0] [] [(wRules g ru kd9 fi9 se9 sg9 le9 de9 nx9 he9 ro9 rc9 re rr)] [] 0 3 ok3 [] (c_X3_bitOf (by omega) (by omega)) dX3_pairByBit_28 rfl rfl wd_656 wd_658 ws_26 wd_9 wd_659 ne_X3 np_X3_bitOf (Nat.le_of_ble_eq_true rfl)  (by decide) (by decide) rfl (Nat.le_of_ble_eq_true rfl) rfl rfl rfl rfl (by decide) rfl (fun v1 f1 hp => ?_)
          obtain ⟨rfl, rfl⟩ := hp
          show G g E _ _ _ [(wRules g ru kd9 fi9 se9 sg9 le9 de9 nx9 he9 ro9 rc9 re rr)] 31 [(0, .ref (ru 0)), (1, .int (iI sz)), (2, .int (iI b)), (3, .int (iI k)), (4, .int (iI s))] [.int (iI (andI (ushrI (sg9 (ro9 s)) b) 1))]
          refine r_if_ne 34 56 hE dX3_pairByBit_31 rfl (by decide) (by omega) (fun c31 => ?_) (fun c31 => ?_)
          · skip
            refine r_iconst 57 hE dX3_pairByBit_56 rfl ?_
            exact cut57 0 (by omega) (by omega)
          · skip
            refine r_aload_n 35 hE 0 dX3_pairByBit_34 rfl rfl rfl ?_
            refine r_aload_n 36 hE 0 dX3_pairByBit_35 rfl rfl rfl ?_
            refine r_get 39 hE 0 0 ok3 8 dX3_pairByBit_36 rfl wd_221 rfl rfl (by decide) rfl ?_
            refine r_iload 41 hE 4 dX3_pairByBit_39 rfl rfl ?_
            refine r_iconst 42 hE dX3_pairByBit_41 rfl ?_
            refine r_iadd 43 hE (s + 1) dX3_pairByBit_42 rfl rfl ?_
            refine r_iald 44 hE 0 9 dX3_pairByBit_43 rfl rfl rfl (by omega) ?_
            refine r_iload_n 45 hE 2 dX3_pairByBit_44 rfl rfl rfl ?_
            refine r_callV 48 hE [0] [] [(wRules g ru kd9 fi9 se9 sg9 le9 de9 nx9 he9 ro9 rc9 re rr)] [] 0 3 ok3 [] (c_X3_bitOf (by omega) (by omega)) dX3_pairByBit_45 rfl rfl wd_656 wd_658 ws_26 wd_9 wd_659 ne_X3 np_X3_bitOf (Nat.le_of_ble_eq_true rfl)  (by decide) (by decide) rfl (Nat.le_of_ble_eq_true rfl) rfl rfl rfl rfl (by decide) rfl (fun v1 f1 hp => ?_)
            obtain ⟨rfl, rfl⟩ := hp
            show G g E _ _ _ [(wRules g ru kd9 fi9 se9 sg9 le9 de9 nx9 he9 ro9 rc9 re rr)] 48 [(0, .ref (ru 0)), (1, .int (iI sz)), (2, .int (iI b)), (3, .int (iI k)), (4, .int (iI s))] [.int (iI (andI (ushrI (sg9 (ro9 (s + 1))) b) 1))]
            refine r_iconst 49 hE dX3_pairByBit_48 rfl ?_
            refine r_icmp_ne 52 56 hE dX3_pairByBit_49 rfl (by decide) (by omega) (fun c49 => ?_) (fun c49 => ?_)
            · skip
              refine r_iconst 57 hE dX3_pairByBit_56 rfl ?_
              exact cut57 0 (by omega) (by omega)
            · skip
              refine r_iconst 53 hE dX3_pairByBit_52 rfl ?_
              refine r_goto 57 hE dX3_pairByBit_53 (by decide) ?_
              exact cut57 1 (by omega) (by omega)
  refine r_iconst 1 hE dX3_pairByBit_0 rfl ?_
  refine r_istore_n 2 hE [(3, .int (iI 0)), (0, .ref (ru 0)), (1, .int (iI sz)), (2, .int (iI b))] dX3_pairByBit_1 rfl rfl (by decide) rfl ?_
  refine r_iconst 3 hE dX3_pairByBit_2 rfl ?_
  refine r_istore 5 hE [(4, .int (iI 0)), (3, .int (iI 0)), (0, .ref (ru 0)), (1, .int (iI sz)), (2, .int (iI b))] dX3_pairByBit_3 rfl (by decide) rfl ?_
  refine G.to (fs' := [(wRules g ru kd fi se sg le de nx he ro rc re rr)]) (lv' := [(0, .ref (ru 0)), (1, .int (iI sz)), (2, .int (iI b)), (3, .int (iI 0)), (4, .int (iI 0))]) [0] [2, 3, 4, 1, 0] rfl rfl rfl ?_
  exact cut5 _ kd fi se sg le de nx he rc _ ro 0 0 (hv2) (hT92) (Nat.lt_succ_self _)
set_option maxHeartbeats 4000000 in
set_option maxRecDepth 100000 in
theorem c_X3_pairByPlace {g : Gm} {ru : Nat → Nat} {kd fi se sg le de nx he ro : Int → Int} {rc re rr : Int} {R : Int → Rl} {sz : Int} (hT : RT kd fi se sg le de nx he rc R) (hin : ∀ k, 0 ≤ k → k < sz → 0 ≤ ro k ∧ ro k < rc) (hsz : 1 ≤ sz ∧ sz ≤ 600) (hsum : sumLen (seg (rw_ R ro) 0 sz) ≤ 600) (hroom : rc + sz ≤ 10240) : Ct g 2 0 0 yX3_pairByPlace cX3_pairByPlace 4 (some .int) [.ref (ru 0), .int (iI sz)] [(wRules g ru kd fi se sg le de nx he ro rc re rr)] (fun v w => ∃ kd9 : Int → Int, ∃ fi9 : Int → Int, ∃ se9 : Int → Int, ∃ sg9 : Int → Int, ∃ le9 : Int → Int, ∃ de9 : Int → Int, ∃ nx9 : Int → Int, ∃ he9 : Int → Int, ∃ rc9 : Int, ∃ R9 : Int → Rl, ∃ ro9 : Int → Int, ∃ n9 : Int, v = some (.int (iI n9)) ∧ w = [(wRules g ru kd9 fi9 se9 sg9 le9 de9 nx9 he9 ro9 rc9 re rr)] ∧ (RT kd9 fi9 se9 sg9 le9 de9 nx9 he9 rc9 R9) ∧ (rc ≤ rc9 ∧ rc9 + n9 ≤ rc + sz) ∧ (∀ i, 0 ≤ i → i < rc → R9 i = R i) ∧ (1 ≤ n9 ∧ n9 ≤ sz) ∧ (∀ k, 0 ≤ k → k < n9 → 0 ≤ ro9 k ∧ ro9 k < rc9) ∧ (seg (rw_ R9 ro9) 0 n9 = pairP (seg (rw_ R ro) 0 sz)) ∧ (sumLen (seg (rw_ R9 ro9) 0 n9) = sumLen (seg (rw_ R ro) 0 sz))) := by
  refine Ct.of (by decide) (Nat.le_of_ble_eq_true rfl) (lv := [(0, .ref (ru 0)), (1, .int (iI sz))]) rfl ?_
  intro E hE hR hnm
  have hcn := hT.1
  have hT92 := hT
  have hv2 : OpInv pairP R ro rc sz 0 0 R ro rc := OpInv.start (by omega)
  have cut4 : ∀ (N : Nat) (kd9 : Int → Int) (fi9 : Int → Int) (se9 : Int → Int) (sg9 : Int → Int) (le9 : Int → Int) (de9 : Int → Int) (nx9 : Int → Int) (he9 : Int → Int) (rc9 : Int) (R9 : Int → Rl) (ro9 : Int → Int) (k : Int) (s : Int), (OpInv pairP R ro rc sz k (min s sz) R9 ro9 rc9) → (RT kd9 fi9 se9 sg9 le9 de9 nx9 he9 rc9 R9) → (0 ≤ s ∧ s ≤ sz + 1) → (sz + 1 - s).toNat < N → G g E 4 0 0 [(wRules g ru kd9 fi9 se9 sg9 le9 de9 nx9 he9 ro9 rc9 re rr)] 4 [(0, .ref (ru 0)), (1, .int (iI sz)), (2, .int (iI k)), (3, .int (iI s))] [] := by
    intro N
    induction N with
    | zero => intro kd9 fi9 se9 sg9 le9 de9 nx9 he9 rc9 R9 ro9 k s _ _ _ hN; exact absurd hN (Nat.not_lt_zero _)
    | succ N ih4 =>
      intro kd9 fi9 se9 sg9 le9 de9 nx9 he9 rc9 R9 ro9 k s hv hT9 hs hN
      have hcn9 := hT9.1
      have cut49 : ∀ (kd8 : Int → Int) (fi8 : Int → Int) (se8 : Int → Int) (sg8 : Int → Int) (le8 : Int → Int) (de8 : Int → Int) (nx8 : Int → Int) (he8 : Int → Int) (rc8 : Int) (R8 : Int → Rl) (x : Int), (OpInv pairP R ro rc sz (k + 1) (min (s + 2) sz) R8 (up ro9 k x) rc8) → (RT kd8 fi8 se8 sg8 le8 de8 nx8 he8 rc8 R8) → (s < sz) → (0 ≤ k ∧ k ≤ s) → G g E 4 0 0 [(wRules g ru kd8 fi8 se8 sg8 le8 de8 nx8 he8 ro9 rc8 re rr)] 49 [(0, .ref (ru 0)), (1, .int (iI sz)), (2, .int (iI k)), (3, .int (iI s))] [.int (iI x), .int (iI k), .ref (ru 9)] := by
        intro kd8 fi8 se8 sg8 le8 de8 nx8 he8 rc8 R8 x hv2 hT8 hlt hkk
        have hT92 := hT8
        refine r_iast 50 hE 0 9 (wRules g ru kd8 fi8 se8 sg8 le8 de8 nx8 he8 (up ro9 k x) rc8 re rr) [(wRules g ru kd8 fi8 se8 sg8 le8 de8 nx8 he8 (up ro9 k x) rc8 re rr)] dX3_pairByPlace_49 rfl rfl rfl (by omega) rfl rfl ?_
        refine r_iinc 53 hE 2 (k + 1) [(2, .int (iI (k + 1))), (0, .ref (ru 0)), (1, .int (iI sz)), (3, .int (iI s))] dX3_pairByPlace_50 rfl rfl rfl (by decide) rfl ?_
        refine r_iinc 56 hE 3 (s + 2) [(3, .int (iI (s + 2))), (2, .int (iI (k + 1))), (0, .ref (ru 0)), (1, .int (iI sz))] dX3_pairByPlace_53 rfl rfl rfl (by decide) rfl ?_
        refine r_goto 4 hE dX3_pairByPlace_56 (by decide) ?_
        refine G.to (fs' := [(wRules g ru kd8 fi8 se8 sg8 le8 de8 nx8 he8 (up ro9 k x) rc8 re rr)]) (lv' := [(0, .ref (ru 0)), (1, .int (iI sz)), (2, .int (iI (k + 1))), (3, .int (iI (s + 2)))]) [0] [2, 3, 1, 0] rfl rfl rfl ?_
        exact ih4 kd8 fi8 se8 sg8 le8 de8 nx8 he8 rc8 _ (up ro9 k x) (k + 1) (s + 2) (hv2) (hT92) (by omega) (by omega)
      refine r_iload_n 5 hE 3 dX3_pairByPlace_4 rfl rfl rfl ?_
      refine r_iload_n 6 hE 1 dX3_pairByPlace_5 rfl rfl rfl ?_
      refine r_icmp_ge 9 59 hE dX3_pairByPlace_6 rfl (by decide) (by omega) (fun c6 => ?_) (fun c6 => ?_)
      · skip
        refine r_iload_n 60 hE 2 dX3_pairByPlace_59 rfl rfl rfl ?_
        refine r_ireturn hE hR [(wRules g ru kd9 fi9 se9 sg9 le9 de9 nx9 he9 ro9 rc9 re rr)] dX3_pairByPlace_60 (Nat.le_of_ble_eq_true rfl) (Nat.le_of_ble_eq_true rfl) rfl ?_
        rw [show min s sz = sz by omega] at hv
        have hd := hv.done (by omega) pairP_nil
        obtain ⟨v1, v2, v3, v4, v5, -⟩ := id hv
        have hk1 : 1 ≤ k := by
          by_cases z : k = 0
          · subst z; have := hd.2; rw [seg_nil _ (by omega), sumLen_seg1 (by omega)] at this; have h9 := rlen_pos (hT.wf (hin 0 (by omega) (by omega))); have h8 := sumLen_tail hT hin (s := 0 + 1) (by omega); have h7 : (0 : Int) = rlen (rw_ R ro 0) + sumLen (seg (rw_ R ro) (0 + 1) sz) := this; have h6 : 1 ≤ rlen (rw_ R ro 0) := h9; omega
          · omega
        exact ⟨kd9, fi9, se9, sg9, le9, de9, nx9, he9, rc9, R9, ro9, k, rfl, rfl, hT9, by omega, v3, by omega, v5, hd.1, hd.2⟩
      · skip
        rw [show min s sz = s by omega] at hv
        obtain ⟨v1, v2, v3, v4, v5, -⟩ := id hv
        have hrest := hv.rest hT9 hsum
        have hs0 := hin s (by omega) (by omega)
        have hrs := v4 s (by omega) (by omega)
        have hRs : R9 (ro9 s) = rw_ R ro s := by rw [hrs]; exact v3 _ hs0.1 hs0.2
        refine r_aload_n 10 hE 0 dX3_pairByPlace_9 rfl rfl rfl ?_
        refine r_get 13 hE 0 0 ok3 8 dX3_pairByPlace_10 rfl wd_221 rfl rfl (by decide) rfl ?_
        refine r_iload_n 14 hE 2 dX3_pairByPlace_13 rfl rfl rfl ?_
        refine r_iload_n 15 hE 3 dX3_pairByPlace_14 rfl rfl rfl ?_
        refine r_iconst 16 hE dX3_pairByPlace_15 rfl ?_
        refine r_iadd 17 hE (s + 1) dX3_pairByPlace_16 rfl rfl ?_
        refine r_iload_n 18 hE 1 dX3_pairByPlace_17 rfl rfl rfl ?_
        refine r_icmp_ge 21 43 hE dX3_pairByPlace_18 rfl (by decide) (by omega) (fun c18 => ?_) (fun c18 => ?_)
        · skip
          have hvb : OpInv pairP R ro rc sz (k + 1) (min (s + 2) sz) R9 (up ro9 k (ro9 s)) rc9 := by
            rw [show min (s + 2) sz = s + 1 by omega]
            exact hv.step (t := rw_ R ro s) (by omega) (by omega) (by omega) (fun _ _ _ => rfl) hRs (pp_one c6 (by omega)) (sumLen_seg1 c6)
          refine r_aload_n 44 hE 0 dX3_pairByPlace_43 rfl rfl rfl ?_
          refine r_get 47 hE 0 0 ok3 8 dX3_pairByPlace_44 rfl wd_221 rfl rfl (by decide) rfl ?_
          refine r_iload_n 48 hE 3 dX3_pairByPlace_47 rfl rfl rfl ?_
          refine r_iald 49 hE 0 9 dX3_pairByPlace_48 rfl rfl rfl (by omega) ?_
          exact cut49 kd9 fi9 se9 sg9 le9 de9 nx9 he9 rc9 _ (ro9 s) (by first | exact hva | exact hvb) (by first | exact h37_0 | exact hT9) (by omega) (by omega)
        · skip
          have hs1 := hin (s + 1) (by omega) (by omega)
          have hrs1 := v4 (s + 1) (by omega) (by omega)
          have hRs1 : R9 (ro9 (s + 1)) = rw_ R ro (s + 1) := by rw [hrs1]; exact v3 _ hs1.1 hs1.2
          refine r_aload_n 22 hE 0 dX3_pairByPlace_21 rfl rfl rfl ?_
          refine r_iconst 23 hE dX3_pairByPlace_22 rfl ?_
          refine r_aload_n 24 hE 0 dX3_pairByPlace_23 rfl rfl rfl ?_
          refine r_get 27 hE 0 0 ok3 8 dX3_pairByPlace_24 rfl wd_221 rfl rfl (by decide) rfl ?_
          refine r_iload_n 28 hE 3 dX3_pairByPlace_27 rfl rfl rfl ?_
          refine r_iald 29 hE 0 9 dX3_pairByPlace_28 rfl rfl rfl (by omega) ?_
          refine r_aload_n 30 hE 0 dX3_pairByPlace_29 rfl rfl rfl ?_
          refine r_get 33 hE 0 0 ok3 8 dX3_pairByPlace_30 rfl wd_221 rfl rfl (by decide) rfl ?_
          refine r_iload_n 34 hE 3 dX3_pairByPlace_33 rfl rfl rfl ?_
          refine r_iconst 35 hE dX3_pairByPlace_34 rfl ?_
          refine r_iadd 36 hE (s + 1) dX3_pairByPlace_35 rfl rfl ?_
          refine r_iald 37 hE 0 9 dX3_pairByPlace_36 rfl rfl rfl (by omega) ?_
          refine r_callV 40 hE [0] [] [(wRules g ru kd9 fi9 se9 sg9 le9 de9 nx9 he9 ro9 rc9 re rr)] [] 0 3 ok3 [.int (iI k), .ref (ru 9)] (c_X3_make (hT9) (⟨by omega, Or.inl ⟨rfl, by omega, by omega⟩, by show rlen (mkT R9 1 (ro9 s) (ro9 (s + 1))) ≤ 600; unfold mkT; rw [if_neg (by decide), hRs, hRs1]; have h7 := (seg_two (f := rw_ R ro) (s := s) (e := sz) (by omega)).2; have h8 := sumLen_tail hT hin (s := s + 2) (by omega); omega⟩) (by omega)) dX3_pairByPlace_37 rfl rfl wd_643 wd_645 ws_24 wd_9 wd_646 ne_X3 np_X3_make (Nat.le_of_ble_eq_true rfl)  (by decide) (by decide) rfl (Nat.le_of_ble_eq_true rfl) rfl rfl rfl rfl (by decide) rfl (fun v1 f1 hp => ?_)
          obtain ⟨kd9_37, fi9_37, se9_37, sg9_37, le9_37, de9_37, nx9_37, he9_37, rc9_37, R9_37, r_37, rfl, rfl, h37_0, h37_1, h37_2, h37_3, h37_4⟩ := hp
          show G g E _ _ _ [(wRules g ru kd9_37 fi9_37 se9_37 sg9_37 le9_37 de9_37 nx9_37 he9_37 ro9 rc9_37 re rr)] 40 [(0, .ref (ru 0)), (1, .int (iI sz)), (2, .int (iI k)), (3, .int (iI s))] [.int (iI r_37), .int (iI k), .ref (ru 9)]
          have hva : OpInv pairP R ro rc sz (k + 1) (min (s + 2) sz) R9_37 (up ro9 k r_37) rc9_37 := by
            rw [show min (s + 2) sz = s + 2 by omega]
            exact hv.step (t := rPair (rw_ R ro s) (rw_ R ro (s + 1))) (by omega) (by omega) h37_3 h37_2 (by rw [h37_4]; unfold mkT; rw [if_neg (by decide), hRs, hRs1]) (pp_two (by omega)) (seg_two (by omega)).2
          refine r_goto 49 hE dX3_pairByPlace_40 (by decide) ?_
          exact cut49 kd9_37 fi9_37 se9_37 sg9_37 le9_37 de9_37 nx9_37 he9_37 rc9_37 _ r_37 (by first | exact hva | exact hvb) (by first | exact h37_0 | exact hT9) (by omega) (by omega)
  refine r_iconst 1 hE dX3_pairByPlace_0 rfl ?_
  refine r_istore_n 2 hE [(2, .int (iI 0)), (0, .ref (ru 0)), (1, .int (iI sz))] dX3_pairByPlace_1 rfl rfl (by decide) rfl ?_
  refine r_iconst 3 hE dX3_pairByPlace_2 rfl ?_
  refine r_istore_n 4 hE [(3, .int (iI 0)), (2, .int (iI 0)), (0, .ref (ru 0)), (1, .int (iI sz))] dX3_pairByPlace_3 rfl rfl (by decide) rfl ?_
  refine G.to (fs' := [(wRules g ru kd fi se sg le de nx he ro rc re rr)]) (lv' := [(0, .ref (ru 0)), (1, .int (iI sz)), (2, .int (iI 0)), (3, .int (iI 0))]) [0] [2, 3, 1, 0] rfl rfl rfl ?_
  exact cut4 _ kd fi se sg le de nx he rc _ ro 0 0 (by rw [show min (0 : Int) sz = 0 by omega]; exact hv2) (hT92) (by omega) (Nat.lt_succ_self _)
