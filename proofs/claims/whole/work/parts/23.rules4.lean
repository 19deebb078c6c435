set_option maxHeartbeats 4000000 in
set_option maxRecDepth 100000 in
theorem c_X3_gatherRuns {g : Gm} {ru : Nat → Nat} {kd fi se sg le de nx he ro : Int → Int} {rc re rr : Int} {R : Int → Rl} {sz : Int} (hT : RT kd fi se sg le de nx he rc R) (hin : ∀ k, 0 ≤ k → k < sz → 0 ≤ ro k ∧ ro k < rc) (hsz : 1 ≤ sz ∧ sz ≤ 600) (hsum : sumLen (seg (rw_ R ro) 0 sz) ≤ 600) (hroom : rc + sz ≤ 10240) : Ct g 2 0 0 yX3_gatherRuns cX3_gatherRuns 5 (some .int) [.ref (ru 0), .int (iI sz)] [(wRules g ru kd fi se sg le de nx he ro rc re rr)] (fun v w => ∃ kd9 : Int → Int, ∃ fi9 : Int → Int, ∃ se9 : Int → Int, ∃ sg9 : Int → Int, ∃ le9 : Int → Int, ∃ de9 : Int → Int, ∃ nx9 : Int → Int, ∃ he9 : Int → Int, ∃ rc9 : Int, ∃ R9 : Int → Rl, ∃ ro9 : Int → Int, ∃ n9 : Int, v = some (.int (iI n9)) ∧ w = [(wRules g ru kd9 fi9 se9 sg9 le9 de9 nx9 he9 ro9 rc9 re rr)] ∧ (RT kd9 fi9 se9 sg9 le9 de9 nx9 he9 rc9 R9) ∧ (rc ≤ rc9 ∧ rc9 + n9 ≤ rc + sz) ∧ (∀ i, 0 ≤ i → i < rc → R9 i = R i) ∧ (1 ≤ n9 ∧ n9 ≤ sz) ∧ (∀ k, 0 ≤ k → k < n9 → 0 ≤ ro9 k ∧ ro9 k < rc9) ∧ (seg (rw_ R9 ro9) 0 n9 = gather (seg (rw_ R ro) 0 sz)) ∧ (sumLen (seg (rw_ R9 ro9) 0 n9) = sumLen (seg (rw_ R ro) 0 sz))) := by
  refine Ct.of (by decide) (Nat.le_of_ble_eq_true rfl) (lv := [(0, .ref (ru 0)), (1, .int (iI sz))]) rfl ?_
  intro E hE hR hnm
  have hcn := hT.1
  have hT92 := hT
  have hv2 : OpInv gather R ro rc sz 0 0 R ro rc := OpInv.start (by omega)
  have cut4 : ∀ (N : Nat) (kd9 : Int → Int) (fi9 : Int → Int) (se9 : Int → Int) (sg9 : Int → Int) (le9 : Int → Int) (de9 : Int → Int) (nx9 : Int → Int) (he9 : Int → Int) (rc9 : Int) (R9 : Int → Rl) (ro9 : Int → Int) (k : Int) (s : Int), (OpInv gather R ro rc sz k s R9 ro9 rc9) → (RT kd9 fi9 se9 sg9 le9 de9 nx9 he9 rc9 R9) → (sz - s).toNat < N → G g E 5 0 0 [(wRules g ru kd9 fi9 se9 sg9 le9 de9 nx9 he9 ro9 rc9 re rr)] 4 [(0, .ref (ru 0)), (1, .int (iI sz)), (2, .int (iI k)), (3, .int (iI s))] [] := by
    intro N
    induction N with
    | zero => intro kd9 fi9 se9 sg9 le9 de9 nx9 he9 rc9 R9 ro9 k s _ _ hN; exact absurd hN (Nat.not_lt_zero _)
    | succ N ih4 =>
      intro kd9 fi9 se9 sg9 le9 de9 nx9 he9 rc9 R9 ro9 k s hv hT9 hN
      obtain ⟨v1, v2, v3, v4, v5, -⟩ := id hv
      have hcn9 := hT9.1
      have cut42 : ∀ (e : Int), (s + 1 ≤ e ∧ e ≤ sz) → (∀ j, s ≤ j → j < e → ro9 j = ro9 s) → (e < sz → ro9 e ≠ ro9 s) → G g E 5 0 0 [(wRules g ru kd9 fi9 se9 sg9 le9 de9 nx9 he9 ro9 rc9 re rr)] 42 [(0, .ref (ru 0)), (1, .int (iI sz)), (2, .int (iI k)), (3, .int (iI s)), (4, .int (iI e))] [] := by
        intro e he hsame hdif
        have hs0 := hin s (by omega) (by omega)
        have hrs := v4 s (by omega) (by omega)
        have hRs : R9 (ro9 s) = rw_ R ro s := by rw [hrs]; exact v3 _ hs0.1 hs0.2
        have hst := ga_step (R := R) (ro := ro) (sz := sz) (s := s) (e := e) (by omega) (fun j a b => by rw [← v4 j (by omega) (by omega), ← hrs]; exact hsame j a b) (fun z q => by have h1 := hin e (by omega) z; have h2 := hT.2.2.1 _ _ h1.1 h1.2 hs0.1 hs0.2 q; rw [← v4 e (by omega) z, ← hrs] at h2; exact hdif z h2)
        have hrest := hv.rest hT9 hsum
        have htail := sumLen_tail hT hin (s := e) (by omega)
        have cut79 : ∀ (kd8 : Int → Int) (fi8 : Int → Int) (se8 : Int → Int) (sg8 : Int → Int) (le8 : Int → Int) (de8 : Int → Int) (nx8 : Int → Int) (he8 : Int → Int) (rc8 : Int) (R8 : Int → Rl) (x : Int), (OpInv gather R ro rc sz (k + 1) e R8 (up ro9 k x) rc8) → (RT kd8 fi8 se8 sg8 le8 de8 nx8 he8 rc8 R8) → G g E 5 0 0 [(wRules g ru kd8 fi8 se8 sg8 le8 de8 nx8 he8 ro9 rc8 re rr)] 79 [(0, .ref (ru 0)), (1, .int (iI sz)), (2, .int (iI k)), (3, .int (iI s)), (4, .int (iI e))] [.int (iI x), .int (iI k), .ref (ru 9)] := by
          intro kd8 fi8 se8 sg8 le8 de8 nx8 he8 rc8 R8 x hv2 hT8
          have hT92 := hT8
          refine r_iast 80 hE 0 9 (wRules g ru kd8 fi8 se8 sg8 le8 de8 nx8 he8 (up ro9 k x) rc8 re rr) [(wRules g ru kd8 fi8 se8 sg8 le8 de8 nx8 he8 (up ro9 k x) rc8 re rr)] dX3_gatherRuns_79 rfl rfl rfl (by omega) rfl rfl ?_
          refine r_iinc 83 hE 2 (k + 1) [(2, .int (iI (k + 1))), (0, .ref (ru 0)), (1, .int (iI sz)), (3, .int (iI s)), (4, .int (iI e))] dX3_gatherRuns_80 rfl rfl rfl (by decide) rfl ?_
          refine r_iload 85 hE 4 dX3_gatherRuns_83 rfl rfl ?_
          refine r_istore_n 86 hE [(3, .int (iI e)), (2, .int (iI (k + 1))), (0, .ref (ru 0)), (1, .int (iI sz)), (4, .int (iI e))] dX3_gatherRuns_85 rfl rfl (by decide) rfl ?_
          refine r_goto 4 hE dX3_gatherRuns_86 (by decide) ?_
          refine G.to (fs' := [(wRules g ru kd8 fi8 se8 sg8 le8 de8 nx8 he8 (up ro9 k x) rc8 re rr)]) (lv' := [(0, .ref (ru 0)), (1, .int (iI sz)), (2, .int (iI (k + 1))), (3, .int (iI e))]) [0] [2, 3, 1, 0] rfl rfl rfl ?_
          exact ih4 kd8 fi8 se8 sg8 le8 de8 nx8 he8 rc8 _ (up ro9 k x) (k + 1) e (hv2) (hT92) (by omega)
        refine r_aload_n 43 hE 0 dX3_gatherRuns_42 rfl rfl rfl ?_
        refine r_get 46 hE 0 0 ok3 8 dX3_gatherRuns_43 rfl wd_221 rfl rfl (by decide) rfl ?_
        refine r_iload_n 47 hE 2 dX3_gatherRuns_46 rfl rfl rfl ?_
        refine r_iload 49 hE 4 dX3_gatherRuns_47 rfl rfl ?_
        refine r_iload_n 50 hE 3 dX3_gatherRuns_49 rfl rfl rfl ?_
        refine r_isub 51 hE (e - s) dX3_gatherRuns_50 rfl rfl ?_
        refine r_iconst 52 hE dX3_gatherRuns_51 rfl ?_
        refine r_icmp_le 55 73 hE dX3_gatherRuns_52 rfl (by decide) (by omega) (fun c52 => ?_) (fun c52 => ?_)
        · skip
          have hvb : OpInv gather R ro rc sz (k + 1) e R9 (up ro9 k (ro9 s)) rc9 := hv.step (by omega) (by omega) (by omega) (fun _ _ _ => rfl) hRs (by rw [hst.1, if_pos (by omega)]) (by rw [hst.2, show e - s = 1 by omega, Int.mul_one])
          refine r_aload_n 74 hE 0 dX3_gatherRuns_73 rfl rfl rfl ?_
          refine r_get 77 hE 0 0 ok3 8 dX3_gatherRuns_74 rfl wd_221 rfl rfl (by decide) rfl ?_
          refine r_iload_n 78 hE 3 dX3_gatherRuns_77 rfl rfl rfl ?_
          refine r_iald 79 hE 0 9 dX3_gatherRuns_78 rfl rfl rfl (by omega) ?_
          exact cut79 kd9 fi9 se9 sg9 le9 de9 nx9 he9 rc9 _ (ro9 s) (by first | exact hva | exact hvb) (by first | exact h67_0 | exact hT9)
        · skip
          refine r_aload_n 56 hE 0 dX3_gatherRuns_55 rfl rfl rfl ?_
          refine r_iconst 57 hE dX3_gatherRuns_56 rfl ?_
          refine r_aload_n 58 hE 0 dX3_gatherRuns_57 rfl rfl rfl ?_
          refine r_get 61 hE 0 0 ok3 8 dX3_gatherRuns_58 rfl wd_221 rfl rfl (by decide) rfl ?_
          refine r_iload_n 62 hE 3 dX3_gatherRuns_61 rfl rfl rfl ?_
          refine r_iald 63 hE 0 9 dX3_gatherRuns_62 rfl rfl rfl (by omega) ?_
          refine r_iload 65 hE 4 dX3_gatherRuns_63 rfl rfl ?_
          refine r_iload_n 66 hE 3 dX3_gatherRuns_65 rfl rfl rfl ?_
          refine r_isub 67 hE (e - s) dX3_gatherRuns_66 rfl rfl ?_
          refine r_callV 70 hE [0] [] [(wRules g ru kd9 fi9 se9 sg9 le9 de9 nx9 he9 ro9 rc9 re rr)] [] 0 3 ok3 [.int (iI k), .ref (ru 9)] (c_X3_make (hT9) (⟨by omega, Or.inr ⟨rfl, by omega, by omega⟩, by show rlen (mkT R9 2 (ro9 s) (e - s)) ≤ 600; unfold mkT; rw [if_pos rfl, rlen_run' (by omega), hRs]; omega⟩) (by omega)) dX3_gatherRuns_67 rfl rfl wd_643 wd_645 ws_24 wd_9 wd_646 ne_X3 np_X3_make (Nat.le_of_ble_eq_true rfl)  (by decide) (by decide) rfl (Nat.le_of_ble_eq_true rfl) rfl rfl rfl rfl (by decide) rfl (fun v1 f1 hp => ?_)
          obtain ⟨kd9_67, fi9_67, se9_67, sg9_67, le9_67, de9_67, nx9_67, he9_67, rc9_67, R9_67, r_67, rfl, rfl, h67_0, h67_1, h67_2, h67_3, h67_4⟩ := hp
          show G g E _ _ _ [(wRules g ru kd9_67 fi9_67 se9_67 sg9_67 le9_67 de9_67 nx9_67 he9_67 ro9 rc9_67 re rr)] 70 [(0, .ref (ru 0)), (1, .int (iI sz)), (2, .int (iI k)), (3, .int (iI s)), (4, .int (iI e))] [.int (iI r_67), .int (iI k), .ref (ru 9)]
          have hva : OpInv gather R ro rc sz (k + 1) e R9_67 (up ro9 k r_67) rc9_67 := hv.step (t := rRun (e - s) (rw_ R ro s)) (by omega) (by omega) h67_3 h67_2 (by rw [h67_4]; unfold mkT; rw [if_pos rfl, hRs]) (by rw [hst.1, if_neg (by omega)]) (by rw [hst.2, rlen_run' (by omega)])
          refine r_goto 79 hE dX3_gatherRuns_70 (by decide) ?_
          exact cut79 kd9_67 fi9_67 se9_67 sg9_67 le9_67 de9_67 nx9_67 he9_67 rc9_67 _ r_67 (by first | exact hva | exact hvb) (by first | exact h67_0 | exact hT9)
      have cut14 : ∀ (N : Nat) (e : Int), (s + 1 ≤ e ∧ e ≤ sz) → (∀ j, s ≤ j → j < e → ro9 j = ro9 s) → (sz - e).toNat < N → G g E 5 0 0 [(wRules g ru kd9 fi9 se9 sg9 le9 de9 nx9 he9 ro9 rc9 re rr)] 14 [(0, .ref (ru 0)), (1, .int (iI sz)), (2, .int (iI k)), (3, .int (iI s)), (4, .int (iI e))] [] := by
        intro N
        induction N with
        | zero => intro e _ _ hN; exact absurd hN (Nat.not_lt_zero _)
        | succ N ih14 =>
          intro e he hsame hN
          refine r_iload 16 hE 4 dX3_gatherRuns_14 rfl rfl ?_
          refine r_iload_n 17 hE 1 dX3_gatherRuns_16 rfl rfl rfl ?_
          refine r_icmp_ge 20 42 hE dX3_gatherRuns_17 rfl (by decide) (by omega) (fun c17 => ?_) (fun c17 => ?_)
          · skip
            exact cut42 e (by omega) (hsame) (by first | exact (fun z => absurd z (by omega)) | exact (fun _ => c33))
          · skip
            refine r_aload_n 21 hE 0 dX3_gatherRuns_20 rfl rfl rfl ?_
            refine r_get 24 hE 0 0 ok3 8 dX3_gatherRuns_21 rfl wd_221 rfl rfl (by decide) rfl ?_
            refine r_iload 26 hE 4 dX3_gatherRuns_24 rfl rfl ?_
            refine r_iald 27 hE 0 9 dX3_gatherRuns_26 rfl rfl rfl (by omega) ?_
            refine r_aload_n 28 hE 0 dX3_gatherRuns_27 rfl rfl rfl ?_
            refine r_get 31 hE 0 0 ok3 8 dX3_gatherRuns_28 rfl wd_221 rfl rfl (by decide) rfl ?_
            refine r_iload_n 32 hE 3 dX3_gatherRuns_31 rfl rfl rfl ?_
            refine r_iald 33 hE 0 9 dX3_gatherRuns_32 rfl rfl rfl (by omega) ?_
            refine r_icmp_ne 36 42 hE dX3_gatherRuns_33 rfl (by decide) (by have h1 := hin e (by omega) (by omega); have h2 := v4 e (by omega) (by omega); have h3 := hin s (by omega) (by omega); have h4 := v4 s (by omega) (by omega); omega) (fun c33 => ?_) (fun c33 => ?_)
            · skip
              exact cut42 e (by omega) (hsame) (by first | exact (fun z => absurd z (by omega)) | exact (fun _ => c33))
            · skip
              refine r_iinc 39 hE 4 (e + 1) [(4, .int (iI (e + 1))), (0, .ref (ru 0)), (1, .int (iI sz)), (2, .int (iI k)), (3, .int (iI s))] dX3_gatherRuns_36 rfl rfl rfl (by decide) rfl ?_
              refine r_goto 14 hE dX3_gatherRuns_39 (by decide) ?_
              refine G.to (fs' := [(wRules g ru kd9 fi9 se9 sg9 le9 de9 nx9 he9 ro9 rc9 re rr)]) (lv' := [(0, .ref (ru 0)), (1, .int (iI sz)), (2, .int (iI k)), (3, .int (iI s)), (4, .int (iI (e + 1)))]) [0] [1, 2, 3, 4, 0] rfl rfl rfl ?_
              exact ih14 (e + 1) (by omega) (by first | exact (fun j a b => if z : j = e then z ▸ c33 else hsame j a (by omega)) | exact (fun j a b => congrArg ro9 (show j = s by omega))) (by omega)
      refine r_iload_n 5 hE 3 dX3_gatherRuns_4 rfl rfl rfl ?_
      refine r_iload_n 6 hE 1 dX3_gatherRuns_5 rfl rfl rfl ?_
      refine r_icmp_ge 9 89 hE dX3_gatherRuns_6 rfl (by decide) (by omega) (fun c6 => ?_) (fun c6 => ?_)
      · skip
        refine r_iload_n 90 hE 2 dX3_gatherRuns_89 rfl rfl rfl ?_
        refine r_ireturn hE hR [(wRules g ru kd9 fi9 se9 sg9 le9 de9 nx9 he9 ro9 rc9 re rr)] dX3_gatherRuns_90 (Nat.le_of_ble_eq_true rfl) (Nat.le_of_ble_eq_true rfl) rfl ?_
        have hd := hv.done (by omega) gather_nil
        obtain ⟨v1, v2, v3, v4, v5, -⟩ := id hv
        have hk1 : 1 ≤ k := by
          by_cases z : k = 0
          · subst z; have := hd.2; rw [seg_nil _ (by omega), sumLen_seg1 (by omega)] at this; have h9 := rlen_pos (hT.wf (hin 0 (by omega) (by omega))); have h8 := sumLen_tail hT hin (s := 0 + 1) (by omega); have h7 : (0 : Int) = rlen (rw_ R ro 0) + sumLen (seg (rw_ R ro) (0 + 1) sz) := this; have h6 : 1 ≤ rlen (rw_ R ro 0) := h9; omega
          · omega
        exact ⟨kd9, fi9, se9, sg9, le9, de9, nx9, he9, rc9, R9, ro9, k, rfl, rfl, hT9, by omega, v3, by omega, v5, hd.1, hd.2⟩
      · skip
        refine r_iload_n 10 hE 3 dX3_gatherRuns_9 rfl rfl rfl ?_
        refine r_iconst 11 hE dX3_gatherRuns_10 rfl ?_
        refine r_iadd 12 hE (s + 1) dX3_gatherRuns_11 rfl rfl ?_
        refine r_istore 14 hE [(4, .int (iI (s + 1))), (0, .ref (ru 0)), (1, .int (iI sz)), (2, .int (iI k)), (3, .int (iI s))] dX3_gatherRuns_12 rfl (by decide) rfl ?_
        refine G.to (fs' := [(wRules g ru kd9 fi9 se9 sg9 le9 de9 nx9 he9 ro9 rc9 re rr)]) (lv' := [(0, .ref (ru 0)), (1, .int (iI sz)), (2, .int (iI k)), (3, .int (iI s)), (4, .int (iI (s + 1)))]) [0] [1, 2, 3, 4, 0] rfl rfl rfl ?_
        exact cut14 _ (s + 1) (by omega) (by first | exact (fun j a b => if z : j = e then z ▸ c33 else hsame j a (by omega)) | exact (fun j a b => congrArg ro9 (show j = s by omega))) (Nat.lt_succ_self _)
  refine r_iconst 1 hE dX3_gatherRuns_0 rfl ?_
  refine r_istore_n 2 hE [(2, .int (iI 0)), (0, .ref (ru 0)), (1, .int (iI sz))] dX3_gatherRuns_1 rfl rfl (by decide) rfl ?_
  refine r_iconst 3 hE dX3_gatherRuns_2 rfl ?_
  refine r_istore_n 4 hE [(3, .int (iI 0)), (2, .int (iI 0)), (0, .ref (ru 0)), (1, .int (iI sz))] dX3_gatherRuns_3 rfl rfl (by decide) rfl ?_
  refine G.to (fs' := [(wRules g ru kd fi se sg le de nx he ro rc re rr)]) (lv' := [(0, .ref (ru 0)), (1, .int (iI sz)), (2, .int (iI 0)), (3, .int (iI 0))]) [0] [2, 3, 1, 0] rfl rfl rfl ?_
  exact cut4 _ kd fi se sg le de nx he rc _ ro 0 0 (hv2) (hT92) (Nat.lt_succ_self _)
