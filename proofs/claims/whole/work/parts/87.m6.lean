set_option maxHeartbeats 4000000 in
set_option maxRecDepth 100000 in
theorem c_X9_runs {g : Gm} {mo : Nat → Nat} {mst mac mmk mr mrd mrm mcm mtp msz mtk mbg men mls mvl mft mfp mfk mdp mto : Int} {kd on tw sg le de so : Int → Int} {R : Int → Rl} {ro : Int → Int} {b : Int} (hT : MT kd on tw sg le de so mr R) (hin : ∀ k, 0 ≤ k → k < mrm → 0 ≤ ro k ∧ ro k < mr) (hsz : 1 ≤ mrm ∧ mrm ≤ 600) (hsum : sumLen (seg (rw_ R ro) 0 mrm) ≤ 600) (hroom : mr + mrm ≤ 10400) (hcov : 0 ≤ b ∧ Cov R b mr (seg (rw_ R ro) 0 mrm)) : Ct g 2 0 0 yX9_runs cX9_runs 5 none [.ref (mo 0)] [(wMo g mo mst mac mmk mr mrd mrm mcm mtp msz mtk mbg men mls mvl mft mfp mfk mdp mto), (wMTab g mo kd on tw sg le de so), (wMRow g mo ro)] (fun v_ w_ => ∃ kd9 : Int → Int, ∃ on9 : Int → Int, ∃ tw9 : Int → Int, ∃ sg9 : Int → Int, ∃ le9 : Int → Int, ∃ de9 : Int → Int, ∃ so9 : Int → Int, ∃ mr9 : Int, ∃ R9 : Int → Rl, ∃ ro9 : Int → Int, ∃ n9 : Int, v_ = none ∧ w_ = [(wMo g mo mst mac mmk mr9 mrd n9 mcm mtp msz mtk mbg men mls mvl mft mfp mfk mdp mto), (wMTab g mo kd9 on9 tw9 sg9 le9 de9 so9), (wMRow g mo ro9)] ∧ (MT kd9 on9 tw9 sg9 le9 de9 so9 mr9 R9) ∧ (mr ≤ mr9 ∧ mr9 + n9 ≤ mr + mrm) ∧ (∀ i, 0 ≤ i → i < mr → R9 i = R i) ∧ (1 ≤ n9 ∧ n9 ≤ mrm) ∧ (∀ k, 0 ≤ k → k < n9 → 0 ≤ ro9 k ∧ ro9 k < mr9) ∧ (seg (rw_ R9 ro9) 0 n9 = gather (seg (rw_ R ro) 0 mrm)) ∧ (sumLen (seg (rw_ R9 ro9) 0 n9) = sumLen (seg (rw_ R ro) 0 mrm)) ∧ (Cov R9 b mr9 (seg (rw_ R9 ro9) 0 n9))) := by
  refine Ct.of (by decide) (Nat.le_of_ble_eq_true rfl) (lv := [(0, .ref (mo 0))]) rfl ?_
  intro E hE hR hnm
  have hcn := hT.1
  have hTw : ∀ i, 0 ≤ i → i < mr → Wf (R i) := fun i a b => hT.wf ⟨a, b⟩
  have hT92 := hT
  have hv2 : OpInv (gather) R ro mr mrm 0 0 R ro mr := OpInv.start (by omega)
  have hco2 : Cov R b mr (seg (rw_ R ro) 0 0 ++ seg (rw_ R ro) 0 mrm) := by rw [seg_nil _ (Int.le_refl 0), List.nil_append]; exact hcov.2
  have cut4 : ∀ (N : Nat) (kd9 : Int → Int) (on9 : Int → Int) (tw9 : Int → Int) (sg9 : Int → Int) (le9 : Int → Int) (de9 : Int → Int) (so9 : Int → Int) (mr9 : Int) (R9 : Int → Rl) (ro9 : Int → Int) (k : Int) (s : Int), (OpInv (gather) R ro mr mrm k s R9 ro9 mr9) → (MT kd9 on9 tw9 sg9 le9 de9 so9 mr9 R9) → (Cov R9 b mr9 (seg (rw_ R9 ro9) 0 k ++ seg (rw_ R ro) s mrm)) → (mrm - s).toNat < N → G g E 5 0 0 [(wMo g mo mst mac mmk mr9 mrd mrm mcm mtp msz mtk mbg men mls mvl mft mfp mfk mdp mto), (wMTab g mo kd9 on9 tw9 sg9 le9 de9 so9), (wMRow g mo ro9)] 4 [(0, .ref (mo 0)), (1, .int (iI k)), (2, .int (iI s))] [] := by
    intro N
    induction N with
    | zero => intro kd9 on9 tw9 sg9 le9 de9 so9 mr9 R9 ro9 k s _ _ _ hN; exact absurd hN (Nat.not_lt_zero _)
    | succ N ih4 =>
      intro kd9 on9 tw9 sg9 le9 de9 so9 mr9 R9 ro9 k s hv hT9 hco hN
      obtain ⟨v1, v2, v3, v4, v5, -⟩ := id hv
      have hcn9 := hT9.1
      have hTw9 : ∀ i, 0 ≤ i → i < mr9 → Wf (R9 i) := fun i a b => hT9.wf ⟨a, b⟩
      have cut43 : ∀ (e : Int), (s + 1 ≤ e ∧ e ≤ mrm) → (∀ j, s ≤ j → j < e → ro9 j = ro9 s) → (e < mrm → ro9 e ≠ ro9 s) → G g E 5 0 0 [(wMo g mo mst mac mmk mr9 mrd mrm mcm mtp msz mtk mbg men mls mvl mft mfp mfk mdp mto), (wMTab g mo kd9 on9 tw9 sg9 le9 de9 so9), (wMRow g mo ro9)] 43 [(0, .ref (mo 0)), (1, .int (iI k)), (2, .int (iI s)), (3, .int (iI e))] [] := by
        intro e he hsame hdif
        have hs0 := hin s (by omega) (by omega)
        have hrs := v4 s (by omega) (by omega)
        have hRs : R9 (ro9 s) = rw_ R ro s := by rw [hrs]; exact v3 _ hs0.1 hs0.2
        have hst := ga_step (R := R) (ro := ro) (sz := mrm) (s := s) (e := e) (by omega) (fun j a b => by rw [← v4 j (by omega) (by omega), ← hrs]; exact hsame j a b) (fun z q => by have h1 := hin e (by omega) z; have h2 := hT.2.2.1 _ _ h1.1 h1.2 hs0.1 hs0.2 q; rw [← v4 e (by omega) z, ← hrs] at h2; exact hdif z h2)
        have hrest := hv.restW hTw9 hsum
        have htail := tailW hTw hin (s := e) (by omega)
        have hsm : ∀ j, s ≤ j → j < e → rw_ R ro j = rw_ R ro s := fun j a b => by unfold rw_; rw [← v4 j (by omega) (by omega), ← hrs, hsame j a b]
        have cut73 : ∀ (kd8 : Int → Int) (on8 : Int → Int) (tw8 : Int → Int) (sg8 : Int → Int) (le8 : Int → Int) (de8 : Int → Int) (so8 : Int → Int) (mr8 : Int) (R8 : Int → Rl) (x : Int), (OpInv gather R ro mr mrm (k + 1) e R8 (up ro9 k x) mr8) → (MT kd8 on8 tw8 sg8 le8 de8 so8 mr8 R8) → (Cov R8 b mr8 (seg (rw_ R8 (up ro9 k x)) 0 (k + 1) ++ seg (rw_ R ro) e mrm)) → G g E 5 0 0 [(wMo g mo mst mac mmk mr8 mrd mrm mcm mtp msz mtk mbg men mls mvl mft mfp mfk mdp mto), (wMTab g mo kd8 on8 tw8 sg8 le8 de8 so8), (wMRow g mo ro9)] 73 [(0, .ref (mo 0)), (1, .int (iI k)), (2, .int (iI s)), (3, .int (iI e))] [.int (iI x)] := by
          intro kd8 on8 tw8 sg8 le8 de8 so8 mr8 R8 x hv2 hT8 hco2
          have hT92 := hT8
          refine r_istore 75 hE [(4, .int (iI x)), (0, .ref (mo 0)), (1, .int (iI k)), (2, .int (iI s)), (3, .int (iI e))] dX9_runs_73 rfl (by decide) rfl ?_
          refine r_aload_n 76 hE 1 dX9_runs_75 rfl rfl rfl ?_
          refine r_get 79 hE 0 0 ok9 14 dX9_runs_76 rfl wd_1066 rfl rfl (by decide) rfl ?_
          refine r_iload_n 80 hE 2 dX9_runs_79 rfl rfl rfl ?_
          refine r_iload 82 hE 0 dX9_runs_80 rfl rfl ?_
          refine r_iast 83 hE 2 0 (wMRow g mo (up ro9 k x)) [(wMo g mo mst mac mmk mr8 mrd mrm mcm mtp msz mtk mbg men mls mvl mft mfp mfk mdp mto), (wMTab g mo kd8 on8 tw8 sg8 le8 de8 so8), (wMRow g mo (up ro9 k x))] dX9_runs_82 rfl rfl rfl (by omega) rfl rfl ?_
          refine r_iinc 86 hE 2 (k + 1) [(1, .int (iI (k + 1))), (4, .int (iI x)), (0, .ref (mo 0)), (2, .int (iI s)), (3, .int (iI e))] dX9_runs_83 rfl rfl rfl (by decide) rfl ?_
          refine r_iload_n 87 hE 4 dX9_runs_86 rfl rfl rfl ?_
          refine r_istore_n 88 hE [(2, .int (iI e)), (1, .int (iI (k + 1))), (4, .int (iI x)), (0, .ref (mo 0)), (3, .int (iI e))] dX9_runs_87 rfl rfl (by decide) rfl ?_
          refine r_goto 4 hE dX9_runs_88 (by decide) ?_
          refine G.to (fs' := [(wMo g mo mst mac mmk mr8 mrd mrm mcm mtp msz mtk mbg men mls mvl mft mfp mfk mdp mto), (wMTab g mo kd8 on8 tw8 sg8 le8 de8 so8), (wMRow g mo (up ro9 k x))]) (lv' := [(0, .ref (mo 0)), (1, .int (iI (k + 1))), (2, .int (iI e))]) [0, 1, 2] [3, 1, 0] rfl rfl rfl ?_
          exact ih4 kd8 on8 tw8 sg8 le8 de8 so8 mr8 _ (up ro9 k x) (k + 1) e (hv2) (hT92) (hco2) (by omega)
        refine r_iload_n 44 hE 3 dX9_runs_43 rfl rfl rfl ?_
        refine r_iload_n 45 hE 2 dX9_runs_44 rfl rfl rfl ?_
        refine r_isub 46 hE (e - s) dX9_runs_45 rfl rfl ?_
        refine r_iconst 47 hE dX9_runs_46 rfl ?_
        refine r_icmp_le 50 67 hE dX9_runs_47 rfl (by decide) (by omega) (fun c47 => ?_) (fun c47 => ?_)
        · skip
          have hvb : OpInv gather R ro mr mrm (k + 1) e R9 (up ro9 k (ro9 s)) mr9 := hv.step (by omega) (by omega) (by omega) (fun _ _ _ => rfl) hRs (by rw [hst.1, if_pos (by omega)]) (by rw [hst.2, show e - s = 1 by omega, Int.mul_one])
          have hcb : Cov R9 b mr9 (seg (rw_ R9 (up ro9 k (ro9 s))) 0 (k + 1) ++ seg (rw_ R ro) e mrm) := hco.step (t := rw_ R ro s) v1.1 hcov.1 (by omega) v5 (by omega) (Or.inl rfl) (fun _ _ _ => rfl) hRs (fun j a b => by rw [hsm j a b]; exact Sub.self _)
          refine r_aload_n 68 hE 0 dX9_runs_67 rfl rfl rfl ?_
          refine r_get 71 hE 0 0 ok9 14 dX9_runs_68 rfl wd_1066 rfl rfl (by decide) rfl ?_
          refine r_iload_n 72 hE 2 dX9_runs_71 rfl rfl rfl ?_
          refine r_iald 73 hE 2 0 dX9_runs_72 rfl rfl rfl (by omega) ?_
          exact cut73 kd9 on9 tw9 sg9 le9 de9 so9 mr9 _ (ro9 s) (by first | exact hva | exact hvb) (by first | exact h61_0 | exact hT9) (by first | exact hca | exact hcb)
        · skip
          refine r_aload_n 51 hE 0 dX9_runs_50 rfl rfl rfl ?_
          refine r_iconst 52 hE dX9_runs_51 rfl ?_
          refine r_aload_n 53 hE 0 dX9_runs_52 rfl rfl rfl ?_
          refine r_get 56 hE 0 0 ok9 14 dX9_runs_53 rfl wd_1066 rfl rfl (by decide) rfl ?_
          refine r_iload_n 57 hE 2 dX9_runs_56 rfl rfl rfl ?_
          refine r_iald 58 hE 2 0 dX9_runs_57 rfl rfl rfl (by omega) ?_
          refine r_iload_n 59 hE 3 dX9_runs_58 rfl rfl rfl ?_
          refine r_iload_n 60 hE 2 dX9_runs_59 rfl rfl rfl ?_
          refine r_isub 61 hE (e - s) dX9_runs_60 rfl rfl ?_
          refine r_callV 64 hE [0, 1] [2] [(wMo g mo mst mac mmk mr9 mrd mrm mcm mtp msz mtk mbg men mls mvl mft mfp mfk mdp mto), (wMTab g mo kd9 on9 tw9 sg9 le9 de9 so9)] [(wMRow g mo ro9)] 0 9 ok9 [] (c_X9_ruleOf_2 (hT9) (⟨by omega, by show rlen (mkM R9 2 (ro9 s) (e - s)) ≤ 600; rw [mkM_2, rlen_run' (by omega), hRs]; omega⟩) (by omega)) dX9_runs_61 rfl rfl wd_1318 wd_1320 ws_76 wd_12 wd_1321 ne_X9 np_X9_ruleOf (Nat.le_of_ble_eq_true rfl)  (by decide) (by decide) rfl (Nat.le_of_ble_eq_true rfl) rfl rfl rfl rfl (by decide) rfl (fun v1 f1 hp => ?_)
          obtain ⟨kd9_61, on9_61, tw9_61, sg9_61, le9_61, de9_61, so9_61, mr9_61, R9_61, r_61, rfl, rfl, h61_0, h61_1, h61_2, h61_3, h61_4, h61_5⟩ := hp
          show G g E _ _ _ [(wMo g mo mst mac mmk mr9_61 mrd mrm mcm mtp msz mtk mbg men mls mvl mft mfp mfk mdp mto), (wMTab g mo kd9_61 on9_61 tw9_61 sg9_61 le9_61 de9_61 so9_61), (wMRow g mo ro9)] 64 [(0, .ref (mo 0)), (1, .int (iI k)), (2, .int (iI s)), (3, .int (iI e))] [.int (iI r_61)]
          have hrt : R9_61 r_61 = rRun (e - s) (rw_ R ro s) := by rw [h61_4, mkM_2, hRs]
          have hva : OpInv gather R ro mr mrm (k + 1) e R9_61 (up ro9 k r_61) mr9_61 := hv.step (t := rRun (e - s) (rw_ R ro s)) (by omega) (by omega) h61_3 h61_2 hrt (by rw [hst.1, if_neg (by omega)]) (by rw [hst.2, rlen_run' (by omega)])
          have hca : Cov R9_61 b mr9_61 (seg (rw_ R9_61 (up ro9 k r_61)) 0 (k + 1) ++ seg (rw_ R ro) e mrm) := hco.step (t := rRun (e - s) (rw_ R ro s)) v1.1 hcov.1 (by omega) v5 (by omega) h61_5 h61_2 hrt (fun j a b => by rw [hsm j a b]; exact Sub.runI _ (Sub.self _))
          refine r_goto 73 hE dX9_runs_64 (by decide) ?_
          exact cut73 kd9_61 on9_61 tw9_61 sg9_61 le9_61 de9_61 so9_61 mr9_61 _ r_61 (by first | exact hva | exact hvb) (by first | exact h61_0 | exact hT9) (by first | exact hca | exact hcb)
      have cut14 : ∀ (N : Nat) (e : Int), (s ≤ e ∧ e ≤ mrm ∧ s < mrm) → (∀ j, s ≤ j → j < e → ro9 j = ro9 s) → (mrm - e).toNat < N → G g E 5 0 0 [(wMo g mo mst mac mmk mr9 mrd mrm mcm mtp msz mtk mbg men mls mvl mft mfp mfk mdp mto), (wMTab g mo kd9 on9 tw9 sg9 le9 de9 so9), (wMRow g mo ro9)] 14 [(0, .ref (mo 0)), (1, .int (iI k)), (2, .int (iI s)), (3, .int (iI e))] [] := by
        intro N
        induction N with
        | zero => intro e _ _ hN; exact absurd hN (Nat.not_lt_zero _)
        | succ N ih14 =>
          intro e he hsame hN
          refine r_iload_n 15 hE 3 dX9_runs_14 rfl rfl rfl ?_
          refine r_aload_n 16 hE 0 dX9_runs_15 rfl rfl rfl ?_
          refine r_get 19 hE 0 0 ok9 15 dX9_runs_16 rfl wd_1067 rfl rfl (by decide) rfl ?_
          refine r_icmp_ge 22 43 hE dX9_runs_19 rfl (by decide) (by omega) (fun c19 => ?_) (fun c19 => ?_)
          · skip
            exact cut43 e (by first | omega | exact hes) (hsame) (by first | exact (fun z => absurd z (by omega)) | exact (fun _ => c34))
          · skip
            refine r_aload_n 23 hE 0 dX9_runs_22 rfl rfl rfl ?_
            refine r_get 26 hE 0 0 ok9 14 dX9_runs_23 rfl wd_1066 rfl rfl (by decide) rfl ?_
            refine r_iload_n 27 hE 3 dX9_runs_26 rfl rfl rfl ?_
            refine r_iald 28 hE 2 0 dX9_runs_27 rfl rfl rfl (by omega) ?_
            refine r_aload_n 29 hE 0 dX9_runs_28 rfl rfl rfl ?_
            refine r_get 32 hE 0 0 ok9 14 dX9_runs_29 rfl wd_1066 rfl rfl (by decide) rfl ?_
            refine r_iload_n 33 hE 2 dX9_runs_32 rfl rfl rfl ?_
            refine r_iald 34 hE 2 0 dX9_runs_33 rfl rfl rfl (by omega) ?_
            refine r_icmp_ne 37 43 hE dX9_runs_34 rfl (by decide) (by have h1 := hin e (by omega) (by omega); have h2 := v4 e (by omega) (by omega); have h3 := hin s (by omega) (by omega); have h4 := v4 s (by omega) (by omega); omega) (fun c34 => ?_) (fun c34 => ?_)
            · skip
              have hes : s + 1 ≤ e ∧ e ≤ mrm := by by_cases z : e = s; (exact absurd (by rw [z]) c34); omega
              exact cut43 e (by first | omega | exact hes) (hsame) (by first | exact (fun z => absurd z (by omega)) | exact (fun _ => c34))
            · skip
              refine r_iinc 40 hE 3 (e + 1) [(3, .int (iI (e + 1))), (0, .ref (mo 0)), (1, .int (iI k)), (2, .int (iI s))] dX9_runs_37 rfl rfl rfl (by decide) rfl ?_
              refine r_goto 14 hE dX9_runs_40 (by decide) ?_
              refine G.to (fs' := [(wMo g mo mst mac mmk mr9 mrd mrm mcm mtp msz mtk mbg men mls mvl mft mfp mfk mdp mto), (wMTab g mo kd9 on9 tw9 sg9 le9 de9 so9), (wMRow g mo ro9)]) (lv' := [(0, .ref (mo 0)), (1, .int (iI k)), (2, .int (iI s)), (3, .int (iI (e + 1)))]) [0, 1, 2] [1, 2, 3, 0] rfl rfl rfl ?_
              exact ih14 (e + 1) (by omega) (by first | exact (fun j a b => if z : j = e then z ▸ c34 else hsame j a (by omega)) | exact (fun j a b => absurd b (by omega))) (by omega)
      refine r_iload_n 5 hE 2 dX9_runs_4 rfl rfl rfl ?_
      refine r_aload_n 6 hE 0 dX9_runs_5 rfl rfl rfl ?_
      refine r_get 9 hE 0 0 ok9 15 dX9_runs_6 rfl wd_1067 rfl rfl (by decide) rfl ?_
      refine r_icmp_ge 12 91 hE dX9_runs_9 rfl (by decide) (by omega) (fun c9 => ?_) (fun c9 => ?_)
      · skip
        refine r_aload_n 92 hE 0 dX9_runs_91 rfl rfl rfl ?_
        refine r_iload_n 93 hE 1 dX9_runs_92 rfl rfl rfl ?_
        refine r_put 96 hE 0 0 ok9 15 (wMo g mo mst mac mmk mr9 mrd k mcm mtp msz mtk mbg men mls mvl mft mfp mfk mdp mto) [(wMo g mo mst mac mmk mr9 mrd k mcm mtp msz mtk mbg men mls mvl mft mfp mfk mdp mto), (wMTab g mo kd9 on9 tw9 sg9 le9 de9 so9), (wMRow g mo ro9)] dX9_runs_93 rfl wd_1067 rfl rfl (by decide) rfl rfl rfl (Nat.le_of_ble_eq_true rfl) rfl rfl ?_
        refine r_return hE hR [(wMo g mo mst mac mmk mr9 mrd k mcm mtp msz mtk mbg men mls mvl mft mfp mfk mdp mto), (wMTab g mo kd9 on9 tw9 sg9 le9 de9 so9), (wMRow g mo ro9)] dX9_runs_96 (Nat.le_of_ble_eq_true rfl) (Nat.le_of_ble_eq_true rfl) rfl ?_
        have hse : s = mrm := by omega
        subst hse
        have hd := hv.done rfl gather_nil
        have hk1 : 1 ≤ k := by
          by_cases z : k = 0
          · subst z; have := hd.2; rw [seg_nil _ (by omega), sumLen_seg1 (by omega)] at this; have h9 := rlen_pos (hT.wf (hin 0 (by omega) (by omega))); have h8 := tailW hTw hin (s := 0 + 1) (by omega); have h7 : (0 : Int) = rlen (rw_ R ro 0) + sumLen (seg (rw_ R ro) (0 + 1) s) := this; have h6 : 1 ≤ rlen (rw_ R ro 0) := h9; omega
          · omega
        rw [seg_nil _ (Int.le_refl s), List.append_nil] at hco
        exact ⟨kd9, on9, tw9, sg9, le9, de9, so9, mr9, R9, ro9, k, rfl, rfl, hT9, by omega, v3, by omega, v5, hd.1, hd.2, hco⟩
      · skip
        refine r_iload_n 13 hE 2 dX9_runs_12 rfl rfl rfl ?_
        refine r_istore_n 14 hE [(3, .int (iI s)), (0, .ref (mo 0)), (1, .int (iI k)), (2, .int (iI s))] dX9_runs_13 rfl rfl (by decide) rfl ?_
        refine G.to (fs' := [(wMo g mo mst mac mmk mr9 mrd mrm mcm mtp msz mtk mbg men mls mvl mft mfp mfk mdp mto), (wMTab g mo kd9 on9 tw9 sg9 le9 de9 so9), (wMRow g mo ro9)]) (lv' := [(0, .ref (mo 0)), (1, .int (iI k)), (2, .int (iI s)), (3, .int (iI s))]) [0, 1, 2] [1, 2, 3, 0] rfl rfl rfl ?_
        exact cut14 _ s (by omega) (by first | exact (fun j a b => if z : j = e then z ▸ c34 else hsame j a (by omega)) | exact (fun j a b => absurd b (by omega))) (Nat.lt_succ_self _)
  refine r_iconst 1 hE dX9_runs_0 rfl ?_
  refine r_istore_n 2 hE [(1, .int (iI 0)), (0, .ref (mo 0))] dX9_runs_1 rfl rfl (by decide) rfl ?_
  refine r_iconst 3 hE dX9_runs_2 rfl ?_
  refine r_istore_n 4 hE [(2, .int (iI 0)), (1, .int (iI 0)), (0, .ref (mo 0))] dX9_runs_3 rfl rfl (by decide) rfl ?_
  refine G.to (fs' := [(wMo g mo mst mac mmk mr mrd mrm mcm mtp msz mtk mbg men mls mvl mft mfp mfk mdp mto), (wMTab g mo kd on tw sg le de so), (wMRow g mo ro)]) (lv' := [(0, .ref (mo 0)), (1, .int (iI 0)), (2, .int (iI 0))]) [0, 1, 2] [2, 1, 0] rfl rfl rfl ?_
  exact cut4 _ kd on tw sg le de so mr _ ro 0 0 (hv2) (hT92) (hco2) (Nat.lt_succ_self _)
set_option maxHeartbeats 4000000 in
set_option maxRecDepth 100000 in
theorem c_X9_pairs {g : Gm} {mo : Nat → Nat} {mst mac mmk mr mrd mrm mcm mtp msz mtk mbg men mls mvl mft mfp mfk mdp mto : Int} {kd on tw sg le de so : Int → Int} {R : Int → Rl} {ro : Int → Int} {b rd : Int} (hT : MT kd on tw sg le de so mr R) (hin : ∀ k, 0 ≤ k → k < mrm → 0 ≤ ro k ∧ ro k < mr) (hsz : 1 ≤ mrm ∧ mrm ≤ 600) (hsum : sumLen (seg (rw_ R ro) 0 mrm) ≤ 600) (hroom : mr + mrm ≤ 10400) (hcov : 0 ≤ b ∧ Cov R b mr (seg (rw_ R ro) 0 mrm)) (hrd : 0 ≤ rd ∧ rd ≤ 100) : Ct g 2 0 0 yX9_pairs cX9_pairs 6 none [.ref (mo 0), .int (iI rd)] [(wMo g mo mst mac mmk mr mrd mrm mcm mtp msz mtk mbg men mls mvl mft mfp mfk mdp mto), (wMTab g mo kd on tw sg le de so), (wMRow g mo ro)] (fun v_ w_ => ∃ kd9 : Int → Int, ∃ on9 : Int → Int, ∃ tw9 : Int → Int, ∃ sg9 : Int → Int, ∃ le9 : Int → Int, ∃ de9 : Int → Int, ∃ so9 : Int → Int, ∃ mr9 : Int, ∃ R9 : Int → Rl, ∃ ro9 : Int → Int, ∃ n9 : Int, v_ = none ∧ w_ = [(wMo g mo mst mac mmk mr9 mrd n9 mcm mtp msz mtk mbg men mls mvl mft mfp mfk mdp mto), (wMTab g mo kd9 on9 tw9 sg9 le9 de9 so9), (wMRow g mo ro9)] ∧ (MT kd9 on9 tw9 sg9 le9 de9 so9 mr9 R9) ∧ (mr ≤ mr9 ∧ mr9 + n9 ≤ mr + mrm) ∧ (∀ i, 0 ≤ i → i < mr → R9 i = R i) ∧ (1 ≤ n9 ∧ n9 ≤ mrm) ∧ (∀ k, 0 ≤ k → k < n9 → 0 ≤ ro9 k ∧ ro9 k < mr9) ∧ (seg (rw_ R9 ro9) 0 n9 = prs rd (seg (rw_ R ro) 0 mrm)) ∧ (sumLen (seg (rw_ R9 ro9) 0 n9) = sumLen (seg (rw_ R ro) 0 mrm)) ∧ (Cov R9 b mr9 (seg (rw_ R9 ro9) 0 n9))) := by
  refine Ct.of (by decide) (Nat.le_of_ble_eq_true rfl) (lv := [(0, .ref (mo 0)), (1, .int (iI rd))]) rfl ?_
  intro E hE hR hnm
  have hcn := hT.1
  have hTw : ∀ i, 0 ≤ i → i < mr → Wf (R i) := fun i a b => hT.wf ⟨a, b⟩
  have hT92 := hT
  have hv2 : OpInv (prs rd) R ro mr mrm 0 0 R ro mr := OpInv.start (by omega)
  have hco2 : Cov R b mr (seg (rw_ R ro) 0 0 ++ seg (rw_ R ro) 0 mrm) := by rw [seg_nil _ (Int.le_refl 0), List.nil_append]; exact hcov.2
  have cut4 : ∀ (N : Nat) (kd9 : Int → Int) (on9 : Int → Int) (tw9 : Int → Int) (sg9 : Int → Int) (le9 : Int → Int) (de9 : Int → Int) (so9 : Int → Int) (mr9 : Int) (R9 : Int → Rl) (ro9 : Int → Int) (k : Int) (s : Int), (OpInv (prs rd) R ro mr mrm k s R9 ro9 mr9) → (MT kd9 on9 tw9 sg9 le9 de9 so9 mr9 R9) → (Cov R9 b mr9 (seg (rw_ R9 ro9) 0 k ++ seg (rw_ R ro) s mrm)) → (mrm - s).toNat < N → G g E 6 0 0 [(wMo g mo mst mac mmk mr9 mrd mrm mcm mtp msz mtk mbg men mls mvl mft mfp mfk mdp mto), (wMTab g mo kd9 on9 tw9 sg9 le9 de9 so9), (wMRow g mo ro9)] 4 [(0, .ref (mo 0)), (1, .int (iI rd)), (2, .int (iI k)), (3, .int (iI s))] [] := by
    intro N
    induction N with
    | zero => intro kd9 on9 tw9 sg9 le9 de9 so9 mr9 R9 ro9 k s _ _ _ hN; exact absurd hN (Nat.not_lt_zero _)
    | succ N ih4 =>
      intro kd9 on9 tw9 sg9 le9 de9 so9 mr9 R9 ro9 k s hv hT9 hco hN
      obtain ⟨v1, v2, v3, v4, v5, -⟩ := id hv
      have hcn9 := hT9.1
      have hTw9 : ∀ i, 0 ≤ i → i < mr9 → Wf (R9 i) := fun i a b => hT9.wf ⟨a, b⟩
      have cut72 : ∀ (pd : Int), (s < mrm) → ((pd = 1 ∧ s + 1 < mrm ∧ isP rd (rw_ R ro s) (rw_ R ro (s + 1))) ∨ (pd = 0 ∧ ¬ (s + 1 < mrm ∧ isP rd (rw_ R ro s) (rw_ R ro (s + 1))))) → G g E 6 0 0 [(wMo g mo mst mac mmk mr9 mrd mrm mcm mtp msz mtk mbg men mls mvl mft mfp mfk mdp mto), (wMTab g mo kd9 on9 tw9 sg9 le9 de9 so9), (wMRow g mo ro9)] 72 [(0, .ref (mo 0)), (1, .int (iI rd)), (2, .int (iI k)), (3, .int (iI s))] [.int (iI pd)] := by
        intro pd hlt hp
        have hs0 := hin s (by omega) (by omega)
        have hrs := v4 s (by omega) (by omega)
        have hRs : R9 (ro9 s) = rw_ R ro s := by rw [hrs]; exact v3 _ hs0.1 hs0.2
        have hrest := hv.restW hTw9 hsum
        have cut107 : ∀ (kd8 : Int → Int) (on8 : Int → Int) (tw8 : Int → Int) (sg8 : Int → Int) (le8 : Int → Int) (de8 : Int → Int) (so8 : Int → Int) (mr8 : Int) (R8 : Int → Rl) (x : Int), (OpInv (prs rd) R ro mr mrm (k + 1) (s + pd + 1) R8 (up ro9 k x) mr8) → (MT kd8 on8 tw8 sg8 le8 de8 so8 mr8 R8) → (Cov R8 b mr8 (seg (rw_ R8 (up ro9 k x)) 0 (k + 1) ++ seg (rw_ R ro) (s + pd + 1) mrm)) → G g E 6 0 0 [(wMo g mo mst mac mmk mr8 mrd mrm mcm mtp msz mtk mbg men mls mvl mft mfp mfk mdp mto), (wMTab g mo kd8 on8 tw8 sg8 le8 de8 so8), (wMRow g mo ro9)] 107 [(0, .ref (mo 0)), (1, .int (iI rd)), (2, .int (iI k)), (3, .int (iI s)), (4, .int (iI pd))] [.int (iI x)] := by
          intro kd8 on8 tw8 sg8 le8 de8 so8 mr8 R8 x hv2 hT8 hco2
          have hT92 := hT8
          refine r_istore 109 hE [(5, .int (iI x)), (0, .ref (mo 0)), (1, .int (iI rd)), (2, .int (iI k)), (3, .int (iI s)), (4, .int (iI pd))] dX9_pairs_107 rfl (by decide) rfl ?_
          refine r_aload_n 110 hE 1 dX9_pairs_109 rfl rfl rfl ?_
          refine r_get 113 hE 0 0 ok9 14 dX9_pairs_110 rfl wd_1066 rfl rfl (by decide) rfl ?_
          refine r_iload_n 114 hE 3 dX9_pairs_113 rfl rfl rfl ?_
          refine r_iload 116 hE 0 dX9_pairs_114 rfl rfl ?_
          refine r_iast 117 hE 2 0 (wMRow g mo (up ro9 k x)) [(wMo g mo mst mac mmk mr8 mrd mrm mcm mtp msz mtk mbg men mls mvl mft mfp mfk mdp mto), (wMTab g mo kd8 on8 tw8 sg8 le8 de8 so8), (wMRow g mo (up ro9 k x))] dX9_pairs_116 rfl rfl rfl (by omega) rfl rfl ?_
          refine r_iinc 120 hE 3 (k + 1) [(2, .int (iI (k + 1))), (5, .int (iI x)), (0, .ref (mo 0)), (1, .int (iI rd)), (3, .int (iI s)), (4, .int (iI pd))] dX9_pairs_117 rfl rfl rfl (by decide) rfl ?_
          refine r_iload_n 121 hE 4 dX9_pairs_120 rfl rfl rfl ?_
          refine r_iload 123 hE 5 dX9_pairs_121 rfl rfl ?_
          refine r_if_eq 126 130 hE dX9_pairs_123 rfl (by decide) (by omega) (fun c123 => ?_) (fun c123 => ?_)
          · skip
            rw [show s + pd + 1 = s + 1 by omega] at hv2 hco2
            refine r_iconst 131 hE dX9_pairs_130 rfl ?_
            refine r_iadd 132 hE (s + 0) dX9_pairs_131 rfl rfl ?_
            refine r_istore_n 133 hE [(3, .int (iI (s + 0))), (2, .int (iI (k + 1))), (5, .int (iI x)), (0, .ref (mo 0)), (1, .int (iI rd)), (4, .int (iI pd))] dX9_pairs_132 rfl rfl (by decide) rfl ?_
            refine r_iinc 136 hE 0 (s + 1) [(3, .int (iI (s + 1))), (2, .int (iI (k + 1))), (5, .int (iI x)), (0, .ref (mo 0)), (1, .int (iI rd)), (4, .int (iI pd))] dX9_pairs_133 rfl rfl (by omega) (by decide) rfl ?_
            refine r_goto 4 hE dX9_pairs_136 (by decide) ?_
            refine G.to (fs' := [(wMo g mo mst mac mmk mr8 mrd mrm mcm mtp msz mtk mbg men mls mvl mft mfp mfk mdp mto), (wMTab g mo kd8 on8 tw8 sg8 le8 de8 so8), (wMRow g mo (up ro9 k x))]) (lv' := [(0, .ref (mo 0)), (1, .int (iI rd)), (2, .int (iI (k + 1))), (3, .int (iI (s + 1)))]) [0, 1, 2] [3, 4, 1, 0] rfl rfl rfl ?_
            exact ih4 kd8 on8 tw8 sg8 le8 de8 so8 mr8 _ (up ro9 k x) (k + 1) (s + 1) (hv2) (hT92) (hco2) (by omega)
          · skip
            rw [show s + pd + 1 = s + 2 by omega] at hv2 hco2
            refine r_iconst 127 hE dX9_pairs_126 rfl ?_
            refine r_goto 131 hE dX9_pairs_127 (by decide) ?_
            refine r_iadd 132 hE (s + 1) dX9_pairs_131 rfl rfl ?_
            refine r_istore_n 133 hE [(3, .int (iI (s + 1))), (2, .int (iI (k + 1))), (5, .int (iI x)), (0, .ref (mo 0)), (1, .int (iI rd)), (4, .int (iI pd))] dX9_pairs_132 rfl rfl (by decide) rfl ?_
            refine r_iinc 136 hE 0 (s + 2) [(3, .int (iI (s + 2))), (2, .int (iI (k + 1))), (5, .int (iI x)), (0, .ref (mo 0)), (1, .int (iI rd)), (4, .int (iI pd))] dX9_pairs_133 rfl rfl (by omega) (by decide) rfl ?_
            refine r_goto 4 hE dX9_pairs_136 (by decide) ?_
            refine G.to (fs' := [(wMo g mo mst mac mmk mr8 mrd mrm mcm mtp msz mtk mbg men mls mvl mft mfp mfk mdp mto), (wMTab g mo kd8 on8 tw8 sg8 le8 de8 so8), (wMRow g mo (up ro9 k x))]) (lv' := [(0, .ref (mo 0)), (1, .int (iI rd)), (2, .int (iI (k + 1))), (3, .int (iI (s + 2)))]) [0, 1, 2] [3, 4, 1, 0] rfl rfl rfl ?_
            exact ih4 kd8 on8 tw8 sg8 le8 de8 so8 mr8 _ (up ro9 k x) (k + 1) (s + 2) (hv2) (hT92) (hco2) (by omega)
        refine r_istore 74 hE [(4, .int (iI pd)), (0, .ref (mo 0)), (1, .int (iI rd)), (2, .int (iI k)), (3, .int (iI s))] dX9_pairs_72 rfl (by decide) rfl ?_
        refine r_iload 76 hE 0 dX9_pairs_74 rfl rfl ?_
        refine r_if_eq 79 101 hE dX9_pairs_76 rfl (by decide) (by omega) (fun c76 => ?_) (fun c76 => ?_)
        · skip
          have hpn : ¬ (s + 1 < mrm ∧ isP rd (rw_ R ro s) (rw_ R ro (s + 1))) := by rcases hp with z | z; omega; exact z.2
          have hp0 : pd = 0 := c76
          have hvb : OpInv (prs rd) R ro mr mrm (k + 1) (s + pd + 1) R9 (up ro9 k (ro9 s)) mr9 := by
            rw [hp0, Int.add_zero]
            exact hv.step (t := rw_ R ro s) (by omega) (by omega) (by omega) (fun _ _ _ => rfl) hRs (prs_no hlt hpn) (sumLen_seg1 hlt)
          have hcb : Cov R9 b mr9 (seg (rw_ R9 (up ro9 k (ro9 s))) 0 (k + 1) ++ seg (rw_ R ro) (s + pd + 1) mrm) := hco.step (t := rw_ R ro s) v1.1 hcov.1 (by omega) v5 (by omega) (Or.inl rfl) (fun _ _ _ => rfl) hRs (fun j x y => by rw [show j = s by omega]; exact Sub.self _)
          refine r_aload_n 102 hE 1 dX9_pairs_101 rfl rfl rfl ?_
          refine r_get 105 hE 0 0 ok9 14 dX9_pairs_102 rfl wd_1066 rfl rfl (by decide) rfl ?_
          refine r_iload_n 106 hE 4 dX9_pairs_105 rfl rfl rfl ?_
          refine r_iald 107 hE 2 0 dX9_pairs_106 rfl rfl rfl (by omega) ?_
          refine G.to (fs' := [(wMo g mo mst mac mmk mr9 mrd mrm mcm mtp msz mtk mbg men mls mvl mft mfp mfk mdp mto), (wMTab g mo kd9 on9 tw9 sg9 le9 de9 so9), (wMRow g mo ro9)]) (lv' := [(0, .ref (mo 0)), (1, .int (iI rd)), (2, .int (iI k)), (3, .int (iI s)), (4, .int (iI pd))]) [0, 1, 2] [1, 2, 3, 4, 0] rfl rfl rfl ?_
          exact cut107 kd9 on9 tw9 sg9 le9 de9 so9 mr9 _ (ro9 s) (by first | exact hva | exact hvb) (by first | exact h95_0 | exact hT9) (by first | exact hca | exact hcb)
        · skip
          have hpy : s + 1 < mrm ∧ isP rd (rw_ R ro s) (rw_ R ro (s + 1)) := by rcases hp with z | z; exact z.2; omega
          have hp1 : pd = 1 := by omega
          have hs1 := hin (s + 1) (by omega) (by omega)
          have hrs1 := v4 (s + 1) (by omega) (by omega)
          have hRs1 : R9 (ro9 (s + 1)) = rw_ R ro (s + 1) := by rw [hrs1]; exact v3 _ hs1.1 hs1.2
          refine r_aload_n 80 hE 1 dX9_pairs_79 rfl rfl rfl ?_
          refine r_iconst 81 hE dX9_pairs_80 rfl ?_
          refine r_aload_n 82 hE 1 dX9_pairs_81 rfl rfl rfl ?_
          refine r_get 85 hE 0 0 ok9 14 dX9_pairs_82 rfl wd_1066 rfl rfl (by decide) rfl ?_
          refine r_iload_n 86 hE 4 dX9_pairs_85 rfl rfl rfl ?_
          refine r_iald 87 hE 2 0 dX9_pairs_86 rfl rfl rfl (by omega) ?_
          refine r_aload_n 88 hE 1 dX9_pairs_87 rfl rfl rfl ?_
          refine r_get 91 hE 0 0 ok9 14 dX9_pairs_88 rfl wd_1066 rfl rfl (by decide) rfl ?_
          refine r_iload_n 92 hE 4 dX9_pairs_91 rfl rfl rfl ?_
          refine r_iconst 93 hE dX9_pairs_92 rfl ?_
          refine r_iadd 94 hE (s + 1) dX9_pairs_93 rfl rfl ?_
          refine r_iald 95 hE 2 0 dX9_pairs_94 rfl rfl rfl (by omega) ?_
          refine r_callV 98 hE [0, 1] [2] [(wMo g mo mst mac mmk mr9 mrd mrm mcm mtp msz mtk mbg men mls mvl mft mfp mfk mdp mto), (wMTab g mo kd9 on9 tw9 sg9 le9 de9 so9)] [(wMRow g mo ro9)] 0 9 ok9 [] (c_X9_ruleOf_1 (hT9) (⟨by omega, by show rlen (mkM R9 1 (ro9 s) (ro9 (s + 1))) ≤ 600; rw [mkM_1, hRs, hRs1]; have h7 := (seg_two (f := rw_ R ro) (s := s) (e := mrm) (by omega)).2; have h8 := tailW hTw hin (s := s + 2) (by omega); omega⟩) (by omega)) dX9_pairs_95 rfl rfl wd_1318 wd_1320 ws_76 wd_12 wd_1321 ne_X9 np_X9_ruleOf (Nat.le_of_ble_eq_true rfl)  (by decide) (by decide) rfl (Nat.le_of_ble_eq_true rfl) rfl rfl rfl rfl (by decide) rfl (fun v1 f1 hp => ?_)
          obtain ⟨kd9_95, on9_95, tw9_95, sg9_95, le9_95, de9_95, so9_95, mr9_95, R9_95, r_95, rfl, rfl, h95_0, h95_1, h95_2, h95_3, h95_4, h95_5⟩ := hp
          show G g E _ _ _ [(wMo g mo mst mac mmk mr9_95 mrd mrm mcm mtp msz mtk mbg men mls mvl mft mfp mfk mdp mto), (wMTab g mo kd9_95 on9_95 tw9_95 sg9_95 le9_95 de9_95 so9_95), (wMRow g mo ro9)] 98 [(4, .int (iI pd)), (0, .ref (mo 0)), (1, .int (iI rd)), (2, .int (iI k)), (3, .int (iI s))] [.int (iI r_95)]
          have hrt : R9_95 r_95 = rPair (rw_ R ro s) (rw_ R ro (s + 1)) := by rw [h95_4, mkM_1, hRs, hRs1]
          have hva : OpInv (prs rd) R ro mr mrm (k + 1) (s + pd + 1) R9_95 (up ro9 k r_95) mr9_95 := by
            rw [hp1, show s + 1 + 1 = s + 2 by omega]
            exact hv.step (t := rPair (rw_ R ro s) (rw_ R ro (s + 1))) (by omega) (by omega) h95_3 h95_2 hrt (prs_yes hpy.1 hpy.2) (seg_two hpy.1).2
          have hca : Cov R9_95 b mr9_95 (seg (rw_ R9_95 (up ro9 k r_95)) 0 (k + 1) ++ seg (rw_ R ro) (s + pd + 1) mrm) := hco.step (t := rPair (rw_ R ro s) (rw_ R ro (s + 1))) v1.1 hcov.1 (by omega) v5 (by omega) h95_5 h95_2 hrt (fun j x y => by by_cases z : j = s; (rw [z]; exact Sub.pair1 _ (Sub.self _)); (rw [show j = s + 1 by omega]; exact Sub.pair2 _ (Sub.self _)))
          refine r_goto 107 hE dX9_pairs_98 (by decide) ?_
          refine G.to (fs' := [(wMo g mo mst mac mmk mr9_95 mrd mrm mcm mtp msz mtk mbg men mls mvl mft mfp mfk mdp mto), (wMTab g mo kd9_95 on9_95 tw9_95 sg9_95 le9_95 de9_95 so9_95), (wMRow g mo ro9)]) (lv' := [(0, .ref (mo 0)), (1, .int (iI rd)), (2, .int (iI k)), (3, .int (iI s)), (4, .int (iI pd))]) [0, 1, 2] [1, 2, 3, 4, 0] rfl rfl rfl ?_
          exact cut107 kd9_95 on9_95 tw9_95 sg9_95 le9_95 de9_95 so9_95 mr9_95 _ r_95 (by first | exact hva | exact hvb) (by first | exact h95_0 | exact hT9) (by first | exact hca | exact hcb)
      refine r_iload_n 5 hE 3 dX9_pairs_4 rfl rfl rfl ?_
      refine r_aload_n 6 hE 0 dX9_pairs_5 rfl rfl rfl ?_
      refine r_get 9 hE 0 0 ok9 15 dX9_pairs_6 rfl wd_1067 rfl rfl (by decide) rfl ?_
      refine r_icmp_ge 12 139 hE dX9_pairs_9 rfl (by decide) (by omega) (fun c9 => ?_) (fun c9 => ?_)
      · skip
        refine r_aload_n 140 hE 0 dX9_pairs_139 rfl rfl rfl ?_
        refine r_iload_n 141 hE 2 dX9_pairs_140 rfl rfl rfl ?_
        refine r_put 144 hE 0 0 ok9 15 (wMo g mo mst mac mmk mr9 mrd k mcm mtp msz mtk mbg men mls mvl mft mfp mfk mdp mto) [(wMo g mo mst mac mmk mr9 mrd k mcm mtp msz mtk mbg men mls mvl mft mfp mfk mdp mto), (wMTab g mo kd9 on9 tw9 sg9 le9 de9 so9), (wMRow g mo ro9)] dX9_pairs_141 rfl wd_1067 rfl rfl (by decide) rfl rfl rfl (Nat.le_of_ble_eq_true rfl) rfl rfl ?_
        refine r_return hE hR [(wMo g mo mst mac mmk mr9 mrd k mcm mtp msz mtk mbg men mls mvl mft mfp mfk mdp mto), (wMTab g mo kd9 on9 tw9 sg9 le9 de9 so9), (wMRow g mo ro9)] dX9_pairs_144 (Nat.le_of_ble_eq_true rfl) (Nat.le_of_ble_eq_true rfl) rfl ?_
        have hse : s = mrm := by omega
        subst hse
        have hd := hv.done rfl (prs_nil rd)
        have hk1 : 1 ≤ k := by
          by_cases z : k = 0
          · subst z; have := hd.2; rw [seg_nil _ (by omega), sumLen_seg1 (by omega)] at this; have h9 := rlen_pos (hT.wf (hin 0 (by omega) (by omega))); have h8 := tailW hTw hin (s := 0 + 1) (by omega); have h7 : (0 : Int) = rlen (rw_ R ro 0) + sumLen (seg (rw_ R ro) (0 + 1) s) := this; have h6 : 1 ≤ rlen (rw_ R ro 0) := h9; omega
          · omega
        rw [seg_nil _ (Int.le_refl s), List.append_nil] at hco
        exact ⟨kd9, on9, tw9, sg9, le9, de9, so9, mr9, R9, ro9, k, rfl, rfl, hT9, by omega, v3, by omega, v5, hd.1, hd.2, hco⟩
      · skip
        have hs0 := hin s (by omega) (by omega)
        have hrs := v4 s (by omega) (by omega)
        have hRs : R9 (ro9 s) = rw_ R ro s := by rw [hrs]; exact v3 _ hs0.1 hs0.2
        refine r_iload_n 13 hE 3 dX9_pairs_12 rfl rfl rfl ?_
        refine r_iconst 14 hE dX9_pairs_13 rfl ?_
        refine r_iadd 15 hE (s + 1) dX9_pairs_14 rfl rfl ?_
        refine r_aload_n 16 hE 0 dX9_pairs_15 rfl rfl rfl ?_
        refine r_get 19 hE 0 0 ok9 15 dX9_pairs_16 rfl wd_1067 rfl rfl (by decide) rfl ?_
        refine r_icmp_ge 22 71 hE dX9_pairs_19 rfl (by decide) (by omega) (fun c19 => ?_) (fun c19 => ?_)
        · skip
          refine r_iconst 72 hE dX9_pairs_71 rfl ?_
          exact cut72 0 (by omega) (by first | exact Or.inr ⟨rfl, fun z => by omega⟩ | exact Or.inl ⟨rfl, by omega, Or.inl (by omega)⟩ | exact hpd)
        · skip
          have hs1 := hin (s + 1) (by omega) (by omega)
          have hrs1 := v4 (s + 1) (by omega) (by omega)
          have hRs1 : R9 (ro9 (s + 1)) = rw_ R ro (s + 1) := by rw [hrs1]; exact v3 _ hs1.1 hs1.2
          refine r_iload_n 23 hE 1 dX9_pairs_22 rfl rfl rfl ?_
          refine r_bipush 25 hE dX9_pairs_23 rfl (by decide) ?_
          refine r_icmp_ge 28 67 hE dX9_pairs_25 rfl (by decide) (by omega) (fun c25 => ?_) (fun c25 => ?_)
          · skip
            refine r_iconst 68 hE dX9_pairs_67 rfl ?_
            refine r_goto 72 hE dX9_pairs_68 (by decide) ?_
            exact cut72 1 (by omega) (by first | exact Or.inr ⟨rfl, fun z => by omega⟩ | exact Or.inl ⟨rfl, by omega, Or.inl (by omega)⟩ | exact hpd)
          · skip
            have hb : bt rd (rw_ R ro s) = andI (shrI (sg9 (ro9 s)) rd) 1 := by unfold bt; rw [← hRs, ← (hT9.2.1 (ro9 s) (by omega) (by omega)).2.1]; exact (bit_eq _ (by omega)).symm
            have ha0 := andI_1 (shrI (sg9 (ro9 s)) rd)
            refine r_aload_n 29 hE 0 dX9_pairs_28 rfl rfl rfl ?_
            refine r_get 32 hE 0 0 ok9 8 dX9_pairs_29 rfl wd_1060 rfl rfl (by decide) rfl ?_
            refine r_aload_n 33 hE 0 dX9_pairs_32 rfl rfl rfl ?_
            refine r_get 36 hE 0 0 ok9 14 dX9_pairs_33 rfl wd_1066 rfl rfl (by decide) rfl ?_
            refine r_iload_n 37 hE 3 dX9_pairs_36 rfl rfl rfl ?_
            refine r_iald 38 hE 2 0 dX9_pairs_37 rfl rfl rfl (by omega) ?_
            refine r_iald 39 hE 1 3 dX9_pairs_38 rfl rfl rfl (by omega) ?_
            refine r_iload_n 40 hE 1 dX9_pairs_39 rfl rfl rfl ?_
            refine r_ishr 41 hE dX9_pairs_40 rfl ?_
            refine r_iconst 42 hE dX9_pairs_41 rfl ?_
            refine r_iand 43 hE dX9_pairs_42 rfl ?_
            refine r_if_ne 46 71 hE dX9_pairs_43 rfl (by decide) (by omega) (fun c43 => ?_) (fun c43 => ?_)
            · skip
              have hpd : ((0 : Int) = 1 ∧ s + 1 < mrm ∧ isP rd (rw_ R ro s) (rw_ R ro (s + 1))) ∨ ((0 : Int) = 0 ∧ ¬ (s + 1 < mrm ∧ isP rd (rw_ R ro s) (rw_ R ro (s + 1)))) := Or.inr ⟨rfl, fun z => by rcases z.2 with z | z; omega; exact c43 (by rw [← hb]; exact z.1)⟩
              refine r_iconst 72 hE dX9_pairs_71 rfl ?_
              exact cut72 0 (by omega) (by first | exact Or.inr ⟨rfl, fun z => by omega⟩ | exact Or.inl ⟨rfl, by omega, Or.inl (by omega)⟩ | exact hpd)
            · skip
              have hb1 : bt rd (rw_ R ro (s + 1)) = andI (shrI (sg9 (ro9 (s + 1))) rd) 1 := by unfold bt; rw [← hRs1, ← (hT9.2.1 (ro9 (s + 1)) (by omega) (by omega)).2.1]; exact (bit_eq _ (by omega)).symm
              have ha1 := andI_1 (shrI (sg9 (ro9 (s + 1))) rd)
              refine r_aload_n 47 hE 0 dX9_pairs_46 rfl rfl rfl ?_
              refine r_get 50 hE 0 0 ok9 8 dX9_pairs_47 rfl wd_1060 rfl rfl (by decide) rfl ?_
              refine r_aload_n 51 hE 0 dX9_pairs_50 rfl rfl rfl ?_
              refine r_get 54 hE 0 0 ok9 14 dX9_pairs_51 rfl wd_1066 rfl rfl (by decide) rfl ?_
              refine r_iload_n 55 hE 3 dX9_pairs_54 rfl rfl rfl ?_
              refine r_iconst 56 hE dX9_pairs_55 rfl ?_
              refine r_iadd 57 hE (s + 1) dX9_pairs_56 rfl rfl ?_
              refine r_iald 58 hE 2 0 dX9_pairs_57 rfl rfl rfl (by omega) ?_
              refine r_iald 59 hE 1 3 dX9_pairs_58 rfl rfl rfl (by omega) ?_
              refine r_iload_n 60 hE 1 dX9_pairs_59 rfl rfl rfl ?_
              refine r_ishr 61 hE dX9_pairs_60 rfl ?_
              refine r_iconst 62 hE dX9_pairs_61 rfl ?_
              refine r_iand 63 hE dX9_pairs_62 rfl ?_
              refine r_iconst 64 hE dX9_pairs_63 rfl ?_
              refine r_icmp_ne 67 71 hE dX9_pairs_64 rfl (by decide) (by omega) (fun c64 => ?_) (fun c64 => ?_)
              · skip
                have hpd : ((0 : Int) = 1 ∧ s + 1 < mrm ∧ isP rd (rw_ R ro s) (rw_ R ro (s + 1))) ∨ ((0 : Int) = 0 ∧ ¬ (s + 1 < mrm ∧ isP rd (rw_ R ro s) (rw_ R ro (s + 1)))) := Or.inr ⟨rfl, fun z => by rcases z.2 with z | z; omega; exact c64 (by rw [← hb1]; exact z.2)⟩
                refine r_iconst 72 hE dX9_pairs_71 rfl ?_
                exact cut72 0 (by omega) (by first | exact Or.inr ⟨rfl, fun z => by omega⟩ | exact Or.inl ⟨rfl, by omega, Or.inl (by omega)⟩ | exact hpd)
              · skip
                have hpd : ((1 : Int) = 1 ∧ s + 1 < mrm ∧ isP rd (rw_ R ro s) (rw_ R ro (s + 1))) ∨ ((1 : Int) = 0 ∧ ¬ (s + 1 < mrm ∧ isP rd (rw_ R ro s) (rw_ R ro (s + 1)))) := Or.inl ⟨rfl, by omega, Or.inr ⟨by rw [hb]; exact c43, by rw [hb1]; exact c64⟩⟩
                refine r_iconst 68 hE dX9_pairs_67 rfl ?_
                refine r_goto 72 hE dX9_pairs_68 (by decide) ?_
                exact cut72 1 (by omega) (by first | exact Or.inr ⟨rfl, fun z => by omega⟩ | exact Or.inl ⟨rfl, by omega, Or.inl (by omega)⟩ | exact hpd)
  refine r_iconst 1 hE dX9_pairs_0 rfl ?_
  refine r_istore_n 2 hE [(2, .int (iI 0)), (0, .ref (mo 0)), (1, .int (iI rd))] dX9_pairs_1 rfl rfl (by decide) rfl ?_
  refine r_iconst 3 hE dX9_pairs_2 rfl ?_
  refine r_istore_n 4 hE [(3, .int (iI 0)), (2, .int (iI 0)), (0, .ref (mo 0)), (1, .int (iI rd))] dX9_pairs_3 rfl rfl (by decide) rfl ?_
  refine G.to (fs' := [(wMo g mo mst mac mmk mr mrd mrm mcm mtp msz mtk mbg men mls mvl mft mfp mfk mdp mto), (wMTab g mo kd on tw sg le de so), (wMRow g mo ro)]) (lv' := [(0, .ref (mo 0)), (1, .int (iI rd)), (2, .int (iI 0)), (3, .int (iI 0))]) [0, 1, 2] [2, 3, 1, 0] rfl rfl rfl ?_
  exact cut4 _ kd on tw sg le de so mr _ ro 0 0 (hv2) (hT92) (hco2) (Nat.lt_succ_self _)
