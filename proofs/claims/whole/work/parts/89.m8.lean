set_option maxHeartbeats 4000000 in
set_option maxRecDepth 100000 in
theorem c_X9_lays {g : Gm} {mo : Nat → Nat} {mst mac mmk mr mrd mrm mcm mtp msz mtk mbg men mls mvl mft mfp mfk mdp mto : Int} {al : Int → Int} {kd on tw sg le de so : Int → Int} {R : Int → Rl} {ro : Int → Int} {pc c : Int} (hT : MT kd on tw sg le de so mr R) (hpc : 0 ≤ pc ∧ pc ≤ 61917) (hc : 1 ≤ c ∧ c ≤ 600) (hf : ∀ k, 0 ≤ k → k < c → 0 ≤ al (pc + k) ∧ al (pc + k) ≤ 25) (hroom : mr + 626 ≤ 10400) : Ct g 3 0 0 yX9_lays cX9_lays 4 (some .int) [.ref (mo 0), .int (iI pc), .int (iI c)] [(wMo g mo mst mac mmk mr mrd mrm mcm mtp msz mtk mbg men mls mvl mft mfp mfk mdp mto), (wMTab g mo kd on tw sg le de so), (wMRow g mo ro), (wMAll g mo al)] (fun v_ w_ => ∃ kd9 : Int → Int, ∃ on9 : Int → Int, ∃ tw9 : Int → Int, ∃ sg9 : Int → Int, ∃ le9 : Int → Int, ∃ de9 : Int → Int, ∃ so9 : Int → Int, ∃ mr9 : Int, ∃ R9 : Int → Rl, ∃ ro9 : Int → Int, ∃ mrd9 : Int, ∃ mrm9 : Int, ∃ r : Int, v_ = some (.int (iI r)) ∧ w_ = [(wMo g mo mst mac mmk mr9 mrd9 mrm9 mcm mtp msz mtk mbg men mls mvl mft mfp mfk mdp mto), (wMTab g mo kd9 on9 tw9 sg9 le9 de9 so9), (wMRow g mo ro9), (wMAll g mo al)] ∧ (MT kd9 on9 tw9 sg9 le9 de9 so9 mr9 R9) ∧ (mr ≤ mr9 ∧ mr9 ≤ mr + 625) ∧ (∀ i, 0 ≤ i → i < mr → R9 i = R i) ∧ (0 ≤ r ∧ r < mr9) ∧ (BIs (lts al pc c) (R9 r) mrd9) ∧ (∀ i, mr ≤ i → i < mr9 → Sub (R9 i) (R9 r)) ∧ (0 ≤ mrd9 ∧ mrd9 ≤ 100)) := by
  refine Ct.of (by decide) (Nat.le_of_ble_eq_true rfl) (lv := [(0, .ref (mo 0)), (1, .int (iI pc)), (2, .int (iI c))]) rfl ?_
  intro E hE hR hnm
  have hcn := hT.1
  have cut43 : ∀ (N : Nat) (kd9 : Int → Int) (on9 : Int → Int) (tw9 : Int → Int) (sg9 : Int → Int) (le9 : Int → Int) (de9 : Int → Int) (so9 : Int → Int) (mr9 : Int) (R9 : Int → Rl) (ro9 : Int → Int) (mrd9 : Int) (mrm9 : Int), (MT kd9 on9 tw9 sg9 le9 de9 so9 mr9 R9) → (∀ i, 0 ≤ i → i < mr → R9 i = R i) → (1 ≤ mrm9 ∧ mrm9 ≤ c) → (mr ≤ mr9 ∧ mr9 + mrm9 ≤ mr + 26 + c) → (∀ k, 0 ≤ k → k < mrm9 → 0 ≤ ro9 k ∧ ro9 k < mr9) → (sumLen (seg (rw_ R9 ro9) 0 mrm9) = c) → (BTo (lts al pc c) mrd9 (seg (rw_ R9 ro9) 0 mrm9)) → (Cov R9 mr mr9 (seg (rw_ R9 ro9) 0 mrm9)) → (0 ≤ mrd9 ∧ (mrd9 ≤ 31 ∨ hb_ mrm9 mrd9 ∨ (mrm9 ≤ 1 ∧ mrd9 ≤ 64))) → ((31 - min mrd9 31) * 1000 + mrm9).toNat < N → G g E 4 0 0 [(wMo g mo mst mac mmk mr9 mrd9 mrm9 mcm mtp msz mtk mbg men mls mvl mft mfp mfk mdp mto), (wMTab g mo kd9 on9 tw9 sg9 le9 de9 so9), (wMRow g mo ro9), (wMAll g mo al)] 43 [(0, .ref (mo 0)), (1, .int (iI pc)), (2, .int (iI c))] [] := by
    intro N
    induction N with
    | zero => intro kd9 on9 tw9 sg9 le9 de9 so9 mr9 R9 ro9 mrd9 mrm9 _ _ _ _ _ _ _ _ _ hN; exact absurd hN (Nat.not_lt_zero _)
    | succ N ih43 =>
      intro kd9 on9 tw9 sg9 le9 de9 so9 mr9 R9 ro9 mrd9 mrm9 hT9 hag hz hmr hin hsl hbl hco hrr hN
      have hcn9 := hT9.1
      have hrr1 : mrd9 ≤ 100 := by rcases hrr.2 with z | z | z; omega; (have := z.2.1; omega); omega
      have cut64 : ∀ (kd8 : Int → Int) (on8 : Int → Int) (tw8 : Int → Int) (sg8 : Int → Int) (le8 : Int → Int) (de8 : Int → Int) (so8 : Int → Int) (mr8 : Int) (R8 : Int → Rl) (ro8 : Int → Int) (mrm8 : Int), (MT kd8 on8 tw8 sg8 le8 de8 so8 mr8 R8) → (∀ i, 0 ≤ i → i < mr → R8 i = R i) → (1 ≤ mrm8 ∧ mrm8 ≤ mrm9) → (mr ≤ mr8 ∧ mr8 + mrm8 ≤ mr + 26 + c) → (∀ k, 0 ≤ k → k < mrm8 → 0 ≤ ro8 k ∧ ro8 k < mr8) → (sumLen (seg (rw_ R8 ro8) 0 mrm8) = c) → (Cov R8 mr mr8 (seg (rw_ R8 ro8) 0 mrm8)) → (1 < mrm9) → ((mrd9 < 31 ∧ seg (rw_ R8 ro8) 0 mrm8 = gather (seg (rw_ R9 ro9) 0 mrm9)) ∨ (31 ≤ mrd9 ∧ mrm8 = mrm9 ∧ seg (rw_ R8 ro8) 0 mrm8 = seg (rw_ R9 ro9) 0 mrm9)) → G g E 4 0 0 [(wMo g mo mst mac mmk mr8 mrd9 mrm8 mcm mtp msz mtk mbg men mls mvl mft mfp mfk mdp mto), (wMTab g mo kd8 on8 tw8 sg8 le8 de8 so8), (wMRow g mo ro8), (wMAll g mo al)] 64 [(0, .ref (mo 0)), (1, .int (iI pc)), (2, .int (iI c))] [] := by
        intro kd8 on8 tw8 sg8 le8 de8 so8 mr8 R8 ro8 mrm8 hTx hagx hzx hmrx hinx hslx hcox hgt hsx
        have hcn8 := hTx.1
        refine r_aload_n 65 hE 0 dX9_lays_64 rfl rfl rfl ?_
        refine r_aload_n 66 hE 0 dX9_lays_65 rfl rfl rfl ?_
        refine r_get 69 hE 0 0 ok9 13 dX9_lays_66 rfl wd_1065 rfl rfl (by decide) rfl ?_
        refine r_callV 72 hE [0, 1, 2] [3] [(wMo g mo mst mac mmk mr8 mrd9 mrm8 mcm mtp msz mtk mbg men mls mvl mft mfp mfk mdp mto), (wMTab g mo kd8 on8 tw8 sg8 le8 de8 so8), (wMRow g mo ro8)] [(wMAll g mo al)] 0 9 ok9 [] (c_X9_pairs (hTx) (hinx) (by omega) (by rw [hslx]; omega) (by omega) (⟨hcn.1, hcox⟩) (by omega)) dX9_lays_69 rfl rfl wd_1330 wd_1332 ws_78 wd_12 wd_1333 ne_X9 np_X9_pairs (Nat.le_of_ble_eq_true rfl)  (by decide) (by decide) rfl (Nat.le_of_ble_eq_true rfl) rfl rfl rfl rfl (by decide) rfl (fun v1 f1 hp => ?_)
        obtain ⟨kd9_69, on9_69, tw9_69, sg9_69, le9_69, de9_69, so9_69, mr9_69, R9_69, ro9_69, n9_69, rfl, rfl, h69_0, h69_1, h69_2, h69_3, h69_4, h69_5, h69_6, h69_7⟩ := hp
        show G g E _ _ _ [(wMo g mo mst mac mmk mr9_69 mrd9 n9_69 mcm mtp msz mtk mbg men mls mvl mft mfp mfk mdp mto), (wMTab g mo kd9_69 on9_69 tw9_69 sg9_69 le9_69 de9_69 so9_69), (wMRow g mo ro9_69), (wMAll g mo al)] 72 [(0, .ref (mo 0)), (1, .int (iI pc)), (2, .int (iI c))] []
        have hag3 : ∀ j, 0 ≤ j → j < mr → R9_69 j = R j := fun j a b => by rw [h69_2 j a (by omega)]; exact hagx j a b
        have hsl2 : sumLen (seg (rw_ R9_69 ro9_69) 0 n9_69) = c := by rw [h69_6]; exact hslx
        have hbl2 : BTo (lts al pc c) (mrd9 + 1) (seg (rw_ R9_69 ro9_69) 0 n9_69) := by
          have h9 := hbl.step (by rw [seg_len]; omega)
          rw [rnd_prs] at h9
          rw [h69_5]
          rcases hsx with z | z
          · rw [if_pos z.1] at h9; rw [z.2]; exact h9
          · rw [if_neg (by omega)] at h9; rw [z.2.2]; exact h9
        have hrr2 : 0 ≤ mrd9 + 1 ∧ (mrd9 + 1 ≤ 31 ∨ hb_ n9_69 (mrd9 + 1) ∨ (n9_69 ≤ 1 ∧ mrd9 + 1 ≤ 64)) := by
          refine ⟨by omega, ?_⟩
          by_cases z : mrd9 < 31
          · exact Or.inl (by omega)
          · have hlen := prs_len (r := mrd9) (by omega) (by omega) h69_5
            have hsz8 : mrm8 = mrm9 := by rcases hsx with w | w; omega; exact w.2.1
            rw [hsz8] at hlen
            rcases hrr.2 with w | w | w
            · right; left; rw [show mrd9 = 31 by omega]; exact hb_step (hb_start (by omega)) hgt hlen
            · right; left; exact hb_step w hgt hlen
            · omega
        have hdec : mrd9 < 31 ∨ n9_69 < mrm9 := by
          by_cases z : mrd9 < 31
          · exact Or.inl z
          · right
            have hlen := prs_len (r := mrd9) (by omega) (by omega) h69_5
            have hsz8 : mrm8 = mrm9 := by rcases hsx with w | w; omega; exact w.2.1
            omega
        refine r_aload_n 73 hE 0 dX9_lays_72 rfl rfl rfl ?_
        refine r_dup 74 hE dX9_lays_73 rfl rfl ?_
        refine r_get 77 hE 0 0 ok9 13 dX9_lays_74 rfl wd_1065 rfl rfl (by decide) rfl ?_
        refine r_iconst 78 hE dX9_lays_77 rfl ?_
        refine r_iadd 79 hE (mrd9 + 1) dX9_lays_78 rfl rfl ?_
        refine r_put 82 hE 0 0 ok9 13 (wMo g mo mst mac mmk mr9_69 (mrd9 + 1) n9_69 mcm mtp msz mtk mbg men mls mvl mft mfp mfk mdp mto) [(wMo g mo mst mac mmk mr9_69 (mrd9 + 1) n9_69 mcm mtp msz mtk mbg men mls mvl mft mfp mfk mdp mto), (wMTab g mo kd9_69 on9_69 tw9_69 sg9_69 le9_69 de9_69 so9_69), (wMRow g mo ro9_69), (wMAll g mo al)] dX9_lays_79 rfl wd_1065 rfl rfl (by decide) rfl rfl rfl (Nat.le_of_ble_eq_true rfl) rfl rfl ?_
        refine r_goto 43 hE dX9_lays_82 (by decide) ?_
        exact ih43 kd9_69 on9_69 tw9_69 sg9_69 le9_69 de9_69 so9_69 mr9_69 _ ro9_69 (mrd9 + 1) n9_69 (by first | exact h69_0 | exact hT9) (by first | exact hag3 | exact hag) (by omega) (by omega) (by first | exact h69_4 | exact (fun k a b => (hL.1 k a (by omega)).1)) (by first | exact hsl2 | exact hsl3) (by first | exact hbl2 | exact hbl3) (by first | exact h69_7 | exact hco3) (by first | exact hrr2 | omega) (by omega)
      refine r_aload_n 44 hE 0 dX9_lays_43 rfl rfl rfl ?_
      refine r_get 47 hE 0 0 ok9 15 dX9_lays_44 rfl wd_1067 rfl rfl (by decide) rfl ?_
      refine r_iconst 48 hE dX9_lays_47 rfl ?_
      refine r_icmp_le 51 85 hE dX9_lays_48 rfl (by decide) (by omega) (fun c48 => ?_) (fun c48 => ?_)
      · skip
        refine r_aload_n 86 hE 0 dX9_lays_85 rfl rfl rfl ?_
        refine r_get 89 hE 0 0 ok9 14 dX9_lays_86 rfl wd_1066 rfl rfl (by decide) rfl ?_
        refine r_iconst 90 hE dX9_lays_89 rfl ?_
        refine r_iald 91 hE 2 0 dX9_lays_90 rfl rfl rfl (by omega) ?_
        refine r_ireturn hE hR [(wMo g mo mst mac mmk mr9 mrd9 mrm9 mcm mtp msz mtk mbg men mls mvl mft mfp mfk mdp mto), (wMTab g mo kd9 on9 tw9 sg9 le9 de9 so9), (wMRow g mo ro9), (wMAll g mo al)] dX9_lays_91 (Nat.le_of_ble_eq_true rfl) (Nat.le_of_ble_eq_true rfl) rfl ?_
        have hz1 : mrm9 = 1 := by omega
        subst hz1
        have h0 := hin 0 (by omega) (by omega)
        have hs1 : seg (rw_ R9 ro9) 0 1 = [R9 (ro9 0)] := by rw [seg_cons _ (by omega), seg_nil _ (by omega)]; rfl
        rw [hs1] at hbl hco
        exact ⟨kd9, on9, tw9, sg9, le9, de9, so9, mr9, R9, ro9, mrd9, 1, ro9 0, rfl, rfl, hT9, by omega, hag, h0, hbl.done, hco.top, by omega⟩
      · skip
        refine r_aload_n 52 hE 0 dX9_lays_51 rfl rfl rfl ?_
        refine r_get 55 hE 0 0 ok9 13 dX9_lays_52 rfl wd_1065 rfl rfl (by decide) rfl ?_
        refine r_bipush 57 hE dX9_lays_55 rfl (by decide) ?_
        refine r_icmp_ge 60 64 hE dX9_lays_57 rfl (by decide) (by omega) (fun c57 => ?_) (fun c57 => ?_)
        · skip
          exact cut64 kd9 on9 tw9 sg9 le9 de9 so9 mr9 _ ro9 mrm9 (by first | exact h61_0 | exact hT9) (by first | exact hag4 | exact hag) (by omega) (by omega) (by first | exact h61_4 | exact hin) (by first | (rw [h61_6]; exact hsl) | exact hsl) (by first | exact h61_7 | exact hco) (by omega) (by first | exact Or.inl ⟨by omega, h61_5⟩ | exact Or.inr ⟨by omega, rfl, rfl⟩)
        · skip
          refine r_aload_n 61 hE 0 dX9_lays_60 rfl rfl rfl ?_
          refine r_callV 64 hE [0, 1, 2] [3] [(wMo g mo mst mac mmk mr9 mrd9 mrm9 mcm mtp msz mtk mbg men mls mvl mft mfp mfk mdp mto), (wMTab g mo kd9 on9 tw9 sg9 le9 de9 so9), (wMRow g mo ro9)] [(wMAll g mo al)] 0 9 ok9 [] (c_X9_runs (hT9) (hin) (by omega) (by rw [hsl]; omega) (by omega) (⟨hcn.1, hco⟩)) dX9_lays_61 rfl rfl wd_1326 wd_1328 ws_77 wd_12 wd_1329 ne_X9 np_X9_runs (Nat.le_of_ble_eq_true rfl)  (by decide) (by decide) rfl (Nat.le_of_ble_eq_true rfl) rfl rfl rfl rfl (by decide) rfl (fun v1 f1 hp => ?_)
          obtain ⟨kd9_61, on9_61, tw9_61, sg9_61, le9_61, de9_61, so9_61, mr9_61, R9_61, ro9_61, n9_61, rfl, rfl, h61_0, h61_1, h61_2, h61_3, h61_4, h61_5, h61_6, h61_7⟩ := hp
          show G g E _ _ _ [(wMo g mo mst mac mmk mr9_61 mrd9 n9_61 mcm mtp msz mtk mbg men mls mvl mft mfp mfk mdp mto), (wMTab g mo kd9_61 on9_61 tw9_61 sg9_61 le9_61 de9_61 so9_61), (wMRow g mo ro9_61), (wMAll g mo al)] 64 [(0, .ref (mo 0)), (1, .int (iI pc)), (2, .int (iI c))] []
          have hag4 : ∀ j, 0 ≤ j → j < mr → R9_61 j = R j := fun j a b => by rw [h61_2 j a (by omega)]; exact hag j a b
          exact cut64 kd9_61 on9_61 tw9_61 sg9_61 le9_61 de9_61 so9_61 mr9_61 _ ro9_61 n9_61 (by first | exact h61_0 | exact hT9) (by first | exact hag4 | exact hag) (by omega) (by omega) (by first | exact h61_4 | exact hin) (by first | (rw [h61_6]; exact hsl) | exact hsl) (by first | exact h61_7 | exact hco) (by omega) (by first | exact Or.inl ⟨by omega, h61_5⟩ | exact Or.inr ⟨by omega, rfl, rfl⟩)
  have cut7 : ∀ (N : Nat) (kd9 : Int → Int) (on9 : Int → Int) (tw9 : Int → Int) (sg9 : Int → Int) (le9 : Int → Int) (de9 : Int → Int) (so9 : Int → Int) (mr9 : Int) (R9 : Int → Rl) (ro9 : Int → Int) (i : Int), (MT kd9 on9 tw9 sg9 le9 de9 so9 mr9 R9) → (∀ i, 0 ≤ i → i < mr → R9 i = R i) → (0 ≤ i ∧ i ≤ c) → (mr ≤ mr9) → (LetIn al pc mr R9 ro9 mr9 i) → (c - i).toNat < N → G g E 4 0 0 [(wMo g mo mst mac mmk mr9 mrd c mcm mtp msz mtk mbg men mls mvl mft mfp mfk mdp mto), (wMTab g mo kd9 on9 tw9 sg9 le9 de9 so9), (wMRow g mo ro9), (wMAll g mo al)] 7 [(0, .ref (mo 0)), (1, .int (iI pc)), (2, .int (iI c)), (3, .int (iI i))] [] := by
    intro N
    induction N with
    | zero => intro kd9 on9 tw9 sg9 le9 de9 so9 mr9 R9 ro9 i _ _ _ _ _ hN; exact absurd hN (Nat.not_lt_zero _)
    | succ N ih7 =>
      intro kd9 on9 tw9 sg9 le9 de9 so9 mr9 R9 ro9 i hT9 hag hi hmr hL hN
      have h26 := let26 hcn.1 hT9.2.2.1 hL.2.1
      refine r_iload_n 8 hE 3 dX9_lays_7 rfl rfl rfl ?_
      refine r_iload_n 9 hE 2 dX9_lays_8 rfl rfl rfl ?_
      refine r_icmp_ge 12 38 hE dX9_lays_9 rfl (by decide) (by omega) (fun c9 => ?_) (fun c9 => ?_)
      · skip
        have hic : i = c := by omega
        rw [hic] at hL
        have heq := hL.seg
        have hsl3 : sumLen (seg (rw_ R9 ro9) 0 c) = c := by rw [heq]; exact lts_sum al pc (by omega)
        have hbl3 : BTo (lts al pc c) 0 (seg (rw_ R9 ro9) 0 c) := by rw [heq]; exact BTo.start _
        have hco3 := hL.2.2
        refine r_aload_n 39 hE 0 dX9_lays_38 rfl rfl rfl ?_
        refine r_iconst 40 hE dX9_lays_39 rfl ?_
        refine r_put 43 hE 0 0 ok9 13 (wMo g mo mst mac mmk mr9 0 c mcm mtp msz mtk mbg men mls mvl mft mfp mfk mdp mto) [(wMo g mo mst mac mmk mr9 0 c mcm mtp msz mtk mbg men mls mvl mft mfp mfk mdp mto), (wMTab g mo kd9 on9 tw9 sg9 le9 de9 so9), (wMRow g mo ro9), (wMAll g mo al)] dX9_lays_40 rfl wd_1065 rfl rfl (by decide) rfl rfl rfl (Nat.le_of_ble_eq_true rfl) rfl rfl ?_
        refine G.to (fs' := [(wMo g mo mst mac mmk mr9 0 c mcm mtp msz mtk mbg men mls mvl mft mfp mfk mdp mto), (wMTab g mo kd9 on9 tw9 sg9 le9 de9 so9), (wMRow g mo ro9), (wMAll g mo al)]) (lv' := [(0, .ref (mo 0)), (1, .int (iI pc)), (2, .int (iI c))]) [0, 1, 2, 3] [0, 1, 2] rfl rfl rfl ?_
        exact cut43 _ kd9 on9 tw9 sg9 le9 de9 so9 mr9 _ ro9 0 c (by first | exact h69_0 | exact hT9) (by first | exact hag3 | exact hag) (by omega) (by omega) (by first | exact h69_4 | exact (fun k a b => (hL.1 k a (by omega)).1)) (by first | exact hsl2 | exact hsl3) (by first | exact hbl2 | exact hbl3) (by first | exact h69_7 | exact hco3) (by first | exact hrr2 | omega) (Nat.lt_succ_self _)
      · skip
        refine r_aload_n 13 hE 0 dX9_lays_12 rfl rfl rfl ?_
        refine r_get 16 hE 0 0 ok9 14 dX9_lays_13 rfl wd_1066 rfl rfl (by decide) rfl ?_
        refine r_iload_n 17 hE 3 dX9_lays_16 rfl rfl rfl ?_
        refine r_aload_n 18 hE 0 dX9_lays_17 rfl rfl rfl ?_
        refine r_iconst 19 hE dX9_lays_18 rfl ?_
        refine r_aload_n 20 hE 0 dX9_lays_19 rfl rfl rfl ?_
        refine r_get 23 hE 0 0 ok9 0 dX9_lays_20 rfl wd_1052 rfl rfl (by decide) rfl ?_
        refine r_iload_n 24 hE 1 dX9_lays_23 rfl rfl rfl ?_
        refine r_iload_n 25 hE 3 dX9_lays_24 rfl rfl rfl ?_
        refine r_iadd 26 hE (pc + i) dX9_lays_25 rfl rfl ?_
        refine r_iald 27 hE 3 0 dX9_lays_26 rfl rfl rfl (by omega) ?_
        refine r_iconst 28 hE dX9_lays_27 rfl ?_
        refine r_callV 31 hE [0, 1] [2, 3] [(wMo g mo mst mac mmk mr9 mrd c mcm mtp msz mtk mbg men mls mvl mft mfp mfk mdp mto), (wMTab g mo kd9 on9 tw9 sg9 le9 de9 so9)] [(wMRow g mo ro9), (wMAll g mo al)] 0 9 ok9 [.int (iI i), .ref (mo 10)] (c_X9_ruleOf_0 (hT9) (⟨by have := hf i hi.1 (by omega); omega, by rw [mkM_0]; show (1 : Int) ≤ 600; omega⟩) (by omega)) dX9_lays_28 rfl rfl wd_1318 wd_1320 ws_76 wd_12 wd_1321 ne_X9 np_X9_ruleOf (Nat.le_of_ble_eq_true rfl)  (by decide) (by decide) rfl (Nat.le_of_ble_eq_true rfl) rfl rfl rfl rfl (by decide) rfl (fun v1 f1 hp => ?_)
        obtain ⟨kd9_28, on9_28, tw9_28, sg9_28, le9_28, de9_28, so9_28, mr9_28, R9_28, r_28, rfl, rfl, h28_0, h28_1, h28_2, h28_3, h28_4, h28_5⟩ := hp
        show G g E _ _ _ [(wMo g mo mst mac mmk mr9_28 mrd c mcm mtp msz mtk mbg men mls mvl mft mfp mfk mdp mto), (wMTab g mo kd9_28 on9_28 tw9_28 sg9_28 le9_28 de9_28 so9_28), (wMRow g mo ro9), (wMAll g mo al)] 31 [(0, .ref (mo 0)), (1, .int (iI pc)), (2, .int (iI c)), (3, .int (iI i))] [.int (iI r_28), .int (iI i), .ref (mo 10)]
        have hag2 : ∀ j, 0 ≤ j → j < mr → R9_28 j = R j := fun j a b => by rw [h28_2 j a (by omega)]; exact hag j a b
        have hL2 := hL.step hi.1 hcn.1 (hf i hi.1 (by omega)) h28_1 h28_2 h28_3 h28_4 h28_5
        refine r_iast 32 hE 2 0 (wMRow g mo (up ro9 i r_28)) [(wMo g mo mst mac mmk mr9_28 mrd c mcm mtp msz mtk mbg men mls mvl mft mfp mfk mdp mto), (wMTab g mo kd9_28 on9_28 tw9_28 sg9_28 le9_28 de9_28 so9_28), (wMRow g mo (up ro9 i r_28)), (wMAll g mo al)] dX9_lays_31 rfl rfl rfl (by omega) rfl rfl ?_
        refine r_iinc 35 hE 3 (i + 1) [(3, .int (iI (i + 1))), (0, .ref (mo 0)), (1, .int (iI pc)), (2, .int (iI c))] dX9_lays_32 rfl rfl rfl (by decide) rfl ?_
        refine r_goto 7 hE dX9_lays_35 (by decide) ?_
        refine G.to (fs' := [(wMo g mo mst mac mmk mr9_28 mrd c mcm mtp msz mtk mbg men mls mvl mft mfp mfk mdp mto), (wMTab g mo kd9_28 on9_28 tw9_28 sg9_28 le9_28 de9_28 so9_28), (wMRow g mo (up ro9 i r_28)), (wMAll g mo al)]) (lv' := [(0, .ref (mo 0)), (1, .int (iI pc)), (2, .int (iI c)), (3, .int (iI (i + 1)))]) [0, 1, 2, 3] [1, 2, 3, 0] rfl rfl rfl ?_
        exact ih7 kd9_28 on9_28 tw9_28 sg9_28 le9_28 de9_28 so9_28 mr9_28 _ (up ro9 i r_28) (i + 1) (by first | exact h28_0 | exact hT) (by first | exact hag2 | exact (fun _ _ _ => rfl)) (by omega) (by omega) (by first | exact hL2 | exact LetIn.start) (by omega)
  refine r_aload_n 1 hE 0 dX9_lays_0 rfl rfl rfl ?_
  refine r_iload_n 2 hE 2 dX9_lays_1 rfl rfl rfl ?_
  refine r_put 5 hE 0 0 ok9 15 (wMo g mo mst mac mmk mr mrd c mcm mtp msz mtk mbg men mls mvl mft mfp mfk mdp mto) [(wMo g mo mst mac mmk mr mrd c mcm mtp msz mtk mbg men mls mvl mft mfp mfk mdp mto), (wMTab g mo kd on tw sg le de so), (wMRow g mo ro), (wMAll g mo al)] dX9_lays_2 rfl wd_1067 rfl rfl (by decide) rfl rfl rfl (Nat.le_of_ble_eq_true rfl) rfl rfl ?_
  refine r_iconst 6 hE dX9_lays_5 rfl ?_
  refine r_istore_n 7 hE [(3, .int (iI 0)), (0, .ref (mo 0)), (1, .int (iI pc)), (2, .int (iI c))] dX9_lays_6 rfl rfl (by decide) rfl ?_
  refine G.to (fs' := [(wMo g mo mst mac mmk mr mrd c mcm mtp msz mtk mbg men mls mvl mft mfp mfk mdp mto), (wMTab g mo kd on tw sg le de so), (wMRow g mo ro), (wMAll g mo al)]) (lv' := [(0, .ref (mo 0)), (1, .int (iI pc)), (2, .int (iI c)), (3, .int (iI 0))]) [0, 1, 2, 3] [1, 2, 3, 0] rfl rfl rfl ?_
  exact cut7 _ kd on tw sg le de so mr _ ro 0 (by first | exact h28_0 | exact hT) (by first | exact hag2 | exact (fun _ _ _ => rfl)) (by omega) (by omega) (by first | exact hL2 | exact LetIn.start) (Nat.lt_succ_self _)
set_option maxHeartbeats 4000000 in
set_option maxRecDepth 100000 in
theorem c_X9_layText {g : Gm} {mo : Nat → Nat} {mst mac mmk mr mrd mrm mcm mtp msz mtk mbg men mls mvl mft mfp mfk mdp mto : Int} {al : Int → Int} {kd on tw sg le de so : Int → Int} {R : Int → Rl} {ro : Int → Int} {b t : Int} (hT : MT kd on tw sg le de so mr R) (hbb : 0 ≤ b ∧ b ≤ 57707) (htt : 0 ≤ t ∧ t ≤ 7) (hn : 1 ≤ oN al b t ∧ oN al b t ≤ 600) (hf : ∀ k, 0 ≤ k → k < oN al b t → 0 ≤ oF al b t k ∧ oF al b t k ≤ 25) (hroom : mr + 626 ≤ 10400) : Ct g 4 0 0 yX9_layText cX9_layText 3 (some .int) [.ref (mo 0), .int (iI b), .int (iI t)] [(wMo g mo mst mac mmk mr mrd mrm mcm mtp msz mtk mbg men mls mvl mft mfp mfk mdp mto), (wMTab g mo kd on tw sg le de so), (wMRow g mo ro), (wMAll g mo al)] (fun v_ w_ => ∃ kd9 : Int → Int, ∃ on9 : Int → Int, ∃ tw9 : Int → Int, ∃ sg9 : Int → Int, ∃ le9 : Int → Int, ∃ de9 : Int → Int, ∃ so9 : Int → Int, ∃ mr9 : Int, ∃ R9 : Int → Rl, ∃ ro9 : Int → Int, ∃ mrd9 : Int, ∃ mrm9 : Int, ∃ r : Int, v_ = some (.int (iI r)) ∧ w_ = [(wMo g mo mst mac mmk mr9 mrd9 mrm9 mcm mtp msz mtk mbg men mls mvl mft mfp mfk mdp mto), (wMTab g mo kd9 on9 tw9 sg9 le9 de9 so9), (wMRow g mo ro9), (wMAll g mo al)] ∧ (MT kd9 on9 tw9 sg9 le9 de9 so9 mr9 R9) ∧ (mr ≤ mr9 ∧ mr9 ≤ mr + 625) ∧ (∀ i, 0 ≤ i → i < mr → R9 i = R i) ∧ (0 ≤ r ∧ r < mr9) ∧ (BIs (lts (oF al b t) 0 (oN al b t)) (R9 r) mrd9) ∧ (∀ i, mr ≤ i → i < mr9 → Sub (R9 i) (R9 r)) ∧ (0 ≤ mrd9 ∧ mrd9 ≤ 100)) := by
  refine Ct.of (by decide) (Nat.le_of_ble_eq_true rfl) (lv := [(0, .ref (mo 0)), (1, .int (iI b)), (2, .int (iI t))]) rfl ?_
  intro E hE hR hnm
  refine r_aload_n 1 hE 0 dX9_layText_0 rfl rfl rfl ?_
  refine r_iload_n 2 hE 1 dX9_layText_1 rfl rfl rfl ?_
  refine r_bipush 4 hE dX9_layText_2 rfl (by decide) ?_
  refine r_iadd 5 hE (b + 9) dX9_layText_4 rfl rfl ?_
  refine r_sipush 8 hE dX9_layText_5 rfl (by decide) ?_
  refine r_iload_n 9 hE 2 dX9_layText_8 rfl rfl rfl ?_
  refine r_imul 10 hE (600 * t) dX9_layText_9 rfl rfl ?_
  refine r_iadd 11 hE ((b + 9) + (600 * t)) dX9_layText_10 rfl rfl ?_
  refine r_aload_n 12 hE 0 dX9_layText_11 rfl rfl rfl ?_
  refine r_get 15 hE 0 0 ok9 0 dX9_layText_12 rfl wd_1052 rfl rfl (by decide) rfl ?_
  refine r_iload_n 16 hE 1 dX9_layText_15 rfl rfl rfl ?_
  refine r_iconst 17 hE dX9_layText_16 rfl ?_
  refine r_iadd 18 hE (b + 1) dX9_layText_17 rfl rfl ?_
  refine r_iload_n 19 hE 2 dX9_layText_18 rfl rfl rfl ?_
  refine r_iadd 20 hE ((b + 1) + t) dX9_layText_19 rfl rfl ?_
  refine r_iald 21 hE 3 0 dX9_layText_20 rfl rfl rfl (by omega) ?_
  rw [show (al ((b + 1) + t) : Int) = oN al b t from rfl]
  refine r_callV 24 hE [0, 1, 2, 3] [] [(wMo g mo mst mac mmk mr mrd mrm mcm mtp msz mtk mbg men mls mvl mft mfp mfk mdp mto), (wMTab g mo kd on tw sg le de so), (wMRow g mo ro), (wMAll g mo al)] [] 0 9 ok9 [] (c_X9_lays (hT) (by omega) (hn) (fun k a q => hf k a q) (by omega)) dX9_layText_21 rfl rfl wd_1314 wd_1316 ws_75 wd_12 wd_1317 ne_X9 np_X9_lays (Nat.le_of_ble_eq_true rfl)  (by decide) (by decide) rfl (Nat.le_of_ble_eq_true rfl) rfl rfl rfl rfl (by decide) rfl (fun v1 f1 hp => ?_)
  obtain ⟨kd9_21, on9_21, tw9_21, sg9_21, le9_21, de9_21, so9_21, mr9_21, R9_21, ro9_21, mrd9_21, mrm9_21, r_21, rfl, rfl, h21_0, h21_1, h21_2, h21_3, h21_4, h21_5, h21_6⟩ := hp
  show G g E _ _ _ [(wMo g mo mst mac mmk mr9_21 mrd9_21 mrm9_21 mcm mtp msz mtk mbg men mls mvl mft mfp mfk mdp mto), (wMTab g mo kd9_21 on9_21 tw9_21 sg9_21 le9_21 de9_21 so9_21), (wMRow g mo ro9_21), (wMAll g mo al)] 24 [(0, .ref (mo 0)), (1, .int (iI b)), (2, .int (iI t))] [.int (iI r_21)]
  refine r_ireturn hE hR [(wMo g mo mst mac mmk mr9_21 mrd9_21 mrm9_21 mcm mtp msz mtk mbg men mls mvl mft mfp mfk mdp mto), (wMTab g mo kd9_21 on9_21 tw9_21 sg9_21 le9_21 de9_21 so9_21), (wMRow g mo ro9_21), (wMAll g mo al)] dX9_layText_24 (Nat.le_of_ble_eq_true rfl) (Nat.le_of_ble_eq_true rfl) rfl ?_
  exact ⟨_, _, _, _, _, _, _, _, _, _, _, _, _, rfl, rfl, h21_0, h21_1, h21_2, h21_3, by rw [← lts_b]; exact h21_4, h21_5, h21_6⟩
set_option maxHeartbeats 4000000 in
set_option maxRecDepth 100000 in
theorem c_X9_layAll {g : Gm} {mo : Nat → Nat} {mst mac mmk mr mrd mrm mcm mtp msz mtk mbg men mls mvl mft mfp mfk mdp mto : Int} {al : Int → Int} {kd on tw sg le de so : Int → Int} {R : Int → Rl} {ro : Int → Int} {b : Int} {V : List (Rl × Int)} (hT : MT kd on tw sg le de so mr R) (hbb : 0 ≤ b ∧ b ≤ 57707) (hBt : TOk (oF al b) (oN al b) (al (b + 0))) (hroom : mr + 625 * al (b + 0) + 1 ≤ 10400) (hV : TabV R mr V) : Ct g 5 0 0 yX9_layAll cX9_layAll 3 (some .int) [.ref (mo 0), .int (iI b)] [(wMo g mo mst mac mmk mr mrd mrm mcm mtp msz mtk mbg men mls mvl mft mfp mfk mdp mto), (wMTab g mo kd on tw sg le de so), (wMRow g mo ro), (wMAll g mo al)] (fun v_ w_ => ∃ kd9 : Int → Int, ∃ on9 : Int → Int, ∃ tw9 : Int → Int, ∃ sg9 : Int → Int, ∃ le9 : Int → Int, ∃ de9 : Int → Int, ∃ so9 : Int → Int, ∃ mr9 : Int, ∃ R9 : Int → Rl, ∃ ro9 : Int → Int, ∃ mrd9 : Int, ∃ mrm9 : Int, v_ = some (.int (iI mr9)) ∧ w_ = [(wMo g mo mst mac mmk mr9 mrd9 mrm9 mcm mtp msz mtk mbg men mls mvl mft mfp mfk mdp mto), (wMTab g mo kd9 on9 tw9 sg9 le9 de9 so9), (wMRow g mo ro9), (wMAll g mo al)] ∧ (MT kd9 on9 tw9 sg9 le9 de9 so9 mr9 R9) ∧ (mr ≤ mr9 ∧ mr9 ≤ mr + 625 * al (b + 0)) ∧ (TabV R9 mr9 (visT (topsB al b) (al (b + 0)).toNat V)) ∧ (∀ t, 0 ≤ t → t < al (b + 0) → ∃ q, BIs (lts (oF al b t) 0 (oN al b t)) (topsB al b t) q)) := by
  refine Ct.of (by decide) (Nat.le_of_ble_eq_true rfl) (lv := [(0, .ref (mo 0)), (1, .int (iI b))]) rfl ?_
  intro E hE hR hnm
  have hcn := hT.1
  have hc := hBt.1
  have cut2 : ∀ (N : Nat) (kd9 : Int → Int) (on9 : Int → Int) (tw9 : Int → Int) (sg9 : Int → Int) (le9 : Int → Int) (de9 : Int → Int) (so9 : Int → Int) (mr9 : Int) (R9 : Int → Rl) (ro9 : Int → Int) (mrd9 : Int) (mrm9 : Int) (i : Int), (MT kd9 on9 tw9 sg9 le9 de9 so9 mr9 R9) → (0 ≤ i ∧ i ≤ al (b + 0)) → (mr ≤ mr9 ∧ mr9 ≤ mr + 625 * i) → (TabV R9 mr9 (visT (topsB al b) i.toNat V)) → (∀ t, 0 ≤ t → t < i → ∃ q, BIs (lts (oF al b t) 0 (oN al b t)) (topsB al b t) q) → (al (b + 0) - i).toNat < N → G g E 3 0 0 [(wMo g mo mst mac mmk mr9 mrd9 mrm9 mcm mtp msz mtk mbg men mls mvl mft mfp mfk mdp mto), (wMTab g mo kd9 on9 tw9 sg9 le9 de9 so9), (wMRow g mo ro9), (wMAll g mo al)] 2 [(0, .ref (mo 0)), (1, .int (iI b)), (2, .int (iI i))] [] := by
    intro N
    induction N with
    | zero => intro kd9 on9 tw9 sg9 le9 de9 so9 mr9 R9 ro9 mrd9 mrm9 i _ _ _ _ _ hN; exact absurd hN (Nat.not_lt_zero _)
    | succ N ih2 =>
      intro kd9 on9 tw9 sg9 le9 de9 so9 mr9 R9 ro9 mrd9 mrm9 i hT9 hi hmr hV9 hq hN
      refine r_iload_n 3 hE 2 dX9_layAll_2 rfl rfl rfl ?_
      refine r_aload_n 4 hE 0 dX9_layAll_3 rfl rfl rfl ?_
      refine r_get 7 hE 0 0 ok9 0 dX9_layAll_4 rfl wd_1052 rfl rfl (by decide) rfl ?_
      refine r_iload_n 8 hE 1 dX9_layAll_7 rfl rfl rfl ?_
      refine r_iconst 9 hE dX9_layAll_8 rfl ?_
      refine r_iadd 10 hE (b + 0) dX9_layAll_9 rfl rfl ?_
      refine r_iald 11 hE 3 0 dX9_layAll_10 rfl rfl rfl (by omega) ?_
      refine r_icmp_ge 14 27 hE dX9_layAll_11 rfl (by decide) (by omega) (fun c11 => ?_) (fun c11 => ?_)
      · skip
        refine r_aload_n 28 hE 0 dX9_layAll_27 rfl rfl rfl ?_
        refine r_get 31 hE 0 0 ok9 12 dX9_layAll_28 rfl wd_1064 rfl rfl (by decide) rfl ?_
        refine r_ireturn hE hR [(wMo g mo mst mac mmk mr9 mrd9 mrm9 mcm mtp msz mtk mbg men mls mvl mft mfp mfk mdp mto), (wMTab g mo kd9 on9 tw9 sg9 le9 de9 so9), (wMRow g mo ro9), (wMAll g mo al)] dX9_layAll_31 (Nat.le_of_ble_eq_true rfl) (Nat.le_of_ble_eq_true rfl) rfl ?_
        have hic : i = al (b + 0) := by omega
        rw [hic] at hV9 hmr hq
        exact ⟨_, _, _, _, _, _, _, _, _, _, _, _, rfl, rfl, hT9, hmr, hV9, hq⟩
      · skip
        refine r_aload_n 15 hE 0 dX9_layAll_14 rfl rfl rfl ?_
        refine r_iload_n 16 hE 1 dX9_layAll_15 rfl rfl rfl ?_
        refine r_iload_n 17 hE 2 dX9_layAll_16 rfl rfl rfl ?_
        refine r_callV 20 hE [0, 1, 2, 3] [] [(wMo g mo mst mac mmk mr9 mrd9 mrm9 mcm mtp msz mtk mbg men mls mvl mft mfp mfk mdp mto), (wMTab g mo kd9 on9 tw9 sg9 le9 de9 so9), (wMRow g mo ro9), (wMAll g mo al)] [] 0 9 ok9 [] (c_X9_layText (hT9) (by omega) (by omega) ((hBt.2 i hi.1 c11).1) ((hBt.2 i hi.1 c11).2) (by omega)) dX9_layAll_17 rfl rfl wd_1310 wd_1312 ws_74 wd_12 wd_1313 ne_X9 np_X9_layText (Nat.le_of_ble_eq_true rfl)  (by decide) (by decide) rfl (Nat.le_of_ble_eq_true rfl) rfl rfl rfl rfl (by decide) rfl (fun v1 f1 hp => ?_)
        obtain ⟨kd9_17, on9_17, tw9_17, sg9_17, le9_17, de9_17, so9_17, mr9_17, R9_17, ro9_17, mrd9_17, mrm9_17, r_17, rfl, rfl, h17_0, h17_1, h17_2, h17_3, h17_4, h17_5, h17_6⟩ := hp
        show G g E _ _ _ [(wMo g mo mst mac mmk mr9_17 mrd9_17 mrm9_17 mcm mtp msz mtk mbg men mls mvl mft mfp mfk mdp mto), (wMTab g mo kd9_17 on9_17 tw9_17 sg9_17 le9_17 de9_17 so9_17), (wMRow g mo ro9_17), (wMAll g mo al)] 20 [(0, .ref (mo 0)), (1, .int (iI b)), (2, .int (iI i))] [.int (iI r_17)]
        have hV2 : TabV R9_17 mr9_17 (visT (topsB al b) (i + 1).toNat V) := by rw [visT_b hi.1 h17_4]; exact hV9.lay h17_1.1 h17_2 h17_0.2.2.1 h17_3 (h17_0.sub _ (Nat.le_refl _) h17_3.1 h17_3.2) h17_5 0
        have hq2 : ∀ t, 0 ≤ t → t < i + 1 → ∃ q, BIs (lts (oF al b t) 0 (oN al b t)) (topsB al b t) q := fun t x y => by
          by_cases z : t = i
          · subst z; exact ⟨_, by unfold topsB; rw [topF_is h17_4]; exact h17_4⟩
          · exact hq t x (by omega)
        refine r_pop 21 hE dX9_layAll_20 rfl rfl ?_
        refine r_iinc 24 hE 2 (i + 1) [(2, .int (iI (i + 1))), (0, .ref (mo 0)), (1, .int (iI b))] dX9_layAll_21 rfl rfl rfl (by decide) rfl ?_
        refine r_goto 2 hE dX9_layAll_24 (by decide) ?_
        refine G.to (fs' := [(wMo g mo mst mac mmk mr9_17 mrd9_17 mrm9_17 mcm mtp msz mtk mbg men mls mvl mft mfp mfk mdp mto), (wMTab g mo kd9_17 on9_17 tw9_17 sg9_17 le9_17 de9_17 so9_17), (wMRow g mo ro9_17), (wMAll g mo al)]) (lv' := [(0, .ref (mo 0)), (1, .int (iI b)), (2, .int (iI (i + 1)))]) [0, 1, 2, 3] [1, 2, 0] rfl rfl rfl ?_
        exact ih2 kd9_17 on9_17 tw9_17 sg9_17 le9_17 de9_17 so9_17 mr9_17 _ ro9_17 mrd9_17 mrm9_17 (i + 1) (by first | exact h17_0 | exact hT) (by omega) (by omega) (by first | exact hV2 | exact hV) (by first | exact hq2 | exact (fun t x y => absurd y (by omega))) (by omega)
  refine r_iconst 1 hE dX9_layAll_0 rfl ?_
  refine r_istore_n 2 hE [(2, .int (iI 0)), (0, .ref (mo 0)), (1, .int (iI b))] dX9_layAll_1 rfl rfl (by decide) rfl ?_
  refine G.to (fs' := [(wMo g mo mst mac mmk mr mrd mrm mcm mtp msz mtk mbg men mls mvl mft mfp mfk mdp mto), (wMTab g mo kd on tw sg le de so), (wMRow g mo ro), (wMAll g mo al)]) (lv' := [(0, .ref (mo 0)), (1, .int (iI b)), (2, .int (iI 0))]) [0, 1, 2, 3] [1, 2, 0] rfl rfl rfl ?_
  exact cut2 _ kd on tw sg le de so mr _ ro mrd mrm 0 (by first | exact h17_0 | exact hT) (by omega) (by omega) (by first | exact hV2 | exact hV) (by first | exact hq2 | exact (fun t x y => absurd y (by omega))) (Nat.lt_succ_self _)
set_option maxHeartbeats 4000000 in
set_option maxRecDepth 100000 in
theorem c_X9_allRules {g : Gm} {mo : Nat → Nat} {mst mac mmk mr mrd mrm mcm mtp msz mtk mbg men mls mvl mft mfp mfk mdp mto : Int} {al : Int → Int} {kd on tw sg le de so : Int → Int} {R : Int → Rl} {ro : Int → Int} (hM : MTx al) : Ct g 6 0 0 yX9_allRules cX9_allRules 1 (some .int) [.ref (mo 0)] [(wMo g mo mst mac mmk mr mrd mrm mcm mtp msz mtk mbg men mls mvl mft mfp mfk mdp mto), (wMTab g mo kd on tw sg le de so), (wMRow g mo ro), (wMAll g mo al)] (fun v_ w_ => ∃ kd9 : Int → Int, ∃ on9 : Int → Int, ∃ tw9 : Int → Int, ∃ sg9 : Int → Int, ∃ le9 : Int → Int, ∃ de9 : Int → Int, ∃ so9 : Int → Int, ∃ mr9 : Int, ∃ R9 : Int → Rl, ∃ ro9 : Int → Int, ∃ mrd9 : Int, ∃ mrm9 : Int, v_ = some (.int (iI mr9)) ∧ w_ = [(wMo g mo mst mac mmk mr9 mrd9 mrm9 mcm mtp msz mtk mbg men mls mvl mft mfp mfk mdp mto), (wMTab g mo kd9 on9 tw9 sg9 le9 de9 so9), (wMRow g mo ro9), (wMAll g mo al)] ∧ (AllRules (mF al) (mN al) (al 0) mr9)) := by
  refine Ct.of (by decide) (Nat.le_of_ble_eq_true rfl) (lv := [(0, .ref (mo 0))]) rfl ?_
  intro E hE hR hnm
  have hc := hM.1
  have hBt : TOk (oF al 0) (oN al 0) (al (0 + 0)) := by rw [oF_0, oN_0]; exact hM
  refine r_aload_n 1 hE 0 dX9_allRules_0 rfl rfl rfl ?_
  refine r_callV 4 hE [0, 1] [2, 3] [(wMo g mo mst mac mmk mr mrd mrm mcm mtp msz mtk mbg men mls mvl mft mfp mfk mdp mto), (wMTab g mo kd on tw sg le de so)] [(wMRow g mo ro), (wMAll g mo al)] 0 9 ok9 [] (c_X9_forgets (R := fun _ => rLet 0)) dX9_allRules_1 rfl rfl wd_1302 wd_1304 ws_72 wd_12 wd_1305 ne_X9 np_X9_forgets (Nat.le_of_ble_eq_true rfl)  (by decide) (by decide) rfl (Nat.le_of_ble_eq_true rfl) rfl rfl rfl rfl (by decide) rfl (fun v1 f1 hp => ?_)
  obtain ⟨so9_1, rfl, rfl, h1_0⟩ := hp
  show G g E _ _ _ [(wMo g mo mst mac mmk 0 mrd mrm mcm mtp msz mtk mbg men mls mvl mft mfp mfk mdp mto), (wMTab g mo kd on tw sg le de so9_1), (wMRow g mo ro), (wMAll g mo al)] 4 [(0, .ref (mo 0))] []
  refine r_aload_n 5 hE 0 dX9_allRules_4 rfl rfl rfl ?_
  refine r_iconst 6 hE dX9_allRules_5 rfl ?_
  refine r_callV 9 hE [0, 1, 2, 3] [] [(wMo g mo mst mac mmk 0 mrd mrm mcm mtp msz mtk mbg men mls mvl mft mfp mfk mdp mto), (wMTab g mo kd on tw sg le de so9_1), (wMRow g mo ro), (wMAll g mo al)] [] 0 9 ok9 [] (c_X9_layAll (h1_0) (by omega) (hBt) (by show (0 : Int) + 625 * al 0 + 1 ≤ 10400; omega) (TabV.nil _)) dX9_allRules_6 rfl rfl wd_1306 wd_1308 ws_73 wd_12 wd_1309 ne_X9 np_X9_layAll (Nat.le_of_ble_eq_true rfl)  (by decide) (by decide) rfl (Nat.le_of_ble_eq_true rfl) rfl rfl rfl rfl (by decide) rfl (fun v1 f1 hp => ?_)
  obtain ⟨kd9_6, on9_6, tw9_6, sg9_6, le9_6, de9_6, so9_6, mr9_6, R9_6, ro9_6, mrd9_6, mrm9_6, rfl, rfl, h6_0, h6_1, h6_2, h6_3⟩ := hp
  show G g E _ _ _ [(wMo g mo mst mac mmk mr9_6 mrd9_6 mrm9_6 mcm mtp msz mtk mbg men mls mvl mft mfp mfk mdp mto), (wMTab g mo kd9_6 on9_6 tw9_6 sg9_6 le9_6 de9_6 so9_6), (wMRow g mo ro9_6), (wMAll g mo al)] 9 [(0, .ref (mo 0))] [.int (iI mr9_6)]
  refine r_ireturn hE hR [(wMo g mo mst mac mmk mr9_6 mrd9_6 mrm9_6 mcm mtp msz mtk mbg men mls mvl mft mfp mfk mdp mto), (wMTab g mo kd9_6 on9_6 tw9_6 sg9_6 le9_6 de9_6 so9_6), (wMRow g mo ro9_6), (wMAll g mo al)] dX9_allRules_9 (Nat.le_of_ble_eq_true rfl) (Nat.le_of_ble_eq_true rfl) rfl ?_
  refine ⟨kd9_6, on9_6, tw9_6, sg9_6, le9_6, de9_6, so9_6, mr9_6, R9_6, ro9_6, mrd9_6, mrm9_6, rfl, rfl, topsB al 0, fun t a b => ?_, h6_2.2.1⟩
  skip
  have h9 := h6_3 t a b
  rw [oF_0, oN_0] at h9
  exact h9
set_option maxHeartbeats 4000000 in
set_option maxRecDepth 100000 in
theorem c_X9_freshOver {g : Gm} {mo : Nat → Nat} {mst mac mmk mr mrd mrm mcm mtp msz mtk mbg men mls mvl mft mfp mfk mdp mto : Int} {al : Int → Int} {kd on tw sg le de so : Int → Int} {R : Int → Rl} {ro : Int → Int} {b : Int} (hM : MTx al) (hbb : 0 ≤ b ∧ b ≤ 57707) (hBt : TOk (oF al b) (oN al b) (al (b + 0))) : Ct g 6 0 0 yX9_freshOver cX9_freshOver 3 (some .int) [.ref (mo 0), .int (iI b)] [(wMo g mo mst mac mmk mr mrd mrm mcm mtp msz mtk mbg men mls mvl mft mfp mfk mdp mto), (wMTab g mo kd on tw sg le de so), (wMRow g mo ro), (wMAll g mo al)] (fun v_ w_ => ∃ kd9 : Int → Int, ∃ on9 : Int → Int, ∃ tw9 : Int → Int, ∃ sg9 : Int → Int, ∃ le9 : Int → Int, ∃ de9 : Int → Int, ∃ so9 : Int → Int, ∃ mr9 : Int, ∃ R9 : Int → Rl, ∃ ro9 : Int → Int, ∃ mrd9 : Int, ∃ mrm9 : Int, ∃ n9 : Int, v_ = some (.int (iI (mr9 - n9))) ∧ w_ = [(wMo g mo mst mac mmk mr9 mrd9 mrm9 mcm mtp msz mtk mbg men mls mvl mft mfp mfk mdp mto), (wMTab g mo kd9 on9 tw9 sg9 le9 de9 so9), (wMRow g mo ro9), (wMAll g mo al)] ∧ (NewsF (oF al b) (oN al b) (al (b + 0)) (mF al) (mN al) (al 0) (mr9 - n9)) ∧ (0 ≤ mr9 - n9 ∧ mr9 - n9 ≤ 10400)) := by
  refine Ct.of (by decide) (Nat.le_of_ble_eq_true rfl) (lv := [(0, .ref (mo 0)), (1, .int (iI b))]) rfl ?_
  intro E hE hR hnm
  have hc := hM.1
  have hB0 : TOk (oF al 0) (oN al 0) (al (0 + 0)) := by rw [oF_0, oN_0]; exact hM
  have hcb := hBt.1
  refine r_aload_n 1 hE 0 dX9_freshOver_0 rfl rfl rfl ?_
  refine r_callV 4 hE [0, 1] [2, 3] [(wMo g mo mst mac mmk mr mrd mrm mcm mtp msz mtk mbg men mls mvl mft mfp mfk mdp mto), (wMTab g mo kd on tw sg le de so)] [(wMRow g mo ro), (wMAll g mo al)] 0 9 ok9 [] (c_X9_forgets (R := fun _ => rLet 0)) dX9_freshOver_1 rfl rfl wd_1302 wd_1304 ws_72 wd_12 wd_1305 ne_X9 np_X9_forgets (Nat.le_of_ble_eq_true rfl)  (by decide) (by decide) rfl (Nat.le_of_ble_eq_true rfl) rfl rfl rfl rfl (by decide) rfl (fun v1 f1 hp => ?_)
  obtain ⟨so9_1, rfl, rfl, h1_0⟩ := hp
  show G g E _ _ _ [(wMo g mo mst mac mmk 0 mrd mrm mcm mtp msz mtk mbg men mls mvl mft mfp mfk mdp mto), (wMTab g mo kd on tw sg le de so9_1), (wMRow g mo ro), (wMAll g mo al)] 4 [(0, .ref (mo 0)), (1, .int (iI b))] []
  refine r_aload_n 5 hE 0 dX9_freshOver_4 rfl rfl rfl ?_
  refine r_iload_n 6 hE 1 dX9_freshOver_5 rfl rfl rfl ?_
  refine r_callV 9 hE [0, 1, 2, 3] [] [(wMo g mo mst mac mmk 0 mrd mrm mcm mtp msz mtk mbg men mls mvl mft mfp mfk mdp mto), (wMTab g mo kd on tw sg le de so9_1), (wMRow g mo ro), (wMAll g mo al)] [] 0 9 ok9 [] (c_X9_layAll (h1_0) (by omega) (hBt) (by omega) (TabV.nil _)) dX9_freshOver_6 rfl rfl wd_1306 wd_1308 ws_73 wd_12 wd_1309 ne_X9 np_X9_layAll (Nat.le_of_ble_eq_true rfl)  (by decide) (by decide) rfl (Nat.le_of_ble_eq_true rfl) rfl rfl rfl rfl (by decide) rfl (fun v1 f1 hp => ?_)
  obtain ⟨kd9_6, on9_6, tw9_6, sg9_6, le9_6, de9_6, so9_6, mr9_6, R9_6, ro9_6, mrd9_6, mrm9_6, rfl, rfl, h6_0, h6_1, h6_2, h6_3⟩ := hp
  show G g E _ _ _ [(wMo g mo mst mac mmk mr9_6 mrd9_6 mrm9_6 mcm mtp msz mtk mbg men mls mvl mft mfp mfk mdp mto), (wMTab g mo kd9_6 on9_6 tw9_6 sg9_6 le9_6 de9_6 so9_6), (wMRow g mo ro9_6), (wMAll g mo al)] 9 [(0, .ref (mo 0)), (1, .int (iI b))] [.int (iI mr9_6)]
  refine r_istore_n 10 hE [(2, .int (iI mr9_6)), (0, .ref (mo 0)), (1, .int (iI b))] dX9_freshOver_9 rfl rfl (by decide) rfl ?_
  refine r_aload_n 11 hE 1 dX9_freshOver_10 rfl rfl rfl ?_
  refine r_iconst 12 hE dX9_freshOver_11 rfl ?_
  refine r_callV 15 hE [0, 1, 2, 3] [] [(wMo g mo mst mac mmk mr9_6 mrd9_6 mrm9_6 mcm mtp msz mtk mbg men mls mvl mft mfp mfk mdp mto), (wMTab g mo kd9_6 on9_6 tw9_6 sg9_6 le9_6 de9_6 so9_6), (wMRow g mo ro9_6), (wMAll g mo al)] [] 0 9 ok9 [] (c_X9_layAll (h6_0) (by omega) (hB0) (by show mr9_6 + 625 * al 0 + 1 ≤ 10400; omega) (h6_2)) dX9_freshOver_12 rfl rfl wd_1306 wd_1308 ws_73 wd_12 wd_1309 ne_X9 np_X9_layAll (Nat.le_of_ble_eq_true rfl)  (by decide) (by decide) rfl (Nat.le_of_ble_eq_true rfl) rfl rfl rfl rfl (by decide) rfl (fun v1 f1 hp => ?_)
  obtain ⟨kd9_12, on9_12, tw9_12, sg9_12, le9_12, de9_12, so9_12, mr9_12, R9_12, ro9_12, mrd9_12, mrm9_12, rfl, rfl, h12_0, h12_1, h12_2, h12_3⟩ := hp
  show G g E _ _ _ [(wMo g mo mst mac mmk mr9_12 mrd9_12 mrm9_12 mcm mtp msz mtk mbg men mls mvl mft mfp mfk mdp mto), (wMTab g mo kd9_12 on9_12 tw9_12 sg9_12 le9_12 de9_12 so9_12), (wMRow g mo ro9_12), (wMAll g mo al)] 15 [(2, .int (iI mr9_6)), (0, .ref (mo 0)), (1, .int (iI b))] [.int (iI mr9_12)]
  refine r_iload_n 16 hE 0 dX9_freshOver_15 rfl rfl rfl ?_
  refine r_isub 17 hE (mr9_12 - mr9_6) dX9_freshOver_16 rfl rfl ?_
  refine r_ireturn hE hR [(wMo g mo mst mac mmk mr9_12 mrd9_12 mrm9_12 mcm mtp msz mtk mbg men mls mvl mft mfp mfk mdp mto), (wMTab g mo kd9_12 on9_12 tw9_12 sg9_12 le9_12 de9_12 so9_12), (wMRow g mo ro9_12), (wMAll g mo al)] dX9_freshOver_17 (Nat.le_of_ble_eq_true rfl) (Nat.le_of_ble_eq_true rfl) rfl ?_
  have e0 : al (0 + 0) = al 0 := rfl
  refine ⟨kd9_12, on9_12, tw9_12, sg9_12, le9_12, de9_12, so9_12, mr9_12, R9_12, ro9_12, mrd9_12, mrm9_12, mr9_6, rfl, rfl, ⟨topsB al b, topsB al 0, h6_3, fun t x y => ?_, ?_⟩, by have := h12_0.1; omega⟩
  skip
  · have h9 := h12_3 t x y; rw [oF_0, oN_0] at h9; exact h9
  · rw [← h6_2.2.1]; have h9 := h12_2.2.1; rw [e0] at h9; rw [← h9]
set_option maxHeartbeats 4000000 in
set_option maxRecDepth 100000 in
theorem c_X9_copies {g : Gm} {mo : Nat → Nat} {mst mac mmk mr mrd mrm mcm mtp msz mtk mbg men mls mvl mft mfp mfk mdp mto : Int} {al : Int → Int} {p q : Int} (hp : 0 ≤ p ∧ p ≤ 57708) (hq : 0 ≤ q ∧ q ≤ 57708) (hd : p + 4809 ≤ q ∨ q + 4809 ≤ p) : Ct g 0 0 0 yX9_copies cX9_copies 4 none [.ref (mo 0), .int (iI p), .int (iI q)] [(wMo g mo mst mac mmk mr mrd mrm mcm mtp msz mtk mbg men mls mvl mft mfp mfk mdp mto), (wMAll g mo al)] (fun v_ w_ => ∃ al9 : Int → Int, v_ = none ∧ w_ = [(wMo g mo mst mac mmk mr mrd mrm mcm mtp msz mtk mbg men mls mvl mft mfp mfk mdp mto), (wMAll g mo al9)] ∧ (∀ k, 0 ≤ k → k < 4809 → al9 (q + k) = al (p + k)) ∧ (∀ j, ¬ (q ≤ j ∧ j < q + 4809) → al9 j = al j)) := by
  refine Ct.of (by decide) (Nat.le_of_ble_eq_true rfl) (lv := [(0, .ref (mo 0)), (1, .int (iI p)), (2, .int (iI q))]) rfl ?_
  intro E hE hR hnm
  have cut2 : ∀ (N : Nat) (i : Int) (al9 : Int → Int), (0 ≤ i ∧ i ≤ 4809) → (∀ k, 0 ≤ k → k < i → al9 (q + k) = al (p + k)) → (∀ j, ¬ (q ≤ j ∧ j < q + i) → al9 j = al j) → (4809 - i).toNat < N → G g E 4 0 0 [(wMo g mo mst mac mmk mr mrd mrm mcm mtp msz mtk mbg men mls mvl mft mfp mfk mdp mto), (wMAll g mo al9)] 2 [(0, .ref (mo 0)), (1, .int (iI p)), (2, .int (iI q)), (3, .int (iI i))] [] := by
    intro N
    induction N with
    | zero => intro i al9 _ _ _ hN; exact absurd hN (Nat.not_lt_zero _)
    | succ N ih2 =>
      intro i al9 hi h1 h2 hN
      refine r_iload_n 3 hE 3 dX9_copies_2 rfl rfl rfl ?_
      refine r_sipush 6 hE dX9_copies_3 rfl (by decide) ?_
      refine r_icmp_ge 9 31 hE dX9_copies_6 rfl (by decide) (by omega) (fun c6 => ?_) (fun c6 => ?_)
      · skip
        refine r_return hE hR [(wMo g mo mst mac mmk mr mrd mrm mcm mtp msz mtk mbg men mls mvl mft mfp mfk mdp mto), (wMAll g mo al9)] dX9_copies_31 (Nat.le_of_ble_eq_true rfl) (Nat.le_of_ble_eq_true rfl) rfl ?_
        have hic : i = 4809 := by omega
        subst hic
        exact ⟨al9, rfl, rfl, h1, h2⟩
      · skip
        refine r_aload_n 10 hE 0 dX9_copies_9 rfl rfl rfl ?_
        refine r_get 13 hE 0 0 ok9 0 dX9_copies_10 rfl wd_1052 rfl rfl (by decide) rfl ?_
        refine r_iload_n 14 hE 2 dX9_copies_13 rfl rfl rfl ?_
        refine r_iload_n 15 hE 3 dX9_copies_14 rfl rfl rfl ?_
        refine r_iadd 16 hE (q + i) dX9_copies_15 rfl rfl ?_
        refine r_aload_n 17 hE 0 dX9_copies_16 rfl rfl rfl ?_
        refine r_get 20 hE 0 0 ok9 0 dX9_copies_17 rfl wd_1052 rfl rfl (by decide) rfl ?_
        refine r_iload_n 21 hE 1 dX9_copies_20 rfl rfl rfl ?_
        refine r_iload_n 22 hE 3 dX9_copies_21 rfl rfl rfl ?_
        refine r_iadd 23 hE (p + i) dX9_copies_22 rfl rfl ?_
        refine r_iald 24 hE 1 0 dX9_copies_23 rfl rfl rfl (by omega) ?_
        refine r_iast 25 hE 1 0 (wMAll g mo (up al9 (q + i) (al9 (p + i)))) [(wMo g mo mst mac mmk mr mrd mrm mcm mtp msz mtk mbg men mls mvl mft mfp mfk mdp mto), (wMAll g mo (up al9 (q + i) (al9 (p + i))))] dX9_copies_24 rfl rfl rfl (by omega) rfl rfl ?_
        have h12 : ∀ k, 0 ≤ k → k < i + 1 → up al9 (q + i) (al9 (p + i)) (q + k) = al (p + k) := fun k a b => by
          by_cases z : k = i
          · rw [z, up_same]; exact h2 _ (by omega)
          · rw [up_ne _ _ (by omega)]; exact h1 k a (by omega)
        have h22 : ∀ j, ¬ (q ≤ j ∧ j < q + (i + 1)) → up al9 (q + i) (al9 (p + i)) j = al j := fun j a => by rw [up_ne _ _ (by omega)]; exact h2 j (by omega)
        refine r_iinc 28 hE 3 (i + 1) [(3, .int (iI (i + 1))), (0, .ref (mo 0)), (1, .int (iI p)), (2, .int (iI q))] dX9_copies_25 rfl rfl rfl (by decide) rfl ?_
        refine r_goto 2 hE dX9_copies_28 (by decide) ?_
        refine G.to (fs' := [(wMo g mo mst mac mmk mr mrd mrm mcm mtp msz mtk mbg men mls mvl mft mfp mfk mdp mto), (wMAll g mo (up al9 (q + i) (al9 (p + i))))]) (lv' := [(0, .ref (mo 0)), (1, .int (iI p)), (2, .int (iI q)), (3, .int (iI (i + 1)))]) [0, 1] [1, 2, 3, 0] rfl rfl rfl ?_
        exact ih2 (i + 1) (up al9 (q + i) (al9 (p + i))) (by omega) (by first | exact h12 | exact (fun k a b => absurd b (by omega))) (by first | exact h22 | exact (fun _ _ => rfl)) (by omega)
  refine r_iconst 1 hE dX9_copies_0 rfl ?_
  refine r_istore_n 2 hE [(3, .int (iI 0)), (0, .ref (mo 0)), (1, .int (iI p)), (2, .int (iI q))] dX9_copies_1 rfl rfl (by decide) rfl ?_
  refine G.to (fs' := [(wMo g mo mst mac mmk mr mrd mrm mcm mtp msz mtk mbg men mls mvl mft mfp mfk mdp mto), (wMAll g mo al)]) (lv' := [(0, .ref (mo 0)), (1, .int (iI p)), (2, .int (iI q)), (3, .int (iI 0))]) [0, 1] [1, 2, 3, 0] rfl rfl rfl ?_
  exact cut2 _ 0 al (by omega) (by first | exact h12 | exact (fun k a b => absurd b (by omega))) (by first | exact h22 | exact (fun _ _ => rfl)) (Nat.lt_succ_self _)
