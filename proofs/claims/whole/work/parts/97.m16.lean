set_option maxHeartbeats 4000000 in
set_option maxRecDepth 100000 in
theorem c_X9_puts {g : Gm} {mo : Nat → Nat} {mst mac mmk mr mrd mrm mcm mtp msz mtk mbg men mls mvl mft mfp mfk mdp mto : Int} {al : Int → Int} {pl : Int → Int} {t : Int} (htt : 0 ≤ t ∧ t ≤ 7) (hto : 0 ≤ mto ∧ mto ≤ 600) : Ct g 0 0 0 yX9_puts cX9_puts 3 none [.ref (mo 0), .int (iI t)] [(wMo g mo mst mac mmk mr mrd mrm mcm mtp msz mtk mbg men mls mvl mft mfp mfk mdp mto), (wMAll g mo al), (wMPil g mo pl)] (fun v_ w_ => ∃ al9 : Int → Int, v_ = none ∧ w_ = [(wMo g mo mst mac mmk mr mrd mrm mcm mtp msz mtk mbg men mls mvl mft mfp mfk mdp mto), (wMAll g mo al9), (wMPil g mo pl)] ∧ (PutIs al pl mto t al9)) := by
  refine Ct.of (by decide) (Nat.le_of_ble_eq_true rfl) (lv := [(0, .ref (mo 0)), (1, .int (iI t))]) rfl ?_
  intro E hE hR hnm
  have cut14 : ∀ (N : Nat) (i : Int) (al9 : Int → Int), (0 ≤ i ∧ i ≤ mto) → (al9 (1 + t) = mto ∧ (∀ k, 0 ≤ k → k < i → al9 (9 + 600 * t + k) = pl k) ∧ ∀ j, j ≠ 1 + t → ¬ (9 + 600 * t ≤ j ∧ j < 9 + 600 * t + i) → al9 j = al j) → (mto - i).toNat < N → G g E 3 0 0 [(wMo g mo mst mac mmk mr mrd mrm mcm mtp msz mtk mbg men mls mvl mft mfp mfk mdp mto), (wMAll g mo al9), (wMPil g mo pl)] 14 [(0, .ref (mo 0)), (1, .int (iI t)), (2, .int (iI i))] [] := by
    intro N
    induction N with
    | zero => intro i al9 _ _ hN; exact absurd hN (Nat.not_lt_zero _)
    | succ N ih14 =>
      intro i al9 hi h1 hN
      refine r_iload_n 15 hE 2 dX9_puts_14 rfl rfl rfl ?_
      refine r_aload_n 16 hE 0 dX9_puts_15 rfl rfl rfl ?_
      refine r_get 19 hE 0 0 ok9 37 dX9_puts_16 rfl wd_1089 rfl rfl (by decide) rfl ?_
      refine r_icmp_ge 22 49 hE dX9_puts_19 rfl (by decide) (by omega) (fun c19 => ?_) (fun c19 => ?_)
      · skip
        refine r_return hE hR [(wMo g mo mst mac mmk mr mrd mrm mcm mtp msz mtk mbg men mls mvl mft mfp mfk mdp mto), (wMAll g mo al9), (wMPil g mo pl)] dX9_puts_49 (Nat.le_of_ble_eq_true rfl) (Nat.le_of_ble_eq_true rfl) rfl ?_
        have e : i = mto := by omega
        rw [e] at h1
        exact ⟨al9, rfl, rfl, h1⟩
      · skip
        refine r_aload_n 23 hE 0 dX9_puts_22 rfl rfl rfl ?_
        refine r_get 26 hE 0 0 ok9 0 dX9_puts_23 rfl wd_1052 rfl rfl (by decide) rfl ?_
        refine r_bipush 28 hE dX9_puts_26 rfl (by decide) ?_
        refine r_sipush 31 hE dX9_puts_28 rfl (by decide) ?_
        refine r_iload_n 32 hE 1 dX9_puts_31 rfl rfl rfl ?_
        refine r_imul 33 hE (600 * t) dX9_puts_32 rfl rfl ?_
        refine r_iadd 34 hE (9 + (600 * t)) dX9_puts_33 rfl rfl ?_
        refine r_iload_n 35 hE 2 dX9_puts_34 rfl rfl rfl ?_
        refine r_iadd 36 hE ((9 + (600 * t)) + i) dX9_puts_35 rfl rfl ?_
        refine r_aload_n 37 hE 0 dX9_puts_36 rfl rfl rfl ?_
        refine r_get 40 hE 0 0 ok9 36 dX9_puts_37 rfl wd_1088 rfl rfl (by decide) rfl ?_
        refine r_iload_n 41 hE 2 dX9_puts_40 rfl rfl rfl ?_
        refine r_iald 42 hE 2 0 dX9_puts_41 rfl rfl rfl (by omega) ?_
        refine r_iast 43 hE 1 0 (wMAll g mo (up al9 ((9 + (600 * t)) + i) (pl i))) [(wMo g mo mst mac mmk mr mrd mrm mcm mtp msz mtk mbg men mls mvl mft mfp mfk mdp mto), (wMAll g mo (up al9 ((9 + (600 * t)) + i) (pl i))), (wMPil g mo pl)] dX9_puts_42 rfl rfl rfl (by omega) rfl rfl ?_
        have h12 : up al9 (9 + 600 * t + i) (pl i) (1 + t) = mto ∧ (∀ k, 0 ≤ k → k < i + 1 → up al9 (9 + 600 * t + i) (pl i) (9 + 600 * t + k) = pl k) ∧ ∀ j, j ≠ 1 + t → ¬ (9 + 600 * t ≤ j ∧ j < 9 + 600 * t + (i + 1)) → up al9 (9 + 600 * t + i) (pl i) j = al j := by
          refine ⟨by rw [up_ne _ _ (by omega)]; exact h1.1, fun k a b => ?_, fun j a b => by rw [up_ne _ _ (by omega)]; exact h1.2.2 j a (by omega)⟩
          by_cases z : k = i
          · rw [z, up_same]
          · rw [up_ne _ _ (by omega)]; exact h1.2.1 k a (by omega)
        refine r_iinc 46 hE 2 (i + 1) [(2, .int (iI (i + 1))), (0, .ref (mo 0)), (1, .int (iI t))] dX9_puts_43 rfl rfl rfl (by decide) rfl ?_
        refine r_goto 14 hE dX9_puts_46 (by decide) ?_
        refine G.to (fs' := [(wMo g mo mst mac mmk mr mrd mrm mcm mtp msz mtk mbg men mls mvl mft mfp mfk mdp mto), (wMAll g mo (up al9 ((9 + (600 * t)) + i) (pl i))), (wMPil g mo pl)]) (lv' := [(0, .ref (mo 0)), (1, .int (iI t)), (2, .int (iI (i + 1)))]) [0, 1, 2] [1, 2, 0] rfl rfl rfl ?_
        exact ih14 (i + 1) (up al9 ((9 + (600 * t)) + i) (pl i)) (by omega) (by first | exact h12 | exact ⟨up_same _ _ _, fun k a b => absurd b (by omega), fun j a b => up_ne _ _ a⟩) (by omega)
  refine r_aload_n 1 hE 0 dX9_puts_0 rfl rfl rfl ?_
  refine r_get 4 hE 0 0 ok9 0 dX9_puts_1 rfl wd_1052 rfl rfl (by decide) rfl ?_
  refine r_iconst 5 hE dX9_puts_4 rfl ?_
  refine r_iload_n 6 hE 1 dX9_puts_5 rfl rfl rfl ?_
  refine r_iadd 7 hE (1 + t) dX9_puts_6 rfl rfl ?_
  refine r_aload_n 8 hE 0 dX9_puts_7 rfl rfl rfl ?_
  refine r_get 11 hE 0 0 ok9 37 dX9_puts_8 rfl wd_1089 rfl rfl (by decide) rfl ?_
  refine r_iast 12 hE 1 0 (wMAll g mo (up al (1 + t) mto)) [(wMo g mo mst mac mmk mr mrd mrm mcm mtp msz mtk mbg men mls mvl mft mfp mfk mdp mto), (wMAll g mo (up al (1 + t) mto)), (wMPil g mo pl)] dX9_puts_11 rfl rfl rfl (by omega) rfl rfl ?_
  refine r_iconst 13 hE dX9_puts_12 rfl ?_
  refine r_istore_n 14 hE [(2, .int (iI 0)), (0, .ref (mo 0)), (1, .int (iI t))] dX9_puts_13 rfl rfl (by decide) rfl ?_
  refine G.to (fs' := [(wMo g mo mst mac mmk mr mrd mrm mcm mtp msz mtk mbg men mls mvl mft mfp mfk mdp mto), (wMAll g mo (up al (1 + t) mto)), (wMPil g mo pl)]) (lv' := [(0, .ref (mo 0)), (1, .int (iI t)), (2, .int (iI 0))]) [0, 1, 2] [1, 2, 0] rfl rfl rfl ?_
  exact cut14 _ 0 (up al (1 + t) mto) (by omega) (by first | exact h12 | exact ⟨up_same _ _ _, fun k a b => absurd b (by omega), fun j a b => up_ne _ _ a⟩) (Nat.lt_succ_self _)
set_option maxHeartbeats 4000000 in
set_option maxRecDepth 100000 in
theorem c_X9_piles {g : Gm} {mo : Nat → Nat} {mst mac mmk mr mrd mrm mcm mtp msz mtk mbg men mls mvl mft mfp mfk mdp mto : Int} {al : Int → Int} {pl : Int → Int} {t f n : Int} (htt : 0 ≤ t ∧ t ≤ 7) (hf : 0 ≤ f ∧ 0 ≤ n ∧ f + n ≤ 600) (hto : 0 ≤ mto ∧ mto + n ≤ 14000) : Ct g 1 0 0 yX9_piles cX9_piles 5 none [.ref (mo 0), .int (iI t), .int (iI f), .int (iI n)] [(wMo g mo mst mac mmk mr mrd mrm mcm mtp msz mtk mbg men mls mvl mft mfp mfk mdp mto), (wMAll g mo al), (wMPil g mo pl)] (fun v_ w_ => ∃ pl9 : Int → Int, v_ = none ∧ w_ = [(wMo g mo mst mac mmk mr mrd mrm mcm mtp msz mtk mbg men mls mvl mft mfp mfk mdp (mto + n)), (wMAll g mo al), (wMPil g mo pl9)] ∧ (∀ k, 0 ≤ k → k < n → pl9 (mto + k) = mF al t (f + k)) ∧ (∀ j, ¬ (mto ≤ j ∧ j < mto + n) → pl9 j = pl j)) := by
  refine Ct.of (by decide) (Nat.le_of_ble_eq_true rfl) (lv := [(0, .ref (mo 0)), (1, .int (iI t)), (2, .int (iI f)), (3, .int (iI n))]) rfl ?_
  intro E hE hR hnm
  have cut3 : ∀ (N : Nat) (i : Int) (pl9 : Int → Int), (0 ≤ i ∧ i ≤ n) → (∀ k, 0 ≤ k → k < i → pl9 (mto + k) = mF al t (f + k)) → (∀ j, ¬ (mto ≤ j ∧ j < mto + i) → pl9 j = pl j) → (n - i).toNat < N → G g E 5 0 0 [(wMo g mo mst mac mmk mr mrd mrm mcm mtp msz mtk mbg men mls mvl mft mfp mfk mdp mto), (wMAll g mo al), (wMPil g mo pl9)] 3 [(0, .ref (mo 0)), (1, .int (iI t)), (2, .int (iI f)), (3, .int (iI n)), (4, .int (iI i))] [] := by
    intro N
    induction N with
    | zero => intro i pl9 _ _ _ hN; exact absurd hN (Nat.not_lt_zero _)
    | succ N ih3 =>
      intro i pl9 hi h1 h2 hN
      refine r_iload 5 hE 4 dX9_piles_3 rfl rfl ?_
      refine r_iload_n 6 hE 3 dX9_piles_5 rfl rfl rfl ?_
      refine r_icmp_ge 9 36 hE dX9_piles_6 rfl (by decide) (by omega) (fun c6 => ?_) (fun c6 => ?_)
      · skip
        refine r_aload_n 37 hE 0 dX9_piles_36 rfl rfl rfl ?_
        refine r_dup 38 hE dX9_piles_37 rfl rfl ?_
        refine r_get 41 hE 0 0 ok9 37 dX9_piles_38 rfl wd_1089 rfl rfl (by decide) rfl ?_
        refine r_iload_n 42 hE 3 dX9_piles_41 rfl rfl rfl ?_
        refine r_iadd 43 hE (mto + n) dX9_piles_42 rfl rfl ?_
        refine r_put 46 hE 0 0 ok9 37 (wMo g mo mst mac mmk mr mrd mrm mcm mtp msz mtk mbg men mls mvl mft mfp mfk mdp (mto + n)) [(wMo g mo mst mac mmk mr mrd mrm mcm mtp msz mtk mbg men mls mvl mft mfp mfk mdp (mto + n)), (wMAll g mo al), (wMPil g mo pl9)] dX9_piles_43 rfl wd_1089 rfl rfl (by decide) rfl rfl rfl (Nat.le_of_ble_eq_true rfl) rfl rfl ?_
        refine r_return hE hR [(wMo g mo mst mac mmk mr mrd mrm mcm mtp msz mtk mbg men mls mvl mft mfp mfk mdp (mto + n)), (wMAll g mo al), (wMPil g mo pl9)] dX9_piles_46 (Nat.le_of_ble_eq_true rfl) (Nat.le_of_ble_eq_true rfl) rfl ?_
        have e : i = n := by omega
        rw [e] at h1 h2
        exact ⟨pl9, rfl, rfl, h1, h2⟩
      · skip
        refine r_aload_n 10 hE 0 dX9_piles_9 rfl rfl rfl ?_
        refine r_get 13 hE 0 0 ok9 36 dX9_piles_10 rfl wd_1088 rfl rfl (by decide) rfl ?_
        refine r_aload_n 14 hE 0 dX9_piles_13 rfl rfl rfl ?_
        refine r_get 17 hE 0 0 ok9 37 dX9_piles_14 rfl wd_1089 rfl rfl (by decide) rfl ?_
        refine r_iload 19 hE 4 dX9_piles_17 rfl rfl ?_
        refine r_iadd 20 hE (mto + i) dX9_piles_19 rfl rfl ?_
        refine r_aload_n 21 hE 0 dX9_piles_20 rfl rfl rfl ?_
        refine r_iload_n 22 hE 1 dX9_piles_21 rfl rfl rfl ?_
        refine r_iload_n 23 hE 2 dX9_piles_22 rfl rfl rfl ?_
        refine r_iload 25 hE 4 dX9_piles_23 rfl rfl ?_
        refine r_iadd 26 hE (f + i) dX9_piles_25 rfl rfl ?_
        refine r_callV 29 hE [0, 1] [2] [(wMo g mo mst mac mmk mr mrd mrm mcm mtp msz mtk mbg men mls mvl mft mfp mfk mdp mto), (wMAll g mo al)] [(wMPil g mo pl9)] 0 9 ok9 [.int (iI (mto + i)), .ref (mo 19)] (c_X9_at (by omega)) dX9_piles_26 rfl rfl wd_1277 wd_1279 ws_66 wd_12 wd_1280 ne_X9 np_X9_at (Nat.le_of_ble_eq_true rfl)  (by decide) (by decide) rfl (Nat.le_of_ble_eq_true rfl) rfl rfl rfl rfl (by decide) rfl (fun v1 f1 hp => ?_)
        obtain ⟨rfl, rfl⟩ := hp
        show G g E _ _ _ [(wMo g mo mst mac mmk mr mrd mrm mcm mtp msz mtk mbg men mls mvl mft mfp mfk mdp mto), (wMAll g mo al), (wMPil g mo pl9)] 29 [(0, .ref (mo 0)), (1, .int (iI t)), (2, .int (iI f)), (3, .int (iI n)), (4, .int (iI i))] [.int (iI (mF al t (f + i))), .int (iI (mto + i)), .ref (mo 19)]
        refine r_iast 30 hE 2 0 (wMPil g mo (up pl9 (mto + i) (mF al t (f + i)))) [(wMo g mo mst mac mmk mr mrd mrm mcm mtp msz mtk mbg men mls mvl mft mfp mfk mdp mto), (wMAll g mo al), (wMPil g mo (up pl9 (mto + i) (mF al t (f + i))))] dX9_piles_29 rfl rfl rfl (by omega) rfl rfl ?_
        have h12 : ∀ k, 0 ≤ k → k < i + 1 → up pl9 (mto + i) (mF al t (f + i)) (mto + k) = mF al t (f + k) := fun k a b => by
          by_cases z : k = i
          · rw [z, up_same]
          · rw [up_ne _ _ (by omega)]; exact h1 k a (by omega)
        have h22 : ∀ j, ¬ (mto ≤ j ∧ j < mto + (i + 1)) → up pl9 (mto + i) (mF al t (f + i)) j = pl j := fun j a => by rw [up_ne _ _ (by omega)]; exact h2 j (by omega)
        refine r_iinc 33 hE 4 (i + 1) [(4, .int (iI (i + 1))), (0, .ref (mo 0)), (1, .int (iI t)), (2, .int (iI f)), (3, .int (iI n))] dX9_piles_30 rfl rfl rfl (by decide) rfl ?_
        refine r_goto 3 hE dX9_piles_33 (by decide) ?_
        refine G.to (fs' := [(wMo g mo mst mac mmk mr mrd mrm mcm mtp msz mtk mbg men mls mvl mft mfp mfk mdp mto), (wMAll g mo al), (wMPil g mo (up pl9 (mto + i) (mF al t (f + i))))]) (lv' := [(0, .ref (mo 0)), (1, .int (iI t)), (2, .int (iI f)), (3, .int (iI n)), (4, .int (iI (i + 1)))]) [0, 1, 2] [1, 2, 3, 4, 0] rfl rfl rfl ?_
        exact ih3 (i + 1) (up pl9 (mto + i) (mF al t (f + i))) (by omega) (by first | exact h12 | exact (fun k a b => absurd b (by omega))) (by first | exact h22 | exact (fun _ _ => rfl)) (by omega)
  refine r_iconst 1 hE dX9_piles_0 rfl ?_
  refine r_istore 3 hE [(4, .int (iI 0)), (0, .ref (mo 0)), (1, .int (iI t)), (2, .int (iI f)), (3, .int (iI n))] dX9_piles_1 rfl (by decide) rfl ?_
  refine G.to (fs' := [(wMo g mo mst mac mmk mr mrd mrm mcm mtp msz mtk mbg men mls mvl mft mfp mfk mdp mto), (wMAll g mo al), (wMPil g mo pl)]) (lv' := [(0, .ref (mo 0)), (1, .int (iI t)), (2, .int (iI f)), (3, .int (iI n)), (4, .int (iI 0))]) [0, 1, 2] [1, 2, 3, 4, 0] rfl rfl rfl ?_
  exact cut3 _ 0 pl (by omega) (by first | exact h12 | exact (fun k a b => absurd b (by omega))) (by first | exact h22 | exact (fun _ _ => rfl)) (Nat.lt_succ_self _)
set_option maxHeartbeats 4000000 in
set_option maxRecDepth 100000 in
theorem c_X9_acted {g : Gm} {mo : Nat → Nat} {mst mac mmk mr mrd mrm mcm mtp msz mtk mbg men mls mvl mft mfp mfk mdp mto : Int} {al : Int → Int} {kd on tw sg le de so : Int → Int} {R : Int → Rl} {ro : Int → Int} {nf : Int → Int} (hM : MTx al) (hAs : TOk (oF al 4809) (oN al 4809) (al (4809 + 0))) (hac : 0 ≤ mac ∧ mac ≤ 8) : Ct g 7 0 0 yX9_acted cX9_acted 2 none [.ref (mo 0)] [(wMo g mo mst mac mmk mr mrd mrm mcm mtp msz mtk mbg men mls mvl mft mfp mfk mdp mto), (wMTab g mo kd on tw sg le de so), (wMRow g mo ro), (wMAll g mo al), (wMNew g mo nf)] (fun v_ w_ => ∃ kd9 : Int → Int, ∃ on9 : Int → Int, ∃ tw9 : Int → Int, ∃ sg9 : Int → Int, ∃ le9 : Int → Int, ∃ de9 : Int → Int, ∃ so9 : Int → Int, ∃ mr9 : Int, ∃ R9 : Int → Rl, ∃ ro9 : Int → Int, ∃ mrd9 : Int, ∃ mrm9 : Int, ∃ al9 : Int → Int, ∃ nf9 : Int → Int, ∃ mac9 : Int, ∃ news : Int, v_ = none ∧ w_ = [(wMo g mo mst mac9 mmk mr9 mrd9 mrm9 mcm mtp msz mtk mbg men mls mvl mft mfp mfk mdp mto), (wMTab g mo kd9 on9 tw9 sg9 le9 de9 so9), (wMRow g mo ro9), (wMAll g mo al9), (wMNew g mo nf9)] ∧ (AcR al nf 4809 mac al9 nf9 mac9 news) ∧ (∀ j, j < 9618 → al9 j = al j) ∧ (NewsF (oF al9 4809) (oN al9 4809) (al9 (4809 + 0)) (mF al9) (mN al9) (al9 0) news) ∧ (1 ≤ mac9 ∧ mac9 ≤ 8)) := by
  refine Ct.of (by decide) (Nat.le_of_ble_eq_true rfl) (lv := [(0, .ref (mo 0))]) rfl ?_
  intro E hE hR hnm
  have cut71 : ∀ (m8 : Int) (al8 : Int → Int) (nf8 : Int → Int), (AcM al nf mac al8 nf8 m8) → G g E 2 0 0 [(wMo g mo mst m8 mmk mr mrd mrm mcm mtp msz mtk mbg men mls mvl mft mfp mfk mdp mto), (wMTab g mo kd on tw sg le de so), (wMRow g mo ro), (wMAll g mo al8), (wMNew g mo nf8)] 71 [(0, .ref (mo 0))] [] := by
    intro m8 al8 nf8 hA
    have hr8 := hA.rg hac
    refine r_aload_n 72 hE 0 dX9_acted_71 rfl rfl rfl ?_
    refine r_sipush 75 hE dX9_acted_72 rfl (by decide) ?_
    refine r_sipush 78 hE dX9_acted_75 rfl (by decide) ?_
    refine r_sipush 81 hE dX9_acted_78 rfl (by decide) ?_
    refine r_aload_n 82 hE 0 dX9_acted_81 rfl rfl rfl ?_
    refine r_get 85 hE 0 0 ok9 3 dX9_acted_82 rfl wd_1055 rfl rfl (by decide) rfl ?_
    refine r_imul 86 hE (4809 * m8) dX9_acted_85 rfl rfl ?_
    refine r_iadd 87 hE (9618 + (4809 * m8)) dX9_acted_86 rfl rfl ?_
    refine r_callV 90 hE [0, 3] [1, 2, 4] [(wMo g mo mst m8 mmk mr mrd mrm mcm mtp msz mtk mbg men mls mvl mft mfp mfk mdp mto), (wMAll g mo al8)] [(wMTab g mo kd on tw sg le de so), (wMRow g mo ro), (wMNew g mo nf8)] 0 9 ok9 [] (c_X9_copies (by omega) (by omega) (by omega)) dX9_acted_87 rfl rfl wd_1190 wd_1192 ws_48 wd_12 wd_1193 ne_X9 np_X9_copies (Nat.le_of_ble_eq_true rfl)  (by decide) (by decide) rfl (Nat.le_of_ble_eq_true rfl) rfl rfl rfl rfl (by decide) rfl (fun v1 f1 hp => ?_)
    obtain ⟨al9_87, rfl, rfl, h87_0, h87_1⟩ := hp
    show G g E _ _ _ [(wMo g mo mst m8 mmk mr mrd mrm mcm mtp msz mtk mbg men mls mvl mft mfp mfk mdp mto), (wMAll g mo al9_87), (wMTab g mo kd on tw sg le de so), (wMRow g mo ro), (wMNew g mo nf8)] 90 [(0, .ref (mo 0))] []
    have hfin := fun nw => hA.fin (al9 := al9_87) (news := nw) hac h87_0 h87_1
    have hs := (hfin 0).2
    have hM9 : MTx al9_87 := TOk.at0.mp ((TOk.at0.mpr hM).reg (al2 := al9_87) (b2 := 0) (fun j a b => by rw [hs _ (by omega)]))
    have hA9 : TOk (oF al9_87 4809) (oN al9_87 4809) (al9_87 (4809 + 0)) := hAs.reg (b2 := 4809) (fun j a b => by rw [hs _ (by omega)])
    refine r_aload_n 91 hE 0 dX9_acted_90 rfl rfl rfl ?_
    refine r_get 94 hE 0 0 ok9 1 dX9_acted_91 rfl wd_1053 rfl rfl (by decide) rfl ?_
    refine r_aload_n 95 hE 0 dX9_acted_94 rfl rfl rfl ?_
    refine r_get 98 hE 0 0 ok9 3 dX9_acted_95 rfl wd_1055 rfl rfl (by decide) rfl ?_
    refine r_aload_n 99 hE 0 dX9_acted_98 rfl rfl rfl ?_
    refine r_sipush 102 hE dX9_acted_99 rfl (by decide) ?_
    refine r_callV 105 hE [0, 2, 3, 1] [4] [(wMo g mo mst m8 mmk mr mrd mrm mcm mtp msz mtk mbg men mls mvl mft mfp mfk mdp mto), (wMTab g mo kd on tw sg le de so), (wMRow g mo ro), (wMAll g mo al9_87)] [(wMNew g mo nf8)] 0 9 ok9 [.int (iI m8), .ref (mo 2)] (c_X9_freshOver (R := R) (hM9) (by omega) (hA9)) dX9_acted_102 rfl rfl wd_1298 wd_1300 ws_71 wd_12 wd_1301 ne_X9 np_X9_freshOver (Nat.le_of_ble_eq_true rfl)  (by decide) (by decide) rfl (Nat.le_of_ble_eq_true rfl) rfl rfl rfl rfl (by decide) rfl (fun v1 f1 hp => ?_)
    obtain ⟨kd9_102, on9_102, tw9_102, sg9_102, le9_102, de9_102, so9_102, mr9_102, R9_102, ro9_102, mrd9_102, mrm9_102, n9_102, rfl, rfl, h102_0, h102_1⟩ := hp
    show G g E _ _ _ [(wMo g mo mst m8 mmk mr9_102 mrd9_102 mrm9_102 mcm mtp msz mtk mbg men mls mvl mft mfp mfk mdp mto), (wMTab g mo kd9_102 on9_102 tw9_102 sg9_102 le9_102 de9_102 so9_102), (wMRow g mo ro9_102), (wMAll g mo al9_87), (wMNew g mo nf8)] 105 [(0, .ref (mo 0))] [.int (iI (mr9_102 - n9_102)), .int (iI m8), .ref (mo 2)]
    refine r_iast 106 hE 4 0 (wMNew g mo (up nf8 m8 (mr9_102 - n9_102))) [(wMo g mo mst m8 mmk mr9_102 mrd9_102 mrm9_102 mcm mtp msz mtk mbg men mls mvl mft mfp mfk mdp mto), (wMTab g mo kd9_102 on9_102 tw9_102 sg9_102 le9_102 de9_102 so9_102), (wMRow g mo ro9_102), (wMAll g mo al9_87), (wMNew g mo (up nf8 m8 (mr9_102 - n9_102)))] dX9_acted_105 rfl rfl rfl (by omega) rfl rfl ?_
    refine r_aload_n 107 hE 0 dX9_acted_106 rfl rfl rfl ?_
    refine r_dup 108 hE dX9_acted_107 rfl rfl ?_
    refine r_get 111 hE 0 0 ok9 3 dX9_acted_108 rfl wd_1055 rfl rfl (by decide) rfl ?_
    refine r_iconst 112 hE dX9_acted_111 rfl ?_
    refine r_iadd 113 hE (m8 + 1) dX9_acted_112 rfl rfl ?_
    refine r_put 116 hE 0 0 ok9 3 (wMo g mo mst (m8 + 1) mmk mr9_102 mrd9_102 mrm9_102 mcm mtp msz mtk mbg men mls mvl mft mfp mfk mdp mto) [(wMo g mo mst (m8 + 1) mmk mr9_102 mrd9_102 mrm9_102 mcm mtp msz mtk mbg men mls mvl mft mfp mfk mdp mto), (wMTab g mo kd9_102 on9_102 tw9_102 sg9_102 le9_102 de9_102 so9_102), (wMRow g mo ro9_102), (wMAll g mo al9_87), (wMNew g mo (up nf8 m8 (mr9_102 - n9_102)))] dX9_acted_113 rfl wd_1055 rfl rfl (by decide) rfl rfl rfl (Nat.le_of_ble_eq_true rfl) rfl rfl ?_
    refine r_return hE hR [(wMo g mo mst (m8 + 1) mmk mr9_102 mrd9_102 mrm9_102 mcm mtp msz mtk mbg men mls mvl mft mfp mfk mdp mto), (wMTab g mo kd9_102 on9_102 tw9_102 sg9_102 le9_102 de9_102 so9_102), (wMRow g mo ro9_102), (wMAll g mo al9_87), (wMNew g mo (up nf8 m8 (mr9_102 - n9_102)))] dX9_acted_116 (Nat.le_of_ble_eq_true rfl) (Nat.le_of_ble_eq_true rfl) rfl ?_
    exact ⟨kd9_102, on9_102, tw9_102, sg9_102, le9_102, de9_102, so9_102, mr9_102, R9_102, ro9_102, mrd9_102, mrm9_102, al9_87, up nf8 m8 (mr9_102 - n9_102), m8 + 1, mr9_102 - n9_102, rfl, rfl, (hfin _).1, hs, h102_0, by omega⟩
  have cut11 : ∀ (N : Nat) (i : Int) (al8 : Int → Int) (nf8 : Int → Int), (mac = 8) → (1 ≤ i ∧ i ≤ 8) → (∀ k, 0 ≤ k → k < i - 1 → nf8 k = nf (k + 1) ∧ ∀ j, 0 ≤ j → j < 4809 → al8 (9618 + 4809 * k + j) = al (9618 + 4809 * (k + 1) + j)) → ((∀ j, ¬ (9618 ≤ j ∧ j < 9618 + 4809 * (i - 1)) → al8 j = al j) ∧ ∀ k, i - 1 ≤ k → nf8 k = nf k) → (8 - i).toNat < N → G g E 2 0 0 [(wMo g mo mst mac mmk mr mrd mrm mcm mtp msz mtk mbg men mls mvl mft mfp mfk mdp mto), (wMTab g mo kd on tw sg le de so), (wMRow g mo ro), (wMAll g mo al8), (wMNew g mo nf8)] 11 [(0, .ref (mo 0)), (1, .int (iI i))] [] := by
    intro N
    induction N with
    | zero => intro i al8 nf8 _ _ _ _ hN; exact absurd hN (Nat.not_lt_zero _)
    | succ N ih11 =>
      intro i al8 nf8 h8 hi h1 h2 hN
      refine r_iload_n 12 hE 1 dX9_acted_11 rfl rfl rfl ?_
      refine r_bipush 14 hE dX9_acted_12 rfl (by decide) ?_
      refine r_icmp_ge 17 61 hE dX9_acted_14 rfl (by decide) (by omega) (fun c14 => ?_) (fun c14 => ?_)
      · skip
        have hi8 : i = 8 := by omega
        subst hi8
        have hA8 : AcM al nf mac al8 nf8 (mac - 1) := ⟨1, by rw [if_pos h8], by omega, fun k a b => h1 k a (by omega), fun j a => h2.1 j (by omega)⟩
        refine r_aload_n 62 hE 0 dX9_acted_61 rfl rfl rfl ?_
        refine r_dup 63 hE dX9_acted_62 rfl rfl ?_
        refine r_get 66 hE 0 0 ok9 3 dX9_acted_63 rfl wd_1055 rfl rfl (by decide) rfl ?_
        refine r_iconst 67 hE dX9_acted_66 rfl ?_
        refine r_isub 68 hE (mac - 1) dX9_acted_67 rfl rfl ?_
        refine r_put 71 hE 0 0 ok9 3 (wMo g mo mst (mac - 1) mmk mr mrd mrm mcm mtp msz mtk mbg men mls mvl mft mfp mfk mdp mto) [(wMo g mo mst (mac - 1) mmk mr mrd mrm mcm mtp msz mtk mbg men mls mvl mft mfp mfk mdp mto), (wMTab g mo kd on tw sg le de so), (wMRow g mo ro), (wMAll g mo al8), (wMNew g mo nf8)] dX9_acted_68 rfl wd_1055 rfl rfl (by decide) rfl rfl rfl (Nat.le_of_ble_eq_true rfl) rfl rfl ?_
        refine G.to (fs' := [(wMo g mo mst (mac - 1) mmk mr mrd mrm mcm mtp msz mtk mbg men mls mvl mft mfp mfk mdp mto), (wMTab g mo kd on tw sg le de so), (wMRow g mo ro), (wMAll g mo al8), (wMNew g mo nf8)]) (lv' := [(0, .ref (mo 0))]) [0, 1, 2, 3, 4] [0] rfl rfl rfl ?_
        exact cut71 (mac - 1) al8 nf8 (by first | exact hA8 | exact ⟨0, by rw [if_neg c6], by omega, fun k a b => ⟨by rw [Int.add_zero], fun j _ _ => by rw [Int.add_zero]⟩, fun _ _ => rfl⟩)
      · skip
        refine r_aload_n 18 hE 0 dX9_acted_17 rfl rfl rfl ?_
        refine r_sipush 21 hE dX9_acted_18 rfl (by decide) ?_
        refine r_sipush 24 hE dX9_acted_21 rfl (by decide) ?_
        refine r_iload_n 25 hE 1 dX9_acted_24 rfl rfl rfl ?_
        refine r_imul 26 hE (4809 * i) dX9_acted_25 rfl rfl ?_
        refine r_iadd 27 hE (9618 + (4809 * i)) dX9_acted_26 rfl rfl ?_
        refine r_sipush 30 hE dX9_acted_27 rfl (by decide) ?_
        refine r_sipush 33 hE dX9_acted_30 rfl (by decide) ?_
        refine r_iload_n 34 hE 1 dX9_acted_33 rfl rfl rfl ?_
        refine r_iconst 35 hE dX9_acted_34 rfl ?_
        refine r_isub 36 hE (i - 1) dX9_acted_35 rfl rfl ?_
        refine r_imul 37 hE (4809 * (i - 1)) dX9_acted_36 rfl rfl ?_
        refine r_iadd 38 hE (9618 + (4809 * (i - 1))) dX9_acted_37 rfl rfl ?_
        refine r_callV 41 hE [0, 3] [1, 2, 4] [(wMo g mo mst mac mmk mr mrd mrm mcm mtp msz mtk mbg men mls mvl mft mfp mfk mdp mto), (wMAll g mo al8)] [(wMTab g mo kd on tw sg le de so), (wMRow g mo ro), (wMNew g mo nf8)] 0 9 ok9 [] (c_X9_copies (by omega) (by omega) (by omega)) dX9_acted_38 rfl rfl wd_1190 wd_1192 ws_48 wd_12 wd_1193 ne_X9 np_X9_copies (Nat.le_of_ble_eq_true rfl)  (by decide) (by decide) rfl (Nat.le_of_ble_eq_true rfl) rfl rfl rfl rfl (by decide) rfl (fun v1 f1 hp => ?_)
        obtain ⟨al9_38, rfl, rfl, h38_0, h38_1⟩ := hp
        show G g E _ _ _ [(wMo g mo mst mac mmk mr mrd mrm mcm mtp msz mtk mbg men mls mvl mft mfp mfk mdp mto), (wMAll g mo al9_38), (wMTab g mo kd on tw sg le de so), (wMRow g mo ro), (wMNew g mo nf8)] 41 [(0, .ref (mo 0)), (1, .int (iI i))] []
        refine r_aload_n 42 hE 0 dX9_acted_41 rfl rfl rfl ?_
        refine r_get 45 hE 0 0 ok9 1 dX9_acted_42 rfl wd_1053 rfl rfl (by decide) rfl ?_
        refine r_iload_n 46 hE 1 dX9_acted_45 rfl rfl rfl ?_
        refine r_iconst 47 hE dX9_acted_46 rfl ?_
        refine r_isub 48 hE (i - 1) dX9_acted_47 rfl rfl ?_
        refine r_aload_n 49 hE 0 dX9_acted_48 rfl rfl rfl ?_
        refine r_get 52 hE 0 0 ok9 1 dX9_acted_49 rfl wd_1053 rfl rfl (by decide) rfl ?_
        refine r_iload_n 53 hE 1 dX9_acted_52 rfl rfl rfl ?_
        refine r_iald 54 hE 4 0 dX9_acted_53 rfl rfl rfl (by omega) ?_
        refine r_iast 55 hE 4 0 (wMNew g mo (up nf8 (i - 1) (nf8 i))) [(wMo g mo mst mac mmk mr mrd mrm mcm mtp msz mtk mbg men mls mvl mft mfp mfk mdp mto), (wMAll g mo al9_38), (wMTab g mo kd on tw sg le de so), (wMRow g mo ro), (wMNew g mo (up nf8 (i - 1) (nf8 i)))] dX9_acted_54 rfl rfl rfl (by omega) rfl rfl ?_
        have h12 : ∀ k, 0 ≤ k → k < i + 1 - 1 → up nf8 (i - 1) (nf8 i) k = nf (k + 1) ∧ ∀ j, 0 ≤ j → j < 4809 → al9_38 (9618 + 4809 * k + j) = al (9618 + 4809 * (k + 1) + j) := fun k a b => by
          by_cases z : k = i - 1
          · subst z
            refine ⟨by rw [up_same, h2.2 i (by omega), show i - 1 + 1 = i by omega], fun j j0 j1 => ?_⟩
            rw [h38_0 j j0 j1, show i - 1 + 1 = i by omega]
            exact h2.1 _ (by omega)
          · have h9 := h1 k a (by omega)
            refine ⟨by rw [up_ne _ _ z]; exact h9.1, fun j j0 j1 => ?_⟩
            rw [h38_1 _ (by omega)]
            exact h9.2 j j0 j1
        have h22 : (∀ j, ¬ (9618 ≤ j ∧ j < 9618 + 4809 * (i + 1 - 1)) → al9_38 j = al j) ∧ ∀ k, i + 1 - 1 ≤ k → up nf8 (i - 1) (nf8 i) k = nf k := ⟨fun j a => by rw [h38_1 _ (by omega)]; exact h2.1 j (by omega), fun k a => by rw [up_ne _ _ (by omega)]; exact h2.2 k (by omega)⟩
        refine r_iinc 58 hE 1 (i + 1) [(1, .int (iI (i + 1))), (0, .ref (mo 0))] dX9_acted_55 rfl rfl rfl (by decide) rfl ?_
        refine r_goto 11 hE dX9_acted_58 (by decide) ?_
        refine G.to (fs' := [(wMo g mo mst mac mmk mr mrd mrm mcm mtp msz mtk mbg men mls mvl mft mfp mfk mdp mto), (wMTab g mo kd on tw sg le de so), (wMRow g mo ro), (wMAll g mo al9_38), (wMNew g mo (up nf8 (i - 1) (nf8 i)))]) (lv' := [(0, .ref (mo 0)), (1, .int (iI (i + 1)))]) [0, 2, 3, 1, 4] [1, 0] rfl rfl rfl ?_
        exact ih11 (i + 1) al9_38 (up nf8 (i - 1) (nf8 i)) (by omega) (by omega) (by first | exact h12 | exact (fun k a b => absurd b (by omega))) (by first | exact h22 | exact ⟨fun _ _ => rfl, fun _ _ => rfl⟩) (by omega)
  refine r_aload_n 1 hE 0 dX9_acted_0 rfl rfl rfl ?_
  refine r_get 4 hE 0 0 ok9 3 dX9_acted_1 rfl wd_1055 rfl rfl (by decide) rfl ?_
  refine r_bipush 6 hE dX9_acted_4 rfl (by decide) ?_
  refine r_icmp_ne 9 71 hE dX9_acted_6 rfl (by decide) (by omega) (fun c6 => ?_) (fun c6 => ?_)
  · skip
    exact cut71 mac al nf (by first | exact hA8 | exact ⟨0, by rw [if_neg c6], by omega, fun k a b => ⟨by rw [Int.add_zero], fun j _ _ => by rw [Int.add_zero]⟩, fun _ _ => rfl⟩)
  · skip
    refine r_iconst 10 hE dX9_acted_9 rfl ?_
    refine r_istore_n 11 hE [(1, .int (iI 1)), (0, .ref (mo 0))] dX9_acted_10 rfl rfl (by decide) rfl ?_
    refine G.to (fs' := [(wMo g mo mst mac mmk mr mrd mrm mcm mtp msz mtk mbg men mls mvl mft mfp mfk mdp mto), (wMTab g mo kd on tw sg le de so), (wMRow g mo ro), (wMAll g mo al), (wMNew g mo nf)]) (lv' := [(0, .ref (mo 0)), (1, .int (iI 1))]) [0, 1, 2, 3, 4] [1, 0] rfl rfl rfl ?_
    exact cut11 _ 1 al nf (by omega) (by omega) (by first | exact h12 | exact (fun k a b => absurd b (by omega))) (by first | exact h22 | exact ⟨fun _ _ => rfl, fun _ _ => rfl⟩) (Nat.lt_succ_self _)
set_option maxHeartbeats 4000000 in
set_option maxRecDepth 100000 in
theorem c_X9_acted_ {g : Gm} {mo : Nat → Nat} {mst mac mmk mr mrd mrm mcm mtp msz mtk mbg men mls mvl mft mfp mfk mdp mto : Int} {al : Int → Int} {kd on tw sg le de so : Int → Int} {R : Int → Rl} {ro : Int → Int} {nf : Int → Int} {v : Int} (hM : MTx al) (hAs : TOk (oF al 4809) (oN al 4809) (al (4809 + 0))) (hac : 0 ≤ mac ∧ mac ≤ 8) : Ct g 8 0 0 yX9_acted_ cX9_acted_ 2 (some .int) [.ref (mo 0), .int (iI v)] [(wMo g mo mst mac mmk mr mrd mrm mcm mtp msz mtk mbg men mls mvl mft mfp mfk mdp mto), (wMTab g mo kd on tw sg le de so), (wMRow g mo ro), (wMAll g mo al), (wMNew g mo nf)] (fun v_ w_ => ∃ kd9 : Int → Int, ∃ on9 : Int → Int, ∃ tw9 : Int → Int, ∃ sg9 : Int → Int, ∃ le9 : Int → Int, ∃ de9 : Int → Int, ∃ so9 : Int → Int, ∃ mr9 : Int, ∃ R9 : Int → Rl, ∃ ro9 : Int → Int, ∃ mrd9 : Int, ∃ mrm9 : Int, ∃ al9 : Int → Int, ∃ nf9 : Int → Int, ∃ mac9 : Int, ∃ news : Int, v_ = some (.int (iI v)) ∧ w_ = [(wMo g mo 0 mac9 mmk mr9 mrd9 mrm9 mcm mtp msz mtk mbg men mls mvl mft mfp mfk mdp mto), (wMTab g mo kd9 on9 tw9 sg9 le9 de9 so9), (wMRow g mo ro9), (wMAll g mo al9), (wMNew g mo nf9)] ∧ (AcR al nf 4809 mac al9 nf9 mac9 news) ∧ (∀ j, j < 9618 → al9 j = al j) ∧ (NewsF (oF al9 4809) (oN al9 4809) (al9 (4809 + 0)) (mF al9) (mN al9) (al9 0) news) ∧ (1 ≤ mac9 ∧ mac9 ≤ 8)) := by
  refine Ct.of (by decide) (Nat.le_of_ble_eq_true rfl) (lv := [(0, .ref (mo 0)), (1, .int (iI v))]) rfl ?_
  intro E hE hR hnm
  refine r_aload_n 1 hE 0 dX9_acted__0 rfl rfl rfl ?_
  refine r_callV 4 hE [0, 1, 2, 3, 4] [] [(wMo g mo mst mac mmk mr mrd mrm mcm mtp msz mtk mbg men mls mvl mft mfp mfk mdp mto), (wMTab g mo kd on tw sg le de so), (wMRow g mo ro), (wMAll g mo al), (wMNew g mo nf)] [] 0 9 ok9 [] (c_X9_acted (R := R) (hM) (hAs) (hac)) dX9_acted__1 rfl rfl wd_1294 wd_1296 ws_70 wd_12 wd_1297 ne_X9 np_X9_acted (Nat.le_of_ble_eq_true rfl)  (by decide) (by decide) rfl (Nat.le_of_ble_eq_true rfl) rfl rfl rfl rfl (by decide) rfl (fun v1 f1 hp => ?_)
  obtain ⟨kd9_1, on9_1, tw9_1, sg9_1, le9_1, de9_1, so9_1, mr9_1, R9_1, ro9_1, mrd9_1, mrm9_1, al9_1, nf9_1, mac9_1, news_1, rfl, rfl, h1_0, h1_1, h1_2, h1_3⟩ := hp
  show G g E _ _ _ [(wMo g mo mst mac9_1 mmk mr9_1 mrd9_1 mrm9_1 mcm mtp msz mtk mbg men mls mvl mft mfp mfk mdp mto), (wMTab g mo kd9_1 on9_1 tw9_1 sg9_1 le9_1 de9_1 so9_1), (wMRow g mo ro9_1), (wMAll g mo al9_1), (wMNew g mo nf9_1)] 4 [(0, .ref (mo 0)), (1, .int (iI v))] []
  refine r_aload_n 5 hE 0 dX9_acted__4 rfl rfl rfl ?_
  refine r_iload_n 6 hE 1 dX9_acted__5 rfl rfl rfl ?_
  refine r_callV 9 hE [0] [1, 2, 3, 4] [(wMo g mo mst mac9_1 mmk mr9_1 mrd9_1 mrm9_1 mcm mtp msz mtk mbg men mls mvl mft mfp mfk mdp mto)] [(wMTab g mo kd9_1 on9_1 tw9_1 sg9_1 le9_1 de9_1 so9_1), (wMRow g mo ro9_1), (wMAll g mo al9_1), (wMNew g mo nf9_1)] 0 9 ok9 [] (c_X9_gives) dX9_acted__6 rfl rfl wd_1334 wd_1336 ws_79 wd_12 wd_1337 ne_X9 np_X9_gives (Nat.le_of_ble_eq_true rfl)  (by decide) (by decide) rfl (Nat.le_of_ble_eq_true rfl) rfl rfl rfl rfl (by decide) rfl (fun v1 f1 hp => ?_)
  obtain ⟨rfl, rfl⟩ := hp
  show G g E _ _ _ [(wMo g mo 0 mac9_1 mmk mr9_1 mrd9_1 mrm9_1 mcm mtp msz mtk mbg men mls mvl mft mfp mfk mdp mto), (wMTab g mo kd9_1 on9_1 tw9_1 sg9_1 le9_1 de9_1 so9_1), (wMRow g mo ro9_1), (wMAll g mo al9_1), (wMNew g mo nf9_1)] 9 [(0, .ref (mo 0)), (1, .int (iI v))] [.int (iI v)]
  refine r_ireturn hE hR [(wMo g mo 0 mac9_1 mmk mr9_1 mrd9_1 mrm9_1 mcm mtp msz mtk mbg men mls mvl mft mfp mfk mdp mto), (wMTab g mo kd9_1 on9_1 tw9_1 sg9_1 le9_1 de9_1 so9_1), (wMRow g mo ro9_1), (wMAll g mo al9_1), (wMNew g mo nf9_1)] dX9_acted__9 (Nat.le_of_ble_eq_true rfl) (Nat.le_of_ble_eq_true rfl) rfl ?_
  exact ⟨kd9_1, on9_1, tw9_1, sg9_1, le9_1, de9_1, so9_1, mr9_1, R9_1, ro9_1, mrd9_1, mrm9_1, al9_1, nf9_1, mac9_1, news_1, rfl, rfl, h1_0, h1_1, h1_2, h1_3⟩
set_option maxHeartbeats 4000000 in
set_option maxRecDepth 100000 in
theorem c_X9_undo {g : Gm} {mo : Nat → Nat} {mst mac mmk mr mrd mrm mcm mtp msz mtk mbg men mls mvl mft mfp mfk mdp mto : Int} {al : Int → Int} (hac : 1 ≤ mac ∧ mac ≤ 8) : Ct g 1 0 0 yX9_undo cX9_undo 1 (some .int) [.ref (mo 0)] [(wMo g mo mst mac mmk mr mrd mrm mcm mtp msz mtk mbg men mls mvl mft mfp mfk mdp mto), (wMAll g mo al)] (fun v_ w_ => ∃ al9 : Int → Int, v_ = some (.int (iI (mac - 1))) ∧ w_ = [(wMo g mo 0 (mac - 1) mmk mr mrd mrm mcm mtp msz mtk mbg men mls mvl mft mfp mfk mdp mto), (wMAll g mo al9)] ∧ (∀ j, 0 ≤ j → j < 4809 → al9 (0 + j) = al (9618 + 4809 * (mac - 1) + j)) ∧ (∀ j, 4809 ≤ j → al9 j = al j)) := by
  refine Ct.of (by decide) (Nat.le_of_ble_eq_true rfl) (lv := [(0, .ref (mo 0))]) rfl ?_
  intro E hE hR hnm
  refine r_aload_n 1 hE 0 dX9_undo_0 rfl rfl rfl ?_
  refine r_get 4 hE 0 0 ok9 3 dX9_undo_1 rfl wd_1055 rfl rfl (by decide) rfl ?_
  refine r_if_ne 7 13 hE dX9_undo_4 rfl (by decide) (by omega) (fun c4 => ?_) (fun c4 => ?_)
  · skip
    refine r_aload_n 14 hE 0 dX9_undo_13 rfl rfl rfl ?_
    refine r_dup 15 hE dX9_undo_14 rfl rfl ?_
    refine r_get 18 hE 0 0 ok9 3 dX9_undo_15 rfl wd_1055 rfl rfl (by decide) rfl ?_
    refine r_iconst 19 hE dX9_undo_18 rfl ?_
    refine r_isub 20 hE (mac - 1) dX9_undo_19 rfl rfl ?_
    refine r_put 23 hE 0 0 ok9 3 (wMo g mo mst (mac - 1) mmk mr mrd mrm mcm mtp msz mtk mbg men mls mvl mft mfp mfk mdp mto) [(wMo g mo mst (mac - 1) mmk mr mrd mrm mcm mtp msz mtk mbg men mls mvl mft mfp mfk mdp mto), (wMAll g mo al)] dX9_undo_20 rfl wd_1055 rfl rfl (by decide) rfl rfl rfl (Nat.le_of_ble_eq_true rfl) rfl rfl ?_
    refine r_aload_n 24 hE 0 dX9_undo_23 rfl rfl rfl ?_
    refine r_sipush 27 hE dX9_undo_24 rfl (by decide) ?_
    refine r_sipush 30 hE dX9_undo_27 rfl (by decide) ?_
    refine r_aload_n 31 hE 0 dX9_undo_30 rfl rfl rfl ?_
    refine r_get 34 hE 0 0 ok9 3 dX9_undo_31 rfl wd_1055 rfl rfl (by decide) rfl ?_
    refine r_imul 35 hE (4809 * (mac - 1)) dX9_undo_34 rfl rfl ?_
    refine r_iadd 36 hE (9618 + (4809 * (mac - 1))) dX9_undo_35 rfl rfl ?_
    refine r_iconst 37 hE dX9_undo_36 rfl ?_
    refine r_callV 40 hE [0, 1] [] [(wMo g mo mst (mac - 1) mmk mr mrd mrm mcm mtp msz mtk mbg men mls mvl mft mfp mfk mdp mto), (wMAll g mo al)] [] 0 9 ok9 [] (c_X9_copies (by omega) (by omega) (by omega)) dX9_undo_37 rfl rfl wd_1190 wd_1192 ws_48 wd_12 wd_1193 ne_X9 np_X9_copies (Nat.le_of_ble_eq_true rfl)  (by decide) (by decide) rfl (Nat.le_of_ble_eq_true rfl) rfl rfl rfl rfl (by decide) rfl (fun v1 f1 hp => ?_)
    obtain ⟨al9_37, rfl, rfl, h37_0, h37_1⟩ := hp
    show G g E _ _ _ [(wMo g mo mst (mac - 1) mmk mr mrd mrm mcm mtp msz mtk mbg men mls mvl mft mfp mfk mdp mto), (wMAll g mo al9_37)] 40 [(0, .ref (mo 0))] []
    refine r_aload_n 41 hE 0 dX9_undo_40 rfl rfl rfl ?_
    refine r_aload_n 42 hE 0 dX9_undo_41 rfl rfl rfl ?_
    refine r_get 45 hE 0 0 ok9 3 dX9_undo_42 rfl wd_1055 rfl rfl (by decide) rfl ?_
    refine r_callV 48 hE [0] [1] [(wMo g mo mst (mac - 1) mmk mr mrd mrm mcm mtp msz mtk mbg men mls mvl mft mfp mfk mdp mto)] [(wMAll g mo al9_37)] 0 9 ok9 [] (c_X9_gives) dX9_undo_45 rfl rfl wd_1334 wd_1336 ws_79 wd_12 wd_1337 ne_X9 np_X9_gives (Nat.le_of_ble_eq_true rfl)  (by decide) (by decide) rfl (Nat.le_of_ble_eq_true rfl) rfl rfl rfl rfl (by decide) rfl (fun v1 f1 hp => ?_)
    obtain ⟨rfl, rfl⟩ := hp
    show G g E _ _ _ [(wMo g mo 0 (mac - 1) mmk mr mrd mrm mcm mtp msz mtk mbg men mls mvl mft mfp mfk mdp mto), (wMAll g mo al9_37)] 48 [(0, .ref (mo 0))] [.int (iI (mac - 1))]
    refine r_ireturn hE hR [(wMo g mo 0 (mac - 1) mmk mr mrd mrm mcm mtp msz mtk mbg men mls mvl mft mfp mfk mdp mto), (wMAll g mo al9_37)] dX9_undo_48 (Nat.le_of_ble_eq_true rfl) (Nat.le_of_ble_eq_true rfl) rfl ?_
    exact ⟨_, rfl, rfl, h37_0, fun j a => h37_1 j (by omega)⟩
  · skip
    omega
set_option maxHeartbeats 4000000 in
set_option maxRecDepth 100000 in
theorem c_X9_undo_no {g : Gm} {mo : Nat → Nat} {mst mac mmk mr mrd mrm mcm mtp msz mtk mbg men mls mvl mft mfp mfk mdp mto : Int} (hac : mac = 0) : Ct g 1 0 0 yX9_undo cX9_undo 1 (some .int) [.ref (mo 0)] [(wMo g mo mst mac mmk mr mrd mrm mcm mtp msz mtk mbg men mls mvl mft mfp mfk mdp mto)] (fun v_ w_ => v_ = some (.int (iI (-1))) ∧ w_ = [(wMo g mo 5 mac mmk mr mrd mrm mcm mtp msz mtk mbg men mls mvl mft mfp mfk mdp mto)]) := by
  refine Ct.of (by decide) (Nat.le_of_ble_eq_true rfl) (lv := [(0, .ref (mo 0))]) rfl ?_
  intro E hE hR hnm
  refine r_aload_n 1 hE 0 dX9_undo_0 rfl rfl rfl ?_
  refine r_get 4 hE 0 0 ok9 3 dX9_undo_1 rfl wd_1055 rfl rfl (by decide) rfl ?_
  refine r_if_ne 7 13 hE dX9_undo_4 rfl (by decide) (by omega) (fun c4 => ?_) (fun c4 => ?_)
  · skip
    omega
  · skip
    refine r_aload_n 8 hE 0 dX9_undo_7 rfl rfl rfl ?_
    refine r_iconst 9 hE dX9_undo_8 rfl ?_
    refine r_callV 12 hE [0] [] [(wMo g mo mst mac mmk mr mrd mrm mcm mtp msz mtk mbg men mls mvl mft mfp mfk mdp mto)] [] 0 9 ok9 [] (c_X9_refuse) dX9_undo_9 rfl rfl wd_1186 wd_1188 ws_47 wd_12 wd_1189 ne_X9 np_X9_refuse (Nat.le_of_ble_eq_true rfl)  (by decide) (by decide) rfl (Nat.le_of_ble_eq_true rfl) rfl rfl rfl rfl (by decide) rfl (fun v1 f1 hp => ?_)
    obtain ⟨rfl, rfl⟩ := hp
    show G g E _ _ _ [(wMo g mo 5 mac mmk mr mrd mrm mcm mtp msz mtk mbg men mls mvl mft mfp mfk mdp mto)] 12 [(0, .ref (mo 0))] [.int (iI (-1))]
    refine r_ireturn hE hR [(wMo g mo 5 mac mmk mr mrd mrm mcm mtp msz mtk mbg men mls mvl mft mfp mfk mdp mto)] dX9_undo_12 (Nat.le_of_ble_eq_true rfl) (Nat.le_of_ble_eq_true rfl) rfl ?_
    exact ⟨retI (rfl), rfl⟩
set_option maxHeartbeats 4000000 in
set_option maxRecDepth 100000 in
theorem c_X9_mark {g : Gm} {mo : Nat → Nat} {mst mac mmk mr mrd mrm mcm mtp msz mtk mbg men mls mvl mft mfp mfk mdp mto : Int} {al : Int → Int} (hmk : 0 ≤ mmk ∧ mmk < 3) : Ct g 1 0 0 yX9_mark cX9_mark 1 (some .int) [.ref (mo 0)] [(wMo g mo mst mac mmk mr mrd mrm mcm mtp msz mtk mbg men mls mvl mft mfp mfk mdp mto), (wMAll g mo al)] (fun v_ w_ => ∃ al9 : Int → Int, v_ = some (.int (iI (mmk + 1))) ∧ w_ = [(wMo g mo 0 mac (mmk + 1) mr mrd mrm mcm mtp msz mtk mbg men mls mvl mft mfp mfk mdp mto), (wMAll g mo al9)] ∧ (∀ j, 0 ≤ j → j < 4809 → al9 (48090 + 4809 * mmk + j) = al (0 + j)) ∧ (∀ j, ¬ (48090 + 4809 * mmk ≤ j ∧ j < 48090 + 4809 * mmk + 4809) → al9 j = al j)) := by
  refine Ct.of (by decide) (Nat.le_of_ble_eq_true rfl) (lv := [(0, .ref (mo 0))]) rfl ?_
  intro E hE hR hnm
  refine r_aload_n 1 hE 0 dX9_mark_0 rfl rfl rfl ?_
  refine r_get 4 hE 0 0 ok9 4 dX9_mark_1 rfl wd_1056 rfl rfl (by decide) rfl ?_
  refine r_iconst 5 hE dX9_mark_4 rfl ?_
  refine r_icmp_ne 8 14 hE dX9_mark_5 rfl (by decide) (by omega) (fun c5 => ?_) (fun c5 => ?_)
  · skip
    refine r_aload_n 15 hE 0 dX9_mark_14 rfl rfl rfl ?_
    refine r_iconst 16 hE dX9_mark_15 rfl ?_
    refine r_ldcw 19 hE dX9_mark_16 rfl wd_1410 (by decide : _ = iI 48090) ?_
    refine r_sipush 22 hE dX9_mark_19 rfl (by decide) ?_
    refine r_aload_n 23 hE 0 dX9_mark_22 rfl rfl rfl ?_
    refine r_get 26 hE 0 0 ok9 4 dX9_mark_23 rfl wd_1056 rfl rfl (by decide) rfl ?_
    refine r_imul 27 hE (4809 * mmk) dX9_mark_26 rfl rfl ?_
    refine r_iadd 28 hE (48090 + (4809 * mmk)) dX9_mark_27 rfl rfl ?_
    refine r_callV 31 hE [0, 1] [] [(wMo g mo mst mac mmk mr mrd mrm mcm mtp msz mtk mbg men mls mvl mft mfp mfk mdp mto), (wMAll g mo al)] [] 0 9 ok9 [] (c_X9_copies (by omega) (by omega) (by omega)) dX9_mark_28 rfl rfl wd_1190 wd_1192 ws_48 wd_12 wd_1193 ne_X9 np_X9_copies (Nat.le_of_ble_eq_true rfl)  (by decide) (by decide) rfl (Nat.le_of_ble_eq_true rfl) rfl rfl rfl rfl (by decide) rfl (fun v1 f1 hp => ?_)
    obtain ⟨al9_28, rfl, rfl, h28_0, h28_1⟩ := hp
    show G g E _ _ _ [(wMo g mo mst mac mmk mr mrd mrm mcm mtp msz mtk mbg men mls mvl mft mfp mfk mdp mto), (wMAll g mo al9_28)] 31 [(0, .ref (mo 0))] []
    refine r_aload_n 32 hE 0 dX9_mark_31 rfl rfl rfl ?_
    refine r_dup 33 hE dX9_mark_32 rfl rfl ?_
    refine r_get 36 hE 0 0 ok9 4 dX9_mark_33 rfl wd_1056 rfl rfl (by decide) rfl ?_
    refine r_iconst 37 hE dX9_mark_36 rfl ?_
    refine r_iadd 38 hE (mmk + 1) dX9_mark_37 rfl rfl ?_
    refine r_put 41 hE 0 0 ok9 4 (wMo g mo mst mac (mmk + 1) mr mrd mrm mcm mtp msz mtk mbg men mls mvl mft mfp mfk mdp mto) [(wMo g mo mst mac (mmk + 1) mr mrd mrm mcm mtp msz mtk mbg men mls mvl mft mfp mfk mdp mto), (wMAll g mo al9_28)] dX9_mark_38 rfl wd_1056 rfl rfl (by decide) rfl rfl rfl (Nat.le_of_ble_eq_true rfl) rfl rfl ?_
    refine r_aload_n 42 hE 0 dX9_mark_41 rfl rfl rfl ?_
    refine r_aload_n 43 hE 0 dX9_mark_42 rfl rfl rfl ?_
    refine r_get 46 hE 0 0 ok9 4 dX9_mark_43 rfl wd_1056 rfl rfl (by decide) rfl ?_
    refine r_callV 49 hE [0] [1] [(wMo g mo mst mac (mmk + 1) mr mrd mrm mcm mtp msz mtk mbg men mls mvl mft mfp mfk mdp mto)] [(wMAll g mo al9_28)] 0 9 ok9 [] (c_X9_gives) dX9_mark_46 rfl rfl wd_1334 wd_1336 ws_79 wd_12 wd_1337 ne_X9 np_X9_gives (Nat.le_of_ble_eq_true rfl)  (by decide) (by decide) rfl (Nat.le_of_ble_eq_true rfl) rfl rfl rfl rfl (by decide) rfl (fun v1 f1 hp => ?_)
    obtain ⟨rfl, rfl⟩ := hp
    show G g E _ _ _ [(wMo g mo 0 mac (mmk + 1) mr mrd mrm mcm mtp msz mtk mbg men mls mvl mft mfp mfk mdp mto), (wMAll g mo al9_28)] 49 [(0, .ref (mo 0))] [.int (iI (mmk + 1))]
    refine r_ireturn hE hR [(wMo g mo 0 mac (mmk + 1) mr mrd mrm mcm mtp msz mtk mbg men mls mvl mft mfp mfk mdp mto), (wMAll g mo al9_28)] dX9_mark_49 (Nat.le_of_ble_eq_true rfl) (Nat.le_of_ble_eq_true rfl) rfl ?_
    exact ⟨_, rfl, rfl, h28_0, h28_1⟩
  · skip
    omega
set_option maxHeartbeats 4000000 in
set_option maxRecDepth 100000 in
theorem c_X9_mark_no {g : Gm} {mo : Nat → Nat} {mst mac mmk mr mrd mrm mcm mtp msz mtk mbg men mls mvl mft mfp mfk mdp mto : Int} (hmk : mmk = 3) : Ct g 1 0 0 yX9_mark cX9_mark 1 (some .int) [.ref (mo 0)] [(wMo g mo mst mac mmk mr mrd mrm mcm mtp msz mtk mbg men mls mvl mft mfp mfk mdp mto)] (fun v_ w_ => v_ = some (.int (iI (-1))) ∧ w_ = [(wMo g mo 3 mac mmk mr mrd mrm mcm mtp msz mtk mbg men mls mvl mft mfp mfk mdp mto)]) := by
  refine Ct.of (by decide) (Nat.le_of_ble_eq_true rfl) (lv := [(0, .ref (mo 0))]) rfl ?_
  intro E hE hR hnm
  refine r_aload_n 1 hE 0 dX9_mark_0 rfl rfl rfl ?_
  refine r_get 4 hE 0 0 ok9 4 dX9_mark_1 rfl wd_1056 rfl rfl (by decide) rfl ?_
  refine r_iconst 5 hE dX9_mark_4 rfl ?_
  refine r_icmp_ne 8 14 hE dX9_mark_5 rfl (by decide) (by omega) (fun c5 => ?_) (fun c5 => ?_)
  · skip
    omega
  · skip
    refine r_aload_n 9 hE 0 dX9_mark_8 rfl rfl rfl ?_
    refine r_iconst 10 hE dX9_mark_9 rfl ?_
    refine r_callV 13 hE [0] [] [(wMo g mo mst mac mmk mr mrd mrm mcm mtp msz mtk mbg men mls mvl mft mfp mfk mdp mto)] [] 0 9 ok9 [] (c_X9_refuse) dX9_mark_10 rfl rfl wd_1186 wd_1188 ws_47 wd_12 wd_1189 ne_X9 np_X9_refuse (Nat.le_of_ble_eq_true rfl)  (by decide) (by decide) rfl (Nat.le_of_ble_eq_true rfl) rfl rfl rfl rfl (by decide) rfl (fun v1 f1 hp => ?_)
    obtain ⟨rfl, rfl⟩ := hp
    show G g E _ _ _ [(wMo g mo 3 mac mmk mr mrd mrm mcm mtp msz mtk mbg men mls mvl mft mfp mfk mdp mto)] 13 [(0, .ref (mo 0))] [.int (iI (-1))]
    refine r_ireturn hE hR [(wMo g mo 3 mac mmk mr mrd mrm mcm mtp msz mtk mbg men mls mvl mft mfp mfk mdp mto)] dX9_mark_13 (Nat.le_of_ble_eq_true rfl) (Nat.le_of_ble_eq_true rfl) rfl ?_
    exact ⟨retI (rfl), rfl⟩
set_option maxHeartbeats 4000000 in
set_option maxRecDepth 100000 in
theorem c_X9_back {g : Gm} {mo : Nat → Nat} {mst mac mmk mr mrd mrm mcm mtp msz mtk mbg men mls mvl mft mfp mfk mdp mto : Int} {al : Int → Int} (hmk : 1 ≤ mmk ∧ mmk ≤ 3) : Ct g 1 0 0 yX9_back cX9_back 1 (some .int) [.ref (mo 0)] [(wMo g mo mst mac mmk mr mrd mrm mcm mtp msz mtk mbg men mls mvl mft mfp mfk mdp mto), (wMAll g mo al)] (fun v_ w_ => ∃ al9 : Int → Int, v_ = some (.int (iI (mmk - 1))) ∧ w_ = [(wMo g mo 0 mac (mmk - 1) mr mrd mrm mcm mtp msz mtk mbg men mls mvl mft mfp mfk mdp mto), (wMAll g mo al9)] ∧ (∀ j, 0 ≤ j → j < 4809 → al9 (0 + j) = al (48090 + 4809 * (mmk - 1) + j)) ∧ (∀ j, 4809 ≤ j → al9 j = al j)) := by
  refine Ct.of (by decide) (Nat.le_of_ble_eq_true rfl) (lv := [(0, .ref (mo 0))]) rfl ?_
  intro E hE hR hnm
  refine r_aload_n 1 hE 0 dX9_back_0 rfl rfl rfl ?_
  refine r_get 4 hE 0 0 ok9 4 dX9_back_1 rfl wd_1056 rfl rfl (by decide) rfl ?_
  refine r_if_ne 7 13 hE dX9_back_4 rfl (by decide) (by omega) (fun c4 => ?_) (fun c4 => ?_)
  · skip
    refine r_aload_n 14 hE 0 dX9_back_13 rfl rfl rfl ?_
    refine r_dup 15 hE dX9_back_14 rfl rfl ?_
    refine r_get 18 hE 0 0 ok9 4 dX9_back_15 rfl wd_1056 rfl rfl (by decide) rfl ?_
    refine r_iconst 19 hE dX9_back_18 rfl ?_
    refine r_isub 20 hE (mmk - 1) dX9_back_19 rfl rfl ?_
    refine r_put 23 hE 0 0 ok9 4 (wMo g mo mst mac (mmk - 1) mr mrd mrm mcm mtp msz mtk mbg men mls mvl mft mfp mfk mdp mto) [(wMo g mo mst mac (mmk - 1) mr mrd mrm mcm mtp msz mtk mbg men mls mvl mft mfp mfk mdp mto), (wMAll g mo al)] dX9_back_20 rfl wd_1056 rfl rfl (by decide) rfl rfl rfl (Nat.le_of_ble_eq_true rfl) rfl rfl ?_
    refine r_aload_n 24 hE 0 dX9_back_23 rfl rfl rfl ?_
    refine r_ldcw 27 hE dX9_back_24 rfl wd_1410 (by decide : _ = iI 48090) ?_
    refine r_sipush 30 hE dX9_back_27 rfl (by decide) ?_
    refine r_aload_n 31 hE 0 dX9_back_30 rfl rfl rfl ?_
    refine r_get 34 hE 0 0 ok9 4 dX9_back_31 rfl wd_1056 rfl rfl (by decide) rfl ?_
    refine r_imul 35 hE (4809 * (mmk - 1)) dX9_back_34 rfl rfl ?_
    refine r_iadd 36 hE (48090 + (4809 * (mmk - 1))) dX9_back_35 rfl rfl ?_
    refine r_iconst 37 hE dX9_back_36 rfl ?_
    refine r_callV 40 hE [0, 1] [] [(wMo g mo mst mac (mmk - 1) mr mrd mrm mcm mtp msz mtk mbg men mls mvl mft mfp mfk mdp mto), (wMAll g mo al)] [] 0 9 ok9 [] (c_X9_copies (by omega) (by omega) (by omega)) dX9_back_37 rfl rfl wd_1190 wd_1192 ws_48 wd_12 wd_1193 ne_X9 np_X9_copies (Nat.le_of_ble_eq_true rfl)  (by decide) (by decide) rfl (Nat.le_of_ble_eq_true rfl) rfl rfl rfl rfl (by decide) rfl (fun v1 f1 hp => ?_)
    obtain ⟨al9_37, rfl, rfl, h37_0, h37_1⟩ := hp
    show G g E _ _ _ [(wMo g mo mst mac (mmk - 1) mr mrd mrm mcm mtp msz mtk mbg men mls mvl mft mfp mfk mdp mto), (wMAll g mo al9_37)] 40 [(0, .ref (mo 0))] []
    refine r_aload_n 41 hE 0 dX9_back_40 rfl rfl rfl ?_
    refine r_aload_n 42 hE 0 dX9_back_41 rfl rfl rfl ?_
    refine r_get 45 hE 0 0 ok9 4 dX9_back_42 rfl wd_1056 rfl rfl (by decide) rfl ?_
    refine r_callV 48 hE [0] [1] [(wMo g mo mst mac (mmk - 1) mr mrd mrm mcm mtp msz mtk mbg men mls mvl mft mfp mfk mdp mto)] [(wMAll g mo al9_37)] 0 9 ok9 [] (c_X9_gives) dX9_back_45 rfl rfl wd_1334 wd_1336 ws_79 wd_12 wd_1337 ne_X9 np_X9_gives (Nat.le_of_ble_eq_true rfl)  (by decide) (by decide) rfl (Nat.le_of_ble_eq_true rfl) rfl rfl rfl rfl (by decide) rfl (fun v1 f1 hp => ?_)
    obtain ⟨rfl, rfl⟩ := hp
    show G g E _ _ _ [(wMo g mo 0 mac (mmk - 1) mr mrd mrm mcm mtp msz mtk mbg men mls mvl mft mfp mfk mdp mto), (wMAll g mo al9_37)] 48 [(0, .ref (mo 0))] [.int (iI (mmk - 1))]
    refine r_ireturn hE hR [(wMo g mo 0 mac (mmk - 1) mr mrd mrm mcm mtp msz mtk mbg men mls mvl mft mfp mfk mdp mto), (wMAll g mo al9_37)] dX9_back_48 (Nat.le_of_ble_eq_true rfl) (Nat.le_of_ble_eq_true rfl) rfl ?_
    exact ⟨_, rfl, rfl, h37_0, fun j a => h37_1 j (by omega)⟩
  · skip
    omega
set_option maxHeartbeats 4000000 in
set_option maxRecDepth 100000 in
theorem c_X9_back_no {g : Gm} {mo : Nat → Nat} {mst mac mmk mr mrd mrm mcm mtp msz mtk mbg men mls mvl mft mfp mfk mdp mto : Int} (hmk : mmk = 0) : Ct g 1 0 0 yX9_back cX9_back 1 (some .int) [.ref (mo 0)] [(wMo g mo mst mac mmk mr mrd mrm mcm mtp msz mtk mbg men mls mvl mft mfp mfk mdp mto)] (fun v_ w_ => v_ = some (.int (iI (-1))) ∧ w_ = [(wMo g mo 5 mac mmk mr mrd mrm mcm mtp msz mtk mbg men mls mvl mft mfp mfk mdp mto)]) := by
  refine Ct.of (by decide) (Nat.le_of_ble_eq_true rfl) (lv := [(0, .ref (mo 0))]) rfl ?_
  intro E hE hR hnm
  refine r_aload_n 1 hE 0 dX9_back_0 rfl rfl rfl ?_
  refine r_get 4 hE 0 0 ok9 4 dX9_back_1 rfl wd_1056 rfl rfl (by decide) rfl ?_
  refine r_if_ne 7 13 hE dX9_back_4 rfl (by decide) (by omega) (fun c4 => ?_) (fun c4 => ?_)
  · skip
    omega
  · skip
    refine r_aload_n 8 hE 0 dX9_back_7 rfl rfl rfl ?_
    refine r_iconst 9 hE dX9_back_8 rfl ?_
    refine r_callV 12 hE [0] [] [(wMo g mo mst mac mmk mr mrd mrm mcm mtp msz mtk mbg men mls mvl mft mfp mfk mdp mto)] [] 0 9 ok9 [] (c_X9_refuse) dX9_back_9 rfl rfl wd_1186 wd_1188 ws_47 wd_12 wd_1189 ne_X9 np_X9_refuse (Nat.le_of_ble_eq_true rfl)  (by decide) (by decide) rfl (Nat.le_of_ble_eq_true rfl) rfl rfl rfl rfl (by decide) rfl (fun v1 f1 hp => ?_)
    obtain ⟨rfl, rfl⟩ := hp
    show G g E _ _ _ [(wMo g mo 5 mac mmk mr mrd mrm mcm mtp msz mtk mbg men mls mvl mft mfp mfk mdp mto)] 12 [(0, .ref (mo 0))] [.int (iI (-1))]
    refine r_ireturn hE hR [(wMo g mo 5 mac mmk mr mrd mrm mcm mtp msz mtk mbg men mls mvl mft mfp mfk mdp mto)] dX9_back_12 (Nat.le_of_ble_eq_true rfl) (Nat.le_of_ble_eq_true rfl) rfl ?_
    exact ⟨retI (rfl), rfl⟩
