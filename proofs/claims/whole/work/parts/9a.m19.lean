set_option maxHeartbeats 4000000 in
set_option maxRecDepth 100000 in
theorem c_X9_repeat {g : Gm} {mo : Nat → Nat} {mst mac mmk mr mrd mrm mcm mtp msz mtk mbg men mls mvl mft mfp mfk mdp mto : Int} {al : Int → Int} {kd on tw sg le de so : Int → Int} {R : Int → Rl} {ro : Int → Int} {nf : Int → Int} {pl : Int → Int} {t k_ : Int} (hM : MTx al) (hac : 0 ≤ mac ∧ mac ≤ 8) (ht : 0 ≤ t ∧ t < al 0) (hk : 2 ≤ k_ ∧ k_ ≤ 600) (h6 : mN al t * k_ ≤ 600) : Ct g 9 0 0 yX9_repeat cX9_repeat 4 (some .int) [.ref (mo 0), .int (iI t), .int (iI k_)] [(wMo g mo mst mac mmk mr mrd mrm mcm mtp msz mtk mbg men mls mvl mft mfp mfk mdp mto), (wMTab g mo kd on tw sg le de so), (wMRow g mo ro), (wMAll g mo al), (wMNew g mo nf), (wMPil g mo pl)] (fun v_ w_ => ∃ kd9 : Int → Int, ∃ on9 : Int → Int, ∃ tw9 : Int → Int, ∃ sg9 : Int → Int, ∃ le9 : Int → Int, ∃ de9 : Int → Int, ∃ so9 : Int → Int, ∃ mr9 : Int, ∃ R9 : Int → Rl, ∃ ro9 : Int → Int, ∃ mrd9 : Int, ∃ mrm9 : Int, ∃ al9 : Int → Int, ∃ nf9 : Int → Int, ∃ mac9 : Int, ∃ news : Int, ∃ pl9 : Int → Int, ∃ mto9 : Int, v_ = some (.int (iI (mN al t * k_))) ∧ w_ = [(wMo g mo 0 mac9 mmk mr9 mrd9 mrm9 mcm mtp msz mtk mbg men mls mvl mft mfp mfk mdp mto9), (wMTab g mo kd9 on9 tw9 sg9 le9 de9 so9), (wMRow g mo ro9), (wMAll g mo al9), (wMNew g mo nf9), (wMPil g mo pl9)] ∧ (ActIs al nf mac al9 nf9 mac9 news) ∧ (1 ≤ mac9 ∧ mac9 ≤ 8) ∧ (PSet al t (fun k => mF al t (k % mN al t)) (mN al t * k_) al9)) := by
  refine Ct.of (by decide) (Nat.le_of_ble_eq_true rfl) (lv := [(0, .ref (mo 0)), (1, .int (iI t)), (2, .int (iI k_))]) rfl ?_
  intro E hE hR hnm
  have hc := hM.1
  have hl_t := hM.2 t ht.1 ht.2
  have hmul := mul_step (a := mN al t) (b := 1) (c := k_) (by omega) (by omega)
  rw [Int.mul_one] at hmul
  have cut58 : ∀ (N : Nat) (i : Int) (pl9 : Int → Int), (0 ≤ i ∧ i ≤ k_) → (RepIs (mF al t) (mN al t) i pl9) → (k_ - i).toNat < N → G g E 4 0 0 [(wMo g mo mst mac mmk mr mrd mrm mcm mtp msz mtk mbg men mls mvl mft mfp mfk mdp (mN al t * i)), (wMTab g mo kd on tw sg le de so), (wMRow g mo ro), (wMAll g mo al), (wMNew g mo nf), (wMPil g mo pl9)] 58 [(0, .ref (mo 0)), (1, .int (iI t)), (2, .int (iI k_)), (3, .int (iI i))] [] := by
    intro N
    induction N with
    | zero => intro i pl9 _ _ hN; exact absurd hN (Nat.not_lt_zero _)
    | succ N ih58 =>
      intro i pl9 hi hRp hN
      refine r_iload_n 59 hE 3 dX9_repeat_58 rfl rfl rfl ?_
      refine r_iload_n 60 hE 2 dX9_repeat_59 rfl rfl rfl ?_
      refine r_icmp_ge 63 80 hE dX9_repeat_60 rfl (by decide) (by omega) (fun c60 => ?_) (fun c60 => ?_)
      · skip
        refine r_aload_n 81 hE 0 dX9_repeat_80 rfl rfl rfl ?_
        refine r_iconst 82 hE dX9_repeat_81 rfl ?_
        refine r_sipush 85 hE dX9_repeat_82 rfl (by decide) ?_
        refine r_callV 88 hE [0, 3] [1, 2, 4, 5] [(wMo g mo mst mac mmk mr mrd mrm mcm mtp msz mtk mbg men mls mvl mft mfp mfk mdp (mN al t * i)), (wMAll g mo al)] [(wMTab g mo kd on tw sg le de so), (wMRow g mo ro), (wMNew g mo nf), (wMPil g mo pl9)] 0 9 ok9 [] (c_X9_copies (by omega) (by omega) (by omega)) dX9_repeat_85 rfl rfl wd_1190 wd_1192 ws_48 wd_12 wd_1193 ne_X9 np_X9_copies (Nat.le_of_ble_eq_true rfl)  (by decide) (by decide) rfl (Nat.le_of_ble_eq_true rfl) rfl rfl rfl rfl (by decide) rfl (fun v1 f1 hp => ?_)
        obtain ⟨al9_85, rfl, rfl, h85_0, h85_1⟩ := hp
        show G g E _ _ _ [(wMo g mo mst mac mmk mr mrd mrm mcm mtp msz mtk mbg men mls mvl mft mfp mfk mdp (mN al t * i)), (wMAll g mo al9_85), (wMTab g mo kd on tw sg le de so), (wMRow g mo ro), (wMNew g mo nf), (wMPil g mo pl9)] 88 [(0, .ref (mo 0)), (1, .int (iI t)), (2, .int (iI k_)), (3, .int (iI i))] []
        refine r_aload_n 89 hE 0 dX9_repeat_88 rfl rfl rfl ?_
        refine r_iload_n 90 hE 1 dX9_repeat_89 rfl rfl rfl ?_
        refine r_callV 93 hE [0, 1, 5] [2, 3, 4] [(wMo g mo mst mac mmk mr mrd mrm mcm mtp msz mtk mbg men mls mvl mft mfp mfk mdp (mN al t * i)), (wMAll g mo al9_85), (wMPil g mo pl9)] [(wMTab g mo kd on tw sg le de so), (wMRow g mo ro), (wMNew g mo nf)] 0 9 ok9 [] (c_X9_puts (by omega) (by rw [show i = k_ by omega]; omega)) dX9_repeat_90 rfl rfl wd_1289 wd_1291 ws_69 wd_12 wd_1292 ne_X9 np_X9_puts (Nat.le_of_ble_eq_true rfl)  (by decide) (by decide) rfl (Nat.le_of_ble_eq_true rfl) rfl rfl rfl rfl (by decide) rfl (fun v1 f1 hp => ?_)
        obtain ⟨al9_90, rfl, rfl, h90_0⟩ := hp
        show G g E _ _ _ [(wMo g mo mst mac mmk mr mrd mrm mcm mtp msz mtk mbg men mls mvl mft mfp mfk mdp (mN al t * i)), (wMAll g mo al9_90), (wMPil g mo pl9), (wMTab g mo kd on tw sg le de so), (wMRow g mo ro), (wMNew g mo nf)] 93 [(0, .ref (mo 0)), (1, .int (iI t)), (2, .int (iI k_)), (3, .int (iI i))] []
        have hz := h90_0.zero h85_1 ht.1
        have hik : i = k_ := by omega
        rw [hik] at h90_0
        have hpre := (h90_0.pre hM h85_0 h85_1 (by omega) (by omega) (fun k a b => by rw [hRp k a (by rw [hik]; exact b)]; exact hl_t.2 _ (Int.emod_nonneg _ (by omega)) (Int.emod_lt_of_pos _ (by omega))) (al3 := al9_90) (fun j a => rfl) (by rw [hz]; omega)).cg (h := fun k => mF al t (k % mN al t)) rfl (fun k a b => hRp k a (by rw [hik]; exact b))
        refine r_aload_n 94 hE 0 dX9_repeat_93 rfl rfl rfl ?_
        refine r_aload_n 95 hE 0 dX9_repeat_94 rfl rfl rfl ?_
        refine r_iload_n 96 hE 1 dX9_repeat_95 rfl rfl rfl ?_
        refine r_callV 99 hE [0, 1] [2, 3, 4, 5] [(wMo g mo mst mac mmk mr mrd mrm mcm mtp msz mtk mbg men mls mvl mft mfp mfk mdp (mN al t * i)), (wMAll g mo al9_90)] [(wMPil g mo pl9), (wMTab g mo kd on tw sg le de so), (wMRow g mo ro), (wMNew g mo nf)] 0 9 ok9 [.ref (mo 0)] (c_X9_sizeOf (by omega)) dX9_repeat_96 rfl rfl wd_1273 wd_1275 ws_65 wd_12 wd_1276 ne_X9 np_X9_sizeOf (Nat.le_of_ble_eq_true rfl)  (by decide) (by decide) rfl (Nat.le_of_ble_eq_true rfl) rfl rfl rfl rfl (by decide) rfl (fun v1 f1 hp => ?_)
        obtain ⟨rfl, rfl⟩ := hp
        show G g E _ _ _ [(wMo g mo mst mac mmk mr mrd mrm mcm mtp msz mtk mbg men mls mvl mft mfp mfk mdp (mN al t * i)), (wMAll g mo al9_90), (wMPil g mo pl9), (wMTab g mo kd on tw sg le de so), (wMRow g mo ro), (wMNew g mo nf)] 99 [(0, .ref (mo 0)), (1, .int (iI t)), (2, .int (iI k_)), (3, .int (iI i))] [.int (iI (mN al9_90 t)), .ref (mo 0)]
        refine r_callV 102 hE [0, 3, 4, 1, 5] [2] [(wMo g mo mst mac mmk mr mrd mrm mcm mtp msz mtk mbg men mls mvl mft mfp mfk mdp (mN al t * i)), (wMTab g mo kd on tw sg le de so), (wMRow g mo ro), (wMAll g mo al9_90), (wMNew g mo nf)] [(wMPil g mo pl9)] 0 9 ok9 [] (c_X9_acted_ (R := R) (hpre.ok) (hpre.aside hM) (hac)) dX9_repeat_99 rfl rfl wd_1358 wd_1360 ws_83 wd_12 wd_1361 ne_X9 np_X9_acted_ (Nat.le_of_ble_eq_true rfl)  (by decide) (by decide) rfl (Nat.le_of_ble_eq_true rfl) rfl rfl rfl rfl (by decide) rfl (fun v1 f1 hp => ?_)
        obtain ⟨kd9_99, on9_99, tw9_99, sg9_99, le9_99, de9_99, so9_99, mr9_99, R9_99, ro9_99, mrd9_99, mrm9_99, al9_99, nf9_99, mac9_99, news_99, rfl, rfl, h99_0, h99_1, h99_2, h99_3⟩ := hp
        show G g E _ _ _ [(wMo g mo 0 mac9_99 mmk mr9_99 mrd9_99 mrm9_99 mcm mtp msz mtk mbg men mls mvl mft mfp mfk mdp (mN al t * i)), (wMTab g mo kd9_99 on9_99 tw9_99 sg9_99 le9_99 de9_99 so9_99), (wMRow g mo ro9_99), (wMAll g mo al9_99), (wMNew g mo nf9_99), (wMPil g mo pl9)] 102 [(0, .ref (mo 0)), (1, .int (iI t)), (2, .int (iI k_)), (3, .int (iI i))] [.int (iI (mN al9_90 t))]
        refine r_ireturn hE hR [(wMo g mo 0 mac9_99 mmk mr9_99 mrd9_99 mrm9_99 mcm mtp msz mtk mbg men mls mvl mft mfp mfk mdp (mN al t * i)), (wMTab g mo kd9_99 on9_99 tw9_99 sg9_99 le9_99 de9_99 so9_99), (wMRow g mo ro9_99), (wMAll g mo al9_99), (wMNew g mo nf9_99), (wMPil g mo pl9)] dX9_repeat_102 (Nat.le_of_ble_eq_true rfl) (Nat.le_of_ble_eq_true rfl) rfl ?_
        have hA := hpre.act hM hac h99_0 h99_1 h99_2
        exact ⟨kd9_99, on9_99, tw9_99, sg9_99, le9_99, de9_99, so9_99, mr9_99, R9_99, ro9_99, mrd9_99, mrm9_99, al9_99, nf9_99, mac9_99, news_99, _, _, retI (hpre.now.2.1), rfl, hA.1, h99_3, hA.2⟩
      · skip
        refine r_aload_n 64 hE 0 dX9_repeat_63 rfl rfl rfl ?_
        refine r_iload_n 65 hE 1 dX9_repeat_64 rfl rfl rfl ?_
        refine r_iconst 66 hE dX9_repeat_65 rfl ?_
        refine r_aload_n 67 hE 0 dX9_repeat_66 rfl rfl rfl ?_
        refine r_iload_n 68 hE 1 dX9_repeat_67 rfl rfl rfl ?_
        refine r_callV 71 hE [0, 3] [1, 2, 4, 5] [(wMo g mo mst mac mmk mr mrd mrm mcm mtp msz mtk mbg men mls mvl mft mfp mfk mdp (mN al t * i)), (wMAll g mo al)] [(wMTab g mo kd on tw sg le de so), (wMRow g mo ro), (wMNew g mo nf), (wMPil g mo pl9)] 0 9 ok9 [.int (iI 0), .int (iI t), .ref (mo 0)] (c_X9_sizeOf (by omega)) dX9_repeat_68 rfl rfl wd_1273 wd_1275 ws_65 wd_12 wd_1276 ne_X9 np_X9_sizeOf (Nat.le_of_ble_eq_true rfl)  (by decide) (by decide) rfl (Nat.le_of_ble_eq_true rfl) rfl rfl rfl rfl (by decide) rfl (fun v1 f1 hp => ?_)
        obtain ⟨rfl, rfl⟩ := hp
        show G g E _ _ _ [(wMo g mo mst mac mmk mr mrd mrm mcm mtp msz mtk mbg men mls mvl mft mfp mfk mdp (mN al t * i)), (wMAll g mo al), (wMTab g mo kd on tw sg le de so), (wMRow g mo ro), (wMNew g mo nf), (wMPil g mo pl9)] 71 [(0, .ref (mo 0)), (1, .int (iI t)), (2, .int (iI k_)), (3, .int (iI i))] [.int (iI (mN al t)), .int (iI 0), .int (iI t), .ref (mo 0)]
        refine r_callV 74 hE [0, 1, 5] [2, 3, 4] [(wMo g mo mst mac mmk mr mrd mrm mcm mtp msz mtk mbg men mls mvl mft mfp mfk mdp (mN al t * i)), (wMAll g mo al), (wMPil g mo pl9)] [(wMTab g mo kd on tw sg le de so), (wMRow g mo ro), (wMNew g mo nf)] 0 9 ok9 [] (c_X9_piles (by omega) (by omega) (by have h9 := mul_step (a := mN al t) (b := i) (c := k_) (by omega) (by omega); have h8 := Int.mul_nonneg (a := mN al t) (b := i) (by omega) hi.1; omega)) dX9_repeat_71 rfl rfl wd_1350 wd_1352 ws_81 wd_12 wd_1353 ne_X9 np_X9_piles (Nat.le_of_ble_eq_true rfl)  (by decide) (by decide) rfl (Nat.le_of_ble_eq_true rfl) rfl rfl rfl rfl (by decide) rfl (fun v1 f1 hp => ?_)
        obtain ⟨pl9_71, rfl, rfl, h71_0, h71_1⟩ := hp
        show G g E _ _ _ [(wMo g mo mst mac mmk mr mrd mrm mcm mtp msz mtk mbg men mls mvl mft mfp mfk mdp ((mN al t * i) + (mN al t))), (wMAll g mo al), (wMPil g mo pl9_71), (wMTab g mo kd on tw sg le de so), (wMRow g mo ro), (wMNew g mo nf)] 74 [(0, .ref (mo 0)), (1, .int (iI t)), (2, .int (iI k_)), (3, .int (iI i))] []
        have hR2 := hRp.step (by omega) hi.1 h71_0 h71_1
        refine r_iinc 77 hE 3 (i + 1) [(3, .int (iI (i + 1))), (0, .ref (mo 0)), (1, .int (iI t)), (2, .int (iI k_))] dX9_repeat_74 rfl rfl rfl (by decide) rfl ?_
        refine r_goto 58 hE dX9_repeat_77 (by decide) ?_
        refine G.to (fs' := [(wMo g mo mst mac mmk mr mrd mrm mcm mtp msz mtk mbg men mls mvl mft mfp mfk mdp ((mN al t * i) + (mN al t))), (wMTab g mo kd on tw sg le de so), (wMRow g mo ro), (wMAll g mo al), (wMNew g mo nf), (wMPil g mo pl9_71)]) (lv' := [(0, .ref (mo 0)), (1, .int (iI t)), (2, .int (iI k_)), (3, .int (iI (i + 1)))]) [0, 3, 4, 1, 5, 2] [1, 2, 3, 0] rfl rfl rfl ?_
        refine G.cast (fs' := [(wMo g mo mst mac mmk mr mrd mrm mcm mtp msz mtk mbg men mls mvl mft mfp mfk mdp (mN al t * (i + 1))), (wMTab g mo kd on tw sg le de so), (wMRow g mo ro), (wMAll g mo al), (wMNew g mo nf), (wMPil g mo pl9_71)]) (lv' := [(0, .ref (mo 0)), (1, .int (iI t)), (2, .int (iI k_)), (3, .int (iI (i + 1)))]) (by rw [show mN al t * i + mN al t = mN al t * (i + 1) by rw [Int.mul_add, Int.mul_one]]) rfl ?_
        exact ih58 (i + 1) pl9_71 (by omega) (by first | exact hR2 | exact (fun k a b => absurd b (by rw [Int.mul_zero]; omega))) (by omega)
  refine r_iload_n 1 hE 2 dX9_repeat_0 rfl rfl rfl ?_
  refine r_iconst 2 hE dX9_repeat_1 rfl ?_
  refine r_sipush 5 hE dX9_repeat_2 rfl (by decide) ?_
  refine r_callS 8 hE [] [0, 1, 2, 3, 4, 5] [] [(wMo g mo mst mac mmk mr mrd mrm mcm mtp msz mtk mbg men mls mvl mft mfp mfk mdp mto), (wMTab g mo kd on tw sg le de so), (wMRow g mo ro), (wMAll g mo al), (wMNew g mo nf), (wMPil g mo pl)] [] (c_X9_isFrom (by omega) (by omega) (by omega)) dX9_repeat_5 rfl wd_1183 wd_1184 wd_12 wd_1185 ne_X9 np_X9_isFrom (Nat.le_of_ble_eq_true rfl)  (by decide) (by decide) rfl (Nat.le_of_ble_eq_true rfl) rfl rfl rfl rfl (by decide) (fun v1 f1 hp => ?_)
  obtain ⟨rfl, rfl⟩ := hp
  show G g E _ _ _ [(wMo g mo mst mac mmk mr mrd mrm mcm mtp msz mtk mbg men mls mvl mft mfp mfk mdp mto), (wMTab g mo kd on tw sg le de so), (wMRow g mo ro), (wMAll g mo al), (wMNew g mo nf), (wMPil g mo pl)] 8 [(0, .ref (mo 0)), (1, .int (iI t)), (2, .int (iI k_))] [.int (iI (bI (2 ≤ k_ ∧ k_ ≤ 600)))]
  refine r_if_ne 11 17 hE dX9_repeat_8 rfl (by decide) (bI_rg _) (fun c8 => ?_) (fun c8 => ?_)
  · skip
    have c8 := bI1 c8
    refine r_aload_n 18 hE 0 dX9_repeat_17 rfl rfl rfl ?_
    refine r_iload_n 19 hE 1 dX9_repeat_18 rfl rfl rfl ?_
    refine r_callV 22 hE [0, 3] [1, 2, 4, 5] [(wMo g mo mst mac mmk mr mrd mrm mcm mtp msz mtk mbg men mls mvl mft mfp mfk mdp mto), (wMAll g mo al)] [(wMTab g mo kd on tw sg le de so), (wMRow g mo ro), (wMNew g mo nf), (wMPil g mo pl)] 0 9 ok9 [] (c_X9_isText (by omega) (by omega)) dX9_repeat_19 rfl rfl wd_1346 wd_1348 ws_80 wd_12 wd_1349 ne_X9 np_X9_isText (Nat.le_of_ble_eq_true rfl)  (by decide) (by decide) rfl (Nat.le_of_ble_eq_true rfl) rfl rfl rfl rfl (by decide) rfl (fun v1 f1 hp => ?_)
    obtain ⟨rfl, rfl⟩ := hp
    show G g E _ _ _ [(wMo g mo mst mac mmk mr mrd mrm mcm mtp msz mtk mbg men mls mvl mft mfp mfk mdp mto), (wMAll g mo al), (wMTab g mo kd on tw sg le de so), (wMRow g mo ro), (wMNew g mo nf), (wMPil g mo pl)] 22 [(0, .ref (mo 0)), (1, .int (iI t)), (2, .int (iI k_))] [.int (iI (bI (0 ≤ t ∧ t < al 0)))]
    refine r_if_ne 25 31 hE dX9_repeat_22 rfl (by decide) (bI_rg _) (fun c22 => ?_) (fun c22 => ?_)
    · skip
      have c22 := bI1 c22
      refine r_aload_n 32 hE 0 dX9_repeat_31 rfl rfl rfl ?_
      refine r_iload_n 33 hE 1 dX9_repeat_32 rfl rfl rfl ?_
      refine r_callV 36 hE [0, 1] [2, 3, 4, 5] [(wMo g mo mst mac mmk mr mrd mrm mcm mtp msz mtk mbg men mls mvl mft mfp mfk mdp mto), (wMAll g mo al)] [(wMTab g mo kd on tw sg le de so), (wMRow g mo ro), (wMNew g mo nf), (wMPil g mo pl)] 0 9 ok9 [] (c_X9_sizeOf (by omega)) dX9_repeat_33 rfl rfl wd_1273 wd_1275 ws_65 wd_12 wd_1276 ne_X9 np_X9_sizeOf (Nat.le_of_ble_eq_true rfl)  (by decide) (by decide) rfl (Nat.le_of_ble_eq_true rfl) rfl rfl rfl rfl (by decide) rfl (fun v1 f1 hp => ?_)
      obtain ⟨rfl, rfl⟩ := hp
      show G g E _ _ _ [(wMo g mo mst mac mmk mr mrd mrm mcm mtp msz mtk mbg men mls mvl mft mfp mfk mdp mto), (wMAll g mo al), (wMTab g mo kd on tw sg le de so), (wMRow g mo ro), (wMNew g mo nf), (wMPil g mo pl)] 36 [(0, .ref (mo 0)), (1, .int (iI t)), (2, .int (iI k_))] [.int (iI (mN al t))]
      refine r_iload_n 37 hE 2 dX9_repeat_36 rfl rfl rfl ?_
      refine r_imul 38 hE ((mN al t) * k_) dX9_repeat_37 rfl rfl ?_
      refine r_sipush 41 hE dX9_repeat_38 rfl (by decide) ?_
      refine r_icmp_le 44 51 hE dX9_repeat_41 rfl (by decide) (by omega) (fun c41 => ?_) (fun c41 => ?_)
      · skip
        refine r_aload_n 52 hE 0 dX9_repeat_51 rfl rfl rfl ?_
        refine r_iconst 53 hE dX9_repeat_52 rfl ?_
        refine r_put 56 hE 0 0 ok9 37 (wMo g mo mst mac mmk mr mrd mrm mcm mtp msz mtk mbg men mls mvl mft mfp mfk mdp 0) [(wMo g mo mst mac mmk mr mrd mrm mcm mtp msz mtk mbg men mls mvl mft mfp mfk mdp 0), (wMAll g mo al), (wMTab g mo kd on tw sg le de so), (wMRow g mo ro), (wMNew g mo nf), (wMPil g mo pl)] dX9_repeat_53 rfl wd_1089 rfl rfl (by decide) rfl rfl rfl (Nat.le_of_ble_eq_true rfl) rfl rfl ?_
        refine r_iconst 57 hE dX9_repeat_56 rfl ?_
        refine r_istore_n 58 hE [(3, .int (iI 0)), (0, .ref (mo 0)), (1, .int (iI t)), (2, .int (iI k_))] dX9_repeat_57 rfl rfl (by decide) rfl ?_
        refine G.to (fs' := [(wMo g mo mst mac mmk mr mrd mrm mcm mtp msz mtk mbg men mls mvl mft mfp mfk mdp 0), (wMTab g mo kd on tw sg le de so), (wMRow g mo ro), (wMAll g mo al), (wMNew g mo nf), (wMPil g mo pl)]) (lv' := [(0, .ref (mo 0)), (1, .int (iI t)), (2, .int (iI k_)), (3, .int (iI 0))]) [0, 2, 3, 1, 4, 5] [1, 2, 3, 0] rfl rfl rfl ?_
        refine G.cast (fs' := [(wMo g mo mst mac mmk mr mrd mrm mcm mtp msz mtk mbg men mls mvl mft mfp mfk mdp (mN al t * 0)), (wMTab g mo kd on tw sg le de so), (wMRow g mo ro), (wMAll g mo al), (wMNew g mo nf), (wMPil g mo pl)]) (lv' := [(0, .ref (mo 0)), (1, .int (iI t)), (2, .int (iI k_)), (3, .int (iI 0))]) (by rw [Int.mul_zero]) rfl ?_
        exact cut58 _ 0 pl (by omega) (by first | exact hR2 | exact (fun k a b => absurd b (by rw [Int.mul_zero]; omega))) (Nat.lt_succ_self _)
      · skip
        omega
    · skip
      have c22 := bI0 c22
      omega
  · skip
    have c8 := bI0 c8
    omega
set_option maxHeartbeats 4000000 in
set_option maxRecDepth 100000 in
theorem c_X9_repeat_no {g : Gm} {mo : Nat → Nat} {mst mac mmk mr mrd mrm mcm mtp msz mtk mbg men mls mvl mft mfp mfk mdp mto : Int} {al : Int → Int} {t k_ : Int} (hM : MTx al) (hr_t : -2147483648 ≤ t ∧ t ≤ 2147483647) (hr_k_ : -2147483648 ≤ k_ ∧ k_ ≤ 2147483647) (hno : rpF (mN al) (al 0) t k_ ≠ 0) : Ct g 9 0 0 yX9_repeat cX9_repeat 4 (some .int) [.ref (mo 0), .int (iI t), .int (iI k_)] [(wMo g mo mst mac mmk mr mrd mrm mcm mtp msz mtk mbg men mls mvl mft mfp mfk mdp mto), (wMAll g mo al)] (fun v_ w_ => v_ = some (.int (iI (-1))) ∧ w_ = [(wMo g mo (rpF (mN al) (al 0) t k_) mac mmk mr mrd mrm mcm mtp msz mtk mbg men mls mvl mft mfp mfk mdp mto), (wMAll g mo al)]) := by
  refine Ct.of (by decide) (Nat.le_of_ble_eq_true rfl) (lv := [(0, .ref (mo 0)), (1, .int (iI t)), (2, .int (iI k_))]) rfl ?_
  intro E hE hR hnm
  have hc := hM.1
  refine r_iload_n 1 hE 2 dX9_repeat_0 rfl rfl rfl ?_
  refine r_iconst 2 hE dX9_repeat_1 rfl ?_
  refine r_sipush 5 hE dX9_repeat_2 rfl (by decide) ?_
  refine r_callS 8 hE [] [0, 1] [] [(wMo g mo mst mac mmk mr mrd mrm mcm mtp msz mtk mbg men mls mvl mft mfp mfk mdp mto), (wMAll g mo al)] [] (c_X9_isFrom (by omega) (by omega) (by omega)) dX9_repeat_5 rfl wd_1183 wd_1184 wd_12 wd_1185 ne_X9 np_X9_isFrom (Nat.le_of_ble_eq_true rfl)  (by decide) (by decide) rfl (Nat.le_of_ble_eq_true rfl) rfl rfl rfl rfl (by decide) (fun v1 f1 hp => ?_)
  obtain ⟨rfl, rfl⟩ := hp
  show G g E _ _ _ [(wMo g mo mst mac mmk mr mrd mrm mcm mtp msz mtk mbg men mls mvl mft mfp mfk mdp mto), (wMAll g mo al)] 8 [(0, .ref (mo 0)), (1, .int (iI t)), (2, .int (iI k_))] [.int (iI (bI (2 ≤ k_ ∧ k_ ≤ 600)))]
  refine r_if_ne 11 17 hE dX9_repeat_8 rfl (by decide) (bI_rg _) (fun c8 => ?_) (fun c8 => ?_)
  · skip
    have c8 := bI1 c8
    refine r_aload_n 18 hE 0 dX9_repeat_17 rfl rfl rfl ?_
    refine r_iload_n 19 hE 1 dX9_repeat_18 rfl rfl rfl ?_
    refine r_callV 22 hE [0, 1] [] [(wMo g mo mst mac mmk mr mrd mrm mcm mtp msz mtk mbg men mls mvl mft mfp mfk mdp mto), (wMAll g mo al)] [] 0 9 ok9 [] (c_X9_isText (by omega) (by omega)) dX9_repeat_19 rfl rfl wd_1346 wd_1348 ws_80 wd_12 wd_1349 ne_X9 np_X9_isText (Nat.le_of_ble_eq_true rfl)  (by decide) (by decide) rfl (Nat.le_of_ble_eq_true rfl) rfl rfl rfl rfl (by decide) rfl (fun v1 f1 hp => ?_)
    obtain ⟨rfl, rfl⟩ := hp
    show G g E _ _ _ [(wMo g mo mst mac mmk mr mrd mrm mcm mtp msz mtk mbg men mls mvl mft mfp mfk mdp mto), (wMAll g mo al)] 22 [(0, .ref (mo 0)), (1, .int (iI t)), (2, .int (iI k_))] [.int (iI (bI (0 ≤ t ∧ t < al 0)))]
    refine r_if_ne 25 31 hE dX9_repeat_22 rfl (by decide) (bI_rg _) (fun c22 => ?_) (fun c22 => ?_)
    · skip
      have c22 := bI1 c22
      have hl_t := hM.2 t c22.1 c22.2
      have hml : 0 ≤ mN al t * k_ ∧ mN al t * k_ ≤ 600 * 600 := ⟨Int.mul_nonneg (by omega) (by omega), Int.mul_le_mul (by omega) (by omega) (by omega) (by omega)⟩
      refine r_aload_n 32 hE 0 dX9_repeat_31 rfl rfl rfl ?_
      refine r_iload_n 33 hE 1 dX9_repeat_32 rfl rfl rfl ?_
      refine r_callV 36 hE [0, 1] [] [(wMo g mo mst mac mmk mr mrd mrm mcm mtp msz mtk mbg men mls mvl mft mfp mfk mdp mto), (wMAll g mo al)] [] 0 9 ok9 [] (c_X9_sizeOf (by omega)) dX9_repeat_33 rfl rfl wd_1273 wd_1275 ws_65 wd_12 wd_1276 ne_X9 np_X9_sizeOf (Nat.le_of_ble_eq_true rfl)  (by decide) (by decide) rfl (Nat.le_of_ble_eq_true rfl) rfl rfl rfl rfl (by decide) rfl (fun v1 f1 hp => ?_)
      obtain ⟨rfl, rfl⟩ := hp
      show G g E _ _ _ [(wMo g mo mst mac mmk mr mrd mrm mcm mtp msz mtk mbg men mls mvl mft mfp mfk mdp mto), (wMAll g mo al)] 36 [(0, .ref (mo 0)), (1, .int (iI t)), (2, .int (iI k_))] [.int (iI (mN al t))]
      refine r_iload_n 37 hE 2 dX9_repeat_36 rfl rfl rfl ?_
      refine r_imul 38 hE ((mN al t) * k_) dX9_repeat_37 rfl rfl ?_
      refine r_sipush 41 hE dX9_repeat_38 rfl (by decide) ?_
      refine r_icmp_le 44 51 hE dX9_repeat_41 rfl (by decide) (by omega) (fun c41 => ?_) (fun c41 => ?_)
      · skip
        exact absurd (by unfold rpF; (repeat (first | rw [if_pos (by omega)] | rw [if_neg (by omega)]))) hno
      · skip
        refine r_aload_n 45 hE 0 dX9_repeat_44 rfl rfl rfl ?_
        refine r_bipush 47 hE dX9_repeat_45 rfl (by decide) ?_
        refine r_callV 50 hE [0] [1] [(wMo g mo mst mac mmk mr mrd mrm mcm mtp msz mtk mbg men mls mvl mft mfp mfk mdp mto)] [(wMAll g mo al)] 0 9 ok9 [] (c_X9_refuse) dX9_repeat_47 rfl rfl wd_1186 wd_1188 ws_47 wd_12 wd_1189 ne_X9 np_X9_refuse (Nat.le_of_ble_eq_true rfl)  (by decide) (by decide) rfl (Nat.le_of_ble_eq_true rfl) rfl rfl rfl rfl (by decide) rfl (fun v1 f1 hp => ?_)
        obtain ⟨rfl, rfl⟩ := hp
        show G g E _ _ _ [(wMo g mo 6 mac mmk mr mrd mrm mcm mtp msz mtk mbg men mls mvl mft mfp mfk mdp mto), (wMAll g mo al)] 50 [(0, .ref (mo 0)), (1, .int (iI t)), (2, .int (iI k_))] [.int (iI (-1))]
        refine r_ireturn hE hR [(wMo g mo 6 mac mmk mr mrd mrm mcm mtp msz mtk mbg men mls mvl mft mfp mfk mdp mto), (wMAll g mo al)] dX9_repeat_50 (Nat.le_of_ble_eq_true rfl) (Nat.le_of_ble_eq_true rfl) rfl ?_
        exact ⟨rfl, by unfold rpF; (repeat (first | rw [if_pos (by omega)] | rw [if_neg (by omega)]))⟩
    · skip
      have c22 := bI0 c22
      refine r_aload_n 26 hE 0 dX9_repeat_25 rfl rfl rfl ?_
      refine r_iconst 27 hE dX9_repeat_26 rfl ?_
      refine r_callV 30 hE [0] [1] [(wMo g mo mst mac mmk mr mrd mrm mcm mtp msz mtk mbg men mls mvl mft mfp mfk mdp mto)] [(wMAll g mo al)] 0 9 ok9 [] (c_X9_refuse) dX9_repeat_27 rfl rfl wd_1186 wd_1188 ws_47 wd_12 wd_1189 ne_X9 np_X9_refuse (Nat.le_of_ble_eq_true rfl)  (by decide) (by decide) rfl (Nat.le_of_ble_eq_true rfl) rfl rfl rfl rfl (by decide) rfl (fun v1 f1 hp => ?_)
      obtain ⟨rfl, rfl⟩ := hp
      show G g E _ _ _ [(wMo g mo 2 mac mmk mr mrd mrm mcm mtp msz mtk mbg men mls mvl mft mfp mfk mdp mto), (wMAll g mo al)] 30 [(0, .ref (mo 0)), (1, .int (iI t)), (2, .int (iI k_))] [.int (iI (-1))]
      refine r_ireturn hE hR [(wMo g mo 2 mac mmk mr mrd mrm mcm mtp msz mtk mbg men mls mvl mft mfp mfk mdp mto), (wMAll g mo al)] dX9_repeat_30 (Nat.le_of_ble_eq_true rfl) (Nat.le_of_ble_eq_true rfl) rfl ?_
      exact ⟨rfl, by unfold rpF; (repeat (first | rw [if_pos (by omega)] | rw [if_neg (by omega)]))⟩
  · skip
    have c8 := bI0 c8
    refine r_aload_n 12 hE 0 dX9_repeat_11 rfl rfl rfl ?_
    refine r_iconst 13 hE dX9_repeat_12 rfl ?_
    refine r_callV 16 hE [0] [1] [(wMo g mo mst mac mmk mr mrd mrm mcm mtp msz mtk mbg men mls mvl mft mfp mfk mdp mto)] [(wMAll g mo al)] 0 9 ok9 [] (c_X9_refuse) dX9_repeat_13 rfl rfl wd_1186 wd_1188 ws_47 wd_12 wd_1189 ne_X9 np_X9_refuse (Nat.le_of_ble_eq_true rfl)  (by decide) (by decide) rfl (Nat.le_of_ble_eq_true rfl) rfl rfl rfl rfl (by decide) rfl (fun v1 f1 hp => ?_)
    obtain ⟨rfl, rfl⟩ := hp
    show G g E _ _ _ [(wMo g mo 1 mac mmk mr mrd mrm mcm mtp msz mtk mbg men mls mvl mft mfp mfk mdp mto), (wMAll g mo al)] 16 [(0, .ref (mo 0)), (1, .int (iI t)), (2, .int (iI k_))] [.int (iI (-1))]
    refine r_ireturn hE hR [(wMo g mo 1 mac mmk mr mrd mrm mcm mtp msz mtk mbg men mls mvl mft mfp mfk mdp mto), (wMAll g mo al)] dX9_repeat_16 (Nat.le_of_ble_eq_true rfl) (Nat.le_of_ble_eq_true rfl) rfl ?_
    exact ⟨rfl, by unfold rpF; (repeat (first | rw [if_pos (by omega)] | rw [if_neg (by omega)]))⟩
set_option maxHeartbeats 4000000 in
set_option maxRecDepth 100000 in
theorem c_X9_turn {g : Gm} {mo : Nat → Nat} {mst mac mmk mr mrd mrm mcm mtp msz mtk mbg men mls mvl mft mfp mfk mdp mto : Int} {al : Int → Int} {kd on tw sg le de so : Int → Int} {R : Int → Rl} {ro : Int → Int} {nf : Int → Int} {t : Int} (hM : MTx al) (hac : 0 ≤ mac ∧ mac ≤ 8) (ht : 0 ≤ t ∧ t < al 0) : Ct g 9 0 0 yX9_turn cX9_turn 5 (some .int) [.ref (mo 0), .int (iI t)] [(wMo g mo mst mac mmk mr mrd mrm mcm mtp msz mtk mbg men mls mvl mft mfp mfk mdp mto), (wMTab g mo kd on tw sg le de so), (wMRow g mo ro), (wMAll g mo al), (wMNew g mo nf)] (fun v_ w_ => ∃ kd9 : Int → Int, ∃ on9 : Int → Int, ∃ tw9 : Int → Int, ∃ sg9 : Int → Int, ∃ le9 : Int → Int, ∃ de9 : Int → Int, ∃ so9 : Int → Int, ∃ mr9 : Int, ∃ R9 : Int → Rl, ∃ ro9 : Int → Int, ∃ mrd9 : Int, ∃ mrm9 : Int, ∃ al9 : Int → Int, ∃ nf9 : Int → Int, ∃ mac9 : Int, ∃ news : Int, ∃ r9 : Int, v_ = some (.int (iI r9)) ∧ w_ = [(wMo g mo 0 mac9 mmk mr9 mrd9 mrm9 mcm mtp msz mtk mbg men mls mvl mft mfp mfk mdp mto), (wMTab g mo kd9 on9 tw9 sg9 le9 de9 so9), (wMRow g mo ro9), (wMAll g mo al9), (wMNew g mo nf9)] ∧ (ActIs al nf mac al9 nf9 mac9 news) ∧ (1 ≤ mac9 ∧ mac9 ≤ 8) ∧ (PSet al t (fun k => mF al t (mN al t - 1 - k)) (mN al t) al9) ∧ (r9 = 0 ∨ r9 = 1) ∧ (r9 = 1 ↔ ∀ k, 0 ≤ k → k < mN al t → mF al t (mN al t - 1 - k) = mF al t k)) := by
  refine Ct.of (by decide) (Nat.le_of_ble_eq_true rfl) (lv := [(0, .ref (mo 0)), (1, .int (iI t))]) rfl ?_
  intro E hE hR hnm
  have hc := hM.1
  have hl_t := hM.2 t ht.1 ht.2
  have cut33 : ∀ (N : Nat) (al1 : Int → Int) (al8 : Int → Int) (i : Int) (b : Int), (∀ k, 0 ≤ k → k < 4809 → al1 (4809 + k) = al (0 + k)) → (∀ j, ¬ (4809 ≤ j ∧ j < 4809 + 4809) → al1 j = al j) → (0 ≤ i ∧ i ≤ mN al t) → (b = 0 ∨ b = 1) → (b = 1 ↔ ∀ k, 0 ≤ k → k < i → mF al t (mN al t - 1 - k) = mF al t k) → (∀ k, 0 ≤ k → k < i → al8 (9 + 600 * t + k) = mF al t (mN al t - 1 - k)) → (∀ j, ¬ (9 + 600 * t ≤ j ∧ j < 9 + 600 * t + i) → al8 j = al1 j) → (mN al t - i).toNat < N → G g E 5 0 0 [(wMo g mo mst mac mmk mr mrd mrm mcm mtp msz mtk mbg men mls mvl mft mfp mfk mdp mto), (wMTab g mo kd on tw sg le de so), (wMRow g mo ro), (wMAll g mo al8), (wMNew g mo nf)] 33 [(0, .ref (mo 0)), (1, .int (iI t)), (2, .int (iI (mN al t))), (3, .int (iI b)), (4, .int (iI i))] [] := by
    intro N
    induction N with
    | zero => intro al1 al8 i b _ _ _ _ _ _ _ hN; exact absurd hN (Nat.not_lt_zero _)
    | succ N ih33 =>
      intro al1 al8 i b c1 c2 hi hb hs g1 g2 hN
      refine r_iload 35 hE 4 dX9_turn_33 rfl rfl ?_
      refine r_iload_n 36 hE 2 dX9_turn_35 rfl rfl rfl ?_
      refine r_icmp_ge 39 119 hE dX9_turn_36 rfl (by decide) (by omega) (fun c36 => ?_) (fun c36 => ?_)
      · skip
        have hin : i = mN al t := by omega
        rw [hin] at g1 g2 hs
        have hpre := PreAct.ofMap (f := fun k => mF al t (mN al t - 1 - k)) hM c1 c2 ht g1 g2 (fun k a q => hl_t.2 _ (by omega) (by omega))
        refine r_aload_n 120 hE 0 dX9_turn_119 rfl rfl rfl ?_
        refine r_iload_n 121 hE 3 dX9_turn_120 rfl rfl rfl ?_
        refine r_if_eq 124 128 hE dX9_turn_121 rfl (by decide) (by omega) (fun c121 => ?_) (fun c121 => ?_)
        · skip
          refine r_iconst 129 hE dX9_turn_128 rfl ?_
          refine r_callV 132 hE [0, 1, 2, 3, 4] [] [(wMo g mo mst mac mmk mr mrd mrm mcm mtp msz mtk mbg men mls mvl mft mfp mfk mdp mto), (wMTab g mo kd on tw sg le de so), (wMRow g mo ro), (wMAll g mo al8), (wMNew g mo nf)] [] 0 9 ok9 [] (c_X9_acted_ (R := R) (hpre.ok) (hpre.aside hM) (hac)) dX9_turn_129 rfl rfl wd_1358 wd_1360 ws_83 wd_12 wd_1361 ne_X9 np_X9_acted_ (Nat.le_of_ble_eq_true rfl)  (by decide) (by decide) rfl (Nat.le_of_ble_eq_true rfl) rfl rfl rfl rfl (by decide) rfl (fun v1 f1 hp => ?_)
          obtain ⟨kd9_129, on9_129, tw9_129, sg9_129, le9_129, de9_129, so9_129, mr9_129, R9_129, ro9_129, mrd9_129, mrm9_129, al9_129, nf9_129, mac9_129, news_129, rfl, rfl, h129_0, h129_1, h129_2, h129_3⟩ := hp
          show G g E _ _ _ [(wMo g mo 0 mac9_129 mmk mr9_129 mrd9_129 mrm9_129 mcm mtp msz mtk mbg men mls mvl mft mfp mfk mdp mto), (wMTab g mo kd9_129 on9_129 tw9_129 sg9_129 le9_129 de9_129 so9_129), (wMRow g mo ro9_129), (wMAll g mo al9_129), (wMNew g mo nf9_129)] 132 [(0, .ref (mo 0)), (1, .int (iI t)), (2, .int (iI (mN al t))), (3, .int (iI b)), (4, .int (iI i))] [.int (iI 0)]
          refine r_ireturn hE hR [(wMo g mo 0 mac9_129 mmk mr9_129 mrd9_129 mrm9_129 mcm mtp msz mtk mbg men mls mvl mft mfp mfk mdp mto), (wMTab g mo kd9_129 on9_129 tw9_129 sg9_129 le9_129 de9_129 so9_129), (wMRow g mo ro9_129), (wMAll g mo al9_129), (wMNew g mo nf9_129)] dX9_turn_132 (Nat.le_of_ble_eq_true rfl) (Nat.le_of_ble_eq_true rfl) rfl ?_
          have hA := hpre.act hM hac h129_0 h129_1 h129_2
          first
            | (have hb1 : b = 0 := by omega); (exact ⟨kd9_129, on9_129, tw9_129, sg9_129, le9_129, de9_129, so9_129, mr9_129, R9_129, ro9_129, mrd9_129, mrm9_129, al9_129, nf9_129, mac9_129, news_129, 0, rfl, rfl, hA.1, h129_3, hA.2, Or.inl rfl, by rw [← hs, hb1]⟩)
            | (have hb1 : b = 1 := by omega); (exact ⟨kd9_129, on9_129, tw9_129, sg9_129, le9_129, de9_129, so9_129, mr9_129, R9_129, ro9_129, mrd9_129, mrm9_129, al9_129, nf9_129, mac9_129, news_129, 1, rfl, rfl, hA.1, h129_3, hA.2, Or.inr rfl, by rw [← hs, hb1]⟩)
        · skip
          refine r_iconst 125 hE dX9_turn_124 rfl ?_
          refine r_goto 129 hE dX9_turn_125 (by decide) ?_
          refine r_callV 132 hE [0, 1, 2, 3, 4] [] [(wMo g mo mst mac mmk mr mrd mrm mcm mtp msz mtk mbg men mls mvl mft mfp mfk mdp mto), (wMTab g mo kd on tw sg le de so), (wMRow g mo ro), (wMAll g mo al8), (wMNew g mo nf)] [] 0 9 ok9 [] (c_X9_acted_ (R := R) (hpre.ok) (hpre.aside hM) (hac)) dX9_turn_129 rfl rfl wd_1358 wd_1360 ws_83 wd_12 wd_1361 ne_X9 np_X9_acted_ (Nat.le_of_ble_eq_true rfl)  (by decide) (by decide) rfl (Nat.le_of_ble_eq_true rfl) rfl rfl rfl rfl (by decide) rfl (fun v1 f1 hp => ?_)
          obtain ⟨kd9_129, on9_129, tw9_129, sg9_129, le9_129, de9_129, so9_129, mr9_129, R9_129, ro9_129, mrd9_129, mrm9_129, al9_129, nf9_129, mac9_129, news_129, rfl, rfl, h129_0, h129_1, h129_2, h129_3⟩ := hp
          show G g E _ _ _ [(wMo g mo 0 mac9_129 mmk mr9_129 mrd9_129 mrm9_129 mcm mtp msz mtk mbg men mls mvl mft mfp mfk mdp mto), (wMTab g mo kd9_129 on9_129 tw9_129 sg9_129 le9_129 de9_129 so9_129), (wMRow g mo ro9_129), (wMAll g mo al9_129), (wMNew g mo nf9_129)] 132 [(0, .ref (mo 0)), (1, .int (iI t)), (2, .int (iI (mN al t))), (3, .int (iI b)), (4, .int (iI i))] [.int (iI 1)]
          refine r_ireturn hE hR [(wMo g mo 0 mac9_129 mmk mr9_129 mrd9_129 mrm9_129 mcm mtp msz mtk mbg men mls mvl mft mfp mfk mdp mto), (wMTab g mo kd9_129 on9_129 tw9_129 sg9_129 le9_129 de9_129 so9_129), (wMRow g mo ro9_129), (wMAll g mo al9_129), (wMNew g mo nf9_129)] dX9_turn_132 (Nat.le_of_ble_eq_true rfl) (Nat.le_of_ble_eq_true rfl) rfl ?_
          have hA := hpre.act hM hac h129_0 h129_1 h129_2
          first
            | (have hb1 : b = 0 := by omega); (exact ⟨kd9_129, on9_129, tw9_129, sg9_129, le9_129, de9_129, so9_129, mr9_129, R9_129, ro9_129, mrd9_129, mrm9_129, al9_129, nf9_129, mac9_129, news_129, 0, rfl, rfl, hA.1, h129_3, hA.2, Or.inl rfl, by rw [← hs, hb1]⟩)
            | (have hb1 : b = 1 := by omega); (exact ⟨kd9_129, on9_129, tw9_129, sg9_129, le9_129, de9_129, so9_129, mr9_129, R9_129, ro9_129, mrd9_129, mrm9_129, al9_129, nf9_129, mac9_129, news_129, 1, rfl, rfl, hA.1, h129_3, hA.2, Or.inr rfl, by rw [← hs, hb1]⟩)
      · skip
        refine r_aload_n 40 hE 0 dX9_turn_39 rfl rfl rfl ?_
        refine r_get 43 hE 0 0 ok9 0 dX9_turn_40 rfl wd_1052 rfl rfl (by decide) rfl ?_
        refine r_bipush 45 hE dX9_turn_43 rfl (by decide) ?_
        refine r_sipush 48 hE dX9_turn_45 rfl (by decide) ?_
        refine r_iload_n 49 hE 1 dX9_turn_48 rfl rfl rfl ?_
        refine r_imul 50 hE (600 * t) dX9_turn_49 rfl rfl ?_
        refine r_iadd 51 hE (9 + (600 * t)) dX9_turn_50 rfl rfl ?_
        refine r_iload 53 hE 4 dX9_turn_51 rfl rfl ?_
        refine r_iadd 54 hE ((9 + (600 * t)) + i) dX9_turn_53 rfl rfl ?_
        refine r_aload_n 55 hE 0 dX9_turn_54 rfl rfl rfl ?_
        refine r_get 58 hE 0 0 ok9 0 dX9_turn_55 rfl wd_1052 rfl rfl (by decide) rfl ?_
        refine r_sipush 61 hE dX9_turn_58 rfl (by decide) ?_
        refine r_sipush 64 hE dX9_turn_61 rfl (by decide) ?_
        refine r_iload_n 65 hE 1 dX9_turn_64 rfl rfl rfl ?_
        refine r_imul 66 hE (600 * t) dX9_turn_65 rfl rfl ?_
        refine r_iadd 67 hE (4818 + (600 * t)) dX9_turn_66 rfl rfl ?_
        refine r_iload_n 68 hE 2 dX9_turn_67 rfl rfl rfl ?_
        refine r_iadd 69 hE ((4818 + (600 * t)) + (mN al t)) dX9_turn_68 rfl rfl ?_
        refine r_iconst 70 hE dX9_turn_69 rfl ?_
        refine r_isub 71 hE (((4818 + (600 * t)) + (mN al t)) - 1) dX9_turn_70 rfl rfl ?_
        refine r_iload 73 hE 4 dX9_turn_71 rfl rfl ?_
        refine r_isub 74 hE ((((4818 + (600 * t)) + (mN al t)) - 1) - i) dX9_turn_73 rfl rfl ?_
        refine r_iald 75 hE 3 0 dX9_turn_74 rfl rfl rfl (by omega) ?_
        refine r_iast 76 hE 3 0 (wMAll g mo (up al8 ((9 + (600 * t)) + i) (al8 ((((4818 + (600 * t)) + (mN al t)) - 1) - i)))) [(wMo g mo mst mac mmk mr mrd mrm mcm mtp msz mtk mbg men mls mvl mft mfp mfk mdp mto), (wMTab g mo kd on tw sg le de so), (wMRow g mo ro), (wMAll g mo (up al8 ((9 + (600 * t)) + i) (al8 ((((4818 + (600 * t)) + (mN al t)) - 1) - i)))), (wMNew g mo nf)] dX9_turn_75 rfl rfl rfl (by omega) rfl rfl ?_
        have hv : al8 (4818 + 600 * t + mN al t - 1 - i) = mF al t (mN al t - 1 - i) := by
          rw [g2 _ (by omega), show (4818 + 600 * t + mN al t - 1 - i : Int) = 4809 + (9 + 600 * t + (mN al t - 1 - i)) by omega, c1 _ (by omega) (by omega), Int.zero_add]; rfl
        have g12 : ∀ k, 0 ≤ k → k < i + 1 → (up al8 (9 + 600 * t + i) (al8 (4818 + 600 * t + mN al t - 1 - i))) (9 + 600 * t + k) = mF al t (mN al t - 1 - k) := fun k a q => by
          by_cases z : k = i
          · rw [z, up_same]; exact hv
          · rw [up_ne _ _ (by omega)]; exact g1 k a (by omega)
        have g22 : ∀ j, ¬ (9 + 600 * t ≤ j ∧ j < 9 + 600 * t + (i + 1)) → (up al8 (9 + 600 * t + i) (al8 (4818 + 600 * t + mN al t - 1 - i))) j = al1 j := fun j a => by rw [up_ne _ _ (by omega)]; exact g2 j (by omega)
        have e1 : mF (up al8 (9 + 600 * t + i) (al8 (4818 + 600 * t + mN al t - 1 - i))) t i = mF al t (mN al t - 1 - i) := g12 i hi.1 (by omega)
        have e2 : (up al8 (9 + 600 * t + i) (al8 (4818 + 600 * t + mN al t - 1 - i))) (4818 + 600 * t + i) = mF al t i := by
          rw [g22 _ (by omega), show (4818 + 600 * t + i : Int) = 4809 + (9 + 600 * t + i) by omega, c1 _ (by omega) (by omega), Int.zero_add]; rfl
        refine r_iload_n 77 hE 3 dX9_turn_76 rfl rfl rfl ?_
        refine r_if_eq 80 111 hE dX9_turn_77 rfl (by decide) (by omega) (fun c77 => ?_) (fun c77 => ?_)
        · skip
          have hs2 : (0 : Int) = 1 ↔ ∀ k, 0 ≤ k → k < i + 1 → mF al t (mN al t - 1 - k) = mF al t k := ⟨fun z => by omega, fun z => by have h9 := hs.mpr (fun k a q => z k a (by omega)); omega⟩
          refine r_iconst 112 hE dX9_turn_111 rfl ?_
          refine r_istore_n 113 hE [(3, .int (iI 0)), (0, .ref (mo 0)), (1, .int (iI t)), (2, .int (iI (mN al t))), (4, .int (iI i))] dX9_turn_112 rfl rfl (by decide) rfl ?_
          refine r_iinc 116 hE 4 (i + 1) [(4, .int (iI (i + 1))), (3, .int (iI 0)), (0, .ref (mo 0)), (1, .int (iI t)), (2, .int (iI (mN al t)))] dX9_turn_113 rfl rfl rfl (by decide) rfl ?_
          refine r_goto 33 hE dX9_turn_116 (by decide) ?_
          refine G.to (fs' := [(wMo g mo mst mac mmk mr mrd mrm mcm mtp msz mtk mbg men mls mvl mft mfp mfk mdp mto), (wMTab g mo kd on tw sg le de so), (wMRow g mo ro), (wMAll g mo (up al8 ((9 + (600 * t)) + i) (al8 ((((4818 + (600 * t)) + (mN al t)) - 1) - i)))), (wMNew g mo nf)]) (lv' := [(0, .ref (mo 0)), (1, .int (iI t)), (2, .int (iI (mN al t))), (3, .int (iI 0)), (4, .int (iI (i + 1)))]) [0, 1, 2, 3, 4] [2, 3, 4, 1, 0] rfl rfl rfl ?_
          exact ih33 al1 (up al8 ((9 + (600 * t)) + i) (al8 ((((4818 + (600 * t)) + (mN al t)) - 1) - i))) (i + 1) 0 (by first | exact c1 | exact h27_0) (by first | exact c2 | exact h27_1) (by omega) (by omega) (by first | exact hs2 | exact ⟨fun _ k a q => absurd q (by omega), fun _ => rfl⟩) (by first | exact g12 | exact (fun k a q => absurd q (by omega))) (by first | exact g22 | exact (fun _ _ => rfl)) (by omega)
        · skip
          refine r_aload_n 81 hE 0 dX9_turn_80 rfl rfl rfl ?_
          refine r_iload_n 82 hE 1 dX9_turn_81 rfl rfl rfl ?_
          refine r_iload 84 hE 4 dX9_turn_82 rfl rfl ?_
          refine r_callV 87 hE [0, 3] [1, 2, 4] [(wMo g mo mst mac mmk mr mrd mrm mcm mtp msz mtk mbg men mls mvl mft mfp mfk mdp mto), (wMAll g mo (up al8 ((9 + (600 * t)) + i) (al8 ((((4818 + (600 * t)) + (mN al t)) - 1) - i))))] [(wMTab g mo kd on tw sg le de so), (wMRow g mo ro), (wMNew g mo nf)] 0 9 ok9 [] (c_X9_at (by omega)) dX9_turn_84 rfl rfl wd_1277 wd_1279 ws_66 wd_12 wd_1280 ne_X9 np_X9_at (Nat.le_of_ble_eq_true rfl)  (by decide) (by decide) rfl (Nat.le_of_ble_eq_true rfl) rfl rfl rfl rfl (by decide) rfl (fun v1 f1 hp => ?_)
          obtain ⟨rfl, rfl⟩ := hp
          show G g E _ _ _ [(wMo g mo mst mac mmk mr mrd mrm mcm mtp msz mtk mbg men mls mvl mft mfp mfk mdp mto), (wMAll g mo (up al8 ((9 + (600 * t)) + i) (al8 ((((4818 + (600 * t)) + (mN al t)) - 1) - i)))), (wMTab g mo kd on tw sg le de so), (wMRow g mo ro), (wMNew g mo nf)] 87 [(0, .ref (mo 0)), (1, .int (iI t)), (2, .int (iI (mN al t))), (3, .int (iI b)), (4, .int (iI i))] [.int (iI (mF (up al8 ((9 + (600 * t)) + i) (al8 ((((4818 + (600 * t)) + (mN al t)) - 1) - i))) t i))]
          refine r_aload_n 88 hE 0 dX9_turn_87 rfl rfl rfl ?_
          refine r_get 91 hE 0 0 ok9 0 dX9_turn_88 rfl wd_1052 rfl rfl (by decide) rfl ?_
          refine r_sipush 94 hE dX9_turn_91 rfl (by decide) ?_
          refine r_sipush 97 hE dX9_turn_94 rfl (by decide) ?_
          refine r_iload_n 98 hE 1 dX9_turn_97 rfl rfl rfl ?_
          refine r_imul 99 hE (600 * t) dX9_turn_98 rfl rfl ?_
          refine r_iadd 100 hE (4818 + (600 * t)) dX9_turn_99 rfl rfl ?_
          refine r_iload 102 hE 4 dX9_turn_100 rfl rfl ?_
          refine r_iadd 103 hE ((4818 + (600 * t)) + i) dX9_turn_102 rfl rfl ?_
          refine r_iald 104 hE 1 0 dX9_turn_103 rfl rfl rfl (by omega) ?_
          refine r_icmp_ne 107 111 hE dX9_turn_104 rfl (by decide) (by rw [e1, e2]; have q1 := hl_t.2 i hi.1 (by omega); have q2 := hl_t.2 (mN al t - 1 - i) (by omega) (by omega); omega) (fun c104 => ?_) (fun c104 => ?_)
          · skip
            rw [e1, e2] at c104
            have hs2 : (0 : Int) = 1 ↔ ∀ k, 0 ≤ k → k < i + 1 → mF al t (mN al t - 1 - k) = mF al t k := ⟨fun z => by omega, fun z => absurd (z i hi.1 (by omega)) c104⟩
            refine r_iconst 112 hE dX9_turn_111 rfl ?_
            refine r_istore_n 113 hE [(3, .int (iI 0)), (0, .ref (mo 0)), (1, .int (iI t)), (2, .int (iI (mN al t))), (4, .int (iI i))] dX9_turn_112 rfl rfl (by decide) rfl ?_
            refine r_iinc 116 hE 4 (i + 1) [(4, .int (iI (i + 1))), (3, .int (iI 0)), (0, .ref (mo 0)), (1, .int (iI t)), (2, .int (iI (mN al t)))] dX9_turn_113 rfl rfl rfl (by decide) rfl ?_
            refine r_goto 33 hE dX9_turn_116 (by decide) ?_
            refine G.to (fs' := [(wMo g mo mst mac mmk mr mrd mrm mcm mtp msz mtk mbg men mls mvl mft mfp mfk mdp mto), (wMTab g mo kd on tw sg le de so), (wMRow g mo ro), (wMAll g mo (up al8 ((9 + (600 * t)) + i) (al8 ((((4818 + (600 * t)) + (mN al t)) - 1) - i)))), (wMNew g mo nf)]) (lv' := [(0, .ref (mo 0)), (1, .int (iI t)), (2, .int (iI (mN al t))), (3, .int (iI 0)), (4, .int (iI (i + 1)))]) [0, 2, 3, 1, 4] [2, 3, 4, 1, 0] rfl rfl rfl ?_
            exact ih33 al1 (up al8 ((9 + (600 * t)) + i) (al8 ((((4818 + (600 * t)) + (mN al t)) - 1) - i))) (i + 1) 0 (by first | exact c1 | exact h27_0) (by first | exact c2 | exact h27_1) (by omega) (by omega) (by first | exact hs2 | exact ⟨fun _ k a q => absurd q (by omega), fun _ => rfl⟩) (by first | exact g12 | exact (fun k a q => absurd q (by omega))) (by first | exact g22 | exact (fun _ _ => rfl)) (by omega)
          · skip
            rw [e1, e2] at c104
            have hs2 : (1 : Int) = 1 ↔ ∀ k, 0 ≤ k → k < i + 1 → mF al t (mN al t - 1 - k) = mF al t k := ⟨fun _ k a q => if z : k = i then z ▸ c104 else hs.mp (by omega) k a (by omega), fun _ => rfl⟩
            refine r_iconst 108 hE dX9_turn_107 rfl ?_
            refine r_goto 112 hE dX9_turn_108 (by decide) ?_
            refine r_istore_n 113 hE [(3, .int (iI 1)), (0, .ref (mo 0)), (1, .int (iI t)), (2, .int (iI (mN al t))), (4, .int (iI i))] dX9_turn_112 rfl rfl (by decide) rfl ?_
            refine r_iinc 116 hE 4 (i + 1) [(4, .int (iI (i + 1))), (3, .int (iI 1)), (0, .ref (mo 0)), (1, .int (iI t)), (2, .int (iI (mN al t)))] dX9_turn_113 rfl rfl rfl (by decide) rfl ?_
            refine r_goto 33 hE dX9_turn_116 (by decide) ?_
            refine G.to (fs' := [(wMo g mo mst mac mmk mr mrd mrm mcm mtp msz mtk mbg men mls mvl mft mfp mfk mdp mto), (wMTab g mo kd on tw sg le de so), (wMRow g mo ro), (wMAll g mo (up al8 ((9 + (600 * t)) + i) (al8 ((((4818 + (600 * t)) + (mN al t)) - 1) - i)))), (wMNew g mo nf)]) (lv' := [(0, .ref (mo 0)), (1, .int (iI t)), (2, .int (iI (mN al t))), (3, .int (iI 1)), (4, .int (iI (i + 1)))]) [0, 2, 3, 1, 4] [2, 3, 4, 1, 0] rfl rfl rfl ?_
            exact ih33 al1 (up al8 ((9 + (600 * t)) + i) (al8 ((((4818 + (600 * t)) + (mN al t)) - 1) - i))) (i + 1) 1 (by first | exact c1 | exact h27_0) (by first | exact c2 | exact h27_1) (by omega) (by omega) (by first | exact hs2 | exact ⟨fun _ k a q => absurd q (by omega), fun _ => rfl⟩) (by first | exact g12 | exact (fun k a q => absurd q (by omega))) (by first | exact g22 | exact (fun _ _ => rfl)) (by omega)
  refine r_aload_n 1 hE 0 dX9_turn_0 rfl rfl rfl ?_
  refine r_iload_n 2 hE 1 dX9_turn_1 rfl rfl rfl ?_
  refine r_callV 5 hE [0, 3] [1, 2, 4] [(wMo g mo mst mac mmk mr mrd mrm mcm mtp msz mtk mbg men mls mvl mft mfp mfk mdp mto), (wMAll g mo al)] [(wMTab g mo kd on tw sg le de so), (wMRow g mo ro), (wMNew g mo nf)] 0 9 ok9 [] (c_X9_isText (by omega) (by omega)) dX9_turn_2 rfl rfl wd_1346 wd_1348 ws_80 wd_12 wd_1349 ne_X9 np_X9_isText (Nat.le_of_ble_eq_true rfl)  (by decide) (by decide) rfl (Nat.le_of_ble_eq_true rfl) rfl rfl rfl rfl (by decide) rfl (fun v1 f1 hp => ?_)
  obtain ⟨rfl, rfl⟩ := hp
  show G g E _ _ _ [(wMo g mo mst mac mmk mr mrd mrm mcm mtp msz mtk mbg men mls mvl mft mfp mfk mdp mto), (wMAll g mo al), (wMTab g mo kd on tw sg le de so), (wMRow g mo ro), (wMNew g mo nf)] 5 [(0, .ref (mo 0)), (1, .int (iI t))] [.int (iI (bI (0 ≤ t ∧ t < al 0)))]
  refine r_if_ne 8 14 hE dX9_turn_5 rfl (by decide) (bI_rg _) (fun c5 => ?_) (fun c5 => ?_)
  · skip
    have c5 := bI1 c5
    refine r_aload_n 15 hE 0 dX9_turn_14 rfl rfl rfl ?_
    refine r_iload_n 16 hE 1 dX9_turn_15 rfl rfl rfl ?_
    refine r_callV 19 hE [0, 1] [2, 3, 4] [(wMo g mo mst mac mmk mr mrd mrm mcm mtp msz mtk mbg men mls mvl mft mfp mfk mdp mto), (wMAll g mo al)] [(wMTab g mo kd on tw sg le de so), (wMRow g mo ro), (wMNew g mo nf)] 0 9 ok9 [] (c_X9_sizeOf (by omega)) dX9_turn_16 rfl rfl wd_1273 wd_1275 ws_65 wd_12 wd_1276 ne_X9 np_X9_sizeOf (Nat.le_of_ble_eq_true rfl)  (by decide) (by decide) rfl (Nat.le_of_ble_eq_true rfl) rfl rfl rfl rfl (by decide) rfl (fun v1 f1 hp => ?_)
    obtain ⟨rfl, rfl⟩ := hp
    show G g E _ _ _ [(wMo g mo mst mac mmk mr mrd mrm mcm mtp msz mtk mbg men mls mvl mft mfp mfk mdp mto), (wMAll g mo al), (wMTab g mo kd on tw sg le de so), (wMRow g mo ro), (wMNew g mo nf)] 19 [(0, .ref (mo 0)), (1, .int (iI t))] [.int (iI (mN al t))]
    refine r_istore_n 20 hE [(2, .int (iI (mN al t))), (0, .ref (mo 0)), (1, .int (iI t))] dX9_turn_19 rfl rfl (by decide) rfl ?_
    refine r_iconst 21 hE dX9_turn_20 rfl ?_
    refine r_istore_n 22 hE [(3, .int (iI 1)), (2, .int (iI (mN al t))), (0, .ref (mo 0)), (1, .int (iI t))] dX9_turn_21 rfl rfl (by decide) rfl ?_
    refine r_aload_n 23 hE 2 dX9_turn_22 rfl rfl rfl ?_
    refine r_iconst 24 hE dX9_turn_23 rfl ?_
    refine r_sipush 27 hE dX9_turn_24 rfl (by decide) ?_
    refine r_callV 30 hE [0, 1] [2, 3, 4] [(wMo g mo mst mac mmk mr mrd mrm mcm mtp msz mtk mbg men mls mvl mft mfp mfk mdp mto), (wMAll g mo al)] [(wMTab g mo kd on tw sg le de so), (wMRow g mo ro), (wMNew g mo nf)] 0 9 ok9 [] (c_X9_copies (by omega) (by omega) (by omega)) dX9_turn_27 rfl rfl wd_1190 wd_1192 ws_48 wd_12 wd_1193 ne_X9 np_X9_copies (Nat.le_of_ble_eq_true rfl)  (by decide) (by decide) rfl (Nat.le_of_ble_eq_true rfl) rfl rfl rfl rfl (by decide) rfl (fun v1 f1 hp => ?_)
    obtain ⟨al9_27, rfl, rfl, h27_0, h27_1⟩ := hp
    show G g E _ _ _ [(wMo g mo mst mac mmk mr mrd mrm mcm mtp msz mtk mbg men mls mvl mft mfp mfk mdp mto), (wMAll g mo al9_27), (wMTab g mo kd on tw sg le de so), (wMRow g mo ro), (wMNew g mo nf)] 30 [(3, .int (iI 1)), (2, .int (iI (mN al t))), (0, .ref (mo 0)), (1, .int (iI t))] []
    refine r_iconst 31 hE dX9_turn_30 rfl ?_
    refine r_istore 33 hE [(4, .int (iI 0)), (3, .int (iI 1)), (2, .int (iI (mN al t))), (0, .ref (mo 0)), (1, .int (iI t))] dX9_turn_31 rfl (by decide) rfl ?_
    refine G.to (fs' := [(wMo g mo mst mac mmk mr mrd mrm mcm mtp msz mtk mbg men mls mvl mft mfp mfk mdp mto), (wMTab g mo kd on tw sg le de so), (wMRow g mo ro), (wMAll g mo al9_27), (wMNew g mo nf)]) (lv' := [(0, .ref (mo 0)), (1, .int (iI t)), (2, .int (iI (mN al t))), (3, .int (iI 1)), (4, .int (iI 0))]) [0, 2, 3, 1, 4] [3, 4, 2, 1, 0] rfl rfl rfl ?_
    exact cut33 _ al9_27 al9_27 0 1 (by first | exact c1 | exact h27_0) (by first | exact c2 | exact h27_1) (by omega) (by omega) (by first | exact hs2 | exact ⟨fun _ k a q => absurd q (by omega), fun _ => rfl⟩) (by first | exact g12 | exact (fun k a q => absurd q (by omega))) (by first | exact g22 | exact (fun _ _ => rfl)) (Nat.lt_succ_self _)
  · skip
    have c5 := bI0 c5
    omega
set_option maxHeartbeats 4000000 in
set_option maxRecDepth 100000 in
theorem c_X9_turn_no {g : Gm} {mo : Nat → Nat} {mst mac mmk mr mrd mrm mcm mtp msz mtk mbg men mls mvl mft mfp mfk mdp mto : Int} {al : Int → Int} {t : Int} (hM : MTx al) (hr_t : -2147483648 ≤ t ∧ t ≤ 2147483647) (hno : ¬ (0 ≤ t ∧ t < al 0)) : Ct g 9 0 0 yX9_turn cX9_turn 5 (some .int) [.ref (mo 0), .int (iI t)] [(wMo g mo mst mac mmk mr mrd mrm mcm mtp msz mtk mbg men mls mvl mft mfp mfk mdp mto), (wMAll g mo al)] (fun v_ w_ => v_ = some (.int (iI (-1))) ∧ w_ = [(wMo g mo 2 mac mmk mr mrd mrm mcm mtp msz mtk mbg men mls mvl mft mfp mfk mdp mto), (wMAll g mo al)]) := by
  refine Ct.of (by decide) (Nat.le_of_ble_eq_true rfl) (lv := [(0, .ref (mo 0)), (1, .int (iI t))]) rfl ?_
  intro E hE hR hnm
  have hc := hM.1
  refine r_aload_n 1 hE 0 dX9_turn_0 rfl rfl rfl ?_
  refine r_iload_n 2 hE 1 dX9_turn_1 rfl rfl rfl ?_
  refine r_callV 5 hE [0, 1] [] [(wMo g mo mst mac mmk mr mrd mrm mcm mtp msz mtk mbg men mls mvl mft mfp mfk mdp mto), (wMAll g mo al)] [] 0 9 ok9 [] (c_X9_isText (by omega) (by omega)) dX9_turn_2 rfl rfl wd_1346 wd_1348 ws_80 wd_12 wd_1349 ne_X9 np_X9_isText (Nat.le_of_ble_eq_true rfl)  (by decide) (by decide) rfl (Nat.le_of_ble_eq_true rfl) rfl rfl rfl rfl (by decide) rfl (fun v1 f1 hp => ?_)
  obtain ⟨rfl, rfl⟩ := hp
  show G g E _ _ _ [(wMo g mo mst mac mmk mr mrd mrm mcm mtp msz mtk mbg men mls mvl mft mfp mfk mdp mto), (wMAll g mo al)] 5 [(0, .ref (mo 0)), (1, .int (iI t))] [.int (iI (bI (0 ≤ t ∧ t < al 0)))]
  refine r_if_ne 8 14 hE dX9_turn_5 rfl (by decide) (bI_rg _) (fun c5 => ?_) (fun c5 => ?_)
  · skip
    have c5 := bI1 c5
    exact absurd c5 hno
  · skip
    have c5 := bI0 c5
    refine r_aload_n 9 hE 0 dX9_turn_8 rfl rfl rfl ?_
    refine r_iconst 10 hE dX9_turn_9 rfl ?_
    refine r_callV 13 hE [0] [1] [(wMo g mo mst mac mmk mr mrd mrm mcm mtp msz mtk mbg men mls mvl mft mfp mfk mdp mto)] [(wMAll g mo al)] 0 9 ok9 [] (c_X9_refuse) dX9_turn_10 rfl rfl wd_1186 wd_1188 ws_47 wd_12 wd_1189 ne_X9 np_X9_refuse (Nat.le_of_ble_eq_true rfl)  (by decide) (by decide) rfl (Nat.le_of_ble_eq_true rfl) rfl rfl rfl rfl (by decide) rfl (fun v1 f1 hp => ?_)
    obtain ⟨rfl, rfl⟩ := hp
    show G g E _ _ _ [(wMo g mo 2 mac mmk mr mrd mrm mcm mtp msz mtk mbg men mls mvl mft mfp mfk mdp mto), (wMAll g mo al)] 13 [(0, .ref (mo 0)), (1, .int (iI t))] [.int (iI (-1))]
    refine r_ireturn hE hR [(wMo g mo 2 mac mmk mr mrd mrm mcm mtp msz mtk mbg men mls mvl mft mfp mfk mdp mto), (wMAll g mo al)] dX9_turn_13 (Nat.le_of_ble_eq_true rfl) (Nat.le_of_ble_eq_true rfl) rfl ?_
    exact ⟨retI (rfl), rfl⟩
set_option maxHeartbeats 4000000 in
set_option maxRecDepth 100000 in
theorem c_X9_rename {g : Gm} {mo : Nat → Nat} {mst mac mmk mr mrd mrm mcm mtp msz mtk mbg men mls mvl mft mfp mfk mdp mto : Int} {al : Int → Int} {kd on tw sg le de so : Int → Int} {R : Int → Rl} {ro : Int → Int} {nf : Int → Int} {t l_ o_ : Int} (hM : MTx al) (hac : 0 ≤ mac ∧ mac ≤ 8) (ht : 0 ≤ t ∧ t < al 0) (hlo : (0 ≤ l_ ∧ l_ < 26) ∧ (0 ≤ o_ ∧ o_ < 26) ∧ l_ ≠ o_) (hcc : cntF (mF al t) l_ (mN al t) ≠ 0) : Ct g 9 0 0 yX9_rename cX9_rename 6 (some .int) [.ref (mo 0), .int (iI t), .int (iI l_), .int (iI o_)] [(wMo g mo mst mac mmk mr mrd mrm mcm mtp msz mtk mbg men mls mvl mft mfp mfk mdp mto), (wMTab g mo kd on tw sg le de so), (wMRow g mo ro), (wMAll g mo al), (wMNew g mo nf)] (fun v_ w_ => ∃ kd9 : Int → Int, ∃ on9 : Int → Int, ∃ tw9 : Int → Int, ∃ sg9 : Int → Int, ∃ le9 : Int → Int, ∃ de9 : Int → Int, ∃ so9 : Int → Int, ∃ mr9 : Int, ∃ R9 : Int → Rl, ∃ ro9 : Int → Int, ∃ mrd9 : Int, ∃ mrm9 : Int, ∃ al9 : Int → Int, ∃ nf9 : Int → Int, ∃ mac9 : Int, ∃ news : Int, v_ = some (.int (iI (cntF (mF al t) l_ (mN al t)))) ∧ w_ = [(wMo g mo 0 mac9 mmk mr9 mrd9 mrm9 mcm mtp msz mtk mbg men mls mvl mft mfp mfk mdp mto), (wMTab g mo kd9 on9 tw9 sg9 le9 de9 so9), (wMRow g mo ro9), (wMAll g mo al9), (wMNew g mo nf9)] ∧ (ActIs al nf mac al9 nf9 mac9 news) ∧ (1 ≤ mac9 ∧ mac9 ≤ 8) ∧ (PSet al t (fun k => if mF al t k = l_ then o_ else mF al t k) (mN al t) al9)) := by
  refine Ct.of (by decide) (Nat.le_of_ble_eq_true rfl) (lv := [(0, .ref (mo 0)), (1, .int (iI t)), (2, .int (iI l_)), (3, .int (iI o_))]) rfl ?_
  intro E hE hR hnm
  have hc := hM.1
  have hl_t := hM.2 t ht.1 ht.2
  have hcb := cntF_bd (mF al t) l_ (n := mN al t) (by omega)
  have cut93 : ∀ (N : Nat) (al1 : Int → Int) (al8 : Int → Int) (j : Int), (∀ k, 0 ≤ k → k < 4809 → al1 (4809 + k) = al (0 + k)) → (∀ j, ¬ (4809 ≤ j ∧ j < 4809 + 4809) → al1 j = al j) → (9 + 600 * t ≤ j ∧ j ≤ 9 + 600 * t + mN al t) → (∀ k, 0 ≤ k → 9 + 600 * t + k < j → al8 (9 + 600 * t + k) = if mF al t k = l_ then o_ else mF al t k) → (∀ z, ¬ (9 + 600 * t ≤ z ∧ z < j) → al8 z = al1 z) → (9 + 600 * t + mN al t - j).toNat < N → G g E 6 0 0 [(wMo g mo mst mac mmk mr mrd mrm mcm mtp msz mtk mbg men mls mvl mft mfp mfk mdp mto), (wMTab g mo kd on tw sg le de so), (wMRow g mo ro), (wMAll g mo al8), (wMNew g mo nf)] 93 [(0, .ref (mo 0)), (1, .int (iI t)), (2, .int (iI l_)), (3, .int (iI o_)), (4, .int (iI (cntF (mF al t) l_ (mN al t)))), (5, .int (iI j))] [] := by
    intro N
    induction N with
    | zero => intro al1 al8 j _ _ _ _ _ hN; exact absurd hN (Nat.not_lt_zero _)
    | succ N ih93 =>
      intro al1 al8 j c1 c2 hj g1 g2 hN
      have hN8 : mN al8 t = mN al t := by show al8 (1 + t) = al (1 + t); rw [g2 _ (by omega), c2 _ (by omega)]
      refine r_iload 95 hE 5 dX9_rename_93 rfl rfl ?_
      refine r_bipush 97 hE dX9_rename_95 rfl (by decide) ?_
      refine r_sipush 100 hE dX9_rename_97 rfl (by decide) ?_
      refine r_iload_n 101 hE 1 dX9_rename_100 rfl rfl rfl ?_
      refine r_imul 102 hE (600 * t) dX9_rename_101 rfl rfl ?_
      refine r_iadd 103 hE (9 + (600 * t)) dX9_rename_102 rfl rfl ?_
      refine r_aload_n 104 hE 0 dX9_rename_103 rfl rfl rfl ?_
      refine r_iload_n 105 hE 1 dX9_rename_104 rfl rfl rfl ?_
      refine r_callV 108 hE [0, 3] [1, 2, 4] [(wMo g mo mst mac mmk mr mrd mrm mcm mtp msz mtk mbg men mls mvl mft mfp mfk mdp mto), (wMAll g mo al8)] [(wMTab g mo kd on tw sg le de so), (wMRow g mo ro), (wMNew g mo nf)] 0 9 ok9 [.int (iI (9 + (600 * t))), .int (iI j)] (c_X9_sizeOf (by omega)) dX9_rename_105 rfl rfl wd_1273 wd_1275 ws_65 wd_12 wd_1276 ne_X9 np_X9_sizeOf (Nat.le_of_ble_eq_true rfl)  (by decide) (by decide) rfl (Nat.le_of_ble_eq_true rfl) rfl rfl rfl rfl (by decide) rfl (fun v1 f1 hp => ?_)
      obtain ⟨rfl, rfl⟩ := hp
      show G g E _ _ _ [(wMo g mo mst mac mmk mr mrd mrm mcm mtp msz mtk mbg men mls mvl mft mfp mfk mdp mto), (wMAll g mo al8), (wMTab g mo kd on tw sg le de so), (wMRow g mo ro), (wMNew g mo nf)] 108 [(0, .ref (mo 0)), (1, .int (iI t)), (2, .int (iI l_)), (3, .int (iI o_)), (4, .int (iI (cntF (mF al t) l_ (mN al t)))), (5, .int (iI j))] [.int (iI (mN al8 t)), .int (iI (9 + (600 * t))), .int (iI j)]
      refine r_iadd 109 hE ((9 + (600 * t)) + (mN al8 t)) dX9_rename_108 rfl rfl ?_
      refine r_icmp_ge 112 147 hE dX9_rename_109 rfl (by decide) (by omega) (fun c109 => ?_) (fun c109 => ?_)
      · skip
        have hin : j = 9 + 600 * t + mN al t := by omega
        rw [hin] at g1 g2
        have hpre := PreAct.ofMap (f := (fun k => if mF al t k = l_ then o_ else mF al t k)) hM c1 c2 ht (fun k a q => g1 k a (by omega)) g2 (fun k a q => by have h9 := hl_t.2 k a q; show 0 ≤ (if mF al t k = l_ then o_ else mF al t k) ∧ (if mF al t k = l_ then o_ else mF al t k) ≤ 25; split <;> omega)
        refine r_aload_n 148 hE 0 dX9_rename_147 rfl rfl rfl ?_
        refine r_iload 150 hE 4 dX9_rename_148 rfl rfl ?_
        refine r_callV 153 hE [0, 2, 3, 1, 4] [] [(wMo g mo mst mac mmk mr mrd mrm mcm mtp msz mtk mbg men mls mvl mft mfp mfk mdp mto), (wMTab g mo kd on tw sg le de so), (wMRow g mo ro), (wMAll g mo al8), (wMNew g mo nf)] [] 0 9 ok9 [] (c_X9_acted_ (R := R) (hpre.ok) (hpre.aside hM) (hac)) dX9_rename_150 rfl rfl wd_1358 wd_1360 ws_83 wd_12 wd_1361 ne_X9 np_X9_acted_ (Nat.le_of_ble_eq_true rfl)  (by decide) (by decide) rfl (Nat.le_of_ble_eq_true rfl) rfl rfl rfl rfl (by decide) rfl (fun v1 f1 hp => ?_)
        obtain ⟨kd9_150, on9_150, tw9_150, sg9_150, le9_150, de9_150, so9_150, mr9_150, R9_150, ro9_150, mrd9_150, mrm9_150, al9_150, nf9_150, mac9_150, news_150, rfl, rfl, h150_0, h150_1, h150_2, h150_3⟩ := hp
        show G g E _ _ _ [(wMo g mo 0 mac9_150 mmk mr9_150 mrd9_150 mrm9_150 mcm mtp msz mtk mbg men mls mvl mft mfp mfk mdp mto), (wMTab g mo kd9_150 on9_150 tw9_150 sg9_150 le9_150 de9_150 so9_150), (wMRow g mo ro9_150), (wMAll g mo al9_150), (wMNew g mo nf9_150)] 153 [(0, .ref (mo 0)), (1, .int (iI t)), (2, .int (iI l_)), (3, .int (iI o_)), (4, .int (iI (cntF (mF al t) l_ (mN al t)))), (5, .int (iI j))] [.int (iI (cntF (mF al t) l_ (mN al t)))]
        refine r_ireturn hE hR [(wMo g mo 0 mac9_150 mmk mr9_150 mrd9_150 mrm9_150 mcm mtp msz mtk mbg men mls mvl mft mfp mfk mdp mto), (wMTab g mo kd9_150 on9_150 tw9_150 sg9_150 le9_150 de9_150 so9_150), (wMRow g mo ro9_150), (wMAll g mo al9_150), (wMNew g mo nf9_150)] dX9_rename_153 (Nat.le_of_ble_eq_true rfl) (Nat.le_of_ble_eq_true rfl) rfl ?_
        have hA := hpre.act hM hac h150_0 h150_1 h150_2
        exact ⟨kd9_150, on9_150, tw9_150, sg9_150, le9_150, de9_150, so9_150, mr9_150, R9_150, ro9_150, mrd9_150, mrm9_150, al9_150, nf9_150, mac9_150, news_150, rfl, rfl, hA.1, h150_3, hA.2⟩
      · skip
        have hv8 : al8 j = mF al t (j - (9 + 600 * t)) := by rw [g2 _ (by omega), c2 _ (by omega)]; unfold mF; congr 1; omega
        have hlv := hl_t.2 (j - (9 + 600 * t)) (by omega) (by omega)
        refine r_aload_n 113 hE 0 dX9_rename_112 rfl rfl rfl ?_
        refine r_get 116 hE 0 0 ok9 0 dX9_rename_113 rfl wd_1052 rfl rfl (by decide) rfl ?_
        refine r_iload 118 hE 5 dX9_rename_116 rfl rfl ?_
        refine r_aload_n 119 hE 0 dX9_rename_118 rfl rfl rfl ?_
        refine r_get 122 hE 0 0 ok9 0 dX9_rename_119 rfl wd_1052 rfl rfl (by decide) rfl ?_
        refine r_iload 124 hE 5 dX9_rename_122 rfl rfl ?_
        refine r_iald 125 hE 1 0 dX9_rename_124 rfl rfl rfl (by omega) ?_
        refine r_iload_n 126 hE 2 dX9_rename_125 rfl rfl rfl ?_
        refine r_icmp_ne 129 133 hE dX9_rename_126 rfl (by decide) (by omega) (fun c126 => ?_) (fun c126 => ?_)
        · skip
          have g12 : ∀ k, 0 ≤ k → 9 + 600 * t + k < j + 1 → up al8 j (al8 j) (9 + 600 * t + k) = if mF al t k = l_ then o_ else mF al t k := fun k a q => by
            by_cases z : 9 + 600 * t + k = j
            · have e : mF al t k = al8 j := by rw [hv8]; congr 1; omega
              rw [z, up_same, e, if_neg c126]
            · rw [up_ne _ _ z]; exact g1 k a (by omega)
          have g22 : ∀ z, ¬ (9 + 600 * t ≤ z ∧ z < j + 1) → up al8 j (al8 j) z = al1 z := fun z a => by rw [up_ne _ _ (by omega)]; exact g2 z (by omega)
          refine r_aload_n 134 hE 0 dX9_rename_133 rfl rfl rfl ?_
          refine r_get 137 hE 0 0 ok9 0 dX9_rename_134 rfl wd_1052 rfl rfl (by decide) rfl ?_
          refine r_iload 139 hE 5 dX9_rename_137 rfl rfl ?_
          refine r_iald 140 hE 1 0 dX9_rename_139 rfl rfl rfl (by omega) ?_
          refine r_iast 141 hE 1 0 (wMAll g mo (up al8 j (al8 j))) [(wMo g mo mst mac mmk mr mrd mrm mcm mtp msz mtk mbg men mls mvl mft mfp mfk mdp mto), (wMAll g mo (up al8 j (al8 j))), (wMTab g mo kd on tw sg le de so), (wMRow g mo ro), (wMNew g mo nf)] dX9_rename_140 rfl rfl rfl (by omega) rfl rfl ?_
          refine r_iinc 144 hE 5 (j + 1) [(5, .int (iI (j + 1))), (0, .ref (mo 0)), (1, .int (iI t)), (2, .int (iI l_)), (3, .int (iI o_)), (4, .int (iI (cntF (mF al t) l_ (mN al t))))] dX9_rename_141 rfl rfl rfl (by decide) rfl ?_
          refine r_goto 93 hE dX9_rename_144 (by decide) ?_
          refine G.to (fs' := [(wMo g mo mst mac mmk mr mrd mrm mcm mtp msz mtk mbg men mls mvl mft mfp mfk mdp mto), (wMTab g mo kd on tw sg le de so), (wMRow g mo ro), (wMAll g mo (up al8 j (al8 j))), (wMNew g mo nf)]) (lv' := [(0, .ref (mo 0)), (1, .int (iI t)), (2, .int (iI l_)), (3, .int (iI o_)), (4, .int (iI (cntF (mF al t) l_ (mN al t)))), (5, .int (iI (j + 1)))]) [0, 2, 3, 1, 4] [1, 2, 3, 4, 5, 0] rfl rfl rfl ?_
          exact ih93 al1 (up al8 j (al8 j)) (j + 1) (by first | exact c1 | exact h80_0) (by first | exact c2 | exact h80_1) (by omega) (by first | exact g12 | exact (fun k a q => absurd q (by omega))) (by first | exact g22 | exact (fun _ _ => rfl)) (by omega)
        · skip
          have g12 : ∀ k, 0 ≤ k → 9 + 600 * t + k < j + 1 → up al8 j o_ (9 + 600 * t + k) = if mF al t k = l_ then o_ else mF al t k := fun k a q => by
            by_cases z : 9 + 600 * t + k = j
            · have e : mF al t k = al8 j := by rw [hv8]; congr 1; omega
              rw [z, up_same, e, if_pos c126]
            · rw [up_ne _ _ z]; exact g1 k a (by omega)
          have g22 : ∀ z, ¬ (9 + 600 * t ≤ z ∧ z < j + 1) → up al8 j o_ z = al1 z := fun z a => by rw [up_ne _ _ (by omega)]; exact g2 z (by omega)
          refine r_iload_n 130 hE 3 dX9_rename_129 rfl rfl rfl ?_
          refine r_goto 140 hE dX9_rename_130 (by decide) ?_
          refine r_iast 141 hE 1 0 (wMAll g mo (up al8 j o_)) [(wMo g mo mst mac mmk mr mrd mrm mcm mtp msz mtk mbg men mls mvl mft mfp mfk mdp mto), (wMAll g mo (up al8 j o_)), (wMTab g mo kd on tw sg le de so), (wMRow g mo ro), (wMNew g mo nf)] dX9_rename_140 rfl rfl rfl (by omega) rfl rfl ?_
          refine r_iinc 144 hE 5 (j + 1) [(5, .int (iI (j + 1))), (0, .ref (mo 0)), (1, .int (iI t)), (2, .int (iI l_)), (3, .int (iI o_)), (4, .int (iI (cntF (mF al t) l_ (mN al t))))] dX9_rename_141 rfl rfl rfl (by decide) rfl ?_
          refine r_goto 93 hE dX9_rename_144 (by decide) ?_
          refine G.to (fs' := [(wMo g mo mst mac mmk mr mrd mrm mcm mtp msz mtk mbg men mls mvl mft mfp mfk mdp mto), (wMTab g mo kd on tw sg le de so), (wMRow g mo ro), (wMAll g mo (up al8 j o_)), (wMNew g mo nf)]) (lv' := [(0, .ref (mo 0)), (1, .int (iI t)), (2, .int (iI l_)), (3, .int (iI o_)), (4, .int (iI (cntF (mF al t) l_ (mN al t)))), (5, .int (iI (j + 1)))]) [0, 2, 3, 1, 4] [1, 2, 3, 4, 5, 0] rfl rfl rfl ?_
          exact ih93 al1 (up al8 j o_) (j + 1) (by first | exact c1 | exact h80_0) (by first | exact c2 | exact h80_1) (by omega) (by first | exact g12 | exact (fun k a q => absurd q (by omega))) (by first | exact g22 | exact (fun _ _ => rfl)) (by omega)
  refine r_iload_n 1 hE 2 dX9_rename_0 rfl rfl rfl ?_
  refine r_iconst 2 hE dX9_rename_1 rfl ?_
  refine r_bipush 4 hE dX9_rename_2 rfl (by decide) ?_
  refine r_callS 7 hE [] [0, 1, 2, 3, 4] [] [(wMo g mo mst mac mmk mr mrd mrm mcm mtp msz mtk mbg men mls mvl mft mfp mfk mdp mto), (wMTab g mo kd on tw sg le de so), (wMRow g mo ro), (wMAll g mo al), (wMNew g mo nf)] [] (c_X9_isFrom (by omega) (by omega) (by omega)) dX9_rename_4 rfl wd_1183 wd_1184 wd_12 wd_1185 ne_X9 np_X9_isFrom (Nat.le_of_ble_eq_true rfl)  (by decide) (by decide) rfl (Nat.le_of_ble_eq_true rfl) rfl rfl rfl rfl (by decide) (fun v1 f1 hp => ?_)
  obtain ⟨rfl, rfl⟩ := hp
  show G g E _ _ _ [(wMo g mo mst mac mmk mr mrd mrm mcm mtp msz mtk mbg men mls mvl mft mfp mfk mdp mto), (wMTab g mo kd on tw sg le de so), (wMRow g mo ro), (wMAll g mo al), (wMNew g mo nf)] 7 [(0, .ref (mo 0)), (1, .int (iI t)), (2, .int (iI l_)), (3, .int (iI o_))] [.int (iI (bI (0 ≤ l_ ∧ l_ ≤ 25)))]
  refine r_if_eq 10 20 hE dX9_rename_7 rfl (by decide) (bI_rg _) (fun c7 => ?_) (fun c7 => ?_)
  · skip
    have c7 := bI0 c7
    omega
  · skip
    have c7 := bI1 c7
    refine r_iload_n 11 hE 3 dX9_rename_10 rfl rfl rfl ?_
    refine r_iconst 12 hE dX9_rename_11 rfl ?_
    refine r_bipush 14 hE dX9_rename_12 rfl (by decide) ?_
    refine r_callS 17 hE [] [0, 1, 2, 3, 4] [] [(wMo g mo mst mac mmk mr mrd mrm mcm mtp msz mtk mbg men mls mvl mft mfp mfk mdp mto), (wMTab g mo kd on tw sg le de so), (wMRow g mo ro), (wMAll g mo al), (wMNew g mo nf)] [] (c_X9_isFrom (by omega) (by omega) (by omega)) dX9_rename_14 rfl wd_1183 wd_1184 wd_12 wd_1185 ne_X9 np_X9_isFrom (Nat.le_of_ble_eq_true rfl)  (by decide) (by decide) rfl (Nat.le_of_ble_eq_true rfl) rfl rfl rfl rfl (by decide) (fun v1 f1 hp => ?_)
    obtain ⟨rfl, rfl⟩ := hp
    show G g E _ _ _ [(wMo g mo mst mac mmk mr mrd mrm mcm mtp msz mtk mbg men mls mvl mft mfp mfk mdp mto), (wMTab g mo kd on tw sg le de so), (wMRow g mo ro), (wMAll g mo al), (wMNew g mo nf)] 17 [(0, .ref (mo 0)), (1, .int (iI t)), (2, .int (iI l_)), (3, .int (iI o_))] [.int (iI (bI (0 ≤ o_ ∧ o_ ≤ 25)))]
    refine r_if_ne 20 26 hE dX9_rename_17 rfl (by decide) (bI_rg _) (fun c17 => ?_) (fun c17 => ?_)
    · skip
      have c17 := bI1 c17
      refine r_aload_n 27 hE 0 dX9_rename_26 rfl rfl rfl ?_
      refine r_iload_n 28 hE 1 dX9_rename_27 rfl rfl rfl ?_
      refine r_callV 31 hE [0, 3] [1, 2, 4] [(wMo g mo mst mac mmk mr mrd mrm mcm mtp msz mtk mbg men mls mvl mft mfp mfk mdp mto), (wMAll g mo al)] [(wMTab g mo kd on tw sg le de so), (wMRow g mo ro), (wMNew g mo nf)] 0 9 ok9 [] (c_X9_isText (by omega) (by omega)) dX9_rename_28 rfl rfl wd_1346 wd_1348 ws_80 wd_12 wd_1349 ne_X9 np_X9_isText (Nat.le_of_ble_eq_true rfl)  (by decide) (by decide) rfl (Nat.le_of_ble_eq_true rfl) rfl rfl rfl rfl (by decide) rfl (fun v1 f1 hp => ?_)
      obtain ⟨rfl, rfl⟩ := hp
      show G g E _ _ _ [(wMo g mo mst mac mmk mr mrd mrm mcm mtp msz mtk mbg men mls mvl mft mfp mfk mdp mto), (wMAll g mo al), (wMTab g mo kd on tw sg le de so), (wMRow g mo ro), (wMNew g mo nf)] 31 [(0, .ref (mo 0)), (1, .int (iI t)), (2, .int (iI l_)), (3, .int (iI o_))] [.int (iI (bI (0 ≤ t ∧ t < al 0)))]
      refine r_if_ne 34 40 hE dX9_rename_31 rfl (by decide) (bI_rg _) (fun c31 => ?_) (fun c31 => ?_)
      · skip
        have c31 := bI1 c31
        refine r_iload_n 41 hE 2 dX9_rename_40 rfl rfl rfl ?_
        refine r_iload_n 42 hE 3 dX9_rename_41 rfl rfl rfl ?_
        refine r_icmp_ne 45 51 hE dX9_rename_42 rfl (by decide) (by omega) (fun c42 => ?_) (fun c42 => ?_)
        · skip
          refine r_aload_n 52 hE 0 dX9_rename_51 rfl rfl rfl ?_
          refine r_iload_n 53 hE 1 dX9_rename_52 rfl rfl rfl ?_
          refine r_iload_n 54 hE 2 dX9_rename_53 rfl rfl rfl ?_
          refine r_aload_n 55 hE 0 dX9_rename_54 rfl rfl rfl ?_
          refine r_iload_n 56 hE 1 dX9_rename_55 rfl rfl rfl ?_
          refine r_callV 59 hE [0, 1] [2, 3, 4] [(wMo g mo mst mac mmk mr mrd mrm mcm mtp msz mtk mbg men mls mvl mft mfp mfk mdp mto), (wMAll g mo al)] [(wMTab g mo kd on tw sg le de so), (wMRow g mo ro), (wMNew g mo nf)] 0 9 ok9 [.int (iI l_), .int (iI t), .ref (mo 0)] (c_X9_sizeOf (by omega)) dX9_rename_56 rfl rfl wd_1273 wd_1275 ws_65 wd_12 wd_1276 ne_X9 np_X9_sizeOf (Nat.le_of_ble_eq_true rfl)  (by decide) (by decide) rfl (Nat.le_of_ble_eq_true rfl) rfl rfl rfl rfl (by decide) rfl (fun v1 f1 hp => ?_)
          obtain ⟨rfl, rfl⟩ := hp
          show G g E _ _ _ [(wMo g mo mst mac mmk mr mrd mrm mcm mtp msz mtk mbg men mls mvl mft mfp mfk mdp mto), (wMAll g mo al), (wMTab g mo kd on tw sg le de so), (wMRow g mo ro), (wMNew g mo nf)] 59 [(0, .ref (mo 0)), (1, .int (iI t)), (2, .int (iI l_)), (3, .int (iI o_))] [.int (iI (mN al t)), .int (iI l_), .int (iI t), .ref (mo 0)]
          refine r_callV 62 hE [0, 1] [2, 3, 4] [(wMo g mo mst mac mmk mr mrd mrm mcm mtp msz mtk mbg men mls mvl mft mfp mfk mdp mto), (wMAll g mo al)] [(wMTab g mo kd on tw sg le de so), (wMRow g mo ro), (wMNew g mo nf)] 0 9 ok9 [] (c_X9_countOf (hM) (by omega) (by omega) (by omega)) dX9_rename_59 rfl rfl wd_1394 wd_1396 ws_86 wd_12 wd_1397 ne_X9 np_X9_countOf (Nat.le_of_ble_eq_true rfl)  (by decide) (by decide) rfl (Nat.le_of_ble_eq_true rfl) rfl rfl rfl rfl (by decide) rfl (fun v1 f1 hp => ?_)
          obtain ⟨rfl, rfl⟩ := hp
          show G g E _ _ _ [(wMo g mo mst mac mmk mr mrd mrm mcm mtp msz mtk mbg men mls mvl mft mfp mfk mdp mto), (wMAll g mo al), (wMTab g mo kd on tw sg le de so), (wMRow g mo ro), (wMNew g mo nf)] 62 [(0, .ref (mo 0)), (1, .int (iI t)), (2, .int (iI l_)), (3, .int (iI o_))] [.int (iI (cntF (mF al t) l_ (mN al t)))]
          refine r_istore 64 hE [(4, .int (iI (cntF (mF al t) l_ (mN al t)))), (0, .ref (mo 0)), (1, .int (iI t)), (2, .int (iI l_)), (3, .int (iI o_))] dX9_rename_62 rfl (by decide) rfl ?_
          refine r_iload 66 hE 0 dX9_rename_64 rfl rfl ?_
          refine r_if_ne 69 75 hE dX9_rename_66 rfl (by decide) (by omega) (fun c66 => ?_) (fun c66 => ?_)
          · skip
            refine r_aload_n 76 hE 1 dX9_rename_75 rfl rfl rfl ?_
            refine r_iconst 77 hE dX9_rename_76 rfl ?_
            refine r_sipush 80 hE dX9_rename_77 rfl (by decide) ?_
            refine r_callV 83 hE [0, 1] [2, 3, 4] [(wMo g mo mst mac mmk mr mrd mrm mcm mtp msz mtk mbg men mls mvl mft mfp mfk mdp mto), (wMAll g mo al)] [(wMTab g mo kd on tw sg le de so), (wMRow g mo ro), (wMNew g mo nf)] 0 9 ok9 [] (c_X9_copies (by omega) (by omega) (by omega)) dX9_rename_80 rfl rfl wd_1190 wd_1192 ws_48 wd_12 wd_1193 ne_X9 np_X9_copies (Nat.le_of_ble_eq_true rfl)  (by decide) (by decide) rfl (Nat.le_of_ble_eq_true rfl) rfl rfl rfl rfl (by decide) rfl (fun v1 f1 hp => ?_)
            obtain ⟨al9_80, rfl, rfl, h80_0, h80_1⟩ := hp
            show G g E _ _ _ [(wMo g mo mst mac mmk mr mrd mrm mcm mtp msz mtk mbg men mls mvl mft mfp mfk mdp mto), (wMAll g mo al9_80), (wMTab g mo kd on tw sg le de so), (wMRow g mo ro), (wMNew g mo nf)] 83 [(4, .int (iI (cntF (mF al t) l_ (mN al t)))), (0, .ref (mo 0)), (1, .int (iI t)), (2, .int (iI l_)), (3, .int (iI o_))] []
            refine r_bipush 85 hE dX9_rename_83 rfl (by decide) ?_
            refine r_sipush 88 hE dX9_rename_85 rfl (by decide) ?_
            refine r_iload_n 89 hE 2 dX9_rename_88 rfl rfl rfl ?_
            refine r_imul 90 hE (600 * t) dX9_rename_89 rfl rfl ?_
            refine r_iadd 91 hE (9 + (600 * t)) dX9_rename_90 rfl rfl ?_
            refine r_istore 93 hE [(5, .int (iI (9 + (600 * t)))), (4, .int (iI (cntF (mF al t) l_ (mN al t)))), (0, .ref (mo 0)), (1, .int (iI t)), (2, .int (iI l_)), (3, .int (iI o_))] dX9_rename_91 rfl (by decide) rfl ?_
            refine G.to (fs' := [(wMo g mo mst mac mmk mr mrd mrm mcm mtp msz mtk mbg men mls mvl mft mfp mfk mdp mto), (wMTab g mo kd on tw sg le de so), (wMRow g mo ro), (wMAll g mo al9_80), (wMNew g mo nf)]) (lv' := [(0, .ref (mo 0)), (1, .int (iI t)), (2, .int (iI l_)), (3, .int (iI o_)), (4, .int (iI (cntF (mF al t) l_ (mN al t)))), (5, .int (iI (9 + (600 * t))))]) [0, 2, 3, 1, 4] [2, 3, 4, 5, 1, 0] rfl rfl rfl ?_
            exact cut93 _ al9_80 al9_80 (9 + (600 * t)) (by first | exact c1 | exact h80_0) (by first | exact c2 | exact h80_1) (by omega) (by first | exact g12 | exact (fun k a q => absurd q (by omega))) (by first | exact g22 | exact (fun _ _ => rfl)) (Nat.lt_succ_self _)
          · skip
            omega
        · skip
          omega
      · skip
        have c31 := bI0 c31
        omega
    · skip
      have c17 := bI0 c17
      omega
set_option maxHeartbeats 4000000 in
set_option maxRecDepth 100000 in
theorem c_X9_rename_no {g : Gm} {mo : Nat → Nat} {mst mac mmk mr mrd mrm mcm mtp msz mtk mbg men mls mvl mft mfp mfk mdp mto : Int} {al : Int → Int} {t l_ o_ : Int} (hM : MTx al) (hr_t : -2147483648 ≤ t ∧ t ≤ 2147483647) (hr_l_ : -2147483648 ≤ l_ ∧ l_ ≤ 2147483647) (hr_o_ : -2147483648 ≤ o_ ∧ o_ ≤ 2147483647) (hno : rnF (mF al) (mN al) (al 0) t l_ o_ ≠ 0) : Ct g 9 0 0 yX9_rename cX9_rename 6 (some .int) [.ref (mo 0), .int (iI t), .int (iI l_), .int (iI o_)] [(wMo g mo mst mac mmk mr mrd mrm mcm mtp msz mtk mbg men mls mvl mft mfp mfk mdp mto), (wMAll g mo al)] (fun v_ w_ => v_ = some (.int (iI (-1))) ∧ w_ = [(wMo g mo (rnF (mF al) (mN al) (al 0) t l_ o_) mac mmk mr mrd mrm mcm mtp msz mtk mbg men mls mvl mft mfp mfk mdp mto), (wMAll g mo al)]) := by
  refine Ct.of (by decide) (Nat.le_of_ble_eq_true rfl) (lv := [(0, .ref (mo 0)), (1, .int (iI t)), (2, .int (iI l_)), (3, .int (iI o_))]) rfl ?_
  intro E hE hR hnm
  have hc := hM.1
  refine r_iload_n 1 hE 2 dX9_rename_0 rfl rfl rfl ?_
  refine r_iconst 2 hE dX9_rename_1 rfl ?_
  refine r_bipush 4 hE dX9_rename_2 rfl (by decide) ?_
  refine r_callS 7 hE [] [0, 1] [] [(wMo g mo mst mac mmk mr mrd mrm mcm mtp msz mtk mbg men mls mvl mft mfp mfk mdp mto), (wMAll g mo al)] [] (c_X9_isFrom (by omega) (by omega) (by omega)) dX9_rename_4 rfl wd_1183 wd_1184 wd_12 wd_1185 ne_X9 np_X9_isFrom (Nat.le_of_ble_eq_true rfl)  (by decide) (by decide) rfl (Nat.le_of_ble_eq_true rfl) rfl rfl rfl rfl (by decide) (fun v1 f1 hp => ?_)
  obtain ⟨rfl, rfl⟩ := hp
  show G g E _ _ _ [(wMo g mo mst mac mmk mr mrd mrm mcm mtp msz mtk mbg men mls mvl mft mfp mfk mdp mto), (wMAll g mo al)] 7 [(0, .ref (mo 0)), (1, .int (iI t)), (2, .int (iI l_)), (3, .int (iI o_))] [.int (iI (bI (0 ≤ l_ ∧ l_ ≤ 25)))]
  refine r_if_eq 10 20 hE dX9_rename_7 rfl (by decide) (bI_rg _) (fun c7 => ?_) (fun c7 => ?_)
  · skip
    have c7 := bI0 c7
    refine r_aload_n 21 hE 0 dX9_rename_20 rfl rfl rfl ?_
    refine r_iconst 22 hE dX9_rename_21 rfl ?_
    refine r_callV 25 hE [0] [1] [(wMo g mo mst mac mmk mr mrd mrm mcm mtp msz mtk mbg men mls mvl mft mfp mfk mdp mto)] [(wMAll g mo al)] 0 9 ok9 [] (c_X9_refuse) dX9_rename_22 rfl rfl wd_1186 wd_1188 ws_47 wd_12 wd_1189 ne_X9 np_X9_refuse (Nat.le_of_ble_eq_true rfl)  (by decide) (by decide) rfl (Nat.le_of_ble_eq_true rfl) rfl rfl rfl rfl (by decide) rfl (fun v1 f1 hp => ?_)
    obtain ⟨rfl, rfl⟩ := hp
    show G g E _ _ _ [(wMo g mo 1 mac mmk mr mrd mrm mcm mtp msz mtk mbg men mls mvl mft mfp mfk mdp mto), (wMAll g mo al)] 25 [(0, .ref (mo 0)), (1, .int (iI t)), (2, .int (iI l_)), (3, .int (iI o_))] [.int (iI (-1))]
    refine r_ireturn hE hR [(wMo g mo 1 mac mmk mr mrd mrm mcm mtp msz mtk mbg men mls mvl mft mfp mfk mdp mto), (wMAll g mo al)] dX9_rename_25 (Nat.le_of_ble_eq_true rfl) (Nat.le_of_ble_eq_true rfl) rfl ?_
    exact ⟨rfl, by unfold rnF; (repeat (first | rw [if_pos (by omega)] | rw [if_neg (by omega)]))⟩
  · skip
    have c7 := bI1 c7
    refine r_iload_n 11 hE 3 dX9_rename_10 rfl rfl rfl ?_
    refine r_iconst 12 hE dX9_rename_11 rfl ?_
    refine r_bipush 14 hE dX9_rename_12 rfl (by decide) ?_
    refine r_callS 17 hE [] [0, 1] [] [(wMo g mo mst mac mmk mr mrd mrm mcm mtp msz mtk mbg men mls mvl mft mfp mfk mdp mto), (wMAll g mo al)] [] (c_X9_isFrom (by omega) (by omega) (by omega)) dX9_rename_14 rfl wd_1183 wd_1184 wd_12 wd_1185 ne_X9 np_X9_isFrom (Nat.le_of_ble_eq_true rfl)  (by decide) (by decide) rfl (Nat.le_of_ble_eq_true rfl) rfl rfl rfl rfl (by decide) (fun v1 f1 hp => ?_)
    obtain ⟨rfl, rfl⟩ := hp
    show G g E _ _ _ [(wMo g mo mst mac mmk mr mrd mrm mcm mtp msz mtk mbg men mls mvl mft mfp mfk mdp mto), (wMAll g mo al)] 17 [(0, .ref (mo 0)), (1, .int (iI t)), (2, .int (iI l_)), (3, .int (iI o_))] [.int (iI (bI (0 ≤ o_ ∧ o_ ≤ 25)))]
    refine r_if_ne 20 26 hE dX9_rename_17 rfl (by decide) (bI_rg _) (fun c17 => ?_) (fun c17 => ?_)
    · skip
      have c17 := bI1 c17
      refine r_aload_n 27 hE 0 dX9_rename_26 rfl rfl rfl ?_
      refine r_iload_n 28 hE 1 dX9_rename_27 rfl rfl rfl ?_
      refine r_callV 31 hE [0, 1] [] [(wMo g mo mst mac mmk mr mrd mrm mcm mtp msz mtk mbg men mls mvl mft mfp mfk mdp mto), (wMAll g mo al)] [] 0 9 ok9 [] (c_X9_isText (by omega) (by omega)) dX9_rename_28 rfl rfl wd_1346 wd_1348 ws_80 wd_12 wd_1349 ne_X9 np_X9_isText (Nat.le_of_ble_eq_true rfl)  (by decide) (by decide) rfl (Nat.le_of_ble_eq_true rfl) rfl rfl rfl rfl (by decide) rfl (fun v1 f1 hp => ?_)
      obtain ⟨rfl, rfl⟩ := hp
      show G g E _ _ _ [(wMo g mo mst mac mmk mr mrd mrm mcm mtp msz mtk mbg men mls mvl mft mfp mfk mdp mto), (wMAll g mo al)] 31 [(0, .ref (mo 0)), (1, .int (iI t)), (2, .int (iI l_)), (3, .int (iI o_))] [.int (iI (bI (0 ≤ t ∧ t < al 0)))]
      refine r_if_ne 34 40 hE dX9_rename_31 rfl (by decide) (bI_rg _) (fun c31 => ?_) (fun c31 => ?_)
      · skip
        have c31 := bI1 c31
        have hl_t := hM.2 t c31.1 c31.2
        have hcb := cntF_bd (mF al t) l_ (n := mN al t) (by omega)
        refine r_iload_n 41 hE 2 dX9_rename_40 rfl rfl rfl ?_
        refine r_iload_n 42 hE 3 dX9_rename_41 rfl rfl rfl ?_
        refine r_icmp_ne 45 51 hE dX9_rename_42 rfl (by decide) (by omega) (fun c42 => ?_) (fun c42 => ?_)
        · skip
          refine r_aload_n 52 hE 0 dX9_rename_51 rfl rfl rfl ?_
          refine r_iload_n 53 hE 1 dX9_rename_52 rfl rfl rfl ?_
          refine r_iload_n 54 hE 2 dX9_rename_53 rfl rfl rfl ?_
          refine r_aload_n 55 hE 0 dX9_rename_54 rfl rfl rfl ?_
          refine r_iload_n 56 hE 1 dX9_rename_55 rfl rfl rfl ?_
          refine r_callV 59 hE [0, 1] [] [(wMo g mo mst mac mmk mr mrd mrm mcm mtp msz mtk mbg men mls mvl mft mfp mfk mdp mto), (wMAll g mo al)] [] 0 9 ok9 [.int (iI l_), .int (iI t), .ref (mo 0)] (c_X9_sizeOf (by omega)) dX9_rename_56 rfl rfl wd_1273 wd_1275 ws_65 wd_12 wd_1276 ne_X9 np_X9_sizeOf (Nat.le_of_ble_eq_true rfl)  (by decide) (by decide) rfl (Nat.le_of_ble_eq_true rfl) rfl rfl rfl rfl (by decide) rfl (fun v1 f1 hp => ?_)
          obtain ⟨rfl, rfl⟩ := hp
          show G g E _ _ _ [(wMo g mo mst mac mmk mr mrd mrm mcm mtp msz mtk mbg men mls mvl mft mfp mfk mdp mto), (wMAll g mo al)] 59 [(0, .ref (mo 0)), (1, .int (iI t)), (2, .int (iI l_)), (3, .int (iI o_))] [.int (iI (mN al t)), .int (iI l_), .int (iI t), .ref (mo 0)]
          refine r_callV 62 hE [0, 1] [] [(wMo g mo mst mac mmk mr mrd mrm mcm mtp msz mtk mbg men mls mvl mft mfp mfk mdp mto), (wMAll g mo al)] [] 0 9 ok9 [] (c_X9_countOf (hM) (by omega) (by omega) (by omega)) dX9_rename_59 rfl rfl wd_1394 wd_1396 ws_86 wd_12 wd_1397 ne_X9 np_X9_countOf (Nat.le_of_ble_eq_true rfl)  (by decide) (by decide) rfl (Nat.le_of_ble_eq_true rfl) rfl rfl rfl rfl (by decide) rfl (fun v1 f1 hp => ?_)
          obtain ⟨rfl, rfl⟩ := hp
          show G g E _ _ _ [(wMo g mo mst mac mmk mr mrd mrm mcm mtp msz mtk mbg men mls mvl mft mfp mfk mdp mto), (wMAll g mo al)] 62 [(0, .ref (mo 0)), (1, .int (iI t)), (2, .int (iI l_)), (3, .int (iI o_))] [.int (iI (cntF (mF al t) l_ (mN al t)))]
          refine r_istore 64 hE [(4, .int (iI (cntF (mF al t) l_ (mN al t)))), (0, .ref (mo 0)), (1, .int (iI t)), (2, .int (iI l_)), (3, .int (iI o_))] dX9_rename_62 rfl (by decide) rfl ?_
          refine r_iload 66 hE 0 dX9_rename_64 rfl rfl ?_
          refine r_if_ne 69 75 hE dX9_rename_66 rfl (by decide) (by omega) (fun c66 => ?_) (fun c66 => ?_)
          · skip
            exact absurd (by unfold rnF; (repeat (first | rw [if_pos (by omega)] | rw [if_neg (by omega)]))) hno
          · skip
            refine r_aload_n 70 hE 1 dX9_rename_69 rfl rfl rfl ?_
            refine r_iconst 71 hE dX9_rename_70 rfl ?_
            refine r_callV 74 hE [0] [1] [(wMo g mo mst mac mmk mr mrd mrm mcm mtp msz mtk mbg men mls mvl mft mfp mfk mdp mto)] [(wMAll g mo al)] 0 9 ok9 [] (c_X9_refuse) dX9_rename_71 rfl rfl wd_1186 wd_1188 ws_47 wd_12 wd_1189 ne_X9 np_X9_refuse (Nat.le_of_ble_eq_true rfl)  (by decide) (by decide) rfl (Nat.le_of_ble_eq_true rfl) rfl rfl rfl rfl (by decide) rfl (fun v1 f1 hp => ?_)
            obtain ⟨rfl, rfl⟩ := hp
            show G g E _ _ _ [(wMo g mo 5 mac mmk mr mrd mrm mcm mtp msz mtk mbg men mls mvl mft mfp mfk mdp mto), (wMAll g mo al)] 74 [(4, .int (iI (cntF (mF al t) l_ (mN al t)))), (0, .ref (mo 0)), (1, .int (iI t)), (2, .int (iI l_)), (3, .int (iI o_))] [.int (iI (-1))]
            refine r_ireturn hE hR [(wMo g mo 5 mac mmk mr mrd mrm mcm mtp msz mtk mbg men mls mvl mft mfp mfk mdp mto), (wMAll g mo al)] dX9_rename_74 (Nat.le_of_ble_eq_true rfl) (Nat.le_of_ble_eq_true rfl) rfl ?_
            exact ⟨rfl, by unfold rnF; (repeat (first | rw [if_pos (by omega)] | rw [if_neg (by omega)]))⟩
        · skip
          refine r_aload_n 46 hE 0 dX9_rename_45 rfl rfl rfl ?_
          refine r_iconst 47 hE dX9_rename_46 rfl ?_
          refine r_callV 50 hE [0] [1] [(wMo g mo mst mac mmk mr mrd mrm mcm mtp msz mtk mbg men mls mvl mft mfp mfk mdp mto)] [(wMAll g mo al)] 0 9 ok9 [] (c_X9_refuse) dX9_rename_47 rfl rfl wd_1186 wd_1188 ws_47 wd_12 wd_1189 ne_X9 np_X9_refuse (Nat.le_of_ble_eq_true rfl)  (by decide) (by decide) rfl (Nat.le_of_ble_eq_true rfl) rfl rfl rfl rfl (by decide) rfl (fun v1 f1 hp => ?_)
          obtain ⟨rfl, rfl⟩ := hp
          show G g E _ _ _ [(wMo g mo 4 mac mmk mr mrd mrm mcm mtp msz mtk mbg men mls mvl mft mfp mfk mdp mto), (wMAll g mo al)] 50 [(0, .ref (mo 0)), (1, .int (iI t)), (2, .int (iI l_)), (3, .int (iI o_))] [.int (iI (-1))]
          refine r_ireturn hE hR [(wMo g mo 4 mac mmk mr mrd mrm mcm mtp msz mtk mbg men mls mvl mft mfp mfk mdp mto), (wMAll g mo al)] dX9_rename_50 (Nat.le_of_ble_eq_true rfl) (Nat.le_of_ble_eq_true rfl) rfl ?_
          exact ⟨rfl, by unfold rnF; (repeat (first | rw [if_pos (by omega)] | rw [if_neg (by omega)]))⟩
      · skip
        have c31 := bI0 c31
        refine r_aload_n 35 hE 0 dX9_rename_34 rfl rfl rfl ?_
        refine r_iconst 36 hE dX9_rename_35 rfl ?_
        refine r_callV 39 hE [0] [1] [(wMo g mo mst mac mmk mr mrd mrm mcm mtp msz mtk mbg men mls mvl mft mfp mfk mdp mto)] [(wMAll g mo al)] 0 9 ok9 [] (c_X9_refuse) dX9_rename_36 rfl rfl wd_1186 wd_1188 ws_47 wd_12 wd_1189 ne_X9 np_X9_refuse (Nat.le_of_ble_eq_true rfl)  (by decide) (by decide) rfl (Nat.le_of_ble_eq_true rfl) rfl rfl rfl rfl (by decide) rfl (fun v1 f1 hp => ?_)
        obtain ⟨rfl, rfl⟩ := hp
        show G g E _ _ _ [(wMo g mo 2 mac mmk mr mrd mrm mcm mtp msz mtk mbg men mls mvl mft mfp mfk mdp mto), (wMAll g mo al)] 39 [(0, .ref (mo 0)), (1, .int (iI t)), (2, .int (iI l_)), (3, .int (iI o_))] [.int (iI (-1))]
        refine r_ireturn hE hR [(wMo g mo 2 mac mmk mr mrd mrm mcm mtp msz mtk mbg men mls mvl mft mfp mfk mdp mto), (wMAll g mo al)] dX9_rename_39 (Nat.le_of_ble_eq_true rfl) (Nat.le_of_ble_eq_true rfl) rfl ?_
        exact ⟨rfl, by unfold rnF; (repeat (first | rw [if_pos (by omega)] | rw [if_neg (by omega)]))⟩
    · skip
      have c17 := bI0 c17
      refine r_aload_n 21 hE 0 dX9_rename_20 rfl rfl rfl ?_
      refine r_iconst 22 hE dX9_rename_21 rfl ?_
      refine r_callV 25 hE [0] [1] [(wMo g mo mst mac mmk mr mrd mrm mcm mtp msz mtk mbg men mls mvl mft mfp mfk mdp mto)] [(wMAll g mo al)] 0 9 ok9 [] (c_X9_refuse) dX9_rename_22 rfl rfl wd_1186 wd_1188 ws_47 wd_12 wd_1189 ne_X9 np_X9_refuse (Nat.le_of_ble_eq_true rfl)  (by decide) (by decide) rfl (Nat.le_of_ble_eq_true rfl) rfl rfl rfl rfl (by decide) rfl (fun v1 f1 hp => ?_)
      obtain ⟨rfl, rfl⟩ := hp
      show G g E _ _ _ [(wMo g mo 1 mac mmk mr mrd mrm mcm mtp msz mtk mbg men mls mvl mft mfp mfk mdp mto), (wMAll g mo al)] 25 [(0, .ref (mo 0)), (1, .int (iI t)), (2, .int (iI l_)), (3, .int (iI o_))] [.int (iI (-1))]
      refine r_ireturn hE hR [(wMo g mo 1 mac mmk mr mrd mrm mcm mtp msz mtk mbg men mls mvl mft mfp mfk mdp mto), (wMAll g mo al)] dX9_rename_25 (Nat.le_of_ble_eq_true rfl) (Nat.le_of_ble_eq_true rfl) rfl ?_
      exact ⟨rfl, by unfold rnF; (repeat (first | rw [if_pos (by omega)] | rw [if_neg (by omega)]))⟩
set_option maxHeartbeats 4000000 in
set_option maxRecDepth 100000 in
theorem c_X9_drop {g : Gm} {mo : Nat → Nat} {mst mac mmk mr mrd mrm mcm mtp msz mtk mbg men mls mvl mft mfp mfk mdp mto : Int} {al : Int → Int} {kd on tw sg le de so : Int → Int} {R : Int → Rl} {ro : Int → Int} {nf : Int → Int} {t : Int} (hM : MTx al) (hac : 0 ≤ mac ∧ mac ≤ 8) (ht : 0 ≤ t ∧ t < al 0) : Ct g 9 0 0 yX9_drop cX9_drop 4 (some .int) [.ref (mo 0), .int (iI t)] [(wMo g mo mst mac mmk mr mrd mrm mcm mtp msz mtk mbg men mls mvl mft mfp mfk mdp mto), (wMTab g mo kd on tw sg le de so), (wMRow g mo ro), (wMAll g mo al), (wMNew g mo nf)] (fun v_ w_ => ∃ kd9 : Int → Int, ∃ on9 : Int → Int, ∃ tw9 : Int → Int, ∃ sg9 : Int → Int, ∃ le9 : Int → Int, ∃ de9 : Int → Int, ∃ so9 : Int → Int, ∃ mr9 : Int, ∃ R9 : Int → Rl, ∃ ro9 : Int → Int, ∃ mrd9 : Int, ∃ mrm9 : Int, ∃ al9 : Int → Int, ∃ nf9 : Int → Int, ∃ mac9 : Int, ∃ news : Int, v_ = some (.int (iI (al 0 - 1))) ∧ w_ = [(wMo g mo 0 mac9 mmk mr9 mrd9 mrm9 mcm mtp msz mtk mbg men mls mvl mft mfp mfk mdp mto), (wMTab g mo kd9 on9 tw9 sg9 le9 de9 so9), (wMRow g mo ro9), (wMAll g mo al9), (wMNew g mo nf9)] ∧ (ActIs al nf mac al9 nf9 mac9 news) ∧ (1 ≤ mac9 ∧ mac9 ≤ 8) ∧ (PGone al t al9)) := by
  refine Ct.of (by decide) (Nat.le_of_ble_eq_true rfl) (lv := [(0, .ref (mo 0)), (1, .int (iI t))]) rfl ?_
  intro E hE hR hnm
  have hc := hM.1
  have hl_t := hM.2 t ht.1 ht.2
  have cut26 : ∀ (N : Nat) (al1 : Int → Int) (al8 : Int → Int) (i : Int), (∀ k, 0 ≤ k → k < 4809 → al1 (4809 + k) = al (0 + k)) → (∀ j, ¬ (4809 ≤ j ∧ j < 4809 + 4809) → al1 j = al j) → (t + 1 ≤ i ∧ i ≤ al 0) → (∀ j, t ≤ j → j < i - 1 → al8 (1 + j) = al (1 + (j + 1)) ∧ ∀ k, 0 ≤ k → k < 600 → al8 (9 + 600 * j + k) = al (9 + 600 * (j + 1) + k)) → (∀ j, ¬ (1 + t ≤ j ∧ j < i) → ¬ (9 + 600 * t ≤ j ∧ j < 9 + 600 * (i - 1)) → al8 j = al1 j) → (al 0 - i).toNat < N → G g E 4 0 0 [(wMo g mo mst mac mmk mr mrd mrm mcm mtp msz mtk mbg men mls mvl mft mfp mfk mdp mto), (wMTab g mo kd on tw sg le de so), (wMRow g mo ro), (wMAll g mo al8), (wMNew g mo nf)] 26 [(0, .ref (mo 0)), (1, .int (iI t)), (2, .int (iI i))] [] := by
    intro N
    induction N with
    | zero => intro al1 al8 i _ _ _ _ _ hN; exact absurd hN (Nat.not_lt_zero _)
    | succ N ih26 =>
      intro al1 al8 i c1 c2 hi g1 g2 hN
      have h80 : al8 0 = al 0 := by rw [g2 _ (by omega) (by omega), c2 _ (by omega)]
      have cut51 : ∀ (N : Nat) (al7 : Int → Int) (k : Int), (0 ≤ k ∧ k ≤ 600) → (i < al 0) → (al7 (1 + (i - 1)) = al (1 + i)) → (∀ q, 0 ≤ q → q < k → al7 (9 + 600 * (i - 1) + q) = al (9 + 600 * i + q)) → (∀ j, j ≠ 1 + (i - 1) → ¬ (9 + 600 * (i - 1) ≤ j ∧ j < 9 + 600 * (i - 1) + k) → al7 j = al8 j) → (600 - k).toNat < N → G g E 4 0 0 [(wMo g mo mst mac mmk mr mrd mrm mcm mtp msz mtk mbg men mls mvl mft mfp mfk mdp mto), (wMTab g mo kd on tw sg le de so), (wMRow g mo ro), (wMAll g mo al7), (wMNew g mo nf)] 51 [(0, .ref (mo 0)), (1, .int (iI t)), (2, .int (iI i)), (3, .int (iI k))] [] := by
        intro N
        induction N with
        | zero => intro al7 k _ _ _ _ _ hN; exact absurd hN (Nat.not_lt_zero _)
        | succ N ih51 =>
          intro al7 k hk hlt f1 f2 f3 hN
          refine r_iload_n 52 hE 3 dX9_drop_51 rfl rfl rfl ?_
          refine r_sipush 55 hE dX9_drop_52 rfl (by decide) ?_
          refine r_icmp_ge 58 87 hE dX9_drop_55 rfl (by decide) (by omega) (fun c55 => ?_) (fun c55 => ?_)
          · skip
            have g12 : ∀ j, t ≤ j → j < i + 1 - 1 → al7 (1 + j) = al (1 + (j + 1)) ∧ ∀ k, 0 ≤ k → k < 600 → al7 (9 + 600 * j + k) = al (9 + 600 * (j + 1) + k) := fun j a z => by
              by_cases y : j = i - 1
              · subst y
                refine ⟨by rw [f1]; congr 1; omega, fun q a2 z2 => ?_⟩
                rw [f2 q a2 (by omega)]; congr 1; omega
              · obtain ⟨w1, w2⟩ := g1 j a (by omega)
                refine ⟨by rw [f3 _ (by omega) (by omega)]; exact w1, fun q a2 z2 => ?_⟩
                rw [f3 _ (by omega) (by omega)]; exact w2 q a2 z2
            have g22 : ∀ j, ¬ (1 + t ≤ j ∧ j < i + 1) → ¬ (9 + 600 * t ≤ j ∧ j < 9 + 600 * (i + 1 - 1)) → al7 j = al1 j := fun j a z => by rw [f3 _ (by omega) (by omega)]; exact g2 j (by omega) (by omega)
            refine r_iinc 90 hE 2 (i + 1) [(2, .int (iI (i + 1))), (0, .ref (mo 0)), (1, .int (iI t)), (3, .int (iI k))] dX9_drop_87 rfl rfl rfl (by decide) rfl ?_
            refine r_goto 26 hE dX9_drop_90 (by decide) ?_
            refine G.to (fs' := [(wMo g mo mst mac mmk mr mrd mrm mcm mtp msz mtk mbg men mls mvl mft mfp mfk mdp mto), (wMTab g mo kd on tw sg le de so), (wMRow g mo ro), (wMAll g mo al7), (wMNew g mo nf)]) (lv' := [(0, .ref (mo 0)), (1, .int (iI t)), (2, .int (iI (i + 1)))]) [0, 1, 2, 3, 4] [1, 2, 0] rfl rfl rfl ?_
            exact ih26 al1 al7 (i + 1) (by first | exact c1 | exact h19_0) (by first | exact c2 | exact h19_1) (by omega) (by first | exact g12 | exact (fun j a q => absurd q (by omega))) (by first | exact g22 | exact (fun _ _ _ => rfl)) (by omega)
          · skip
            refine r_aload_n 59 hE 0 dX9_drop_58 rfl rfl rfl ?_
            refine r_get 62 hE 0 0 ok9 0 dX9_drop_59 rfl wd_1052 rfl rfl (by decide) rfl ?_
            refine r_bipush 64 hE dX9_drop_62 rfl (by decide) ?_
            refine r_sipush 67 hE dX9_drop_64 rfl (by decide) ?_
            refine r_iload_n 68 hE 2 dX9_drop_67 rfl rfl rfl ?_
            refine r_iconst 69 hE dX9_drop_68 rfl ?_
            refine r_isub 70 hE (i - 1) dX9_drop_69 rfl rfl ?_
            refine r_imul 71 hE (600 * (i - 1)) dX9_drop_70 rfl rfl ?_
            refine r_iadd 72 hE (9 + (600 * (i - 1))) dX9_drop_71 rfl rfl ?_
            refine r_iload_n 73 hE 3 dX9_drop_72 rfl rfl rfl ?_
            refine r_iadd 74 hE ((9 + (600 * (i - 1))) + k) dX9_drop_73 rfl rfl ?_
            refine r_aload_n 75 hE 0 dX9_drop_74 rfl rfl rfl ?_
            refine r_iload_n 76 hE 2 dX9_drop_75 rfl rfl rfl ?_
            refine r_iload_n 77 hE 3 dX9_drop_76 rfl rfl rfl ?_
            refine r_callV 80 hE [0, 3] [1, 2, 4] [(wMo g mo mst mac mmk mr mrd mrm mcm mtp msz mtk mbg men mls mvl mft mfp mfk mdp mto), (wMAll g mo al7)] [(wMTab g mo kd on tw sg le de so), (wMRow g mo ro), (wMNew g mo nf)] 0 9 ok9 [.int (iI ((9 + (600 * (i - 1))) + k)), .ref (mo 1)] (c_X9_at (by omega)) dX9_drop_77 rfl rfl wd_1277 wd_1279 ws_66 wd_12 wd_1280 ne_X9 np_X9_at (Nat.le_of_ble_eq_true rfl)  (by decide) (by decide) rfl (Nat.le_of_ble_eq_true rfl) rfl rfl rfl rfl (by decide) rfl (fun v1 f1 hp => ?_)
            obtain ⟨rfl, rfl⟩ := hp
            show G g E _ _ _ [(wMo g mo mst mac mmk mr mrd mrm mcm mtp msz mtk mbg men mls mvl mft mfp mfk mdp mto), (wMAll g mo al7), (wMTab g mo kd on tw sg le de so), (wMRow g mo ro), (wMNew g mo nf)] 80 [(0, .ref (mo 0)), (1, .int (iI t)), (2, .int (iI i)), (3, .int (iI k))] [.int (iI (mF al7 i k)), .int (iI ((9 + (600 * (i - 1))) + k)), .ref (mo 1)]
            refine r_iast 81 hE 1 0 (wMAll g mo (up al7 ((9 + (600 * (i - 1))) + k) (mF al7 i k))) [(wMo g mo mst mac mmk mr mrd mrm mcm mtp msz mtk mbg men mls mvl mft mfp mfk mdp mto), (wMAll g mo (up al7 ((9 + (600 * (i - 1))) + k) (mF al7 i k))), (wMTab g mo kd on tw sg le de so), (wMRow g mo ro), (wMNew g mo nf)] dX9_drop_80 rfl rfl rfl (by omega) rfl rfl ?_
            have hat : mF al7 i k = al (9 + 600 * i + k) := by show al7 (9 + 600 * i + k) = _; rw [f3 _ (by omega) (by omega), g2 _ (by omega) (by omega), c2 _ (by omega)]
            have f12 : up al7 (9 + 600 * (i - 1) + k) (mF al7 i k) (1 + (i - 1)) = al (1 + i) := by rw [up_ne _ _ (by omega)]; exact f1
            have f22 : ∀ q, 0 ≤ q → q < k + 1 → up al7 (9 + 600 * (i - 1) + k) (mF al7 i k) (9 + 600 * (i - 1) + q) = al (9 + 600 * i + q) := fun q a z => by
              by_cases y : q = k
              · rw [y, up_same]; exact hat
              · rw [up_ne _ _ (by omega)]; exact f2 q a (by omega)
            have f32 : ∀ j, j ≠ 1 + (i - 1) → ¬ (9 + 600 * (i - 1) ≤ j ∧ j < 9 + 600 * (i - 1) + (k + 1)) → up al7 (9 + 600 * (i - 1) + k) (mF al7 i k) j = al8 j := fun j a z => by rw [up_ne _ _ (by omega)]; exact f3 j a (by omega)
            refine r_iinc 84 hE 3 (k + 1) [(3, .int (iI (k + 1))), (0, .ref (mo 0)), (1, .int (iI t)), (2, .int (iI i))] dX9_drop_81 rfl rfl rfl (by decide) rfl ?_
            refine r_goto 51 hE dX9_drop_84 (by decide) ?_
            refine G.to (fs' := [(wMo g mo mst mac mmk mr mrd mrm mcm mtp msz mtk mbg men mls mvl mft mfp mfk mdp mto), (wMTab g mo kd on tw sg le de so), (wMRow g mo ro), (wMAll g mo (up al7 ((9 + (600 * (i - 1))) + k) (mF al7 i k))), (wMNew g mo nf)]) (lv' := [(0, .ref (mo 0)), (1, .int (iI t)), (2, .int (iI i)), (3, .int (iI (k + 1)))]) [0, 2, 3, 1, 4] [1, 2, 3, 0] rfl rfl rfl ?_
            exact ih51 (up al7 ((9 + (600 * (i - 1))) + k) (mF al7 i k)) (k + 1) (by omega) (by omega) (by first | exact f12 | (rw [show 1 + (i - 1) = 1 + i - 1 by omega, up_same]; exact hsz)) (by first | exact f22 | exact (fun q a z => absurd z (by omega))) (by first | exact f32 | exact (fun j a _ => up_ne _ _ (by omega))) (by omega)
      refine r_iload_n 27 hE 2 dX9_drop_26 rfl rfl rfl ?_
      refine r_aload_n 28 hE 0 dX9_drop_27 rfl rfl rfl ?_
      refine r_callV 31 hE [0, 3] [1, 2, 4] [(wMo g mo mst mac mmk mr mrd mrm mcm mtp msz mtk mbg men mls mvl mft mfp mfk mdp mto), (wMAll g mo al8)] [(wMTab g mo kd on tw sg le de so), (wMRow g mo ro), (wMNew g mo nf)] 0 9 ok9 [.int (iI i)] (c_X9_many) dX9_drop_28 rfl rfl wd_1217 wd_1219 ws_52 wd_12 wd_1220 ne_X9 np_X9_many (Nat.le_of_ble_eq_true rfl)  (by decide) (by decide) rfl (Nat.le_of_ble_eq_true rfl) rfl rfl rfl rfl (by decide) rfl (fun v1 f1 hp => ?_)
      obtain ⟨rfl, rfl⟩ := hp
      show G g E _ _ _ [(wMo g mo mst mac mmk mr mrd mrm mcm mtp msz mtk mbg men mls mvl mft mfp mfk mdp mto), (wMAll g mo al8), (wMTab g mo kd on tw sg le de so), (wMRow g mo ro), (wMNew g mo nf)] 31 [(0, .ref (mo 0)), (1, .int (iI t)), (2, .int (iI i))] [.int (iI (al8 0)), .int (iI i)]
      refine r_icmp_ge 34 93 hE dX9_drop_31 rfl (by decide) (by omega) (fun c31 => ?_) (fun c31 => ?_)
      · skip
        refine r_aload_n 94 hE 0 dX9_drop_93 rfl rfl rfl ?_
        refine r_get 97 hE 0 0 ok9 0 dX9_drop_94 rfl wd_1052 rfl rfl (by decide) rfl ?_
        refine r_iconst 98 hE dX9_drop_97 rfl ?_
        refine r_dup2 99 hE dX9_drop_98 rfl rfl rfl ?_
        refine r_iald 100 hE 1 0 dX9_drop_99 rfl rfl rfl (by omega) ?_
        refine r_iconst 101 hE dX9_drop_100 rfl ?_
        refine r_isub 102 hE ((al8 0) - 1) dX9_drop_101 rfl rfl ?_
        refine r_iast 103 hE 1 0 (wMAll g mo (up al8 0 ((al8 0) - 1))) [(wMo g mo mst mac mmk mr mrd mrm mcm mtp msz mtk mbg men mls mvl mft mfp mfk mdp mto), (wMAll g mo (up al8 0 ((al8 0) - 1))), (wMTab g mo kd on tw sg le de so), (wMRow g mo ro), (wMNew g mo nf)] dX9_drop_102 rfl rfl rfl (by omega) rfl rfl ?_
        have hin : i = al 0 := by omega
        rw [hin] at g1 g2
        have hpre := PreAct.ofGone hM c1 c2 ht g1 g2 (al3 := up al8 0 (al8 0 - 1)) (fun j a => up_ne _ _ a) (by rw [up_same, h80])
        refine r_aload_n 104 hE 0 dX9_drop_103 rfl rfl rfl ?_
        refine r_aload_n 105 hE 0 dX9_drop_104 rfl rfl rfl ?_
        refine r_callV 108 hE [0, 1] [2, 3, 4] [(wMo g mo mst mac mmk mr mrd mrm mcm mtp msz mtk mbg men mls mvl mft mfp mfk mdp mto), (wMAll g mo (up al8 0 ((al8 0) - 1)))] [(wMTab g mo kd on tw sg le de so), (wMRow g mo ro), (wMNew g mo nf)] 0 9 ok9 [.ref (mo 0)] (c_X9_many) dX9_drop_105 rfl rfl wd_1217 wd_1219 ws_52 wd_12 wd_1220 ne_X9 np_X9_many (Nat.le_of_ble_eq_true rfl)  (by decide) (by decide) rfl (Nat.le_of_ble_eq_true rfl) rfl rfl rfl rfl (by decide) rfl (fun v1 f1 hp => ?_)
        obtain ⟨rfl, rfl⟩ := hp
        show G g E _ _ _ [(wMo g mo mst mac mmk mr mrd mrm mcm mtp msz mtk mbg men mls mvl mft mfp mfk mdp mto), (wMAll g mo (up al8 0 ((al8 0) - 1))), (wMTab g mo kd on tw sg le de so), (wMRow g mo ro), (wMNew g mo nf)] 108 [(0, .ref (mo 0)), (1, .int (iI t)), (2, .int (iI i))] [.int (iI ((up al8 0 ((al8 0) - 1)) 0)), .ref (mo 0)]
        refine r_callV 111 hE [0, 2, 3, 1, 4] [] [(wMo g mo mst mac mmk mr mrd mrm mcm mtp msz mtk mbg men mls mvl mft mfp mfk mdp mto), (wMTab g mo kd on tw sg le de so), (wMRow g mo ro), (wMAll g mo (up al8 0 ((al8 0) - 1))), (wMNew g mo nf)] [] 0 9 ok9 [] (c_X9_acted_ (R := R) (hpre.ok) (hpre.aside hM) (hac)) dX9_drop_108 rfl rfl wd_1358 wd_1360 ws_83 wd_12 wd_1361 ne_X9 np_X9_acted_ (Nat.le_of_ble_eq_true rfl)  (by decide) (by decide) rfl (Nat.le_of_ble_eq_true rfl) rfl rfl rfl rfl (by decide) rfl (fun v1 f1 hp => ?_)
        obtain ⟨kd9_108, on9_108, tw9_108, sg9_108, le9_108, de9_108, so9_108, mr9_108, R9_108, ro9_108, mrd9_108, mrm9_108, al9_108, nf9_108, mac9_108, news_108, rfl, rfl, h108_0, h108_1, h108_2, h108_3⟩ := hp
        show G g E _ _ _ [(wMo g mo 0 mac9_108 mmk mr9_108 mrd9_108 mrm9_108 mcm mtp msz mtk mbg men mls mvl mft mfp mfk mdp mto), (wMTab g mo kd9_108 on9_108 tw9_108 sg9_108 le9_108 de9_108 so9_108), (wMRow g mo ro9_108), (wMAll g mo al9_108), (wMNew g mo nf9_108)] 111 [(0, .ref (mo 0)), (1, .int (iI t)), (2, .int (iI i))] [.int (iI ((up al8 0 ((al8 0) - 1)) 0))]
        refine r_ireturn hE hR [(wMo g mo 0 mac9_108 mmk mr9_108 mrd9_108 mrm9_108 mcm mtp msz mtk mbg men mls mvl mft mfp mfk mdp mto), (wMTab g mo kd9_108 on9_108 tw9_108 sg9_108 le9_108 de9_108 so9_108), (wMRow g mo ro9_108), (wMAll g mo al9_108), (wMNew g mo nf9_108)] dX9_drop_111 (Nat.le_of_ble_eq_true rfl) (Nat.le_of_ble_eq_true rfl) rfl ?_
        have hA := hpre.act hM hac h108_0 h108_1 h108_2
        exact ⟨kd9_108, on9_108, tw9_108, sg9_108, le9_108, de9_108, so9_108, mr9_108, R9_108, ro9_108, mrd9_108, mrm9_108, al9_108, nf9_108, mac9_108, news_108, retI (by rw [up_same, h80]), rfl, hA.1, h108_3, hA.2⟩
      · skip
        refine r_aload_n 35 hE 0 dX9_drop_34 rfl rfl rfl ?_
        refine r_get 38 hE 0 0 ok9 0 dX9_drop_35 rfl wd_1052 rfl rfl (by decide) rfl ?_
        refine r_iconst 39 hE dX9_drop_38 rfl ?_
        refine r_iload_n 40 hE 2 dX9_drop_39 rfl rfl rfl ?_
        refine r_iadd 41 hE (1 + i) dX9_drop_40 rfl rfl ?_
        refine r_iconst 42 hE dX9_drop_41 rfl ?_
        refine r_isub 43 hE ((1 + i) - 1) dX9_drop_42 rfl rfl ?_
        refine r_aload_n 44 hE 0 dX9_drop_43 rfl rfl rfl ?_
        refine r_iload_n 45 hE 2 dX9_drop_44 rfl rfl rfl ?_
        refine r_callV 48 hE [0, 1] [2, 3, 4] [(wMo g mo mst mac mmk mr mrd mrm mcm mtp msz mtk mbg men mls mvl mft mfp mfk mdp mto), (wMAll g mo al8)] [(wMTab g mo kd on tw sg le de so), (wMRow g mo ro), (wMNew g mo nf)] 0 9 ok9 [.int (iI ((1 + i) - 1)), .ref (mo 1)] (c_X9_sizeOf (by omega)) dX9_drop_45 rfl rfl wd_1273 wd_1275 ws_65 wd_12 wd_1276 ne_X9 np_X9_sizeOf (Nat.le_of_ble_eq_true rfl)  (by decide) (by decide) rfl (Nat.le_of_ble_eq_true rfl) rfl rfl rfl rfl (by decide) rfl (fun v1 f1 hp => ?_)
        obtain ⟨rfl, rfl⟩ := hp
        show G g E _ _ _ [(wMo g mo mst mac mmk mr mrd mrm mcm mtp msz mtk mbg men mls mvl mft mfp mfk mdp mto), (wMAll g mo al8), (wMTab g mo kd on tw sg le de so), (wMRow g mo ro), (wMNew g mo nf)] 48 [(0, .ref (mo 0)), (1, .int (iI t)), (2, .int (iI i))] [.int (iI (mN al8 i)), .int (iI ((1 + i) - 1)), .ref (mo 1)]
        refine r_iast 49 hE 1 0 (wMAll g mo (up al8 ((1 + i) - 1) (mN al8 i))) [(wMo g mo mst mac mmk mr mrd mrm mcm mtp msz mtk mbg men mls mvl mft mfp mfk mdp mto), (wMAll g mo (up al8 ((1 + i) - 1) (mN al8 i))), (wMTab g mo kd on tw sg le de so), (wMRow g mo ro), (wMNew g mo nf)] dX9_drop_48 rfl rfl rfl (by omega) rfl rfl ?_
        have hsz : mN al8 i = al (1 + i) := by show al8 (1 + i) = al (1 + i); rw [g2 _ (by omega) (by omega), c2 _ (by omega)]
        refine r_iconst 50 hE dX9_drop_49 rfl ?_
        refine r_istore_n 51 hE [(3, .int (iI 0)), (0, .ref (mo 0)), (1, .int (iI t)), (2, .int (iI i))] dX9_drop_50 rfl rfl (by decide) rfl ?_
        refine G.to (fs' := [(wMo g mo mst mac mmk mr mrd mrm mcm mtp msz mtk mbg men mls mvl mft mfp mfk mdp mto), (wMTab g mo kd on tw sg le de so), (wMRow g mo ro), (wMAll g mo (up al8 ((1 + i) - 1) (mN al8 i))), (wMNew g mo nf)]) (lv' := [(0, .ref (mo 0)), (1, .int (iI t)), (2, .int (iI i)), (3, .int (iI 0))]) [0, 2, 3, 1, 4] [1, 2, 3, 0] rfl rfl rfl ?_
        exact cut51 _ (up al8 ((1 + i) - 1) (mN al8 i)) 0 (by omega) (by omega) (by first | exact f12 | (rw [show 1 + (i - 1) = 1 + i - 1 by omega, up_same]; exact hsz)) (by first | exact f22 | exact (fun q a z => absurd z (by omega))) (by first | exact f32 | exact (fun j a _ => up_ne _ _ (by omega))) (Nat.lt_succ_self _)
  refine r_aload_n 1 hE 0 dX9_drop_0 rfl rfl rfl ?_
  refine r_iload_n 2 hE 1 dX9_drop_1 rfl rfl rfl ?_
  refine r_callV 5 hE [0, 3] [1, 2, 4] [(wMo g mo mst mac mmk mr mrd mrm mcm mtp msz mtk mbg men mls mvl mft mfp mfk mdp mto), (wMAll g mo al)] [(wMTab g mo kd on tw sg le de so), (wMRow g mo ro), (wMNew g mo nf)] 0 9 ok9 [] (c_X9_isText (by omega) (by omega)) dX9_drop_2 rfl rfl wd_1346 wd_1348 ws_80 wd_12 wd_1349 ne_X9 np_X9_isText (Nat.le_of_ble_eq_true rfl)  (by decide) (by decide) rfl (Nat.le_of_ble_eq_true rfl) rfl rfl rfl rfl (by decide) rfl (fun v1 f1 hp => ?_)
  obtain ⟨rfl, rfl⟩ := hp
  show G g E _ _ _ [(wMo g mo mst mac mmk mr mrd mrm mcm mtp msz mtk mbg men mls mvl mft mfp mfk mdp mto), (wMAll g mo al), (wMTab g mo kd on tw sg le de so), (wMRow g mo ro), (wMNew g mo nf)] 5 [(0, .ref (mo 0)), (1, .int (iI t))] [.int (iI (bI (0 ≤ t ∧ t < al 0)))]
  refine r_if_ne 8 14 hE dX9_drop_5 rfl (by decide) (bI_rg _) (fun c5 => ?_) (fun c5 => ?_)
  · skip
    have c5 := bI1 c5
    refine r_aload_n 15 hE 0 dX9_drop_14 rfl rfl rfl ?_
    refine r_iconst 16 hE dX9_drop_15 rfl ?_
    refine r_sipush 19 hE dX9_drop_16 rfl (by decide) ?_
    refine r_callV 22 hE [0, 1] [2, 3, 4] [(wMo g mo mst mac mmk mr mrd mrm mcm mtp msz mtk mbg men mls mvl mft mfp mfk mdp mto), (wMAll g mo al)] [(wMTab g mo kd on tw sg le de so), (wMRow g mo ro), (wMNew g mo nf)] 0 9 ok9 [] (c_X9_copies (by omega) (by omega) (by omega)) dX9_drop_19 rfl rfl wd_1190 wd_1192 ws_48 wd_12 wd_1193 ne_X9 np_X9_copies (Nat.le_of_ble_eq_true rfl)  (by decide) (by decide) rfl (Nat.le_of_ble_eq_true rfl) rfl rfl rfl rfl (by decide) rfl (fun v1 f1 hp => ?_)
    obtain ⟨al9_19, rfl, rfl, h19_0, h19_1⟩ := hp
    show G g E _ _ _ [(wMo g mo mst mac mmk mr mrd mrm mcm mtp msz mtk mbg men mls mvl mft mfp mfk mdp mto), (wMAll g mo al9_19), (wMTab g mo kd on tw sg le de so), (wMRow g mo ro), (wMNew g mo nf)] 22 [(0, .ref (mo 0)), (1, .int (iI t))] []
    refine r_iload_n 23 hE 1 dX9_drop_22 rfl rfl rfl ?_
    refine r_iconst 24 hE dX9_drop_23 rfl ?_
    refine r_iadd 25 hE (t + 1) dX9_drop_24 rfl rfl ?_
    refine r_istore_n 26 hE [(2, .int (iI (t + 1))), (0, .ref (mo 0)), (1, .int (iI t))] dX9_drop_25 rfl rfl (by decide) rfl ?_
    refine G.to (fs' := [(wMo g mo mst mac mmk mr mrd mrm mcm mtp msz mtk mbg men mls mvl mft mfp mfk mdp mto), (wMTab g mo kd on tw sg le de so), (wMRow g mo ro), (wMAll g mo al9_19), (wMNew g mo nf)]) (lv' := [(0, .ref (mo 0)), (1, .int (iI t)), (2, .int (iI (t + 1)))]) [0, 2, 3, 1, 4] [1, 2, 0] rfl rfl rfl ?_
    exact cut26 _ al9_19 al9_19 (t + 1) (by first | exact c1 | exact h19_0) (by first | exact c2 | exact h19_1) (by omega) (by first | exact g12 | exact (fun j a q => absurd q (by omega))) (by first | exact g22 | exact (fun _ _ _ => rfl)) (Nat.lt_succ_self _)
  · skip
    have c5 := bI0 c5
    omega
set_option maxHeartbeats 4000000 in
set_option maxRecDepth 100000 in
theorem c_X9_drop_no {g : Gm} {mo : Nat → Nat} {mst mac mmk mr mrd mrm mcm mtp msz mtk mbg men mls mvl mft mfp mfk mdp mto : Int} {al : Int → Int} {t : Int} (hM : MTx al) (hr_t : -2147483648 ≤ t ∧ t ≤ 2147483647) (hno : ¬ (0 ≤ t ∧ t < al 0)) : Ct g 9 0 0 yX9_drop cX9_drop 4 (some .int) [.ref (mo 0), .int (iI t)] [(wMo g mo mst mac mmk mr mrd mrm mcm mtp msz mtk mbg men mls mvl mft mfp mfk mdp mto), (wMAll g mo al)] (fun v_ w_ => v_ = some (.int (iI (-1))) ∧ w_ = [(wMo g mo 2 mac mmk mr mrd mrm mcm mtp msz mtk mbg men mls mvl mft mfp mfk mdp mto), (wMAll g mo al)]) := by
  refine Ct.of (by decide) (Nat.le_of_ble_eq_true rfl) (lv := [(0, .ref (mo 0)), (1, .int (iI t))]) rfl ?_
  intro E hE hR hnm
  have hc := hM.1
  refine r_aload_n 1 hE 0 dX9_drop_0 rfl rfl rfl ?_
  refine r_iload_n 2 hE 1 dX9_drop_1 rfl rfl rfl ?_
  refine r_callV 5 hE [0, 1] [] [(wMo g mo mst mac mmk mr mrd mrm mcm mtp msz mtk mbg men mls mvl mft mfp mfk mdp mto), (wMAll g mo al)] [] 0 9 ok9 [] (c_X9_isText (by omega) (by omega)) dX9_drop_2 rfl rfl wd_1346 wd_1348 ws_80 wd_12 wd_1349 ne_X9 np_X9_isText (Nat.le_of_ble_eq_true rfl)  (by decide) (by decide) rfl (Nat.le_of_ble_eq_true rfl) rfl rfl rfl rfl (by decide) rfl (fun v1 f1 hp => ?_)
  obtain ⟨rfl, rfl⟩ := hp
  show G g E _ _ _ [(wMo g mo mst mac mmk mr mrd mrm mcm mtp msz mtk mbg men mls mvl mft mfp mfk mdp mto), (wMAll g mo al)] 5 [(0, .ref (mo 0)), (1, .int (iI t))] [.int (iI (bI (0 ≤ t ∧ t < al 0)))]
  refine r_if_ne 8 14 hE dX9_drop_5 rfl (by decide) (bI_rg _) (fun c5 => ?_) (fun c5 => ?_)
  · skip
    have c5 := bI1 c5
    exact absurd c5 hno
  · skip
    have c5 := bI0 c5
    refine r_aload_n 9 hE 0 dX9_drop_8 rfl rfl rfl ?_
    refine r_iconst 10 hE dX9_drop_9 rfl ?_
    refine r_callV 13 hE [0] [1] [(wMo g mo mst mac mmk mr mrd mrm mcm mtp msz mtk mbg men mls mvl mft mfp mfk mdp mto)] [(wMAll g mo al)] 0 9 ok9 [] (c_X9_refuse) dX9_drop_10 rfl rfl wd_1186 wd_1188 ws_47 wd_12 wd_1189 ne_X9 np_X9_refuse (Nat.le_of_ble_eq_true rfl)  (by decide) (by decide) rfl (Nat.le_of_ble_eq_true rfl) rfl rfl rfl rfl (by decide) rfl (fun v1 f1 hp => ?_)
    obtain ⟨rfl, rfl⟩ := hp
    show G g E _ _ _ [(wMo g mo 2 mac mmk mr mrd mrm mcm mtp msz mtk mbg men mls mvl mft mfp mfk mdp mto), (wMAll g mo al)] 13 [(0, .ref (mo 0)), (1, .int (iI t))] [.int (iI (-1))]
    refine r_ireturn hE hR [(wMo g mo 2 mac mmk mr mrd mrm mcm mtp msz mtk mbg men mls mvl mft mfp mfk mdp mto), (wMAll g mo al)] dX9_drop_13 (Nat.le_of_ble_eq_true rfl) (Nat.le_of_ble_eq_true rfl) rfl ?_
    exact ⟨retI (rfl), rfl⟩
