set_option maxHeartbeats 4000000 in
set_option maxRecDepth 100000 in
theorem c_X9_more {g : Gm} {mo : Nat → Nat} {mst mac mmk mr mrd mrm mcm mtp msz mtk mbg men mls mvl mft mfp mfk mdp mto : Int} {al : Int → Int} {kd on tw sg le de so : Int → Int} {R : Int → Rl} {ro : Int → Int} {nf : Int → Int} {pl : Int → Int} (hM : MTx al) (hac : 0 ≤ mac ∧ mac ≤ 8) (h8 : al 0 < 8) (hn : 1 ≤ mto ∧ mto ≤ 600) (hf : ∀ k, 0 ≤ k → k < mto → 0 ≤ pl k ∧ pl k ≤ 25) : Ct g 9 0 0 yX9_more cX9_more 2 (some .int) [.ref (mo 0)] [(wMo g mo mst mac mmk mr mrd mrm mcm mtp msz mtk mbg men mls mvl mft mfp mfk mdp mto), (wMTab g mo kd on tw sg le de so), (wMRow g mo ro), (wMAll g mo al), (wMNew g mo nf), (wMPil g mo pl)] (fun v_ w_ => ∃ kd9 : Int → Int, ∃ on9 : Int → Int, ∃ tw9 : Int → Int, ∃ sg9 : Int → Int, ∃ le9 : Int → Int, ∃ de9 : Int → Int, ∃ so9 : Int → Int, ∃ mr9 : Int, ∃ R9 : Int → Rl, ∃ ro9 : Int → Int, ∃ mrd9 : Int, ∃ mrm9 : Int, ∃ al9 : Int → Int, ∃ nf9 : Int → Int, ∃ mac9 : Int, ∃ news : Int, v_ = some (.int (iI (al 0))) ∧ w_ = [(wMo g mo 0 mac9 mmk mr9 mrd9 mrm9 mcm mtp msz mtk mbg men mls mvl mft mfp mfk mdp mto), (wMTab g mo kd9 on9 tw9 sg9 le9 de9 so9), (wMRow g mo ro9), (wMAll g mo al9), (wMNew g mo nf9), (wMPil g mo pl)] ∧ (ActIs al nf mac al9 nf9 mac9 news) ∧ (1 ≤ mac9 ∧ mac9 ≤ 8) ∧ (PSet al (al 0) pl mto al9)) := by
  refine Ct.of (by decide) (Nat.le_of_ble_eq_true rfl) (lv := [(0, .ref (mo 0))]) rfl ?_
  intro E hE hR hnm
  have hc := hM.1
  refine r_aload_n 1 hE 0 dX9_more_0 rfl rfl rfl ?_
  refine r_callV 4 hE [0, 3] [1, 2, 4, 5] [(wMo g mo mst mac mmk mr mrd mrm mcm mtp msz mtk mbg men mls mvl mft mfp mfk mdp mto), (wMAll g mo al)] [(wMTab g mo kd on tw sg le de so), (wMRow g mo ro), (wMNew g mo nf), (wMPil g mo pl)] 0 9 ok9 [] (c_X9_many) dX9_more_1 rfl rfl wd_1217 wd_1219 ws_52 wd_12 wd_1220 ne_X9 np_X9_many (Nat.le_of_ble_eq_true rfl)  (by decide) (by decide) rfl (Nat.le_of_ble_eq_true rfl) rfl rfl rfl rfl (by decide) rfl (fun v1 f1 hp => ?_)
  obtain ⟨rfl, rfl⟩ := hp
  show G g E _ _ _ [(wMo g mo mst mac mmk mr mrd mrm mcm mtp msz mtk mbg men mls mvl mft mfp mfk mdp mto), (wMAll g mo al), (wMTab g mo kd on tw sg le de so), (wMRow g mo ro), (wMNew g mo nf), (wMPil g mo pl)] 4 [(0, .ref (mo 0))] [.int (iI (al 0))]
  refine r_istore_n 5 hE [(1, .int (iI (al 0))), (0, .ref (mo 0))] dX9_more_4 rfl rfl (by decide) rfl ?_
  refine r_aload_n 6 hE 1 dX9_more_5 rfl rfl rfl ?_
  refine r_iconst 7 hE dX9_more_6 rfl ?_
  refine r_sipush 10 hE dX9_more_7 rfl (by decide) ?_
  refine r_callV 13 hE [0, 1] [2, 3, 4, 5] [(wMo g mo mst mac mmk mr mrd mrm mcm mtp msz mtk mbg men mls mvl mft mfp mfk mdp mto), (wMAll g mo al)] [(wMTab g mo kd on tw sg le de so), (wMRow g mo ro), (wMNew g mo nf), (wMPil g mo pl)] 0 9 ok9 [] (c_X9_copies (by omega) (by omega) (by omega)) dX9_more_10 rfl rfl wd_1190 wd_1192 ws_48 wd_12 wd_1193 ne_X9 np_X9_copies (Nat.le_of_ble_eq_true rfl)  (by decide) (by decide) rfl (Nat.le_of_ble_eq_true rfl) rfl rfl rfl rfl (by decide) rfl (fun v1 f1 hp => ?_)
  obtain ⟨al9_10, rfl, rfl, h10_0, h10_1⟩ := hp
  show G g E _ _ _ [(wMo g mo mst mac mmk mr mrd mrm mcm mtp msz mtk mbg men mls mvl mft mfp mfk mdp mto), (wMAll g mo al9_10), (wMTab g mo kd on tw sg le de so), (wMRow g mo ro), (wMNew g mo nf), (wMPil g mo pl)] 13 [(1, .int (iI (al 0))), (0, .ref (mo 0))] []
  refine r_aload_n 14 hE 1 dX9_more_13 rfl rfl rfl ?_
  refine r_iload_n 15 hE 0 dX9_more_14 rfl rfl rfl ?_
  refine r_callV 18 hE [0, 1, 5] [2, 3, 4] [(wMo g mo mst mac mmk mr mrd mrm mcm mtp msz mtk mbg men mls mvl mft mfp mfk mdp mto), (wMAll g mo al9_10), (wMPil g mo pl)] [(wMTab g mo kd on tw sg le de so), (wMRow g mo ro), (wMNew g mo nf)] 0 9 ok9 [] (c_X9_puts (by omega) (by omega)) dX9_more_15 rfl rfl wd_1289 wd_1291 ws_69 wd_12 wd_1292 ne_X9 np_X9_puts (Nat.le_of_ble_eq_true rfl)  (by decide) (by decide) rfl (Nat.le_of_ble_eq_true rfl) rfl rfl rfl rfl (by decide) rfl (fun v1 f1 hp => ?_)
  obtain ⟨al9_15, rfl, rfl, h15_0⟩ := hp
  show G g E _ _ _ [(wMo g mo mst mac mmk mr mrd mrm mcm mtp msz mtk mbg men mls mvl mft mfp mfk mdp mto), (wMAll g mo al9_15), (wMPil g mo pl), (wMTab g mo kd on tw sg le de so), (wMRow g mo ro), (wMNew g mo nf)] 18 [(1, .int (iI (al 0))), (0, .ref (mo 0))] []
  have hz := h15_0.zero h10_1 hc.1
  have hpre := h15_0.pre hM h10_0 h10_1 (by omega) hn hf (al3 := up al9_15 0 (al9_15 0 + 1)) (fun j a => up_ne _ _ a) (by rw [up_same, hz]; omega)
  refine r_aload_n 19 hE 1 dX9_more_18 rfl rfl rfl ?_
  refine r_get 22 hE 0 0 ok9 0 dX9_more_19 rfl wd_1052 rfl rfl (by decide) rfl ?_
  refine r_iconst 23 hE dX9_more_22 rfl ?_
  refine r_dup2 24 hE dX9_more_23 rfl rfl rfl ?_
  refine r_iald 25 hE 1 0 dX9_more_24 rfl rfl rfl (by omega) ?_
  refine r_iconst 26 hE dX9_more_25 rfl ?_
  refine r_iadd 27 hE ((al9_15 0) + 1) dX9_more_26 rfl rfl ?_
  refine r_iast 28 hE 1 0 (wMAll g mo (up al9_15 0 ((al9_15 0) + 1))) [(wMo g mo mst mac mmk mr mrd mrm mcm mtp msz mtk mbg men mls mvl mft mfp mfk mdp mto), (wMAll g mo (up al9_15 0 ((al9_15 0) + 1))), (wMPil g mo pl), (wMTab g mo kd on tw sg le de so), (wMRow g mo ro), (wMNew g mo nf)] dX9_more_27 rfl rfl rfl (by omega) rfl rfl ?_
  refine r_aload_n 29 hE 1 dX9_more_28 rfl rfl rfl ?_
  refine r_iload_n 30 hE 0 dX9_more_29 rfl rfl rfl ?_
  refine r_callV 33 hE [0, 3, 4, 1, 5] [2] [(wMo g mo mst mac mmk mr mrd mrm mcm mtp msz mtk mbg men mls mvl mft mfp mfk mdp mto), (wMTab g mo kd on tw sg le de so), (wMRow g mo ro), (wMAll g mo (up al9_15 0 ((al9_15 0) + 1))), (wMNew g mo nf)] [(wMPil g mo pl)] 0 9 ok9 [] (c_X9_acted_ (R := R) (hpre.ok) (hpre.aside hM) (hac)) dX9_more_30 rfl rfl wd_1358 wd_1360 ws_83 wd_12 wd_1361 ne_X9 np_X9_acted_ (Nat.le_of_ble_eq_true rfl)  (by decide) (by decide) rfl (Nat.le_of_ble_eq_true rfl) rfl rfl rfl rfl (by decide) rfl (fun v1 f1 hp => ?_)
  obtain ⟨kd9_30, on9_30, tw9_30, sg9_30, le9_30, de9_30, so9_30, mr9_30, R9_30, ro9_30, mrd9_30, mrm9_30, al9_30, nf9_30, mac9_30, news_30, rfl, rfl, h30_0, h30_1, h30_2, h30_3⟩ := hp
  show G g E _ _ _ [(wMo g mo 0 mac9_30 mmk mr9_30 mrd9_30 mrm9_30 mcm mtp msz mtk mbg men mls mvl mft mfp mfk mdp mto), (wMTab g mo kd9_30 on9_30 tw9_30 sg9_30 le9_30 de9_30 so9_30), (wMRow g mo ro9_30), (wMAll g mo al9_30), (wMNew g mo nf9_30), (wMPil g mo pl)] 33 [(1, .int (iI (al 0))), (0, .ref (mo 0))] [.int (iI (al 0))]
  refine r_ireturn hE hR [(wMo g mo 0 mac9_30 mmk mr9_30 mrd9_30 mrm9_30 mcm mtp msz mtk mbg men mls mvl mft mfp mfk mdp mto), (wMTab g mo kd9_30 on9_30 tw9_30 sg9_30 le9_30 de9_30 so9_30), (wMRow g mo ro9_30), (wMAll g mo al9_30), (wMNew g mo nf9_30), (wMPil g mo pl)] dX9_more_33 (Nat.le_of_ble_eq_true rfl) (Nat.le_of_ble_eq_true rfl) rfl ?_
  have hA := hpre.act hM hac h30_0 h30_1 h30_2
  exact ⟨kd9_30, on9_30, tw9_30, sg9_30, le9_30, de9_30, so9_30, mr9_30, R9_30, ro9_30, mrd9_30, mrm9_30, al9_30, nf9_30, mac9_30, news_30, rfl, rfl, hA.1, h30_3, hA.2⟩
set_option maxHeartbeats 4000000 in
set_option maxRecDepth 100000 in
theorem c_X9_take {g : Gm} {mo : Nat → Nat} {mst mac mmk mr mrd mrm mcm mtp msz mtk mbg men mls mvl mft mfp mfk mdp mto : Int} {al : Int → Int} {kd on tw sg le de so : Int → Int} {R : Int → Rl} {ro : Int → Int} {nf : Int → Int} {pl : Int → Int} {t p_ m_ : Int} (hM : MTx al) (hac : 0 ≤ mac ∧ mac ≤ 8) (ht : 0 ≤ t ∧ t < al 0) (hp : 0 ≤ p_ ∧ 1 ≤ m_ ∧ p_ + m_ ≤ mN al t) (h8 : al 0 < 8) : Ct g 10 0 0 yX9_take cX9_take 4 (some .int) [.ref (mo 0), .int (iI t), .int (iI p_), .int (iI m_)] [(wMo g mo mst mac mmk mr mrd mrm mcm mtp msz mtk mbg men mls mvl mft mfp mfk mdp mto), (wMTab g mo kd on tw sg le de so), (wMRow g mo ro), (wMAll g mo al), (wMNew g mo nf), (wMPil g mo pl)] (fun v_ w_ => ∃ kd9 : Int → Int, ∃ on9 : Int → Int, ∃ tw9 : Int → Int, ∃ sg9 : Int → Int, ∃ le9 : Int → Int, ∃ de9 : Int → Int, ∃ so9 : Int → Int, ∃ mr9 : Int, ∃ R9 : Int → Rl, ∃ ro9 : Int → Int, ∃ mrd9 : Int, ∃ mrm9 : Int, ∃ al9 : Int → Int, ∃ nf9 : Int → Int, ∃ mac9 : Int, ∃ news : Int, ∃ pl9 : Int → Int, ∃ mto9 : Int, v_ = some (.int (iI (al 0))) ∧ w_ = [(wMo g mo 0 mac9 mmk mr9 mrd9 mrm9 mcm mtp msz mtk mbg men mls mvl mft mfp mfk mdp mto9), (wMTab g mo kd9 on9 tw9 sg9 le9 de9 so9), (wMRow g mo ro9), (wMAll g mo al9), (wMNew g mo nf9), (wMPil g mo pl9)] ∧ (ActIs al nf mac al9 nf9 mac9 news) ∧ (1 ≤ mac9 ∧ mac9 ≤ 8) ∧ (PSet al (al 0) (fun k => mF al t (p_ + k)) m_ al9)) := by
  refine Ct.of (by decide) (Nat.le_of_ble_eq_true rfl) (lv := [(0, .ref (mo 0)), (1, .int (iI t)), (2, .int (iI p_)), (3, .int (iI m_))]) rfl ?_
  intro E hE hR hnm
  have hc := hM.1
  have hl_t := hM.2 t ht.1 ht.2
  refine r_iload_n 1 hE 2 dX9_take_0 rfl rfl rfl ?_
  refine r_if_lt 4 9 hE dX9_take_1 rfl (by decide) (by omega) (fun c1 => ?_) (fun c1 => ?_)
  · skip
    omega
  · skip
    refine r_iload_n 5 hE 3 dX9_take_4 rfl rfl rfl ?_
    refine r_iconst 6 hE dX9_take_5 rfl ?_
    refine r_icmp_ge 9 15 hE dX9_take_6 rfl (by decide) (by omega) (fun c6 => ?_) (fun c6 => ?_)
    · skip
      refine r_aload_n 16 hE 0 dX9_take_15 rfl rfl rfl ?_
      refine r_iload_n 17 hE 1 dX9_take_16 rfl rfl rfl ?_
      refine r_callV 20 hE [0, 3] [1, 2, 4, 5] [(wMo g mo mst mac mmk mr mrd mrm mcm mtp msz mtk mbg men mls mvl mft mfp mfk mdp mto), (wMAll g mo al)] [(wMTab g mo kd on tw sg le de so), (wMRow g mo ro), (wMNew g mo nf), (wMPil g mo pl)] 0 9 ok9 [] (c_X9_isText (by omega) (by omega)) dX9_take_17 rfl rfl wd_1346 wd_1348 ws_80 wd_12 wd_1349 ne_X9 np_X9_isText (Nat.le_of_ble_eq_true rfl)  (by decide) (by decide) rfl (Nat.le_of_ble_eq_true rfl) rfl rfl rfl rfl (by decide) rfl (fun v1 f1 hp => ?_)
      obtain ⟨rfl, rfl⟩ := hp
      show G g E _ _ _ [(wMo g mo mst mac mmk mr mrd mrm mcm mtp msz mtk mbg men mls mvl mft mfp mfk mdp mto), (wMAll g mo al), (wMTab g mo kd on tw sg le de so), (wMRow g mo ro), (wMNew g mo nf), (wMPil g mo pl)] 20 [(0, .ref (mo 0)), (1, .int (iI t)), (2, .int (iI p_)), (3, .int (iI m_))] [.int (iI (bI (0 ≤ t ∧ t < al 0)))]
      refine r_if_ne 23 29 hE dX9_take_20 rfl (by decide) (bI_rg _) (fun c20 => ?_) (fun c20 => ?_)
      · skip
        have c20 := bI1 c20
        refine r_aload_n 30 hE 0 dX9_take_29 rfl rfl rfl ?_
        refine r_callV 33 hE [0, 1] [2, 3, 4, 5] [(wMo g mo mst mac mmk mr mrd mrm mcm mtp msz mtk mbg men mls mvl mft mfp mfk mdp mto), (wMAll g mo al)] [(wMTab g mo kd on tw sg le de so), (wMRow g mo ro), (wMNew g mo nf), (wMPil g mo pl)] 0 9 ok9 [] (c_X9_many) dX9_take_30 rfl rfl wd_1217 wd_1219 ws_52 wd_12 wd_1220 ne_X9 np_X9_many (Nat.le_of_ble_eq_true rfl)  (by decide) (by decide) rfl (Nat.le_of_ble_eq_true rfl) rfl rfl rfl rfl (by decide) rfl (fun v1 f1 hp => ?_)
        obtain ⟨rfl, rfl⟩ := hp
        show G g E _ _ _ [(wMo g mo mst mac mmk mr mrd mrm mcm mtp msz mtk mbg men mls mvl mft mfp mfk mdp mto), (wMAll g mo al), (wMTab g mo kd on tw sg le de so), (wMRow g mo ro), (wMNew g mo nf), (wMPil g mo pl)] 33 [(0, .ref (mo 0)), (1, .int (iI t)), (2, .int (iI p_)), (3, .int (iI m_))] [.int (iI (al 0))]
        refine r_bipush 35 hE dX9_take_33 rfl (by decide) ?_
        refine r_icmp_ne 38 44 hE dX9_take_35 rfl (by decide) (by omega) (fun c35 => ?_) (fun c35 => ?_)
        · skip
          refine r_iload_n 45 hE 2 dX9_take_44 rfl rfl rfl ?_
          refine r_aload_n 46 hE 0 dX9_take_45 rfl rfl rfl ?_
          refine r_iload_n 47 hE 1 dX9_take_46 rfl rfl rfl ?_
          refine r_callV 50 hE [0, 1] [2, 3, 4, 5] [(wMo g mo mst mac mmk mr mrd mrm mcm mtp msz mtk mbg men mls mvl mft mfp mfk mdp mto), (wMAll g mo al)] [(wMTab g mo kd on tw sg le de so), (wMRow g mo ro), (wMNew g mo nf), (wMPil g mo pl)] 0 9 ok9 [.int (iI p_)] (c_X9_sizeOf (by omega)) dX9_take_47 rfl rfl wd_1273 wd_1275 ws_65 wd_12 wd_1276 ne_X9 np_X9_sizeOf (Nat.le_of_ble_eq_true rfl)  (by decide) (by decide) rfl (Nat.le_of_ble_eq_true rfl) rfl rfl rfl rfl (by decide) rfl (fun v1 f1 hp => ?_)
          obtain ⟨rfl, rfl⟩ := hp
          show G g E _ _ _ [(wMo g mo mst mac mmk mr mrd mrm mcm mtp msz mtk mbg men mls mvl mft mfp mfk mdp mto), (wMAll g mo al), (wMTab g mo kd on tw sg le de so), (wMRow g mo ro), (wMNew g mo nf), (wMPil g mo pl)] 50 [(0, .ref (mo 0)), (1, .int (iI t)), (2, .int (iI p_)), (3, .int (iI m_))] [.int (iI (mN al t)), .int (iI p_)]
          refine r_icmp_ge 53 64 hE dX9_take_50 rfl (by decide) (by omega) (fun c50 => ?_) (fun c50 => ?_)
          · skip
            omega
          · skip
            refine r_iload_n 54 hE 3 dX9_take_53 rfl rfl rfl ?_
            refine r_aload_n 55 hE 0 dX9_take_54 rfl rfl rfl ?_
            refine r_iload_n 56 hE 1 dX9_take_55 rfl rfl rfl ?_
            refine r_callV 59 hE [0, 1] [2, 3, 4, 5] [(wMo g mo mst mac mmk mr mrd mrm mcm mtp msz mtk mbg men mls mvl mft mfp mfk mdp mto), (wMAll g mo al)] [(wMTab g mo kd on tw sg le de so), (wMRow g mo ro), (wMNew g mo nf), (wMPil g mo pl)] 0 9 ok9 [.int (iI m_)] (c_X9_sizeOf (by omega)) dX9_take_56 rfl rfl wd_1273 wd_1275 ws_65 wd_12 wd_1276 ne_X9 np_X9_sizeOf (Nat.le_of_ble_eq_true rfl)  (by decide) (by decide) rfl (Nat.le_of_ble_eq_true rfl) rfl rfl rfl rfl (by decide) rfl (fun v1 f1 hp => ?_)
            obtain ⟨rfl, rfl⟩ := hp
            show G g E _ _ _ [(wMo g mo mst mac mmk mr mrd mrm mcm mtp msz mtk mbg men mls mvl mft mfp mfk mdp mto), (wMAll g mo al), (wMTab g mo kd on tw sg le de so), (wMRow g mo ro), (wMNew g mo nf), (wMPil g mo pl)] 59 [(0, .ref (mo 0)), (1, .int (iI t)), (2, .int (iI p_)), (3, .int (iI m_))] [.int (iI (mN al t)), .int (iI m_)]
            refine r_iload_n 60 hE 2 dX9_take_59 rfl rfl rfl ?_
            refine r_isub 61 hE ((mN al t) - p_) dX9_take_60 rfl rfl ?_
            refine r_icmp_le 64 70 hE dX9_take_61 rfl (by decide) (by omega) (fun c61 => ?_) (fun c61 => ?_)
            · skip
              refine r_aload_n 71 hE 0 dX9_take_70 rfl rfl rfl ?_
              refine r_iconst 72 hE dX9_take_71 rfl ?_
              refine r_put 75 hE 0 0 ok9 37 (wMo g mo mst mac mmk mr mrd mrm mcm mtp msz mtk mbg men mls mvl mft mfp mfk mdp 0) [(wMo g mo mst mac mmk mr mrd mrm mcm mtp msz mtk mbg men mls mvl mft mfp mfk mdp 0), (wMAll g mo al), (wMTab g mo kd on tw sg le de so), (wMRow g mo ro), (wMNew g mo nf), (wMPil g mo pl)] dX9_take_72 rfl wd_1089 rfl rfl (by decide) rfl rfl rfl (Nat.le_of_ble_eq_true rfl) rfl rfl ?_
              refine r_aload_n 76 hE 0 dX9_take_75 rfl rfl rfl ?_
              refine r_iload_n 77 hE 1 dX9_take_76 rfl rfl rfl ?_
              refine r_iload_n 78 hE 2 dX9_take_77 rfl rfl rfl ?_
              refine r_iload_n 79 hE 3 dX9_take_78 rfl rfl rfl ?_
              refine r_callV 82 hE [0, 1, 5] [2, 3, 4] [(wMo g mo mst mac mmk mr mrd mrm mcm mtp msz mtk mbg men mls mvl mft mfp mfk mdp 0), (wMAll g mo al), (wMPil g mo pl)] [(wMTab g mo kd on tw sg le de so), (wMRow g mo ro), (wMNew g mo nf)] 0 9 ok9 [] (c_X9_piles (by omega) (by omega) (by omega)) dX9_take_79 rfl rfl wd_1350 wd_1352 ws_81 wd_12 wd_1353 ne_X9 np_X9_piles (Nat.le_of_ble_eq_true rfl)  (by decide) (by decide) rfl (Nat.le_of_ble_eq_true rfl) rfl rfl rfl rfl (by decide) rfl (fun v1 f1 hp => ?_)
              obtain ⟨pl9_79, rfl, rfl, h79_0, h79_1⟩ := hp
              show G g E _ _ _ [(wMo g mo mst mac mmk mr mrd mrm mcm mtp msz mtk mbg men mls mvl mft mfp mfk mdp (0 + m_)), (wMAll g mo al), (wMPil g mo pl9_79), (wMTab g mo kd on tw sg le de so), (wMRow g mo ro), (wMNew g mo nf)] 82 [(0, .ref (mo 0)), (1, .int (iI t)), (2, .int (iI p_)), (3, .int (iI m_))] []
              refine r_aload_n 83 hE 0 dX9_take_82 rfl rfl rfl ?_
              refine r_callV 86 hE [0, 3, 4, 1, 5, 2] [] [(wMo g mo mst mac mmk mr mrd mrm mcm mtp msz mtk mbg men mls mvl mft mfp mfk mdp (0 + m_)), (wMTab g mo kd on tw sg le de so), (wMRow g mo ro), (wMAll g mo al), (wMNew g mo nf), (wMPil g mo pl9_79)] [] 0 9 ok9 [] (c_X9_more (R := R) (hM) (hac) (by omega) (by omega) (fun k a b => by have h9 := h79_0 k a (by omega); rw [Int.zero_add] at h9; rw [h9]; exact hl_t.2 _ (by omega) (by omega))) dX9_take_83 rfl rfl wd_1354 wd_1356 ws_82 wd_12 wd_1357 ne_X9 np_X9_more (Nat.le_of_ble_eq_true rfl)  (by decide) (by decide) rfl (Nat.le_of_ble_eq_true rfl) rfl rfl rfl rfl (by decide) rfl (fun v1 f1 hp => ?_)
              obtain ⟨kd9_83, on9_83, tw9_83, sg9_83, le9_83, de9_83, so9_83, mr9_83, R9_83, ro9_83, mrd9_83, mrm9_83, al9_83, nf9_83, mac9_83, news_83, rfl, rfl, h83_0, h83_1, h83_2⟩ := hp
              show G g E _ _ _ [(wMo g mo 0 mac9_83 mmk mr9_83 mrd9_83 mrm9_83 mcm mtp msz mtk mbg men mls mvl mft mfp mfk mdp (0 + m_)), (wMTab g mo kd9_83 on9_83 tw9_83 sg9_83 le9_83 de9_83 so9_83), (wMRow g mo ro9_83), (wMAll g mo al9_83), (wMNew g mo nf9_83), (wMPil g mo pl9_79)] 86 [(0, .ref (mo 0)), (1, .int (iI t)), (2, .int (iI p_)), (3, .int (iI m_))] [.int (iI (al 0))]
              refine r_ireturn hE hR [(wMo g mo 0 mac9_83 mmk mr9_83 mrd9_83 mrm9_83 mcm mtp msz mtk mbg men mls mvl mft mfp mfk mdp (0 + m_)), (wMTab g mo kd9_83 on9_83 tw9_83 sg9_83 le9_83 de9_83 so9_83), (wMRow g mo ro9_83), (wMAll g mo al9_83), (wMNew g mo nf9_83), (wMPil g mo pl9_79)] dX9_take_86 (Nat.le_of_ble_eq_true rfl) (Nat.le_of_ble_eq_true rfl) rfl ?_
              exact ⟨kd9_83, on9_83, tw9_83, sg9_83, le9_83, de9_83, so9_83, mr9_83, R9_83, ro9_83, mrd9_83, mrm9_83, al9_83, nf9_83, mac9_83, news_83, _, _, rfl, rfl, h83_0, h83_1, h83_2.cg (by omega) (fun k a b => by have h9 := h79_0 k a (by omega); rw [Int.zero_add] at h9; exact h9)⟩
            · skip
              omega
        · skip
          omega
      · skip
        have c20 := bI0 c20
        omega
    · skip
      omega
set_option maxHeartbeats 4000000 in
set_option maxRecDepth 100000 in
theorem c_X9_take_no {g : Gm} {mo : Nat → Nat} {mst mac mmk mr mrd mrm mcm mtp msz mtk mbg men mls mvl mft mfp mfk mdp mto : Int} {al : Int → Int} {t p_ m_ : Int} (hM : MTx al) (hr_t : -2147483648 ≤ t ∧ t ≤ 2147483647) (hr_p_ : -2147483648 ≤ p_ ∧ p_ ≤ 2147483647) (hr_m_ : -2147483648 ≤ m_ ∧ m_ ≤ 2147483647) (hno : tkF (mN al) (al 0) t p_ m_ ≠ 0) : Ct g 10 0 0 yX9_take cX9_take 4 (some .int) [.ref (mo 0), .int (iI t), .int (iI p_), .int (iI m_)] [(wMo g mo mst mac mmk mr mrd mrm mcm mtp msz mtk mbg men mls mvl mft mfp mfk mdp mto), (wMAll g mo al)] (fun v_ w_ => v_ = some (.int (iI (-1))) ∧ w_ = [(wMo g mo (tkF (mN al) (al 0) t p_ m_) mac mmk mr mrd mrm mcm mtp msz mtk mbg men mls mvl mft mfp mfk mdp mto), (wMAll g mo al)]) := by
  refine Ct.of (by decide) (Nat.le_of_ble_eq_true rfl) (lv := [(0, .ref (mo 0)), (1, .int (iI t)), (2, .int (iI p_)), (3, .int (iI m_))]) rfl ?_
  intro E hE hR hnm
  have hc := hM.1
  refine r_iload_n 1 hE 2 dX9_take_0 rfl rfl rfl ?_
  refine r_if_lt 4 9 hE dX9_take_1 rfl (by decide) (by omega) (fun c1 => ?_) (fun c1 => ?_)
  · skip
    refine r_aload_n 10 hE 0 dX9_take_9 rfl rfl rfl ?_
    refine r_iconst 11 hE dX9_take_10 rfl ?_
    refine r_callV 14 hE [0] [1] [(wMo g mo mst mac mmk mr mrd mrm mcm mtp msz mtk mbg men mls mvl mft mfp mfk mdp mto)] [(wMAll g mo al)] 0 9 ok9 [] (c_X9_refuse) dX9_take_11 rfl rfl wd_1186 wd_1188 ws_47 wd_12 wd_1189 ne_X9 np_X9_refuse (Nat.le_of_ble_eq_true rfl)  (by decide) (by decide) rfl (Nat.le_of_ble_eq_true rfl) rfl rfl rfl rfl (by decide) rfl (fun v1 f1 hp => ?_)
    obtain ⟨rfl, rfl⟩ := hp
    show G g E _ _ _ [(wMo g mo 1 mac mmk mr mrd mrm mcm mtp msz mtk mbg men mls mvl mft mfp mfk mdp mto), (wMAll g mo al)] 14 [(0, .ref (mo 0)), (1, .int (iI t)), (2, .int (iI p_)), (3, .int (iI m_))] [.int (iI (-1))]
    refine r_ireturn hE hR [(wMo g mo 1 mac mmk mr mrd mrm mcm mtp msz mtk mbg men mls mvl mft mfp mfk mdp mto), (wMAll g mo al)] dX9_take_14 (Nat.le_of_ble_eq_true rfl) (Nat.le_of_ble_eq_true rfl) rfl ?_
    exact ⟨rfl, by unfold tkF; (repeat (first | rw [if_pos (by omega)] | rw [if_neg (by omega)]))⟩
  · skip
    refine r_iload_n 5 hE 3 dX9_take_4 rfl rfl rfl ?_
    refine r_iconst 6 hE dX9_take_5 rfl ?_
    refine r_icmp_ge 9 15 hE dX9_take_6 rfl (by decide) (by omega) (fun c6 => ?_) (fun c6 => ?_)
    · skip
      refine r_aload_n 16 hE 0 dX9_take_15 rfl rfl rfl ?_
      refine r_iload_n 17 hE 1 dX9_take_16 rfl rfl rfl ?_
      refine r_callV 20 hE [0, 1] [] [(wMo g mo mst mac mmk mr mrd mrm mcm mtp msz mtk mbg men mls mvl mft mfp mfk mdp mto), (wMAll g mo al)] [] 0 9 ok9 [] (c_X9_isText (by omega) (by omega)) dX9_take_17 rfl rfl wd_1346 wd_1348 ws_80 wd_12 wd_1349 ne_X9 np_X9_isText (Nat.le_of_ble_eq_true rfl)  (by decide) (by decide) rfl (Nat.le_of_ble_eq_true rfl) rfl rfl rfl rfl (by decide) rfl (fun v1 f1 hp => ?_)
      obtain ⟨rfl, rfl⟩ := hp
      show G g E _ _ _ [(wMo g mo mst mac mmk mr mrd mrm mcm mtp msz mtk mbg men mls mvl mft mfp mfk mdp mto), (wMAll g mo al)] 20 [(0, .ref (mo 0)), (1, .int (iI t)), (2, .int (iI p_)), (3, .int (iI m_))] [.int (iI (bI (0 ≤ t ∧ t < al 0)))]
      refine r_if_ne 23 29 hE dX9_take_20 rfl (by decide) (bI_rg _) (fun c20 => ?_) (fun c20 => ?_)
      · skip
        have c20 := bI1 c20
        have hl_t := hM.2 t c20.1 c20.2
        refine r_aload_n 30 hE 0 dX9_take_29 rfl rfl rfl ?_
        refine r_callV 33 hE [0, 1] [] [(wMo g mo mst mac mmk mr mrd mrm mcm mtp msz mtk mbg men mls mvl mft mfp mfk mdp mto), (wMAll g mo al)] [] 0 9 ok9 [] (c_X9_many) dX9_take_30 rfl rfl wd_1217 wd_1219 ws_52 wd_12 wd_1220 ne_X9 np_X9_many (Nat.le_of_ble_eq_true rfl)  (by decide) (by decide) rfl (Nat.le_of_ble_eq_true rfl) rfl rfl rfl rfl (by decide) rfl (fun v1 f1 hp => ?_)
        obtain ⟨rfl, rfl⟩ := hp
        show G g E _ _ _ [(wMo g mo mst mac mmk mr mrd mrm mcm mtp msz mtk mbg men mls mvl mft mfp mfk mdp mto), (wMAll g mo al)] 33 [(0, .ref (mo 0)), (1, .int (iI t)), (2, .int (iI p_)), (3, .int (iI m_))] [.int (iI (al 0))]
        refine r_bipush 35 hE dX9_take_33 rfl (by decide) ?_
        refine r_icmp_ne 38 44 hE dX9_take_35 rfl (by decide) (by omega) (fun c35 => ?_) (fun c35 => ?_)
        · skip
          refine r_iload_n 45 hE 2 dX9_take_44 rfl rfl rfl ?_
          refine r_aload_n 46 hE 0 dX9_take_45 rfl rfl rfl ?_
          refine r_iload_n 47 hE 1 dX9_take_46 rfl rfl rfl ?_
          refine r_callV 50 hE [0, 1] [] [(wMo g mo mst mac mmk mr mrd mrm mcm mtp msz mtk mbg men mls mvl mft mfp mfk mdp mto), (wMAll g mo al)] [] 0 9 ok9 [.int (iI p_)] (c_X9_sizeOf (by omega)) dX9_take_47 rfl rfl wd_1273 wd_1275 ws_65 wd_12 wd_1276 ne_X9 np_X9_sizeOf (Nat.le_of_ble_eq_true rfl)  (by decide) (by decide) rfl (Nat.le_of_ble_eq_true rfl) rfl rfl rfl rfl (by decide) rfl (fun v1 f1 hp => ?_)
          obtain ⟨rfl, rfl⟩ := hp
          show G g E _ _ _ [(wMo g mo mst mac mmk mr mrd mrm mcm mtp msz mtk mbg men mls mvl mft mfp mfk mdp mto), (wMAll g mo al)] 50 [(0, .ref (mo 0)), (1, .int (iI t)), (2, .int (iI p_)), (3, .int (iI m_))] [.int (iI (mN al t)), .int (iI p_)]
          refine r_icmp_ge 53 64 hE dX9_take_50 rfl (by decide) (by omega) (fun c50 => ?_) (fun c50 => ?_)
          · skip
            refine r_aload_n 65 hE 0 dX9_take_64 rfl rfl rfl ?_
            refine r_iconst 66 hE dX9_take_65 rfl ?_
            refine r_callV 69 hE [0] [1] [(wMo g mo mst mac mmk mr mrd mrm mcm mtp msz mtk mbg men mls mvl mft mfp mfk mdp mto)] [(wMAll g mo al)] 0 9 ok9 [] (c_X9_refuse) dX9_take_66 rfl rfl wd_1186 wd_1188 ws_47 wd_12 wd_1189 ne_X9 np_X9_refuse (Nat.le_of_ble_eq_true rfl)  (by decide) (by decide) rfl (Nat.le_of_ble_eq_true rfl) rfl rfl rfl rfl (by decide) rfl (fun v1 f1 hp => ?_)
            obtain ⟨rfl, rfl⟩ := hp
            show G g E _ _ _ [(wMo g mo 5 mac mmk mr mrd mrm mcm mtp msz mtk mbg men mls mvl mft mfp mfk mdp mto), (wMAll g mo al)] 69 [(0, .ref (mo 0)), (1, .int (iI t)), (2, .int (iI p_)), (3, .int (iI m_))] [.int (iI (-1))]
            refine r_ireturn hE hR [(wMo g mo 5 mac mmk mr mrd mrm mcm mtp msz mtk mbg men mls mvl mft mfp mfk mdp mto), (wMAll g mo al)] dX9_take_69 (Nat.le_of_ble_eq_true rfl) (Nat.le_of_ble_eq_true rfl) rfl ?_
            exact ⟨rfl, by unfold tkF; (repeat (first | rw [if_pos (by omega)] | rw [if_neg (by omega)]))⟩
          · skip
            refine r_iload_n 54 hE 3 dX9_take_53 rfl rfl rfl ?_
            refine r_aload_n 55 hE 0 dX9_take_54 rfl rfl rfl ?_
            refine r_iload_n 56 hE 1 dX9_take_55 rfl rfl rfl ?_
            refine r_callV 59 hE [0, 1] [] [(wMo g mo mst mac mmk mr mrd mrm mcm mtp msz mtk mbg men mls mvl mft mfp mfk mdp mto), (wMAll g mo al)] [] 0 9 ok9 [.int (iI m_)] (c_X9_sizeOf (by omega)) dX9_take_56 rfl rfl wd_1273 wd_1275 ws_65 wd_12 wd_1276 ne_X9 np_X9_sizeOf (Nat.le_of_ble_eq_true rfl)  (by decide) (by decide) rfl (Nat.le_of_ble_eq_true rfl) rfl rfl rfl rfl (by decide) rfl (fun v1 f1 hp => ?_)
            obtain ⟨rfl, rfl⟩ := hp
            show G g E _ _ _ [(wMo g mo mst mac mmk mr mrd mrm mcm mtp msz mtk mbg men mls mvl mft mfp mfk mdp mto), (wMAll g mo al)] 59 [(0, .ref (mo 0)), (1, .int (iI t)), (2, .int (iI p_)), (3, .int (iI m_))] [.int (iI (mN al t)), .int (iI m_)]
            refine r_iload_n 60 hE 2 dX9_take_59 rfl rfl rfl ?_
            refine r_isub 61 hE ((mN al t) - p_) dX9_take_60 rfl rfl ?_
            refine r_icmp_le 64 70 hE dX9_take_61 rfl (by decide) (by omega) (fun c61 => ?_) (fun c61 => ?_)
            · skip
              exact absurd (by unfold tkF; (repeat (first | rw [if_pos (by omega)] | rw [if_neg (by omega)]))) hno
            · skip
              refine r_aload_n 65 hE 0 dX9_take_64 rfl rfl rfl ?_
              refine r_iconst 66 hE dX9_take_65 rfl ?_
              refine r_callV 69 hE [0] [1] [(wMo g mo mst mac mmk mr mrd mrm mcm mtp msz mtk mbg men mls mvl mft mfp mfk mdp mto)] [(wMAll g mo al)] 0 9 ok9 [] (c_X9_refuse) dX9_take_66 rfl rfl wd_1186 wd_1188 ws_47 wd_12 wd_1189 ne_X9 np_X9_refuse (Nat.le_of_ble_eq_true rfl)  (by decide) (by decide) rfl (Nat.le_of_ble_eq_true rfl) rfl rfl rfl rfl (by decide) rfl (fun v1 f1 hp => ?_)
              obtain ⟨rfl, rfl⟩ := hp
              show G g E _ _ _ [(wMo g mo 5 mac mmk mr mrd mrm mcm mtp msz mtk mbg men mls mvl mft mfp mfk mdp mto), (wMAll g mo al)] 69 [(0, .ref (mo 0)), (1, .int (iI t)), (2, .int (iI p_)), (3, .int (iI m_))] [.int (iI (-1))]
              refine r_ireturn hE hR [(wMo g mo 5 mac mmk mr mrd mrm mcm mtp msz mtk mbg men mls mvl mft mfp mfk mdp mto), (wMAll g mo al)] dX9_take_69 (Nat.le_of_ble_eq_true rfl) (Nat.le_of_ble_eq_true rfl) rfl ?_
              exact ⟨rfl, by unfold tkF; (repeat (first | rw [if_pos (by omega)] | rw [if_neg (by omega)]))⟩
        · skip
          refine r_aload_n 39 hE 0 dX9_take_38 rfl rfl rfl ?_
          refine r_iconst 40 hE dX9_take_39 rfl ?_
          refine r_callV 43 hE [0] [1] [(wMo g mo mst mac mmk mr mrd mrm mcm mtp msz mtk mbg men mls mvl mft mfp mfk mdp mto)] [(wMAll g mo al)] 0 9 ok9 [] (c_X9_refuse) dX9_take_40 rfl rfl wd_1186 wd_1188 ws_47 wd_12 wd_1189 ne_X9 np_X9_refuse (Nat.le_of_ble_eq_true rfl)  (by decide) (by decide) rfl (Nat.le_of_ble_eq_true rfl) rfl rfl rfl rfl (by decide) rfl (fun v1 f1 hp => ?_)
          obtain ⟨rfl, rfl⟩ := hp
          show G g E _ _ _ [(wMo g mo 3 mac mmk mr mrd mrm mcm mtp msz mtk mbg men mls mvl mft mfp mfk mdp mto), (wMAll g mo al)] 43 [(0, .ref (mo 0)), (1, .int (iI t)), (2, .int (iI p_)), (3, .int (iI m_))] [.int (iI (-1))]
          refine r_ireturn hE hR [(wMo g mo 3 mac mmk mr mrd mrm mcm mtp msz mtk mbg men mls mvl mft mfp mfk mdp mto), (wMAll g mo al)] dX9_take_43 (Nat.le_of_ble_eq_true rfl) (Nat.le_of_ble_eq_true rfl) rfl ?_
          exact ⟨rfl, by unfold tkF; (repeat (first | rw [if_pos (by omega)] | rw [if_neg (by omega)]))⟩
      · skip
        have c20 := bI0 c20
        refine r_aload_n 24 hE 0 dX9_take_23 rfl rfl rfl ?_
        refine r_iconst 25 hE dX9_take_24 rfl ?_
        refine r_callV 28 hE [0] [1] [(wMo g mo mst mac mmk mr mrd mrm mcm mtp msz mtk mbg men mls mvl mft mfp mfk mdp mto)] [(wMAll g mo al)] 0 9 ok9 [] (c_X9_refuse) dX9_take_25 rfl rfl wd_1186 wd_1188 ws_47 wd_12 wd_1189 ne_X9 np_X9_refuse (Nat.le_of_ble_eq_true rfl)  (by decide) (by decide) rfl (Nat.le_of_ble_eq_true rfl) rfl rfl rfl rfl (by decide) rfl (fun v1 f1 hp => ?_)
        obtain ⟨rfl, rfl⟩ := hp
        show G g E _ _ _ [(wMo g mo 2 mac mmk mr mrd mrm mcm mtp msz mtk mbg men mls mvl mft mfp mfk mdp mto), (wMAll g mo al)] 28 [(0, .ref (mo 0)), (1, .int (iI t)), (2, .int (iI p_)), (3, .int (iI m_))] [.int (iI (-1))]
        refine r_ireturn hE hR [(wMo g mo 2 mac mmk mr mrd mrm mcm mtp msz mtk mbg men mls mvl mft mfp mfk mdp mto), (wMAll g mo al)] dX9_take_28 (Nat.le_of_ble_eq_true rfl) (Nat.le_of_ble_eq_true rfl) rfl ?_
        exact ⟨rfl, by unfold tkF; (repeat (first | rw [if_pos (by omega)] | rw [if_neg (by omega)]))⟩
    · skip
      refine r_aload_n 10 hE 0 dX9_take_9 rfl rfl rfl ?_
      refine r_iconst 11 hE dX9_take_10 rfl ?_
      refine r_callV 14 hE [0] [1] [(wMo g mo mst mac mmk mr mrd mrm mcm mtp msz mtk mbg men mls mvl mft mfp mfk mdp mto)] [(wMAll g mo al)] 0 9 ok9 [] (c_X9_refuse) dX9_take_11 rfl rfl wd_1186 wd_1188 ws_47 wd_12 wd_1189 ne_X9 np_X9_refuse (Nat.le_of_ble_eq_true rfl)  (by decide) (by decide) rfl (Nat.le_of_ble_eq_true rfl) rfl rfl rfl rfl (by decide) rfl (fun v1 f1 hp => ?_)
      obtain ⟨rfl, rfl⟩ := hp
      show G g E _ _ _ [(wMo g mo 1 mac mmk mr mrd mrm mcm mtp msz mtk mbg men mls mvl mft mfp mfk mdp mto), (wMAll g mo al)] 14 [(0, .ref (mo 0)), (1, .int (iI t)), (2, .int (iI p_)), (3, .int (iI m_))] [.int (iI (-1))]
      refine r_ireturn hE hR [(wMo g mo 1 mac mmk mr mrd mrm mcm mtp msz mtk mbg men mls mvl mft mfp mfk mdp mto), (wMAll g mo al)] dX9_take_14 (Nat.le_of_ble_eq_true rfl) (Nat.le_of_ble_eq_true rfl) rfl ?_
      exact ⟨rfl, by unfold tkF; (repeat (first | rw [if_pos (by omega)] | rw [if_neg (by omega)]))⟩
set_option maxHeartbeats 4000000 in
set_option maxRecDepth 100000 in
theorem c_X9_wrongSplice {g : Gm} {mo : Nat → Nat} {mst mac mmk mr mrd mrm mcm mtp msz mtk mbg men mls mvl mft mfp mfk mdp mto : Int} {al : Int → Int} {t p_ m_ u : Int} (hM : MTx al) (hr_t : -2147483648 ≤ t ∧ t ≤ 2147483647) (hr_p_ : -2147483648 ≤ p_ ∧ p_ ≤ 2147483647) (hr_m_ : -2147483648 ≤ m_ ∧ m_ ≤ 2147483647) (hr_u : -2147483648 ≤ u ∧ u ≤ 2147483647) : Ct g 2 0 0 yX9_wrongSplice cX9_wrongSplice 5 (some .int) [.ref (mo 0), .int (iI t), .int (iI p_), .int (iI m_), .int (iI u)] [(wMo g mo mst mac mmk mr mrd mrm mcm mtp msz mtk mbg men mls mvl mft mfp mfk mdp mto), (wMAll g mo al)] (fun v_ w_ => v_ = some (.int (iI (wsF (mN al) (al 0) t p_ m_ u))) ∧ w_ = [(wMo g mo mst mac mmk mr mrd mrm mcm mtp msz mtk mbg men mls mvl mft mfp mfk mdp mto), (wMAll g mo al)]) := by
  refine Ct.of (by decide) (Nat.le_of_ble_eq_true rfl) (lv := [(0, .ref (mo 0)), (1, .int (iI t)), (2, .int (iI p_)), (3, .int (iI m_)), (4, .int (iI u))]) rfl ?_
  intro E hE hR hnm
  have hc := hM.1
  refine r_iload_n 1 hE 2 dX9_wrongSplice_0 rfl rfl rfl ?_
  refine r_if_lt 4 8 hE dX9_wrongSplice_1 rfl (by decide) (by omega) (fun c1 => ?_) (fun c1 => ?_)
  · skip
    refine r_iconst 9 hE dX9_wrongSplice_8 rfl ?_
    refine r_ireturn hE hR [(wMo g mo mst mac mmk mr mrd mrm mcm mtp msz mtk mbg men mls mvl mft mfp mfk mdp mto), (wMAll g mo al)] dX9_wrongSplice_9 (Nat.le_of_ble_eq_true rfl) (Nat.le_of_ble_eq_true rfl) rfl ?_
    exact ⟨retI (by unfold wsF; (repeat (first | rw [if_pos (by omega)] | rw [if_neg (by omega)]))), rfl⟩
  · skip
    refine r_iload_n 5 hE 3 dX9_wrongSplice_4 rfl rfl rfl ?_
    refine r_if_ge 8 10 hE dX9_wrongSplice_5 rfl (by decide) (by omega) (fun c5 => ?_) (fun c5 => ?_)
    · skip
      refine r_aload_n 11 hE 0 dX9_wrongSplice_10 rfl rfl rfl ?_
      refine r_iload_n 12 hE 1 dX9_wrongSplice_11 rfl rfl rfl ?_
      refine r_callV 15 hE [0, 1] [] [(wMo g mo mst mac mmk mr mrd mrm mcm mtp msz mtk mbg men mls mvl mft mfp mfk mdp mto), (wMAll g mo al)] [] 0 9 ok9 [] (c_X9_isText (by omega) (by omega)) dX9_wrongSplice_12 rfl rfl wd_1346 wd_1348 ws_80 wd_12 wd_1349 ne_X9 np_X9_isText (Nat.le_of_ble_eq_true rfl)  (by decide) (by decide) rfl (Nat.le_of_ble_eq_true rfl) rfl rfl rfl rfl (by decide) rfl (fun v1 f1 hp => ?_)
      obtain ⟨rfl, rfl⟩ := hp
      show G g E _ _ _ [(wMo g mo mst mac mmk mr mrd mrm mcm mtp msz mtk mbg men mls mvl mft mfp mfk mdp mto), (wMAll g mo al)] 15 [(0, .ref (mo 0)), (1, .int (iI t)), (2, .int (iI p_)), (3, .int (iI m_)), (4, .int (iI u))] [.int (iI (bI (0 ≤ t ∧ t < al 0)))]
      refine r_if_eq 18 27 hE dX9_wrongSplice_15 rfl (by decide) (bI_rg _) (fun c15 => ?_) (fun c15 => ?_)
      · skip
        have c15 := bI0 c15
        refine r_iconst 28 hE dX9_wrongSplice_27 rfl ?_
        refine r_ireturn hE hR [(wMo g mo mst mac mmk mr mrd mrm mcm mtp msz mtk mbg men mls mvl mft mfp mfk mdp mto), (wMAll g mo al)] dX9_wrongSplice_28 (Nat.le_of_ble_eq_true rfl) (Nat.le_of_ble_eq_true rfl) rfl ?_
        exact ⟨retI (by unfold wsF; (repeat (first | rw [if_pos (by omega)] | rw [if_neg (by omega)]))), rfl⟩
      · skip
        have c15 := bI1 c15
        have hl_t := hM.2 t c15.1 c15.2
        refine r_aload_n 19 hE 0 dX9_wrongSplice_18 rfl rfl rfl ?_
        refine r_iload 21 hE 4 dX9_wrongSplice_19 rfl rfl ?_
        refine r_callV 24 hE [0, 1] [] [(wMo g mo mst mac mmk mr mrd mrm mcm mtp msz mtk mbg men mls mvl mft mfp mfk mdp mto), (wMAll g mo al)] [] 0 9 ok9 [] (c_X9_isText (by omega) (by omega)) dX9_wrongSplice_21 rfl rfl wd_1346 wd_1348 ws_80 wd_12 wd_1349 ne_X9 np_X9_isText (Nat.le_of_ble_eq_true rfl)  (by decide) (by decide) rfl (Nat.le_of_ble_eq_true rfl) rfl rfl rfl rfl (by decide) rfl (fun v1 f1 hp => ?_)
        obtain ⟨rfl, rfl⟩ := hp
        show G g E _ _ _ [(wMo g mo mst mac mmk mr mrd mrm mcm mtp msz mtk mbg men mls mvl mft mfp mfk mdp mto), (wMAll g mo al)] 24 [(0, .ref (mo 0)), (1, .int (iI t)), (2, .int (iI p_)), (3, .int (iI m_)), (4, .int (iI u))] [.int (iI (bI (0 ≤ u ∧ u < al 0)))]
        refine r_if_ne 27 29 hE dX9_wrongSplice_24 rfl (by decide) (bI_rg _) (fun c24 => ?_) (fun c24 => ?_)
        · skip
          have c24 := bI1 c24
          have hl_u := hM.2 u c24.1 c24.2
          refine r_iload_n 30 hE 2 dX9_wrongSplice_29 rfl rfl rfl ?_
          refine r_aload_n 31 hE 0 dX9_wrongSplice_30 rfl rfl rfl ?_
          refine r_iload_n 32 hE 1 dX9_wrongSplice_31 rfl rfl rfl ?_
          refine r_callV 35 hE [0, 1] [] [(wMo g mo mst mac mmk mr mrd mrm mcm mtp msz mtk mbg men mls mvl mft mfp mfk mdp mto), (wMAll g mo al)] [] 0 9 ok9 [.int (iI p_)] (c_X9_sizeOf (by omega)) dX9_wrongSplice_32 rfl rfl wd_1273 wd_1275 ws_65 wd_12 wd_1276 ne_X9 np_X9_sizeOf (Nat.le_of_ble_eq_true rfl)  (by decide) (by decide) rfl (Nat.le_of_ble_eq_true rfl) rfl rfl rfl rfl (by decide) rfl (fun v1 f1 hp => ?_)
          obtain ⟨rfl, rfl⟩ := hp
          show G g E _ _ _ [(wMo g mo mst mac mmk mr mrd mrm mcm mtp msz mtk mbg men mls mvl mft mfp mfk mdp mto), (wMAll g mo al)] 35 [(0, .ref (mo 0)), (1, .int (iI t)), (2, .int (iI p_)), (3, .int (iI m_)), (4, .int (iI u))] [.int (iI (mN al t)), .int (iI p_)]
          refine r_icmp_gt 38 49 hE dX9_wrongSplice_35 rfl (by decide) (by omega) (fun c35 => ?_) (fun c35 => ?_)
          · skip
            refine r_iconst 50 hE dX9_wrongSplice_49 rfl ?_
            refine r_ireturn hE hR [(wMo g mo mst mac mmk mr mrd mrm mcm mtp msz mtk mbg men mls mvl mft mfp mfk mdp mto), (wMAll g mo al)] dX9_wrongSplice_50 (Nat.le_of_ble_eq_true rfl) (Nat.le_of_ble_eq_true rfl) rfl ?_
            exact ⟨retI (by unfold wsF; (repeat (first | rw [if_pos (by omega)] | rw [if_neg (by omega)]))), rfl⟩
          · skip
            refine r_iload_n 39 hE 3 dX9_wrongSplice_38 rfl rfl rfl ?_
            refine r_aload_n 40 hE 0 dX9_wrongSplice_39 rfl rfl rfl ?_
            refine r_iload_n 41 hE 1 dX9_wrongSplice_40 rfl rfl rfl ?_
            refine r_callV 44 hE [0, 1] [] [(wMo g mo mst mac mmk mr mrd mrm mcm mtp msz mtk mbg men mls mvl mft mfp mfk mdp mto), (wMAll g mo al)] [] 0 9 ok9 [.int (iI m_)] (c_X9_sizeOf (by omega)) dX9_wrongSplice_41 rfl rfl wd_1273 wd_1275 ws_65 wd_12 wd_1276 ne_X9 np_X9_sizeOf (Nat.le_of_ble_eq_true rfl)  (by decide) (by decide) rfl (Nat.le_of_ble_eq_true rfl) rfl rfl rfl rfl (by decide) rfl (fun v1 f1 hp => ?_)
            obtain ⟨rfl, rfl⟩ := hp
            show G g E _ _ _ [(wMo g mo mst mac mmk mr mrd mrm mcm mtp msz mtk mbg men mls mvl mft mfp mfk mdp mto), (wMAll g mo al)] 44 [(0, .ref (mo 0)), (1, .int (iI t)), (2, .int (iI p_)), (3, .int (iI m_)), (4, .int (iI u))] [.int (iI (mN al t)), .int (iI m_)]
            refine r_iload_n 45 hE 2 dX9_wrongSplice_44 rfl rfl rfl ?_
            refine r_isub 46 hE ((mN al t) - p_) dX9_wrongSplice_45 rfl rfl ?_
            refine r_icmp_le 49 51 hE dX9_wrongSplice_46 rfl (by decide) (by omega) (fun c46 => ?_) (fun c46 => ?_)
            · skip
              refine r_aload_n 52 hE 0 dX9_wrongSplice_51 rfl rfl rfl ?_
              refine r_iload_n 53 hE 1 dX9_wrongSplice_52 rfl rfl rfl ?_
              refine r_callV 56 hE [0, 1] [] [(wMo g mo mst mac mmk mr mrd mrm mcm mtp msz mtk mbg men mls mvl mft mfp mfk mdp mto), (wMAll g mo al)] [] 0 9 ok9 [] (c_X9_sizeOf (by omega)) dX9_wrongSplice_53 rfl rfl wd_1273 wd_1275 ws_65 wd_12 wd_1276 ne_X9 np_X9_sizeOf (Nat.le_of_ble_eq_true rfl)  (by decide) (by decide) rfl (Nat.le_of_ble_eq_true rfl) rfl rfl rfl rfl (by decide) rfl (fun v1 f1 hp => ?_)
              obtain ⟨rfl, rfl⟩ := hp
              show G g E _ _ _ [(wMo g mo mst mac mmk mr mrd mrm mcm mtp msz mtk mbg men mls mvl mft mfp mfk mdp mto), (wMAll g mo al)] 56 [(0, .ref (mo 0)), (1, .int (iI t)), (2, .int (iI p_)), (3, .int (iI m_)), (4, .int (iI u))] [.int (iI (mN al t))]
              refine r_iload_n 57 hE 3 dX9_wrongSplice_56 rfl rfl rfl ?_
              refine r_isub 58 hE ((mN al t) - m_) dX9_wrongSplice_57 rfl rfl ?_
              refine r_aload_n 59 hE 0 dX9_wrongSplice_58 rfl rfl rfl ?_
              refine r_iload 61 hE 4 dX9_wrongSplice_59 rfl rfl ?_
              refine r_callV 64 hE [0, 1] [] [(wMo g mo mst mac mmk mr mrd mrm mcm mtp msz mtk mbg men mls mvl mft mfp mfk mdp mto), (wMAll g mo al)] [] 0 9 ok9 [.int (iI ((mN al t) - m_))] (c_X9_sizeOf (by omega)) dX9_wrongSplice_61 rfl rfl wd_1273 wd_1275 ws_65 wd_12 wd_1276 ne_X9 np_X9_sizeOf (Nat.le_of_ble_eq_true rfl)  (by decide) (by decide) rfl (Nat.le_of_ble_eq_true rfl) rfl rfl rfl rfl (by decide) rfl (fun v1 f1 hp => ?_)
              obtain ⟨rfl, rfl⟩ := hp
              show G g E _ _ _ [(wMo g mo mst mac mmk mr mrd mrm mcm mtp msz mtk mbg men mls mvl mft mfp mfk mdp mto), (wMAll g mo al)] 64 [(0, .ref (mo 0)), (1, .int (iI t)), (2, .int (iI p_)), (3, .int (iI m_)), (4, .int (iI u))] [.int (iI (mN al u)), .int (iI ((mN al t) - m_))]
              refine r_iadd 65 hE (((mN al t) - m_) + (mN al u)) dX9_wrongSplice_64 rfl rfl ?_
              refine r_sipush 68 hE dX9_wrongSplice_65 rfl (by decide) ?_
              refine r_icmp_le 71 76 hE dX9_wrongSplice_68 rfl (by decide) (by omega) (fun c68 => ?_) (fun c68 => ?_)
              · skip
                refine r_iconst 77 hE dX9_wrongSplice_76 rfl ?_
                refine r_ireturn hE hR [(wMo g mo mst mac mmk mr mrd mrm mcm mtp msz mtk mbg men mls mvl mft mfp mfk mdp mto), (wMAll g mo al)] dX9_wrongSplice_77 (Nat.le_of_ble_eq_true rfl) (Nat.le_of_ble_eq_true rfl) rfl ?_
                exact ⟨retI (by unfold wsF; (repeat (first | rw [if_pos (by omega)] | rw [if_neg (by omega)]))), rfl⟩
              · skip
                refine r_bipush 73 hE dX9_wrongSplice_71 rfl (by decide) ?_
                refine r_goto 77 hE dX9_wrongSplice_73 (by decide) ?_
                refine r_ireturn hE hR [(wMo g mo mst mac mmk mr mrd mrm mcm mtp msz mtk mbg men mls mvl mft mfp mfk mdp mto), (wMAll g mo al)] dX9_wrongSplice_77 (Nat.le_of_ble_eq_true rfl) (Nat.le_of_ble_eq_true rfl) rfl ?_
                exact ⟨retI (by unfold wsF; (repeat (first | rw [if_pos (by omega)] | rw [if_neg (by omega)]))), rfl⟩
            · skip
              refine r_iconst 50 hE dX9_wrongSplice_49 rfl ?_
              refine r_ireturn hE hR [(wMo g mo mst mac mmk mr mrd mrm mcm mtp msz mtk mbg men mls mvl mft mfp mfk mdp mto), (wMAll g mo al)] dX9_wrongSplice_50 (Nat.le_of_ble_eq_true rfl) (Nat.le_of_ble_eq_true rfl) rfl ?_
              exact ⟨retI (by unfold wsF; (repeat (first | rw [if_pos (by omega)] | rw [if_neg (by omega)]))), rfl⟩
        · skip
          have c24 := bI0 c24
          refine r_iconst 28 hE dX9_wrongSplice_27 rfl ?_
          refine r_ireturn hE hR [(wMo g mo mst mac mmk mr mrd mrm mcm mtp msz mtk mbg men mls mvl mft mfp mfk mdp mto), (wMAll g mo al)] dX9_wrongSplice_28 (Nat.le_of_ble_eq_true rfl) (Nat.le_of_ble_eq_true rfl) rfl ?_
          exact ⟨retI (by unfold wsF; (repeat (first | rw [if_pos (by omega)] | rw [if_neg (by omega)]))), rfl⟩
    · skip
      refine r_iconst 9 hE dX9_wrongSplice_8 rfl ?_
      refine r_ireturn hE hR [(wMo g mo mst mac mmk mr mrd mrm mcm mtp msz mtk mbg men mls mvl mft mfp mfk mdp mto), (wMAll g mo al)] dX9_wrongSplice_9 (Nat.le_of_ble_eq_true rfl) (Nat.le_of_ble_eq_true rfl) rfl ?_
      exact ⟨retI (by unfold wsF; (repeat (first | rw [if_pos (by omega)] | rw [if_neg (by omega)]))), rfl⟩
set_option maxHeartbeats 4000000 in
set_option maxRecDepth 100000 in
theorem c_X9_splices {g : Gm} {mo : Nat → Nat} {mst mac mmk mr mrd mrm mcm mtp msz mtk mbg men mls mvl mft mfp mfk mdp mto : Int} {al : Int → Int} {pl : Int → Int} {t p_ m_ u : Int} (hM : MTx al) (ht : 0 ≤ t ∧ t < al 0) (hu : 0 ≤ u ∧ u < al 0) (hp : 0 ≤ p_ ∧ 0 ≤ m_ ∧ p_ + m_ ≤ mN al t) (h6 : mN al t - m_ + mN al u ≤ 600) : Ct g 2 0 0 yX9_splices cX9_splices 5 none [.ref (mo 0), .int (iI t), .int (iI p_), .int (iI m_), .int (iI u)] [(wMo g mo mst mac mmk mr mrd mrm mcm mtp msz mtk mbg men mls mvl mft mfp mfk mdp mto), (wMAll g mo al), (wMPil g mo pl)] (fun v_ w_ => ∃ al9 : Int → Int, ∃ pl9 : Int → Int, ∃ mto9 : Int, v_ = none ∧ w_ = [(wMo g mo mst mac mmk mr mrd mrm mcm mtp msz mtk mbg men mls mvl mft mfp mfk mdp mto9), (wMAll g mo al9), (wMPil g mo pl9)] ∧ (PreAct al (PSet al t (splF (mF al t) p_ m_ (mF al u) (mN al u)) (mN al t - m_ + mN al u)) al9)) := by
  refine Ct.of (by decide) (Nat.le_of_ble_eq_true rfl) (lv := [(0, .ref (mo 0)), (1, .int (iI t)), (2, .int (iI p_)), (3, .int (iI m_)), (4, .int (iI u))]) rfl ?_
  intro E hE hR hnm
  have hc := hM.1
  have hl_t := hM.2 t ht.1 ht.2
  have hl_u := hM.2 u hu.1 hu.2
  refine r_aload_n 1 hE 0 dX9_splices_0 rfl rfl rfl ?_
  refine r_iconst 2 hE dX9_splices_1 rfl ?_
  refine r_put 5 hE 0 0 ok9 37 (wMo g mo mst mac mmk mr mrd mrm mcm mtp msz mtk mbg men mls mvl mft mfp mfk mdp 0) [(wMo g mo mst mac mmk mr mrd mrm mcm mtp msz mtk mbg men mls mvl mft mfp mfk mdp 0), (wMAll g mo al), (wMPil g mo pl)] dX9_splices_2 rfl wd_1089 rfl rfl (by decide) rfl rfl rfl (Nat.le_of_ble_eq_true rfl) rfl rfl ?_
  refine r_aload_n 6 hE 0 dX9_splices_5 rfl rfl rfl ?_
  refine r_iload_n 7 hE 1 dX9_splices_6 rfl rfl rfl ?_
  refine r_iconst 8 hE dX9_splices_7 rfl ?_
  refine r_iload_n 9 hE 2 dX9_splices_8 rfl rfl rfl ?_
  refine r_callV 12 hE [0, 1, 2] [] [(wMo g mo mst mac mmk mr mrd mrm mcm mtp msz mtk mbg men mls mvl mft mfp mfk mdp 0), (wMAll g mo al), (wMPil g mo pl)] [] 0 9 ok9 [] (c_X9_piles (by omega) (by omega) (by omega)) dX9_splices_9 rfl rfl wd_1350 wd_1352 ws_81 wd_12 wd_1353 ne_X9 np_X9_piles (Nat.le_of_ble_eq_true rfl)  (by decide) (by decide) rfl (Nat.le_of_ble_eq_true rfl) rfl rfl rfl rfl (by decide) rfl (fun v1 f1 hp => ?_)
  obtain ⟨pl9_9, rfl, rfl, h9_0, h9_1⟩ := hp
  show G g E _ _ _ [(wMo g mo mst mac mmk mr mrd mrm mcm mtp msz mtk mbg men mls mvl mft mfp mfk mdp (0 + p_)), (wMAll g mo al), (wMPil g mo pl9_9)] 12 [(0, .ref (mo 0)), (1, .int (iI t)), (2, .int (iI p_)), (3, .int (iI m_)), (4, .int (iI u))] []
  refine r_aload_n 13 hE 0 dX9_splices_12 rfl rfl rfl ?_
  refine r_iload 15 hE 4 dX9_splices_13 rfl rfl ?_
  refine r_iconst 16 hE dX9_splices_15 rfl ?_
  refine r_aload_n 17 hE 0 dX9_splices_16 rfl rfl rfl ?_
  refine r_iload 19 hE 4 dX9_splices_17 rfl rfl ?_
  refine r_callV 22 hE [0, 1] [2] [(wMo g mo mst mac mmk mr mrd mrm mcm mtp msz mtk mbg men mls mvl mft mfp mfk mdp (0 + p_)), (wMAll g mo al)] [(wMPil g mo pl9_9)] 0 9 ok9 [.int (iI 0), .int (iI u), .ref (mo 0)] (c_X9_sizeOf (by omega)) dX9_splices_19 rfl rfl wd_1273 wd_1275 ws_65 wd_12 wd_1276 ne_X9 np_X9_sizeOf (Nat.le_of_ble_eq_true rfl)  (by decide) (by decide) rfl (Nat.le_of_ble_eq_true rfl) rfl rfl rfl rfl (by decide) rfl (fun v1 f1 hp => ?_)
  obtain ⟨rfl, rfl⟩ := hp
  show G g E _ _ _ [(wMo g mo mst mac mmk mr mrd mrm mcm mtp msz mtk mbg men mls mvl mft mfp mfk mdp (0 + p_)), (wMAll g mo al), (wMPil g mo pl9_9)] 22 [(0, .ref (mo 0)), (1, .int (iI t)), (2, .int (iI p_)), (3, .int (iI m_)), (4, .int (iI u))] [.int (iI (mN al u)), .int (iI 0), .int (iI u), .ref (mo 0)]
  refine r_callV 25 hE [0, 1, 2] [] [(wMo g mo mst mac mmk mr mrd mrm mcm mtp msz mtk mbg men mls mvl mft mfp mfk mdp (0 + p_)), (wMAll g mo al), (wMPil g mo pl9_9)] [] 0 9 ok9 [] (c_X9_piles (by omega) (by omega) (by omega)) dX9_splices_22 rfl rfl wd_1350 wd_1352 ws_81 wd_12 wd_1353 ne_X9 np_X9_piles (Nat.le_of_ble_eq_true rfl)  (by decide) (by decide) rfl (Nat.le_of_ble_eq_true rfl) rfl rfl rfl rfl (by decide) rfl (fun v1 f1 hp => ?_)
  obtain ⟨pl9_22, rfl, rfl, h22_0, h22_1⟩ := hp
  show G g E _ _ _ [(wMo g mo mst mac mmk mr mrd mrm mcm mtp msz mtk mbg men mls mvl mft mfp mfk mdp ((0 + p_) + (mN al u))), (wMAll g mo al), (wMPil g mo pl9_22)] 25 [(0, .ref (mo 0)), (1, .int (iI t)), (2, .int (iI p_)), (3, .int (iI m_)), (4, .int (iI u))] []
  refine r_aload_n 26 hE 0 dX9_splices_25 rfl rfl rfl ?_
  refine r_iload_n 27 hE 1 dX9_splices_26 rfl rfl rfl ?_
  refine r_iload_n 28 hE 2 dX9_splices_27 rfl rfl rfl ?_
  refine r_iload_n 29 hE 3 dX9_splices_28 rfl rfl rfl ?_
  refine r_iadd 30 hE (p_ + m_) dX9_splices_29 rfl rfl ?_
  refine r_aload_n 31 hE 0 dX9_splices_30 rfl rfl rfl ?_
  refine r_iload_n 32 hE 1 dX9_splices_31 rfl rfl rfl ?_
  refine r_callV 35 hE [0, 1] [2] [(wMo g mo mst mac mmk mr mrd mrm mcm mtp msz mtk mbg men mls mvl mft mfp mfk mdp ((0 + p_) + (mN al u))), (wMAll g mo al)] [(wMPil g mo pl9_22)] 0 9 ok9 [.int (iI (p_ + m_)), .int (iI t), .ref (mo 0)] (c_X9_sizeOf (by omega)) dX9_splices_32 rfl rfl wd_1273 wd_1275 ws_65 wd_12 wd_1276 ne_X9 np_X9_sizeOf (Nat.le_of_ble_eq_true rfl)  (by decide) (by decide) rfl (Nat.le_of_ble_eq_true rfl) rfl rfl rfl rfl (by decide) rfl (fun v1 f1 hp => ?_)
  obtain ⟨rfl, rfl⟩ := hp
  show G g E _ _ _ [(wMo g mo mst mac mmk mr mrd mrm mcm mtp msz mtk mbg men mls mvl mft mfp mfk mdp ((0 + p_) + (mN al u))), (wMAll g mo al), (wMPil g mo pl9_22)] 35 [(0, .ref (mo 0)), (1, .int (iI t)), (2, .int (iI p_)), (3, .int (iI m_)), (4, .int (iI u))] [.int (iI (mN al t)), .int (iI (p_ + m_)), .int (iI t), .ref (mo 0)]
  refine r_iload_n 36 hE 2 dX9_splices_35 rfl rfl rfl ?_
  refine r_isub 37 hE ((mN al t) - p_) dX9_splices_36 rfl rfl ?_
  refine r_iload_n 38 hE 3 dX9_splices_37 rfl rfl rfl ?_
  refine r_isub 39 hE (((mN al t) - p_) - m_) dX9_splices_38 rfl rfl ?_
  refine r_callV 42 hE [0, 1, 2] [] [(wMo g mo mst mac mmk mr mrd mrm mcm mtp msz mtk mbg men mls mvl mft mfp mfk mdp ((0 + p_) + (mN al u))), (wMAll g mo al), (wMPil g mo pl9_22)] [] 0 9 ok9 [] (c_X9_piles (by omega) (by omega) (by omega)) dX9_splices_39 rfl rfl wd_1350 wd_1352 ws_81 wd_12 wd_1353 ne_X9 np_X9_piles (Nat.le_of_ble_eq_true rfl)  (by decide) (by decide) rfl (Nat.le_of_ble_eq_true rfl) rfl rfl rfl rfl (by decide) rfl (fun v1 f1 hp => ?_)
  obtain ⟨pl9_39, rfl, rfl, h39_0, h39_1⟩ := hp
  show G g E _ _ _ [(wMo g mo mst mac mmk mr mrd mrm mcm mtp msz mtk mbg men mls mvl mft mfp mfk mdp (((0 + p_) + (mN al u)) + (((mN al t) - p_) - m_))), (wMAll g mo al), (wMPil g mo pl9_39)] 42 [(0, .ref (mo 0)), (1, .int (iI t)), (2, .int (iI p_)), (3, .int (iI m_)), (4, .int (iI u))] []
  refine r_aload_n 43 hE 0 dX9_splices_42 rfl rfl rfl ?_
  refine r_iconst 44 hE dX9_splices_43 rfl ?_
  refine r_sipush 47 hE dX9_splices_44 rfl (by decide) ?_
  refine r_callV 50 hE [0, 1] [2] [(wMo g mo mst mac mmk mr mrd mrm mcm mtp msz mtk mbg men mls mvl mft mfp mfk mdp (((0 + p_) + (mN al u)) + (((mN al t) - p_) - m_))), (wMAll g mo al)] [(wMPil g mo pl9_39)] 0 9 ok9 [] (c_X9_copies (by omega) (by omega) (by omega)) dX9_splices_47 rfl rfl wd_1190 wd_1192 ws_48 wd_12 wd_1193 ne_X9 np_X9_copies (Nat.le_of_ble_eq_true rfl)  (by decide) (by decide) rfl (Nat.le_of_ble_eq_true rfl) rfl rfl rfl rfl (by decide) rfl (fun v1 f1 hp => ?_)
  obtain ⟨al9_47, rfl, rfl, h47_0, h47_1⟩ := hp
  show G g E _ _ _ [(wMo g mo mst mac mmk mr mrd mrm mcm mtp msz mtk mbg men mls mvl mft mfp mfk mdp (((0 + p_) + (mN al u)) + (((mN al t) - p_) - m_))), (wMAll g mo al9_47), (wMPil g mo pl9_39)] 50 [(0, .ref (mo 0)), (1, .int (iI t)), (2, .int (iI p_)), (3, .int (iI m_)), (4, .int (iI u))] []
  refine r_aload_n 51 hE 0 dX9_splices_50 rfl rfl rfl ?_
  refine r_iload_n 52 hE 1 dX9_splices_51 rfl rfl rfl ?_
  refine r_callV 55 hE [0, 1, 2] [] [(wMo g mo mst mac mmk mr mrd mrm mcm mtp msz mtk mbg men mls mvl mft mfp mfk mdp (((0 + p_) + (mN al u)) + (((mN al t) - p_) - m_))), (wMAll g mo al9_47), (wMPil g mo pl9_39)] [] 0 9 ok9 [] (c_X9_puts (by omega) (by omega)) dX9_splices_52 rfl rfl wd_1289 wd_1291 ws_69 wd_12 wd_1292 ne_X9 np_X9_puts (Nat.le_of_ble_eq_true rfl)  (by decide) (by decide) rfl (Nat.le_of_ble_eq_true rfl) rfl rfl rfl rfl (by decide) rfl (fun v1 f1 hp => ?_)
  obtain ⟨al9_52, rfl, rfl, h52_0⟩ := hp
  show G g E _ _ _ [(wMo g mo mst mac mmk mr mrd mrm mcm mtp msz mtk mbg men mls mvl mft mfp mfk mdp (((0 + p_) + (mN al u)) + (((mN al t) - p_) - m_))), (wMAll g mo al9_52), (wMPil g mo pl9_39)] 55 [(0, .ref (mo 0)), (1, .int (iI t)), (2, .int (iI p_)), (3, .int (iI m_)), (4, .int (iI u))] []
  refine r_return hE hR [(wMo g mo mst mac mmk mr mrd mrm mcm mtp msz mtk mbg men mls mvl mft mfp mfk mdp (((0 + p_) + (mN al u)) + (((mN al t) - p_) - m_))), (wMAll g mo al9_52), (wMPil g mo pl9_39)] dX9_splices_55 (Nat.le_of_ble_eq_true rfl) (Nat.le_of_ble_eq_true rfl) rfl ?_
  have hpl := pile3 (f := mF al t) (h := mF al u) (m := m_) (w := mN al t - p_ - m_) (by omega) h9_0 h22_0 h22_1 h39_0 h39_1
  have hz := h52_0.zero h47_1 ht.1
  have hrg : ∀ k, 0 ≤ k → k < 0 + p_ + mN al u + (mN al t - p_ - m_) → 0 ≤ pl9_39 k ∧ pl9_39 k ≤ 25 := fun k a b => by rw [hpl k a b]; exact spl_rg hM ht hu hp a (by omega)
  have hpre := h52_0.pre hM h47_0 h47_1 (by omega) (by omega) hrg (al3 := al9_52) (fun j a => rfl) (by rw [hz]; omega)
  exact ⟨_, _, _, rfl, rfl, hpre.cg (by omega) hpl⟩
set_option maxHeartbeats 4000000 in
set_option maxRecDepth 100000 in
theorem c_X9_splice {g : Gm} {mo : Nat → Nat} {mst mac mmk mr mrd mrm mcm mtp msz mtk mbg men mls mvl mft mfp mfk mdp mto : Int} {al : Int → Int} {kd on tw sg le de so : Int → Int} {R : Int → Rl} {ro : Int → Int} {nf : Int → Int} {pl : Int → Int} {t p_ m_ u : Int} (hM : MTx al) (hac : 0 ≤ mac ∧ mac ≤ 8) (ht : 0 ≤ t ∧ t < al 0) (hu : 0 ≤ u ∧ u < al 0) (hp : 0 ≤ p_ ∧ 0 ≤ m_ ∧ p_ + m_ ≤ mN al t) (h6 : mN al t - m_ + mN al u ≤ 600) : Ct g 9 0 0 yX9_splice cX9_splice 6 (some .int) [.ref (mo 0), .int (iI t), .int (iI p_), .int (iI m_), .int (iI u)] [(wMo g mo mst mac mmk mr mrd mrm mcm mtp msz mtk mbg men mls mvl mft mfp mfk mdp mto), (wMTab g mo kd on tw sg le de so), (wMRow g mo ro), (wMAll g mo al), (wMNew g mo nf), (wMPil g mo pl)] (fun v_ w_ => ∃ kd9 : Int → Int, ∃ on9 : Int → Int, ∃ tw9 : Int → Int, ∃ sg9 : Int → Int, ∃ le9 : Int → Int, ∃ de9 : Int → Int, ∃ so9 : Int → Int, ∃ mr9 : Int, ∃ R9 : Int → Rl, ∃ ro9 : Int → Int, ∃ mrd9 : Int, ∃ mrm9 : Int, ∃ al9 : Int → Int, ∃ nf9 : Int → Int, ∃ mac9 : Int, ∃ news : Int, ∃ pl9 : Int → Int, ∃ mto9 : Int, v_ = some (.int (iI (mN al t - m_ + mN al u))) ∧ w_ = [(wMo g mo 0 mac9 mmk mr9 mrd9 mrm9 mcm mtp msz mtk mbg men mls mvl mft mfp mfk mdp mto9), (wMTab g mo kd9 on9 tw9 sg9 le9 de9 so9), (wMRow g mo ro9), (wMAll g mo al9), (wMNew g mo nf9), (wMPil g mo pl9)] ∧ (ActIs al nf mac al9 nf9 mac9 news) ∧ (1 ≤ mac9 ∧ mac9 ≤ 8) ∧ (PSet al t (splF (mF al t) p_ m_ (mF al u) (mN al u)) (mN al t - m_ + mN al u) al9)) := by
  refine Ct.of (by decide) (Nat.le_of_ble_eq_true rfl) (lv := [(0, .ref (mo 0)), (1, .int (iI t)), (2, .int (iI p_)), (3, .int (iI m_)), (4, .int (iI u))]) rfl ?_
  intro E hE hR hnm
  have hc := hM.1
  have hl_t := hM.2 t ht.1 ht.2
  have hl_u := hM.2 u hu.1 hu.2
  have hws : wsF (mN al) (al 0) t p_ m_ u = 0 := by unfold wsF; (repeat (first | rw [if_pos (by omega)] | rw [if_neg (by omega)]))
  refine r_aload_n 1 hE 0 dX9_splice_0 rfl rfl rfl ?_
  refine r_iload_n 2 hE 1 dX9_splice_1 rfl rfl rfl ?_
  refine r_iload_n 3 hE 2 dX9_splice_2 rfl rfl rfl ?_
  refine r_iload_n 4 hE 3 dX9_splice_3 rfl rfl rfl ?_
  refine r_iload 6 hE 4 dX9_splice_4 rfl rfl ?_
  refine r_callV 9 hE [0, 3] [1, 2, 4, 5] [(wMo g mo mst mac mmk mr mrd mrm mcm mtp msz mtk mbg men mls mvl mft mfp mfk mdp mto), (wMAll g mo al)] [(wMTab g mo kd on tw sg le de so), (wMRow g mo ro), (wMNew g mo nf), (wMPil g mo pl)] 0 9 ok9 [] (c_X9_wrongSplice (hM) (by omega) (by omega) (by omega) (by omega)) dX9_splice_6 rfl rfl wd_1366 wd_1368 ws_84 wd_12 wd_1369 ne_X9 np_X9_wrongSplice (Nat.le_of_ble_eq_true rfl)  (by decide) (by decide) rfl (Nat.le_of_ble_eq_true rfl) rfl rfl rfl rfl (by decide) rfl (fun v1 f1 hp => ?_)
  obtain ⟨rfl, rfl⟩ := hp
  show G g E _ _ _ [(wMo g mo mst mac mmk mr mrd mrm mcm mtp msz mtk mbg men mls mvl mft mfp mfk mdp mto), (wMAll g mo al), (wMTab g mo kd on tw sg le de so), (wMRow g mo ro), (wMNew g mo nf), (wMPil g mo pl)] 9 [(0, .ref (mo 0)), (1, .int (iI t)), (2, .int (iI p_)), (3, .int (iI m_)), (4, .int (iI u))] [.int (iI (wsF (mN al) (al 0) t p_ m_ u))]
  refine r_istore 11 hE [(5, .int (iI (wsF (mN al) (al 0) t p_ m_ u))), (0, .ref (mo 0)), (1, .int (iI t)), (2, .int (iI p_)), (3, .int (iI m_)), (4, .int (iI u))] dX9_splice_9 rfl (by decide) rfl ?_
  refine r_iload 13 hE 0 dX9_splice_11 rfl rfl ?_
  refine r_if_le 16 23 hE dX9_splice_13 rfl (by decide) (by omega) (fun c13 => ?_) (fun c13 => ?_)
  · skip
    refine r_aload_n 24 hE 1 dX9_splice_23 rfl rfl rfl ?_
    refine r_iload_n 25 hE 2 dX9_splice_24 rfl rfl rfl ?_
    refine r_iload_n 26 hE 3 dX9_splice_25 rfl rfl rfl ?_
    refine r_iload_n 27 hE 4 dX9_splice_26 rfl rfl rfl ?_
    refine r_iload 29 hE 5 dX9_splice_27 rfl rfl ?_
    refine r_callV 32 hE [0, 1, 5] [2, 3, 4] [(wMo g mo mst mac mmk mr mrd mrm mcm mtp msz mtk mbg men mls mvl mft mfp mfk mdp mto), (wMAll g mo al), (wMPil g mo pl)] [(wMTab g mo kd on tw sg le de so), (wMRow g mo ro), (wMNew g mo nf)] 0 9 ok9 [] (c_X9_splices (hM) (by omega) (by omega) (by omega) (by omega)) dX9_splice_29 rfl rfl wd_1370 wd_1372 ws_85 wd_12 wd_1373 ne_X9 np_X9_splices (Nat.le_of_ble_eq_true rfl)  (by decide) (by decide) rfl (Nat.le_of_ble_eq_true rfl) rfl rfl rfl rfl (by decide) rfl (fun v1 f1 hp => ?_)
    obtain ⟨al9_29, pl9_29, mto9_29, rfl, rfl, h29_0⟩ := hp
    show G g E _ _ _ [(wMo g mo mst mac mmk mr mrd mrm mcm mtp msz mtk mbg men mls mvl mft mfp mfk mdp mto9_29), (wMAll g mo al9_29), (wMPil g mo pl9_29), (wMTab g mo kd on tw sg le de so), (wMRow g mo ro), (wMNew g mo nf)] 32 [(5, .int (iI (wsF (mN al) (al 0) t p_ m_ u))), (0, .ref (mo 0)), (1, .int (iI t)), (2, .int (iI p_)), (3, .int (iI m_)), (4, .int (iI u))] []
    refine r_aload_n 33 hE 1 dX9_splice_32 rfl rfl rfl ?_
    refine r_aload_n 34 hE 1 dX9_splice_33 rfl rfl rfl ?_
    refine r_iload_n 35 hE 2 dX9_splice_34 rfl rfl rfl ?_
    refine r_callV 38 hE [0, 1] [2, 3, 4, 5] [(wMo g mo mst mac mmk mr mrd mrm mcm mtp msz mtk mbg men mls mvl mft mfp mfk mdp mto9_29), (wMAll g mo al9_29)] [(wMPil g mo pl9_29), (wMTab g mo kd on tw sg le de so), (wMRow g mo ro), (wMNew g mo nf)] 0 9 ok9 [.ref (mo 0)] (c_X9_sizeOf (by omega)) dX9_splice_35 rfl rfl wd_1273 wd_1275 ws_65 wd_12 wd_1276 ne_X9 np_X9_sizeOf (Nat.le_of_ble_eq_true rfl)  (by decide) (by decide) rfl (Nat.le_of_ble_eq_true rfl) rfl rfl rfl rfl (by decide) rfl (fun v1 f1 hp => ?_)
    obtain ⟨rfl, rfl⟩ := hp
    show G g E _ _ _ [(wMo g mo mst mac mmk mr mrd mrm mcm mtp msz mtk mbg men mls mvl mft mfp mfk mdp mto9_29), (wMAll g mo al9_29), (wMPil g mo pl9_29), (wMTab g mo kd on tw sg le de so), (wMRow g mo ro), (wMNew g mo nf)] 38 [(5, .int (iI (wsF (mN al) (al 0) t p_ m_ u))), (0, .ref (mo 0)), (1, .int (iI t)), (2, .int (iI p_)), (3, .int (iI m_)), (4, .int (iI u))] [.int (iI (mN al9_29 t)), .ref (mo 0)]
    refine r_callV 41 hE [0, 3, 4, 1, 5] [2] [(wMo g mo mst mac mmk mr mrd mrm mcm mtp msz mtk mbg men mls mvl mft mfp mfk mdp mto9_29), (wMTab g mo kd on tw sg le de so), (wMRow g mo ro), (wMAll g mo al9_29), (wMNew g mo nf)] [(wMPil g mo pl9_29)] 0 9 ok9 [] (c_X9_acted_ (R := R) (h29_0.ok) (h29_0.aside hM) (hac)) dX9_splice_38 rfl rfl wd_1358 wd_1360 ws_83 wd_12 wd_1361 ne_X9 np_X9_acted_ (Nat.le_of_ble_eq_true rfl)  (by decide) (by decide) rfl (Nat.le_of_ble_eq_true rfl) rfl rfl rfl rfl (by decide) rfl (fun v1 f1 hp => ?_)
    obtain ⟨kd9_38, on9_38, tw9_38, sg9_38, le9_38, de9_38, so9_38, mr9_38, R9_38, ro9_38, mrd9_38, mrm9_38, al9_38, nf9_38, mac9_38, news_38, rfl, rfl, h38_0, h38_1, h38_2, h38_3⟩ := hp
    show G g E _ _ _ [(wMo g mo 0 mac9_38 mmk mr9_38 mrd9_38 mrm9_38 mcm mtp msz mtk mbg men mls mvl mft mfp mfk mdp mto9_29), (wMTab g mo kd9_38 on9_38 tw9_38 sg9_38 le9_38 de9_38 so9_38), (wMRow g mo ro9_38), (wMAll g mo al9_38), (wMNew g mo nf9_38), (wMPil g mo pl9_29)] 41 [(5, .int (iI (wsF (mN al) (al 0) t p_ m_ u))), (0, .ref (mo 0)), (1, .int (iI t)), (2, .int (iI p_)), (3, .int (iI m_)), (4, .int (iI u))] [.int (iI (mN al9_29 t))]
    refine r_ireturn hE hR [(wMo g mo 0 mac9_38 mmk mr9_38 mrd9_38 mrm9_38 mcm mtp msz mtk mbg men mls mvl mft mfp mfk mdp mto9_29), (wMTab g mo kd9_38 on9_38 tw9_38 sg9_38 le9_38 de9_38 so9_38), (wMRow g mo ro9_38), (wMAll g mo al9_38), (wMNew g mo nf9_38), (wMPil g mo pl9_29)] dX9_splice_41 (Nat.le_of_ble_eq_true rfl) (Nat.le_of_ble_eq_true rfl) rfl ?_
    have hA := h29_0.act hM hac h38_0 h38_1 h38_2
    exact ⟨kd9_38, on9_38, tw9_38, sg9_38, le9_38, de9_38, so9_38, mr9_38, R9_38, ro9_38, mrd9_38, mrm9_38, al9_38, nf9_38, mac9_38, news_38, _, _, retI (h29_0.now.2.1), rfl, hA.1, h38_3, hA.2⟩
  · skip
    omega
set_option maxHeartbeats 4000000 in
set_option maxRecDepth 100000 in
theorem c_X9_splice_no {g : Gm} {mo : Nat → Nat} {mst mac mmk mr mrd mrm mcm mtp msz mtk mbg men mls mvl mft mfp mfk mdp mto : Int} {al : Int → Int} {t p_ m_ u : Int} (hM : MTx al) (hr_t : -2147483648 ≤ t ∧ t ≤ 2147483647) (hr_p_ : -2147483648 ≤ p_ ∧ p_ ≤ 2147483647) (hr_m_ : -2147483648 ≤ m_ ∧ m_ ≤ 2147483647) (hr_u : -2147483648 ≤ u ∧ u ≤ 2147483647) (hno : wsF (mN al) (al 0) t p_ m_ u ≠ 0) (hnr : 0 ≤ wsF (mN al) (al 0) t p_ m_ u ∧ wsF (mN al) (al 0) t p_ m_ u ≤ 9) : Ct g 9 0 0 yX9_splice cX9_splice 6 (some .int) [.ref (mo 0), .int (iI t), .int (iI p_), .int (iI m_), .int (iI u)] [(wMo g mo mst mac mmk mr mrd mrm mcm mtp msz mtk mbg men mls mvl mft mfp mfk mdp mto), (wMAll g mo al)] (fun v_ w_ => v_ = some (.int (iI (-1))) ∧ w_ = [(wMo g mo (wsF (mN al) (al 0) t p_ m_ u) mac mmk mr mrd mrm mcm mtp msz mtk mbg men mls mvl mft mfp mfk mdp mto), (wMAll g mo al)]) := by
  refine Ct.of (by decide) (Nat.le_of_ble_eq_true rfl) (lv := [(0, .ref (mo 0)), (1, .int (iI t)), (2, .int (iI p_)), (3, .int (iI m_)), (4, .int (iI u))]) rfl ?_
  intro E hE hR hnm
  have hc := hM.1
  refine r_aload_n 1 hE 0 dX9_splice_0 rfl rfl rfl ?_
  refine r_iload_n 2 hE 1 dX9_splice_1 rfl rfl rfl ?_
  refine r_iload_n 3 hE 2 dX9_splice_2 rfl rfl rfl ?_
  refine r_iload_n 4 hE 3 dX9_splice_3 rfl rfl rfl ?_
  refine r_iload 6 hE 4 dX9_splice_4 rfl rfl ?_
  refine r_callV 9 hE [0, 1] [] [(wMo g mo mst mac mmk mr mrd mrm mcm mtp msz mtk mbg men mls mvl mft mfp mfk mdp mto), (wMAll g mo al)] [] 0 9 ok9 [] (c_X9_wrongSplice (hM) (by omega) (by omega) (by omega) (by omega)) dX9_splice_6 rfl rfl wd_1366 wd_1368 ws_84 wd_12 wd_1369 ne_X9 np_X9_wrongSplice (Nat.le_of_ble_eq_true rfl)  (by decide) (by decide) rfl (Nat.le_of_ble_eq_true rfl) rfl rfl rfl rfl (by decide) rfl (fun v1 f1 hp => ?_)
  obtain ⟨rfl, rfl⟩ := hp
  show G g E _ _ _ [(wMo g mo mst mac mmk mr mrd mrm mcm mtp msz mtk mbg men mls mvl mft mfp mfk mdp mto), (wMAll g mo al)] 9 [(0, .ref (mo 0)), (1, .int (iI t)), (2, .int (iI p_)), (3, .int (iI m_)), (4, .int (iI u))] [.int (iI (wsF (mN al) (al 0) t p_ m_ u))]
  refine r_istore 11 hE [(5, .int (iI (wsF (mN al) (al 0) t p_ m_ u))), (0, .ref (mo 0)), (1, .int (iI t)), (2, .int (iI p_)), (3, .int (iI m_)), (4, .int (iI u))] dX9_splice_9 rfl (by decide) rfl ?_
  refine r_iload 13 hE 0 dX9_splice_11 rfl rfl ?_
  refine r_if_le 16 23 hE dX9_splice_13 rfl (by decide) (by omega) (fun c13 => ?_) (fun c13 => ?_)
  · skip
    omega
  · skip
    refine r_aload_n 17 hE 1 dX9_splice_16 rfl rfl rfl ?_
    refine r_iload 19 hE 0 dX9_splice_17 rfl rfl ?_
    refine r_callV 22 hE [0] [1] [(wMo g mo mst mac mmk mr mrd mrm mcm mtp msz mtk mbg men mls mvl mft mfp mfk mdp mto)] [(wMAll g mo al)] 0 9 ok9 [] (c_X9_refuse) dX9_splice_19 rfl rfl wd_1186 wd_1188 ws_47 wd_12 wd_1189 ne_X9 np_X9_refuse (Nat.le_of_ble_eq_true rfl)  (by decide) (by decide) rfl (Nat.le_of_ble_eq_true rfl) rfl rfl rfl rfl (by decide) rfl (fun v1 f1 hp => ?_)
    obtain ⟨rfl, rfl⟩ := hp
    show G g E _ _ _ [(wMo g mo (wsF (mN al) (al 0) t p_ m_ u) mac mmk mr mrd mrm mcm mtp msz mtk mbg men mls mvl mft mfp mfk mdp mto), (wMAll g mo al)] 22 [(5, .int (iI (wsF (mN al) (al 0) t p_ m_ u))), (0, .ref (mo 0)), (1, .int (iI t)), (2, .int (iI p_)), (3, .int (iI m_)), (4, .int (iI u))] [.int (iI (-1))]
    refine r_ireturn hE hR [(wMo g mo (wsF (mN al) (al 0) t p_ m_ u) mac mmk mr mrd mrm mcm mtp msz mtk mbg men mls mvl mft mfp mfk mdp mto), (wMAll g mo al)] dX9_splice_22 (Nat.le_of_ble_eq_true rfl) (Nat.le_of_ble_eq_true rfl) rfl ?_
    exact ⟨retI (rfl), rfl⟩
set_option maxHeartbeats 4000000 in
set_option maxRecDepth 100000 in
theorem c_X9_would {g : Gm} {mo : Nat → Nat} {mst mac mmk mr mrd mrm mcm mtp msz mtk mbg men mls mvl mft mfp mfk mdp mto : Int} {al : Int → Int} {kd on tw sg le de so : Int → Int} {R : Int → Rl} {ro : Int → Int} {pl : Int → Int} {t p_ m_ u : Int} (hM : MTx al) (ht : 0 ≤ t ∧ t < al 0) (hu : 0 ≤ u ∧ u < al 0) (hp : 0 ≤ p_ ∧ 0 ≤ m_ ∧ p_ + m_ ≤ mN al t) (h6 : mN al t - m_ + mN al u ≤ 600) : Ct g 9 0 0 yX9_would cX9_would 7 (some .int) [.ref (mo 0), .int (iI t), .int (iI p_), .int (iI m_), .int (iI u)] [(wMo g mo mst mac mmk mr mrd mrm mcm mtp msz mtk mbg men mls mvl mft mfp mfk mdp mto), (wMTab g mo kd on tw sg le de so), (wMRow g mo ro), (wMAll g mo al), (wMPil g mo pl)] (fun v_ w_ => ∃ kd9 : Int → Int, ∃ on9 : Int → Int, ∃ tw9 : Int → Int, ∃ sg9 : Int → Int, ∃ le9 : Int → Int, ∃ de9 : Int → Int, ∃ so9 : Int → Int, ∃ mr9 : Int, ∃ R9 : Int → Rl, ∃ ro9 : Int → Int, ∃ mrd9 : Int, ∃ mrm9 : Int, ∃ al9 : Int → Int, ∃ pl9 : Int → Int, ∃ mto9 : Int, ∃ r9 : Int, v_ = some (.int (iI r9)) ∧ w_ = [(wMo g mo 0 mac mmk mr9 mrd9 mrm9 mcm mtp msz mtk mbg men mls mvl mft mfp mfk mdp mto9), (wMTab g mo kd9 on9 tw9 sg9 le9 de9 so9), (wMRow g mo ro9), (wMAll g mo al9), (wMPil g mo pl9)] ∧ (∀ j, (0 ≤ j ∧ j < 4809) ∨ 9618 ≤ j → al9 j = al j) ∧ (∃ al8 : Int → Int, PSet al t (splF (mF al t) p_ m_ (mF al u) (mN al u)) (mN al t - m_ + mN al u) al8 ∧ NewsF (mF al) (mN al) (al 0) (mF al8) (mN al8) (al8 0) r9)) := by
  refine Ct.of (by decide) (Nat.le_of_ble_eq_true rfl) (lv := [(0, .ref (mo 0)), (1, .int (iI t)), (2, .int (iI p_)), (3, .int (iI m_)), (4, .int (iI u))]) rfl ?_
  intro E hE hR hnm
  have hc := hM.1
  have hl_t := hM.2 t ht.1 ht.2
  have hl_u := hM.2 u hu.1 hu.2
  have hws : wsF (mN al) (al 0) t p_ m_ u = 0 := by unfold wsF; (repeat (first | rw [if_pos (by omega)] | rw [if_neg (by omega)]))
  refine r_aload_n 1 hE 0 dX9_would_0 rfl rfl rfl ?_
  refine r_iload_n 2 hE 1 dX9_would_1 rfl rfl rfl ?_
  refine r_iload_n 3 hE 2 dX9_would_2 rfl rfl rfl ?_
  refine r_iload_n 4 hE 3 dX9_would_3 rfl rfl rfl ?_
  refine r_iload 6 hE 4 dX9_would_4 rfl rfl ?_
  refine r_callV 9 hE [0, 3] [1, 2, 4] [(wMo g mo mst mac mmk mr mrd mrm mcm mtp msz mtk mbg men mls mvl mft mfp mfk mdp mto), (wMAll g mo al)] [(wMTab g mo kd on tw sg le de so), (wMRow g mo ro), (wMPil g mo pl)] 0 9 ok9 [] (c_X9_wrongSplice (hM) (by omega) (by omega) (by omega) (by omega)) dX9_would_6 rfl rfl wd_1366 wd_1368 ws_84 wd_12 wd_1369 ne_X9 np_X9_wrongSplice (Nat.le_of_ble_eq_true rfl)  (by decide) (by decide) rfl (Nat.le_of_ble_eq_true rfl) rfl rfl rfl rfl (by decide) rfl (fun v1 f1 hp => ?_)
  obtain ⟨rfl, rfl⟩ := hp
  show G g E _ _ _ [(wMo g mo mst mac mmk mr mrd mrm mcm mtp msz mtk mbg men mls mvl mft mfp mfk mdp mto), (wMAll g mo al), (wMTab g mo kd on tw sg le de so), (wMRow g mo ro), (wMPil g mo pl)] 9 [(0, .ref (mo 0)), (1, .int (iI t)), (2, .int (iI p_)), (3, .int (iI m_)), (4, .int (iI u))] [.int (iI (wsF (mN al) (al 0) t p_ m_ u))]
  refine r_istore 11 hE [(5, .int (iI (wsF (mN al) (al 0) t p_ m_ u))), (0, .ref (mo 0)), (1, .int (iI t)), (2, .int (iI p_)), (3, .int (iI m_)), (4, .int (iI u))] dX9_would_9 rfl (by decide) rfl ?_
  refine r_iload 13 hE 0 dX9_would_11 rfl rfl ?_
  refine r_if_le 16 23 hE dX9_would_13 rfl (by decide) (by omega) (fun c13 => ?_) (fun c13 => ?_)
  · skip
    refine r_aload_n 24 hE 1 dX9_would_23 rfl rfl rfl ?_
    refine r_iload_n 25 hE 2 dX9_would_24 rfl rfl rfl ?_
    refine r_iload_n 26 hE 3 dX9_would_25 rfl rfl rfl ?_
    refine r_iload_n 27 hE 4 dX9_would_26 rfl rfl rfl ?_
    refine r_iload 29 hE 5 dX9_would_27 rfl rfl ?_
    refine r_callV 32 hE [0, 1, 4] [2, 3] [(wMo g mo mst mac mmk mr mrd mrm mcm mtp msz mtk mbg men mls mvl mft mfp mfk mdp mto), (wMAll g mo al), (wMPil g mo pl)] [(wMTab g mo kd on tw sg le de so), (wMRow g mo ro)] 0 9 ok9 [] (c_X9_splices (hM) (by omega) (by omega) (by omega) (by omega)) dX9_would_29 rfl rfl wd_1370 wd_1372 ws_85 wd_12 wd_1373 ne_X9 np_X9_splices (Nat.le_of_ble_eq_true rfl)  (by decide) (by decide) rfl (Nat.le_of_ble_eq_true rfl) rfl rfl rfl rfl (by decide) rfl (fun v1 f1 hp => ?_)
    obtain ⟨al9_29, pl9_29, mto9_29, rfl, rfl, h29_0⟩ := hp
    show G g E _ _ _ [(wMo g mo mst mac mmk mr mrd mrm mcm mtp msz mtk mbg men mls mvl mft mfp mfk mdp mto9_29), (wMAll g mo al9_29), (wMPil g mo pl9_29), (wMTab g mo kd on tw sg le de so), (wMRow g mo ro)] 32 [(5, .int (iI (wsF (mN al) (al 0) t p_ m_ u))), (0, .ref (mo 0)), (1, .int (iI t)), (2, .int (iI p_)), (3, .int (iI m_)), (4, .int (iI u))] []
    refine r_aload_n 33 hE 1 dX9_would_32 rfl rfl rfl ?_
    refine r_sipush 36 hE dX9_would_33 rfl (by decide) ?_
    refine r_callV 39 hE [0, 3, 4, 1] [2] [(wMo g mo mst mac mmk mr mrd mrm mcm mtp msz mtk mbg men mls mvl mft mfp mfk mdp mto9_29), (wMTab g mo kd on tw sg le de so), (wMRow g mo ro), (wMAll g mo al9_29)] [(wMPil g mo pl9_29)] 0 9 ok9 [] (c_X9_freshOver (R := R) (h29_0.ok) (by omega) (h29_0.aside hM)) dX9_would_36 rfl rfl wd_1298 wd_1300 ws_71 wd_12 wd_1301 ne_X9 np_X9_freshOver (Nat.le_of_ble_eq_true rfl)  (by decide) (by decide) rfl (Nat.le_of_ble_eq_true rfl) rfl rfl rfl rfl (by decide) rfl (fun v1 f1 hp => ?_)
    obtain ⟨kd9_36, on9_36, tw9_36, sg9_36, le9_36, de9_36, so9_36, mr9_36, R9_36, ro9_36, mrd9_36, mrm9_36, n9_36, rfl, rfl, h36_0, h36_1⟩ := hp
    show G g E _ _ _ [(wMo g mo mst mac mmk mr9_36 mrd9_36 mrm9_36 mcm mtp msz mtk mbg men mls mvl mft mfp mfk mdp mto9_29), (wMTab g mo kd9_36 on9_36 tw9_36 sg9_36 le9_36 de9_36 so9_36), (wMRow g mo ro9_36), (wMAll g mo al9_29), (wMPil g mo pl9_29)] 39 [(5, .int (iI (wsF (mN al) (al 0) t p_ m_ u))), (0, .ref (mo 0)), (1, .int (iI t)), (2, .int (iI p_)), (3, .int (iI m_)), (4, .int (iI u))] [.int (iI (mr9_36 - n9_36))]
    refine r_istore 41 hE [(6, .int (iI (mr9_36 - n9_36))), (5, .int (iI (wsF (mN al) (al 0) t p_ m_ u))), (0, .ref (mo 0)), (1, .int (iI t)), (2, .int (iI p_)), (3, .int (iI m_)), (4, .int (iI u))] dX9_would_39 rfl (by decide) rfl ?_
    refine r_aload_n 42 hE 2 dX9_would_41 rfl rfl rfl ?_
    refine r_sipush 45 hE dX9_would_42 rfl (by decide) ?_
    refine r_iconst 46 hE dX9_would_45 rfl ?_
    refine r_callV 49 hE [0, 3] [1, 2, 4] [(wMo g mo mst mac mmk mr9_36 mrd9_36 mrm9_36 mcm mtp msz mtk mbg men mls mvl mft mfp mfk mdp mto9_29), (wMAll g mo al9_29)] [(wMTab g mo kd9_36 on9_36 tw9_36 sg9_36 le9_36 de9_36 so9_36), (wMRow g mo ro9_36), (wMPil g mo pl9_29)] 0 9 ok9 [] (c_X9_copies (by omega) (by omega) (by omega)) dX9_would_46 rfl rfl wd_1190 wd_1192 ws_48 wd_12 wd_1193 ne_X9 np_X9_copies (Nat.le_of_ble_eq_true rfl)  (by decide) (by decide) rfl (Nat.le_of_ble_eq_true rfl) rfl rfl rfl rfl (by decide) rfl (fun v1 f1 hp => ?_)
    obtain ⟨al9_46, rfl, rfl, h46_0, h46_1⟩ := hp
    show G g E _ _ _ [(wMo g mo mst mac mmk mr9_36 mrd9_36 mrm9_36 mcm mtp msz mtk mbg men mls mvl mft mfp mfk mdp mto9_29), (wMAll g mo al9_46), (wMTab g mo kd9_36 on9_36 tw9_36 sg9_36 le9_36 de9_36 so9_36), (wMRow g mo ro9_36), (wMPil g mo pl9_29)] 49 [(6, .int (iI (mr9_36 - n9_36))), (5, .int (iI (wsF (mN al) (al 0) t p_ m_ u))), (0, .ref (mo 0)), (1, .int (iI t)), (2, .int (iI p_)), (3, .int (iI m_)), (4, .int (iI u))] []
    refine r_aload_n 50 hE 2 dX9_would_49 rfl rfl rfl ?_
    refine r_iload 52 hE 0 dX9_would_50 rfl rfl ?_
    refine r_callV 55 hE [0] [1, 2, 3, 4] [(wMo g mo mst mac mmk mr9_36 mrd9_36 mrm9_36 mcm mtp msz mtk mbg men mls mvl mft mfp mfk mdp mto9_29)] [(wMAll g mo al9_46), (wMTab g mo kd9_36 on9_36 tw9_36 sg9_36 le9_36 de9_36 so9_36), (wMRow g mo ro9_36), (wMPil g mo pl9_29)] 0 9 ok9 [] (c_X9_gives) dX9_would_52 rfl rfl wd_1334 wd_1336 ws_79 wd_12 wd_1337 ne_X9 np_X9_gives (Nat.le_of_ble_eq_true rfl)  (by decide) (by decide) rfl (Nat.le_of_ble_eq_true rfl) rfl rfl rfl rfl (by decide) rfl (fun v1 f1 hp => ?_)
    obtain ⟨rfl, rfl⟩ := hp
    show G g E _ _ _ [(wMo g mo 0 mac mmk mr9_36 mrd9_36 mrm9_36 mcm mtp msz mtk mbg men mls mvl mft mfp mfk mdp mto9_29), (wMAll g mo al9_46), (wMTab g mo kd9_36 on9_36 tw9_36 sg9_36 le9_36 de9_36 so9_36), (wMRow g mo ro9_36), (wMPil g mo pl9_29)] 55 [(6, .int (iI (mr9_36 - n9_36))), (5, .int (iI (wsF (mN al) (al 0) t p_ m_ u))), (0, .ref (mo 0)), (1, .int (iI t)), (2, .int (iI p_)), (3, .int (iI m_)), (4, .int (iI u))] [.int (iI (mr9_36 - n9_36))]
    refine G.to (fs' := [(wMo g mo 0 mac mmk mr9_36 mrd9_36 mrm9_36 mcm mtp msz mtk mbg men mls mvl mft mfp mfk mdp mto9_29), (wMTab g mo kd9_36 on9_36 tw9_36 sg9_36 le9_36 de9_36 so9_36), (wMRow g mo ro9_36), (wMAll g mo al9_46), (wMPil g mo pl9_29)]) [0, 2, 3, 1, 4] [0, 1, 2, 3, 4, 5, 6] rfl rfl rfl ?_
    refine r_ireturn hE hR [(wMo g mo 0 mac mmk mr9_36 mrd9_36 mrm9_36 mcm mtp msz mtk mbg men mls mvl mft mfp mfk mdp mto9_29), (wMTab g mo kd9_36 on9_36 tw9_36 sg9_36 le9_36 de9_36 so9_36), (wMRow g mo ro9_36), (wMAll g mo al9_46), (wMPil g mo pl9_29)] dX9_would_55 (Nat.le_of_ble_eq_true rfl) (Nat.le_of_ble_eq_true rfl) rfl ?_
    have hp1 := h29_0.1
    have hp2 := h29_0.2.1
    refine ⟨kd9_36, on9_36, tw9_36, sg9_36, le9_36, de9_36, so9_36, mr9_36, R9_36, ro9_36, mrd9_36, mrm9_36, al9_46, _, _, _, rfl, rfl, fun j a => ?_, al9_29, h29_0.now, NewsF.aside hM hp1 h36_0⟩
    rcases a with a | a
    · have h9 := h46_0 j a.1 a.2
      rw [Int.zero_add] at h9
      rw [h9, hp1 j a.1 a.2, Int.zero_add]
    · rw [h46_1 _ (by omega), hp2 _ a]
  · skip
    omega
set_option maxHeartbeats 4000000 in
set_option maxRecDepth 100000 in
theorem c_X9_would_no {g : Gm} {mo : Nat → Nat} {mst mac mmk mr mrd mrm mcm mtp msz mtk mbg men mls mvl mft mfp mfk mdp mto : Int} {al : Int → Int} {t p_ m_ u : Int} (hM : MTx al) (hr_t : -2147483648 ≤ t ∧ t ≤ 2147483647) (hr_p_ : -2147483648 ≤ p_ ∧ p_ ≤ 2147483647) (hr_m_ : -2147483648 ≤ m_ ∧ m_ ≤ 2147483647) (hr_u : -2147483648 ≤ u ∧ u ≤ 2147483647) (hno : wsF (mN al) (al 0) t p_ m_ u ≠ 0) (hnr : 0 ≤ wsF (mN al) (al 0) t p_ m_ u ∧ wsF (mN al) (al 0) t p_ m_ u ≤ 9) : Ct g 9 0 0 yX9_would cX9_would 7 (some .int) [.ref (mo 0), .int (iI t), .int (iI p_), .int (iI m_), .int (iI u)] [(wMo g mo mst mac mmk mr mrd mrm mcm mtp msz mtk mbg men mls mvl mft mfp mfk mdp mto), (wMAll g mo al)] (fun v_ w_ => v_ = some (.int (iI (-1))) ∧ w_ = [(wMo g mo (wsF (mN al) (al 0) t p_ m_ u) mac mmk mr mrd mrm mcm mtp msz mtk mbg men mls mvl mft mfp mfk mdp mto), (wMAll g mo al)]) := by
  refine Ct.of (by decide) (Nat.le_of_ble_eq_true rfl) (lv := [(0, .ref (mo 0)), (1, .int (iI t)), (2, .int (iI p_)), (3, .int (iI m_)), (4, .int (iI u))]) rfl ?_
  intro E hE hR hnm
  have hc := hM.1
  refine r_aload_n 1 hE 0 dX9_would_0 rfl rfl rfl ?_
  refine r_iload_n 2 hE 1 dX9_would_1 rfl rfl rfl ?_
  refine r_iload_n 3 hE 2 dX9_would_2 rfl rfl rfl ?_
  refine r_iload_n 4 hE 3 dX9_would_3 rfl rfl rfl ?_
  refine r_iload 6 hE 4 dX9_would_4 rfl rfl ?_
  refine r_callV 9 hE [0, 1] [] [(wMo g mo mst mac mmk mr mrd mrm mcm mtp msz mtk mbg men mls mvl mft mfp mfk mdp mto), (wMAll g mo al)] [] 0 9 ok9 [] (c_X9_wrongSplice (hM) (by omega) (by omega) (by omega) (by omega)) dX9_would_6 rfl rfl wd_1366 wd_1368 ws_84 wd_12 wd_1369 ne_X9 np_X9_wrongSplice (Nat.le_of_ble_eq_true rfl)  (by decide) (by decide) rfl (Nat.le_of_ble_eq_true rfl) rfl rfl rfl rfl (by decide) rfl (fun v1 f1 hp => ?_)
  obtain ⟨rfl, rfl⟩ := hp
  show G g E _ _ _ [(wMo g mo mst mac mmk mr mrd mrm mcm mtp msz mtk mbg men mls mvl mft mfp mfk mdp mto), (wMAll g mo al)] 9 [(0, .ref (mo 0)), (1, .int (iI t)), (2, .int (iI p_)), (3, .int (iI m_)), (4, .int (iI u))] [.int (iI (wsF (mN al) (al 0) t p_ m_ u))]
  refine r_istore 11 hE [(5, .int (iI (wsF (mN al) (al 0) t p_ m_ u))), (0, .ref (mo 0)), (1, .int (iI t)), (2, .int (iI p_)), (3, .int (iI m_)), (4, .int (iI u))] dX9_would_9 rfl (by decide) rfl ?_
  refine r_iload 13 hE 0 dX9_would_11 rfl rfl ?_
  refine r_if_le 16 23 hE dX9_would_13 rfl (by decide) (by omega) (fun c13 => ?_) (fun c13 => ?_)
  · skip
    omega
  · skip
    refine r_aload_n 17 hE 1 dX9_would_16 rfl rfl rfl ?_
    refine r_iload 19 hE 0 dX9_would_17 rfl rfl ?_
    refine r_callV 22 hE [0] [1] [(wMo g mo mst mac mmk mr mrd mrm mcm mtp msz mtk mbg men mls mvl mft mfp mfk mdp mto)] [(wMAll g mo al)] 0 9 ok9 [] (c_X9_refuse) dX9_would_19 rfl rfl wd_1186 wd_1188 ws_47 wd_12 wd_1189 ne_X9 np_X9_refuse (Nat.le_of_ble_eq_true rfl)  (by decide) (by decide) rfl (Nat.le_of_ble_eq_true rfl) rfl rfl rfl rfl (by decide) rfl (fun v1 f1 hp => ?_)
    obtain ⟨rfl, rfl⟩ := hp
    show G g E _ _ _ [(wMo g mo (wsF (mN al) (al 0) t p_ m_ u) mac mmk mr mrd mrm mcm mtp msz mtk mbg men mls mvl mft mfp mfk mdp mto), (wMAll g mo al)] 22 [(5, .int (iI (wsF (mN al) (al 0) t p_ m_ u))), (0, .ref (mo 0)), (1, .int (iI t)), (2, .int (iI p_)), (3, .int (iI m_)), (4, .int (iI u))] [.int (iI (-1))]
    refine r_ireturn hE hR [(wMo g mo (wsF (mN al) (al 0) t p_ m_ u) mac mmk mr mrd mrm mcm mtp msz mtk mbg men mls mvl mft mfp mfk mdp mto), (wMAll g mo al)] dX9_would_22 (Nat.le_of_ble_eq_true rfl) (Nat.le_of_ble_eq_true rfl) rfl ?_
    exact ⟨retI (rfl), rfl⟩
set_option maxHeartbeats 4000000 in
set_option maxRecDepth 100000 in
theorem c_X9_join {g : Gm} {mo : Nat → Nat} {mst mac mmk mr mrd mrm mcm mtp msz mtk mbg men mls mvl mft mfp mfk mdp mto : Int} {al : Int → Int} {kd on tw sg le de so : Int → Int} {R : Int → Rl} {ro : Int → Int} {nf : Int → Int} {pl : Int → Int} {t u : Int} (hM : MTx al) (hac : 0 ≤ mac ∧ mac ≤ 8) (ht : 0 ≤ t ∧ t < al 0) (hu : 0 ≤ u ∧ u < al 0) (h6 : mN al t + mN al u ≤ 600) (h8 : al 0 < 8) : Ct g 10 0 0 yX9_join cX9_join 3 (some .int) [.ref (mo 0), .int (iI t), .int (iI u)] [(wMo g mo mst mac mmk mr mrd mrm mcm mtp msz mtk mbg men mls mvl mft mfp mfk mdp mto), (wMTab g mo kd on tw sg le de so), (wMRow g mo ro), (wMAll g mo al), (wMNew g mo nf), (wMPil g mo pl)] (fun v_ w_ => ∃ kd9 : Int → Int, ∃ on9 : Int → Int, ∃ tw9 : Int → Int, ∃ sg9 : Int → Int, ∃ le9 : Int → Int, ∃ de9 : Int → Int, ∃ so9 : Int → Int, ∃ mr9 : Int, ∃ R9 : Int → Rl, ∃ ro9 : Int → Int, ∃ mrd9 : Int, ∃ mrm9 : Int, ∃ al9 : Int → Int, ∃ nf9 : Int → Int, ∃ mac9 : Int, ∃ news : Int, ∃ pl9 : Int → Int, ∃ mto9 : Int, v_ = some (.int (iI (al 0))) ∧ w_ = [(wMo g mo 0 mac9 mmk mr9 mrd9 mrm9 mcm mtp msz mtk mbg men mls mvl mft mfp mfk mdp mto9), (wMTab g mo kd9 on9 tw9 sg9 le9 de9 so9), (wMRow g mo ro9), (wMAll g mo al9), (wMNew g mo nf9), (wMPil g mo pl9)] ∧ (ActIs al nf mac al9 nf9 mac9 news) ∧ (1 ≤ mac9 ∧ mac9 ≤ 8) ∧ (PSet al (al 0) (joinF (mF al t) (mN al t) (mF al u)) (mN al t + mN al u) al9)) := by
  refine Ct.of (by decide) (Nat.le_of_ble_eq_true rfl) (lv := [(0, .ref (mo 0)), (1, .int (iI t)), (2, .int (iI u))]) rfl ?_
  intro E hE hR hnm
  have hc := hM.1
  have hl_t := hM.2 t ht.1 ht.2
  have hl_u := hM.2 u hu.1 hu.2
  refine r_aload_n 1 hE 0 dX9_join_0 rfl rfl rfl ?_
  refine r_iload_n 2 hE 1 dX9_join_1 rfl rfl rfl ?_
  refine r_callV 5 hE [0, 3] [1, 2, 4, 5] [(wMo g mo mst mac mmk mr mrd mrm mcm mtp msz mtk mbg men mls mvl mft mfp mfk mdp mto), (wMAll g mo al)] [(wMTab g mo kd on tw sg le de so), (wMRow g mo ro), (wMNew g mo nf), (wMPil g mo pl)] 0 9 ok9 [] (c_X9_isText (by omega) (by omega)) dX9_join_2 rfl rfl wd_1346 wd_1348 ws_80 wd_12 wd_1349 ne_X9 np_X9_isText (Nat.le_of_ble_eq_true rfl)  (by decide) (by decide) rfl (Nat.le_of_ble_eq_true rfl) rfl rfl rfl rfl (by decide) rfl (fun v1 f1 hp => ?_)
  obtain ⟨rfl, rfl⟩ := hp
  show G g E _ _ _ [(wMo g mo mst mac mmk mr mrd mrm mcm mtp msz mtk mbg men mls mvl mft mfp mfk mdp mto), (wMAll g mo al), (wMTab g mo kd on tw sg le de so), (wMRow g mo ro), (wMNew g mo nf), (wMPil g mo pl)] 5 [(0, .ref (mo 0)), (1, .int (iI t)), (2, .int (iI u))] [.int (iI (bI (0 ≤ t ∧ t < al 0)))]
  refine r_if_eq 8 16 hE dX9_join_5 rfl (by decide) (bI_rg _) (fun c5 => ?_) (fun c5 => ?_)
  · skip
    have c5 := bI0 c5
    omega
  · skip
    have c5 := bI1 c5
    refine r_aload_n 9 hE 0 dX9_join_8 rfl rfl rfl ?_
    refine r_iload_n 10 hE 2 dX9_join_9 rfl rfl rfl ?_
    refine r_callV 13 hE [0, 1] [2, 3, 4, 5] [(wMo g mo mst mac mmk mr mrd mrm mcm mtp msz mtk mbg men mls mvl mft mfp mfk mdp mto), (wMAll g mo al)] [(wMTab g mo kd on tw sg le de so), (wMRow g mo ro), (wMNew g mo nf), (wMPil g mo pl)] 0 9 ok9 [] (c_X9_isText (by omega) (by omega)) dX9_join_10 rfl rfl wd_1346 wd_1348 ws_80 wd_12 wd_1349 ne_X9 np_X9_isText (Nat.le_of_ble_eq_true rfl)  (by decide) (by decide) rfl (Nat.le_of_ble_eq_true rfl) rfl rfl rfl rfl (by decide) rfl (fun v1 f1 hp => ?_)
    obtain ⟨rfl, rfl⟩ := hp
    show G g E _ _ _ [(wMo g mo mst mac mmk mr mrd mrm mcm mtp msz mtk mbg men mls mvl mft mfp mfk mdp mto), (wMAll g mo al), (wMTab g mo kd on tw sg le de so), (wMRow g mo ro), (wMNew g mo nf), (wMPil g mo pl)] 13 [(0, .ref (mo 0)), (1, .int (iI t)), (2, .int (iI u))] [.int (iI (bI (0 ≤ u ∧ u < al 0)))]
    refine r_if_ne 16 22 hE dX9_join_13 rfl (by decide) (bI_rg _) (fun c13 => ?_) (fun c13 => ?_)
    · skip
      have c13 := bI1 c13
      refine r_aload_n 23 hE 0 dX9_join_22 rfl rfl rfl ?_
      refine r_callV 26 hE [0, 1] [2, 3, 4, 5] [(wMo g mo mst mac mmk mr mrd mrm mcm mtp msz mtk mbg men mls mvl mft mfp mfk mdp mto), (wMAll g mo al)] [(wMTab g mo kd on tw sg le de so), (wMRow g mo ro), (wMNew g mo nf), (wMPil g mo pl)] 0 9 ok9 [] (c_X9_many) dX9_join_23 rfl rfl wd_1217 wd_1219 ws_52 wd_12 wd_1220 ne_X9 np_X9_many (Nat.le_of_ble_eq_true rfl)  (by decide) (by decide) rfl (Nat.le_of_ble_eq_true rfl) rfl rfl rfl rfl (by decide) rfl (fun v1 f1 hp => ?_)
      obtain ⟨rfl, rfl⟩ := hp
      show G g E _ _ _ [(wMo g mo mst mac mmk mr mrd mrm mcm mtp msz mtk mbg men mls mvl mft mfp mfk mdp mto), (wMAll g mo al), (wMTab g mo kd on tw sg le de so), (wMRow g mo ro), (wMNew g mo nf), (wMPil g mo pl)] 26 [(0, .ref (mo 0)), (1, .int (iI t)), (2, .int (iI u))] [.int (iI (al 0))]
      refine r_bipush 28 hE dX9_join_26 rfl (by decide) ?_
      refine r_icmp_ne 31 37 hE dX9_join_28 rfl (by decide) (by omega) (fun c28 => ?_) (fun c28 => ?_)
      · skip
        refine r_aload_n 38 hE 0 dX9_join_37 rfl rfl rfl ?_
        refine r_iload_n 39 hE 1 dX9_join_38 rfl rfl rfl ?_
        refine r_callV 42 hE [0, 1] [2, 3, 4, 5] [(wMo g mo mst mac mmk mr mrd mrm mcm mtp msz mtk mbg men mls mvl mft mfp mfk mdp mto), (wMAll g mo al)] [(wMTab g mo kd on tw sg le de so), (wMRow g mo ro), (wMNew g mo nf), (wMPil g mo pl)] 0 9 ok9 [] (c_X9_sizeOf (by omega)) dX9_join_39 rfl rfl wd_1273 wd_1275 ws_65 wd_12 wd_1276 ne_X9 np_X9_sizeOf (Nat.le_of_ble_eq_true rfl)  (by decide) (by decide) rfl (Nat.le_of_ble_eq_true rfl) rfl rfl rfl rfl (by decide) rfl (fun v1 f1 hp => ?_)
        obtain ⟨rfl, rfl⟩ := hp
        show G g E _ _ _ [(wMo g mo mst mac mmk mr mrd mrm mcm mtp msz mtk mbg men mls mvl mft mfp mfk mdp mto), (wMAll g mo al), (wMTab g mo kd on tw sg le de so), (wMRow g mo ro), (wMNew g mo nf), (wMPil g mo pl)] 42 [(0, .ref (mo 0)), (1, .int (iI t)), (2, .int (iI u))] [.int (iI (mN al t))]
        refine r_aload_n 43 hE 0 dX9_join_42 rfl rfl rfl ?_
        refine r_iload_n 44 hE 2 dX9_join_43 rfl rfl rfl ?_
        refine r_callV 47 hE [0, 1] [2, 3, 4, 5] [(wMo g mo mst mac mmk mr mrd mrm mcm mtp msz mtk mbg men mls mvl mft mfp mfk mdp mto), (wMAll g mo al)] [(wMTab g mo kd on tw sg le de so), (wMRow g mo ro), (wMNew g mo nf), (wMPil g mo pl)] 0 9 ok9 [.int (iI (mN al t))] (c_X9_sizeOf (by omega)) dX9_join_44 rfl rfl wd_1273 wd_1275 ws_65 wd_12 wd_1276 ne_X9 np_X9_sizeOf (Nat.le_of_ble_eq_true rfl)  (by decide) (by decide) rfl (Nat.le_of_ble_eq_true rfl) rfl rfl rfl rfl (by decide) rfl (fun v1 f1 hp => ?_)
        obtain ⟨rfl, rfl⟩ := hp
        show G g E _ _ _ [(wMo g mo mst mac mmk mr mrd mrm mcm mtp msz mtk mbg men mls mvl mft mfp mfk mdp mto), (wMAll g mo al), (wMTab g mo kd on tw sg le de so), (wMRow g mo ro), (wMNew g mo nf), (wMPil g mo pl)] 47 [(0, .ref (mo 0)), (1, .int (iI t)), (2, .int (iI u))] [.int (iI (mN al u)), .int (iI (mN al t))]
        refine r_iadd 48 hE ((mN al t) + (mN al u)) dX9_join_47 rfl rfl ?_
        refine r_sipush 51 hE dX9_join_48 rfl (by decide) ?_
        refine r_icmp_le 54 61 hE dX9_join_51 rfl (by decide) (by omega) (fun c51 => ?_) (fun c51 => ?_)
        · skip
          refine r_aload_n 62 hE 0 dX9_join_61 rfl rfl rfl ?_
          refine r_iconst 63 hE dX9_join_62 rfl ?_
          refine r_put 66 hE 0 0 ok9 37 (wMo g mo mst mac mmk mr mrd mrm mcm mtp msz mtk mbg men mls mvl mft mfp mfk mdp 0) [(wMo g mo mst mac mmk mr mrd mrm mcm mtp msz mtk mbg men mls mvl mft mfp mfk mdp 0), (wMAll g mo al), (wMTab g mo kd on tw sg le de so), (wMRow g mo ro), (wMNew g mo nf), (wMPil g mo pl)] dX9_join_63 rfl wd_1089 rfl rfl (by decide) rfl rfl rfl (Nat.le_of_ble_eq_true rfl) rfl rfl ?_
          refine r_aload_n 67 hE 0 dX9_join_66 rfl rfl rfl ?_
          refine r_iload_n 68 hE 1 dX9_join_67 rfl rfl rfl ?_
          refine r_iconst 69 hE dX9_join_68 rfl ?_
          refine r_aload_n 70 hE 0 dX9_join_69 rfl rfl rfl ?_
          refine r_iload_n 71 hE 1 dX9_join_70 rfl rfl rfl ?_
          refine r_callV 74 hE [0, 1] [2, 3, 4, 5] [(wMo g mo mst mac mmk mr mrd mrm mcm mtp msz mtk mbg men mls mvl mft mfp mfk mdp 0), (wMAll g mo al)] [(wMTab g mo kd on tw sg le de so), (wMRow g mo ro), (wMNew g mo nf), (wMPil g mo pl)] 0 9 ok9 [.int (iI 0), .int (iI t), .ref (mo 0)] (c_X9_sizeOf (by omega)) dX9_join_71 rfl rfl wd_1273 wd_1275 ws_65 wd_12 wd_1276 ne_X9 np_X9_sizeOf (Nat.le_of_ble_eq_true rfl)  (by decide) (by decide) rfl (Nat.le_of_ble_eq_true rfl) rfl rfl rfl rfl (by decide) rfl (fun v1 f1 hp => ?_)
          obtain ⟨rfl, rfl⟩ := hp
          show G g E _ _ _ [(wMo g mo mst mac mmk mr mrd mrm mcm mtp msz mtk mbg men mls mvl mft mfp mfk mdp 0), (wMAll g mo al), (wMTab g mo kd on tw sg le de so), (wMRow g mo ro), (wMNew g mo nf), (wMPil g mo pl)] 74 [(0, .ref (mo 0)), (1, .int (iI t)), (2, .int (iI u))] [.int (iI (mN al t)), .int (iI 0), .int (iI t), .ref (mo 0)]
          refine r_callV 77 hE [0, 1, 5] [2, 3, 4] [(wMo g mo mst mac mmk mr mrd mrm mcm mtp msz mtk mbg men mls mvl mft mfp mfk mdp 0), (wMAll g mo al), (wMPil g mo pl)] [(wMTab g mo kd on tw sg le de so), (wMRow g mo ro), (wMNew g mo nf)] 0 9 ok9 [] (c_X9_piles (by omega) (by omega) (by omega)) dX9_join_74 rfl rfl wd_1350 wd_1352 ws_81 wd_12 wd_1353 ne_X9 np_X9_piles (Nat.le_of_ble_eq_true rfl)  (by decide) (by decide) rfl (Nat.le_of_ble_eq_true rfl) rfl rfl rfl rfl (by decide) rfl (fun v1 f1 hp => ?_)
          obtain ⟨pl9_74, rfl, rfl, h74_0, h74_1⟩ := hp
          show G g E _ _ _ [(wMo g mo mst mac mmk mr mrd mrm mcm mtp msz mtk mbg men mls mvl mft mfp mfk mdp (0 + (mN al t))), (wMAll g mo al), (wMPil g mo pl9_74), (wMTab g mo kd on tw sg le de so), (wMRow g mo ro), (wMNew g mo nf)] 77 [(0, .ref (mo 0)), (1, .int (iI t)), (2, .int (iI u))] []
          refine r_aload_n 78 hE 0 dX9_join_77 rfl rfl rfl ?_
          refine r_iload_n 79 hE 2 dX9_join_78 rfl rfl rfl ?_
          refine r_iconst 80 hE dX9_join_79 rfl ?_
          refine r_aload_n 81 hE 0 dX9_join_80 rfl rfl rfl ?_
          refine r_iload_n 82 hE 2 dX9_join_81 rfl rfl rfl ?_
          refine r_callV 85 hE [0, 1] [2, 3, 4, 5] [(wMo g mo mst mac mmk mr mrd mrm mcm mtp msz mtk mbg men mls mvl mft mfp mfk mdp (0 + (mN al t))), (wMAll g mo al)] [(wMPil g mo pl9_74), (wMTab g mo kd on tw sg le de so), (wMRow g mo ro), (wMNew g mo nf)] 0 9 ok9 [.int (iI 0), .int (iI u), .ref (mo 0)] (c_X9_sizeOf (by omega)) dX9_join_82 rfl rfl wd_1273 wd_1275 ws_65 wd_12 wd_1276 ne_X9 np_X9_sizeOf (Nat.le_of_ble_eq_true rfl)  (by decide) (by decide) rfl (Nat.le_of_ble_eq_true rfl) rfl rfl rfl rfl (by decide) rfl (fun v1 f1 hp => ?_)
          obtain ⟨rfl, rfl⟩ := hp
          show G g E _ _ _ [(wMo g mo mst mac mmk mr mrd mrm mcm mtp msz mtk mbg men mls mvl mft mfp mfk mdp (0 + (mN al t))), (wMAll g mo al), (wMPil g mo pl9_74), (wMTab g mo kd on tw sg le de so), (wMRow g mo ro), (wMNew g mo nf)] 85 [(0, .ref (mo 0)), (1, .int (iI t)), (2, .int (iI u))] [.int (iI (mN al u)), .int (iI 0), .int (iI u), .ref (mo 0)]
          refine r_callV 88 hE [0, 1, 2] [3, 4, 5] [(wMo g mo mst mac mmk mr mrd mrm mcm mtp msz mtk mbg men mls mvl mft mfp mfk mdp (0 + (mN al t))), (wMAll g mo al), (wMPil g mo pl9_74)] [(wMTab g mo kd on tw sg le de so), (wMRow g mo ro), (wMNew g mo nf)] 0 9 ok9 [] (c_X9_piles (by omega) (by omega) (by omega)) dX9_join_85 rfl rfl wd_1350 wd_1352 ws_81 wd_12 wd_1353 ne_X9 np_X9_piles (Nat.le_of_ble_eq_true rfl)  (by decide) (by decide) rfl (Nat.le_of_ble_eq_true rfl) rfl rfl rfl rfl (by decide) rfl (fun v1 f1 hp => ?_)
          obtain ⟨pl9_85, rfl, rfl, h85_0, h85_1⟩ := hp
          show G g E _ _ _ [(wMo g mo mst mac mmk mr mrd mrm mcm mtp msz mtk mbg men mls mvl mft mfp mfk mdp ((0 + (mN al t)) + (mN al u))), (wMAll g mo al), (wMPil g mo pl9_85), (wMTab g mo kd on tw sg le de so), (wMRow g mo ro), (wMNew g mo nf)] 88 [(0, .ref (mo 0)), (1, .int (iI t)), (2, .int (iI u))] []
          have hpl := pile2 (f := mF al t) (h := mF al u) (by omega) h74_0 h85_0 h85_1
          refine r_aload_n 89 hE 0 dX9_join_88 rfl rfl rfl ?_
          refine r_callV 92 hE [0, 3, 4, 1, 5, 2] [] [(wMo g mo mst mac mmk mr mrd mrm mcm mtp msz mtk mbg men mls mvl mft mfp mfk mdp ((0 + (mN al t)) + (mN al u))), (wMTab g mo kd on tw sg le de so), (wMRow g mo ro), (wMAll g mo al), (wMNew g mo nf), (wMPil g mo pl9_85)] [] 0 9 ok9 [] (c_X9_more (R := R) (hM) (hac) (by omega) (by omega) (fun k a b => by rw [hpl k a b]; unfold joinF; split; exact hl_t.2 _ (by omega) (by omega); exact hl_u.2 _ (by omega) (by omega))) dX9_join_89 rfl rfl wd_1354 wd_1356 ws_82 wd_12 wd_1357 ne_X9 np_X9_more (Nat.le_of_ble_eq_true rfl)  (by decide) (by decide) rfl (Nat.le_of_ble_eq_true rfl) rfl rfl rfl rfl (by decide) rfl (fun v1 f1 hp => ?_)
          obtain ⟨kd9_89, on9_89, tw9_89, sg9_89, le9_89, de9_89, so9_89, mr9_89, R9_89, ro9_89, mrd9_89, mrm9_89, al9_89, nf9_89, mac9_89, news_89, rfl, rfl, h89_0, h89_1, h89_2⟩ := hp
          show G g E _ _ _ [(wMo g mo 0 mac9_89 mmk mr9_89 mrd9_89 mrm9_89 mcm mtp msz mtk mbg men mls mvl mft mfp mfk mdp ((0 + (mN al t)) + (mN al u))), (wMTab g mo kd9_89 on9_89 tw9_89 sg9_89 le9_89 de9_89 so9_89), (wMRow g mo ro9_89), (wMAll g mo al9_89), (wMNew g mo nf9_89), (wMPil g mo pl9_85)] 92 [(0, .ref (mo 0)), (1, .int (iI t)), (2, .int (iI u))] [.int (iI (al 0))]
          refine r_ireturn hE hR [(wMo g mo 0 mac9_89 mmk mr9_89 mrd9_89 mrm9_89 mcm mtp msz mtk mbg men mls mvl mft mfp mfk mdp ((0 + (mN al t)) + (mN al u))), (wMTab g mo kd9_89 on9_89 tw9_89 sg9_89 le9_89 de9_89 so9_89), (wMRow g mo ro9_89), (wMAll g mo al9_89), (wMNew g mo nf9_89), (wMPil g mo pl9_85)] dX9_join_92 (Nat.le_of_ble_eq_true rfl) (Nat.le_of_ble_eq_true rfl) rfl ?_
          exact ⟨kd9_89, on9_89, tw9_89, sg9_89, le9_89, de9_89, so9_89, mr9_89, R9_89, ro9_89, mrd9_89, mrm9_89, al9_89, nf9_89, mac9_89, news_89, _, _, rfl, rfl, h89_0, h89_1, h89_2.cg (by omega) hpl⟩
        · skip
          omega
      · skip
        omega
    · skip
      have c13 := bI0 c13
      omega
set_option maxHeartbeats 4000000 in
set_option maxRecDepth 100000 in
theorem c_X9_join_no {g : Gm} {mo : Nat → Nat} {mst mac mmk mr mrd mrm mcm mtp msz mtk mbg men mls mvl mft mfp mfk mdp mto : Int} {al : Int → Int} {t u : Int} (hM : MTx al) (hr_t : -2147483648 ≤ t ∧ t ≤ 2147483647) (hr_u : -2147483648 ≤ u ∧ u ≤ 2147483647) (hno : jnF (mN al) (al 0) t u ≠ 0) : Ct g 10 0 0 yX9_join cX9_join 3 (some .int) [.ref (mo 0), .int (iI t), .int (iI u)] [(wMo g mo mst mac mmk mr mrd mrm mcm mtp msz mtk mbg men mls mvl mft mfp mfk mdp mto), (wMAll g mo al)] (fun v_ w_ => v_ = some (.int (iI (-1))) ∧ w_ = [(wMo g mo (jnF (mN al) (al 0) t u) mac mmk mr mrd mrm mcm mtp msz mtk mbg men mls mvl mft mfp mfk mdp mto), (wMAll g mo al)]) := by
  refine Ct.of (by decide) (Nat.le_of_ble_eq_true rfl) (lv := [(0, .ref (mo 0)), (1, .int (iI t)), (2, .int (iI u))]) rfl ?_
  intro E hE hR hnm
  have hc := hM.1
  refine r_aload_n 1 hE 0 dX9_join_0 rfl rfl rfl ?_
  refine r_iload_n 2 hE 1 dX9_join_1 rfl rfl rfl ?_
  refine r_callV 5 hE [0, 1] [] [(wMo g mo mst mac mmk mr mrd mrm mcm mtp msz mtk mbg men mls mvl mft mfp mfk mdp mto), (wMAll g mo al)] [] 0 9 ok9 [] (c_X9_isText (by omega) (by omega)) dX9_join_2 rfl rfl wd_1346 wd_1348 ws_80 wd_12 wd_1349 ne_X9 np_X9_isText (Nat.le_of_ble_eq_true rfl)  (by decide) (by decide) rfl (Nat.le_of_ble_eq_true rfl) rfl rfl rfl rfl (by decide) rfl (fun v1 f1 hp => ?_)
  obtain ⟨rfl, rfl⟩ := hp
  show G g E _ _ _ [(wMo g mo mst mac mmk mr mrd mrm mcm mtp msz mtk mbg men mls mvl mft mfp mfk mdp mto), (wMAll g mo al)] 5 [(0, .ref (mo 0)), (1, .int (iI t)), (2, .int (iI u))] [.int (iI (bI (0 ≤ t ∧ t < al 0)))]
  refine r_if_eq 8 16 hE dX9_join_5 rfl (by decide) (bI_rg _) (fun c5 => ?_) (fun c5 => ?_)
  · skip
    have c5 := bI0 c5
    refine r_aload_n 17 hE 0 dX9_join_16 rfl rfl rfl ?_
    refine r_iconst 18 hE dX9_join_17 rfl ?_
    refine r_callV 21 hE [0] [1] [(wMo g mo mst mac mmk mr mrd mrm mcm mtp msz mtk mbg men mls mvl mft mfp mfk mdp mto)] [(wMAll g mo al)] 0 9 ok9 [] (c_X9_refuse) dX9_join_18 rfl rfl wd_1186 wd_1188 ws_47 wd_12 wd_1189 ne_X9 np_X9_refuse (Nat.le_of_ble_eq_true rfl)  (by decide) (by decide) rfl (Nat.le_of_ble_eq_true rfl) rfl rfl rfl rfl (by decide) rfl (fun v1 f1 hp => ?_)
    obtain ⟨rfl, rfl⟩ := hp
    show G g E _ _ _ [(wMo g mo 2 mac mmk mr mrd mrm mcm mtp msz mtk mbg men mls mvl mft mfp mfk mdp mto), (wMAll g mo al)] 21 [(0, .ref (mo 0)), (1, .int (iI t)), (2, .int (iI u))] [.int (iI (-1))]
    refine r_ireturn hE hR [(wMo g mo 2 mac mmk mr mrd mrm mcm mtp msz mtk mbg men mls mvl mft mfp mfk mdp mto), (wMAll g mo al)] dX9_join_21 (Nat.le_of_ble_eq_true rfl) (Nat.le_of_ble_eq_true rfl) rfl ?_
    exact ⟨rfl, by unfold jnF; (repeat (first | rw [if_pos (by omega)] | rw [if_neg (by omega)]))⟩
  · skip
    have c5 := bI1 c5
    have hl_t := hM.2 t c5.1 c5.2
    refine r_aload_n 9 hE 0 dX9_join_8 rfl rfl rfl ?_
    refine r_iload_n 10 hE 2 dX9_join_9 rfl rfl rfl ?_
    refine r_callV 13 hE [0, 1] [] [(wMo g mo mst mac mmk mr mrd mrm mcm mtp msz mtk mbg men mls mvl mft mfp mfk mdp mto), (wMAll g mo al)] [] 0 9 ok9 [] (c_X9_isText (by omega) (by omega)) dX9_join_10 rfl rfl wd_1346 wd_1348 ws_80 wd_12 wd_1349 ne_X9 np_X9_isText (Nat.le_of_ble_eq_true rfl)  (by decide) (by decide) rfl (Nat.le_of_ble_eq_true rfl) rfl rfl rfl rfl (by decide) rfl (fun v1 f1 hp => ?_)
    obtain ⟨rfl, rfl⟩ := hp
    show G g E _ _ _ [(wMo g mo mst mac mmk mr mrd mrm mcm mtp msz mtk mbg men mls mvl mft mfp mfk mdp mto), (wMAll g mo al)] 13 [(0, .ref (mo 0)), (1, .int (iI t)), (2, .int (iI u))] [.int (iI (bI (0 ≤ u ∧ u < al 0)))]
    refine r_if_ne 16 22 hE dX9_join_13 rfl (by decide) (bI_rg _) (fun c13 => ?_) (fun c13 => ?_)
    · skip
      have c13 := bI1 c13
      have hl_u := hM.2 u c13.1 c13.2
      refine r_aload_n 23 hE 0 dX9_join_22 rfl rfl rfl ?_
      refine r_callV 26 hE [0, 1] [] [(wMo g mo mst mac mmk mr mrd mrm mcm mtp msz mtk mbg men mls mvl mft mfp mfk mdp mto), (wMAll g mo al)] [] 0 9 ok9 [] (c_X9_many) dX9_join_23 rfl rfl wd_1217 wd_1219 ws_52 wd_12 wd_1220 ne_X9 np_X9_many (Nat.le_of_ble_eq_true rfl)  (by decide) (by decide) rfl (Nat.le_of_ble_eq_true rfl) rfl rfl rfl rfl (by decide) rfl (fun v1 f1 hp => ?_)
      obtain ⟨rfl, rfl⟩ := hp
      show G g E _ _ _ [(wMo g mo mst mac mmk mr mrd mrm mcm mtp msz mtk mbg men mls mvl mft mfp mfk mdp mto), (wMAll g mo al)] 26 [(0, .ref (mo 0)), (1, .int (iI t)), (2, .int (iI u))] [.int (iI (al 0))]
      refine r_bipush 28 hE dX9_join_26 rfl (by decide) ?_
      refine r_icmp_ne 31 37 hE dX9_join_28 rfl (by decide) (by omega) (fun c28 => ?_) (fun c28 => ?_)
      · skip
        refine r_aload_n 38 hE 0 dX9_join_37 rfl rfl rfl ?_
        refine r_iload_n 39 hE 1 dX9_join_38 rfl rfl rfl ?_
        refine r_callV 42 hE [0, 1] [] [(wMo g mo mst mac mmk mr mrd mrm mcm mtp msz mtk mbg men mls mvl mft mfp mfk mdp mto), (wMAll g mo al)] [] 0 9 ok9 [] (c_X9_sizeOf (by omega)) dX9_join_39 rfl rfl wd_1273 wd_1275 ws_65 wd_12 wd_1276 ne_X9 np_X9_sizeOf (Nat.le_of_ble_eq_true rfl)  (by decide) (by decide) rfl (Nat.le_of_ble_eq_true rfl) rfl rfl rfl rfl (by decide) rfl (fun v1 f1 hp => ?_)
        obtain ⟨rfl, rfl⟩ := hp
        show G g E _ _ _ [(wMo g mo mst mac mmk mr mrd mrm mcm mtp msz mtk mbg men mls mvl mft mfp mfk mdp mto), (wMAll g mo al)] 42 [(0, .ref (mo 0)), (1, .int (iI t)), (2, .int (iI u))] [.int (iI (mN al t))]
        refine r_aload_n 43 hE 0 dX9_join_42 rfl rfl rfl ?_
        refine r_iload_n 44 hE 2 dX9_join_43 rfl rfl rfl ?_
        refine r_callV 47 hE [0, 1] [] [(wMo g mo mst mac mmk mr mrd mrm mcm mtp msz mtk mbg men mls mvl mft mfp mfk mdp mto), (wMAll g mo al)] [] 0 9 ok9 [.int (iI (mN al t))] (c_X9_sizeOf (by omega)) dX9_join_44 rfl rfl wd_1273 wd_1275 ws_65 wd_12 wd_1276 ne_X9 np_X9_sizeOf (Nat.le_of_ble_eq_true rfl)  (by decide) (by decide) rfl (Nat.le_of_ble_eq_true rfl) rfl rfl rfl rfl (by decide) rfl (fun v1 f1 hp => ?_)
        obtain ⟨rfl, rfl⟩ := hp
        show G g E _ _ _ [(wMo g mo mst mac mmk mr mrd mrm mcm mtp msz mtk mbg men mls mvl mft mfp mfk mdp mto), (wMAll g mo al)] 47 [(0, .ref (mo 0)), (1, .int (iI t)), (2, .int (iI u))] [.int (iI (mN al u)), .int (iI (mN al t))]
        refine r_iadd 48 hE ((mN al t) + (mN al u)) dX9_join_47 rfl rfl ?_
        refine r_sipush 51 hE dX9_join_48 rfl (by decide) ?_
        refine r_icmp_le 54 61 hE dX9_join_51 rfl (by decide) (by omega) (fun c51 => ?_) (fun c51 => ?_)
        · skip
          exact absurd (by unfold jnF; (repeat (first | rw [if_pos (by omega)] | rw [if_neg (by omega)]))) hno
        · skip
          refine r_aload_n 55 hE 0 dX9_join_54 rfl rfl rfl ?_
          refine r_bipush 57 hE dX9_join_55 rfl (by decide) ?_
          refine r_callV 60 hE [0] [1] [(wMo g mo mst mac mmk mr mrd mrm mcm mtp msz mtk mbg men mls mvl mft mfp mfk mdp mto)] [(wMAll g mo al)] 0 9 ok9 [] (c_X9_refuse) dX9_join_57 rfl rfl wd_1186 wd_1188 ws_47 wd_12 wd_1189 ne_X9 np_X9_refuse (Nat.le_of_ble_eq_true rfl)  (by decide) (by decide) rfl (Nat.le_of_ble_eq_true rfl) rfl rfl rfl rfl (by decide) rfl (fun v1 f1 hp => ?_)
          obtain ⟨rfl, rfl⟩ := hp
          show G g E _ _ _ [(wMo g mo 6 mac mmk mr mrd mrm mcm mtp msz mtk mbg men mls mvl mft mfp mfk mdp mto), (wMAll g mo al)] 60 [(0, .ref (mo 0)), (1, .int (iI t)), (2, .int (iI u))] [.int (iI (-1))]
          refine r_ireturn hE hR [(wMo g mo 6 mac mmk mr mrd mrm mcm mtp msz mtk mbg men mls mvl mft mfp mfk mdp mto), (wMAll g mo al)] dX9_join_60 (Nat.le_of_ble_eq_true rfl) (Nat.le_of_ble_eq_true rfl) rfl ?_
          exact ⟨rfl, by unfold jnF; (repeat (first | rw [if_pos (by omega)] | rw [if_neg (by omega)]))⟩
      · skip
        refine r_aload_n 32 hE 0 dX9_join_31 rfl rfl rfl ?_
        refine r_iconst 33 hE dX9_join_32 rfl ?_
        refine r_callV 36 hE [0] [1] [(wMo g mo mst mac mmk mr mrd mrm mcm mtp msz mtk mbg men mls mvl mft mfp mfk mdp mto)] [(wMAll g mo al)] 0 9 ok9 [] (c_X9_refuse) dX9_join_33 rfl rfl wd_1186 wd_1188 ws_47 wd_12 wd_1189 ne_X9 np_X9_refuse (Nat.le_of_ble_eq_true rfl)  (by decide) (by decide) rfl (Nat.le_of_ble_eq_true rfl) rfl rfl rfl rfl (by decide) rfl (fun v1 f1 hp => ?_)
        obtain ⟨rfl, rfl⟩ := hp
        show G g E _ _ _ [(wMo g mo 3 mac mmk mr mrd mrm mcm mtp msz mtk mbg men mls mvl mft mfp mfk mdp mto), (wMAll g mo al)] 36 [(0, .ref (mo 0)), (1, .int (iI t)), (2, .int (iI u))] [.int (iI (-1))]
        refine r_ireturn hE hR [(wMo g mo 3 mac mmk mr mrd mrm mcm mtp msz mtk mbg men mls mvl mft mfp mfk mdp mto), (wMAll g mo al)] dX9_join_36 (Nat.le_of_ble_eq_true rfl) (Nat.le_of_ble_eq_true rfl) rfl ?_
        exact ⟨rfl, by unfold jnF; (repeat (first | rw [if_pos (by omega)] | rw [if_neg (by omega)]))⟩
    · skip
      have c13 := bI0 c13
      refine r_aload_n 17 hE 0 dX9_join_16 rfl rfl rfl ?_
      refine r_iconst 18 hE dX9_join_17 rfl ?_
      refine r_callV 21 hE [0] [1] [(wMo g mo mst mac mmk mr mrd mrm mcm mtp msz mtk mbg men mls mvl mft mfp mfk mdp mto)] [(wMAll g mo al)] 0 9 ok9 [] (c_X9_refuse) dX9_join_18 rfl rfl wd_1186 wd_1188 ws_47 wd_12 wd_1189 ne_X9 np_X9_refuse (Nat.le_of_ble_eq_true rfl)  (by decide) (by decide) rfl (Nat.le_of_ble_eq_true rfl) rfl rfl rfl rfl (by decide) rfl (fun v1 f1 hp => ?_)
      obtain ⟨rfl, rfl⟩ := hp
      show G g E _ _ _ [(wMo g mo 2 mac mmk mr mrd mrm mcm mtp msz mtk mbg men mls mvl mft mfp mfk mdp mto), (wMAll g mo al)] 21 [(0, .ref (mo 0)), (1, .int (iI t)), (2, .int (iI u))] [.int (iI (-1))]
      refine r_ireturn hE hR [(wMo g mo 2 mac mmk mr mrd mrm mcm mtp msz mtk mbg men mls mvl mft mfp mfk mdp mto), (wMAll g mo al)] dX9_join_21 (Nat.le_of_ble_eq_true rfl) (Nat.le_of_ble_eq_true rfl) rfl ?_
      exact ⟨rfl, by unfold jnF; (repeat (first | rw [if_pos (by omega)] | rw [if_neg (by omega)]))⟩
