set_option maxHeartbeats 4000000 in
set_option maxRecDepth 100000 in
theorem c_X9_of {g : Gm} {mo : Nat → Nat} {mst mac mmk mr mrd mrm mcm mtp msz mtk mbg men mls mvl mft mfp mfk mdp mto : Int} {al : Int → Int} {kd on tw sg le de so : Int → Int} {R : Int → Rl} {ro : Int → Int} {cm nu fa oft hp ha : Int → Int} {t v : Int} (hM : MTx al) (hr_t : -2147483648 ≤ t ∧ t ≤ 2147483647) (hr_v : -2147483648 ≤ v ∧ v ≤ 2147483647) : Ct g 6 0 0 yX9_of cX9_of 4 (some .int) [.ref (mo 0), .int (iI t), .int (iI v)] [(wMo g mo mst mac mmk mr mrd mrm mcm mtp msz mtk mbg men mls mvl mft mfp mfk mdp mto), (wMTab g mo kd on tw sg le de so), (wMRow g mo ro), (wMAll g mo al), (wMCom g mo cm), (wMNum g mo nu fa oft), (wMHea g mo hp ha)] (fun v_ w_ => ∃ kd9 : Int → Int, ∃ on9 : Int → Int, ∃ tw9 : Int → Int, ∃ sg9 : Int → Int, ∃ le9 : Int → Int, ∃ de9 : Int → Int, ∃ so9 : Int → Int, ∃ mr9 : Int, ∃ R9 : Int → Rl, ∃ ro9 : Int → Int, ∃ mrd9 : Int, ∃ mrm9 : Int, ∃ nu9 : Int → Int, ∃ fa9 : Int → Int, ∃ of9 : Int → Int, ∃ cm9 : Int → Int, ∃ hp9 : Int → Int, ∃ ha9 : Int → Int, ∃ wc9 : Int, ∃ r9 : Int, ∃ s9 : Int, v_ = some (.int (iI r9)) ∧ w_ = [(wMo g mo s9 mac mmk mr9 mrd9 mrm9 wc9 mtp msz mtk mbg men mls mvl mft mfp mfk mdp mto), (wMTab g mo kd9 on9 tw9 sg9 le9 de9 so9), (wMRow g mo ro9), (wMAll g mo al), (wMCom g mo cm9), (wMNum g mo nu9 fa9 of9), (wMHea g mo hp9 ha9)] ∧ (QOf (mF al) (mN al) (al 0) t v r9 s9)) := by
  refine Ct.of (by decide) (Nat.le_of_ble_eq_true rfl) (lv := [(0, .ref (mo 0)), (1, .int (iI t)), (2, .int (iI v))]) rfl ?_
  intro E hE hR hnm
  have hc := hM.1
  refine r_iload_n 1 hE 2 dX9_of_0 rfl rfl rfl ?_
  refine r_iconst 2 hE dX9_of_1 rfl ?_
  refine r_bipush 4 hE dX9_of_2 rfl (by decide) ?_
  refine r_callS 7 hE [] [0, 1, 2, 3, 4, 5, 6] [] [(wMo g mo mst mac mmk mr mrd mrm mcm mtp msz mtk mbg men mls mvl mft mfp mfk mdp mto), (wMTab g mo kd on tw sg le de so), (wMRow g mo ro), (wMAll g mo al), (wMCom g mo cm), (wMNum g mo nu fa oft), (wMHea g mo hp ha)] [] (c_X9_isFrom (by omega) (by omega) (by omega)) dX9_of_4 rfl wd_1183 wd_1184 wd_12 wd_1185 ne_X9 np_X9_isFrom (Nat.le_of_ble_eq_true rfl)  (by decide) (by decide) rfl (Nat.le_of_ble_eq_true rfl) rfl rfl rfl rfl (by decide) (fun v1 f1 hp => ?_)
  obtain ⟨rfl, rfl⟩ := hp
  show G g E _ _ _ [(wMo g mo mst mac mmk mr mrd mrm mcm mtp msz mtk mbg men mls mvl mft mfp mfk mdp mto), (wMTab g mo kd on tw sg le de so), (wMRow g mo ro), (wMAll g mo al), (wMCom g mo cm), (wMNum g mo nu fa oft), (wMHea g mo hp ha)] 7 [(0, .ref (mo 0)), (1, .int (iI t)), (2, .int (iI v))] [.int (iI (bI (0 ≤ v ∧ v ≤ 6)))]
  refine r_if_ne 10 16 hE dX9_of_7 rfl (by decide) (bI_rg _) (fun c7 => ?_) (fun c7 => ?_)
  · skip
    have c7 := bI1 c7
    refine r_aload_n 17 hE 0 dX9_of_16 rfl rfl rfl ?_
    refine r_iload_n 18 hE 1 dX9_of_17 rfl rfl rfl ?_
    refine r_callV 21 hE [0, 3] [1, 2, 4, 5, 6] [(wMo g mo mst mac mmk mr mrd mrm mcm mtp msz mtk mbg men mls mvl mft mfp mfk mdp mto), (wMAll g mo al)] [(wMTab g mo kd on tw sg le de so), (wMRow g mo ro), (wMCom g mo cm), (wMNum g mo nu fa oft), (wMHea g mo hp ha)] 0 9 ok9 [] (c_X9_isText (by omega) (by omega)) dX9_of_18 rfl rfl wd_1346 wd_1348 ws_80 wd_12 wd_1349 ne_X9 np_X9_isText (Nat.le_of_ble_eq_true rfl)  (by decide) (by decide) rfl (Nat.le_of_ble_eq_true rfl) rfl rfl rfl rfl (by decide) rfl (fun v1 f1 hp => ?_)
    obtain ⟨rfl, rfl⟩ := hp
    show G g E _ _ _ [(wMo g mo mst mac mmk mr mrd mrm mcm mtp msz mtk mbg men mls mvl mft mfp mfk mdp mto), (wMAll g mo al), (wMTab g mo kd on tw sg le de so), (wMRow g mo ro), (wMCom g mo cm), (wMNum g mo nu fa oft), (wMHea g mo hp ha)] 21 [(0, .ref (mo 0)), (1, .int (iI t)), (2, .int (iI v))] [.int (iI (bI (0 ≤ t ∧ t < al 0)))]
    refine r_if_ne 24 30 hE dX9_of_21 rfl (by decide) (bI_rg _) (fun c21 => ?_) (fun c21 => ?_)
    · skip
      have c21 := bI1 c21
      have hl_t := hM.2 t c21.1 c21.2
      refine r_aload_n 31 hE 0 dX9_of_30 rfl rfl rfl ?_
      refine r_iload_n 32 hE 1 dX9_of_31 rfl rfl rfl ?_
      refine r_callV 35 hE [0, 2, 3, 1, 4, 5, 6] [] [(wMo g mo mst mac mmk mr mrd mrm mcm mtp msz mtk mbg men mls mvl mft mfp mfk mdp mto), (wMTab g mo kd on tw sg le de so), (wMRow g mo ro), (wMAll g mo al), (wMCom g mo cm), (wMNum g mo nu fa oft), (wMHea g mo hp ha)] [] 0 9 ok9 [] (c_X9_opens (R := R) (hM) (by omega)) dX9_of_32 rfl rfl wd_1431 wd_1433 ws_89 wd_12 wd_1434 ne_X9 np_X9_opens (Nat.le_of_ble_eq_true rfl)  (by decide) (by decide) rfl (Nat.le_of_ble_eq_true rfl) rfl rfl rfl rfl (by decide) rfl (fun v1 f1 hp => ?_)
      obtain ⟨kd9_32, on9_32, tw9_32, sg9_32, le9_32, de9_32, so9_32, mr9_32, R9_32, ro9_32, mrd9_32, mrm9_32, nu9_32, fa9_32, of9_32, cm9_32, hp9_32, ha9_32, wc9_32, r_32, rfl, rfl, h32_0, h32_1, h32_2, h32_3, h32_4, h32_5, h32_6⟩ := hp
      show G g E _ _ _ [(wMo g mo mst mac mmk mr9_32 mrd9_32 mrm9_32 wc9_32 mtp msz mtk mbg men mls mvl mft mfp mfk mdp mto), (wMTab g mo kd9_32 on9_32 tw9_32 sg9_32 le9_32 de9_32 so9_32), (wMRow g mo ro9_32), (wMAll g mo al), (wMCom g mo cm9_32), (wMNum g mo nu9_32 fa9_32 of9_32), (wMHea g mo hp9_32 ha9_32)] 35 [(0, .ref (mo 0)), (1, .int (iI t)), (2, .int (iI v))] [.int (iI r_32)]
      have hcn := h32_0.1
      have hxr := h32_0.2.1 _ h32_1.1 h32_1.2
      refine r_istore_n 36 hE [(3, .int (iI r_32)), (0, .ref (mo 0)), (1, .int (iI t)), (2, .int (iI v))] dX9_of_35 rfl rfl (by decide) rfl ?_
      refine r_iload_n 37 hE 3 dX9_of_36 rfl rfl rfl ?_
      by_cases sw37 : (v : Int) = 0
      · skip
        refine r_tsIn 76 hE 0 dX9_of_37 (sw37) (by decide) rfl (by decide) ?_
        refine r_aload_n 77 hE 1 dX9_of_76 rfl rfl rfl ?_
        refine r_aload_n 78 hE 1 dX9_of_77 rfl rfl rfl ?_
        refine r_iload_n 79 hE 2 dX9_of_78 rfl rfl rfl ?_
        refine r_callV 82 hE [0, 3] [1, 2, 4, 5, 6] [(wMo g mo mst mac mmk mr9_32 mrd9_32 mrm9_32 wc9_32 mtp msz mtk mbg men mls mvl mft mfp mfk mdp mto), (wMAll g mo al)] [(wMTab g mo kd9_32 on9_32 tw9_32 sg9_32 le9_32 de9_32 so9_32), (wMRow g mo ro9_32), (wMCom g mo cm9_32), (wMNum g mo nu9_32 fa9_32 of9_32), (wMHea g mo hp9_32 ha9_32)] 0 9 ok9 [.ref (mo 0)] (c_X9_sizeOf (by omega)) dX9_of_79 rfl rfl wd_1273 wd_1275 ws_65 wd_12 wd_1276 ne_X9 np_X9_sizeOf (Nat.le_of_ble_eq_true rfl)  (by decide) (by decide) rfl (Nat.le_of_ble_eq_true rfl) rfl rfl rfl rfl (by decide) rfl (fun v1 f1 hp => ?_)
        obtain ⟨rfl, rfl⟩ := hp
        show G g E _ _ _ [(wMo g mo mst mac mmk mr9_32 mrd9_32 mrm9_32 wc9_32 mtp msz mtk mbg men mls mvl mft mfp mfk mdp mto), (wMAll g mo al), (wMTab g mo kd9_32 on9_32 tw9_32 sg9_32 le9_32 de9_32 so9_32), (wMRow g mo ro9_32), (wMCom g mo cm9_32), (wMNum g mo nu9_32 fa9_32 of9_32), (wMHea g mo hp9_32 ha9_32)] 82 [(3, .int (iI r_32)), (0, .ref (mo 0)), (1, .int (iI t)), (2, .int (iI v))] [.int (iI (mN al t)), .ref (mo 0)]
        refine r_callV 85 hE [0] [1, 2, 3, 4, 5, 6] [(wMo g mo mst mac mmk mr9_32 mrd9_32 mrm9_32 wc9_32 mtp msz mtk mbg men mls mvl mft mfp mfk mdp mto)] [(wMAll g mo al), (wMTab g mo kd9_32 on9_32 tw9_32 sg9_32 le9_32 de9_32 so9_32), (wMRow g mo ro9_32), (wMCom g mo cm9_32), (wMNum g mo nu9_32 fa9_32 of9_32), (wMHea g mo hp9_32 ha9_32)] 0 9 ok9 [] (c_X9_gives) dX9_of_82 rfl rfl wd_1334 wd_1336 ws_79 wd_12 wd_1337 ne_X9 np_X9_gives (Nat.le_of_ble_eq_true rfl)  (by decide) (by decide) rfl (Nat.le_of_ble_eq_true rfl) rfl rfl rfl rfl (by decide) rfl (fun v1 f1 hp => ?_)
        obtain ⟨rfl, rfl⟩ := hp
        show G g E _ _ _ [(wMo g mo 0 mac mmk mr9_32 mrd9_32 mrm9_32 wc9_32 mtp msz mtk mbg men mls mvl mft mfp mfk mdp mto), (wMAll g mo al), (wMTab g mo kd9_32 on9_32 tw9_32 sg9_32 le9_32 de9_32 so9_32), (wMRow g mo ro9_32), (wMCom g mo cm9_32), (wMNum g mo nu9_32 fa9_32 of9_32), (wMHea g mo hp9_32 ha9_32)] 85 [(3, .int (iI r_32)), (0, .ref (mo 0)), (1, .int (iI t)), (2, .int (iI v))] [.int (iI (mN al t))]
        refine G.to (fs' := [(wMo g mo 0 mac mmk mr9_32 mrd9_32 mrm9_32 wc9_32 mtp msz mtk mbg men mls mvl mft mfp mfk mdp mto), (wMTab g mo kd9_32 on9_32 tw9_32 sg9_32 le9_32 de9_32 so9_32), (wMRow g mo ro9_32), (wMAll g mo al), (wMCom g mo cm9_32), (wMNum g mo nu9_32 fa9_32 of9_32), (wMHea g mo hp9_32 ha9_32)]) [0, 2, 3, 1, 4, 5, 6] [0, 1, 2, 3] rfl rfl rfl ?_
        refine r_ireturn hE hR [(wMo g mo 0 mac mmk mr9_32 mrd9_32 mrm9_32 wc9_32 mtp msz mtk mbg men mls mvl mft mfp mfk mdp mto), (wMTab g mo kd9_32 on9_32 tw9_32 sg9_32 le9_32 de9_32 so9_32), (wMRow g mo ro9_32), (wMAll g mo al), (wMCom g mo cm9_32), (wMNum g mo nu9_32 fa9_32 of9_32), (wMHea g mo hp9_32 ha9_32)] dX9_of_85 (Nat.le_of_ble_eq_true rfl) (Nat.le_of_ble_eq_true rfl) rfl ?_
        exact ⟨kd9_32, on9_32, tw9_32, sg9_32, le9_32, de9_32, so9_32, mr9_32, R9_32, ro9_32, mrd9_32, mrm9_32, nu9_32, fa9_32, of9_32, cm9_32, hp9_32, ha9_32, wc9_32, _, _, rfl, rfl, Or.inr (Or.inr ⟨by omega, c21, ⟨R9_32 r_32, mrd9_32, h32_2, Or.inl ⟨by omega, rfl⟩⟩, rfl⟩)⟩
      have sw37_0 := sw37
      by_cases sw37 : (v : Int) = 1
      · skip
        refine r_tsIn 86 hE 1 dX9_of_37 (sw37) (by decide) rfl (by decide) ?_
        refine r_aload_n 87 hE 1 dX9_of_86 rfl rfl rfl ?_
        refine r_aload_n 88 hE 1 dX9_of_87 rfl rfl rfl ?_
        refine r_get 91 hE 0 0 ok9 22 dX9_of_88 rfl wd_1074 rfl rfl (by decide) rfl ?_
        refine r_callV 94 hE [0] [1, 2, 3, 4, 5, 6] [(wMo g mo mst mac mmk mr9_32 mrd9_32 mrm9_32 wc9_32 mtp msz mtk mbg men mls mvl mft mfp mfk mdp mto)] [(wMTab g mo kd9_32 on9_32 tw9_32 sg9_32 le9_32 de9_32 so9_32), (wMRow g mo ro9_32), (wMAll g mo al), (wMCom g mo cm9_32), (wMNum g mo nu9_32 fa9_32 of9_32), (wMHea g mo hp9_32 ha9_32)] 0 9 ok9 [] (c_X9_gives) dX9_of_91 rfl rfl wd_1334 wd_1336 ws_79 wd_12 wd_1337 ne_X9 np_X9_gives (Nat.le_of_ble_eq_true rfl)  (by decide) (by decide) rfl (Nat.le_of_ble_eq_true rfl) rfl rfl rfl rfl (by decide) rfl (fun v1 f1 hp => ?_)
        obtain ⟨rfl, rfl⟩ := hp
        show G g E _ _ _ [(wMo g mo 0 mac mmk mr9_32 mrd9_32 mrm9_32 wc9_32 mtp msz mtk mbg men mls mvl mft mfp mfk mdp mto), (wMTab g mo kd9_32 on9_32 tw9_32 sg9_32 le9_32 de9_32 so9_32), (wMRow g mo ro9_32), (wMAll g mo al), (wMCom g mo cm9_32), (wMNum g mo nu9_32 fa9_32 of9_32), (wMHea g mo hp9_32 ha9_32)] 94 [(3, .int (iI r_32)), (0, .ref (mo 0)), (1, .int (iI t)), (2, .int (iI v))] [.int (iI wc9_32)]
        refine r_ireturn hE hR [(wMo g mo 0 mac mmk mr9_32 mrd9_32 mrm9_32 wc9_32 mtp msz mtk mbg men mls mvl mft mfp mfk mdp mto), (wMTab g mo kd9_32 on9_32 tw9_32 sg9_32 le9_32 de9_32 so9_32), (wMRow g mo ro9_32), (wMAll g mo al), (wMCom g mo cm9_32), (wMNum g mo nu9_32 fa9_32 of9_32), (wMHea g mo hp9_32 ha9_32)] dX9_of_94 (Nat.le_of_ble_eq_true rfl) (Nat.le_of_ble_eq_true rfl) rfl ?_
        exact ⟨kd9_32, on9_32, tw9_32, sg9_32, le9_32, de9_32, so9_32, mr9_32, R9_32, ro9_32, mrd9_32, mrm9_32, nu9_32, fa9_32, of9_32, cm9_32, hp9_32, ha9_32, wc9_32, _, _, rfl, rfl, Or.inr (Or.inr ⟨by omega, c21, ⟨R9_32 r_32, mrd9_32, h32_2, Or.inr (Or.inl ⟨by omega, h32_3.1⟩)⟩, rfl⟩)⟩
      have sw37_1 := sw37
      by_cases sw37 : (v : Int) = 2
      · skip
        refine r_tsIn 95 hE 2 dX9_of_37 (sw37) (by decide) rfl (by decide) ?_
        refine r_aload_n 96 hE 1 dX9_of_95 rfl rfl rfl ?_
        refine r_aload_n 97 hE 1 dX9_of_96 rfl rfl rfl ?_
        refine r_get 100 hE 0 0 ok9 10 dX9_of_97 rfl wd_1062 rfl rfl (by decide) rfl ?_
        refine r_iload_n 101 hE 0 dX9_of_100 rfl rfl rfl ?_
        refine r_iald 102 hE 1 5 dX9_of_101 rfl rfl rfl (by omega) ?_
        refine r_callV 105 hE [0] [1, 2, 3, 4, 5, 6] [(wMo g mo mst mac mmk mr9_32 mrd9_32 mrm9_32 wc9_32 mtp msz mtk mbg men mls mvl mft mfp mfk mdp mto)] [(wMTab g mo kd9_32 on9_32 tw9_32 sg9_32 le9_32 de9_32 so9_32), (wMRow g mo ro9_32), (wMAll g mo al), (wMCom g mo cm9_32), (wMNum g mo nu9_32 fa9_32 of9_32), (wMHea g mo hp9_32 ha9_32)] 0 9 ok9 [] (c_X9_gives) dX9_of_102 rfl rfl wd_1334 wd_1336 ws_79 wd_12 wd_1337 ne_X9 np_X9_gives (Nat.le_of_ble_eq_true rfl)  (by decide) (by decide) rfl (Nat.le_of_ble_eq_true rfl) rfl rfl rfl rfl (by decide) rfl (fun v1 f1 hp => ?_)
        obtain ⟨rfl, rfl⟩ := hp
        show G g E _ _ _ [(wMo g mo 0 mac mmk mr9_32 mrd9_32 mrm9_32 wc9_32 mtp msz mtk mbg men mls mvl mft mfp mfk mdp mto), (wMTab g mo kd9_32 on9_32 tw9_32 sg9_32 le9_32 de9_32 so9_32), (wMRow g mo ro9_32), (wMAll g mo al), (wMCom g mo cm9_32), (wMNum g mo nu9_32 fa9_32 of9_32), (wMHea g mo hp9_32 ha9_32)] 105 [(3, .int (iI r_32)), (0, .ref (mo 0)), (1, .int (iI t)), (2, .int (iI v))] [.int (iI (de9_32 r_32))]
        refine r_ireturn hE hR [(wMo g mo 0 mac mmk mr9_32 mrd9_32 mrm9_32 wc9_32 mtp msz mtk mbg men mls mvl mft mfp mfk mdp mto), (wMTab g mo kd9_32 on9_32 tw9_32 sg9_32 le9_32 de9_32 so9_32), (wMRow g mo ro9_32), (wMAll g mo al), (wMCom g mo cm9_32), (wMNum g mo nu9_32 fa9_32 of9_32), (wMHea g mo hp9_32 ha9_32)] dX9_of_105 (Nat.le_of_ble_eq_true rfl) (Nat.le_of_ble_eq_true rfl) rfl ?_
        exact ⟨kd9_32, on9_32, tw9_32, sg9_32, le9_32, de9_32, so9_32, mr9_32, R9_32, ro9_32, mrd9_32, mrm9_32, nu9_32, fa9_32, of9_32, cm9_32, hp9_32, ha9_32, wc9_32, _, _, rfl, rfl, Or.inr (Or.inr ⟨by omega, c21, ⟨R9_32 r_32, mrd9_32, h32_2, Or.inr (Or.inr (Or.inl ⟨by omega, hxr.2.2.2.1⟩))⟩, rfl⟩)⟩
      have sw37_2 := sw37
      by_cases sw37 : (v : Int) = 3
      · skip
        refine r_tsIn 106 hE 3 dX9_of_37 (sw37) (by decide) rfl (by decide) ?_
        refine r_aload_n 107 hE 1 dX9_of_106 rfl rfl rfl ?_
        refine r_aload_n 108 hE 1 dX9_of_107 rfl rfl rfl ?_
        refine r_get 111 hE 0 0 ok9 13 dX9_of_108 rfl wd_1065 rfl rfl (by decide) rfl ?_
        refine r_callV 114 hE [0] [1, 2, 3, 4, 5, 6] [(wMo g mo mst mac mmk mr9_32 mrd9_32 mrm9_32 wc9_32 mtp msz mtk mbg men mls mvl mft mfp mfk mdp mto)] [(wMTab g mo kd9_32 on9_32 tw9_32 sg9_32 le9_32 de9_32 so9_32), (wMRow g mo ro9_32), (wMAll g mo al), (wMCom g mo cm9_32), (wMNum g mo nu9_32 fa9_32 of9_32), (wMHea g mo hp9_32 ha9_32)] 0 9 ok9 [] (c_X9_gives) dX9_of_111 rfl rfl wd_1334 wd_1336 ws_79 wd_12 wd_1337 ne_X9 np_X9_gives (Nat.le_of_ble_eq_true rfl)  (by decide) (by decide) rfl (Nat.le_of_ble_eq_true rfl) rfl rfl rfl rfl (by decide) rfl (fun v1 f1 hp => ?_)
        obtain ⟨rfl, rfl⟩ := hp
        show G g E _ _ _ [(wMo g mo 0 mac mmk mr9_32 mrd9_32 mrm9_32 wc9_32 mtp msz mtk mbg men mls mvl mft mfp mfk mdp mto), (wMTab g mo kd9_32 on9_32 tw9_32 sg9_32 le9_32 de9_32 so9_32), (wMRow g mo ro9_32), (wMAll g mo al), (wMCom g mo cm9_32), (wMNum g mo nu9_32 fa9_32 of9_32), (wMHea g mo hp9_32 ha9_32)] 114 [(3, .int (iI r_32)), (0, .ref (mo 0)), (1, .int (iI t)), (2, .int (iI v))] [.int (iI mrd9_32)]
        refine r_ireturn hE hR [(wMo g mo 0 mac mmk mr9_32 mrd9_32 mrm9_32 wc9_32 mtp msz mtk mbg men mls mvl mft mfp mfk mdp mto), (wMTab g mo kd9_32 on9_32 tw9_32 sg9_32 le9_32 de9_32 so9_32), (wMRow g mo ro9_32), (wMAll g mo al), (wMCom g mo cm9_32), (wMNum g mo nu9_32 fa9_32 of9_32), (wMHea g mo hp9_32 ha9_32)] dX9_of_114 (Nat.le_of_ble_eq_true rfl) (Nat.le_of_ble_eq_true rfl) rfl ?_
        exact ⟨kd9_32, on9_32, tw9_32, sg9_32, le9_32, de9_32, so9_32, mr9_32, R9_32, ro9_32, mrd9_32, mrm9_32, nu9_32, fa9_32, of9_32, cm9_32, hp9_32, ha9_32, wc9_32, _, _, rfl, rfl, Or.inr (Or.inr ⟨by omega, c21, ⟨R9_32 r_32, mrd9_32, h32_2, Or.inr (Or.inr (Or.inr (Or.inl ⟨by omega, rfl⟩)))⟩, rfl⟩)⟩
      have sw37_3 := sw37
      by_cases sw37 : (v : Int) = 4
      · skip
        refine r_tsIn 115 hE 4 dX9_of_37 (sw37) (by decide) rfl (by decide) ?_
        refine r_aload_n 116 hE 1 dX9_of_115 rfl rfl rfl ?_
        refine r_aload_n 117 hE 1 dX9_of_116 rfl rfl rfl ?_
        refine r_get 120 hE 0 0 ok9 8 dX9_of_117 rfl wd_1060 rfl rfl (by decide) rfl ?_
        refine r_iload_n 121 hE 0 dX9_of_120 rfl rfl rfl ?_
        refine r_iald 122 hE 1 3 dX9_of_121 rfl rfl rfl (by omega) ?_
        refine r_callV 125 hE [0] [1, 2, 3, 4, 5, 6] [(wMo g mo mst mac mmk mr9_32 mrd9_32 mrm9_32 wc9_32 mtp msz mtk mbg men mls mvl mft mfp mfk mdp mto)] [(wMTab g mo kd9_32 on9_32 tw9_32 sg9_32 le9_32 de9_32 so9_32), (wMRow g mo ro9_32), (wMAll g mo al), (wMCom g mo cm9_32), (wMNum g mo nu9_32 fa9_32 of9_32), (wMHea g mo hp9_32 ha9_32)] 0 9 ok9 [] (c_X9_gives) dX9_of_122 rfl rfl wd_1334 wd_1336 ws_79 wd_12 wd_1337 ne_X9 np_X9_gives (Nat.le_of_ble_eq_true rfl)  (by decide) (by decide) rfl (Nat.le_of_ble_eq_true rfl) rfl rfl rfl rfl (by decide) rfl (fun v1 f1 hp => ?_)
        obtain ⟨rfl, rfl⟩ := hp
        show G g E _ _ _ [(wMo g mo 0 mac mmk mr9_32 mrd9_32 mrm9_32 wc9_32 mtp msz mtk mbg men mls mvl mft mfp mfk mdp mto), (wMTab g mo kd9_32 on9_32 tw9_32 sg9_32 le9_32 de9_32 so9_32), (wMRow g mo ro9_32), (wMAll g mo al), (wMCom g mo cm9_32), (wMNum g mo nu9_32 fa9_32 of9_32), (wMHea g mo hp9_32 ha9_32)] 125 [(3, .int (iI r_32)), (0, .ref (mo 0)), (1, .int (iI t)), (2, .int (iI v))] [.int (iI (sg9_32 r_32))]
        refine r_ireturn hE hR [(wMo g mo 0 mac mmk mr9_32 mrd9_32 mrm9_32 wc9_32 mtp msz mtk mbg men mls mvl mft mfp mfk mdp mto), (wMTab g mo kd9_32 on9_32 tw9_32 sg9_32 le9_32 de9_32 so9_32), (wMRow g mo ro9_32), (wMAll g mo al), (wMCom g mo cm9_32), (wMNum g mo nu9_32 fa9_32 of9_32), (wMHea g mo hp9_32 ha9_32)] dX9_of_125 (Nat.le_of_ble_eq_true rfl) (Nat.le_of_ble_eq_true rfl) rfl ?_
        exact ⟨kd9_32, on9_32, tw9_32, sg9_32, le9_32, de9_32, so9_32, mr9_32, R9_32, ro9_32, mrd9_32, mrm9_32, nu9_32, fa9_32, of9_32, cm9_32, hp9_32, ha9_32, wc9_32, _, _, rfl, rfl, Or.inr (Or.inr ⟨by omega, c21, ⟨R9_32 r_32, mrd9_32, h32_2, Or.inr (Or.inr (Or.inr (Or.inr (Or.inl ⟨by omega, hxr.2.1⟩))))⟩, rfl⟩)⟩
      have sw37_4 := sw37
      by_cases sw37 : (v : Int) = 5
      · skip
        refine r_tsIn 126 hE 5 dX9_of_37 (sw37) (by decide) rfl (by decide) ?_
        refine r_aload_n 127 hE 1 dX9_of_126 rfl rfl rfl ?_
        refine r_aload_n 128 hE 1 dX9_of_127 rfl rfl rfl ?_
        refine r_iload_n 129 hE 2 dX9_of_128 rfl rfl rfl ?_
        refine r_callV 132 hE [0, 3] [1, 2, 4, 5, 6] [(wMo g mo mst mac mmk mr9_32 mrd9_32 mrm9_32 wc9_32 mtp msz mtk mbg men mls mvl mft mfp mfk mdp mto), (wMAll g mo al)] [(wMTab g mo kd9_32 on9_32 tw9_32 sg9_32 le9_32 de9_32 so9_32), (wMRow g mo ro9_32), (wMCom g mo cm9_32), (wMNum g mo nu9_32 fa9_32 of9_32), (wMHea g mo hp9_32 ha9_32)] 0 9 ok9 [.ref (mo 0)] (c_X9_period (hM) (by omega)) dX9_of_129 rfl rfl wd_1439 wd_1441 ws_91 wd_12 wd_1442 ne_X9 np_X9_period (Nat.le_of_ble_eq_true rfl)  (by decide) (by decide) rfl (Nat.le_of_ble_eq_true rfl) rfl rfl rfl rfl (by decide) rfl (fun v1 f1 hp => ?_)
        obtain ⟨p9_129, rfl, rfl, h129_0⟩ := hp
        show G g E _ _ _ [(wMo g mo mst mac mmk mr9_32 mrd9_32 mrm9_32 wc9_32 mtp msz mtk mbg men mls mvl mft mfp mfk mdp mto), (wMAll g mo al), (wMTab g mo kd9_32 on9_32 tw9_32 sg9_32 le9_32 de9_32 so9_32), (wMRow g mo ro9_32), (wMCom g mo cm9_32), (wMNum g mo nu9_32 fa9_32 of9_32), (wMHea g mo hp9_32 ha9_32)] 132 [(3, .int (iI r_32)), (0, .ref (mo 0)), (1, .int (iI t)), (2, .int (iI v))] [.int (iI p9_129), .ref (mo 0)]
        refine r_callV 135 hE [0] [1, 2, 3, 4, 5, 6] [(wMo g mo mst mac mmk mr9_32 mrd9_32 mrm9_32 wc9_32 mtp msz mtk mbg men mls mvl mft mfp mfk mdp mto)] [(wMAll g mo al), (wMTab g mo kd9_32 on9_32 tw9_32 sg9_32 le9_32 de9_32 so9_32), (wMRow g mo ro9_32), (wMCom g mo cm9_32), (wMNum g mo nu9_32 fa9_32 of9_32), (wMHea g mo hp9_32 ha9_32)] 0 9 ok9 [] (c_X9_gives) dX9_of_132 rfl rfl wd_1334 wd_1336 ws_79 wd_12 wd_1337 ne_X9 np_X9_gives (Nat.le_of_ble_eq_true rfl)  (by decide) (by decide) rfl (Nat.le_of_ble_eq_true rfl) rfl rfl rfl rfl (by decide) rfl (fun v1 f1 hp => ?_)
        obtain ⟨rfl, rfl⟩ := hp
        show G g E _ _ _ [(wMo g mo 0 mac mmk mr9_32 mrd9_32 mrm9_32 wc9_32 mtp msz mtk mbg men mls mvl mft mfp mfk mdp mto), (wMAll g mo al), (wMTab g mo kd9_32 on9_32 tw9_32 sg9_32 le9_32 de9_32 so9_32), (wMRow g mo ro9_32), (wMCom g mo cm9_32), (wMNum g mo nu9_32 fa9_32 of9_32), (wMHea g mo hp9_32 ha9_32)] 135 [(3, .int (iI r_32)), (0, .ref (mo 0)), (1, .int (iI t)), (2, .int (iI v))] [.int (iI p9_129)]
        refine G.to (fs' := [(wMo g mo 0 mac mmk mr9_32 mrd9_32 mrm9_32 wc9_32 mtp msz mtk mbg men mls mvl mft mfp mfk mdp mto), (wMTab g mo kd9_32 on9_32 tw9_32 sg9_32 le9_32 de9_32 so9_32), (wMRow g mo ro9_32), (wMAll g mo al), (wMCom g mo cm9_32), (wMNum g mo nu9_32 fa9_32 of9_32), (wMHea g mo hp9_32 ha9_32)]) [0, 2, 3, 1, 4, 5, 6] [0, 1, 2, 3] rfl rfl rfl ?_
        refine r_ireturn hE hR [(wMo g mo 0 mac mmk mr9_32 mrd9_32 mrm9_32 wc9_32 mtp msz mtk mbg men mls mvl mft mfp mfk mdp mto), (wMTab g mo kd9_32 on9_32 tw9_32 sg9_32 le9_32 de9_32 so9_32), (wMRow g mo ro9_32), (wMAll g mo al), (wMCom g mo cm9_32), (wMNum g mo nu9_32 fa9_32 of9_32), (wMHea g mo hp9_32 ha9_32)] dX9_of_135 (Nat.le_of_ble_eq_true rfl) (Nat.le_of_ble_eq_true rfl) rfl ?_
        exact ⟨kd9_32, on9_32, tw9_32, sg9_32, le9_32, de9_32, so9_32, mr9_32, R9_32, ro9_32, mrd9_32, mrm9_32, nu9_32, fa9_32, of9_32, cm9_32, hp9_32, ha9_32, wc9_32, _, _, rfl, rfl, Or.inr (Or.inr ⟨by omega, c21, ⟨R9_32 r_32, mrd9_32, h32_2, Or.inr (Or.inr (Or.inr (Or.inr (Or.inr (Or.inl ⟨by omega, h129_0⟩)))))⟩, rfl⟩)⟩
      have sw37_5 := sw37
      refine r_tsOut 136 hE dX9_of_37 (by omega) (by decide) ?_
      refine r_aload_n 137 hE 1 dX9_of_136 rfl rfl rfl ?_
      refine r_aload_n 138 hE 1 dX9_of_137 rfl rfl rfl ?_
      refine r_iload_n 139 hE 2 dX9_of_138 rfl rfl rfl ?_
      refine r_callV 142 hE [0, 3] [1, 2, 4, 5, 6] [(wMo g mo mst mac mmk mr9_32 mrd9_32 mrm9_32 wc9_32 mtp msz mtk mbg men mls mvl mft mfp mfk mdp mto), (wMAll g mo al)] [(wMTab g mo kd9_32 on9_32 tw9_32 sg9_32 le9_32 de9_32 so9_32), (wMRow g mo ro9_32), (wMCom g mo cm9_32), (wMNum g mo nu9_32 fa9_32 of9_32), (wMHea g mo hp9_32 ha9_32)] 0 9 ok9 [.ref (mo 0)] (c_X9_unlike (hM) (by omega)) dX9_of_139 rfl rfl wd_1443 wd_1445 ws_92 wd_12 wd_1446 ne_X9 np_X9_unlike (Nat.le_of_ble_eq_true rfl)  (by decide) (by decide) rfl (Nat.le_of_ble_eq_true rfl) rfl rfl rfl rfl (by decide) rfl (fun v1 f1 hp => ?_)
      obtain ⟨rfl, rfl⟩ := hp
      show G g E _ _ _ [(wMo g mo mst mac mmk mr9_32 mrd9_32 mrm9_32 wc9_32 mtp msz mtk mbg men mls mvl mft mfp mfk mdp mto), (wMAll g mo al), (wMTab g mo kd9_32 on9_32 tw9_32 sg9_32 le9_32 de9_32 so9_32), (wMRow g mo ro9_32), (wMCom g mo cm9_32), (wMNum g mo nu9_32 fa9_32 of9_32), (wMHea g mo hp9_32 ha9_32)] 142 [(3, .int (iI r_32)), (0, .ref (mo 0)), (1, .int (iI t)), (2, .int (iI v))] [.int (iI (unlF (mF al t) (mN al t))), .ref (mo 0)]
      refine r_callV 145 hE [0] [1, 2, 3, 4, 5, 6] [(wMo g mo mst mac mmk mr9_32 mrd9_32 mrm9_32 wc9_32 mtp msz mtk mbg men mls mvl mft mfp mfk mdp mto)] [(wMAll g mo al), (wMTab g mo kd9_32 on9_32 tw9_32 sg9_32 le9_32 de9_32 so9_32), (wMRow g mo ro9_32), (wMCom g mo cm9_32), (wMNum g mo nu9_32 fa9_32 of9_32), (wMHea g mo hp9_32 ha9_32)] 0 9 ok9 [] (c_X9_gives) dX9_of_142 rfl rfl wd_1334 wd_1336 ws_79 wd_12 wd_1337 ne_X9 np_X9_gives (Nat.le_of_ble_eq_true rfl)  (by decide) (by decide) rfl (Nat.le_of_ble_eq_true rfl) rfl rfl rfl rfl (by decide) rfl (fun v1 f1 hp => ?_)
      obtain ⟨rfl, rfl⟩ := hp
      show G g E _ _ _ [(wMo g mo 0 mac mmk mr9_32 mrd9_32 mrm9_32 wc9_32 mtp msz mtk mbg men mls mvl mft mfp mfk mdp mto), (wMAll g mo al), (wMTab g mo kd9_32 on9_32 tw9_32 sg9_32 le9_32 de9_32 so9_32), (wMRow g mo ro9_32), (wMCom g mo cm9_32), (wMNum g mo nu9_32 fa9_32 of9_32), (wMHea g mo hp9_32 ha9_32)] 145 [(3, .int (iI r_32)), (0, .ref (mo 0)), (1, .int (iI t)), (2, .int (iI v))] [.int (iI (unlF (mF al t) (mN al t)))]
      refine G.to (fs' := [(wMo g mo 0 mac mmk mr9_32 mrd9_32 mrm9_32 wc9_32 mtp msz mtk mbg men mls mvl mft mfp mfk mdp mto), (wMTab g mo kd9_32 on9_32 tw9_32 sg9_32 le9_32 de9_32 so9_32), (wMRow g mo ro9_32), (wMAll g mo al), (wMCom g mo cm9_32), (wMNum g mo nu9_32 fa9_32 of9_32), (wMHea g mo hp9_32 ha9_32)]) [0, 2, 3, 1, 4, 5, 6] [0, 1, 2, 3] rfl rfl rfl ?_
      refine r_ireturn hE hR [(wMo g mo 0 mac mmk mr9_32 mrd9_32 mrm9_32 wc9_32 mtp msz mtk mbg men mls mvl mft mfp mfk mdp mto), (wMTab g mo kd9_32 on9_32 tw9_32 sg9_32 le9_32 de9_32 so9_32), (wMRow g mo ro9_32), (wMAll g mo al), (wMCom g mo cm9_32), (wMNum g mo nu9_32 fa9_32 of9_32), (wMHea g mo hp9_32 ha9_32)] dX9_of_145 (Nat.le_of_ble_eq_true rfl) (Nat.le_of_ble_eq_true rfl) rfl ?_
      exact ⟨kd9_32, on9_32, tw9_32, sg9_32, le9_32, de9_32, so9_32, mr9_32, R9_32, ro9_32, mrd9_32, mrm9_32, nu9_32, fa9_32, of9_32, cm9_32, hp9_32, ha9_32, wc9_32, _, _, rfl, rfl, Or.inr (Or.inr ⟨by omega, c21, ⟨R9_32 r_32, mrd9_32, h32_2, Or.inr (Or.inr (Or.inr (Or.inr (Or.inr (Or.inr (⟨by omega, rfl⟩))))))⟩, rfl⟩)⟩
    · skip
      have c21 := bI0 c21
      refine r_aload_n 25 hE 0 dX9_of_24 rfl rfl rfl ?_
      refine r_iconst 26 hE dX9_of_25 rfl ?_
      refine r_callV 29 hE [0] [1, 2, 3, 4, 5, 6] [(wMo g mo mst mac mmk mr mrd mrm mcm mtp msz mtk mbg men mls mvl mft mfp mfk mdp mto)] [(wMAll g mo al), (wMTab g mo kd on tw sg le de so), (wMRow g mo ro), (wMCom g mo cm), (wMNum g mo nu fa oft), (wMHea g mo hp ha)] 0 9 ok9 [] (c_X9_refuse) dX9_of_26 rfl rfl wd_1186 wd_1188 ws_47 wd_12 wd_1189 ne_X9 np_X9_refuse (Nat.le_of_ble_eq_true rfl)  (by decide) (by decide) rfl (Nat.le_of_ble_eq_true rfl) rfl rfl rfl rfl (by decide) rfl (fun v1 f1 hp => ?_)
      obtain ⟨rfl, rfl⟩ := hp
      show G g E _ _ _ [(wMo g mo 2 mac mmk mr mrd mrm mcm mtp msz mtk mbg men mls mvl mft mfp mfk mdp mto), (wMAll g mo al), (wMTab g mo kd on tw sg le de so), (wMRow g mo ro), (wMCom g mo cm), (wMNum g mo nu fa oft), (wMHea g mo hp ha)] 29 [(0, .ref (mo 0)), (1, .int (iI t)), (2, .int (iI v))] [.int (iI (-1))]
      refine G.to (fs' := [(wMo g mo 2 mac mmk mr mrd mrm mcm mtp msz mtk mbg men mls mvl mft mfp mfk mdp mto), (wMTab g mo kd on tw sg le de so), (wMRow g mo ro), (wMAll g mo al), (wMCom g mo cm), (wMNum g mo nu fa oft), (wMHea g mo hp ha)]) [0, 2, 3, 1, 4, 5, 6] [0, 1, 2] rfl rfl rfl ?_
      refine r_ireturn hE hR [(wMo g mo 2 mac mmk mr mrd mrm mcm mtp msz mtk mbg men mls mvl mft mfp mfk mdp mto), (wMTab g mo kd on tw sg le de so), (wMRow g mo ro), (wMAll g mo al), (wMCom g mo cm), (wMNum g mo nu fa oft), (wMHea g mo hp ha)] dX9_of_29 (Nat.le_of_ble_eq_true rfl) (Nat.le_of_ble_eq_true rfl) rfl ?_
      exact ⟨kd, on, tw, sg, le, de, so, mr, R, ro, mrd, mrm, nu, fa, oft, cm, hp, ha, mcm, _, _, rfl, rfl, Or.inr (Or.inl ⟨by omega, c21, rfl, rfl⟩)⟩
  · skip
    have c7 := bI0 c7
    refine r_aload_n 11 hE 0 dX9_of_10 rfl rfl rfl ?_
    refine r_iconst 12 hE dX9_of_11 rfl ?_
    refine r_callV 15 hE [0] [1, 2, 3, 4, 5, 6] [(wMo g mo mst mac mmk mr mrd mrm mcm mtp msz mtk mbg men mls mvl mft mfp mfk mdp mto)] [(wMTab g mo kd on tw sg le de so), (wMRow g mo ro), (wMAll g mo al), (wMCom g mo cm), (wMNum g mo nu fa oft), (wMHea g mo hp ha)] 0 9 ok9 [] (c_X9_refuse) dX9_of_12 rfl rfl wd_1186 wd_1188 ws_47 wd_12 wd_1189 ne_X9 np_X9_refuse (Nat.le_of_ble_eq_true rfl)  (by decide) (by decide) rfl (Nat.le_of_ble_eq_true rfl) rfl rfl rfl rfl (by decide) rfl (fun v1 f1 hp => ?_)
    obtain ⟨rfl, rfl⟩ := hp
    show G g E _ _ _ [(wMo g mo 1 mac mmk mr mrd mrm mcm mtp msz mtk mbg men mls mvl mft mfp mfk mdp mto), (wMTab g mo kd on tw sg le de so), (wMRow g mo ro), (wMAll g mo al), (wMCom g mo cm), (wMNum g mo nu fa oft), (wMHea g mo hp ha)] 15 [(0, .ref (mo 0)), (1, .int (iI t)), (2, .int (iI v))] [.int (iI (-1))]
    refine r_ireturn hE hR [(wMo g mo 1 mac mmk mr mrd mrm mcm mtp msz mtk mbg men mls mvl mft mfp mfk mdp mto), (wMTab g mo kd on tw sg le de so), (wMRow g mo ro), (wMAll g mo al), (wMCom g mo cm), (wMNum g mo nu fa oft), (wMHea g mo hp ha)] dX9_of_15 (Nat.le_of_ble_eq_true rfl) (Nat.le_of_ble_eq_true rfl) rfl ?_
    exact ⟨kd, on, tw, sg, le, de, so, mr, R, ro, mrd, mrm, nu, fa, oft, cm, hp, ha, mcm, _, _, rfl, rfl, Or.inl ⟨by omega, rfl, rfl⟩⟩
set_option maxHeartbeats 4000000 in
set_option maxRecDepth 100000 in
theorem c_X9_rule {g : Gm} {mo : Nat → Nat} {mst mac mmk mr mrd mrm mcm mtp msz mtk mbg men mls mvl mft mfp mfk mdp mto : Int} {al : Int → Int} {kd on tw sg le de so : Int → Int} {R : Int → Rl} {ro : Int → Int} {cm nu fa oft hp ha : Int → Int} {t k_ v : Int} (hM : MTx al) (hr_t : -2147483648 ≤ t ∧ t ≤ 2147483647) (hr_k_ : -2147483648 ≤ k_ ∧ k_ ≤ 2147483647) (hr_v : -2147483648 ≤ v ∧ v ≤ 2147483647) : Ct g 6 0 0 yX9_rule cX9_rule 6 (some .int) [.ref (mo 0), .int (iI t), .int (iI k_), .int (iI v)] [(wMo g mo mst mac mmk mr mrd mrm mcm mtp msz mtk mbg men mls mvl mft mfp mfk mdp mto), (wMTab g mo kd on tw sg le de so), (wMRow g mo ro), (wMAll g mo al), (wMCom g mo cm), (wMNum g mo nu fa oft), (wMHea g mo hp ha)] (fun v_ w_ => ∃ kd9 : Int → Int, ∃ on9 : Int → Int, ∃ tw9 : Int → Int, ∃ sg9 : Int → Int, ∃ le9 : Int → Int, ∃ de9 : Int → Int, ∃ so9 : Int → Int, ∃ mr9 : Int, ∃ R9 : Int → Rl, ∃ ro9 : Int → Int, ∃ mrd9 : Int, ∃ mrm9 : Int, ∃ nu9 : Int → Int, ∃ fa9 : Int → Int, ∃ of9 : Int → Int, ∃ cm9 : Int → Int, ∃ hp9 : Int → Int, ∃ ha9 : Int → Int, ∃ wc9 : Int, ∃ r9 : Int, ∃ s9 : Int, v_ = some (.int (iI r9)) ∧ w_ = [(wMo g mo s9 mac mmk mr9 mrd9 mrm9 wc9 mtp msz mtk mbg men mls mvl mft mfp mfk mdp mto), (wMTab g mo kd9 on9 tw9 sg9 le9 de9 so9), (wMRow g mo ro9), (wMAll g mo al), (wMCom g mo cm9), (wMNum g mo nu9 fa9 of9), (wMHea g mo hp9 ha9)] ∧ (QRule (mF al) (mN al) (al 0) t k_ v r9 s9)) := by
  refine Ct.of (by decide) (Nat.le_of_ble_eq_true rfl) (lv := [(0, .ref (mo 0)), (1, .int (iI t)), (2, .int (iI k_)), (3, .int (iI v))]) rfl ?_
  intro E hE hR hnm
  have hc := hM.1
  refine r_iload_n 1 hE 2 dX9_rule_0 rfl rfl rfl ?_
  refine r_if_lt 4 14 hE dX9_rule_1 rfl (by decide) (by omega) (fun c1 => ?_) (fun c1 => ?_)
  · skip
    refine r_aload_n 15 hE 0 dX9_rule_14 rfl rfl rfl ?_
    refine r_iconst 16 hE dX9_rule_15 rfl ?_
    refine r_callV 19 hE [0] [1, 2, 3, 4, 5, 6] [(wMo g mo mst mac mmk mr mrd mrm mcm mtp msz mtk mbg men mls mvl mft mfp mfk mdp mto)] [(wMTab g mo kd on tw sg le de so), (wMRow g mo ro), (wMAll g mo al), (wMCom g mo cm), (wMNum g mo nu fa oft), (wMHea g mo hp ha)] 0 9 ok9 [] (c_X9_refuse) dX9_rule_16 rfl rfl wd_1186 wd_1188 ws_47 wd_12 wd_1189 ne_X9 np_X9_refuse (Nat.le_of_ble_eq_true rfl)  (by decide) (by decide) rfl (Nat.le_of_ble_eq_true rfl) rfl rfl rfl rfl (by decide) rfl (fun v1 f1 hp => ?_)
    obtain ⟨rfl, rfl⟩ := hp
    show G g E _ _ _ [(wMo g mo 1 mac mmk mr mrd mrm mcm mtp msz mtk mbg men mls mvl mft mfp mfk mdp mto), (wMTab g mo kd on tw sg le de so), (wMRow g mo ro), (wMAll g mo al), (wMCom g mo cm), (wMNum g mo nu fa oft), (wMHea g mo hp ha)] 19 [(0, .ref (mo 0)), (1, .int (iI t)), (2, .int (iI k_)), (3, .int (iI v))] [.int (iI (-1))]
    refine r_ireturn hE hR [(wMo g mo 1 mac mmk mr mrd mrm mcm mtp msz mtk mbg men mls mvl mft mfp mfk mdp mto), (wMTab g mo kd on tw sg le de so), (wMRow g mo ro), (wMAll g mo al), (wMCom g mo cm), (wMNum g mo nu fa oft), (wMHea g mo hp ha)] dX9_rule_19 (Nat.le_of_ble_eq_true rfl) (Nat.le_of_ble_eq_true rfl) rfl ?_
    exact ⟨kd, on, tw, sg, le, de, so, mr, R, ro, mrd, mrm, nu, fa, oft, cm, hp, ha, mcm, _, _, rfl, rfl, Or.inl ⟨by omega, rfl, rfl⟩⟩
  · skip
    refine r_iload_n 5 hE 3 dX9_rule_4 rfl rfl rfl ?_
    refine r_iconst 6 hE dX9_rule_5 rfl ?_
    refine r_bipush 8 hE dX9_rule_6 rfl (by decide) ?_
    refine r_callS 11 hE [] [0, 1, 2, 3, 4, 5, 6] [] [(wMo g mo mst mac mmk mr mrd mrm mcm mtp msz mtk mbg men mls mvl mft mfp mfk mdp mto), (wMTab g mo kd on tw sg le de so), (wMRow g mo ro), (wMAll g mo al), (wMCom g mo cm), (wMNum g mo nu fa oft), (wMHea g mo hp ha)] [] (c_X9_isFrom (by omega) (by omega) (by omega)) dX9_rule_8 rfl wd_1183 wd_1184 wd_12 wd_1185 ne_X9 np_X9_isFrom (Nat.le_of_ble_eq_true rfl)  (by decide) (by decide) rfl (Nat.le_of_ble_eq_true rfl) rfl rfl rfl rfl (by decide) (fun v1 f1 hp => ?_)
    obtain ⟨rfl, rfl⟩ := hp
    show G g E _ _ _ [(wMo g mo mst mac mmk mr mrd mrm mcm mtp msz mtk mbg men mls mvl mft mfp mfk mdp mto), (wMTab g mo kd on tw sg le de so), (wMRow g mo ro), (wMAll g mo al), (wMCom g mo cm), (wMNum g mo nu fa oft), (wMHea g mo hp ha)] 11 [(0, .ref (mo 0)), (1, .int (iI t)), (2, .int (iI k_)), (3, .int (iI v))] [.int (iI (bI (0 ≤ v ∧ v ≤ 6)))]
    refine r_if_ne 14 20 hE dX9_rule_11 rfl (by decide) (bI_rg _) (fun c11 => ?_) (fun c11 => ?_)
    · skip
      have c11 := bI1 c11
      refine r_aload_n 21 hE 0 dX9_rule_20 rfl rfl rfl ?_
      refine r_iload_n 22 hE 1 dX9_rule_21 rfl rfl rfl ?_
      refine r_callV 25 hE [0, 3] [1, 2, 4, 5, 6] [(wMo g mo mst mac mmk mr mrd mrm mcm mtp msz mtk mbg men mls mvl mft mfp mfk mdp mto), (wMAll g mo al)] [(wMTab g mo kd on tw sg le de so), (wMRow g mo ro), (wMCom g mo cm), (wMNum g mo nu fa oft), (wMHea g mo hp ha)] 0 9 ok9 [] (c_X9_isText (by omega) (by omega)) dX9_rule_22 rfl rfl wd_1346 wd_1348 ws_80 wd_12 wd_1349 ne_X9 np_X9_isText (Nat.le_of_ble_eq_true rfl)  (by decide) (by decide) rfl (Nat.le_of_ble_eq_true rfl) rfl rfl rfl rfl (by decide) rfl (fun v1 f1 hp => ?_)
      obtain ⟨rfl, rfl⟩ := hp
      show G g E _ _ _ [(wMo g mo mst mac mmk mr mrd mrm mcm mtp msz mtk mbg men mls mvl mft mfp mfk mdp mto), (wMAll g mo al), (wMTab g mo kd on tw sg le de so), (wMRow g mo ro), (wMCom g mo cm), (wMNum g mo nu fa oft), (wMHea g mo hp ha)] 25 [(0, .ref (mo 0)), (1, .int (iI t)), (2, .int (iI k_)), (3, .int (iI v))] [.int (iI (bI (0 ≤ t ∧ t < al 0)))]
      refine r_if_ne 28 34 hE dX9_rule_25 rfl (by decide) (bI_rg _) (fun c25 => ?_) (fun c25 => ?_)
      · skip
        have c25 := bI1 c25
        have hl_t := hM.2 t c25.1 c25.2
        refine r_aload_n 35 hE 0 dX9_rule_34 rfl rfl rfl ?_
        refine r_iload_n 36 hE 1 dX9_rule_35 rfl rfl rfl ?_
        refine r_callV 39 hE [0, 2, 3, 1, 4, 5, 6] [] [(wMo g mo mst mac mmk mr mrd mrm mcm mtp msz mtk mbg men mls mvl mft mfp mfk mdp mto), (wMTab g mo kd on tw sg le de so), (wMRow g mo ro), (wMAll g mo al), (wMCom g mo cm), (wMNum g mo nu fa oft), (wMHea g mo hp ha)] [] 0 9 ok9 [] (c_X9_opens (R := R) (hM) (by omega)) dX9_rule_36 rfl rfl wd_1431 wd_1433 ws_89 wd_12 wd_1434 ne_X9 np_X9_opens (Nat.le_of_ble_eq_true rfl)  (by decide) (by decide) rfl (Nat.le_of_ble_eq_true rfl) rfl rfl rfl rfl (by decide) rfl (fun v1 f1 hp => ?_)
        obtain ⟨kd9_36, on9_36, tw9_36, sg9_36, le9_36, de9_36, so9_36, mr9_36, R9_36, ro9_36, mrd9_36, mrm9_36, nu9_36, fa9_36, of9_36, cm9_36, hp9_36, ha9_36, wc9_36, r_36, rfl, rfl, h36_0, h36_1, h36_2, h36_3, h36_4, h36_5, h36_6⟩ := hp
        show G g E _ _ _ [(wMo g mo mst mac mmk mr9_36 mrd9_36 mrm9_36 wc9_36 mtp msz mtk mbg men mls mvl mft mfp mfk mdp mto), (wMTab g mo kd9_36 on9_36 tw9_36 sg9_36 le9_36 de9_36 so9_36), (wMRow g mo ro9_36), (wMAll g mo al), (wMCom g mo cm9_36), (wMNum g mo nu9_36 fa9_36 of9_36), (wMHea g mo hp9_36 ha9_36)] 39 [(0, .ref (mo 0)), (1, .int (iI t)), (2, .int (iI k_)), (3, .int (iI v))] [.int (iI r_36)]
        have hcn := h36_0.1
        have hwl := h36_3.1
        refine r_istore 41 hE [(4, .int (iI r_36)), (0, .ref (mo 0)), (1, .int (iI t)), (2, .int (iI k_)), (3, .int (iI v))] dX9_rule_39 rfl (by decide) rfl ?_
        refine r_iload_n 42 hE 3 dX9_rule_41 rfl rfl rfl ?_
        refine r_aload_n 43 hE 1 dX9_rule_42 rfl rfl rfl ?_
        refine r_get 46 hE 0 0 ok9 22 dX9_rule_43 rfl wd_1074 rfl rfl (by decide) rfl ?_
        refine r_icmp_lt 49 55 hE dX9_rule_46 rfl (by decide) (by omega) (fun c46 => ?_) (fun c46 => ?_)
        · skip
          have hck := h36_3.2.2.1 k_ (by omega) (by omega)
          have hxr := h36_0.2.1 _ hck.1.1 hck.1.2
          have hxg := hxr.rg (by omega)
          have hin : InV (vis (R9_36 r_36) 0 []) (R9_36 (cm9_36 k_)) := ⟨_, List.mem_of_getElem? hck.2⟩
          have hprt := NV.prt hxr (vis_parts hin)
          have hkd := hxr.1
          refine r_aload_n 56 hE 1 dX9_rule_55 rfl rfl rfl ?_
          refine r_get 59 hE 0 0 ok9 16 dX9_rule_56 rfl wd_1068 rfl rfl (by decide) rfl ?_
          refine r_iload_n 60 hE 3 dX9_rule_59 rfl rfl rfl ?_
          refine r_iald 61 hE 4 0 dX9_rule_60 rfl rfl rfl (by omega) ?_
          refine r_istore 63 hE [(5, .int (iI (cm9_36 k_))), (4, .int (iI r_36)), (0, .ref (mo 0)), (1, .int (iI t)), (2, .int (iI k_)), (3, .int (iI v))] dX9_rule_61 rfl (by decide) rfl ?_
          refine r_aload_n 64 hE 2 dX9_rule_63 rfl rfl rfl ?_
          refine r_iload 66 hE 1 dX9_rule_64 rfl rfl ?_
          refine r_callV 69 hE [0, 1, 4, 5] [2, 3, 6] [(wMo g mo mst mac mmk mr9_36 mrd9_36 mrm9_36 wc9_36 mtp msz mtk mbg men mls mvl mft mfp mfk mdp mto), (wMTab g mo kd9_36 on9_36 tw9_36 sg9_36 le9_36 de9_36 so9_36), (wMCom g mo cm9_36), (wMNum g mo nu9_36 fa9_36 of9_36)] [(wMRow g mo ro9_36), (wMAll g mo al), (wMHea g mo hp9_36 ha9_36)] 0 9 ok9 [] (c_X9_counts (h36_0) (h36_3) (by omega) (h36_4) (by omega)) dX9_rule_66 rfl rfl wd_1455 wd_1457 ws_93 wd_12 wd_1458 ne_X9 np_X9_counts (Nat.le_of_ble_eq_true rfl)  (by decide) (by decide) rfl (Nat.le_of_ble_eq_true rfl) rfl rfl rfl rfl (by decide) rfl (fun v1 f1 hp => ?_)
          obtain ⟨of9_66, rfl, rfl, h66_0⟩ := hp
          show G g E _ _ _ [(wMo g mo mst mac mmk mr9_36 mrd9_36 mrm9_36 wc9_36 mtp msz mtk mbg men mls mvl mft mfp mfk mdp mto), (wMTab g mo kd9_36 on9_36 tw9_36 sg9_36 le9_36 de9_36 so9_36), (wMCom g mo cm9_36), (wMNum g mo nu9_36 fa9_36 of9_66), (wMRow g mo ro9_36), (wMAll g mo al), (wMHea g mo hp9_36 ha9_36)] 69 [(5, .int (iI (cm9_36 k_))), (4, .int (iI r_36)), (0, .ref (mo 0)), (1, .int (iI t)), (2, .int (iI k_)), (3, .int (iI v))] []
          refine r_iload_n 70 hE 5 dX9_rule_69 rfl rfl rfl ?_
          by_cases sw70 : (v : Int) = 0
          · skip
            refine r_tsIn 108 hE 0 dX9_rule_70 (sw70) (by decide) rfl (by decide) ?_
            refine r_aload_n 109 hE 2 dX9_rule_108 rfl rfl rfl ?_
            refine r_aload_n 110 hE 2 dX9_rule_109 rfl rfl rfl ?_
            refine r_get 113 hE 0 0 ok9 5 dX9_rule_110 rfl wd_1057 rfl rfl (by decide) rfl ?_
            refine r_iload 115 hE 0 dX9_rule_113 rfl rfl ?_
            refine r_iald 116 hE 1 0 dX9_rule_115 rfl rfl rfl (by omega) ?_
            refine r_callV 119 hE [0] [1, 2, 3, 4, 5, 6] [(wMo g mo mst mac mmk mr9_36 mrd9_36 mrm9_36 wc9_36 mtp msz mtk mbg men mls mvl mft mfp mfk mdp mto)] [(wMTab g mo kd9_36 on9_36 tw9_36 sg9_36 le9_36 de9_36 so9_36), (wMCom g mo cm9_36), (wMNum g mo nu9_36 fa9_36 of9_66), (wMRow g mo ro9_36), (wMAll g mo al), (wMHea g mo hp9_36 ha9_36)] 0 9 ok9 [] (c_X9_gives) dX9_rule_116 rfl rfl wd_1334 wd_1336 ws_79 wd_12 wd_1337 ne_X9 np_X9_gives (Nat.le_of_ble_eq_true rfl)  (by decide) (by decide) rfl (Nat.le_of_ble_eq_true rfl) rfl rfl rfl rfl (by decide) rfl (fun v1 f1 hp => ?_)
            obtain ⟨rfl, rfl⟩ := hp
            show G g E _ _ _ [(wMo g mo 0 mac mmk mr9_36 mrd9_36 mrm9_36 wc9_36 mtp msz mtk mbg men mls mvl mft mfp mfk mdp mto), (wMTab g mo kd9_36 on9_36 tw9_36 sg9_36 le9_36 de9_36 so9_36), (wMCom g mo cm9_36), (wMNum g mo nu9_36 fa9_36 of9_66), (wMRow g mo ro9_36), (wMAll g mo al), (wMHea g mo hp9_36 ha9_36)] 119 [(5, .int (iI (cm9_36 k_))), (4, .int (iI r_36)), (0, .ref (mo 0)), (1, .int (iI t)), (2, .int (iI k_)), (3, .int (iI v))] [.int (iI (kd9_36 (cm9_36 k_)))]
            refine G.to (fs' := [(wMo g mo 0 mac mmk mr9_36 mrd9_36 mrm9_36 wc9_36 mtp msz mtk mbg men mls mvl mft mfp mfk mdp mto), (wMTab g mo kd9_36 on9_36 tw9_36 sg9_36 le9_36 de9_36 so9_36), (wMRow g mo ro9_36), (wMAll g mo al), (wMCom g mo cm9_36), (wMNum g mo nu9_36 fa9_36 of9_66), (wMHea g mo hp9_36 ha9_36)]) [0, 1, 4, 5, 2, 3, 6] [0, 1, 2, 3, 4, 5] rfl rfl rfl ?_
            refine r_ireturn hE hR [(wMo g mo 0 mac mmk mr9_36 mrd9_36 mrm9_36 wc9_36 mtp msz mtk mbg men mls mvl mft mfp mfk mdp mto), (wMTab g mo kd9_36 on9_36 tw9_36 sg9_36 le9_36 de9_36 so9_36), (wMRow g mo ro9_36), (wMAll g mo al), (wMCom g mo cm9_36), (wMNum g mo nu9_36 fa9_36 of9_66), (wMHea g mo hp9_36 ha9_36)] dX9_rule_119 (Nat.le_of_ble_eq_true rfl) (Nat.le_of_ble_eq_true rfl) rfl ?_
            exact ⟨kd9_36, on9_36, tw9_36, sg9_36, le9_36, de9_36, so9_36, mr9_36, R9_36, ro9_36, mrd9_36, mrm9_36, nu9_36, fa9_36, of9_66, cm9_36, hp9_36, ha9_36, wc9_36, _, _, rfl, rfl, Or.inr (Or.inr ⟨by omega, c25, R9_36 r_36, mrd9_36, h36_2, Or.inr ⟨by omega, ⟨_, _, hck.2, Or.inl ⟨by omega, hxr.kind⟩⟩, rfl⟩⟩)⟩
          have sw70_0 := sw70
          by_cases sw70 : (v : Int) = 1
          · skip
            refine r_tsIn 120 hE 1 dX9_rule_70 (sw70) (by decide) rfl (by decide) ?_
            refine r_aload_n 121 hE 2 dX9_rule_120 rfl rfl rfl ?_
            refine r_aload_n 122 hE 2 dX9_rule_121 rfl rfl rfl ?_
            refine r_get 125 hE 0 0 ok9 9 dX9_rule_122 rfl wd_1061 rfl rfl (by decide) rfl ?_
            refine r_iload 127 hE 0 dX9_rule_125 rfl rfl ?_
            refine r_iald 128 hE 1 4 dX9_rule_127 rfl rfl rfl (by omega) ?_
            refine r_callV 131 hE [0] [1, 2, 3, 4, 5, 6] [(wMo g mo mst mac mmk mr9_36 mrd9_36 mrm9_36 wc9_36 mtp msz mtk mbg men mls mvl mft mfp mfk mdp mto)] [(wMTab g mo kd9_36 on9_36 tw9_36 sg9_36 le9_36 de9_36 so9_36), (wMCom g mo cm9_36), (wMNum g mo nu9_36 fa9_36 of9_66), (wMRow g mo ro9_36), (wMAll g mo al), (wMHea g mo hp9_36 ha9_36)] 0 9 ok9 [] (c_X9_gives) dX9_rule_128 rfl rfl wd_1334 wd_1336 ws_79 wd_12 wd_1337 ne_X9 np_X9_gives (Nat.le_of_ble_eq_true rfl)  (by decide) (by decide) rfl (Nat.le_of_ble_eq_true rfl) rfl rfl rfl rfl (by decide) rfl (fun v1 f1 hp => ?_)
            obtain ⟨rfl, rfl⟩ := hp
            show G g E _ _ _ [(wMo g mo 0 mac mmk mr9_36 mrd9_36 mrm9_36 wc9_36 mtp msz mtk mbg men mls mvl mft mfp mfk mdp mto), (wMTab g mo kd9_36 on9_36 tw9_36 sg9_36 le9_36 de9_36 so9_36), (wMCom g mo cm9_36), (wMNum g mo nu9_36 fa9_36 of9_66), (wMRow g mo ro9_36), (wMAll g mo al), (wMHea g mo hp9_36 ha9_36)] 131 [(5, .int (iI (cm9_36 k_))), (4, .int (iI r_36)), (0, .ref (mo 0)), (1, .int (iI t)), (2, .int (iI k_)), (3, .int (iI v))] [.int (iI (le9_36 (cm9_36 k_)))]
            refine G.to (fs' := [(wMo g mo 0 mac mmk mr9_36 mrd9_36 mrm9_36 wc9_36 mtp msz mtk mbg men mls mvl mft mfp mfk mdp mto), (wMTab g mo kd9_36 on9_36 tw9_36 sg9_36 le9_36 de9_36 so9_36), (wMRow g mo ro9_36), (wMAll g mo al), (wMCom g mo cm9_36), (wMNum g mo nu9_36 fa9_36 of9_66), (wMHea g mo hp9_36 ha9_36)]) [0, 1, 4, 5, 2, 3, 6] [0, 1, 2, 3, 4, 5] rfl rfl rfl ?_
            refine r_ireturn hE hR [(wMo g mo 0 mac mmk mr9_36 mrd9_36 mrm9_36 wc9_36 mtp msz mtk mbg men mls mvl mft mfp mfk mdp mto), (wMTab g mo kd9_36 on9_36 tw9_36 sg9_36 le9_36 de9_36 so9_36), (wMRow g mo ro9_36), (wMAll g mo al), (wMCom g mo cm9_36), (wMNum g mo nu9_36 fa9_36 of9_66), (wMHea g mo hp9_36 ha9_36)] dX9_rule_131 (Nat.le_of_ble_eq_true rfl) (Nat.le_of_ble_eq_true rfl) rfl ?_
            exact ⟨kd9_36, on9_36, tw9_36, sg9_36, le9_36, de9_36, so9_36, mr9_36, R9_36, ro9_36, mrd9_36, mrm9_36, nu9_36, fa9_36, of9_66, cm9_36, hp9_36, ha9_36, wc9_36, _, _, rfl, rfl, Or.inr (Or.inr ⟨by omega, c25, R9_36 r_36, mrd9_36, h36_2, Or.inr ⟨by omega, ⟨_, _, hck.2, Or.inr (Or.inl ⟨by omega, hxr.2.2.1⟩)⟩, rfl⟩⟩)⟩
          have sw70_1 := sw70
          by_cases sw70 : (v : Int) = 2
          · skip
            refine r_tsIn 132 hE 2 dX9_rule_70 (sw70) (by decide) rfl (by decide) ?_
            refine r_aload_n 133 hE 2 dX9_rule_132 rfl rfl rfl ?_
            refine r_aload_n 134 hE 2 dX9_rule_133 rfl rfl rfl ?_
            refine r_get 137 hE 0 0 ok9 5 dX9_rule_134 rfl wd_1057 rfl rfl (by decide) rfl ?_
            refine r_iload 139 hE 0 dX9_rule_137 rfl rfl ?_
            refine r_iald 140 hE 1 0 dX9_rule_139 rfl rfl rfl (by omega) ?_
            refine r_if_ne 143 153 hE dX9_rule_140 rfl (by decide) (by omega) (fun c140 => ?_) (fun c140 => ?_)
            · skip
              have hfx : 0 ≤ on9_36 (cm9_36 k_) ∧ on9_36 (cm9_36 k_) < mr9_36 := by omega
              refine r_aload_n 154 hE 2 dX9_rule_153 rfl rfl rfl ?_
              refine r_get 157 hE 0 0 ok9 17 dX9_rule_154 rfl wd_1069 rfl rfl (by decide) rfl ?_
              refine r_aload_n 158 hE 2 dX9_rule_157 rfl rfl rfl ?_
              refine r_get 161 hE 0 0 ok9 6 dX9_rule_158 rfl wd_1058 rfl rfl (by decide) rfl ?_
              refine r_iload 163 hE 0 dX9_rule_161 rfl rfl ?_
              refine r_iald 164 hE 1 1 dX9_rule_163 rfl rfl rfl (by omega) ?_
              refine r_iald 165 hE 3 0 dX9_rule_164 rfl rfl rfl (by omega) ?_
              refine r_callV 168 hE [0] [1, 2, 3, 4, 5, 6] [(wMo g mo mst mac mmk mr9_36 mrd9_36 mrm9_36 wc9_36 mtp msz mtk mbg men mls mvl mft mfp mfk mdp mto)] [(wMTab g mo kd9_36 on9_36 tw9_36 sg9_36 le9_36 de9_36 so9_36), (wMCom g mo cm9_36), (wMNum g mo nu9_36 fa9_36 of9_66), (wMRow g mo ro9_36), (wMAll g mo al), (wMHea g mo hp9_36 ha9_36)] 0 9 ok9 [] (c_X9_gives) dX9_rule_165 rfl rfl wd_1334 wd_1336 ws_79 wd_12 wd_1337 ne_X9 np_X9_gives (Nat.le_of_ble_eq_true rfl)  (by decide) (by decide) rfl (Nat.le_of_ble_eq_true rfl) rfl rfl rfl rfl (by decide) rfl (fun v1 f1 hp => ?_)
              obtain ⟨rfl, rfl⟩ := hp
              show G g E _ _ _ [(wMo g mo 0 mac mmk mr9_36 mrd9_36 mrm9_36 wc9_36 mtp msz mtk mbg men mls mvl mft mfp mfk mdp mto), (wMTab g mo kd9_36 on9_36 tw9_36 sg9_36 le9_36 de9_36 so9_36), (wMCom g mo cm9_36), (wMNum g mo nu9_36 fa9_36 of9_66), (wMRow g mo ro9_36), (wMAll g mo al), (wMHea g mo hp9_36 ha9_36)] 168 [(5, .int (iI (cm9_36 k_))), (4, .int (iI r_36)), (0, .ref (mo 0)), (1, .int (iI t)), (2, .int (iI k_)), (3, .int (iI v))] [.int (iI (nu9_36 (on9_36 (cm9_36 k_))))]
              refine G.to (fs' := [(wMo g mo 0 mac mmk mr9_36 mrd9_36 mrm9_36 wc9_36 mtp msz mtk mbg men mls mvl mft mfp mfk mdp mto), (wMTab g mo kd9_36 on9_36 tw9_36 sg9_36 le9_36 de9_36 so9_36), (wMRow g mo ro9_36), (wMAll g mo al), (wMCom g mo cm9_36), (wMNum g mo nu9_36 fa9_36 of9_66), (wMHea g mo hp9_36 ha9_36)]) [0, 1, 4, 5, 2, 3, 6] [0, 1, 2, 3, 4, 5] rfl rfl rfl ?_
              refine r_ireturn hE hR [(wMo g mo 0 mac mmk mr9_36 mrd9_36 mrm9_36 wc9_36 mtp msz mtk mbg men mls mvl mft mfp mfk mdp mto), (wMTab g mo kd9_36 on9_36 tw9_36 sg9_36 le9_36 de9_36 so9_36), (wMRow g mo ro9_36), (wMAll g mo al), (wMCom g mo cm9_36), (wMNum g mo nu9_36 fa9_36 of9_66), (wMHea g mo hp9_36 ha9_36)] dX9_rule_168 (Nat.le_of_ble_eq_true rfl) (Nat.le_of_ble_eq_true rfl) rfl ?_
              first
                | exact ⟨kd9_36, on9_36, tw9_36, sg9_36, le9_36, de9_36, so9_36, mr9_36, R9_36, ro9_36, mrd9_36, mrm9_36, nu9_36, fa9_36, of9_66, cm9_36, hp9_36, ha9_36, wc9_36, _, _, rfl, rfl, Or.inr (Or.inr ⟨by omega, c25, R9_36 r_36, mrd9_36, h36_2, Or.inr ⟨by omega, ⟨_, _, hck.2, Or.inr (Or.inr (Or.inl ⟨by omega, hxr.p1 (fun _ => rfl) (fun q => absurd c140 q)⟩))⟩, rfl⟩⟩)⟩
                | exact ⟨kd9_36, on9_36, tw9_36, sg9_36, le9_36, de9_36, so9_36, mr9_36, R9_36, ro9_36, mrd9_36, mrm9_36, nu9_36, fa9_36, of9_66, cm9_36, hp9_36, ha9_36, wc9_36, _, _, rfl, rfl, Or.inr (Or.inr ⟨by omega, c25, R9_36 r_36, mrd9_36, h36_2, Or.inr ⟨by omega, ⟨_, _, hck.2, Or.inr (Or.inr (Or.inl ⟨by omega, hxr.p1 (fun q => absurd q c140) (fun q => h36_3.idx hfx (hprt.1 q))⟩))⟩, rfl⟩⟩)⟩
            · skip
              refine r_aload_n 144 hE 2 dX9_rule_143 rfl rfl rfl ?_
              refine r_get 147 hE 0 0 ok9 6 dX9_rule_144 rfl wd_1058 rfl rfl (by decide) rfl ?_
              refine r_iload 149 hE 0 dX9_rule_147 rfl rfl ?_
              refine r_iald 150 hE 1 1 dX9_rule_149 rfl rfl rfl (by omega) ?_
              refine r_goto 165 hE dX9_rule_150 (by decide) ?_
              refine r_callV 168 hE [0] [1, 2, 3, 4, 5, 6] [(wMo g mo mst mac mmk mr9_36 mrd9_36 mrm9_36 wc9_36 mtp msz mtk mbg men mls mvl mft mfp mfk mdp mto)] [(wMTab g mo kd9_36 on9_36 tw9_36 sg9_36 le9_36 de9_36 so9_36), (wMCom g mo cm9_36), (wMNum g mo nu9_36 fa9_36 of9_66), (wMRow g mo ro9_36), (wMAll g mo al), (wMHea g mo hp9_36 ha9_36)] 0 9 ok9 [] (c_X9_gives) dX9_rule_165 rfl rfl wd_1334 wd_1336 ws_79 wd_12 wd_1337 ne_X9 np_X9_gives (Nat.le_of_ble_eq_true rfl)  (by decide) (by decide) rfl (Nat.le_of_ble_eq_true rfl) rfl rfl rfl rfl (by decide) rfl (fun v1 f1 hp => ?_)
              obtain ⟨rfl, rfl⟩ := hp
              show G g E _ _ _ [(wMo g mo 0 mac mmk mr9_36 mrd9_36 mrm9_36 wc9_36 mtp msz mtk mbg men mls mvl mft mfp mfk mdp mto), (wMTab g mo kd9_36 on9_36 tw9_36 sg9_36 le9_36 de9_36 so9_36), (wMCom g mo cm9_36), (wMNum g mo nu9_36 fa9_36 of9_66), (wMRow g mo ro9_36), (wMAll g mo al), (wMHea g mo hp9_36 ha9_36)] 168 [(5, .int (iI (cm9_36 k_))), (4, .int (iI r_36)), (0, .ref (mo 0)), (1, .int (iI t)), (2, .int (iI k_)), (3, .int (iI v))] [.int (iI (on9_36 (cm9_36 k_)))]
              refine G.to (fs' := [(wMo g mo 0 mac mmk mr9_36 mrd9_36 mrm9_36 wc9_36 mtp msz mtk mbg men mls mvl mft mfp mfk mdp mto), (wMTab g mo kd9_36 on9_36 tw9_36 sg9_36 le9_36 de9_36 so9_36), (wMRow g mo ro9_36), (wMAll g mo al), (wMCom g mo cm9_36), (wMNum g mo nu9_36 fa9_36 of9_66), (wMHea g mo hp9_36 ha9_36)]) [0, 1, 4, 5, 2, 3, 6] [0, 1, 2, 3, 4, 5] rfl rfl rfl ?_
              refine r_ireturn hE hR [(wMo g mo 0 mac mmk mr9_36 mrd9_36 mrm9_36 wc9_36 mtp msz mtk mbg men mls mvl mft mfp mfk mdp mto), (wMTab g mo kd9_36 on9_36 tw9_36 sg9_36 le9_36 de9_36 so9_36), (wMRow g mo ro9_36), (wMAll g mo al), (wMCom g mo cm9_36), (wMNum g mo nu9_36 fa9_36 of9_66), (wMHea g mo hp9_36 ha9_36)] dX9_rule_168 (Nat.le_of_ble_eq_true rfl) (Nat.le_of_ble_eq_true rfl) rfl ?_
              first
                | exact ⟨kd9_36, on9_36, tw9_36, sg9_36, le9_36, de9_36, so9_36, mr9_36, R9_36, ro9_36, mrd9_36, mrm9_36, nu9_36, fa9_36, of9_66, cm9_36, hp9_36, ha9_36, wc9_36, _, _, rfl, rfl, Or.inr (Or.inr ⟨by omega, c25, R9_36 r_36, mrd9_36, h36_2, Or.inr ⟨by omega, ⟨_, _, hck.2, Or.inr (Or.inr (Or.inl ⟨by omega, hxr.p1 (fun _ => rfl) (fun q => absurd c140 q)⟩))⟩, rfl⟩⟩)⟩
                | exact ⟨kd9_36, on9_36, tw9_36, sg9_36, le9_36, de9_36, so9_36, mr9_36, R9_36, ro9_36, mrd9_36, mrm9_36, nu9_36, fa9_36, of9_66, cm9_36, hp9_36, ha9_36, wc9_36, _, _, rfl, rfl, Or.inr (Or.inr ⟨by omega, c25, R9_36 r_36, mrd9_36, h36_2, Or.inr ⟨by omega, ⟨_, _, hck.2, Or.inr (Or.inr (Or.inl ⟨by omega, hxr.p1 (fun q => absurd q c140) (fun q => h36_3.idx hfx (hprt.1 q))⟩))⟩, rfl⟩⟩)⟩
          have sw70_2 := sw70
          by_cases sw70 : (v : Int) = 3
          · skip
            refine r_tsIn 169 hE 3 dX9_rule_70 (sw70) (by decide) rfl (by decide) ?_
            refine r_aload_n 170 hE 2 dX9_rule_169 rfl rfl rfl ?_
            refine r_aload_n 171 hE 2 dX9_rule_170 rfl rfl rfl ?_
            refine r_get 174 hE 0 0 ok9 5 dX9_rule_171 rfl wd_1057 rfl rfl (by decide) rfl ?_
            refine r_iload 176 hE 0 dX9_rule_174 rfl rfl ?_
            refine r_iald 177 hE 1 0 dX9_rule_176 rfl rfl rfl (by omega) ?_
            refine r_if_ne 180 184 hE dX9_rule_177 rfl (by decide) (by omega) (fun c177 => ?_) (fun c177 => ?_)
            · skip
              refine r_aload_n 185 hE 2 dX9_rule_184 rfl rfl rfl ?_
              refine r_get 188 hE 0 0 ok9 5 dX9_rule_185 rfl wd_1057 rfl rfl (by decide) rfl ?_
              refine r_iload 190 hE 0 dX9_rule_188 rfl rfl ?_
              refine r_iald 191 hE 1 0 dX9_rule_190 rfl rfl rfl (by omega) ?_
              refine r_iconst 192 hE dX9_rule_191 rfl ?_
              refine r_icmp_ne 195 205 hE dX9_rule_192 rfl (by decide) (by omega) (fun c192 => ?_) (fun c192 => ?_)
              · skip
                have hsx : 0 ≤ tw9_36 (cm9_36 k_) ∧ tw9_36 (cm9_36 k_) < mr9_36 := by omega
                refine r_aload_n 206 hE 2 dX9_rule_205 rfl rfl rfl ?_
                refine r_get 209 hE 0 0 ok9 17 dX9_rule_206 rfl wd_1069 rfl rfl (by decide) rfl ?_
                refine r_aload_n 210 hE 2 dX9_rule_209 rfl rfl rfl ?_
                refine r_get 213 hE 0 0 ok9 7 dX9_rule_210 rfl wd_1059 rfl rfl (by decide) rfl ?_
                refine r_iload 215 hE 0 dX9_rule_213 rfl rfl ?_
                refine r_iald 216 hE 1 2 dX9_rule_215 rfl rfl rfl (by omega) ?_
                refine r_iald 217 hE 3 0 dX9_rule_216 rfl rfl rfl (by omega) ?_
                refine r_callV 220 hE [0] [1, 2, 3, 4, 5, 6] [(wMo g mo mst mac mmk mr9_36 mrd9_36 mrm9_36 wc9_36 mtp msz mtk mbg men mls mvl mft mfp mfk mdp mto)] [(wMTab g mo kd9_36 on9_36 tw9_36 sg9_36 le9_36 de9_36 so9_36), (wMCom g mo cm9_36), (wMNum g mo nu9_36 fa9_36 of9_66), (wMRow g mo ro9_36), (wMAll g mo al), (wMHea g mo hp9_36 ha9_36)] 0 9 ok9 [] (c_X9_gives) dX9_rule_217 rfl rfl wd_1334 wd_1336 ws_79 wd_12 wd_1337 ne_X9 np_X9_gives (Nat.le_of_ble_eq_true rfl)  (by decide) (by decide) rfl (Nat.le_of_ble_eq_true rfl) rfl rfl rfl rfl (by decide) rfl (fun v1 f1 hp => ?_)
                obtain ⟨rfl, rfl⟩ := hp
                show G g E _ _ _ [(wMo g mo 0 mac mmk mr9_36 mrd9_36 mrm9_36 wc9_36 mtp msz mtk mbg men mls mvl mft mfp mfk mdp mto), (wMTab g mo kd9_36 on9_36 tw9_36 sg9_36 le9_36 de9_36 so9_36), (wMCom g mo cm9_36), (wMNum g mo nu9_36 fa9_36 of9_66), (wMRow g mo ro9_36), (wMAll g mo al), (wMHea g mo hp9_36 ha9_36)] 220 [(5, .int (iI (cm9_36 k_))), (4, .int (iI r_36)), (0, .ref (mo 0)), (1, .int (iI t)), (2, .int (iI k_)), (3, .int (iI v))] [.int (iI (nu9_36 (tw9_36 (cm9_36 k_))))]
                refine G.to (fs' := [(wMo g mo 0 mac mmk mr9_36 mrd9_36 mrm9_36 wc9_36 mtp msz mtk mbg men mls mvl mft mfp mfk mdp mto), (wMTab g mo kd9_36 on9_36 tw9_36 sg9_36 le9_36 de9_36 so9_36), (wMRow g mo ro9_36), (wMAll g mo al), (wMCom g mo cm9_36), (wMNum g mo nu9_36 fa9_36 of9_66), (wMHea g mo hp9_36 ha9_36)]) [0, 1, 4, 5, 2, 3, 6] [0, 1, 2, 3, 4, 5] rfl rfl rfl ?_
                refine r_ireturn hE hR [(wMo g mo 0 mac mmk mr9_36 mrd9_36 mrm9_36 wc9_36 mtp msz mtk mbg men mls mvl mft mfp mfk mdp mto), (wMTab g mo kd9_36 on9_36 tw9_36 sg9_36 le9_36 de9_36 so9_36), (wMRow g mo ro9_36), (wMAll g mo al), (wMCom g mo cm9_36), (wMNum g mo nu9_36 fa9_36 of9_66), (wMHea g mo hp9_36 ha9_36)] dX9_rule_220 (Nat.le_of_ble_eq_true rfl) (Nat.le_of_ble_eq_true rfl) rfl ?_
                first
                  | exact ⟨kd9_36, on9_36, tw9_36, sg9_36, le9_36, de9_36, so9_36, mr9_36, R9_36, ro9_36, mrd9_36, mrm9_36, nu9_36, fa9_36, of9_66, cm9_36, hp9_36, ha9_36, wc9_36, _, _, rfl, rfl, Or.inr (Or.inr ⟨by omega, c25, R9_36 r_36, mrd9_36, h36_2, Or.inr ⟨by omega, ⟨_, _, hck.2, Or.inr (Or.inr (Or.inr (Or.inl ⟨by omega, hxr.p2 (fun _ => rfl) (fun q => by omega) (fun q => by omega)⟩)))⟩, rfl⟩⟩)⟩
                  | exact ⟨kd9_36, on9_36, tw9_36, sg9_36, le9_36, de9_36, so9_36, mr9_36, R9_36, ro9_36, mrd9_36, mrm9_36, nu9_36, fa9_36, of9_66, cm9_36, hp9_36, ha9_36, wc9_36, _, _, rfl, rfl, Or.inr (Or.inr ⟨by omega, c25, R9_36 r_36, mrd9_36, h36_2, Or.inr ⟨by omega, ⟨_, _, hck.2, Or.inr (Or.inr (Or.inr (Or.inl ⟨by omega, hxr.p2 (fun q => by omega) (fun _ => rfl) (fun q => by omega)⟩)))⟩, rfl⟩⟩)⟩
                  | exact ⟨kd9_36, on9_36, tw9_36, sg9_36, le9_36, de9_36, so9_36, mr9_36, R9_36, ro9_36, mrd9_36, mrm9_36, nu9_36, fa9_36, of9_66, cm9_36, hp9_36, ha9_36, wc9_36, _, _, rfl, rfl, Or.inr (Or.inr ⟨by omega, c25, R9_36 r_36, mrd9_36, h36_2, Or.inr ⟨by omega, ⟨_, _, hck.2, Or.inr (Or.inr (Or.inr (Or.inl ⟨by omega, hxr.p2 (fun q => by omega) (fun q => by omega) (fun q => h36_3.idx hsx (hprt.2 q))⟩)))⟩, rfl⟩⟩)⟩
              · skip
                refine r_aload_n 196 hE 2 dX9_rule_195 rfl rfl rfl ?_
                refine r_get 199 hE 0 0 ok9 7 dX9_rule_196 rfl wd_1059 rfl rfl (by decide) rfl ?_
                refine r_iload 201 hE 0 dX9_rule_199 rfl rfl ?_
                refine r_iald 202 hE 1 2 dX9_rule_201 rfl rfl rfl (by omega) ?_
                refine r_goto 217 hE dX9_rule_202 (by decide) ?_
                refine r_callV 220 hE [0] [1, 2, 3, 4, 5, 6] [(wMo g mo mst mac mmk mr9_36 mrd9_36 mrm9_36 wc9_36 mtp msz mtk mbg men mls mvl mft mfp mfk mdp mto)] [(wMTab g mo kd9_36 on9_36 tw9_36 sg9_36 le9_36 de9_36 so9_36), (wMCom g mo cm9_36), (wMNum g mo nu9_36 fa9_36 of9_66), (wMRow g mo ro9_36), (wMAll g mo al), (wMHea g mo hp9_36 ha9_36)] 0 9 ok9 [] (c_X9_gives) dX9_rule_217 rfl rfl wd_1334 wd_1336 ws_79 wd_12 wd_1337 ne_X9 np_X9_gives (Nat.le_of_ble_eq_true rfl)  (by decide) (by decide) rfl (Nat.le_of_ble_eq_true rfl) rfl rfl rfl rfl (by decide) rfl (fun v1 f1 hp => ?_)
                obtain ⟨rfl, rfl⟩ := hp
                show G g E _ _ _ [(wMo g mo 0 mac mmk mr9_36 mrd9_36 mrm9_36 wc9_36 mtp msz mtk mbg men mls mvl mft mfp mfk mdp mto), (wMTab g mo kd9_36 on9_36 tw9_36 sg9_36 le9_36 de9_36 so9_36), (wMCom g mo cm9_36), (wMNum g mo nu9_36 fa9_36 of9_66), (wMRow g mo ro9_36), (wMAll g mo al), (wMHea g mo hp9_36 ha9_36)] 220 [(5, .int (iI (cm9_36 k_))), (4, .int (iI r_36)), (0, .ref (mo 0)), (1, .int (iI t)), (2, .int (iI k_)), (3, .int (iI v))] [.int (iI (tw9_36 (cm9_36 k_)))]
                refine G.to (fs' := [(wMo g mo 0 mac mmk mr9_36 mrd9_36 mrm9_36 wc9_36 mtp msz mtk mbg men mls mvl mft mfp mfk mdp mto), (wMTab g mo kd9_36 on9_36 tw9_36 sg9_36 le9_36 de9_36 so9_36), (wMRow g mo ro9_36), (wMAll g mo al), (wMCom g mo cm9_36), (wMNum g mo nu9_36 fa9_36 of9_66), (wMHea g mo hp9_36 ha9_36)]) [0, 1, 4, 5, 2, 3, 6] [0, 1, 2, 3, 4, 5] rfl rfl rfl ?_
                refine r_ireturn hE hR [(wMo g mo 0 mac mmk mr9_36 mrd9_36 mrm9_36 wc9_36 mtp msz mtk mbg men mls mvl mft mfp mfk mdp mto), (wMTab g mo kd9_36 on9_36 tw9_36 sg9_36 le9_36 de9_36 so9_36), (wMRow g mo ro9_36), (wMAll g mo al), (wMCom g mo cm9_36), (wMNum g mo nu9_36 fa9_36 of9_66), (wMHea g mo hp9_36 ha9_36)] dX9_rule_220 (Nat.le_of_ble_eq_true rfl) (Nat.le_of_ble_eq_true rfl) rfl ?_
                first
                  | exact ⟨kd9_36, on9_36, tw9_36, sg9_36, le9_36, de9_36, so9_36, mr9_36, R9_36, ro9_36, mrd9_36, mrm9_36, nu9_36, fa9_36, of9_66, cm9_36, hp9_36, ha9_36, wc9_36, _, _, rfl, rfl, Or.inr (Or.inr ⟨by omega, c25, R9_36 r_36, mrd9_36, h36_2, Or.inr ⟨by omega, ⟨_, _, hck.2, Or.inr (Or.inr (Or.inr (Or.inl ⟨by omega, hxr.p2 (fun _ => rfl) (fun q => by omega) (fun q => by omega)⟩)))⟩, rfl⟩⟩)⟩
                  | exact ⟨kd9_36, on9_36, tw9_36, sg9_36, le9_36, de9_36, so9_36, mr9_36, R9_36, ro9_36, mrd9_36, mrm9_36, nu9_36, fa9_36, of9_66, cm9_36, hp9_36, ha9_36, wc9_36, _, _, rfl, rfl, Or.inr (Or.inr ⟨by omega, c25, R9_36 r_36, mrd9_36, h36_2, Or.inr ⟨by omega, ⟨_, _, hck.2, Or.inr (Or.inr (Or.inr (Or.inl ⟨by omega, hxr.p2 (fun q => by omega) (fun _ => rfl) (fun q => by omega)⟩)))⟩, rfl⟩⟩)⟩
                  | exact ⟨kd9_36, on9_36, tw9_36, sg9_36, le9_36, de9_36, so9_36, mr9_36, R9_36, ro9_36, mrd9_36, mrm9_36, nu9_36, fa9_36, of9_66, cm9_36, hp9_36, ha9_36, wc9_36, _, _, rfl, rfl, Or.inr (Or.inr ⟨by omega, c25, R9_36 r_36, mrd9_36, h36_2, Or.inr ⟨by omega, ⟨_, _, hck.2, Or.inr (Or.inr (Or.inr (Or.inl ⟨by omega, hxr.p2 (fun q => by omega) (fun q => by omega) (fun q => h36_3.idx hsx (hprt.2 q))⟩)))⟩, rfl⟩⟩)⟩
            · skip
              refine r_iconst 181 hE dX9_rule_180 rfl ?_
              refine r_goto 217 hE dX9_rule_181 (by decide) ?_
              refine r_callV 220 hE [0] [1, 2, 3, 4, 5, 6] [(wMo g mo mst mac mmk mr9_36 mrd9_36 mrm9_36 wc9_36 mtp msz mtk mbg men mls mvl mft mfp mfk mdp mto)] [(wMTab g mo kd9_36 on9_36 tw9_36 sg9_36 le9_36 de9_36 so9_36), (wMCom g mo cm9_36), (wMNum g mo nu9_36 fa9_36 of9_66), (wMRow g mo ro9_36), (wMAll g mo al), (wMHea g mo hp9_36 ha9_36)] 0 9 ok9 [] (c_X9_gives) dX9_rule_217 rfl rfl wd_1334 wd_1336 ws_79 wd_12 wd_1337 ne_X9 np_X9_gives (Nat.le_of_ble_eq_true rfl)  (by decide) (by decide) rfl (Nat.le_of_ble_eq_true rfl) rfl rfl rfl rfl (by decide) rfl (fun v1 f1 hp => ?_)
              obtain ⟨rfl, rfl⟩ := hp
              show G g E _ _ _ [(wMo g mo 0 mac mmk mr9_36 mrd9_36 mrm9_36 wc9_36 mtp msz mtk mbg men mls mvl mft mfp mfk mdp mto), (wMTab g mo kd9_36 on9_36 tw9_36 sg9_36 le9_36 de9_36 so9_36), (wMCom g mo cm9_36), (wMNum g mo nu9_36 fa9_36 of9_66), (wMRow g mo ro9_36), (wMAll g mo al), (wMHea g mo hp9_36 ha9_36)] 220 [(5, .int (iI (cm9_36 k_))), (4, .int (iI r_36)), (0, .ref (mo 0)), (1, .int (iI t)), (2, .int (iI k_)), (3, .int (iI v))] [.int (iI (-1))]
              refine G.to (fs' := [(wMo g mo 0 mac mmk mr9_36 mrd9_36 mrm9_36 wc9_36 mtp msz mtk mbg men mls mvl mft mfp mfk mdp mto), (wMTab g mo kd9_36 on9_36 tw9_36 sg9_36 le9_36 de9_36 so9_36), (wMRow g mo ro9_36), (wMAll g mo al), (wMCom g mo cm9_36), (wMNum g mo nu9_36 fa9_36 of9_66), (wMHea g mo hp9_36 ha9_36)]) [0, 1, 4, 5, 2, 3, 6] [0, 1, 2, 3, 4, 5] rfl rfl rfl ?_
              refine r_ireturn hE hR [(wMo g mo 0 mac mmk mr9_36 mrd9_36 mrm9_36 wc9_36 mtp msz mtk mbg men mls mvl mft mfp mfk mdp mto), (wMTab g mo kd9_36 on9_36 tw9_36 sg9_36 le9_36 de9_36 so9_36), (wMRow g mo ro9_36), (wMAll g mo al), (wMCom g mo cm9_36), (wMNum g mo nu9_36 fa9_36 of9_66), (wMHea g mo hp9_36 ha9_36)] dX9_rule_220 (Nat.le_of_ble_eq_true rfl) (Nat.le_of_ble_eq_true rfl) rfl ?_
              first
                | exact ⟨kd9_36, on9_36, tw9_36, sg9_36, le9_36, de9_36, so9_36, mr9_36, R9_36, ro9_36, mrd9_36, mrm9_36, nu9_36, fa9_36, of9_66, cm9_36, hp9_36, ha9_36, wc9_36, _, _, rfl, rfl, Or.inr (Or.inr ⟨by omega, c25, R9_36 r_36, mrd9_36, h36_2, Or.inr ⟨by omega, ⟨_, _, hck.2, Or.inr (Or.inr (Or.inr (Or.inl ⟨by omega, hxr.p2 (fun _ => rfl) (fun q => by omega) (fun q => by omega)⟩)))⟩, rfl⟩⟩)⟩
                | exact ⟨kd9_36, on9_36, tw9_36, sg9_36, le9_36, de9_36, so9_36, mr9_36, R9_36, ro9_36, mrd9_36, mrm9_36, nu9_36, fa9_36, of9_66, cm9_36, hp9_36, ha9_36, wc9_36, _, _, rfl, rfl, Or.inr (Or.inr ⟨by omega, c25, R9_36 r_36, mrd9_36, h36_2, Or.inr ⟨by omega, ⟨_, _, hck.2, Or.inr (Or.inr (Or.inr (Or.inl ⟨by omega, hxr.p2 (fun q => by omega) (fun _ => rfl) (fun q => by omega)⟩)))⟩, rfl⟩⟩)⟩
                | exact ⟨kd9_36, on9_36, tw9_36, sg9_36, le9_36, de9_36, so9_36, mr9_36, R9_36, ro9_36, mrd9_36, mrm9_36, nu9_36, fa9_36, of9_66, cm9_36, hp9_36, ha9_36, wc9_36, _, _, rfl, rfl, Or.inr (Or.inr ⟨by omega, c25, R9_36 r_36, mrd9_36, h36_2, Or.inr ⟨by omega, ⟨_, _, hck.2, Or.inr (Or.inr (Or.inr (Or.inl ⟨by omega, hxr.p2 (fun q => by omega) (fun q => by omega) (fun q => h36_3.idx hsx (hprt.2 q))⟩)))⟩, rfl⟩⟩)⟩
          have sw70_3 := sw70
          by_cases sw70 : (v : Int) = 4
          · skip
            refine r_tsIn 221 hE 4 dX9_rule_70 (sw70) (by decide) rfl (by decide) ?_
            refine r_aload_n 222 hE 2 dX9_rule_221 rfl rfl rfl ?_
            refine r_aload_n 223 hE 2 dX9_rule_222 rfl rfl rfl ?_
            refine r_get 226 hE 0 0 ok9 19 dX9_rule_223 rfl wd_1071 rfl rfl (by decide) rfl ?_
            refine r_iload 228 hE 0 dX9_rule_226 rfl rfl ?_
            refine r_iald 229 hE 3 2 dX9_rule_228 rfl rfl rfl (by omega) ?_
            refine r_callV 232 hE [0] [1, 2, 3, 4, 5, 6] [(wMo g mo mst mac mmk mr9_36 mrd9_36 mrm9_36 wc9_36 mtp msz mtk mbg men mls mvl mft mfp mfk mdp mto)] [(wMTab g mo kd9_36 on9_36 tw9_36 sg9_36 le9_36 de9_36 so9_36), (wMCom g mo cm9_36), (wMNum g mo nu9_36 fa9_36 of9_66), (wMRow g mo ro9_36), (wMAll g mo al), (wMHea g mo hp9_36 ha9_36)] 0 9 ok9 [] (c_X9_gives) dX9_rule_229 rfl rfl wd_1334 wd_1336 ws_79 wd_12 wd_1337 ne_X9 np_X9_gives (Nat.le_of_ble_eq_true rfl)  (by decide) (by decide) rfl (Nat.le_of_ble_eq_true rfl) rfl rfl rfl rfl (by decide) rfl (fun v1 f1 hp => ?_)
            obtain ⟨rfl, rfl⟩ := hp
            show G g E _ _ _ [(wMo g mo 0 mac mmk mr9_36 mrd9_36 mrm9_36 wc9_36 mtp msz mtk mbg men mls mvl mft mfp mfk mdp mto), (wMTab g mo kd9_36 on9_36 tw9_36 sg9_36 le9_36 de9_36 so9_36), (wMCom g mo cm9_36), (wMNum g mo nu9_36 fa9_36 of9_66), (wMRow g mo ro9_36), (wMAll g mo al), (wMHea g mo hp9_36 ha9_36)] 232 [(5, .int (iI (cm9_36 k_))), (4, .int (iI r_36)), (0, .ref (mo 0)), (1, .int (iI t)), (2, .int (iI k_)), (3, .int (iI v))] [.int (iI (of9_66 (cm9_36 k_)))]
            refine G.to (fs' := [(wMo g mo 0 mac mmk mr9_36 mrd9_36 mrm9_36 wc9_36 mtp msz mtk mbg men mls mvl mft mfp mfk mdp mto), (wMTab g mo kd9_36 on9_36 tw9_36 sg9_36 le9_36 de9_36 so9_36), (wMRow g mo ro9_36), (wMAll g mo al), (wMCom g mo cm9_36), (wMNum g mo nu9_36 fa9_36 of9_66), (wMHea g mo hp9_36 ha9_36)]) [0, 1, 4, 5, 2, 3, 6] [0, 1, 2, 3, 4, 5] rfl rfl rfl ?_
            refine r_ireturn hE hR [(wMo g mo 0 mac mmk mr9_36 mrd9_36 mrm9_36 wc9_36 mtp msz mtk mbg men mls mvl mft mfp mfk mdp mto), (wMTab g mo kd9_36 on9_36 tw9_36 sg9_36 le9_36 de9_36 so9_36), (wMRow g mo ro9_36), (wMAll g mo al), (wMCom g mo cm9_36), (wMNum g mo nu9_36 fa9_36 of9_66), (wMHea g mo hp9_36 ha9_36)] dX9_rule_232 (Nat.le_of_ble_eq_true rfl) (Nat.le_of_ble_eq_true rfl) rfl ?_
            exact ⟨kd9_36, on9_36, tw9_36, sg9_36, le9_36, de9_36, so9_36, mr9_36, R9_36, ro9_36, mrd9_36, mrm9_36, nu9_36, fa9_36, of9_66, cm9_36, hp9_36, ha9_36, wc9_36, _, _, rfl, rfl, Or.inr (Or.inr ⟨by omega, c25, R9_36 r_36, mrd9_36, h36_2, Or.inr ⟨by omega, ⟨_, _, hck.2, Or.inr (Or.inr (Or.inr (Or.inr (Or.inl ⟨by omega, h66_0 k_ (by omega) (by omega)⟩))))⟩, rfl⟩⟩)⟩
          have sw70_4 := sw70
          by_cases sw70 : (v : Int) = 5
          · skip
            refine r_tsIn 233 hE 5 dX9_rule_70 (sw70) (by decide) rfl (by decide) ?_
            refine r_aload_n 234 hE 2 dX9_rule_233 rfl rfl rfl ?_
            refine r_aload_n 235 hE 2 dX9_rule_234 rfl rfl rfl ?_
            refine r_get 238 hE 0 0 ok9 8 dX9_rule_235 rfl wd_1060 rfl rfl (by decide) rfl ?_
            refine r_iload 240 hE 0 dX9_rule_238 rfl rfl ?_
            refine r_iald 241 hE 1 3 dX9_rule_240 rfl rfl rfl (by omega) ?_
            refine r_callV 244 hE [0] [1, 2, 3, 4, 5, 6] [(wMo g mo mst mac mmk mr9_36 mrd9_36 mrm9_36 wc9_36 mtp msz mtk mbg men mls mvl mft mfp mfk mdp mto)] [(wMTab g mo kd9_36 on9_36 tw9_36 sg9_36 le9_36 de9_36 so9_36), (wMCom g mo cm9_36), (wMNum g mo nu9_36 fa9_36 of9_66), (wMRow g mo ro9_36), (wMAll g mo al), (wMHea g mo hp9_36 ha9_36)] 0 9 ok9 [] (c_X9_gives) dX9_rule_241 rfl rfl wd_1334 wd_1336 ws_79 wd_12 wd_1337 ne_X9 np_X9_gives (Nat.le_of_ble_eq_true rfl)  (by decide) (by decide) rfl (Nat.le_of_ble_eq_true rfl) rfl rfl rfl rfl (by decide) rfl (fun v1 f1 hp => ?_)
            obtain ⟨rfl, rfl⟩ := hp
            show G g E _ _ _ [(wMo g mo 0 mac mmk mr9_36 mrd9_36 mrm9_36 wc9_36 mtp msz mtk mbg men mls mvl mft mfp mfk mdp mto), (wMTab g mo kd9_36 on9_36 tw9_36 sg9_36 le9_36 de9_36 so9_36), (wMCom g mo cm9_36), (wMNum g mo nu9_36 fa9_36 of9_66), (wMRow g mo ro9_36), (wMAll g mo al), (wMHea g mo hp9_36 ha9_36)] 244 [(5, .int (iI (cm9_36 k_))), (4, .int (iI r_36)), (0, .ref (mo 0)), (1, .int (iI t)), (2, .int (iI k_)), (3, .int (iI v))] [.int (iI (sg9_36 (cm9_36 k_)))]
            refine G.to (fs' := [(wMo g mo 0 mac mmk mr9_36 mrd9_36 mrm9_36 wc9_36 mtp msz mtk mbg men mls mvl mft mfp mfk mdp mto), (wMTab g mo kd9_36 on9_36 tw9_36 sg9_36 le9_36 de9_36 so9_36), (wMRow g mo ro9_36), (wMAll g mo al), (wMCom g mo cm9_36), (wMNum g mo nu9_36 fa9_36 of9_66), (wMHea g mo hp9_36 ha9_36)]) [0, 1, 4, 5, 2, 3, 6] [0, 1, 2, 3, 4, 5] rfl rfl rfl ?_
            refine r_ireturn hE hR [(wMo g mo 0 mac mmk mr9_36 mrd9_36 mrm9_36 wc9_36 mtp msz mtk mbg men mls mvl mft mfp mfk mdp mto), (wMTab g mo kd9_36 on9_36 tw9_36 sg9_36 le9_36 de9_36 so9_36), (wMRow g mo ro9_36), (wMAll g mo al), (wMCom g mo cm9_36), (wMNum g mo nu9_36 fa9_36 of9_66), (wMHea g mo hp9_36 ha9_36)] dX9_rule_244 (Nat.le_of_ble_eq_true rfl) (Nat.le_of_ble_eq_true rfl) rfl ?_
            exact ⟨kd9_36, on9_36, tw9_36, sg9_36, le9_36, de9_36, so9_36, mr9_36, R9_36, ro9_36, mrd9_36, mrm9_36, nu9_36, fa9_36, of9_66, cm9_36, hp9_36, ha9_36, wc9_36, _, _, rfl, rfl, Or.inr (Or.inr ⟨by omega, c25, R9_36 r_36, mrd9_36, h36_2, Or.inr ⟨by omega, ⟨_, _, hck.2, Or.inr (Or.inr (Or.inr (Or.inr (Or.inr (Or.inl ⟨by omega, hxr.2.1⟩)))))⟩, rfl⟩⟩)⟩
          have sw70_5 := sw70
          refine r_tsOut 245 hE dX9_rule_70 (by omega) (by decide) ?_
          refine r_aload_n 246 hE 2 dX9_rule_245 rfl rfl rfl ?_
          refine r_aload_n 247 hE 2 dX9_rule_246 rfl rfl rfl ?_
          refine r_get 250 hE 0 0 ok9 18 dX9_rule_247 rfl wd_1070 rfl rfl (by decide) rfl ?_
          refine r_iload 252 hE 0 dX9_rule_250 rfl rfl ?_
          refine r_iald 253 hE 3 1 dX9_rule_252 rfl rfl rfl (by omega) ?_
          refine r_callV 256 hE [0] [1, 2, 3, 4, 5, 6] [(wMo g mo mst mac mmk mr9_36 mrd9_36 mrm9_36 wc9_36 mtp msz mtk mbg men mls mvl mft mfp mfk mdp mto)] [(wMTab g mo kd9_36 on9_36 tw9_36 sg9_36 le9_36 de9_36 so9_36), (wMCom g mo cm9_36), (wMNum g mo nu9_36 fa9_36 of9_66), (wMRow g mo ro9_36), (wMAll g mo al), (wMHea g mo hp9_36 ha9_36)] 0 9 ok9 [] (c_X9_gives) dX9_rule_253 rfl rfl wd_1334 wd_1336 ws_79 wd_12 wd_1337 ne_X9 np_X9_gives (Nat.le_of_ble_eq_true rfl)  (by decide) (by decide) rfl (Nat.le_of_ble_eq_true rfl) rfl rfl rfl rfl (by decide) rfl (fun v1 f1 hp => ?_)
          obtain ⟨rfl, rfl⟩ := hp
          show G g E _ _ _ [(wMo g mo 0 mac mmk mr9_36 mrd9_36 mrm9_36 wc9_36 mtp msz mtk mbg men mls mvl mft mfp mfk mdp mto), (wMTab g mo kd9_36 on9_36 tw9_36 sg9_36 le9_36 de9_36 so9_36), (wMCom g mo cm9_36), (wMNum g mo nu9_36 fa9_36 of9_66), (wMRow g mo ro9_36), (wMAll g mo al), (wMHea g mo hp9_36 ha9_36)] 256 [(5, .int (iI (cm9_36 k_))), (4, .int (iI r_36)), (0, .ref (mo 0)), (1, .int (iI t)), (2, .int (iI k_)), (3, .int (iI v))] [.int (iI (fa9_36 (cm9_36 k_)))]
          refine G.to (fs' := [(wMo g mo 0 mac mmk mr9_36 mrd9_36 mrm9_36 wc9_36 mtp msz mtk mbg men mls mvl mft mfp mfk mdp mto), (wMTab g mo kd9_36 on9_36 tw9_36 sg9_36 le9_36 de9_36 so9_36), (wMRow g mo ro9_36), (wMAll g mo al), (wMCom g mo cm9_36), (wMNum g mo nu9_36 fa9_36 of9_66), (wMHea g mo hp9_36 ha9_36)]) [0, 1, 4, 5, 2, 3, 6] [0, 1, 2, 3, 4, 5] rfl rfl rfl ?_
          refine r_ireturn hE hR [(wMo g mo 0 mac mmk mr9_36 mrd9_36 mrm9_36 wc9_36 mtp msz mtk mbg men mls mvl mft mfp mfk mdp mto), (wMTab g mo kd9_36 on9_36 tw9_36 sg9_36 le9_36 de9_36 so9_36), (wMRow g mo ro9_36), (wMAll g mo al), (wMCom g mo cm9_36), (wMNum g mo nu9_36 fa9_36 of9_66), (wMHea g mo hp9_36 ha9_36)] dX9_rule_256 (Nat.le_of_ble_eq_true rfl) (Nat.le_of_ble_eq_true rfl) rfl ?_
          exact ⟨kd9_36, on9_36, tw9_36, sg9_36, le9_36, de9_36, so9_36, mr9_36, R9_36, ro9_36, mrd9_36, mrm9_36, nu9_36, fa9_36, of9_66, cm9_36, hp9_36, ha9_36, wc9_36, _, _, rfl, rfl, Or.inr (Or.inr ⟨by omega, c25, R9_36 r_36, mrd9_36, h36_2, Or.inr ⟨by omega, ⟨_, _, hck.2, Or.inr (Or.inr (Or.inr (Or.inr (Or.inr (Or.inr (⟨by omega, rfl⟩))))))⟩, rfl⟩⟩)⟩
        · skip
          refine r_aload_n 50 hE 1 dX9_rule_49 rfl rfl rfl ?_
          refine r_iconst 51 hE dX9_rule_50 rfl ?_
          refine r_callV 54 hE [0] [1, 2, 3, 4, 5, 6] [(wMo g mo mst mac mmk mr9_36 mrd9_36 mrm9_36 wc9_36 mtp msz mtk mbg men mls mvl mft mfp mfk mdp mto)] [(wMTab g mo kd9_36 on9_36 tw9_36 sg9_36 le9_36 de9_36 so9_36), (wMRow g mo ro9_36), (wMAll g mo al), (wMCom g mo cm9_36), (wMNum g mo nu9_36 fa9_36 of9_36), (wMHea g mo hp9_36 ha9_36)] 0 9 ok9 [] (c_X9_refuse) dX9_rule_51 rfl rfl wd_1186 wd_1188 ws_47 wd_12 wd_1189 ne_X9 np_X9_refuse (Nat.le_of_ble_eq_true rfl)  (by decide) (by decide) rfl (Nat.le_of_ble_eq_true rfl) rfl rfl rfl rfl (by decide) rfl (fun v1 f1 hp => ?_)
          obtain ⟨rfl, rfl⟩ := hp
          show G g E _ _ _ [(wMo g mo 5 mac mmk mr9_36 mrd9_36 mrm9_36 wc9_36 mtp msz mtk mbg men mls mvl mft mfp mfk mdp mto), (wMTab g mo kd9_36 on9_36 tw9_36 sg9_36 le9_36 de9_36 so9_36), (wMRow g mo ro9_36), (wMAll g mo al), (wMCom g mo cm9_36), (wMNum g mo nu9_36 fa9_36 of9_36), (wMHea g mo hp9_36 ha9_36)] 54 [(4, .int (iI r_36)), (0, .ref (mo 0)), (1, .int (iI t)), (2, .int (iI k_)), (3, .int (iI v))] [.int (iI (-1))]
          refine r_ireturn hE hR [(wMo g mo 5 mac mmk mr9_36 mrd9_36 mrm9_36 wc9_36 mtp msz mtk mbg men mls mvl mft mfp mfk mdp mto), (wMTab g mo kd9_36 on9_36 tw9_36 sg9_36 le9_36 de9_36 so9_36), (wMRow g mo ro9_36), (wMAll g mo al), (wMCom g mo cm9_36), (wMNum g mo nu9_36 fa9_36 of9_36), (wMHea g mo hp9_36 ha9_36)] dX9_rule_54 (Nat.le_of_ble_eq_true rfl) (Nat.le_of_ble_eq_true rfl) rfl ?_
          exact ⟨kd9_36, on9_36, tw9_36, sg9_36, le9_36, de9_36, so9_36, mr9_36, R9_36, ro9_36, mrd9_36, mrm9_36, nu9_36, fa9_36, of9_36, cm9_36, hp9_36, ha9_36, wc9_36, _, _, rfl, rfl, Or.inr (Or.inr ⟨by omega, c25, R9_36 r_36, mrd9_36, h36_2, Or.inl ⟨by omega, rfl, rfl⟩⟩)⟩
      · skip
        have c25 := bI0 c25
        refine r_aload_n 29 hE 0 dX9_rule_28 rfl rfl rfl ?_
        refine r_iconst 30 hE dX9_rule_29 rfl ?_
        refine r_callV 33 hE [0] [1, 2, 3, 4, 5, 6] [(wMo g mo mst mac mmk mr mrd mrm mcm mtp msz mtk mbg men mls mvl mft mfp mfk mdp mto)] [(wMAll g mo al), (wMTab g mo kd on tw sg le de so), (wMRow g mo ro), (wMCom g mo cm), (wMNum g mo nu fa oft), (wMHea g mo hp ha)] 0 9 ok9 [] (c_X9_refuse) dX9_rule_30 rfl rfl wd_1186 wd_1188 ws_47 wd_12 wd_1189 ne_X9 np_X9_refuse (Nat.le_of_ble_eq_true rfl)  (by decide) (by decide) rfl (Nat.le_of_ble_eq_true rfl) rfl rfl rfl rfl (by decide) rfl (fun v1 f1 hp => ?_)
        obtain ⟨rfl, rfl⟩ := hp
        show G g E _ _ _ [(wMo g mo 2 mac mmk mr mrd mrm mcm mtp msz mtk mbg men mls mvl mft mfp mfk mdp mto), (wMAll g mo al), (wMTab g mo kd on tw sg le de so), (wMRow g mo ro), (wMCom g mo cm), (wMNum g mo nu fa oft), (wMHea g mo hp ha)] 33 [(0, .ref (mo 0)), (1, .int (iI t)), (2, .int (iI k_)), (3, .int (iI v))] [.int (iI (-1))]
        refine G.to (fs' := [(wMo g mo 2 mac mmk mr mrd mrm mcm mtp msz mtk mbg men mls mvl mft mfp mfk mdp mto), (wMTab g mo kd on tw sg le de so), (wMRow g mo ro), (wMAll g mo al), (wMCom g mo cm), (wMNum g mo nu fa oft), (wMHea g mo hp ha)]) [0, 2, 3, 1, 4, 5, 6] [0, 1, 2, 3] rfl rfl rfl ?_
        refine r_ireturn hE hR [(wMo g mo 2 mac mmk mr mrd mrm mcm mtp msz mtk mbg men mls mvl mft mfp mfk mdp mto), (wMTab g mo kd on tw sg le de so), (wMRow g mo ro), (wMAll g mo al), (wMCom g mo cm), (wMNum g mo nu fa oft), (wMHea g mo hp ha)] dX9_rule_33 (Nat.le_of_ble_eq_true rfl) (Nat.le_of_ble_eq_true rfl) rfl ?_
        exact ⟨kd, on, tw, sg, le, de, so, mr, R, ro, mrd, mrm, nu, fa, oft, cm, hp, ha, mcm, _, _, rfl, rfl, Or.inr (Or.inl ⟨by omega, c25, rfl, rfl⟩)⟩
    · skip
      have c11 := bI0 c11
      refine r_aload_n 15 hE 0 dX9_rule_14 rfl rfl rfl ?_
      refine r_iconst 16 hE dX9_rule_15 rfl ?_
      refine r_callV 19 hE [0] [1, 2, 3, 4, 5, 6] [(wMo g mo mst mac mmk mr mrd mrm mcm mtp msz mtk mbg men mls mvl mft mfp mfk mdp mto)] [(wMTab g mo kd on tw sg le de so), (wMRow g mo ro), (wMAll g mo al), (wMCom g mo cm), (wMNum g mo nu fa oft), (wMHea g mo hp ha)] 0 9 ok9 [] (c_X9_refuse) dX9_rule_16 rfl rfl wd_1186 wd_1188 ws_47 wd_12 wd_1189 ne_X9 np_X9_refuse (Nat.le_of_ble_eq_true rfl)  (by decide) (by decide) rfl (Nat.le_of_ble_eq_true rfl) rfl rfl rfl rfl (by decide) rfl (fun v1 f1 hp => ?_)
      obtain ⟨rfl, rfl⟩ := hp
      show G g E _ _ _ [(wMo g mo 1 mac mmk mr mrd mrm mcm mtp msz mtk mbg men mls mvl mft mfp mfk mdp mto), (wMTab g mo kd on tw sg le de so), (wMRow g mo ro), (wMAll g mo al), (wMCom g mo cm), (wMNum g mo nu fa oft), (wMHea g mo hp ha)] 19 [(0, .ref (mo 0)), (1, .int (iI t)), (2, .int (iI k_)), (3, .int (iI v))] [.int (iI (-1))]
      refine r_ireturn hE hR [(wMo g mo 1 mac mmk mr mrd mrm mcm mtp msz mtk mbg men mls mvl mft mfp mfk mdp mto), (wMTab g mo kd on tw sg le de so), (wMRow g mo ro), (wMAll g mo al), (wMCom g mo cm), (wMNum g mo nu fa oft), (wMHea g mo hp ha)] dX9_rule_19 (Nat.le_of_ble_eq_true rfl) (Nat.le_of_ble_eq_true rfl) rfl ?_
      exact ⟨kd, on, tw, sg, le, de, so, mr, R, ro, mrd, mrm, nu, fa, oft, cm, hp, ha, mcm, _, _, rfl, rfl, Or.inl ⟨by omega, rfl, rfl⟩⟩
