set_option maxHeartbeats 4000000 in
set_option maxRecDepth 100000 in
theorem c_X9_core_0 {g : Gm} {mo : Nat → Nat} {mst mac mmk mr mrd mrm mcm mtp msz mtk mbg men mls mvl mft mfp mfk mdp mto : Int} {al tt pl : Int → Int} {k c : Nat} (hB : BR tt) (hn : 0 ≤ msz ∧ msz ≤ 900) (hM : MTx al) (hG : BkG (bkOf tt msz) (tsF (mF al) (mN al) (al 0)) c) (hkc : k ≤ c) (hRd : RdAt tt msz k mtk mbg men mls mvl) (hf0 : mft = 0) (hdp : mdp = 6 - ((0 : Nat) : Int) ∧ 0 ≤ 6) (hto : 0 ≤ mto ∧ mto ≤ 600 * (7 - ((0 : Nat) : Int))) : Ct g 4 0 0 yX9_core cX9_core 5 (some .boolean) [.ref (mo 0)] [(wMo g mo mst mac mmk mr mrd mrm mcm mtp msz mtk mbg men mls mvl mft mfp mfk mdp mto), (wMAll g mo al), (wMTxt g mo tt), (wMPil g mo pl)] (fun v_ w_ => ∃ r9 : Int, ∃ tk9 : Int, ∃ bg9 : Int, ∃ en9 : Int, ∃ ls9 : Int, ∃ vl9 : Int, ∃ ft9 : Int, ∃ fp9 : Int, ∃ dp9 : Int, ∃ to9 : Int, ∃ pl9 : Int → Int, v_ = some (.int (iI r9)) ∧ w_ = [(wMo g mo mst mac mmk mr mrd mrm mcm mtp msz tk9 bg9 en9 ls9 vl9 ft9 fp9 mfk dp9 to9), (wMAll g mo al), (wMTxt g mo tt), (wMPil g mo pl9)] ∧ (PrR (core (bkOf tt msz) (tsF (mF al) (mN al) (al 0)) 0 k) tt msz pl mto mdp mfp r9 tk9 bg9 en9 ls9 vl9 ft9 fp9 dp9 to9 pl9) ∧ (0 ≤ r9 ∧ r9 ≤ 1)) := by
  refine Ct.of (by decide) (Nat.le_of_ble_eq_true rfl) (lv := [(0, .ref (mo 0))]) rfl ?_
  intro E hE hR hnm
  have hc := hM.1
  have hTl := tsF_len (mF al) (mN al) hc.1
  have hk1 := hRd.1.2.2
  have hk2 := hRd.tr
  have hk3 := hRd.2.2.2.2.1
  have cut50 : ∀ (N : Nat) (tk4 : Int) (bg4 : Int) (en4 : Int) (ls4 : Int) (vl4 : Int) (ft4 : Int) (fp4 : Int) (i : Int) (pl9 : Int → Int), (RdAt tt msz (k + 1) tk4 bg4 en4 ls4 vl4) → (ft4 = 0) → (fp4 = mfp) → ((bkOf tt msz).K k = 35) → (numE (bkOf tt msz) (k + 1) 0 (((tsF (mF al) (mN al) (al 0)).length : Int) - 1) 3 = .ok vl4) → (k + 1 ≤ c) → (0 ≤ vl4 ∧ vl4 < al 0) → (0 ≤ i ∧ i ≤ mN al vl4) → (∀ q, 0 ≤ q → q < i → pl9 (mto + q) = mF al vl4 q) → (∀ j, ¬ (mto ≤ j ∧ j < mto + i) → pl9 j = pl j) → (mN al vl4 - i).toNat < N → G g E 5 0 0 [(wMo g mo mst mac mmk mr mrd mrm mcm mtp msz tk4 bg4 en4 ls4 vl4 ft4 fp4 mfk mdp mto), (wMAll g mo al), (wMTxt g mo tt), (wMPil g mo pl9)] 50 [(0, .ref (mo 0)), (2, .int (iI i))] [] := by
    intro N
    induction N with
    | zero => intro tk4 bg4 en4 ls4 vl4 ft4 fp4 i pl9 _ _ _ _ _ _ _ _ _ _ hN; exact absurd hN (Nat.not_lt_zero _)
    | succ N ih50 =>
      intro tk4 bg4 en4 ls4 vl4 ft4 fp4 i pl9 hR4 hft4 hfq4 hK hn4 hc1 hvr hi g1 g2 hN
      have hlv := (hM.2 vl4 hvr.1 hvr.2).1
      have hvl4 := hR4.2.2.2.2.1
      refine r_iload_n 51 hE 1 dX9_core_50 rfl rfl rfl ?_
      refine r_aload_n 52 hE 0 dX9_core_51 rfl rfl rfl ?_
      refine r_aload_n 53 hE 0 dX9_core_52 rfl rfl rfl ?_
      refine r_get 56 hE 0 0 ok9 31 dX9_core_53 rfl wd_1083 rfl rfl (by decide) rfl ?_
      refine r_callV 59 hE [0, 1] [2, 3] [(wMo g mo mst mac mmk mr mrd mrm mcm mtp msz tk4 bg4 en4 ls4 vl4 ft4 fp4 mfk mdp mto), (wMAll g mo al)] [(wMTxt g mo tt), (wMPil g mo pl9)] 0 9 ok9 [.int (iI i)] (c_X9_sizeOf (by omega)) dX9_core_56 rfl rfl wd_1273 wd_1275 ws_65 wd_12 wd_1276 ne_X9 np_X9_sizeOf (Nat.le_of_ble_eq_true rfl)  (by decide) (by decide) rfl (Nat.le_of_ble_eq_true rfl) rfl rfl rfl rfl (by decide) rfl (fun v1 f1 hp => ?_)
      obtain ⟨rfl, rfl⟩ := hp
      show G g E _ _ _ [(wMo g mo mst mac mmk mr mrd mrm mcm mtp msz tk4 bg4 en4 ls4 vl4 ft4 fp4 mfk mdp mto), (wMAll g mo al), (wMTxt g mo tt), (wMPil g mo pl9)] 59 [(0, .ref (mo 0)), (2, .int (iI i))] [.int (iI (mN al vl4)), .int (iI i)]
      refine r_icmp_ge 62 88 hE dX9_core_59 rfl (by decide) (by omega) (fun c59 => ?_) (fun c59 => ?_)
      · skip
        have hv4 := numE_ok hn4
        have hK4 : tkK tt msz (k + 1) ≠ 1 := by show (bkOf tt msz).K (k + 1) ≠ 1; rw [hv4.1]; decide
        have hen4 := (hR4.2.2.1 hK4).2
        have hin : i = mN al vl4 := by omega
        rw [hin] at g1 g2
        refine r_aload_n 89 hE 0 dX9_core_88 rfl rfl rfl ?_
        refine r_dup 90 hE dX9_core_89 rfl rfl ?_
        refine r_get 93 hE 0 0 ok9 37 dX9_core_90 rfl wd_1089 rfl rfl (by decide) rfl ?_
        refine r_aload_n 94 hE 0 dX9_core_93 rfl rfl rfl ?_
        refine r_aload_n 95 hE 0 dX9_core_94 rfl rfl rfl ?_
        refine r_get 98 hE 0 0 ok9 31 dX9_core_95 rfl wd_1083 rfl rfl (by decide) rfl ?_
        refine r_callV 101 hE [0, 1] [2, 3] [(wMo g mo mst mac mmk mr mrd mrm mcm mtp msz tk4 bg4 en4 ls4 vl4 ft4 fp4 mfk mdp mto), (wMAll g mo al)] [(wMTxt g mo tt), (wMPil g mo pl9)] 0 9 ok9 [.int (iI mto), .ref (mo 0)] (c_X9_sizeOf (by omega)) dX9_core_98 rfl rfl wd_1273 wd_1275 ws_65 wd_12 wd_1276 ne_X9 np_X9_sizeOf (Nat.le_of_ble_eq_true rfl)  (by decide) (by decide) rfl (Nat.le_of_ble_eq_true rfl) rfl rfl rfl rfl (by decide) rfl (fun v1 f1 hp => ?_)
        obtain ⟨rfl, rfl⟩ := hp
        show G g E _ _ _ [(wMo g mo mst mac mmk mr mrd mrm mcm mtp msz tk4 bg4 en4 ls4 vl4 ft4 fp4 mfk mdp mto), (wMAll g mo al), (wMTxt g mo tt), (wMPil g mo pl9)] 101 [(0, .ref (mo 0)), (2, .int (iI i))] [.int (iI (mN al vl4)), .int (iI mto), .ref (mo 0)]
        refine r_iadd 102 hE (mto + (mN al vl4)) dX9_core_101 rfl rfl ?_
        refine r_put 105 hE 0 0 ok9 37 (wMo g mo mst mac mmk mr mrd mrm mcm mtp msz tk4 bg4 en4 ls4 vl4 ft4 fp4 mfk mdp (mto + (mN al vl4))) [(wMo g mo mst mac mmk mr mrd mrm mcm mtp msz tk4 bg4 en4 ls4 vl4 ft4 fp4 mfk mdp (mto + (mN al vl4))), (wMAll g mo al), (wMTxt g mo tt), (wMPil g mo pl9)] dX9_core_102 rfl wd_1089 rfl rfl (by decide) rfl rfl rfl (Nat.le_of_ble_eq_true rfl) rfl rfl ?_
        refine r_aload_n 106 hE 0 dX9_core_105 rfl rfl rfl ?_
        refine r_callV 109 hE [0, 2] [1, 3] [(wMo g mo mst mac mmk mr mrd mrm mcm mtp msz tk4 bg4 en4 ls4 vl4 ft4 fp4 mfk mdp (mto + (mN al vl4))), (wMTxt g mo tt)] [(wMAll g mo al), (wMPil g mo pl9)] 0 9 ok9 [] (c_X9_takes (hB) (hn) (hen4)) dX9_core_106 rfl rfl wd_1249 wd_1251 ws_59 wd_12 wd_1252 ne_X9 np_X9_takes (Nat.le_of_ble_eq_true rfl)  (by decide) (by decide) rfl (Nat.le_of_ble_eq_true rfl) rfl rfl rfl rfl (by decide) rfl (fun v1 f1 hp => ?_)
        obtain ⟨tk9_106, bg9_106, en9_106, vl9_106, rfl, rfl, h106_0⟩ := hp
        show G g E _ _ _ [(wMo g mo mst mac mmk mr mrd mrm mcm mtp msz tk9_106 bg9_106 en9_106 bg4 vl9_106 ft4 fp4 mfk mdp (mto + (mN al vl4))), (wMTxt g mo tt), (wMAll g mo al), (wMPil g mo pl9)] 109 [(0, .ref (mo 0)), (2, .int (iI i))] [.int (iI 1)]
        refine G.to (fs' := [(wMo g mo mst mac mmk mr mrd mrm mcm mtp msz tk9_106 bg9_106 en9_106 bg4 vl9_106 ft4 fp4 mfk mdp (mto + (mN al vl4))), (wMAll g mo al), (wMTxt g mo tt), (wMPil g mo pl9)]) [0, 2, 1, 3] [0, 1] rfl rfl rfl ?_
        refine r_zreturn hE hR [(wMo g mo mst mac mmk mr mrd mrm mcm mtp msz tk9_106 bg9_106 en9_106 bg4 vl9_106 ft4 fp4 mfk mdp (mto + (mN al vl4))), (wMAll g mo al), (wMTxt g mo tt), (wMPil g mo pl9)] dX9_core_109 (Nat.le_of_ble_eq_true rfl) (Nat.le_of_ble_eq_true rfl) (Or.inr rfl) rfl ?_
        have hT9 := tsF_at (mF al) (mN al) (c := al 0) (t := vl4) hvr
        have hle := leaf_n2 (T := (tsF (mF al) (mN al) (al 0))) hK hn4
        rw [hT9] at hle
        exact ⟨1, _, _, _, _, _, _, _, _, _, _, rfl, rfl, PrR.yes ((core_leaf (by rw [hK]; decide) (by rw [hK]; decide)).trans (hle)) (AhIs.rd hR4 hK4 hn.1 h106_0) (num_pl (by omega) g1 g2) hft4 rfl hfq4, by omega⟩
      · skip
        refine r_aload_n 63 hE 0 dX9_core_62 rfl rfl rfl ?_
        refine r_get 66 hE 0 0 ok9 36 dX9_core_63 rfl wd_1088 rfl rfl (by decide) rfl ?_
        refine r_aload_n 67 hE 0 dX9_core_66 rfl rfl rfl ?_
        refine r_get 70 hE 0 0 ok9 37 dX9_core_67 rfl wd_1089 rfl rfl (by decide) rfl ?_
        refine r_iload_n 71 hE 1 dX9_core_70 rfl rfl rfl ?_
        refine r_iadd 72 hE (mto + i) dX9_core_71 rfl rfl ?_
        refine r_aload_n 73 hE 0 dX9_core_72 rfl rfl rfl ?_
        refine r_aload_n 74 hE 0 dX9_core_73 rfl rfl rfl ?_
        refine r_get 77 hE 0 0 ok9 31 dX9_core_74 rfl wd_1083 rfl rfl (by decide) rfl ?_
        refine r_iload_n 78 hE 1 dX9_core_77 rfl rfl rfl ?_
        refine r_callV 81 hE [0, 1] [2, 3] [(wMo g mo mst mac mmk mr mrd mrm mcm mtp msz tk4 bg4 en4 ls4 vl4 ft4 fp4 mfk mdp mto), (wMAll g mo al)] [(wMTxt g mo tt), (wMPil g mo pl9)] 0 9 ok9 [.int (iI (mto + i)), .ref (mo 19)] (c_X9_at (by omega)) dX9_core_78 rfl rfl wd_1277 wd_1279 ws_66 wd_12 wd_1280 ne_X9 np_X9_at (Nat.le_of_ble_eq_true rfl)  (by decide) (by decide) rfl (Nat.le_of_ble_eq_true rfl) rfl rfl rfl rfl (by decide) rfl (fun v1 f1 hp => ?_)
        obtain ⟨rfl, rfl⟩ := hp
        show G g E _ _ _ [(wMo g mo mst mac mmk mr mrd mrm mcm mtp msz tk4 bg4 en4 ls4 vl4 ft4 fp4 mfk mdp mto), (wMAll g mo al), (wMTxt g mo tt), (wMPil g mo pl9)] 81 [(0, .ref (mo 0)), (2, .int (iI i))] [.int (iI (mF al vl4 i)), .int (iI (mto + i)), .ref (mo 19)]
        refine r_iast 82 hE 3 0 (wMPil g mo (up pl9 (mto + i) (mF al vl4 i))) [(wMo g mo mst mac mmk mr mrd mrm mcm mtp msz tk4 bg4 en4 ls4 vl4 ft4 fp4 mfk mdp mto), (wMAll g mo al), (wMTxt g mo tt), (wMPil g mo (up pl9 (mto + i) (mF al vl4 i)))] dX9_core_81 rfl rfl rfl (by omega) rfl rfl ?_
        have g12 : ∀ q, 0 ≤ q → q < i + 1 → up pl9 (mto + i) (mF al vl4 i) (mto + q) = mF al vl4 q := fun q a b => by
          by_cases z : q = i
          · rw [z, up_same]
          · rw [up_ne _ _ (by omega)]; exact g1 q a (by omega)
        have g22 : ∀ j, ¬ (mto ≤ j ∧ j < mto + (i + 1)) → up pl9 (mto + i) (mF al vl4 i) j = pl j := fun j a => by rw [up_ne _ _ (by omega)]; exact g2 j (by omega)
        refine r_iinc 85 hE 1 (i + 1) [(2, .int (iI (i + 1))), (0, .ref (mo 0))] dX9_core_82 rfl rfl rfl (by decide) rfl ?_
        refine r_goto 50 hE dX9_core_85 (by decide) ?_
        refine G.to (fs' := [(wMo g mo mst mac mmk mr mrd mrm mcm mtp msz tk4 bg4 en4 ls4 vl4 ft4 fp4 mfk mdp mto), (wMAll g mo al), (wMTxt g mo tt), (wMPil g mo (up pl9 (mto + i) (mF al vl4 i)))]) (lv' := [(0, .ref (mo 0)), (2, .int (iI (i + 1)))]) [0, 1, 2, 3] [1, 0] rfl rfl rfl ?_
        exact ih50 tk4 bg4 en4 ls4 vl4 ft4 fp4 (i + 1) (up pl9 (mto + i) (mF al vl4 i)) (by first | exact hR1 | exact hR4) (by first | exact n2 | exact hft4) (by omega) (hK) (by first | exact n1 | exact hn4) (hc1) (by first | exact hvr | (have q1 := numE_ok n1; omega)) (by first | omega | (have q1 := numE_ok n1; have q2 := (hM.2 vl9_28 (by omega) (by omega)).1; omega)) (by first | exact g12 | exact (fun q a b => absurd b (by omega))) (by first | exact g22 | exact (fun _ _ => rfl)) (by omega)
  refine r_aload_n 1 hE 0 dX9_core_0 rfl rfl rfl ?_
  refine r_get 4 hE 0 0 ok9 37 dX9_core_1 rfl wd_1089 rfl rfl (by decide) rfl ?_
  refine r_istore_n 5 hE [(1, .int (iI mto)), (0, .ref (mo 0))] dX9_core_4 rfl rfl (by decide) rfl ?_
  refine r_aload_n 6 hE 1 dX9_core_5 rfl rfl rfl ?_
  refine r_get 9 hE 0 0 ok9 27 dX9_core_6 rfl wd_1079 rfl rfl (by decide) rfl ?_
  refine r_iconst 10 hE dX9_core_9 rfl ?_
  refine r_icmp_ne 13 18 hE dX9_core_10 rfl (by decide) (by omega) (fun c10 => ?_) (fun c10 => ?_)
  · skip
    have hK6 : (bkOf tt msz).K k ≠ 6 := fun z => c10 (hRd.i4.mpr z)
    refine r_aload_n 19 hE 1 dX9_core_18 rfl rfl rfl ?_
    refine r_bipush 21 hE dX9_core_19 rfl (by decide) ?_
    refine r_callV 24 hE [0, 2] [1, 3] [(wMo g mo mst mac mmk mr mrd mrm mcm mtp msz mtk mbg men mls mvl mft mfp mfk mdp mto), (wMTxt g mo tt)] [(wMAll g mo al), (wMPil g mo pl)] 0 9 ok9 [] (c_X9_isSign (hB) (hn) (by omega) (by omega) (by omega)) dX9_core_21 rfl rfl wd_1245 wd_1247 ws_58 wd_12 wd_1248 ne_X9 np_X9_isSign (Nat.le_of_ble_eq_true rfl)  (by decide) (by decide) rfl (Nat.le_of_ble_eq_true rfl) rfl rfl rfl rfl (by decide) rfl (fun v1 f1 hp => ?_)
    obtain ⟨rfl, rfl⟩ := hp
    show G g E _ _ _ [(wMo g mo mst mac mmk mr mrd mrm mcm mtp msz mtk mbg men mls mvl mft mfp mfk mdp mto), (wMTxt g mo tt), (wMAll g mo al), (wMPil g mo pl)] 24 [(1, .int (iI mto)), (0, .ref (mo 0))] [.int (iI (bI (mtk = 5 ∧ mbA tt msz mbg = 35)))]
    refine r_if_eq 27 110 hE dX9_core_24 rfl (by decide) (bI_rg _) (fun c24 => ?_) (fun c24 => ?_)
    · skip
      have c24 := bI0 c24
      have hK35 : (bkOf tt msz).K k ≠ 35 := fun z => c24 ((hRd.sg hB (by decide)).mpr z)
      refine r_aload_n 111 hE 1 dX9_core_110 rfl rfl rfl ?_
      refine r_bipush 113 hE dX9_core_111 rfl (by decide) ?_
      refine r_callV 116 hE [0, 1] [2, 3] [(wMo g mo mst mac mmk mr mrd mrm mcm mtp msz mtk mbg men mls mvl mft mfp mfk mdp mto), (wMTxt g mo tt)] [(wMAll g mo al), (wMPil g mo pl)] 0 9 ok9 [] (c_X9_isSign (hB) (hn) (by omega) (by omega) (by omega)) dX9_core_113 rfl rfl wd_1245 wd_1247 ws_58 wd_12 wd_1248 ne_X9 np_X9_isSign (Nat.le_of_ble_eq_true rfl)  (by decide) (by decide) rfl (Nat.le_of_ble_eq_true rfl) rfl rfl rfl rfl (by decide) rfl (fun v1 f1 hp => ?_)
      obtain ⟨rfl, rfl⟩ := hp
      show G g E _ _ _ [(wMo g mo mst mac mmk mr mrd mrm mcm mtp msz mtk mbg men mls mvl mft mfp mfk mdp mto), (wMTxt g mo tt), (wMAll g mo al), (wMPil g mo pl)] 116 [(1, .int (iI mto)), (0, .ref (mo 0))] [.int (iI (bI (mtk = 5 ∧ mbA tt msz mbg = 40)))]
      refine r_if_eq 119 155 hE dX9_core_116 rfl (by decide) (bI_rg _) (fun c116 => ?_) (fun c116 => ?_)
      · skip
        have c116 := bI0 c116
        have hK40 : (bkOf tt msz).K k ≠ 40 := fun z => c116 ((hRd.sg hB (by decide)).mpr z)
        refine r_aload_n 156 hE 1 dX9_core_155 rfl rfl rfl ?_
        refine r_bipush 158 hE dX9_core_156 rfl (by decide) ?_
        refine r_callV 161 hE [0, 1] [2, 3] [(wMo g mo mst mac mmk mr mrd mrm mcm mtp msz mtk mbg men mls mvl mft mfp mfk mdp mto), (wMTxt g mo tt)] [(wMAll g mo al), (wMPil g mo pl)] 0 9 ok9 [] (c_X9_isSign (hB) (hn) (by omega) (by omega) (by omega)) dX9_core_158 rfl rfl wd_1245 wd_1247 ws_58 wd_12 wd_1248 ne_X9 np_X9_isSign (Nat.le_of_ble_eq_true rfl)  (by decide) (by decide) rfl (Nat.le_of_ble_eq_true rfl) rfl rfl rfl rfl (by decide) rfl (fun v1 f1 hp => ?_)
        obtain ⟨rfl, rfl⟩ := hp
        show G g E _ _ _ [(wMo g mo mst mac mmk mr mrd mrm mcm mtp msz mtk mbg men mls mvl mft mfp mfk mdp mto), (wMTxt g mo tt), (wMAll g mo al), (wMPil g mo pl)] 161 [(1, .int (iI mto)), (0, .ref (mo 0))] [.int (iI (bI (mtk = 5 ∧ mbA tt msz mbg = 126)))]
        refine r_if_ne 164 170 hE dX9_core_161 rfl (by decide) (bI_rg _) (fun c161 => ?_) (fun c161 => ?_)
        · skip
          have c161 := bI1 c161
          have hK := (hRd.sg hB (c := 126) (by decide)).mp c161
          have hK1 : tkK tt msz k ≠ 1 := by show (bkOf tt msz).K k ≠ 1; rw [hK]; decide
          have hen := (hRd.2.2.1 hK1).2
          have hc1 := hG.ok.nx hkc (by rw [hK]; decide)
          refine r_aload_n 171 hE 1 dX9_core_170 rfl rfl rfl ?_
          refine r_callV 174 hE [0] [1, 2, 3] [(wMo g mo mst mac mmk mr mrd mrm mcm mtp msz mtk mbg men mls mvl mft mfp mfk mdp mto)] [(wMTxt g mo tt), (wMAll g mo al), (wMPil g mo pl)] 0 9 ok9 [] (c_X9_sinks_no (hf0) (by omega) (by omega)) dX9_core_171 rfl rfl wd_1281 wd_1283 ws_67 wd_12 wd_1284 ne_X9 np_X9_sinks (Nat.le_of_ble_eq_true rfl)  (by decide) (by decide) rfl (Nat.le_of_ble_eq_true rfl) rfl rfl rfl rfl (by decide) rfl (fun v1 f1 hp => ?_)
          obtain ⟨rfl, rfl⟩ := hp
          show G g E _ _ _ [(wMo g mo mst mac mmk mr mrd mrm mcm mtp msz mtk mbg men mls mvl (if mtk = 1 then 1 else 6) mbg mfk mdp mto), (wMTxt g mo tt), (wMAll g mo al), (wMPil g mo pl)] 174 [(1, .int (iI mto)), (0, .ref (mo 0))] [.int (iI 0)]
          refine r_if_eq 177 184 hE dX9_core_174 rfl (by decide) (by omega) (fun c174 => ?_) (fun c174 => ?_)
          · skip
            refine r_iconst 185 hE dX9_core_184 rfl ?_
            refine G.to (fs' := [(wMo g mo mst mac mmk mr mrd mrm mcm mtp msz mtk mbg men mls mvl (if mtk = 1 then 1 else 6) mbg mfk mdp mto), (wMAll g mo al), (wMTxt g mo tt), (wMPil g mo pl)]) [0, 2, 1, 3] [0, 1] rfl rfl rfl ?_
            refine r_zreturn hE hR [(wMo g mo mst mac mmk mr mrd mrm mcm mtp msz mtk mbg men mls mvl (if mtk = 1 then 1 else 6) mbg mfk mdp mto), (wMAll g mo al), (wMTxt g mo tt), (wMPil g mo pl)] dX9_core_185 (Nat.le_of_ble_eq_true rfl) (Nat.le_of_ble_eq_true rfl) (Or.inl rfl) rfl ?_
            exact ⟨0, _, _, _, _, _, _, _, _, _, _, rfl, rfl, PrR.no (core_deep (Or.inr hK)) (by rw [if_neg (fun z => by have h9 := hRd.i1.mp z; rw [hK] at h9; exact absurd h9 (by decide))]) hRd.P (by show (1 : Int) ≤ 6 ∧ (6 : Int) ≤ 9; decide), by omega⟩
          · skip
            exact absurd rfl c174
        · skip
          have c161 := bI0 c161
          have hK126 : (bkOf tt msz).K k ≠ 126 := fun z => c161 ((hRd.sg hB (by decide)).mpr z)
          refine r_aload_n 165 hE 1 dX9_core_164 rfl rfl rfl ?_
          refine r_iconst 166 hE dX9_core_165 rfl ?_
          refine r_callV 169 hE [0] [1, 2, 3] [(wMo g mo mst mac mmk mr mrd mrm mcm mtp msz mtk mbg men mls mvl mft mfp mfk mdp mto)] [(wMTxt g mo tt), (wMAll g mo al), (wMPil g mo pl)] 0 9 ok9 [] (c_X9_fails (hf0) (by omega)) dX9_core_166 rfl rfl wd_1228 wd_1230 ws_54 wd_12 wd_1231 ne_X9 np_X9_fails (Nat.le_of_ble_eq_true rfl)  (by decide) (by decide) rfl (Nat.le_of_ble_eq_true rfl) rfl rfl rfl rfl (by decide) rfl (fun v1 f1 hp => ?_)
          obtain ⟨rfl, rfl⟩ := hp
          show G g E _ _ _ [(wMo g mo mst mac mmk mr mrd mrm mcm mtp msz mtk mbg men mls mvl (if mtk = 1 then 1 else 2) mbg mfk mdp mto), (wMTxt g mo tt), (wMAll g mo al), (wMPil g mo pl)] 169 [(1, .int (iI mto)), (0, .ref (mo 0))] [.int (iI 0)]
          refine G.to (fs' := [(wMo g mo mst mac mmk mr mrd mrm mcm mtp msz mtk mbg men mls mvl (if mtk = 1 then 1 else 2) mbg mfk mdp mto), (wMAll g mo al), (wMTxt g mo tt), (wMPil g mo pl)]) [0, 2, 1, 3] [0, 1] rfl rfl rfl ?_
          refine r_zreturn hE hR [(wMo g mo mst mac mmk mr mrd mrm mcm mtp msz mtk mbg men mls mvl (if mtk = 1 then 1 else 2) mbg mfk mdp mto), (wMAll g mo al), (wMTxt g mo tt), (wMPil g mo pl)] dX9_core_169 (Nat.le_of_ble_eq_true rfl) (Nat.le_of_ble_eq_true rfl) (Or.inl rfl) rfl ?_
          exact ⟨0, _, _, _, _, _, _, _, _, _, _, rfl, rfl, PrR.no ((core_leaf hK40 hK126).trans (leaf_0 hK6 hK35)) (congrArg Prod.fst (hRd.ft 2)) (congrArg Prod.snd (hRd.ft 2)) (ftAt_r9 _ _), by omega⟩
      · skip
        have c116 := bI1 c116
        have hK := (hRd.sg hB (c := 40) (by decide)).mp c116
        have hK1 : tkK tt msz k ≠ 1 := by show (bkOf tt msz).K k ≠ 1; rw [hK]; decide
        have hen := (hRd.2.2.1 hK1).2
        have hc1 := hG.ok.nx hkc (by rw [hK]; decide)
        refine r_aload_n 120 hE 1 dX9_core_119 rfl rfl rfl ?_
        refine r_callV 123 hE [0] [1, 2, 3] [(wMo g mo mst mac mmk mr mrd mrm mcm mtp msz mtk mbg men mls mvl mft mfp mfk mdp mto)] [(wMTxt g mo tt), (wMAll g mo al), (wMPil g mo pl)] 0 9 ok9 [] (c_X9_sinks_no (hf0) (by omega) (by omega)) dX9_core_120 rfl rfl wd_1281 wd_1283 ws_67 wd_12 wd_1284 ne_X9 np_X9_sinks (Nat.le_of_ble_eq_true rfl)  (by decide) (by decide) rfl (Nat.le_of_ble_eq_true rfl) rfl rfl rfl rfl (by decide) rfl (fun v1 f1 hp => ?_)
        obtain ⟨rfl, rfl⟩ := hp
        show G g E _ _ _ [(wMo g mo mst mac mmk mr mrd mrm mcm mtp msz mtk mbg men mls mvl (if mtk = 1 then 1 else 6) mbg mfk mdp mto), (wMTxt g mo tt), (wMAll g mo al), (wMPil g mo pl)] 123 [(1, .int (iI mto)), (0, .ref (mo 0))] [.int (iI 0)]
        refine r_if_eq 126 153 hE dX9_core_123 rfl (by decide) (by omega) (fun c123 => ?_) (fun c123 => ?_)
        · skip
          refine r_iconst 154 hE dX9_core_153 rfl ?_
          refine G.to (fs' := [(wMo g mo mst mac mmk mr mrd mrm mcm mtp msz mtk mbg men mls mvl (if mtk = 1 then 1 else 6) mbg mfk mdp mto), (wMAll g mo al), (wMTxt g mo tt), (wMPil g mo pl)]) [0, 2, 1, 3] [0, 1] rfl rfl rfl ?_
          refine r_zreturn hE hR [(wMo g mo mst mac mmk mr mrd mrm mcm mtp msz mtk mbg men mls mvl (if mtk = 1 then 1 else 6) mbg mfk mdp mto), (wMAll g mo al), (wMTxt g mo tt), (wMPil g mo pl)] dX9_core_154 (Nat.le_of_ble_eq_true rfl) (Nat.le_of_ble_eq_true rfl) (by first | exact Or.inl rfl | exact Or.inr rfl) rfl ?_
          exact ⟨0, _, _, _, _, _, _, _, _, _, _, rfl, rfl, PrR.no (core_deep (Or.inl hK)) (by rw [if_neg (fun z => by have h9 := hRd.i1.mp z; rw [hK] at h9; exact absurd h9 (by decide))]) hRd.P (by show (1 : Int) ≤ 6 ∧ (6 : Int) ≤ 9; decide), by omega⟩
        · skip
          exact absurd rfl c123
    · skip
      have c24 := bI1 c24
      have hK := (hRd.sg hB (c := 35) (by decide)).mp c24
      have hK1 : tkK tt msz k ≠ 1 := by show (bkOf tt msz).K k ≠ 1; rw [hK]; decide
      have hen := (hRd.2.2.1 hK1).2
      have hc1 := hG.ok.nx hkc (by rw [hK]; decide)
      refine r_aload_n 28 hE 1 dX9_core_27 rfl rfl rfl ?_
      refine r_callV 31 hE [0, 1] [2, 3] [(wMo g mo mst mac mmk mr mrd mrm mcm mtp msz mtk mbg men mls mvl mft mfp mfk mdp mto), (wMTxt g mo tt)] [(wMAll g mo al), (wMPil g mo pl)] 0 9 ok9 [] (c_X9_ahead (hB) (hn) (hen)) dX9_core_28 rfl rfl wd_1194 wd_1196 ws_49 wd_12 wd_1197 ne_X9 np_X9_ahead (Nat.le_of_ble_eq_true rfl)  (by decide) (by decide) rfl (Nat.le_of_ble_eq_true rfl) rfl rfl rfl rfl (by decide) rfl (fun v1 f1 hp => ?_)
      obtain ⟨tk9_28, bg9_28, en9_28, vl9_28, rfl, rfl, h28_0⟩ := hp
      show G g E _ _ _ [(wMo g mo mst mac mmk mr mrd mrm mcm mtp msz tk9_28 bg9_28 en9_28 mbg vl9_28 mft mfp mfk mdp mto), (wMTxt g mo tt), (wMAll g mo al), (wMPil g mo pl)] 31 [(1, .int (iI mto)), (0, .ref (mo 0))] []
      have hR1 := AhIs.rd hRd hK1 hn.1 h28_0
      have hvl1 := hR1.2.2.2.2.1
      refine r_aload_n 32 hE 1 dX9_core_31 rfl rfl rfl ?_
      refine r_iconst 33 hE dX9_core_32 rfl ?_
      refine r_aload_n 34 hE 1 dX9_core_33 rfl rfl rfl ?_
      refine r_callV 37 hE [0, 2] [1, 3] [(wMo g mo mst mac mmk mr mrd mrm mcm mtp msz tk9_28 bg9_28 en9_28 mbg vl9_28 mft mfp mfk mdp mto), (wMAll g mo al)] [(wMTxt g mo tt), (wMPil g mo pl)] 0 9 ok9 [.int (iI 0), .ref (mo 0)] (c_X9_many) dX9_core_34 rfl rfl wd_1217 wd_1219 ws_52 wd_12 wd_1220 ne_X9 np_X9_many (Nat.le_of_ble_eq_true rfl)  (by decide) (by decide) rfl (Nat.le_of_ble_eq_true rfl) rfl rfl rfl rfl (by decide) rfl (fun v1 f1 hp => ?_)
      obtain ⟨rfl, rfl⟩ := hp
      show G g E _ _ _ [(wMo g mo mst mac mmk mr mrd mrm mcm mtp msz tk9_28 bg9_28 en9_28 mbg vl9_28 mft mfp mfk mdp mto), (wMAll g mo al), (wMTxt g mo tt), (wMPil g mo pl)] 37 [(1, .int (iI mto)), (0, .ref (mo 0))] [.int (iI (al 0)), .int (iI 0), .ref (mo 0)]
      refine r_iconst 38 hE dX9_core_37 rfl ?_
      refine r_isub 39 hE ((al 0) - 1) dX9_core_38 rfl rfl ?_
      refine r_iconst 40 hE dX9_core_39 rfl ?_
      refine r_callV 43 hE [0] [1, 2, 3] [(wMo g mo mst mac mmk mr mrd mrm mcm mtp msz tk9_28 bg9_28 en9_28 mbg vl9_28 mft mfp mfk mdp mto)] [(wMAll g mo al), (wMTxt g mo tt), (wMPil g mo pl)] 0 9 ok9 [] (c_X9_isNumber (hR1) (hf0) (by omega) (by omega) (by decide) (hn)) dX9_core_40 rfl rfl wd_1237 wd_1239 ws_56 wd_12 wd_1240 ne_X9 np_X9_isNumber (Nat.le_of_ble_eq_true rfl)  (by decide) (by decide) rfl (Nat.le_of_ble_eq_true rfl) rfl rfl rfl rfl (by decide) rfl (fun v1 f1 hp => ?_)
      obtain ⟨r9_40, ft9_40, fp9_40, rfl, rfl, h40_0, h40_1⟩ := hp
      show G g E _ _ _ [(wMo g mo mst mac mmk mr mrd mrm mcm mtp msz tk9_28 bg9_28 en9_28 mbg vl9_28 ft9_40 fp9_40 mfk mdp mto), (wMAll g mo al), (wMTxt g mo tt), (wMPil g mo pl)] 43 [(1, .int (iI mto)), (0, .ref (mo 0))] [.int (iI r9_40)]
      rw [← hTl] at h40_0
      refine r_if_ne 46 48 hE dX9_core_43 rfl (by decide) (by omega) (fun c43 => ?_) (fun c43 => ?_)
      · skip
        obtain ⟨n1, n2, n3⟩ := h40_0.ok c43
        have hv1 := numE_ok n1
        refine r_iconst 49 hE dX9_core_48 rfl ?_
        refine r_istore_n 50 hE [(2, .int (iI 0)), (1, .int (iI mto)), (0, .ref (mo 0))] dX9_core_49 rfl rfl (by decide) rfl ?_
        refine G.to (fs' := [(wMo g mo mst mac mmk mr mrd mrm mcm mtp msz tk9_28 bg9_28 en9_28 mbg vl9_28 ft9_40 fp9_40 mfk mdp mto), (wMAll g mo al), (wMTxt g mo tt), (wMPil g mo pl)]) (lv' := [(0, .ref (mo 0)), (2, .int (iI 0))]) [0, 1, 2, 3] [2, 0] rfl rfl rfl ?_
        exact cut50 _ tk9_28 bg9_28 en9_28 mbg vl9_28 ft9_40 fp9_40 0 pl (by first | exact hR1 | exact hR4) (by first | exact n2 | exact hft4) (by omega) (hK) (by first | exact n1 | exact hn4) (hc1) (by first | exact hvr | (have q1 := numE_ok n1; omega)) (by first | omega | (have q1 := numE_ok n1; have q2 := (hM.2 vl9_28 (by omega) (by omega)).1; omega)) (by first | exact g12 | exact (fun q a b => absurd b (by omega))) (by first | exact g22 | exact (fun _ _ => rfl)) (Nat.lt_succ_self _)
      · skip
        refine r_iconst 47 hE dX9_core_46 rfl ?_
        refine r_zreturn hE hR [(wMo g mo mst mac mmk mr mrd mrm mcm mtp msz tk9_28 bg9_28 en9_28 mbg vl9_28 ft9_40 fp9_40 mfk mdp mto), (wMAll g mo al), (wMTxt g mo tt), (wMPil g mo pl)] dX9_core_47 (Nat.le_of_ble_eq_true rfl) (Nat.le_of_ble_eq_true rfl) (Or.inl rfl) rfl ?_
        obtain ⟨e, e1, e2, e3, e4⟩ := h40_0.er c43
        exact ⟨0, _, _, _, _, _, _, _, _, _, _, rfl, rfl, PrR.no ((core_leaf (by rw [hK]; decide) (by rw [hK]; decide)).trans (leaf_n1 hK e1)) e2 e3 e4, by omega⟩
  · skip
    have hK := hRd.i4.mp c10
    refine r_aload_n 14 hE 1 dX9_core_13 rfl rfl rfl ?_
    refine r_callV 17 hE [0, 2, 3] [1] [(wMo g mo mst mac mmk mr mrd mrm mcm mtp msz mtk mbg men mls mvl mft mfp mfk mdp mto), (wMTxt g mo tt), (wMPil g mo pl)] [(wMAll g mo al)] 0 9 ok9 [] (c_X9_quote (T := (tsF (mF al) (mN al) (al 0))) (hB) (hn) (hRd) (hf0) (hK) (by omega)) dX9_core_14 rfl rfl wd_1269 wd_1271 ws_64 wd_12 wd_1272 ne_X9 np_X9_quote (Nat.le_of_ble_eq_true rfl)  (by decide) (by decide) rfl (Nat.le_of_ble_eq_true rfl) rfl rfl rfl rfl (by decide) rfl (fun v1 f1 hp => ?_)
    obtain ⟨r9_14, tk9_14, bg9_14, en9_14, ls9_14, vl9_14, ft9_14, fp9_14, dp9_14, to9_14, pl9_14, rfl, rfl, h14_0, h14_1⟩ := hp
    show G g E _ _ _ [(wMo g mo mst mac mmk mr mrd mrm mcm mtp msz tk9_14 bg9_14 en9_14 ls9_14 vl9_14 ft9_14 fp9_14 mfk dp9_14 to9_14), (wMTxt g mo tt), (wMPil g mo pl9_14), (wMAll g mo al)] 17 [(1, .int (iI mto)), (0, .ref (mo 0))] [.int (iI r9_14)]
    refine G.to (fs' := [(wMo g mo mst mac mmk mr mrd mrm mcm mtp msz tk9_14 bg9_14 en9_14 ls9_14 vl9_14 ft9_14 fp9_14 mfk dp9_14 to9_14), (wMAll g mo al), (wMTxt g mo tt), (wMPil g mo pl9_14)]) [0, 3, 1, 2] [0, 1] rfl rfl rfl ?_
    refine r_zreturn hE hR [(wMo g mo mst mac mmk mr mrd mrm mcm mtp msz tk9_14 bg9_14 en9_14 ls9_14 vl9_14 ft9_14 fp9_14 mfk dp9_14 to9_14), (wMAll g mo al), (wMTxt g mo tt), (wMPil g mo pl9_14)] dX9_core_17 (Nat.le_of_ble_eq_true rfl) (Nat.le_of_ble_eq_true rfl) (by have h9 := h14_1; omega) rfl ?_
    exact ⟨r9_14, _, _, _, _, _, _, _, _, _, _, rfl, rfl, h14_0.eq (core_leaf (by rw [hK]; decide) (by rw [hK]; decide)), h14_1⟩
set_option maxHeartbeats 4000000 in
set_option maxRecDepth 100000 in
theorem c_X9_core_s {g : Gm} {d0 r : Nat} {mo : Nat → Nat} {mst mac mmk mr mrd mrm mcm mtp msz mtk mbg men mls mvl mft mfp mfk mdp mto : Int} {al tt pl : Int → Int} {k c : Nat} (hco : core_C g d0 r) (hd0 : 4 ≤ d0) (hB : BR tt) (hn : 0 ≤ msz ∧ msz ≤ 900) (hM : MTx al) (hG : BkG (bkOf tt msz) (tsF (mF al) (mN al) (al 0)) c) (hkc : k ≤ c) (hRd : RdAt tt msz k mtk mbg men mls mvl) (hf0 : mft = 0) (hdp : mdp = 6 - ((r + 1 : Nat) : Int) ∧ r + 1 ≤ 6) (hto : 0 ≤ mto ∧ mto ≤ 600 * (7 - ((r + 1 : Nat) : Int))) : Ct g (d0 + 4) 0 0 yX9_core cX9_core 5 (some .boolean) [.ref (mo 0)] [(wMo g mo mst mac mmk mr mrd mrm mcm mtp msz mtk mbg men mls mvl mft mfp mfk mdp mto), (wMAll g mo al), (wMTxt g mo tt), (wMPil g mo pl)] (fun v_ w_ => ∃ r9 : Int, ∃ tk9 : Int, ∃ bg9 : Int, ∃ en9 : Int, ∃ ls9 : Int, ∃ vl9 : Int, ∃ ft9 : Int, ∃ fp9 : Int, ∃ dp9 : Int, ∃ to9 : Int, ∃ pl9 : Int → Int, v_ = some (.int (iI r9)) ∧ w_ = [(wMo g mo mst mac mmk mr mrd mrm mcm mtp msz tk9 bg9 en9 ls9 vl9 ft9 fp9 mfk dp9 to9), (wMAll g mo al), (wMTxt g mo tt), (wMPil g mo pl9)] ∧ (PrR (core (bkOf tt msz) (tsF (mF al) (mN al) (al 0)) (r + 1) k) tt msz pl mto mdp mfp r9 tk9 bg9 en9 ls9 vl9 ft9 fp9 dp9 to9 pl9) ∧ (0 ≤ r9 ∧ r9 ≤ 1)) := by
  refine Ct.of (by decide) (Nat.le_of_ble_eq_true rfl) (lv := [(0, .ref (mo 0))]) rfl ?_
  intro E hE hR hnm
  have hc := hM.1
  have hTl := tsF_len (mF al) (mN al) hc.1
  have hk1 := hRd.1.2.2
  have hk2 := hRd.tr
  have hk3 := hRd.2.2.2.2.1
  have cut195 : ∀ (N : Nat) (tk4 : Int) (bg4 : Int) (en4 : Int) (ls4 : Int) (vl4 : Int) (ft4 : Int) (fp4 : Int) (dp4 : Int) (to : Int) (pl7 : Int → Int) (a : Int) (b : Int) (pl8 : Int → Int) (l0 : List Int) (k0 : Nat), ((bkOf tt msz).K k = 126) → (core (bkOf tt msz) (tsF (mF al) (mN al) (al 0)) r (k + 1) = .ok (l0, k0)) → (RdAt tt msz k0 tk4 bg4 en4 ls4 vl4) → (PlIs pl mto pl8 to l0) → (ft4 = 0) → (fp4 = mfp) → (dp4 = mdp + 1) → (mto + 1 ≤ to ∧ to ≤ mto + 600) → (mto ≤ a ∧ a ≤ to) → (b < to) → (RvIs mto to a b pl8 pl7) → (b - a + 1).toNat < N → G g E 5 0 0 [(wMo g mo mst mac mmk mr mrd mrm mcm mtp msz tk4 bg4 en4 ls4 vl4 ft4 fp4 mfk dp4 to), (wMAll g mo al), (wMTxt g mo tt), (wMPil g mo pl7)] 195 [(0, .ref (mo 0)), (2, .int (iI a)), (3, .int (iI b))] [] := by
    intro N
    induction N with
    | zero => intro tk4 bg4 en4 ls4 vl4 ft4 fp4 dp4 to pl7 a b pl8 l0 k0 _ _ _ _ _ _ _ _ _ _ _ hN; exact absurd hN (Nat.not_lt_zero _)
    | succ N ih195 =>
      intro tk4 bg4 en4 ls4 vl4 ft4 fp4 dp4 to pl7 a b pl8 l0 k0 hK hS0 hR2 hP0 hft4 hfq4 hd4 htr ham hbb hrv hN
      have hb9 := hrv.1
      refine r_iload_n 196 hE 1 dX9_core_195 rfl rfl rfl ?_
      refine r_iload_n 197 hE 2 dX9_core_196 rfl rfl rfl ?_
      refine r_icmp_ge 200 237 hE dX9_core_197 rfl (by decide) (by omega) (fun c197 => ?_) (fun c197 => ?_)
      · skip
        have hrvd := hrv.done (by omega)
        refine r_aload_n 238 hE 0 dX9_core_237 rfl rfl rfl ?_
        refine r_callV 241 hE [0] [1, 2, 3] [(wMo g mo mst mac mmk mr mrd mrm mcm mtp msz tk4 bg4 en4 ls4 vl4 ft4 fp4 mfk dp4 to)] [(wMAll g mo al), (wMTxt g mo tt), (wMPil g mo pl7)] 0 9 ok9 [] (c_X9_rises) dX9_core_238 rfl rfl wd_1285 wd_1287 ws_68 wd_12 wd_1288 ne_X9 np_X9_rises (by omega)  (by decide) (by decide) rfl (Nat.le_of_ble_eq_true rfl) rfl rfl rfl rfl (by decide) rfl (fun v1 f1 hp => ?_)
        obtain ⟨rfl, rfl⟩ := hp
        show G g E _ _ _ [(wMo g mo mst mac mmk mr mrd mrm mcm mtp msz tk4 bg4 en4 ls4 vl4 ft4 fp4 mfk (dp4 - 1) to), (wMAll g mo al), (wMTxt g mo tt), (wMPil g mo pl7)] 241 [(0, .ref (mo 0)), (2, .int (iI a)), (3, .int (iI b))] [.int (iI 1)]
        refine r_zreturn hE hR [(wMo g mo mst mac mmk mr mrd mrm mcm mtp msz tk4 bg4 en4 ls4 vl4 ft4 fp4 mfk (dp4 - 1) to), (wMAll g mo al), (wMTxt g mo tt), (wMPil g mo pl7)] dX9_core_241 (Nat.le_of_ble_eq_true rfl) (Nat.le_of_ble_eq_true rfl) (Or.inr rfl) rfl ?_
        exact ⟨1, _, _, _, _, _, _, _, _, _, _, rfl, rfl, PrR.yes ((core_til hK).trans (til_o hS0)) hR2 (hP0.rev hto.1 hrvd hrv.2.2.2.2) hft4 (by omega) hfq4, by omega⟩
      · skip
        have hrv2 := hrv.step ham.1 (by omega)
        refine r_aload_n 201 hE 0 dX9_core_200 rfl rfl rfl ?_
        refine r_get 204 hE 0 0 ok9 36 dX9_core_201 rfl wd_1088 rfl rfl (by decide) rfl ?_
        refine r_iload_n 205 hE 1 dX9_core_204 rfl rfl rfl ?_
        refine r_iald 206 hE 3 0 dX9_core_205 rfl rfl rfl (by omega) ?_
        refine r_istore 208 hE [(4, .int (iI (pl7 a))), (0, .ref (mo 0)), (2, .int (iI a)), (3, .int (iI b))] dX9_core_206 rfl (by decide) rfl ?_
        refine r_aload_n 209 hE 1 dX9_core_208 rfl rfl rfl ?_
        refine r_get 212 hE 0 0 ok9 36 dX9_core_209 rfl wd_1088 rfl rfl (by decide) rfl ?_
        refine r_iload_n 213 hE 2 dX9_core_212 rfl rfl rfl ?_
        refine r_aload_n 214 hE 1 dX9_core_213 rfl rfl rfl ?_
        refine r_get 217 hE 0 0 ok9 36 dX9_core_214 rfl wd_1088 rfl rfl (by decide) rfl ?_
        refine r_iload_n 218 hE 3 dX9_core_217 rfl rfl rfl ?_
        refine r_iald 219 hE 3 0 dX9_core_218 rfl rfl rfl (by omega) ?_
        refine r_iast 220 hE 3 0 (wMPil g mo (up pl7 a (pl7 b))) [(wMo g mo mst mac mmk mr mrd mrm mcm mtp msz tk4 bg4 en4 ls4 vl4 ft4 fp4 mfk dp4 to), (wMAll g mo al), (wMTxt g mo tt), (wMPil g mo (up pl7 a (pl7 b)))] dX9_core_219 rfl rfl rfl (by omega) rfl rfl ?_
        refine r_aload_n 221 hE 1 dX9_core_220 rfl rfl rfl ?_
        refine r_get 224 hE 0 0 ok9 36 dX9_core_221 rfl wd_1088 rfl rfl (by decide) rfl ?_
        refine r_iload_n 225 hE 3 dX9_core_224 rfl rfl rfl ?_
        refine r_iload 227 hE 0 dX9_core_225 rfl rfl ?_
        refine r_iast 228 hE 3 0 (wMPil g mo (up (up pl7 a (pl7 b)) b (pl7 a))) [(wMo g mo mst mac mmk mr mrd mrm mcm mtp msz tk4 bg4 en4 ls4 vl4 ft4 fp4 mfk dp4 to), (wMAll g mo al), (wMTxt g mo tt), (wMPil g mo (up (up pl7 a (pl7 b)) b (pl7 a)))] dX9_core_227 rfl rfl rfl (by omega) rfl rfl ?_
        refine r_iinc 231 hE 2 (a + 1) [(2, .int (iI (a + 1))), (4, .int (iI (pl7 a))), (0, .ref (mo 0)), (3, .int (iI b))] dX9_core_228 rfl rfl rfl (by decide) rfl ?_
        refine r_iinc 234 hE 3 (b + (-1)) [(3, .int (iI (b + (-1)))), (2, .int (iI (a + 1))), (4, .int (iI (pl7 a))), (0, .ref (mo 0))] dX9_core_231 rfl rfl rfl (by decide) rfl ?_
        refine r_goto 195 hE dX9_core_234 (by decide) ?_
        refine G.to (fs' := [(wMo g mo mst mac mmk mr mrd mrm mcm mtp msz tk4 bg4 en4 ls4 vl4 ft4 fp4 mfk dp4 to), (wMAll g mo al), (wMTxt g mo tt), (wMPil g mo (up (up pl7 a (pl7 b)) b (pl7 a)))]) (lv' := [(0, .ref (mo 0)), (2, .int (iI (a + 1))), (3, .int (iI (b + (-1))))]) [0, 1, 2, 3] [3, 1, 0] rfl rfl rfl ?_
        exact ih195 tk4 bg4 en4 ls4 vl4 ft4 fp4 dp4 to (up (up pl7 a (pl7 b)) b (pl7 a)) (a + 1) (b + (-1)) pl8 l0 k0 (hK) (hS0) (hR2) (hP0) (by first | exact zz0 | exact hft4) (by omega) (by first | exact zd | exact hd4) (by omega) (by omega) (by omega) (by first | exact hrv2 | exact RvIs.start) (by omega)
  have cut50 : ∀ (N : Nat) (tk4 : Int) (bg4 : Int) (en4 : Int) (ls4 : Int) (vl4 : Int) (ft4 : Int) (fp4 : Int) (i : Int) (pl9 : Int → Int), (RdAt tt msz (k + 1) tk4 bg4 en4 ls4 vl4) → (ft4 = 0) → (fp4 = mfp) → ((bkOf tt msz).K k = 35) → (numE (bkOf tt msz) (k + 1) 0 (((tsF (mF al) (mN al) (al 0)).length : Int) - 1) 3 = .ok vl4) → (k + 1 ≤ c) → (0 ≤ vl4 ∧ vl4 < al 0) → (0 ≤ i ∧ i ≤ mN al vl4) → (∀ q, 0 ≤ q → q < i → pl9 (mto + q) = mF al vl4 q) → (∀ j, ¬ (mto ≤ j ∧ j < mto + i) → pl9 j = pl j) → (mN al vl4 - i).toNat < N → G g E 5 0 0 [(wMo g mo mst mac mmk mr mrd mrm mcm mtp msz tk4 bg4 en4 ls4 vl4 ft4 fp4 mfk mdp mto), (wMAll g mo al), (wMTxt g mo tt), (wMPil g mo pl9)] 50 [(0, .ref (mo 0)), (2, .int (iI i))] [] := by
    intro N
    induction N with
    | zero => intro tk4 bg4 en4 ls4 vl4 ft4 fp4 i pl9 _ _ _ _ _ _ _ _ _ _ hN; exact absurd hN (Nat.not_lt_zero _)
    | succ N ih50 =>
      intro tk4 bg4 en4 ls4 vl4 ft4 fp4 i pl9 hR4 hft4 hfq4 hK hn4 hc1 hvr hi g1 g2 hN
      have hlv := (hM.2 vl4 hvr.1 hvr.2).1
      have hvl4 := hR4.2.2.2.2.1
      refine r_iload_n 51 hE 1 dX9_core_50 rfl rfl rfl ?_
      refine r_aload_n 52 hE 0 dX9_core_51 rfl rfl rfl ?_
      refine r_aload_n 53 hE 0 dX9_core_52 rfl rfl rfl ?_
      refine r_get 56 hE 0 0 ok9 31 dX9_core_53 rfl wd_1083 rfl rfl (by decide) rfl ?_
      refine r_callV 59 hE [0, 1] [2, 3] [(wMo g mo mst mac mmk mr mrd mrm mcm mtp msz tk4 bg4 en4 ls4 vl4 ft4 fp4 mfk mdp mto), (wMAll g mo al)] [(wMTxt g mo tt), (wMPil g mo pl9)] 0 9 ok9 [.int (iI i)] (c_X9_sizeOf (by omega)) dX9_core_56 rfl rfl wd_1273 wd_1275 ws_65 wd_12 wd_1276 ne_X9 np_X9_sizeOf (by omega)  (by decide) (by decide) rfl (Nat.le_of_ble_eq_true rfl) rfl rfl rfl rfl (by decide) rfl (fun v1 f1 hp => ?_)
      obtain ⟨rfl, rfl⟩ := hp
      show G g E _ _ _ [(wMo g mo mst mac mmk mr mrd mrm mcm mtp msz tk4 bg4 en4 ls4 vl4 ft4 fp4 mfk mdp mto), (wMAll g mo al), (wMTxt g mo tt), (wMPil g mo pl9)] 59 [(0, .ref (mo 0)), (2, .int (iI i))] [.int (iI (mN al vl4)), .int (iI i)]
      refine r_icmp_ge 62 88 hE dX9_core_59 rfl (by decide) (by omega) (fun c59 => ?_) (fun c59 => ?_)
      · skip
        have hv4 := numE_ok hn4
        have hK4 : tkK tt msz (k + 1) ≠ 1 := by show (bkOf tt msz).K (k + 1) ≠ 1; rw [hv4.1]; decide
        have hen4 := (hR4.2.2.1 hK4).2
        have hin : i = mN al vl4 := by omega
        rw [hin] at g1 g2
        refine r_aload_n 89 hE 0 dX9_core_88 rfl rfl rfl ?_
        refine r_dup 90 hE dX9_core_89 rfl rfl ?_
        refine r_get 93 hE 0 0 ok9 37 dX9_core_90 rfl wd_1089 rfl rfl (by decide) rfl ?_
        refine r_aload_n 94 hE 0 dX9_core_93 rfl rfl rfl ?_
        refine r_aload_n 95 hE 0 dX9_core_94 rfl rfl rfl ?_
        refine r_get 98 hE 0 0 ok9 31 dX9_core_95 rfl wd_1083 rfl rfl (by decide) rfl ?_
        refine r_callV 101 hE [0, 1] [2, 3] [(wMo g mo mst mac mmk mr mrd mrm mcm mtp msz tk4 bg4 en4 ls4 vl4 ft4 fp4 mfk mdp mto), (wMAll g mo al)] [(wMTxt g mo tt), (wMPil g mo pl9)] 0 9 ok9 [.int (iI mto), .ref (mo 0)] (c_X9_sizeOf (by omega)) dX9_core_98 rfl rfl wd_1273 wd_1275 ws_65 wd_12 wd_1276 ne_X9 np_X9_sizeOf (by omega)  (by decide) (by decide) rfl (Nat.le_of_ble_eq_true rfl) rfl rfl rfl rfl (by decide) rfl (fun v1 f1 hp => ?_)
        obtain ⟨rfl, rfl⟩ := hp
        show G g E _ _ _ [(wMo g mo mst mac mmk mr mrd mrm mcm mtp msz tk4 bg4 en4 ls4 vl4 ft4 fp4 mfk mdp mto), (wMAll g mo al), (wMTxt g mo tt), (wMPil g mo pl9)] 101 [(0, .ref (mo 0)), (2, .int (iI i))] [.int (iI (mN al vl4)), .int (iI mto), .ref (mo 0)]
        refine r_iadd 102 hE (mto + (mN al vl4)) dX9_core_101 rfl rfl ?_
        refine r_put 105 hE 0 0 ok9 37 (wMo g mo mst mac mmk mr mrd mrm mcm mtp msz tk4 bg4 en4 ls4 vl4 ft4 fp4 mfk mdp (mto + (mN al vl4))) [(wMo g mo mst mac mmk mr mrd mrm mcm mtp msz tk4 bg4 en4 ls4 vl4 ft4 fp4 mfk mdp (mto + (mN al vl4))), (wMAll g mo al), (wMTxt g mo tt), (wMPil g mo pl9)] dX9_core_102 rfl wd_1089 rfl rfl (by decide) rfl rfl rfl (Nat.le_of_ble_eq_true rfl) rfl rfl ?_
        refine r_aload_n 106 hE 0 dX9_core_105 rfl rfl rfl ?_
        refine r_callV 109 hE [0, 2] [1, 3] [(wMo g mo mst mac mmk mr mrd mrm mcm mtp msz tk4 bg4 en4 ls4 vl4 ft4 fp4 mfk mdp (mto + (mN al vl4))), (wMTxt g mo tt)] [(wMAll g mo al), (wMPil g mo pl9)] 0 9 ok9 [] (c_X9_takes (hB) (hn) (hen4)) dX9_core_106 rfl rfl wd_1249 wd_1251 ws_59 wd_12 wd_1252 ne_X9 np_X9_takes (by omega)  (by decide) (by decide) rfl (Nat.le_of_ble_eq_true rfl) rfl rfl rfl rfl (by decide) rfl (fun v1 f1 hp => ?_)
        obtain ⟨tk9_106, bg9_106, en9_106, vl9_106, rfl, rfl, h106_0⟩ := hp
        show G g E _ _ _ [(wMo g mo mst mac mmk mr mrd mrm mcm mtp msz tk9_106 bg9_106 en9_106 bg4 vl9_106 ft4 fp4 mfk mdp (mto + (mN al vl4))), (wMTxt g mo tt), (wMAll g mo al), (wMPil g mo pl9)] 109 [(0, .ref (mo 0)), (2, .int (iI i))] [.int (iI 1)]
        refine G.to (fs' := [(wMo g mo mst mac mmk mr mrd mrm mcm mtp msz tk9_106 bg9_106 en9_106 bg4 vl9_106 ft4 fp4 mfk mdp (mto + (mN al vl4))), (wMAll g mo al), (wMTxt g mo tt), (wMPil g mo pl9)]) [0, 2, 1, 3] [0, 1] rfl rfl rfl ?_
        refine r_zreturn hE hR [(wMo g mo mst mac mmk mr mrd mrm mcm mtp msz tk9_106 bg9_106 en9_106 bg4 vl9_106 ft4 fp4 mfk mdp (mto + (mN al vl4))), (wMAll g mo al), (wMTxt g mo tt), (wMPil g mo pl9)] dX9_core_109 (Nat.le_of_ble_eq_true rfl) (Nat.le_of_ble_eq_true rfl) (Or.inr rfl) rfl ?_
        have hT9 := tsF_at (mF al) (mN al) (c := al 0) (t := vl4) hvr
        have hle := leaf_n2 (T := (tsF (mF al) (mN al) (al 0))) hK hn4
        rw [hT9] at hle
        exact ⟨1, _, _, _, _, _, _, _, _, _, _, rfl, rfl, PrR.yes ((core_leaf (by rw [hK]; decide) (by rw [hK]; decide)).trans (hle)) (AhIs.rd hR4 hK4 hn.1 h106_0) (num_pl (by omega) g1 g2) hft4 rfl hfq4, by omega⟩
      · skip
        refine r_aload_n 63 hE 0 dX9_core_62 rfl rfl rfl ?_
        refine r_get 66 hE 0 0 ok9 36 dX9_core_63 rfl wd_1088 rfl rfl (by decide) rfl ?_
        refine r_aload_n 67 hE 0 dX9_core_66 rfl rfl rfl ?_
        refine r_get 70 hE 0 0 ok9 37 dX9_core_67 rfl wd_1089 rfl rfl (by decide) rfl ?_
        refine r_iload_n 71 hE 1 dX9_core_70 rfl rfl rfl ?_
        refine r_iadd 72 hE (mto + i) dX9_core_71 rfl rfl ?_
        refine r_aload_n 73 hE 0 dX9_core_72 rfl rfl rfl ?_
        refine r_aload_n 74 hE 0 dX9_core_73 rfl rfl rfl ?_
        refine r_get 77 hE 0 0 ok9 31 dX9_core_74 rfl wd_1083 rfl rfl (by decide) rfl ?_
        refine r_iload_n 78 hE 1 dX9_core_77 rfl rfl rfl ?_
        refine r_callV 81 hE [0, 1] [2, 3] [(wMo g mo mst mac mmk mr mrd mrm mcm mtp msz tk4 bg4 en4 ls4 vl4 ft4 fp4 mfk mdp mto), (wMAll g mo al)] [(wMTxt g mo tt), (wMPil g mo pl9)] 0 9 ok9 [.int (iI (mto + i)), .ref (mo 19)] (c_X9_at (by omega)) dX9_core_78 rfl rfl wd_1277 wd_1279 ws_66 wd_12 wd_1280 ne_X9 np_X9_at (by omega)  (by decide) (by decide) rfl (Nat.le_of_ble_eq_true rfl) rfl rfl rfl rfl (by decide) rfl (fun v1 f1 hp => ?_)
        obtain ⟨rfl, rfl⟩ := hp
        show G g E _ _ _ [(wMo g mo mst mac mmk mr mrd mrm mcm mtp msz tk4 bg4 en4 ls4 vl4 ft4 fp4 mfk mdp mto), (wMAll g mo al), (wMTxt g mo tt), (wMPil g mo pl9)] 81 [(0, .ref (mo 0)), (2, .int (iI i))] [.int (iI (mF al vl4 i)), .int (iI (mto + i)), .ref (mo 19)]
        refine r_iast 82 hE 3 0 (wMPil g mo (up pl9 (mto + i) (mF al vl4 i))) [(wMo g mo mst mac mmk mr mrd mrm mcm mtp msz tk4 bg4 en4 ls4 vl4 ft4 fp4 mfk mdp mto), (wMAll g mo al), (wMTxt g mo tt), (wMPil g mo (up pl9 (mto + i) (mF al vl4 i)))] dX9_core_81 rfl rfl rfl (by omega) rfl rfl ?_
        have g12 : ∀ q, 0 ≤ q → q < i + 1 → up pl9 (mto + i) (mF al vl4 i) (mto + q) = mF al vl4 q := fun q a b => by
          by_cases z : q = i
          · rw [z, up_same]
          · rw [up_ne _ _ (by omega)]; exact g1 q a (by omega)
        have g22 : ∀ j, ¬ (mto ≤ j ∧ j < mto + (i + 1)) → up pl9 (mto + i) (mF al vl4 i) j = pl j := fun j a => by rw [up_ne _ _ (by omega)]; exact g2 j (by omega)
        refine r_iinc 85 hE 1 (i + 1) [(2, .int (iI (i + 1))), (0, .ref (mo 0))] dX9_core_82 rfl rfl rfl (by decide) rfl ?_
        refine r_goto 50 hE dX9_core_85 (by decide) ?_
        refine G.to (fs' := [(wMo g mo mst mac mmk mr mrd mrm mcm mtp msz tk4 bg4 en4 ls4 vl4 ft4 fp4 mfk mdp mto), (wMAll g mo al), (wMTxt g mo tt), (wMPil g mo (up pl9 (mto + i) (mF al vl4 i)))]) (lv' := [(0, .ref (mo 0)), (2, .int (iI (i + 1)))]) [0, 1, 2, 3] [1, 0] rfl rfl rfl ?_
        exact ih50 tk4 bg4 en4 ls4 vl4 ft4 fp4 (i + 1) (up pl9 (mto + i) (mF al vl4 i)) (by first | exact hR1 | exact hR4) (by first | exact n2 | exact hft4) (by omega) (hK) (by first | exact n1 | exact hn4) (hc1) (by first | exact hvr | (have q1 := numE_ok n1; omega)) (by first | omega | (have q1 := numE_ok n1; have q2 := (hM.2 vl9_28 (by omega) (by omega)).1; omega)) (by first | exact g12 | exact (fun q a b => absurd b (by omega))) (by first | exact g22 | exact (fun _ _ => rfl)) (by omega)
  refine r_aload_n 1 hE 0 dX9_core_0 rfl rfl rfl ?_
  refine r_get 4 hE 0 0 ok9 37 dX9_core_1 rfl wd_1089 rfl rfl (by decide) rfl ?_
  refine r_istore_n 5 hE [(1, .int (iI mto)), (0, .ref (mo 0))] dX9_core_4 rfl rfl (by decide) rfl ?_
  refine r_aload_n 6 hE 1 dX9_core_5 rfl rfl rfl ?_
  refine r_get 9 hE 0 0 ok9 27 dX9_core_6 rfl wd_1079 rfl rfl (by decide) rfl ?_
  refine r_iconst 10 hE dX9_core_9 rfl ?_
  refine r_icmp_ne 13 18 hE dX9_core_10 rfl (by decide) (by omega) (fun c10 => ?_) (fun c10 => ?_)
  · skip
    have hK6 : (bkOf tt msz).K k ≠ 6 := fun z => c10 (hRd.i4.mpr z)
    refine r_aload_n 19 hE 1 dX9_core_18 rfl rfl rfl ?_
    refine r_bipush 21 hE dX9_core_19 rfl (by decide) ?_
    refine r_callV 24 hE [0, 2] [1, 3] [(wMo g mo mst mac mmk mr mrd mrm mcm mtp msz mtk mbg men mls mvl mft mfp mfk mdp mto), (wMTxt g mo tt)] [(wMAll g mo al), (wMPil g mo pl)] 0 9 ok9 [] (c_X9_isSign (hB) (hn) (by omega) (by omega) (by omega)) dX9_core_21 rfl rfl wd_1245 wd_1247 ws_58 wd_12 wd_1248 ne_X9 np_X9_isSign (by omega)  (by decide) (by decide) rfl (Nat.le_of_ble_eq_true rfl) rfl rfl rfl rfl (by decide) rfl (fun v1 f1 hp => ?_)
    obtain ⟨rfl, rfl⟩ := hp
    show G g E _ _ _ [(wMo g mo mst mac mmk mr mrd mrm mcm mtp msz mtk mbg men mls mvl mft mfp mfk mdp mto), (wMTxt g mo tt), (wMAll g mo al), (wMPil g mo pl)] 24 [(1, .int (iI mto)), (0, .ref (mo 0))] [.int (iI (bI (mtk = 5 ∧ mbA tt msz mbg = 35)))]
    refine r_if_eq 27 110 hE dX9_core_24 rfl (by decide) (bI_rg _) (fun c24 => ?_) (fun c24 => ?_)
    · skip
      have c24 := bI0 c24
      have hK35 : (bkOf tt msz).K k ≠ 35 := fun z => c24 ((hRd.sg hB (by decide)).mpr z)
      refine r_aload_n 111 hE 1 dX9_core_110 rfl rfl rfl ?_
      refine r_bipush 113 hE dX9_core_111 rfl (by decide) ?_
      refine r_callV 116 hE [0, 1] [2, 3] [(wMo g mo mst mac mmk mr mrd mrm mcm mtp msz mtk mbg men mls mvl mft mfp mfk mdp mto), (wMTxt g mo tt)] [(wMAll g mo al), (wMPil g mo pl)] 0 9 ok9 [] (c_X9_isSign (hB) (hn) (by omega) (by omega) (by omega)) dX9_core_113 rfl rfl wd_1245 wd_1247 ws_58 wd_12 wd_1248 ne_X9 np_X9_isSign (by omega)  (by decide) (by decide) rfl (Nat.le_of_ble_eq_true rfl) rfl rfl rfl rfl (by decide) rfl (fun v1 f1 hp => ?_)
      obtain ⟨rfl, rfl⟩ := hp
      show G g E _ _ _ [(wMo g mo mst mac mmk mr mrd mrm mcm mtp msz mtk mbg men mls mvl mft mfp mfk mdp mto), (wMTxt g mo tt), (wMAll g mo al), (wMPil g mo pl)] 116 [(1, .int (iI mto)), (0, .ref (mo 0))] [.int (iI (bI (mtk = 5 ∧ mbA tt msz mbg = 40)))]
      refine r_if_eq 119 155 hE dX9_core_116 rfl (by decide) (bI_rg _) (fun c116 => ?_) (fun c116 => ?_)
      · skip
        have c116 := bI0 c116
        have hK40 : (bkOf tt msz).K k ≠ 40 := fun z => c116 ((hRd.sg hB (by decide)).mpr z)
        refine r_aload_n 156 hE 1 dX9_core_155 rfl rfl rfl ?_
        refine r_bipush 158 hE dX9_core_156 rfl (by decide) ?_
        refine r_callV 161 hE [0, 1] [2, 3] [(wMo g mo mst mac mmk mr mrd mrm mcm mtp msz mtk mbg men mls mvl mft mfp mfk mdp mto), (wMTxt g mo tt)] [(wMAll g mo al), (wMPil g mo pl)] 0 9 ok9 [] (c_X9_isSign (hB) (hn) (by omega) (by omega) (by omega)) dX9_core_158 rfl rfl wd_1245 wd_1247 ws_58 wd_12 wd_1248 ne_X9 np_X9_isSign (by omega)  (by decide) (by decide) rfl (Nat.le_of_ble_eq_true rfl) rfl rfl rfl rfl (by decide) rfl (fun v1 f1 hp => ?_)
        obtain ⟨rfl, rfl⟩ := hp
        show G g E _ _ _ [(wMo g mo mst mac mmk mr mrd mrm mcm mtp msz mtk mbg men mls mvl mft mfp mfk mdp mto), (wMTxt g mo tt), (wMAll g mo al), (wMPil g mo pl)] 161 [(1, .int (iI mto)), (0, .ref (mo 0))] [.int (iI (bI (mtk = 5 ∧ mbA tt msz mbg = 126)))]
        refine r_if_ne 164 170 hE dX9_core_161 rfl (by decide) (bI_rg _) (fun c161 => ?_) (fun c161 => ?_)
        · skip
          have c161 := bI1 c161
          have hK := (hRd.sg hB (c := 126) (by decide)).mp c161
          have hK1 : tkK tt msz k ≠ 1 := by show (bkOf tt msz).K k ≠ 1; rw [hK]; decide
          have hen := (hRd.2.2.1 hK1).2
          have hc1 := hG.ok.nx hkc (by rw [hK]; decide)
          refine r_aload_n 171 hE 1 dX9_core_170 rfl rfl rfl ?_
          refine r_callV 174 hE [0, 1] [2, 3] [(wMo g mo mst mac mmk mr mrd mrm mcm mtp msz mtk mbg men mls mvl mft mfp mfk mdp mto), (wMTxt g mo tt)] [(wMAll g mo al), (wMPil g mo pl)] 0 9 ok9 [] (c_X9_sinks (hB) (hn) (hen) (by omega)) dX9_core_171 rfl rfl wd_1281 wd_1283 ws_67 wd_12 wd_1284 ne_X9 np_X9_sinks (by omega)  (by decide) (by decide) rfl (Nat.le_of_ble_eq_true rfl) rfl rfl rfl rfl (by decide) rfl (fun v1 f1 hp => ?_)
          obtain ⟨tk9_171, bg9_171, en9_171, vl9_171, rfl, rfl, h171_0⟩ := hp
          show G g E _ _ _ [(wMo g mo mst mac mmk mr mrd mrm mcm mtp msz tk9_171 bg9_171 en9_171 mbg vl9_171 mft mfp mfk (mdp + 1) mto), (wMTxt g mo tt), (wMAll g mo al), (wMPil g mo pl)] 174 [(1, .int (iI mto)), (0, .ref (mo 0))] [.int (iI 1)]
          have hR1 := AhIs.rd hRd hK1 hn.1 h171_0
          refine r_if_eq 177 184 hE dX9_core_174 rfl (by decide) (by omega) (fun c174 => ?_) (fun c174 => ?_)
          · skip
            exact absurd c174 (by decide)
          · skip
            refine r_aload_n 178 hE 1 dX9_core_177 rfl rfl rfl ?_
            refine r_callV 181 hE [0, 2, 1, 3] [] [(wMo g mo mst mac mmk mr mrd mrm mcm mtp msz tk9_171 bg9_171 en9_171 mbg vl9_171 mft mfp mfk (mdp + 1) mto), (wMAll g mo al), (wMTxt g mo tt), (wMPil g mo pl)] [] 0 9 ok9 [] (hco (hB) (hn) (hM) (hG) (hc1) (hR1) (hf0) (by omega) (by omega)) dX9_core_178 rfl rfl wd_1265 wd_1267 ws_63 wd_12 wd_1268 ne_X9 np_X9_core (by omega)  (by decide) (by decide) rfl (Nat.le_of_ble_eq_true rfl) rfl rfl rfl rfl (by decide) rfl (fun v1 f1 hp => ?_)
            obtain ⟨r9_178, tk9_178, bg9_178, en9_178, ls9_178, vl9_178, ft9_178, fp9_178, dp9_178, to9_178, pl9_178, rfl, rfl, h178_0, h178_1⟩ := hp
            show G g E _ _ _ [(wMo g mo mst mac mmk mr mrd mrm mcm mtp msz tk9_178 bg9_178 en9_178 ls9_178 vl9_178 ft9_178 fp9_178 mfk dp9_178 to9_178), (wMAll g mo al), (wMTxt g mo tt), (wMPil g mo pl9_178)] 181 [(1, .int (iI mto)), (0, .ref (mo 0))] [.int (iI r9_178)]
            refine r_if_ne 184 186 hE dX9_core_181 rfl (by decide) (by omega) (fun c181 => ?_) (fun c181 => ?_)
            · skip
              obtain ⟨zz0, zd, zq, l0, k0, hS0, hR2, hP0⟩ := h178_0.ok c181
              have hg0 : k0 ≤ c ∧ k + 1 < k0 ∧ GoodL l0 := core_G hG r _ _ hc1 hS0
              have hP01 := hP0.1
              have hPl0 := hP0.len
              have hgl := hg0.2.2.1
              refine r_iload_n 187 hE 0 dX9_core_186 rfl rfl rfl ?_
              refine r_istore_n 188 hE [(2, .int (iI mto)), (1, .int (iI mto)), (0, .ref (mo 0))] dX9_core_187 rfl rfl (by decide) rfl ?_
              refine r_aload_n 189 hE 2 dX9_core_188 rfl rfl rfl ?_
              refine r_get 192 hE 0 0 ok9 37 dX9_core_189 rfl wd_1089 rfl rfl (by decide) rfl ?_
              refine r_iconst 193 hE dX9_core_192 rfl ?_
              refine r_isub 194 hE (to9_178 - 1) dX9_core_193 rfl rfl ?_
              refine r_istore_n 195 hE [(3, .int (iI (to9_178 - 1))), (2, .int (iI mto)), (1, .int (iI mto)), (0, .ref (mo 0))] dX9_core_194 rfl rfl (by decide) rfl ?_
              refine G.to (fs' := [(wMo g mo mst mac mmk mr mrd mrm mcm mtp msz tk9_178 bg9_178 en9_178 ls9_178 vl9_178 ft9_178 fp9_178 mfk dp9_178 to9_178), (wMAll g mo al), (wMTxt g mo tt), (wMPil g mo pl9_178)]) (lv' := [(0, .ref (mo 0)), (2, .int (iI mto)), (3, .int (iI (to9_178 - 1)))]) [0, 1, 2, 3] [3, 1, 0] rfl rfl rfl ?_
              exact cut195 _ tk9_178 bg9_178 en9_178 ls9_178 vl9_178 ft9_178 fp9_178 dp9_178 to9_178 pl9_178 mto (to9_178 - 1) pl9_178 l0 k0 (hK) (hS0) (hR2) (hP0) (by first | exact zz0 | exact hft4) (by omega) (by first | exact zd | exact hd4) (by omega) (by omega) (by omega) (by first | exact hrv2 | exact RvIs.start) (Nat.lt_succ_self _)
            · skip
              refine r_iconst 185 hE dX9_core_184 rfl ?_
              refine r_zreturn hE hR [(wMo g mo mst mac mmk mr mrd mrm mcm mtp msz tk9_178 bg9_178 en9_178 ls9_178 vl9_178 ft9_178 fp9_178 mfk dp9_178 to9_178), (wMAll g mo al), (wMTxt g mo tt), (wMPil g mo pl9_178)] dX9_core_185 (Nat.le_of_ble_eq_true rfl) (Nat.le_of_ble_eq_true rfl) (Or.inl rfl) rfl ?_
              obtain ⟨e, e1, e2, e3, e4⟩ := h178_0.er c181
              exact ⟨0, _, _, _, _, _, _, _, _, _, _, rfl, rfl, PrR.no ((core_til hK).trans (til_e e1)) e2 e3 e4, by omega⟩
        · skip
          have c161 := bI0 c161
          have hK126 : (bkOf tt msz).K k ≠ 126 := fun z => c161 ((hRd.sg hB (by decide)).mpr z)
          refine r_aload_n 165 hE 1 dX9_core_164 rfl rfl rfl ?_
          refine r_iconst 166 hE dX9_core_165 rfl ?_
          refine r_callV 169 hE [0] [1, 2, 3] [(wMo g mo mst mac mmk mr mrd mrm mcm mtp msz mtk mbg men mls mvl mft mfp mfk mdp mto)] [(wMTxt g mo tt), (wMAll g mo al), (wMPil g mo pl)] 0 9 ok9 [] (c_X9_fails (hf0) (by omega)) dX9_core_166 rfl rfl wd_1228 wd_1230 ws_54 wd_12 wd_1231 ne_X9 np_X9_fails (by omega)  (by decide) (by decide) rfl (Nat.le_of_ble_eq_true rfl) rfl rfl rfl rfl (by decide) rfl (fun v1 f1 hp => ?_)
          obtain ⟨rfl, rfl⟩ := hp
          show G g E _ _ _ [(wMo g mo mst mac mmk mr mrd mrm mcm mtp msz mtk mbg men mls mvl (if mtk = 1 then 1 else 2) mbg mfk mdp mto), (wMTxt g mo tt), (wMAll g mo al), (wMPil g mo pl)] 169 [(1, .int (iI mto)), (0, .ref (mo 0))] [.int (iI 0)]
          refine G.to (fs' := [(wMo g mo mst mac mmk mr mrd mrm mcm mtp msz mtk mbg men mls mvl (if mtk = 1 then 1 else 2) mbg mfk mdp mto), (wMAll g mo al), (wMTxt g mo tt), (wMPil g mo pl)]) [0, 2, 1, 3] [0, 1] rfl rfl rfl ?_
          refine r_zreturn hE hR [(wMo g mo mst mac mmk mr mrd mrm mcm mtp msz mtk mbg men mls mvl (if mtk = 1 then 1 else 2) mbg mfk mdp mto), (wMAll g mo al), (wMTxt g mo tt), (wMPil g mo pl)] dX9_core_169 (Nat.le_of_ble_eq_true rfl) (Nat.le_of_ble_eq_true rfl) (Or.inl rfl) rfl ?_
          exact ⟨0, _, _, _, _, _, _, _, _, _, _, rfl, rfl, PrR.no ((core_leaf hK40 hK126).trans (leaf_0 hK6 hK35)) (congrArg Prod.fst (hRd.ft 2)) (congrArg Prod.snd (hRd.ft 2)) (ftAt_r9 _ _), by omega⟩
      · skip
        have c116 := bI1 c116
        have hK := (hRd.sg hB (c := 40) (by decide)).mp c116
        have hK1 : tkK tt msz k ≠ 1 := by show (bkOf tt msz).K k ≠ 1; rw [hK]; decide
        have hen := (hRd.2.2.1 hK1).2
        have hc1 := hG.ok.nx hkc (by rw [hK]; decide)
        refine r_aload_n 120 hE 1 dX9_core_119 rfl rfl rfl ?_
        refine r_callV 123 hE [0, 1] [2, 3] [(wMo g mo mst mac mmk mr mrd mrm mcm mtp msz mtk mbg men mls mvl mft mfp mfk mdp mto), (wMTxt g mo tt)] [(wMAll g mo al), (wMPil g mo pl)] 0 9 ok9 [] (c_X9_sinks (hB) (hn) (hen) (by omega)) dX9_core_120 rfl rfl wd_1281 wd_1283 ws_67 wd_12 wd_1284 ne_X9 np_X9_sinks (by omega)  (by decide) (by decide) rfl (Nat.le_of_ble_eq_true rfl) rfl rfl rfl rfl (by decide) rfl (fun v1 f1 hp => ?_)
        obtain ⟨tk9_120, bg9_120, en9_120, vl9_120, rfl, rfl, h120_0⟩ := hp
        show G g E _ _ _ [(wMo g mo mst mac mmk mr mrd mrm mcm mtp msz tk9_120 bg9_120 en9_120 mbg vl9_120 mft mfp mfk (mdp + 1) mto), (wMTxt g mo tt), (wMAll g mo al), (wMPil g mo pl)] 123 [(1, .int (iI mto)), (0, .ref (mo 0))] [.int (iI 1)]
        have hR1 := AhIs.rd hRd hK1 hn.1 h120_0
        refine r_if_eq 126 153 hE dX9_core_123 rfl (by decide) (by omega) (fun c123 => ?_) (fun c123 => ?_)
        · skip
          exact absurd c123 (by decide)
        · skip
          refine r_aload_n 127 hE 1 dX9_core_126 rfl rfl rfl ?_
          refine r_callV 130 hE [0, 2, 1, 3] [] [(wMo g mo mst mac mmk mr mrd mrm mcm mtp msz tk9_120 bg9_120 en9_120 mbg vl9_120 mft mfp mfk (mdp + 1) mto), (wMAll g mo al), (wMTxt g mo tt), (wMPil g mo pl)] [] 0 9 ok9 [] (c_X9_sum (hco) (hd0) (hB) (hn) (hM) (hG) (hc1) (hR1) (hf0) (by omega) (by omega)) dX9_core_127 rfl rfl wd_1253 wd_1255 ws_60 wd_12 wd_1256 ne_X9 np_X9_sum (by omega)  (by decide) (by decide) rfl (Nat.le_of_ble_eq_true rfl) rfl rfl rfl rfl (by decide) rfl (fun v1 f1 hp => ?_)
          obtain ⟨r9_127, tk9_127, bg9_127, en9_127, ls9_127, vl9_127, ft9_127, fp9_127, dp9_127, to9_127, pl9_127, rfl, rfl, h127_0, h127_1⟩ := hp
          show G g E _ _ _ [(wMo g mo mst mac mmk mr mrd mrm mcm mtp msz tk9_127 bg9_127 en9_127 ls9_127 vl9_127 ft9_127 fp9_127 mfk dp9_127 to9_127), (wMAll g mo al), (wMTxt g mo tt), (wMPil g mo pl9_127)] 130 [(1, .int (iI mto)), (0, .ref (mo 0))] [.int (iI r9_127)]
          refine r_if_eq 133 153 hE dX9_core_130 rfl (by decide) (by omega) (fun c130 => ?_) (fun c130 => ?_)
          · skip
            refine r_iconst 154 hE dX9_core_153 rfl ?_
            refine r_zreturn hE hR [(wMo g mo mst mac mmk mr mrd mrm mcm mtp msz tk9_127 bg9_127 en9_127 ls9_127 vl9_127 ft9_127 fp9_127 mfk dp9_127 to9_127), (wMAll g mo al), (wMTxt g mo tt), (wMPil g mo pl9_127)] dX9_core_154 (Nat.le_of_ble_eq_true rfl) (Nat.le_of_ble_eq_true rfl) (by first | exact Or.inl rfl | exact Or.inr rfl) rfl ?_
            first
              | (obtain ⟨e, e1, e2, e3, e4⟩ := h127_0.er c130); (exact ⟨0, _, _, _, _, _, _, _, _, _, _, rfl, rfl, PrR.no ((core_par hK).trans (par_e1 e1)) e2 e3 e4, by omega⟩)
              | (obtain ⟨e1, e2, e3⟩ := h136_0.er c139); (exact ⟨0, _, _, _, _, _, _, _, _, _, _, rfl, rfl, PrR.no ((core_par hK).trans (par_e2 hS0 e1)) e2 e3 (ftAt_r9 _ _), by omega⟩)
              | exact ⟨1, _, _, _, _, _, _, _, _, _, _, rfl, rfl, PrR.yes ((core_par hK).trans (par_o hS0 t1)) hR3 hP0 t3 (by omega) (by omega), by omega⟩
          · skip
            obtain ⟨zz0, zd, zq, l0, k0, hS0, hR2, hP0⟩ := h127_0.ok c130
            refine r_aload_n 134 hE 1 dX9_core_133 rfl rfl rfl ?_
            refine r_bipush 136 hE dX9_core_134 rfl (by decide) ?_
            refine r_callV 139 hE [0, 2] [1, 3] [(wMo g mo mst mac mmk mr mrd mrm mcm mtp msz tk9_127 bg9_127 en9_127 ls9_127 vl9_127 ft9_127 fp9_127 mfk dp9_127 to9_127), (wMTxt g mo tt)] [(wMAll g mo al), (wMPil g mo pl9_127)] 0 9 ok9 [] (c_X9_takesSign (hB) (hn) (hR2) (zz0) (by decide)) dX9_core_136 rfl rfl wd_1241 wd_1243 ws_57 wd_12 wd_1244 ne_X9 np_X9_takesSign (by omega)  (by decide) (by decide) rfl (Nat.le_of_ble_eq_true rfl) rfl rfl rfl rfl (by decide) rfl (fun v1 f1 hp => ?_)
            obtain ⟨r9_136, tk9_136, bg9_136, en9_136, ls9_136, vl9_136, ft9_136, fp9_136, rfl, rfl, h136_0, h136_1⟩ := hp
            show G g E _ _ _ [(wMo g mo mst mac mmk mr mrd mrm mcm mtp msz tk9_136 bg9_136 en9_136 ls9_136 vl9_136 ft9_136 fp9_136 mfk dp9_127 to9_127), (wMTxt g mo tt), (wMAll g mo al), (wMPil g mo pl9_127)] 139 [(1, .int (iI mto)), (0, .ref (mo 0))] [.int (iI r9_136)]
            refine r_if_eq 142 153 hE dX9_core_139 rfl (by decide) (by omega) (fun c139 => ?_) (fun c139 => ?_)
            · skip
              refine r_iconst 154 hE dX9_core_153 rfl ?_
              refine G.to (fs' := [(wMo g mo mst mac mmk mr mrd mrm mcm mtp msz tk9_136 bg9_136 en9_136 ls9_136 vl9_136 ft9_136 fp9_136 mfk dp9_127 to9_127), (wMAll g mo al), (wMTxt g mo tt), (wMPil g mo pl9_127)]) [0, 2, 1, 3] [0, 1] rfl rfl rfl ?_
              refine r_zreturn hE hR [(wMo g mo mst mac mmk mr mrd mrm mcm mtp msz tk9_136 bg9_136 en9_136 ls9_136 vl9_136 ft9_136 fp9_136 mfk dp9_127 to9_127), (wMAll g mo al), (wMTxt g mo tt), (wMPil g mo pl9_127)] dX9_core_154 (Nat.le_of_ble_eq_true rfl) (Nat.le_of_ble_eq_true rfl) (by first | exact Or.inl rfl | exact Or.inr rfl) rfl ?_
              first
                | (obtain ⟨e, e1, e2, e3, e4⟩ := h127_0.er c130); (exact ⟨0, _, _, _, _, _, _, _, _, _, _, rfl, rfl, PrR.no ((core_par hK).trans (par_e1 e1)) e2 e3 e4, by omega⟩)
                | (obtain ⟨e1, e2, e3⟩ := h136_0.er c139); (exact ⟨0, _, _, _, _, _, _, _, _, _, _, rfl, rfl, PrR.no ((core_par hK).trans (par_e2 hS0 e1)) e2 e3 (ftAt_r9 _ _), by omega⟩)
                | exact ⟨1, _, _, _, _, _, _, _, _, _, _, rfl, rfl, PrR.yes ((core_par hK).trans (par_o hS0 t1)) hR3 hP0 t3 (by omega) (by omega), by omega⟩
            · skip
              obtain ⟨t1, hR3, t3, t4⟩ := h136_0.ok c139
              refine r_aload_n 143 hE 1 dX9_core_142 rfl rfl rfl ?_
              refine r_callV 146 hE [0] [1, 2, 3] [(wMo g mo mst mac mmk mr mrd mrm mcm mtp msz tk9_136 bg9_136 en9_136 ls9_136 vl9_136 ft9_136 fp9_136 mfk dp9_127 to9_127)] [(wMTxt g mo tt), (wMAll g mo al), (wMPil g mo pl9_127)] 0 9 ok9 [] (c_X9_rises) dX9_core_143 rfl rfl wd_1285 wd_1287 ws_68 wd_12 wd_1288 ne_X9 np_X9_rises (by omega)  (by decide) (by decide) rfl (Nat.le_of_ble_eq_true rfl) rfl rfl rfl rfl (by decide) rfl (fun v1 f1 hp => ?_)
              obtain ⟨rfl, rfl⟩ := hp
              show G g E _ _ _ [(wMo g mo mst mac mmk mr mrd mrm mcm mtp msz tk9_136 bg9_136 en9_136 ls9_136 vl9_136 ft9_136 fp9_136 mfk (dp9_127 - 1) to9_127), (wMTxt g mo tt), (wMAll g mo al), (wMPil g mo pl9_127)] 146 [(1, .int (iI mto)), (0, .ref (mo 0))] [.int (iI 1)]
              refine r_if_eq 149 153 hE dX9_core_146 rfl (by decide) (by omega) (fun c146 => ?_) (fun c146 => ?_)
              · skip
                exact absurd c146 (by decide)
              · skip
                refine r_iconst 150 hE dX9_core_149 rfl ?_
                refine r_goto 154 hE dX9_core_150 (by decide) ?_
                refine G.to (fs' := [(wMo g mo mst mac mmk mr mrd mrm mcm mtp msz tk9_136 bg9_136 en9_136 ls9_136 vl9_136 ft9_136 fp9_136 mfk (dp9_127 - 1) to9_127), (wMAll g mo al), (wMTxt g mo tt), (wMPil g mo pl9_127)]) [0, 2, 1, 3] [0, 1] rfl rfl rfl ?_
                refine r_zreturn hE hR [(wMo g mo mst mac mmk mr mrd mrm mcm mtp msz tk9_136 bg9_136 en9_136 ls9_136 vl9_136 ft9_136 fp9_136 mfk (dp9_127 - 1) to9_127), (wMAll g mo al), (wMTxt g mo tt), (wMPil g mo pl9_127)] dX9_core_154 (Nat.le_of_ble_eq_true rfl) (Nat.le_of_ble_eq_true rfl) (by first | exact Or.inl rfl | exact Or.inr rfl) rfl ?_
                first
                  | (obtain ⟨e, e1, e2, e3, e4⟩ := h127_0.er c130); (exact ⟨0, _, _, _, _, _, _, _, _, _, _, rfl, rfl, PrR.no ((core_par hK).trans (par_e1 e1)) e2 e3 e4, by omega⟩)
                  | (obtain ⟨e1, e2, e3⟩ := h136_0.er c139); (exact ⟨0, _, _, _, _, _, _, _, _, _, _, rfl, rfl, PrR.no ((core_par hK).trans (par_e2 hS0 e1)) e2 e3 (ftAt_r9 _ _), by omega⟩)
                  | exact ⟨1, _, _, _, _, _, _, _, _, _, _, rfl, rfl, PrR.yes ((core_par hK).trans (par_o hS0 t1)) hR3 hP0 t3 (by omega) (by omega), by omega⟩
    · skip
      have c24 := bI1 c24
      have hK := (hRd.sg hB (c := 35) (by decide)).mp c24
      have hK1 : tkK tt msz k ≠ 1 := by show (bkOf tt msz).K k ≠ 1; rw [hK]; decide
      have hen := (hRd.2.2.1 hK1).2
      have hc1 := hG.ok.nx hkc (by rw [hK]; decide)
      refine r_aload_n 28 hE 1 dX9_core_27 rfl rfl rfl ?_
      refine r_callV 31 hE [0, 1] [2, 3] [(wMo g mo mst mac mmk mr mrd mrm mcm mtp msz mtk mbg men mls mvl mft mfp mfk mdp mto), (wMTxt g mo tt)] [(wMAll g mo al), (wMPil g mo pl)] 0 9 ok9 [] (c_X9_ahead (hB) (hn) (hen)) dX9_core_28 rfl rfl wd_1194 wd_1196 ws_49 wd_12 wd_1197 ne_X9 np_X9_ahead (by omega)  (by decide) (by decide) rfl (Nat.le_of_ble_eq_true rfl) rfl rfl rfl rfl (by decide) rfl (fun v1 f1 hp => ?_)
      obtain ⟨tk9_28, bg9_28, en9_28, vl9_28, rfl, rfl, h28_0⟩ := hp
      show G g E _ _ _ [(wMo g mo mst mac mmk mr mrd mrm mcm mtp msz tk9_28 bg9_28 en9_28 mbg vl9_28 mft mfp mfk mdp mto), (wMTxt g mo tt), (wMAll g mo al), (wMPil g mo pl)] 31 [(1, .int (iI mto)), (0, .ref (mo 0))] []
      have hR1 := AhIs.rd hRd hK1 hn.1 h28_0
      have hvl1 := hR1.2.2.2.2.1
      refine r_aload_n 32 hE 1 dX9_core_31 rfl rfl rfl ?_
      refine r_iconst 33 hE dX9_core_32 rfl ?_
      refine r_aload_n 34 hE 1 dX9_core_33 rfl rfl rfl ?_
      refine r_callV 37 hE [0, 2] [1, 3] [(wMo g mo mst mac mmk mr mrd mrm mcm mtp msz tk9_28 bg9_28 en9_28 mbg vl9_28 mft mfp mfk mdp mto), (wMAll g mo al)] [(wMTxt g mo tt), (wMPil g mo pl)] 0 9 ok9 [.int (iI 0), .ref (mo 0)] (c_X9_many) dX9_core_34 rfl rfl wd_1217 wd_1219 ws_52 wd_12 wd_1220 ne_X9 np_X9_many (by omega)  (by decide) (by decide) rfl (Nat.le_of_ble_eq_true rfl) rfl rfl rfl rfl (by decide) rfl (fun v1 f1 hp => ?_)
      obtain ⟨rfl, rfl⟩ := hp
      show G g E _ _ _ [(wMo g mo mst mac mmk mr mrd mrm mcm mtp msz tk9_28 bg9_28 en9_28 mbg vl9_28 mft mfp mfk mdp mto), (wMAll g mo al), (wMTxt g mo tt), (wMPil g mo pl)] 37 [(1, .int (iI mto)), (0, .ref (mo 0))] [.int (iI (al 0)), .int (iI 0), .ref (mo 0)]
      refine r_iconst 38 hE dX9_core_37 rfl ?_
      refine r_isub 39 hE ((al 0) - 1) dX9_core_38 rfl rfl ?_
      refine r_iconst 40 hE dX9_core_39 rfl ?_
      refine r_callV 43 hE [0] [1, 2, 3] [(wMo g mo mst mac mmk mr mrd mrm mcm mtp msz tk9_28 bg9_28 en9_28 mbg vl9_28 mft mfp mfk mdp mto)] [(wMAll g mo al), (wMTxt g mo tt), (wMPil g mo pl)] 0 9 ok9 [] (c_X9_isNumber (hR1) (hf0) (by omega) (by omega) (by decide) (hn)) dX9_core_40 rfl rfl wd_1237 wd_1239 ws_56 wd_12 wd_1240 ne_X9 np_X9_isNumber (by omega)  (by decide) (by decide) rfl (Nat.le_of_ble_eq_true rfl) rfl rfl rfl rfl (by decide) rfl (fun v1 f1 hp => ?_)
      obtain ⟨r9_40, ft9_40, fp9_40, rfl, rfl, h40_0, h40_1⟩ := hp
      show G g E _ _ _ [(wMo g mo mst mac mmk mr mrd mrm mcm mtp msz tk9_28 bg9_28 en9_28 mbg vl9_28 ft9_40 fp9_40 mfk mdp mto), (wMAll g mo al), (wMTxt g mo tt), (wMPil g mo pl)] 43 [(1, .int (iI mto)), (0, .ref (mo 0))] [.int (iI r9_40)]
      rw [← hTl] at h40_0
      refine r_if_ne 46 48 hE dX9_core_43 rfl (by decide) (by omega) (fun c43 => ?_) (fun c43 => ?_)
      · skip
        obtain ⟨n1, n2, n3⟩ := h40_0.ok c43
        have hv1 := numE_ok n1
        refine r_iconst 49 hE dX9_core_48 rfl ?_
        refine r_istore_n 50 hE [(2, .int (iI 0)), (1, .int (iI mto)), (0, .ref (mo 0))] dX9_core_49 rfl rfl (by decide) rfl ?_
        refine G.to (fs' := [(wMo g mo mst mac mmk mr mrd mrm mcm mtp msz tk9_28 bg9_28 en9_28 mbg vl9_28 ft9_40 fp9_40 mfk mdp mto), (wMAll g mo al), (wMTxt g mo tt), (wMPil g mo pl)]) (lv' := [(0, .ref (mo 0)), (2, .int (iI 0))]) [0, 1, 2, 3] [2, 0] rfl rfl rfl ?_
        exact cut50 _ tk9_28 bg9_28 en9_28 mbg vl9_28 ft9_40 fp9_40 0 pl (by first | exact hR1 | exact hR4) (by first | exact n2 | exact hft4) (by omega) (hK) (by first | exact n1 | exact hn4) (hc1) (by first | exact hvr | (have q1 := numE_ok n1; omega)) (by first | omega | (have q1 := numE_ok n1; have q2 := (hM.2 vl9_28 (by omega) (by omega)).1; omega)) (by first | exact g12 | exact (fun q a b => absurd b (by omega))) (by first | exact g22 | exact (fun _ _ => rfl)) (Nat.lt_succ_self _)
      · skip
        refine r_iconst 47 hE dX9_core_46 rfl ?_
        refine r_zreturn hE hR [(wMo g mo mst mac mmk mr mrd mrm mcm mtp msz tk9_28 bg9_28 en9_28 mbg vl9_28 ft9_40 fp9_40 mfk mdp mto), (wMAll g mo al), (wMTxt g mo tt), (wMPil g mo pl)] dX9_core_47 (Nat.le_of_ble_eq_true rfl) (Nat.le_of_ble_eq_true rfl) (Or.inl rfl) rfl ?_
        obtain ⟨e, e1, e2, e3, e4⟩ := h40_0.er c43
        exact ⟨0, _, _, _, _, _, _, _, _, _, _, rfl, rfl, PrR.no ((core_leaf (by rw [hK]; decide) (by rw [hK]; decide)).trans (leaf_n1 hK e1)) e2 e3 e4, by omega⟩
  · skip
    have hK := hRd.i4.mp c10
    refine r_aload_n 14 hE 1 dX9_core_13 rfl rfl rfl ?_
    refine r_callV 17 hE [0, 2, 3] [1] [(wMo g mo mst mac mmk mr mrd mrm mcm mtp msz mtk mbg men mls mvl mft mfp mfk mdp mto), (wMTxt g mo tt), (wMPil g mo pl)] [(wMAll g mo al)] 0 9 ok9 [] (c_X9_quote (T := (tsF (mF al) (mN al) (al 0))) (hB) (hn) (hRd) (hf0) (hK) (by omega)) dX9_core_14 rfl rfl wd_1269 wd_1271 ws_64 wd_12 wd_1272 ne_X9 np_X9_quote (by omega)  (by decide) (by decide) rfl (Nat.le_of_ble_eq_true rfl) rfl rfl rfl rfl (by decide) rfl (fun v1 f1 hp => ?_)
    obtain ⟨r9_14, tk9_14, bg9_14, en9_14, ls9_14, vl9_14, ft9_14, fp9_14, dp9_14, to9_14, pl9_14, rfl, rfl, h14_0, h14_1⟩ := hp
    show G g E _ _ _ [(wMo g mo mst mac mmk mr mrd mrm mcm mtp msz tk9_14 bg9_14 en9_14 ls9_14 vl9_14 ft9_14 fp9_14 mfk dp9_14 to9_14), (wMTxt g mo tt), (wMPil g mo pl9_14), (wMAll g mo al)] 17 [(1, .int (iI mto)), (0, .ref (mo 0))] [.int (iI r9_14)]
    refine G.to (fs' := [(wMo g mo mst mac mmk mr mrd mrm mcm mtp msz tk9_14 bg9_14 en9_14 ls9_14 vl9_14 ft9_14 fp9_14 mfk dp9_14 to9_14), (wMAll g mo al), (wMTxt g mo tt), (wMPil g mo pl9_14)]) [0, 3, 1, 2] [0, 1] rfl rfl rfl ?_
    refine r_zreturn hE hR [(wMo g mo mst mac mmk mr mrd mrm mcm mtp msz tk9_14 bg9_14 en9_14 ls9_14 vl9_14 ft9_14 fp9_14 mfk dp9_14 to9_14), (wMAll g mo al), (wMTxt g mo tt), (wMPil g mo pl9_14)] dX9_core_17 (Nat.le_of_ble_eq_true rfl) (Nat.le_of_ble_eq_true rfl) (by have h9 := h14_1; omega) rfl ?_
    exact ⟨r9_14, _, _, _, _, _, _, _, _, _, _, rfl, rfl, h14_0.eq (core_leaf (by rw [hK]; decide) (by rw [hK]; decide)), h14_1⟩
theorem core_all (g : Gm) : ∀ r : Nat, core_C g (4 + 4 * r) r
  | 0 => by
    intros
    apply c_X9_core_0 <;> assumption
  | r + 1 => by
    have ih : core_C g (4 + 4 * r) r := core_all g r
    intros
    rw [show 4 + 4 * (r + 1) = 4 + 4 * r + 4 by omega]
    apply c_X9_core_s ih (by omega) <;> assumption
