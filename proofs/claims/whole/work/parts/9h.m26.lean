set_option maxHeartbeats 4000000 in
set_option maxRecDepth 100000 in
theorem c_X9_product {g : Gm} {d0 r : Nat} {mo : Nat → Nat} {mst mac mmk mr mrd mrm mcm mtp msz mtk mbg men mls mvl mft mfp mfk mdp mto : Int} {al tt pl : Int → Int} {k c : Nat} (hco : core_C g d0 r) (hd0 : 4 ≤ d0) (hB : BR tt) (hn : 0 ≤ msz ∧ msz ≤ 900) (hM : MTx al) (hG : BkG (bkOf tt msz) (tsF (mF al) (mN al) (al 0)) c) (hkc : k ≤ c) (hRd : RdAt tt msz k mtk mbg men mls mvl) (hf0 : mft = 0) (hdp : mdp = 6 - ((r : Nat) : Int) ∧ r ≤ 6) (hto : 0 ≤ mto ∧ mto ≤ 600 * (7 - ((r : Nat) : Int))) : Ct g (d0 + 2) 0 0 yX9_product cX9_product 4 (some .boolean) [.ref (mo 0)] [(wMo g mo mst mac mmk mr mrd mrm mcm mtp msz mtk mbg men mls mvl mft mfp mfk mdp mto), (wMAll g mo al), (wMTxt g mo tt), (wMPil g mo pl)] (fun v_ w_ => ∃ r9 : Int, ∃ tk9 : Int, ∃ bg9 : Int, ∃ en9 : Int, ∃ ls9 : Int, ∃ vl9 : Int, ∃ ft9 : Int, ∃ fp9 : Int, ∃ dp9 : Int, ∃ to9 : Int, ∃ pl9 : Int → Int, v_ = some (.int (iI r9)) ∧ w_ = [(wMo g mo mst mac mmk mr mrd mrm mcm mtp msz tk9 bg9 en9 ls9 vl9 ft9 fp9 mfk dp9 to9), (wMAll g mo al), (wMTxt g mo tt), (wMPil g mo pl9)] ∧ (PrR (prodOf (bkOf tt msz) (core (bkOf tt msz) (tsF (mF al) (mN al) (al 0)) r) k) tt msz pl mto mdp mfp r9 tk9 bg9 en9 ls9 vl9 ft9 fp9 dp9 to9 pl9) ∧ (0 ≤ r9 ∧ r9 ≤ 1)) := by
  refine Ct.of (by decide) (Nat.le_of_ble_eq_true rfl) (lv := [(0, .ref (mo 0))]) rfl ?_
  intro E hE hR hnm
  have hc := hM.1
  have hTl := tsF_len (mF al) (mN al) hc.1
  have hcg := core_G hG r
  have hk1 := hRd.1.2.2
  have hk2 := hRd.tr
  have hk3 := hRd.2.2.2.2.1
  have cut14 : ∀ (N : Nat) (tk : Int) (bg : Int) (en : Int) (ls : Int) (vl : Int) (ft : Int) (fp : Int) (dp : Int) (to : Int) (pl8 : Int → Int) (l : List Int) (kk : Nat) (f : Nat), (RdAt tt msz kk tk bg en ls vl) → (kk ≤ c) → (ft = 0) → (dp = mdp) → (fp = mfp) → (PlIs pl mto pl8 to l) → (GoodL l) → (prodOf (bkOf tt msz) (core (bkOf tt msz) (tsF (mF al) (mN al) (al 0)) r) k = prodL (bkOf tt msz) f l kk) → (c + 1 ≤ kk + f) → ((c : Int) - (kk : Int)).toNat < N → G g E 4 0 0 [(wMo g mo mst mac mmk mr mrd mrm mcm mtp msz tk bg en ls vl ft fp mfk dp to), (wMAll g mo al), (wMTxt g mo tt), (wMPil g mo pl8)] 14 [(0, .ref (mo 0)), (1, .int (iI mto))] [] := by
    intro N
    induction N with
    | zero => intro tk bg en ls vl ft fp dp to pl8 l kk f _ _ _ _ _ _ _ _ _ hN; exact absurd hN (Nat.not_lt_zero _)
    | succ N ih14 =>
      intro tk bg en ls vl ft fp dp to pl8 l kk f hRk hkk hft hd9 hfq hP hl hE9 hf hN
      have hk1 := hRk.1.2.2
      have hk2 := hRk.tr
      have hk3 := hRk.2.2.2.2.1
      have hPl := hP.len
      have hPm := hP.1
      have hll := hl.1
      have hfp : 0 < f := by omega
      have cut68 : ∀ (N : Nat) (tk4 : Int) (bg4 : Int) (en4 : Int) (ls4 : Int) (vl4 : Int) (ft4 : Int) (fp4 : Int) (i : Int) (pl7 : Int → Int), (RdAt tt msz (kk + 1) tk4 bg4 en4 ls4 vl4) → (ft4 = 0) → (fp4 = mfp) → ((bkOf tt msz).K kk = 42) → (numE (bkOf tt msz) (kk + 1) 1 600 4 = .ok vl4) → (kk + 1 ≤ c) → (1 ≤ vl4 ∧ to - mto ≤ (to - mto) * vl4 ∧ (to - mto) * vl4 ≤ 600) → (to - mto ≤ i ∧ i ≤ (to - mto) * vl4) → (∀ j, 0 ≤ j → j < i → pl7 (mto + j) = pl8 (mto + j % (to - mto))) → (∀ j, 0 ≤ j → j < mto → pl7 j = pl8 j) → ((to - mto) * vl4 - i).toNat < N → G g E 4 0 0 [(wMo g mo mst mac mmk mr mrd mrm mcm mtp msz tk4 bg4 en4 ls4 vl4 ft4 fp4 mfk dp to), (wMAll g mo al), (wMTxt g mo tt), (wMPil g mo pl7)] 68 [(0, .ref (mo 0)), (1, .int (iI mto)), (2, .int (iI (to - mto))), (3, .int (iI i))] [] := by
        intro N
        induction N with
        | zero => intro tk4 bg4 en4 ls4 vl4 ft4 fp4 i pl7 _ _ _ _ _ _ _ _ _ _ hN; exact absurd hN (Nat.not_lt_zero _)
        | succ N ih68 =>
          intro tk4 bg4 en4 ls4 vl4 ft4 fp4 i pl7 hR4 hft4 hfq4 hK m1 hc1 hav hi g1 g2 hN
          have hvl4 := hR4.2.2.2.2.1
          refine r_iload_n 69 hE 3 dX9_product_68 rfl rfl rfl ?_
          refine r_iload_n 70 hE 2 dX9_product_69 rfl rfl rfl ?_
          refine r_aload_n 71 hE 0 dX9_product_70 rfl rfl rfl ?_
          refine r_get 74 hE 0 0 ok9 31 dX9_product_71 rfl wd_1083 rfl rfl (by decide) rfl ?_
          refine r_imul 75 hE ((to - mto) * vl4) dX9_product_74 rfl rfl ?_
          refine r_icmp_ge 78 102 hE dX9_product_75 rfl (by decide) (by omega) (fun c75 => ?_) (fun c75 => ?_)
          · skip
            have hv4 := numE_ok m1
            have hK4 : tkK tt msz (kk + 1) ≠ 1 := by show (bkOf tt msz).K (kk + 1) ≠ 1; rw [hv4.1]; decide
            have hen4 := (hR4.2.2.1 hK4).2
            have hiv : i = (to - mto) * vl4 := by omega
            rw [hiv] at g1
            have hP9 := hP.rep hto.1 (v := vl4) (by omega) (by omega) g1 g2
            have hto9 := times_o (l := l) m1 (by rw [hPl]; omega)
            have hl9 := timesE_G hl.1.1 hl.2 hto9
            have hE8 := hE9.trans (prodL_o hfp hK hto9)
            have hkk9 : kk + 2 ≤ c := hG.ok.nx hc1 (by rw [hv4.1]; decide)
            have zd9 := hd9
            have z9 := hft4
            refine r_aload_n 103 hE 0 dX9_product_102 rfl rfl rfl ?_
            refine r_iload_n 104 hE 1 dX9_product_103 rfl rfl rfl ?_
            refine r_iload_n 105 hE 2 dX9_product_104 rfl rfl rfl ?_
            refine r_aload_n 106 hE 0 dX9_product_105 rfl rfl rfl ?_
            refine r_get 109 hE 0 0 ok9 31 dX9_product_106 rfl wd_1083 rfl rfl (by decide) rfl ?_
            refine r_imul 110 hE ((to - mto) * vl4) dX9_product_109 rfl rfl ?_
            refine r_iadd 111 hE (mto + ((to - mto) * vl4)) dX9_product_110 rfl rfl ?_
            refine r_put 114 hE 0 0 ok9 37 (wMo g mo mst mac mmk mr mrd mrm mcm mtp msz tk4 bg4 en4 ls4 vl4 ft4 fp4 mfk dp (mto + ((to - mto) * vl4))) [(wMo g mo mst mac mmk mr mrd mrm mcm mtp msz tk4 bg4 en4 ls4 vl4 ft4 fp4 mfk dp (mto + ((to - mto) * vl4))), (wMAll g mo al), (wMTxt g mo tt), (wMPil g mo pl7)] dX9_product_111 rfl wd_1089 rfl rfl (by decide) rfl rfl rfl (Nat.le_of_ble_eq_true rfl) rfl rfl ?_
            refine r_aload_n 115 hE 0 dX9_product_114 rfl rfl rfl ?_
            refine r_callV 118 hE [0, 2] [1, 3] [(wMo g mo mst mac mmk mr mrd mrm mcm mtp msz tk4 bg4 en4 ls4 vl4 ft4 fp4 mfk dp (mto + ((to - mto) * vl4))), (wMTxt g mo tt)] [(wMAll g mo al), (wMPil g mo pl7)] 0 9 ok9 [] (c_X9_ahead (hB) (hn) (hen4)) dX9_product_115 rfl rfl wd_1194 wd_1196 ws_49 wd_12 wd_1197 ne_X9 np_X9_ahead (by omega)  (by decide) (by decide) rfl (Nat.le_of_ble_eq_true rfl) rfl rfl rfl rfl (by decide) rfl (fun v1 f1 hp => ?_)
            obtain ⟨tk9_115, bg9_115, en9_115, vl9_115, rfl, rfl, h115_0⟩ := hp
            show G g E _ _ _ [(wMo g mo mst mac mmk mr mrd mrm mcm mtp msz tk9_115 bg9_115 en9_115 bg4 vl9_115 ft4 fp4 mfk dp (mto + ((to - mto) * vl4))), (wMTxt g mo tt), (wMAll g mo al), (wMPil g mo pl7)] 118 [(0, .ref (mo 0)), (1, .int (iI mto)), (2, .int (iI (to - mto))), (3, .int (iI i))] []
            have hR9 := AhIs.rd hR4 hK4 hn.1 h115_0
            refine r_goto 14 hE dX9_product_118 (by decide) ?_
            refine G.to (fs' := [(wMo g mo mst mac mmk mr mrd mrm mcm mtp msz tk9_115 bg9_115 en9_115 bg4 vl9_115 ft4 fp4 mfk dp (mto + ((to - mto) * vl4))), (wMAll g mo al), (wMTxt g mo tt), (wMPil g mo pl7)]) (lv' := [(0, .ref (mo 0)), (1, .int (iI mto))]) [0, 2, 1, 3] [0, 1] rfl rfl rfl ?_
            exact ih14 tk9_115 bg9_115 en9_115 bg4 vl9_115 ft4 fp4 dp (mto + ((to - mto) * vl4)) pl7 (rep vl4 l) (kk + 2) (f - 1) (by first | exact hR0 | exact hR9) (by first | exact hg0.1 | exact hkk9) (by first | exact z0 | exact z9) (by first | exact zd | exact zd9) (by omega) (by first | exact hP0 | exact hP9) (by first | exact hg0.2.2 | exact hl9) (by first | exact hE0 | exact hE8) (by omega) (by omega)
          · skip
            refine r_aload_n 79 hE 0 dX9_product_78 rfl rfl rfl ?_
            refine r_get 82 hE 0 0 ok9 36 dX9_product_79 rfl wd_1088 rfl rfl (by decide) rfl ?_
            refine r_iload_n 83 hE 1 dX9_product_82 rfl rfl rfl ?_
            refine r_iload_n 84 hE 3 dX9_product_83 rfl rfl rfl ?_
            refine r_iadd 85 hE (mto + i) dX9_product_84 rfl rfl ?_
            refine r_aload_n 86 hE 0 dX9_product_85 rfl rfl rfl ?_
            refine r_get 89 hE 0 0 ok9 36 dX9_product_86 rfl wd_1088 rfl rfl (by decide) rfl ?_
            refine r_iload_n 90 hE 1 dX9_product_89 rfl rfl rfl ?_
            refine r_iload_n 91 hE 3 dX9_product_90 rfl rfl rfl ?_
            refine r_iadd 92 hE (mto + i) dX9_product_91 rfl rfl ?_
            refine r_iload_n 93 hE 2 dX9_product_92 rfl rfl rfl ?_
            refine r_isub 94 hE ((mto + i) - (to - mto)) dX9_product_93 rfl rfl ?_
            refine r_iald 95 hE 3 0 dX9_product_94 rfl rfl rfl (by omega) ?_
            refine r_iast 96 hE 3 0 (wMPil g mo (up pl7 (mto + i) (pl7 ((mto + i) - (to - mto))))) [(wMo g mo mst mac mmk mr mrd mrm mcm mtp msz tk4 bg4 en4 ls4 vl4 ft4 fp4 mfk dp to), (wMAll g mo al), (wMTxt g mo tt), (wMPil g mo (up pl7 (mto + i) (pl7 ((mto + i) - (to - mto)))))] dX9_product_95 rfl rfl rfl (by omega) rfl rfl ?_
            have g12 : ∀ j, 0 ≤ j → j < i + 1 → up pl7 (mto + i) (pl7 (mto + i - (to - mto))) (mto + j) = pl8 (mto + j % (to - mto)) := fun j x y => by
              by_cases z : j = i
              · rw [z, up_same, emod_step i (to - mto)]
                have h9 := g1 (i - (to - mto)) (by omega) (by omega)
                rw [show mto + (i - (to - mto)) = mto + i - (to - mto) by omega] at h9
                exact h9
              · rw [up_ne _ _ (by omega)]; exact g1 j x (by omega)
            have g22 : ∀ j, 0 ≤ j → j < mto → up pl7 (mto + i) (pl7 (mto + i - (to - mto))) j = pl8 j := fun j x y => by rw [up_ne _ _ (by omega)]; exact g2 j x y
            refine r_iinc 99 hE 3 (i + 1) [(3, .int (iI (i + 1))), (0, .ref (mo 0)), (1, .int (iI mto)), (2, .int (iI (to - mto)))] dX9_product_96 rfl rfl rfl (by decide) rfl ?_
            refine r_goto 68 hE dX9_product_99 (by decide) ?_
            refine G.to (fs' := [(wMo g mo mst mac mmk mr mrd mrm mcm mtp msz tk4 bg4 en4 ls4 vl4 ft4 fp4 mfk dp to), (wMAll g mo al), (wMTxt g mo tt), (wMPil g mo (up pl7 (mto + i) (pl7 ((mto + i) - (to - mto)))))]) (lv' := [(0, .ref (mo 0)), (1, .int (iI mto)), (2, .int (iI (to - mto))), (3, .int (iI (i + 1)))]) [0, 1, 2, 3] [1, 2, 3, 0] rfl rfl rfl ?_
            exact ih68 tk4 bg4 en4 ls4 vl4 ft4 fp4 (i + 1) (up pl7 (mto + i) (pl7 ((mto + i) - (to - mto)))) (by first | exact hR1 | exact hR4) (by first | exact n2 | exact hft4) (by omega) (hK) (by first | exact n1 | exact m1) (hc1) (by first | exact hav | (have q1 := numE_ok n1; exact ⟨by omega, hvn, by omega⟩)) (by omega) (by first | exact g12 | exact (fun j x y => by rw [Int.emod_eq_of_lt x y])) (by first | exact g22 | exact (fun _ _ _ => rfl)) (by omega)
      refine r_aload_n 15 hE 0 dX9_product_14 rfl rfl rfl ?_
      refine r_bipush 17 hE dX9_product_15 rfl (by decide) ?_
      refine r_callV 20 hE [0, 2] [1, 3] [(wMo g mo mst mac mmk mr mrd mrm mcm mtp msz tk bg en ls vl ft fp mfk dp to), (wMTxt g mo tt)] [(wMAll g mo al), (wMPil g mo pl8)] 0 9 ok9 [] (c_X9_isSign (hB) (hn) (by omega) (by omega) (by omega)) dX9_product_17 rfl rfl wd_1245 wd_1247 ws_58 wd_12 wd_1248 ne_X9 np_X9_isSign (by omega)  (by decide) (by decide) rfl (Nat.le_of_ble_eq_true rfl) rfl rfl rfl rfl (by decide) rfl (fun v1 f1 hp => ?_)
      obtain ⟨rfl, rfl⟩ := hp
      show G g E _ _ _ [(wMo g mo mst mac mmk mr mrd mrm mcm mtp msz tk bg en ls vl ft fp mfk dp to), (wMTxt g mo tt), (wMAll g mo al), (wMPil g mo pl8)] 20 [(0, .ref (mo 0)), (1, .int (iI mto))] [.int (iI (bI (tk = 5 ∧ mbA tt msz bg = 42)))]
      refine r_if_eq 23 121 hE dX9_product_20 rfl (by decide) (bI_rg _) (fun c20 => ?_) (fun c20 => ?_)
      · skip
        have c20 := bI0 c20
        have hK : (bkOf tt msz).K kk ≠ 42 := fun z => c20 ((hRk.sg hB (by decide)).mpr z)
        refine r_iconst 122 hE dX9_product_121 rfl ?_
        refine G.to (fs' := [(wMo g mo mst mac mmk mr mrd mrm mcm mtp msz tk bg en ls vl ft fp mfk dp to), (wMAll g mo al), (wMTxt g mo tt), (wMPil g mo pl8)]) [0, 2, 1, 3] [0, 1] rfl rfl rfl ?_
        refine r_zreturn hE hR [(wMo g mo mst mac mmk mr mrd mrm mcm mtp msz tk bg en ls vl ft fp mfk dp to), (wMAll g mo al), (wMTxt g mo tt), (wMPil g mo pl8)] dX9_product_122 (Nat.le_of_ble_eq_true rfl) (Nat.le_of_ble_eq_true rfl) (Or.inr rfl) rfl ?_
        exact ⟨1, _, _, _, _, _, _, _, _, _, _, rfl, rfl, PrR.yes (hE9.trans (prodL_n hfp hK)) hRk hP hft hd9 hfq, by omega⟩
      · skip
        have c20 := bI1 c20
        have hK := (hRk.sg hB (c := 42) (by decide)).mp c20
        have hK1 : tkK tt msz kk ≠ 1 := by show (bkOf tt msz).K kk ≠ 1; rw [hK]; decide
        have hen := (hRk.2.2.1 hK1).2
        have hc1 := hG.ok.nx hkk (by rw [hK]; decide)
        refine r_aload_n 24 hE 0 dX9_product_23 rfl rfl rfl ?_
        refine r_callV 27 hE [0, 1] [2, 3] [(wMo g mo mst mac mmk mr mrd mrm mcm mtp msz tk bg en ls vl ft fp mfk dp to), (wMTxt g mo tt)] [(wMAll g mo al), (wMPil g mo pl8)] 0 9 ok9 [] (c_X9_ahead (hB) (hn) (hen)) dX9_product_24 rfl rfl wd_1194 wd_1196 ws_49 wd_12 wd_1197 ne_X9 np_X9_ahead (by omega)  (by decide) (by decide) rfl (Nat.le_of_ble_eq_true rfl) rfl rfl rfl rfl (by decide) rfl (fun v1 f1 hp => ?_)
        obtain ⟨tk9_24, bg9_24, en9_24, vl9_24, rfl, rfl, h24_0⟩ := hp
        show G g E _ _ _ [(wMo g mo mst mac mmk mr mrd mrm mcm mtp msz tk9_24 bg9_24 en9_24 bg vl9_24 ft fp mfk dp to), (wMTxt g mo tt), (wMAll g mo al), (wMPil g mo pl8)] 27 [(0, .ref (mo 0)), (1, .int (iI mto))] []
        have hR1 := AhIs.rd hRk hK1 hn.1 h24_0
        have hvl1 := hR1.2.2.2.2.1
        refine r_aload_n 28 hE 0 dX9_product_27 rfl rfl rfl ?_
        refine r_iconst 29 hE dX9_product_28 rfl ?_
        refine r_sipush 32 hE dX9_product_29 rfl (by decide) ?_
        refine r_iconst 33 hE dX9_product_32 rfl ?_
        refine r_callV 36 hE [0] [1, 2, 3] [(wMo g mo mst mac mmk mr mrd mrm mcm mtp msz tk9_24 bg9_24 en9_24 bg vl9_24 ft fp mfk dp to)] [(wMTxt g mo tt), (wMAll g mo al), (wMPil g mo pl8)] 0 9 ok9 [] (c_X9_isNumber (hR1) (hft) (by omega) (by omega) (by decide) (hn)) dX9_product_33 rfl rfl wd_1237 wd_1239 ws_56 wd_12 wd_1240 ne_X9 np_X9_isNumber (by omega)  (by decide) (by decide) rfl (Nat.le_of_ble_eq_true rfl) rfl rfl rfl rfl (by decide) rfl (fun v1 f1 hp => ?_)
        obtain ⟨r9_33, ft9_33, fp9_33, rfl, rfl, h33_0, h33_1⟩ := hp
        show G g E _ _ _ [(wMo g mo mst mac mmk mr mrd mrm mcm mtp msz tk9_24 bg9_24 en9_24 bg vl9_24 ft9_33 fp9_33 mfk dp to), (wMTxt g mo tt), (wMAll g mo al), (wMPil g mo pl8)] 36 [(0, .ref (mo 0)), (1, .int (iI mto))] [.int (iI r9_33)]
        refine r_if_ne 39 41 hE dX9_product_36 rfl (by decide) (by omega) (fun c36 => ?_) (fun c36 => ?_)
        · skip
          obtain ⟨n1, n2, n3⟩ := h33_0.ok c36
          have hv1 := numE_ok n1
          have hvm : 0 ≤ (to - mto) * vl9_24 ∧ (to - mto) * vl9_24 ≤ 600 * 600 := ⟨Int.mul_nonneg (by omega) (by omega), Int.mul_le_mul (by omega) (by omega) (by omega) (by omega)⟩
          refine r_aload_n 42 hE 0 dX9_product_41 rfl rfl rfl ?_
          refine r_get 45 hE 0 0 ok9 37 dX9_product_42 rfl wd_1089 rfl rfl (by decide) rfl ?_
          refine r_iload_n 46 hE 1 dX9_product_45 rfl rfl rfl ?_
          refine r_isub 47 hE (to - mto) dX9_product_46 rfl rfl ?_
          refine r_istore_n 48 hE [(2, .int (iI (to - mto))), (0, .ref (mo 0)), (1, .int (iI mto))] dX9_product_47 rfl rfl (by decide) rfl ?_
          refine r_iload_n 49 hE 0 dX9_product_48 rfl rfl rfl ?_
          refine r_aload_n 50 hE 1 dX9_product_49 rfl rfl rfl ?_
          refine r_get 53 hE 0 0 ok9 31 dX9_product_50 rfl wd_1083 rfl rfl (by decide) rfl ?_
          refine r_imul 54 hE ((to - mto) * vl9_24) dX9_product_53 rfl rfl ?_
          refine r_sipush 57 hE dX9_product_54 rfl (by decide) ?_
          refine r_icmp_le 60 66 hE dX9_product_57 rfl (by decide) (by omega) (fun c57 => ?_) (fun c57 => ?_)
          · skip
            have hvn : to - mto ≤ (to - mto) * vl9_24 := by have h9 := Int.mul_le_mul_of_nonneg_left (show 1 ≤ vl9_24 by omega) (show 0 ≤ to - mto by omega); rw [Int.mul_one] at h9; exact h9
            refine r_iload_n 67 hE 0 dX9_product_66 rfl rfl rfl ?_
            refine r_istore_n 68 hE [(3, .int (iI (to - mto))), (2, .int (iI (to - mto))), (0, .ref (mo 0)), (1, .int (iI mto))] dX9_product_67 rfl rfl (by decide) rfl ?_
            refine G.to (fs' := [(wMo g mo mst mac mmk mr mrd mrm mcm mtp msz tk9_24 bg9_24 en9_24 bg vl9_24 ft9_33 fp9_33 mfk dp to), (wMAll g mo al), (wMTxt g mo tt), (wMPil g mo pl8)]) (lv' := [(0, .ref (mo 0)), (1, .int (iI mto)), (2, .int (iI (to - mto))), (3, .int (iI (to - mto)))]) [0, 2, 1, 3] [2, 3, 1, 0] rfl rfl rfl ?_
            exact cut68 _ tk9_24 bg9_24 en9_24 bg vl9_24 ft9_33 fp9_33 (to - mto) pl8 (by first | exact hR1 | exact hR4) (by first | exact n2 | exact hft4) (by omega) (hK) (by first | exact n1 | exact m1) (hc1) (by first | exact hav | (have q1 := numE_ok n1; exact ⟨by omega, hvn, by omega⟩)) (by omega) (by first | exact g12 | exact (fun j x y => by rw [Int.emod_eq_of_lt x y])) (by first | exact g22 | exact (fun _ _ _ => rfl)) (Nat.lt_succ_self _)
          · skip
            refine r_aload_n 61 hE 1 dX9_product_60 rfl rfl rfl ?_
            refine r_iconst 62 hE dX9_product_61 rfl ?_
            refine r_callV 65 hE [0] [1, 2, 3] [(wMo g mo mst mac mmk mr mrd mrm mcm mtp msz tk9_24 bg9_24 en9_24 bg vl9_24 ft9_33 fp9_33 mfk dp to)] [(wMTxt g mo tt), (wMAll g mo al), (wMPil g mo pl8)] 0 9 ok9 [] (c_X9_fails (n2) (by have h9 := hR1.tr; omega)) dX9_product_62 rfl rfl wd_1228 wd_1230 ws_54 wd_12 wd_1231 ne_X9 np_X9_fails (by omega)  (by decide) (by decide) rfl (Nat.le_of_ble_eq_true rfl) rfl rfl rfl rfl (by decide) rfl (fun v1 f1 hp => ?_)
            obtain ⟨rfl, rfl⟩ := hp
            show G g E _ _ _ [(wMo g mo mst mac mmk mr mrd mrm mcm mtp msz tk9_24 bg9_24 en9_24 bg vl9_24 (if tk9_24 = 1 then 1 else 5) bg9_24 mfk dp to), (wMTxt g mo tt), (wMAll g mo al), (wMPil g mo pl8)] 65 [(2, .int (iI (to - mto))), (0, .ref (mo 0)), (1, .int (iI mto))] [.int (iI 0)]
            refine G.to (fs' := [(wMo g mo mst mac mmk mr mrd mrm mcm mtp msz tk9_24 bg9_24 en9_24 bg vl9_24 (if tk9_24 = 1 then 1 else 5) bg9_24 mfk dp to), (wMAll g mo al), (wMTxt g mo tt), (wMPil g mo pl8)]) [0, 2, 1, 3] [0, 1, 2] rfl rfl rfl ?_
            refine r_zreturn hE hR [(wMo g mo mst mac mmk mr mrd mrm mcm mtp msz tk9_24 bg9_24 en9_24 bg vl9_24 (if tk9_24 = 1 then 1 else 5) bg9_24 mfk dp to), (wMAll g mo al), (wMTxt g mo tt), (wMPil g mo pl8)] dX9_product_65 (Nat.le_of_ble_eq_true rfl) (Nat.le_of_ble_eq_true rfl) (Or.inl rfl) rfl ?_
            exact ⟨0, _, _, _, _, _, _, _, _, _, _, rfl, rfl, PrR.no (hE9.trans (prodL_e hfp hK (times_e2 (l := l) n1 (by rw [hPl]; omega)))) (by rw [if_neg (by have h9 := hR1.i3.mpr hv1.1; omega)]) hR1.P (by show (1 : Int) ≤ 5 ∧ (5 : Int) ≤ 9; decide), by omega⟩
        · skip
          refine r_iconst 40 hE dX9_product_39 rfl ?_
          refine G.to (fs' := [(wMo g mo mst mac mmk mr mrd mrm mcm mtp msz tk9_24 bg9_24 en9_24 bg vl9_24 ft9_33 fp9_33 mfk dp to), (wMAll g mo al), (wMTxt g mo tt), (wMPil g mo pl8)]) [0, 2, 1, 3] [0, 1] rfl rfl rfl ?_
          refine r_zreturn hE hR [(wMo g mo mst mac mmk mr mrd mrm mcm mtp msz tk9_24 bg9_24 en9_24 bg vl9_24 ft9_33 fp9_33 mfk dp to), (wMAll g mo al), (wMTxt g mo tt), (wMPil g mo pl8)] dX9_product_40 (Nat.le_of_ble_eq_true rfl) (Nat.le_of_ble_eq_true rfl) (Or.inl rfl) rfl ?_
          obtain ⟨e, e1, e2, e3, e4⟩ := h33_0.er c36
          exact ⟨0, _, _, _, _, _, _, _, _, _, _, rfl, rfl, PrR.no (hE9.trans (prodL_e hfp hK (times_e1 e1))) e2 e3 e4, by omega⟩
  refine r_aload_n 1 hE 0 dX9_product_0 rfl rfl rfl ?_
  refine r_get 4 hE 0 0 ok9 37 dX9_product_1 rfl wd_1089 rfl rfl (by decide) rfl ?_
  refine r_istore_n 5 hE [(1, .int (iI mto)), (0, .ref (mo 0))] dX9_product_4 rfl rfl (by decide) rfl ?_
  refine r_aload_n 6 hE 1 dX9_product_5 rfl rfl rfl ?_
  refine r_callV 9 hE [0, 1, 2, 3] [] [(wMo g mo mst mac mmk mr mrd mrm mcm mtp msz mtk mbg men mls mvl mft mfp mfk mdp mto), (wMAll g mo al), (wMTxt g mo tt), (wMPil g mo pl)] [] 0 9 ok9 [] (c_X9_unit (hco) (hd0) (hB) (hn) (hM) (hG) (hkc) (hRd) (hf0) (hdp) (hto)) dX9_product_6 rfl rfl wd_1261 wd_1263 ws_62 wd_12 wd_1264 ne_X9 np_X9_unit (by omega)  (by decide) (by decide) rfl (Nat.le_of_ble_eq_true rfl) rfl rfl rfl rfl (by decide) rfl (fun v1 f1 hp => ?_)
  obtain ⟨r9_6, tk9_6, bg9_6, en9_6, ls9_6, vl9_6, ft9_6, fp9_6, dp9_6, to9_6, pl9_6, rfl, rfl, h6_0, h6_1⟩ := hp
  show G g E _ _ _ [(wMo g mo mst mac mmk mr mrd mrm mcm mtp msz tk9_6 bg9_6 en9_6 ls9_6 vl9_6 ft9_6 fp9_6 mfk dp9_6 to9_6), (wMAll g mo al), (wMTxt g mo tt), (wMPil g mo pl9_6)] 9 [(1, .int (iI mto)), (0, .ref (mo 0))] [.int (iI r9_6)]
  refine r_if_ne 12 14 hE dX9_product_9 rfl (by decide) (by omega) (fun c9 => ?_) (fun c9 => ?_)
  · skip
    obtain ⟨z0, zd, zq, l0, k0, hS0, hR0, hP0⟩ := h6_0.ok c9
    have hg0 : k0 ≤ c ∧ k < k0 ∧ GoodL l0 := unitOf_G hG hcg _ _ hkc hS0
    have hE0 := prodOf_o (b := (bkOf tt msz)) hS0
    have hc9 := hG.2.1
    refine G.to (fs' := [(wMo g mo mst mac mmk mr mrd mrm mcm mtp msz tk9_6 bg9_6 en9_6 ls9_6 vl9_6 ft9_6 fp9_6 mfk dp9_6 to9_6), (wMAll g mo al), (wMTxt g mo tt), (wMPil g mo pl9_6)]) (lv' := [(0, .ref (mo 0)), (1, .int (iI mto))]) [0, 1, 2, 3] [1, 0] rfl rfl rfl ?_
    exact cut14 _ tk9_6 bg9_6 en9_6 ls9_6 vl9_6 ft9_6 fp9_6 dp9_6 to9_6 pl9_6 l0 k0 1000 (by first | exact hR0 | exact hR9) (by first | exact hg0.1 | exact hkk9) (by first | exact z0 | exact z9) (by first | exact zd | exact zd9) (by omega) (by first | exact hP0 | exact hP9) (by first | exact hg0.2.2 | exact hl9) (by first | exact hE0 | exact hE8) (by omega) (Nat.lt_succ_self _)
  · skip
    refine r_iconst 13 hE dX9_product_12 rfl ?_
    refine r_zreturn hE hR [(wMo g mo mst mac mmk mr mrd mrm mcm mtp msz tk9_6 bg9_6 en9_6 ls9_6 vl9_6 ft9_6 fp9_6 mfk dp9_6 to9_6), (wMAll g mo al), (wMTxt g mo tt), (wMPil g mo pl9_6)] dX9_product_13 (Nat.le_of_ble_eq_true rfl) (Nat.le_of_ble_eq_true rfl) (Or.inl rfl) rfl ?_
    obtain ⟨e, e1, e2, e3, e4⟩ := h6_0.er c9
    exact ⟨0, _, _, _, _, _, _, _, _, _, _, rfl, rfl, PrR.no (prodOf_e e1) e2 e3 e4, by omega⟩
set_option maxHeartbeats 4000000 in
set_option maxRecDepth 100000 in
theorem c_X9_sum {g : Gm} {d0 r : Nat} {mo : Nat → Nat} {mst mac mmk mr mrd mrm mcm mtp msz mtk mbg men mls mvl mft mfp mfk mdp mto : Int} {al tt pl : Int → Int} {k c : Nat} (hco : core_C g d0 r) (hd0 : 4 ≤ d0) (hB : BR tt) (hn : 0 ≤ msz ∧ msz ≤ 900) (hM : MTx al) (hG : BkG (bkOf tt msz) (tsF (mF al) (mN al) (al 0)) c) (hkc : k ≤ c) (hRd : RdAt tt msz k mtk mbg men mls mvl) (hf0 : mft = 0) (hdp : mdp = 6 - ((r : Nat) : Int) ∧ r ≤ 6) (hto : 0 ≤ mto ∧ mto ≤ 600 * (6 - ((r : Nat) : Int))) : Ct g (d0 + 3) 0 0 yX9_sum cX9_sum 2 (some .boolean) [.ref (mo 0)] [(wMo g mo mst mac mmk mr mrd mrm mcm mtp msz mtk mbg men mls mvl mft mfp mfk mdp mto), (wMAll g mo al), (wMTxt g mo tt), (wMPil g mo pl)] (fun v_ w_ => ∃ r9 : Int, ∃ tk9 : Int, ∃ bg9 : Int, ∃ en9 : Int, ∃ ls9 : Int, ∃ vl9 : Int, ∃ ft9 : Int, ∃ fp9 : Int, ∃ dp9 : Int, ∃ to9 : Int, ∃ pl9 : Int → Int, v_ = some (.int (iI r9)) ∧ w_ = [(wMo g mo mst mac mmk mr mrd mrm mcm mtp msz tk9 bg9 en9 ls9 vl9 ft9 fp9 mfk dp9 to9), (wMAll g mo al), (wMTxt g mo tt), (wMPil g mo pl9)] ∧ (PrR (sumOf (bkOf tt msz) (core (bkOf tt msz) (tsF (mF al) (mN al) (al 0)) r) k) tt msz pl mto mdp mfp r9 tk9 bg9 en9 ls9 vl9 ft9 fp9 dp9 to9 pl9) ∧ (0 ≤ r9 ∧ r9 ≤ 1)) := by
  refine Ct.of (by decide) (Nat.le_of_ble_eq_true rfl) (lv := [(0, .ref (mo 0))]) rfl ?_
  intro E hE hR hnm
  have hc := hM.1
  have hTl := tsF_len (mF al) (mN al) hc.1
  have hcg := core_G hG r
  have hk1 := hRd.1.2.2
  have hk2 := hRd.tr
  have hk3 := hRd.2.2.2.2.1
  have cut14 : ∀ (N : Nat) (tk : Int) (bg : Int) (en : Int) (ls : Int) (vl : Int) (ft : Int) (fp : Int) (dp : Int) (to : Int) (pl8 : Int → Int) (l : List Int) (kk : Nat) (f : Nat), (RdAt tt msz kk tk bg en ls vl) → (kk ≤ c) → (ft = 0) → (dp = mdp) → (fp = mfp) → (PlIs pl mto pl8 to l) → (GoodL l) → (sumOf (bkOf tt msz) (core (bkOf tt msz) (tsF (mF al) (mN al) (al 0)) r) k = sumL (bkOf tt msz) (prodOf (bkOf tt msz) (core (bkOf tt msz) (tsF (mF al) (mN al) (al 0)) r)) f l kk) → (c + 1 ≤ kk + f) → ((c : Int) - (kk : Int)).toNat < N → G g E 2 0 0 [(wMo g mo mst mac mmk mr mrd mrm mcm mtp msz tk bg en ls vl ft fp mfk dp to), (wMAll g mo al), (wMTxt g mo tt), (wMPil g mo pl8)] 14 [(0, .ref (mo 0)), (1, .int (iI mto))] [] := by
    intro N
    induction N with
    | zero => intro tk bg en ls vl ft fp dp to pl8 l kk f _ _ _ _ _ _ _ _ _ hN; exact absurd hN (Nat.not_lt_zero _)
    | succ N ih14 =>
      intro tk bg en ls vl ft fp dp to pl8 l kk f hRk hkk hft hd9 hfq hP hl hE9 hf hN
      have hk1 := hRk.1.2.2
      have hk2 := hRk.tr
      have hk3 := hRk.2.2.2.2.1
      have hPl := hP.len
      have hPm := hP.1
      have hll := hl.1
      have hfp : 0 < f := by omega
      refine r_aload_n 15 hE 0 dX9_sum_14 rfl rfl rfl ?_
      refine r_bipush 17 hE dX9_sum_15 rfl (by decide) ?_
      refine r_callV 20 hE [0, 2] [1, 3] [(wMo g mo mst mac mmk mr mrd mrm mcm mtp msz tk bg en ls vl ft fp mfk dp to), (wMTxt g mo tt)] [(wMAll g mo al), (wMPil g mo pl8)] 0 9 ok9 [] (c_X9_isSign (hB) (hn) (by omega) (by omega) (by omega)) dX9_sum_17 rfl rfl wd_1245 wd_1247 ws_58 wd_12 wd_1248 ne_X9 np_X9_isSign (by omega)  (by decide) (by decide) rfl (Nat.le_of_ble_eq_true rfl) rfl rfl rfl rfl (by decide) rfl (fun v1 f1 hp => ?_)
      obtain ⟨rfl, rfl⟩ := hp
      show G g E _ _ _ [(wMo g mo mst mac mmk mr mrd mrm mcm mtp msz tk bg en ls vl ft fp mfk dp to), (wMTxt g mo tt), (wMAll g mo al), (wMPil g mo pl8)] 20 [(0, .ref (mo 0)), (1, .int (iI mto))] [.int (iI (bI (tk = 5 ∧ mbA tt msz bg = 43)))]
      refine r_if_eq 23 58 hE dX9_sum_20 rfl (by decide) (bI_rg _) (fun c20 => ?_) (fun c20 => ?_)
      · skip
        have c20 := bI0 c20
        have hK : (bkOf tt msz).K kk ≠ 43 := fun z => c20 ((hRk.sg hB (by decide)).mpr z)
        refine r_iconst 59 hE dX9_sum_58 rfl ?_
        refine G.to (fs' := [(wMo g mo mst mac mmk mr mrd mrm mcm mtp msz tk bg en ls vl ft fp mfk dp to), (wMAll g mo al), (wMTxt g mo tt), (wMPil g mo pl8)]) [0, 2, 1, 3] [0, 1] rfl rfl rfl ?_
        refine r_zreturn hE hR [(wMo g mo mst mac mmk mr mrd mrm mcm mtp msz tk bg en ls vl ft fp mfk dp to), (wMAll g mo al), (wMTxt g mo tt), (wMPil g mo pl8)] dX9_sum_59 (Nat.le_of_ble_eq_true rfl) (Nat.le_of_ble_eq_true rfl) (Or.inr rfl) rfl ?_
        exact ⟨1, _, _, _, _, _, _, _, _, _, _, rfl, rfl, PrR.yes (hE9.trans (sumL_n hfp hK)) hRk hP hft hd9 hfq, by omega⟩
      · skip
        have c20 := bI1 c20
        have hK := (hRk.sg hB (c := 43) (by decide)).mp c20
        have hK1 : tkK tt msz kk ≠ 1 := by show (bkOf tt msz).K kk ≠ 1; rw [hK]; decide
        have hen := (hRk.2.2.1 hK1).2
        have hc1 := hG.ok.nx hkk (by rw [hK]; decide)
        refine r_aload_n 24 hE 0 dX9_sum_23 rfl rfl rfl ?_
        refine r_callV 27 hE [0, 1] [2, 3] [(wMo g mo mst mac mmk mr mrd mrm mcm mtp msz tk bg en ls vl ft fp mfk dp to), (wMTxt g mo tt)] [(wMAll g mo al), (wMPil g mo pl8)] 0 9 ok9 [] (c_X9_ahead (hB) (hn) (hen)) dX9_sum_24 rfl rfl wd_1194 wd_1196 ws_49 wd_12 wd_1197 ne_X9 np_X9_ahead (by omega)  (by decide) (by decide) rfl (Nat.le_of_ble_eq_true rfl) rfl rfl rfl rfl (by decide) rfl (fun v1 f1 hp => ?_)
        obtain ⟨tk9_24, bg9_24, en9_24, vl9_24, rfl, rfl, h24_0⟩ := hp
        show G g E _ _ _ [(wMo g mo mst mac mmk mr mrd mrm mcm mtp msz tk9_24 bg9_24 en9_24 bg vl9_24 ft fp mfk dp to), (wMTxt g mo tt), (wMAll g mo al), (wMPil g mo pl8)] 27 [(0, .ref (mo 0)), (1, .int (iI mto))] []
        have hR1 := AhIs.rd hRk hK1 hn.1 h24_0
        refine r_aload_n 28 hE 0 dX9_sum_27 rfl rfl rfl ?_
        refine r_callV 31 hE [0, 2, 1, 3] [] [(wMo g mo mst mac mmk mr mrd mrm mcm mtp msz tk9_24 bg9_24 en9_24 bg vl9_24 ft fp mfk dp to), (wMAll g mo al), (wMTxt g mo tt), (wMPil g mo pl8)] [] 0 9 ok9 [] (c_X9_product (hco) (hd0) (hB) (hn) (hM) (hG) (hc1) (hR1) (hft) (by omega) (by omega)) dX9_sum_28 rfl rfl wd_1257 wd_1259 ws_61 wd_12 wd_1260 ne_X9 np_X9_product (by omega)  (by decide) (by decide) rfl (Nat.le_of_ble_eq_true rfl) rfl rfl rfl rfl (by decide) rfl (fun v1 f1 hp => ?_)
        obtain ⟨r9_28, tk9_28, bg9_28, en9_28, ls9_28, vl9_28, ft9_28, fp9_28, dp9_28, to9_28, pl9_28, rfl, rfl, h28_0, h28_1⟩ := hp
        show G g E _ _ _ [(wMo g mo mst mac mmk mr mrd mrm mcm mtp msz tk9_28 bg9_28 en9_28 ls9_28 vl9_28 ft9_28 fp9_28 mfk dp9_28 to9_28), (wMAll g mo al), (wMTxt g mo tt), (wMPil g mo pl9_28)] 31 [(0, .ref (mo 0)), (1, .int (iI mto))] [.int (iI r9_28)]
        refine r_if_ne 34 36 hE dX9_sum_31 rfl (by decide) (by omega) (fun c31 => ?_) (fun c31 => ?_)
        · skip
          obtain ⟨z9, zd8, zq8, l2, k2, hS2, hR9, hP2⟩ := h28_0.ok c31
          have hg2 : k2 ≤ c ∧ kk + 1 < k2 ∧ GoodL l2 := prodOf_G hG hcg _ _ hc1 hS2
          have hP9 := hP.app hto.1 hP2
          have hPl9 := hP9.len
          have hP91 := hP9.1
          have hg22 := hg2.2.2.1
          have hPl2 := hP2.len
          refine r_aload_n 37 hE 0 dX9_sum_36 rfl rfl rfl ?_
          refine r_get 40 hE 0 0 ok9 37 dX9_sum_37 rfl wd_1089 rfl rfl (by decide) rfl ?_
          refine r_iload_n 41 hE 1 dX9_sum_40 rfl rfl rfl ?_
          refine r_isub 42 hE (to9_28 - mto) dX9_sum_41 rfl rfl ?_
          refine r_sipush 45 hE dX9_sum_42 rfl (by decide) ?_
          refine r_icmp_le 48 14 hE dX9_sum_45 rfl (by decide) (by omega) (fun c45 => ?_) (fun c45 => ?_)
          · skip
            have hw : ¬ 600 < ((l ++ l2).length : Int) := by rw [hPl9]; omega
            have hl9 := hl.app hg2.2.2 hw
            have hE8 := hE9.trans (sumL_o hfp hK hS2 hw)
            have hkk9 := hg2.1
            have zd9 : dp9_28 = mdp := zd8.trans hd9
            have hlt2 := hg2.2.1
            exact ih14 tk9_28 bg9_28 en9_28 ls9_28 vl9_28 ft9_28 fp9_28 dp9_28 to9_28 pl9_28 (l ++ l2) k2 (f - 1) (by first | exact hR0 | exact hR9) (by first | exact hg0.1 | exact hkk9) (by first | exact z0 | exact z9) (by first | exact zd | exact zd9) (by omega) (by first | exact hP0 | exact hP9) (by first | exact hg0.2.2 | exact hl9) (by first | exact hE0 | exact hE8) (by omega) (by omega)
          · skip
            have hw : 600 < ((l ++ l2).length : Int) := by rw [hPl9]; omega
            refine r_aload_n 49 hE 0 dX9_sum_48 rfl rfl rfl ?_
            refine r_iconst 50 hE dX9_sum_49 rfl ?_
            refine r_aload_n 51 hE 0 dX9_sum_50 rfl rfl rfl ?_
            refine r_get 54 hE 0 0 ok9 30 dX9_sum_51 rfl wd_1082 rfl rfl (by decide) rfl ?_
            refine r_callV 57 hE [0] [1, 2, 3] [(wMo g mo mst mac mmk mr mrd mrm mcm mtp msz tk9_28 bg9_28 en9_28 ls9_28 vl9_28 ft9_28 fp9_28 mfk dp9_28 to9_28)] [(wMAll g mo al), (wMTxt g mo tt), (wMPil g mo pl9_28)] 0 9 ok9 [] (c_X9_failsAt (z9)) dX9_sum_54 rfl rfl wd_1232 wd_1234 ws_55 wd_12 wd_1235 ne_X9 np_X9_failsAt (by omega)  (by decide) (by decide) rfl (Nat.le_of_ble_eq_true rfl) rfl rfl rfl rfl (by decide) rfl (fun v1 f1 hp => ?_)
            obtain ⟨rfl, rfl⟩ := hp
            show G g E _ _ _ [(wMo g mo mst mac mmk mr mrd mrm mcm mtp msz tk9_28 bg9_28 en9_28 ls9_28 vl9_28 5 ls9_28 mfk dp9_28 to9_28), (wMAll g mo al), (wMTxt g mo tt), (wMPil g mo pl9_28)] 57 [(0, .ref (mo 0)), (1, .int (iI mto))] [.int (iI 0)]
            refine r_zreturn hE hR [(wMo g mo mst mac mmk mr mrd mrm mcm mtp msz tk9_28 bg9_28 en9_28 ls9_28 vl9_28 5 ls9_28 mfk dp9_28 to9_28), (wMAll g mo al), (wMTxt g mo tt), (wMPil g mo pl9_28)] dX9_sum_57 (Nat.le_of_ble_eq_true rfl) (Nat.le_of_ble_eq_true rfl) (Or.inl rfl) rfl ?_
            exact ⟨0, _, _, _, _, _, _, _, _, _, _, rfl, rfl, PrR.no (hE9.trans (sumL_l hfp hK hS2 hw)) rfl (hR9.2.2.2.2.2.1 (by omega)) (by show (1 : Int) ≤ 5 ∧ (5 : Int) ≤ 9; decide), by omega⟩
        · skip
          refine r_iconst 35 hE dX9_sum_34 rfl ?_
          refine r_zreturn hE hR [(wMo g mo mst mac mmk mr mrd mrm mcm mtp msz tk9_28 bg9_28 en9_28 ls9_28 vl9_28 ft9_28 fp9_28 mfk dp9_28 to9_28), (wMAll g mo al), (wMTxt g mo tt), (wMPil g mo pl9_28)] dX9_sum_35 (Nat.le_of_ble_eq_true rfl) (Nat.le_of_ble_eq_true rfl) (Or.inl rfl) rfl ?_
          obtain ⟨e, e1, e2, e3, e4⟩ := h28_0.er c31
          exact ⟨0, _, _, _, _, _, _, _, _, _, _, rfl, rfl, PrR.no (hE9.trans (sumL_e hfp hK e1)) e2 e3 e4, by omega⟩
  refine r_aload_n 1 hE 0 dX9_sum_0 rfl rfl rfl ?_
  refine r_get 4 hE 0 0 ok9 37 dX9_sum_1 rfl wd_1089 rfl rfl (by decide) rfl ?_
  refine r_istore_n 5 hE [(1, .int (iI mto)), (0, .ref (mo 0))] dX9_sum_4 rfl rfl (by decide) rfl ?_
  refine r_aload_n 6 hE 1 dX9_sum_5 rfl rfl rfl ?_
  refine r_callV 9 hE [0, 1, 2, 3] [] [(wMo g mo mst mac mmk mr mrd mrm mcm mtp msz mtk mbg men mls mvl mft mfp mfk mdp mto), (wMAll g mo al), (wMTxt g mo tt), (wMPil g mo pl)] [] 0 9 ok9 [] (c_X9_product (hco) (hd0) (hB) (hn) (hM) (hG) (hkc) (hRd) (hf0) (hdp) (by omega)) dX9_sum_6 rfl rfl wd_1257 wd_1259 ws_61 wd_12 wd_1260 ne_X9 np_X9_product (by omega)  (by decide) (by decide) rfl (Nat.le_of_ble_eq_true rfl) rfl rfl rfl rfl (by decide) rfl (fun v1 f1 hp => ?_)
  obtain ⟨r9_6, tk9_6, bg9_6, en9_6, ls9_6, vl9_6, ft9_6, fp9_6, dp9_6, to9_6, pl9_6, rfl, rfl, h6_0, h6_1⟩ := hp
  show G g E _ _ _ [(wMo g mo mst mac mmk mr mrd mrm mcm mtp msz tk9_6 bg9_6 en9_6 ls9_6 vl9_6 ft9_6 fp9_6 mfk dp9_6 to9_6), (wMAll g mo al), (wMTxt g mo tt), (wMPil g mo pl9_6)] 9 [(1, .int (iI mto)), (0, .ref (mo 0))] [.int (iI r9_6)]
  refine r_if_ne 12 14 hE dX9_sum_9 rfl (by decide) (by omega) (fun c9 => ?_) (fun c9 => ?_)
  · skip
    obtain ⟨z0, zd, zq, l0, k0, hS0, hR0, hP0⟩ := h6_0.ok c9
    have hg0 : k0 ≤ c ∧ k < k0 ∧ GoodL l0 := prodOf_G hG hcg _ _ hkc hS0
    have hE0 := sumOf_o (b := (bkOf tt msz)) hS0
    have hc9 := hG.2.1
    refine G.to (fs' := [(wMo g mo mst mac mmk mr mrd mrm mcm mtp msz tk9_6 bg9_6 en9_6 ls9_6 vl9_6 ft9_6 fp9_6 mfk dp9_6 to9_6), (wMAll g mo al), (wMTxt g mo tt), (wMPil g mo pl9_6)]) (lv' := [(0, .ref (mo 0)), (1, .int (iI mto))]) [0, 1, 2, 3] [1, 0] rfl rfl rfl ?_
    exact cut14 _ tk9_6 bg9_6 en9_6 ls9_6 vl9_6 ft9_6 fp9_6 dp9_6 to9_6 pl9_6 l0 k0 1000 (by first | exact hR0 | exact hR9) (by first | exact hg0.1 | exact hkk9) (by first | exact z0 | exact z9) (by first | exact zd | exact zd9) (by omega) (by first | exact hP0 | exact hP9) (by first | exact hg0.2.2 | exact hl9) (by first | exact hE0 | exact hE8) (by omega) (Nat.lt_succ_self _)
  · skip
    refine r_iconst 13 hE dX9_sum_12 rfl ?_
    refine r_zreturn hE hR [(wMo g mo mst mac mmk mr mrd mrm mcm mtp msz tk9_6 bg9_6 en9_6 ls9_6 vl9_6 ft9_6 fp9_6 mfk dp9_6 to9_6), (wMAll g mo al), (wMTxt g mo tt), (wMPil g mo pl9_6)] dX9_sum_13 (Nat.le_of_ble_eq_true rfl) (Nat.le_of_ble_eq_true rfl) (Or.inl rfl) rfl ?_
    obtain ⟨e, e1, e2, e3, e4⟩ := h6_0.er c9
    exact ⟨0, _, _, _, _, _, _, _, _, _, _, rfl, rfl, PrR.no (sumOf_e e1) e2 e3 e4, by omega⟩
