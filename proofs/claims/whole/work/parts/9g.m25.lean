def core_C (g : Gm) (d r : Nat) : Prop := ∀ {mo : Nat → Nat} {mst mac mmk mr mrd mrm mcm mtp msz mtk mbg men mls mvl mft mfp mfk mdp mto : Int} {al tt pl : Int → Int} {k c : Nat} (hB : BR tt) (hn : 0 ≤ msz ∧ msz ≤ 900) (hM : MTx al) (hG : BkG (bkOf tt msz) (tsF (mF al) (mN al) (al 0)) c) (hkc : k ≤ c) (hRd : RdAt tt msz k mtk mbg men mls mvl) (hf0 : mft = 0) (hdp : mdp = 6 - ((r : Nat) : Int) ∧ r ≤ 6) (hto : 0 ≤ mto ∧ mto ≤ 600 * (7 - ((r : Nat) : Int))), Ct g d 0 0 yX9_core cX9_core 5 (some .boolean) [.ref (mo 0)] [(wMo g mo mst mac mmk mr mrd mrm mcm mtp msz mtk mbg men mls mvl mft mfp mfk mdp mto), (wMAll g mo al), (wMTxt g mo tt), (wMPil g mo pl)] (fun v_ w_ => ∃ r9 : Int, ∃ tk9 : Int, ∃ bg9 : Int, ∃ en9 : Int, ∃ ls9 : Int, ∃ vl9 : Int, ∃ ft9 : Int, ∃ fp9 : Int, ∃ dp9 : Int, ∃ to9 : Int, ∃ pl9 : Int → Int, v_ = some (.int (iI r9)) ∧ w_ = [(wMo g mo mst mac mmk mr mrd mrm mcm mtp msz tk9 bg9 en9 ls9 vl9 ft9 fp9 mfk dp9 to9), (wMAll g mo al), (wMTxt g mo tt), (wMPil g mo pl9)] ∧ (PrR (core (bkOf tt msz) (tsF (mF al) (mN al) (al 0)) r k) tt msz pl mto mdp mfp r9 tk9 bg9 en9 ls9 vl9 ft9 fp9 dp9 to9 pl9) ∧ (0 ≤ r9 ∧ r9 ≤ 1))
set_option maxHeartbeats 4000000 in
set_option maxRecDepth 100000 in
theorem c_X9_unit {g : Gm} {d0 r : Nat} {mo : Nat → Nat} {mst mac mmk mr mrd mrm mcm mtp msz mtk mbg men mls mvl mft mfp mfk mdp mto : Int} {al tt pl : Int → Int} {k c : Nat} (hco : core_C g d0 r) (hd0 : 4 ≤ d0) (hB : BR tt) (hn : 0 ≤ msz ∧ msz ≤ 900) (hM : MTx al) (hG : BkG (bkOf tt msz) (tsF (mF al) (mN al) (al 0)) c) (hkc : k ≤ c) (hRd : RdAt tt msz k mtk mbg men mls mvl) (hf0 : mft = 0) (hdp : mdp = 6 - ((r : Nat) : Int) ∧ r ≤ 6) (hto : 0 ≤ mto ∧ mto ≤ 600 * (7 - ((r : Nat) : Int))) : Ct g (d0 + 1) 0 0 yX9_unit cX9_unit 4 (some .boolean) [.ref (mo 0)] [(wMo g mo mst mac mmk mr mrd mrm mcm mtp msz mtk mbg men mls mvl mft mfp mfk mdp mto), (wMAll g mo al), (wMTxt g mo tt), (wMPil g mo pl)] (fun v_ w_ => ∃ r9 : Int, ∃ tk9 : Int, ∃ bg9 : Int, ∃ en9 : Int, ∃ ls9 : Int, ∃ vl9 : Int, ∃ ft9 : Int, ∃ fp9 : Int, ∃ dp9 : Int, ∃ to9 : Int, ∃ pl9 : Int → Int, v_ = some (.int (iI r9)) ∧ w_ = [(wMo g mo mst mac mmk mr mrd mrm mcm mtp msz tk9 bg9 en9 ls9 vl9 ft9 fp9 mfk dp9 to9), (wMAll g mo al), (wMTxt g mo tt), (wMPil g mo pl9)] ∧ (PrR (unitOf (bkOf tt msz) (core (bkOf tt msz) (tsF (mF al) (mN al) (al 0)) r) k) tt msz pl mto mdp mfp r9 tk9 bg9 en9 ls9 vl9 ft9 fp9 dp9 to9 pl9) ∧ (0 ≤ r9 ∧ r9 ≤ 1)) := by
  refine Ct.of (by decide) (Nat.le_of_ble_eq_true rfl) (lv := [(0, .ref (mo 0))]) rfl ?_
  intro E hE hR hnm
  have hc := hM.1
  have hTl := tsF_len (mF al) (mN al) hc.1
  have hcg := core_G hG r
  have hk1 := hRd.1.2.2
  have hk2 := hRd.tr
  have hk3 := hRd.2.2.2.2.1
  have cut14 : ∀ (N : Nat) (tk : Int) (bg : Int) (en : Int) (ls : Int) (vl : Int) (ft : Int) (fp : Int) (dp : Int) (to : Int) (pl8 : Int → Int) (l : List Int) (kk : Nat) (f : Nat), (RdAt tt msz kk tk bg en ls vl) → (kk ≤ c) → (ft = 0) → (dp = mdp) → (fp = mfp) → (PlIs pl mto pl8 to l) → (GoodL l) → (unitOf (bkOf tt msz) (core (bkOf tt msz) (tsF (mF al) (mN al) (al 0)) r) k = unitL (bkOf tt msz) f l kk) → (c + 1 ≤ kk + f) → ((c : Int) - (kk : Int)).toNat < N → G g E 4 0 0 [(wMo g mo mst mac mmk mr mrd mrm mcm mtp msz tk bg en ls vl ft fp mfk dp to), (wMAll g mo al), (wMTxt g mo tt), (wMPil g mo pl8)] 14 [(0, .ref (mo 0)), (1, .int (iI mto))] [] := by
    intro N
    induction N with
    | zero => intro tk bg en ls vl ft fp dp to pl8 l kk f _ _ _ _ _ _ _ _ _ hN; exact absurd hN (Nat.not_lt_zero _)
    | succ N ih14 =>
      intro tk bg en ls vl ft fp dp to pl8 l kk f hRk hkk hft hd9 hfq hP hl hE9 hf hN
      have hk1 := hRk.1.2.2
      have hk2 := hRk.tr
      have hk3 := hRk.2.2.2.2.1
      have hPl := hP.len
      have hPm := hP.1
      have hll := hl.1
      have hfp : 0 < f := by omega
      have cut85 : ∀ (N : Nat) (tk4 : Int) (bg4 : Int) (en4 : Int) (ls4 : Int) (vl4 : Int) (ft4 : Int) (fp4 : Int) (a : Int) (i : Int) (pl7 : Int → Int), (RdAt tt msz (kk + 3) tk4 bg4 en4 ls4 vl4) → (ft4 = 0) → (fp4 = mfp) → ((bkOf tt msz).K kk = 91) → (numE (bkOf tt msz) (kk + 1) 0 ((l.length : Int) - 1) 4 = .ok a) → ((bkOf tt msz).K (kk + 2) = 44) → (numE (bkOf tt msz) (kk + 3) 1 ((l.length : Int) - a) 4 = .ok vl4) → (kk + 3 ≤ c) → (0 ≤ a ∧ 1 ≤ vl4 ∧ a + vl4 ≤ to - mto) → (0 ≤ i ∧ i ≤ vl4) → (∀ j, 0 ≤ j → j < i → pl7 (mto + j) = pl8 (mto + a + j)) → (∀ j, ¬ (mto ≤ j ∧ j < mto + i) → pl7 j = pl8 j) → (vl4 - i).toNat < N → G g E 4 0 0 [(wMo g mo mst mac mmk mr mrd mrm mcm mtp msz tk4 bg4 en4 ls4 vl4 ft4 fp4 mfk dp to), (wMAll g mo al), (wMTxt g mo tt), (wMPil g mo pl7)] 85 [(0, .ref (mo 0)), (1, .int (iI mto)), (2, .int (iI a)), (3, .int (iI i))] [] := by
        intro N
        induction N with
        | zero => intro tk4 bg4 en4 ls4 vl4 ft4 fp4 a i pl7 _ _ _ _ _ _ _ _ _ _ _ _ hN; exact absurd hN (Nat.not_lt_zero _)
        | succ N ih85 =>
          intro tk4 bg4 en4 ls4 vl4 ft4 fp4 a i pl7 hR4 hft4 hfq4 hK n1 t1 m1 hc3 hav hi g1 g2 hN
          have hvl4 := hR4.2.2.2.2.1
          refine r_iload_n 86 hE 3 dX9_unit_85 rfl rfl rfl ?_
          refine r_aload_n 87 hE 0 dX9_unit_86 rfl rfl rfl ?_
          refine r_get 90 hE 0 0 ok9 31 dX9_unit_87 rfl wd_1083 rfl rfl (by decide) rfl ?_
          refine r_icmp_ge 93 117 hE dX9_unit_90 rfl (by decide) (by omega) (fun c90 => ?_) (fun c90 => ?_)
          · skip
            have hv4 := numE_ok m1
            have hK4 : tkK tt msz (kk + 3) ≠ 1 := by show (bkOf tt msz).K (kk + 3) ≠ 1; rw [hv4.1]; decide
            have hen4 := (hR4.2.2.1 hK4).2
            have hc4 := hG.ok.nx hc3 (by rw [hv4.1]; decide)
            have hiv : i = vl4 := by omega
            rw [hiv] at g1 g2
            have hP9 := hP.cut hto.1 (a := a) (q := vl4) (by omega) g1 g2
            refine r_aload_n 118 hE 0 dX9_unit_117 rfl rfl rfl ?_
            refine r_iload_n 119 hE 1 dX9_unit_118 rfl rfl rfl ?_
            refine r_aload_n 120 hE 0 dX9_unit_119 rfl rfl rfl ?_
            refine r_get 123 hE 0 0 ok9 31 dX9_unit_120 rfl wd_1083 rfl rfl (by decide) rfl ?_
            refine r_iadd 124 hE (mto + vl4) dX9_unit_123 rfl rfl ?_
            refine r_put 127 hE 0 0 ok9 37 (wMo g mo mst mac mmk mr mrd mrm mcm mtp msz tk4 bg4 en4 ls4 vl4 ft4 fp4 mfk dp (mto + vl4)) [(wMo g mo mst mac mmk mr mrd mrm mcm mtp msz tk4 bg4 en4 ls4 vl4 ft4 fp4 mfk dp (mto + vl4)), (wMAll g mo al), (wMTxt g mo tt), (wMPil g mo pl7)] dX9_unit_124 rfl wd_1089 rfl rfl (by decide) rfl rfl rfl (Nat.le_of_ble_eq_true rfl) rfl rfl ?_
            refine r_aload_n 128 hE 0 dX9_unit_127 rfl rfl rfl ?_
            refine r_callV 131 hE [0, 2] [1, 3] [(wMo g mo mst mac mmk mr mrd mrm mcm mtp msz tk4 bg4 en4 ls4 vl4 ft4 fp4 mfk dp (mto + vl4)), (wMTxt g mo tt)] [(wMAll g mo al), (wMPil g mo pl7)] 0 9 ok9 [] (c_X9_ahead (hB) (hn) (hen4)) dX9_unit_128 rfl rfl wd_1194 wd_1196 ws_49 wd_12 wd_1197 ne_X9 np_X9_ahead (by omega)  (by decide) (by decide) rfl (Nat.le_of_ble_eq_true rfl) rfl rfl rfl rfl (by decide) rfl (fun v1 f1 hp => ?_)
            obtain ⟨tk9_128, bg9_128, en9_128, vl9_128, rfl, rfl, h128_0⟩ := hp
            show G g E _ _ _ [(wMo g mo mst mac mmk mr mrd mrm mcm mtp msz tk9_128 bg9_128 en9_128 bg4 vl9_128 ft4 fp4 mfk dp (mto + vl4)), (wMTxt g mo tt), (wMAll g mo al), (wMPil g mo pl7)] 131 [(0, .ref (mo 0)), (1, .int (iI mto)), (2, .int (iI a)), (3, .int (iI i))] []
            have hR5 := AhIs.rd hR4 hK4 hn.1 h128_0
            refine r_aload_n 132 hE 0 dX9_unit_131 rfl rfl rfl ?_
            refine r_bipush 134 hE dX9_unit_132 rfl (by decide) ?_
            refine r_callV 137 hE [0, 1] [2, 3] [(wMo g mo mst mac mmk mr mrd mrm mcm mtp msz tk9_128 bg9_128 en9_128 bg4 vl9_128 ft4 fp4 mfk dp (mto + vl4)), (wMTxt g mo tt)] [(wMAll g mo al), (wMPil g mo pl7)] 0 9 ok9 [] (c_X9_takesSign (hB) (hn) (hR5) (hft4) (by decide)) dX9_unit_134 rfl rfl wd_1241 wd_1243 ws_57 wd_12 wd_1244 ne_X9 np_X9_takesSign (by omega)  (by decide) (by decide) rfl (Nat.le_of_ble_eq_true rfl) rfl rfl rfl rfl (by decide) rfl (fun v1 f1 hp => ?_)
            obtain ⟨r9_134, tk9_134, bg9_134, en9_134, ls9_134, vl9_134, ft9_134, fp9_134, rfl, rfl, h134_0, h134_1⟩ := hp
            show G g E _ _ _ [(wMo g mo mst mac mmk mr mrd mrm mcm mtp msz tk9_134 bg9_134 en9_134 ls9_134 vl9_134 ft9_134 fp9_134 mfk dp (mto + vl4)), (wMTxt g mo tt), (wMAll g mo al), (wMPil g mo pl7)] 137 [(0, .ref (mo 0)), (1, .int (iI mto)), (2, .int (iI a)), (3, .int (iI i))] [.int (iI r9_134)]
            refine r_if_ne 140 142 hE dX9_unit_137 rfl (by decide) (by omega) (fun c137 => ?_) (fun c137 => ?_)
            · skip
              obtain ⟨t5, hR9, z9, q9⟩ := h134_0.ok c137
              have hco9 := cut_o n1 t1 m1 t5
              have hl9 := cutE_G hl.1.2 hl.2 hco9
              have hE8 := hE9.trans (unitL_o hfp hK hco9)
              have hkk9 : kk + 5 ≤ c := hG.ok.nx hc4 (by rw [t5]; decide)
              have zd9 := hd9
              refine r_goto 14 hE dX9_unit_142 (by decide) ?_
              refine G.to (fs' := [(wMo g mo mst mac mmk mr mrd mrm mcm mtp msz tk9_134 bg9_134 en9_134 ls9_134 vl9_134 ft9_134 fp9_134 mfk dp (mto + vl4)), (wMAll g mo al), (wMTxt g mo tt), (wMPil g mo pl7)]) (lv' := [(0, .ref (mo 0)), (1, .int (iI mto))]) [0, 2, 1, 3] [0, 1] rfl rfl rfl ?_
              exact ih14 tk9_134 bg9_134 en9_134 ls9_134 vl9_134 ft9_134 fp9_134 dp (mto + vl4) pl7 ((l.drop a.toNat).take vl4.toNat) (kk + 5) (f - 1) (by first | exact hR0 | exact hR9) (by first | exact hg0.1 | exact hkk9) (by first | exact z0 | exact z9) (by first | exact zd | exact zd9) (by omega) (by first | exact hP0 | exact hP9) (by first | exact hg0.2.2 | exact hl9) (by first | exact hE0 | exact hE8) (by omega) (by omega)
            · skip
              refine r_iconst 141 hE dX9_unit_140 rfl ?_
              refine G.to (fs' := [(wMo g mo mst mac mmk mr mrd mrm mcm mtp msz tk9_134 bg9_134 en9_134 ls9_134 vl9_134 ft9_134 fp9_134 mfk dp (mto + vl4)), (wMAll g mo al), (wMTxt g mo tt), (wMPil g mo pl7)]) [0, 2, 1, 3] [0, 1, 2, 3] rfl rfl rfl ?_
              refine r_zreturn hE hR [(wMo g mo mst mac mmk mr mrd mrm mcm mtp msz tk9_134 bg9_134 en9_134 ls9_134 vl9_134 ft9_134 fp9_134 mfk dp (mto + vl4)), (wMAll g mo al), (wMTxt g mo tt), (wMPil g mo pl7)] dX9_unit_141 (Nat.le_of_ble_eq_true rfl) (Nat.le_of_ble_eq_true rfl) (Or.inl rfl) rfl ?_
              obtain ⟨e1, e2, e3⟩ := h134_0.er c137
              exact ⟨0, _, _, _, _, _, _, _, _, _, _, rfl, rfl, PrR.no (hE9.trans (unitL_e hfp hK (cut_e4 n1 t1 m1 e1))) e2 e3 (ftAt_r9 _ _), by omega⟩
          · skip
            refine r_aload_n 94 hE 0 dX9_unit_93 rfl rfl rfl ?_
            refine r_get 97 hE 0 0 ok9 36 dX9_unit_94 rfl wd_1088 rfl rfl (by decide) rfl ?_
            refine r_iload_n 98 hE 1 dX9_unit_97 rfl rfl rfl ?_
            refine r_iload_n 99 hE 3 dX9_unit_98 rfl rfl rfl ?_
            refine r_iadd 100 hE (mto + i) dX9_unit_99 rfl rfl ?_
            refine r_aload_n 101 hE 0 dX9_unit_100 rfl rfl rfl ?_
            refine r_get 104 hE 0 0 ok9 36 dX9_unit_101 rfl wd_1088 rfl rfl (by decide) rfl ?_
            refine r_iload_n 105 hE 1 dX9_unit_104 rfl rfl rfl ?_
            refine r_iload_n 106 hE 2 dX9_unit_105 rfl rfl rfl ?_
            refine r_iadd 107 hE (mto + a) dX9_unit_106 rfl rfl ?_
            refine r_iload_n 108 hE 3 dX9_unit_107 rfl rfl rfl ?_
            refine r_iadd 109 hE ((mto + a) + i) dX9_unit_108 rfl rfl ?_
            refine r_iald 110 hE 3 0 dX9_unit_109 rfl rfl rfl (by omega) ?_
            refine r_iast 111 hE 3 0 (wMPil g mo (up pl7 (mto + i) (pl7 ((mto + a) + i)))) [(wMo g mo mst mac mmk mr mrd mrm mcm mtp msz tk4 bg4 en4 ls4 vl4 ft4 fp4 mfk dp to), (wMAll g mo al), (wMTxt g mo tt), (wMPil g mo (up pl7 (mto + i) (pl7 ((mto + a) + i))))] dX9_unit_110 rfl rfl rfl (by omega) rfl rfl ?_
            have g12 : ∀ j, 0 ≤ j → j < i + 1 → up pl7 (mto + i) (pl7 (mto + a + i)) (mto + j) = pl8 (mto + a + j) := fun j x y => by
              by_cases z : j = i
              · rw [z, up_same]; exact g2 _ (by omega)
              · rw [up_ne _ _ (by omega)]; exact g1 j x (by omega)
            have g22 : ∀ j, ¬ (mto ≤ j ∧ j < mto + (i + 1)) → up pl7 (mto + i) (pl7 (mto + a + i)) j = pl8 j := fun j x => by rw [up_ne _ _ (by omega)]; exact g2 j (by omega)
            refine r_iinc 114 hE 3 (i + 1) [(3, .int (iI (i + 1))), (0, .ref (mo 0)), (1, .int (iI mto)), (2, .int (iI a))] dX9_unit_111 rfl rfl rfl (by decide) rfl ?_
            refine r_goto 85 hE dX9_unit_114 (by decide) ?_
            refine G.to (fs' := [(wMo g mo mst mac mmk mr mrd mrm mcm mtp msz tk4 bg4 en4 ls4 vl4 ft4 fp4 mfk dp to), (wMAll g mo al), (wMTxt g mo tt), (wMPil g mo (up pl7 (mto + i) (pl7 ((mto + a) + i))))]) (lv' := [(0, .ref (mo 0)), (1, .int (iI mto)), (2, .int (iI a)), (3, .int (iI (i + 1)))]) [0, 1, 2, 3] [1, 2, 3, 0] rfl rfl rfl ?_
            exact ih85 tk4 bg4 en4 ls4 vl4 ft4 fp4 a (i + 1) (up pl7 (mto + i) (pl7 ((mto + a) + i))) (by first | exact hR3 | exact hR4) (by first | exact m2 | exact hft4) (by omega) (hK) (n1) (t1) (m1) (hc3) (by first | exact hav | (have q1 := numE_ok n1; have q2 := numE_ok m1; omega)) (by first | omega | (have q2 := numE_ok m1; omega)) (by first | exact g12 | exact (fun j a b => absurd b (by omega))) (by first | exact g22 | exact (fun _ _ => rfl)) (by omega)
      refine r_aload_n 15 hE 0 dX9_unit_14 rfl rfl rfl ?_
      refine r_bipush 17 hE dX9_unit_15 rfl (by decide) ?_
      refine r_callV 20 hE [0, 2] [1, 3] [(wMo g mo mst mac mmk mr mrd mrm mcm mtp msz tk bg en ls vl ft fp mfk dp to), (wMTxt g mo tt)] [(wMAll g mo al), (wMPil g mo pl8)] 0 9 ok9 [] (c_X9_isSign (hB) (hn) (by omega) (by omega) (by omega)) dX9_unit_17 rfl rfl wd_1245 wd_1247 ws_58 wd_12 wd_1248 ne_X9 np_X9_isSign (by omega)  (by decide) (by decide) rfl (Nat.le_of_ble_eq_true rfl) rfl rfl rfl rfl (by decide) rfl (fun v1 f1 hp => ?_)
      obtain ⟨rfl, rfl⟩ := hp
      show G g E _ _ _ [(wMo g mo mst mac mmk mr mrd mrm mcm mtp msz tk bg en ls vl ft fp mfk dp to), (wMTxt g mo tt), (wMAll g mo al), (wMPil g mo pl8)] 20 [(0, .ref (mo 0)), (1, .int (iI mto))] [.int (iI (bI (tk = 5 ∧ mbA tt msz bg = 91)))]
      refine r_if_eq 23 145 hE dX9_unit_20 rfl (by decide) (bI_rg _) (fun c20 => ?_) (fun c20 => ?_)
      · skip
        have c20 := bI0 c20
        have hK : (bkOf tt msz).K kk ≠ 91 := fun z => c20 ((hRk.sg hB (by decide)).mpr z)
        refine r_iconst 146 hE dX9_unit_145 rfl ?_
        refine G.to (fs' := [(wMo g mo mst mac mmk mr mrd mrm mcm mtp msz tk bg en ls vl ft fp mfk dp to), (wMAll g mo al), (wMTxt g mo tt), (wMPil g mo pl8)]) [0, 2, 1, 3] [0, 1] rfl rfl rfl ?_
        refine r_zreturn hE hR [(wMo g mo mst mac mmk mr mrd mrm mcm mtp msz tk bg en ls vl ft fp mfk dp to), (wMAll g mo al), (wMTxt g mo tt), (wMPil g mo pl8)] dX9_unit_146 (Nat.le_of_ble_eq_true rfl) (Nat.le_of_ble_eq_true rfl) (Or.inr rfl) rfl ?_
        exact ⟨1, _, _, _, _, _, _, _, _, _, _, rfl, rfl, PrR.yes (hE9.trans (unitL_n hfp hK)) hRk hP hft hd9 hfq, by omega⟩
      · skip
        have c20 := bI1 c20
        have hK := (hRk.sg hB (c := 91) (by decide)).mp c20
        have hK1 : tkK tt msz kk ≠ 1 := by show (bkOf tt msz).K kk ≠ 1; rw [hK]; decide
        have hen := (hRk.2.2.1 hK1).2
        have hc1 := hG.ok.nx hkk (by rw [hK]; decide)
        refine r_aload_n 24 hE 0 dX9_unit_23 rfl rfl rfl ?_
        refine r_callV 27 hE [0, 1] [2, 3] [(wMo g mo mst mac mmk mr mrd mrm mcm mtp msz tk bg en ls vl ft fp mfk dp to), (wMTxt g mo tt)] [(wMAll g mo al), (wMPil g mo pl8)] 0 9 ok9 [] (c_X9_ahead (hB) (hn) (hen)) dX9_unit_24 rfl rfl wd_1194 wd_1196 ws_49 wd_12 wd_1197 ne_X9 np_X9_ahead (by omega)  (by decide) (by decide) rfl (Nat.le_of_ble_eq_true rfl) rfl rfl rfl rfl (by decide) rfl (fun v1 f1 hp => ?_)
        obtain ⟨tk9_24, bg9_24, en9_24, vl9_24, rfl, rfl, h24_0⟩ := hp
        show G g E _ _ _ [(wMo g mo mst mac mmk mr mrd mrm mcm mtp msz tk9_24 bg9_24 en9_24 bg vl9_24 ft fp mfk dp to), (wMTxt g mo tt), (wMAll g mo al), (wMPil g mo pl8)] 27 [(0, .ref (mo 0)), (1, .int (iI mto))] []
        have hR1 := AhIs.rd hRk hK1 hn.1 h24_0
        refine r_aload_n 28 hE 0 dX9_unit_27 rfl rfl rfl ?_
        refine r_iconst 29 hE dX9_unit_28 rfl ?_
        refine r_aload_n 30 hE 0 dX9_unit_29 rfl rfl rfl ?_
        refine r_get 33 hE 0 0 ok9 37 dX9_unit_30 rfl wd_1089 rfl rfl (by decide) rfl ?_
        refine r_iload_n 34 hE 1 dX9_unit_33 rfl rfl rfl ?_
        refine r_isub 35 hE (to - mto) dX9_unit_34 rfl rfl ?_
        refine r_iconst 36 hE dX9_unit_35 rfl ?_
        refine r_isub 37 hE ((to - mto) - 1) dX9_unit_36 rfl rfl ?_
        refine r_iconst 38 hE dX9_unit_37 rfl ?_
        refine r_callV 41 hE [0] [1, 2, 3] [(wMo g mo mst mac mmk mr mrd mrm mcm mtp msz tk9_24 bg9_24 en9_24 bg vl9_24 ft fp mfk dp to)] [(wMTxt g mo tt), (wMAll g mo al), (wMPil g mo pl8)] 0 9 ok9 [] (c_X9_isNumber (hR1) (hft) (by omega) (by omega) (by decide) (hn)) dX9_unit_38 rfl rfl wd_1237 wd_1239 ws_56 wd_12 wd_1240 ne_X9 np_X9_isNumber (by omega)  (by decide) (by decide) rfl (Nat.le_of_ble_eq_true rfl) rfl rfl rfl rfl (by decide) rfl (fun v1 f1 hp => ?_)
        obtain ⟨r9_38, ft9_38, fp9_38, rfl, rfl, h38_0, h38_1⟩ := hp
        show G g E _ _ _ [(wMo g mo mst mac mmk mr mrd mrm mcm mtp msz tk9_24 bg9_24 en9_24 bg vl9_24 ft9_38 fp9_38 mfk dp to), (wMTxt g mo tt), (wMAll g mo al), (wMPil g mo pl8)] 41 [(0, .ref (mo 0)), (1, .int (iI mto))] [.int (iI r9_38)]
        rw [show to - mto - 1 = (l.length : Int) - 1 by omega] at h38_0
        refine r_if_ne 44 46 hE dX9_unit_41 rfl (by decide) (by omega) (fun c41 => ?_) (fun c41 => ?_)
        · skip
          obtain ⟨n1, n2, n3⟩ := h38_0.ok c41
          have hv1 := numE_ok n1
          have hK2 : tkK tt msz (kk + 1) ≠ 1 := by show (bkOf tt msz).K (kk + 1) ≠ 1; rw [hv1.1]; decide
          have hen1 := (hR1.2.2.1 hK2).2
          have hc2 := hG.ok.nx hc1 (by rw [hv1.1]; decide)
          have hvl1 := hR1.2.2.2.2.1
          refine r_aload_n 47 hE 0 dX9_unit_46 rfl rfl rfl ?_
          refine r_get 50 hE 0 0 ok9 31 dX9_unit_47 rfl wd_1083 rfl rfl (by decide) rfl ?_
          refine r_istore_n 51 hE [(2, .int (iI vl9_24)), (0, .ref (mo 0)), (1, .int (iI mto))] dX9_unit_50 rfl rfl (by decide) rfl ?_
          refine r_aload_n 52 hE 1 dX9_unit_51 rfl rfl rfl ?_
          refine r_callV 55 hE [0, 1] [2, 3] [(wMo g mo mst mac mmk mr mrd mrm mcm mtp msz tk9_24 bg9_24 en9_24 bg vl9_24 ft9_38 fp9_38 mfk dp to), (wMTxt g mo tt)] [(wMAll g mo al), (wMPil g mo pl8)] 0 9 ok9 [] (c_X9_ahead (hB) (hn) (hen1)) dX9_unit_52 rfl rfl wd_1194 wd_1196 ws_49 wd_12 wd_1197 ne_X9 np_X9_ahead (by omega)  (by decide) (by decide) rfl (Nat.le_of_ble_eq_true rfl) rfl rfl rfl rfl (by decide) rfl (fun v1 f1 hp => ?_)
          obtain ⟨tk9_52, bg9_52, en9_52, vl9_52, rfl, rfl, h52_0⟩ := hp
          show G g E _ _ _ [(wMo g mo mst mac mmk mr mrd mrm mcm mtp msz tk9_52 bg9_52 en9_52 bg9_24 vl9_52 ft9_38 fp9_38 mfk dp to), (wMTxt g mo tt), (wMAll g mo al), (wMPil g mo pl8)] 55 [(2, .int (iI vl9_24)), (0, .ref (mo 0)), (1, .int (iI mto))] []
          have hR2 := AhIs.rd hR1 hK2 hn.1 h52_0
          refine r_aload_n 56 hE 1 dX9_unit_55 rfl rfl rfl ?_
          refine r_bipush 58 hE dX9_unit_56 rfl (by decide) ?_
          refine r_callV 61 hE [0, 1] [2, 3] [(wMo g mo mst mac mmk mr mrd mrm mcm mtp msz tk9_52 bg9_52 en9_52 bg9_24 vl9_52 ft9_38 fp9_38 mfk dp to), (wMTxt g mo tt)] [(wMAll g mo al), (wMPil g mo pl8)] 0 9 ok9 [] (c_X9_takesSign (hB) (hn) (hR2) (n2) (by decide)) dX9_unit_58 rfl rfl wd_1241 wd_1243 ws_57 wd_12 wd_1244 ne_X9 np_X9_takesSign (by omega)  (by decide) (by decide) rfl (Nat.le_of_ble_eq_true rfl) rfl rfl rfl rfl (by decide) rfl (fun v1 f1 hp => ?_)
          obtain ⟨r9_58, tk9_58, bg9_58, en9_58, ls9_58, vl9_58, ft9_58, fp9_58, rfl, rfl, h58_0, h58_1⟩ := hp
          show G g E _ _ _ [(wMo g mo mst mac mmk mr mrd mrm mcm mtp msz tk9_58 bg9_58 en9_58 ls9_58 vl9_58 ft9_58 fp9_58 mfk dp to), (wMTxt g mo tt), (wMAll g mo al), (wMPil g mo pl8)] 61 [(2, .int (iI vl9_24)), (0, .ref (mo 0)), (1, .int (iI mto))] [.int (iI r9_58)]
          refine r_if_eq 64 81 hE dX9_unit_61 rfl (by decide) (by omega) (fun c61 => ?_) (fun c61 => ?_)
          · skip
            refine r_iconst 82 hE dX9_unit_81 rfl ?_
            refine G.to (fs' := [(wMo g mo mst mac mmk mr mrd mrm mcm mtp msz tk9_58 bg9_58 en9_58 ls9_58 vl9_58 ft9_58 fp9_58 mfk dp to), (wMAll g mo al), (wMTxt g mo tt), (wMPil g mo pl8)]) [0, 2, 1, 3] [0, 1, 2] rfl rfl rfl ?_
            refine r_zreturn hE hR [(wMo g mo mst mac mmk mr mrd mrm mcm mtp msz tk9_58 bg9_58 en9_58 ls9_58 vl9_58 ft9_58 fp9_58 mfk dp to), (wMAll g mo al), (wMTxt g mo tt), (wMPil g mo pl8)] dX9_unit_82 (Nat.le_of_ble_eq_true rfl) (Nat.le_of_ble_eq_true rfl) (Or.inl rfl) rfl ?_
            first
              | (obtain ⟨e1, e2, e3⟩ := h58_0.er c61); (exact ⟨0, _, _, _, _, _, _, _, _, _, _, rfl, rfl, PrR.no (hE9.trans (unitL_e hfp hK (cut_e2 n1 e1))) e2 e3 (ftAt_r9 _ _), by omega⟩)
              | (obtain ⟨e, e1, e2, e3, e4⟩ := h75_0.er c78); (exact ⟨0, _, _, _, _, _, _, _, _, _, _, rfl, rfl, PrR.no (hE9.trans (unitL_e hfp hK (cut_e3 n1 t1 e1))) e2 e3 e4, by omega⟩)
          · skip
            obtain ⟨t1, hR3, t3, t4⟩ := h58_0.ok c61
            have hc3 := hG.ok.nx hc2 (by rw [t1]; decide)
            have hvl3 := hR3.2.2.2.2.1
            refine r_aload_n 65 hE 1 dX9_unit_64 rfl rfl rfl ?_
            refine r_iconst 66 hE dX9_unit_65 rfl ?_
            refine r_aload_n 67 hE 1 dX9_unit_66 rfl rfl rfl ?_
            refine r_get 70 hE 0 0 ok9 37 dX9_unit_67 rfl wd_1089 rfl rfl (by decide) rfl ?_
            refine r_iload_n 71 hE 2 dX9_unit_70 rfl rfl rfl ?_
            refine r_isub 72 hE (to - mto) dX9_unit_71 rfl rfl ?_
            refine r_iload_n 73 hE 0 dX9_unit_72 rfl rfl rfl ?_
            refine r_isub 74 hE ((to - mto) - vl9_24) dX9_unit_73 rfl rfl ?_
            refine r_iconst 75 hE dX9_unit_74 rfl ?_
            refine r_callV 78 hE [0] [1, 2, 3] [(wMo g mo mst mac mmk mr mrd mrm mcm mtp msz tk9_58 bg9_58 en9_58 ls9_58 vl9_58 ft9_58 fp9_58 mfk dp to)] [(wMTxt g mo tt), (wMAll g mo al), (wMPil g mo pl8)] 0 9 ok9 [] (c_X9_isNumber (hR3) (t3) (by omega) (by omega) (by decide) (hn)) dX9_unit_75 rfl rfl wd_1237 wd_1239 ws_56 wd_12 wd_1240 ne_X9 np_X9_isNumber (by omega)  (by decide) (by decide) rfl (Nat.le_of_ble_eq_true rfl) rfl rfl rfl rfl (by decide) rfl (fun v1 f1 hp => ?_)
            obtain ⟨r9_75, ft9_75, fp9_75, rfl, rfl, h75_0, h75_1⟩ := hp
            show G g E _ _ _ [(wMo g mo mst mac mmk mr mrd mrm mcm mtp msz tk9_58 bg9_58 en9_58 ls9_58 vl9_58 ft9_75 fp9_75 mfk dp to), (wMTxt g mo tt), (wMAll g mo al), (wMPil g mo pl8)] 78 [(2, .int (iI vl9_24)), (0, .ref (mo 0)), (1, .int (iI mto))] [.int (iI r9_75)]
            rw [show to - mto - vl9_24 = (l.length : Int) - vl9_24 by omega] at h75_0
            refine r_if_ne 81 83 hE dX9_unit_78 rfl (by decide) (by omega) (fun c78 => ?_) (fun c78 => ?_)
            · skip
              obtain ⟨m1, m2, m3⟩ := h75_0.ok c78
              refine r_iconst 84 hE dX9_unit_83 rfl ?_
              refine r_istore_n 85 hE [(3, .int (iI 0)), (2, .int (iI vl9_24)), (0, .ref (mo 0)), (1, .int (iI mto))] dX9_unit_84 rfl rfl (by decide) rfl ?_
              refine G.to (fs' := [(wMo g mo mst mac mmk mr mrd mrm mcm mtp msz tk9_58 bg9_58 en9_58 ls9_58 vl9_58 ft9_75 fp9_75 mfk dp to), (wMAll g mo al), (wMTxt g mo tt), (wMPil g mo pl8)]) (lv' := [(0, .ref (mo 0)), (1, .int (iI mto)), (2, .int (iI vl9_24)), (3, .int (iI 0))]) [0, 2, 1, 3] [2, 3, 1, 0] rfl rfl rfl ?_
              exact cut85 _ tk9_58 bg9_58 en9_58 ls9_58 vl9_58 ft9_75 fp9_75 vl9_24 0 pl8 (by first | exact hR3 | exact hR4) (by first | exact m2 | exact hft4) (by omega) (hK) (n1) (t1) (m1) (hc3) (by first | exact hav | (have q1 := numE_ok n1; have q2 := numE_ok m1; omega)) (by first | omega | (have q2 := numE_ok m1; omega)) (by first | exact g12 | exact (fun j a b => absurd b (by omega))) (by first | exact g22 | exact (fun _ _ => rfl)) (Nat.lt_succ_self _)
            · skip
              refine r_iconst 82 hE dX9_unit_81 rfl ?_
              refine G.to (fs' := [(wMo g mo mst mac mmk mr mrd mrm mcm mtp msz tk9_58 bg9_58 en9_58 ls9_58 vl9_58 ft9_75 fp9_75 mfk dp to), (wMAll g mo al), (wMTxt g mo tt), (wMPil g mo pl8)]) [0, 2, 1, 3] [0, 1, 2] rfl rfl rfl ?_
              refine r_zreturn hE hR [(wMo g mo mst mac mmk mr mrd mrm mcm mtp msz tk9_58 bg9_58 en9_58 ls9_58 vl9_58 ft9_75 fp9_75 mfk dp to), (wMAll g mo al), (wMTxt g mo tt), (wMPil g mo pl8)] dX9_unit_82 (Nat.le_of_ble_eq_true rfl) (Nat.le_of_ble_eq_true rfl) (Or.inl rfl) rfl ?_
              first
                | (obtain ⟨e1, e2, e3⟩ := h58_0.er c61); (exact ⟨0, _, _, _, _, _, _, _, _, _, _, rfl, rfl, PrR.no (hE9.trans (unitL_e hfp hK (cut_e2 n1 e1))) e2 e3 (ftAt_r9 _ _), by omega⟩)
                | (obtain ⟨e, e1, e2, e3, e4⟩ := h75_0.er c78); (exact ⟨0, _, _, _, _, _, _, _, _, _, _, rfl, rfl, PrR.no (hE9.trans (unitL_e hfp hK (cut_e3 n1 t1 e1))) e2 e3 e4, by omega⟩)
        · skip
          refine r_iconst 45 hE dX9_unit_44 rfl ?_
          refine G.to (fs' := [(wMo g mo mst mac mmk mr mrd mrm mcm mtp msz tk9_24 bg9_24 en9_24 bg vl9_24 ft9_38 fp9_38 mfk dp to), (wMAll g mo al), (wMTxt g mo tt), (wMPil g mo pl8)]) [0, 2, 1, 3] [0, 1] rfl rfl rfl ?_
          refine r_zreturn hE hR [(wMo g mo mst mac mmk mr mrd mrm mcm mtp msz tk9_24 bg9_24 en9_24 bg vl9_24 ft9_38 fp9_38 mfk dp to), (wMAll g mo al), (wMTxt g mo tt), (wMPil g mo pl8)] dX9_unit_45 (Nat.le_of_ble_eq_true rfl) (Nat.le_of_ble_eq_true rfl) (Or.inl rfl) rfl ?_
          obtain ⟨e, e1, e2, e3, e4⟩ := h38_0.er c41
          exact ⟨0, _, _, _, _, _, _, _, _, _, _, rfl, rfl, PrR.no (hE9.trans (unitL_e hfp hK (cut_e1 e1))) e2 e3 e4, by omega⟩
  refine r_aload_n 1 hE 0 dX9_unit_0 rfl rfl rfl ?_
  refine r_get 4 hE 0 0 ok9 37 dX9_unit_1 rfl wd_1089 rfl rfl (by decide) rfl ?_
  refine r_istore_n 5 hE [(1, .int (iI mto)), (0, .ref (mo 0))] dX9_unit_4 rfl rfl (by decide) rfl ?_
  refine r_aload_n 6 hE 1 dX9_unit_5 rfl rfl rfl ?_
  refine r_callV 9 hE [0, 1, 2, 3] [] [(wMo g mo mst mac mmk mr mrd mrm mcm mtp msz mtk mbg men mls mvl mft mfp mfk mdp mto), (wMAll g mo al), (wMTxt g mo tt), (wMPil g mo pl)] [] 0 9 ok9 [] (hco (hB) (hn) (hM) (hG) (hkc) (hRd) (hf0) (hdp) (hto)) dX9_unit_6 rfl rfl wd_1265 wd_1267 ws_63 wd_12 wd_1268 ne_X9 np_X9_core (by omega)  (by decide) (by decide) rfl (Nat.le_of_ble_eq_true rfl) rfl rfl rfl rfl (by decide) rfl (fun v1 f1 hp => ?_)
  obtain ⟨r9_6, tk9_6, bg9_6, en9_6, ls9_6, vl9_6, ft9_6, fp9_6, dp9_6, to9_6, pl9_6, rfl, rfl, h6_0, h6_1⟩ := hp
  show G g E _ _ _ [(wMo g mo mst mac mmk mr mrd mrm mcm mtp msz tk9_6 bg9_6 en9_6 ls9_6 vl9_6 ft9_6 fp9_6 mfk dp9_6 to9_6), (wMAll g mo al), (wMTxt g mo tt), (wMPil g mo pl9_6)] 9 [(1, .int (iI mto)), (0, .ref (mo 0))] [.int (iI r9_6)]
  refine r_if_ne 12 14 hE dX9_unit_9 rfl (by decide) (by omega) (fun c9 => ?_) (fun c9 => ?_)
  · skip
    obtain ⟨z0, zd, zq, l0, k0, hS0, hR0, hP0⟩ := h6_0.ok c9
    have hg0 : k0 ≤ c ∧ k < k0 ∧ GoodL l0 := hcg _ _ hkc hS0
    have hE0 := unitOf_o (b := (bkOf tt msz)) hS0
    have hc9 := hG.2.1
    refine G.to (fs' := [(wMo g mo mst mac mmk mr mrd mrm mcm mtp msz tk9_6 bg9_6 en9_6 ls9_6 vl9_6 ft9_6 fp9_6 mfk dp9_6 to9_6), (wMAll g mo al), (wMTxt g mo tt), (wMPil g mo pl9_6)]) (lv' := [(0, .ref (mo 0)), (1, .int (iI mto))]) [0, 1, 2, 3] [1, 0] rfl rfl rfl ?_
    exact cut14 _ tk9_6 bg9_6 en9_6 ls9_6 vl9_6 ft9_6 fp9_6 dp9_6 to9_6 pl9_6 l0 k0 1000 (by first | exact hR0 | exact hR9) (by first | exact hg0.1 | exact hkk9) (by first | exact z0 | exact z9) (by first | exact zd | exact zd9) (by omega) (by first | exact hP0 | exact hP9) (by first | exact hg0.2.2 | exact hl9) (by first | exact hE0 | exact hE8) (by omega) (Nat.lt_succ_self _)
  · skip
    refine r_iconst 13 hE dX9_unit_12 rfl ?_
    refine r_zreturn hE hR [(wMo g mo mst mac mmk mr mrd mrm mcm mtp msz tk9_6 bg9_6 en9_6 ls9_6 vl9_6 ft9_6 fp9_6 mfk dp9_6 to9_6), (wMAll g mo al), (wMTxt g mo tt), (wMPil g mo pl9_6)] dX9_unit_13 (Nat.le_of_ble_eq_true rfl) (Nat.le_of_ble_eq_true rfl) (Or.inl rfl) rfl ?_
    obtain ⟨e, e1, e2, e3, e4⟩ := h6_0.er c9
    exact ⟨0, _, _, _, _, _, _, _, _, _, _, rfl, rfl, PrR.no (unitOf_e e1) e2 e3 e4, by omega⟩
