set_option maxHeartbeats 4000000 in
set_option maxRecDepth 100000 in
theorem c_X9_aLine {g : Gm} {mo : Nat → Nat} {mst mac mmk mr mrd mrm mcm mtp msz mtk mbg men mls mvl mft mfp mfk mdp mto : Int} {al tt pl : Int → Int} {k c : Nat} (hB : BR tt) (hn : 0 ≤ msz ∧ msz ≤ 900) (hM : MTx al) (hG : BkG (bkOf tt msz) (tsF (mF al) (mN al) (al 0)) c) (hkc : k ≤ c) (hRd : RdAt tt msz k mtk mbg men mls mvl) (hf0 : mft = 0) : Ct g 32 0 0 yX9_aLine cX9_aLine 2 (some .boolean) [.ref (mo 0)] [(wMo g mo mst mac mmk mr mrd mrm mcm mtp msz mtk mbg men mls mvl mft mfp mfk mdp mto), (wMAll g mo al), (wMTxt g mo tt), (wMPil g mo pl)] (fun v_ w_ => ∃ r9 : Int, ∃ tk9 : Int, ∃ bg9 : Int, ∃ en9 : Int, ∃ ls9 : Int, ∃ vl9 : Int, ∃ ft9 : Int, ∃ fp9 : Int, ∃ dp9 : Int, ∃ to9 : Int, ∃ pl9 : Int → Int, ∃ al9 : Int → Int, v_ = some (.int (iI r9)) ∧ w_ = [(wMo g mo mst mac mmk mr mrd mrm mcm mtp msz tk9 bg9 en9 ls9 vl9 ft9 fp9 mfk dp9 to9), (wMAll g mo al9), (wMTxt g mo tt), (wMPil g mo pl9)] ∧ (LnR (bkOf tt msz) (tsF (mF al) (mN al) (al 0)) k c tt msz mfp r9 tk9 bg9 en9 ls9 vl9 ft9 fp9 al9) ∧ (∀ j, 4809 ≤ j → al9 j = al j) ∧ (0 ≤ r9 ∧ r9 ≤ 1)) := by
  refine Ct.of (by decide) (Nat.le_of_ble_eq_true rfl) (lv := [(0, .ref (mo 0))]) rfl ?_
  intro E hE hR hnm
  have hc := hM.1
  have hTl := tsF_len (mF al) (mN al) hc.1
  have hk1 := hRd.1.2.2
  have hk2 := hRd.tr
  have hk3 := hRd.2.2.2.2.1
  have cut100 : ∀ (tk4 : Int) (bg4 : Int) (en4 : Int) (ls4 : Int) (vl4 : Int) (ft4 : Int) (fp4 : Int) (t : Int) (kk : Nat), (RdAt tt msz kk tk4 bg4 en4 ls4 vl4) → (ft4 = 0) → (fp4 = mfp) → (kk ≤ c) → (k < kk) → (headE (bkOf tt msz) (tsF (mF al) (mN al) (al 0)) k = .ok (t.toNat, kk)) → (0 ≤ t ∧ t ≤ al 0 ∧ t < 8) → G g E 2 0 0 [(wMo g mo mst mac mmk mr mrd mrm mcm mtp msz tk4 bg4 en4 ls4 vl4 ft4 fp4 mfk 0 0), (wMAll g mo al), (wMTxt g mo tt), (wMPil g mo pl)] 100 [(0, .ref (mo 0)), (1, .int (iI t))] [] := by
    intro tk4 bg4 en4 ls4 vl4 ft4 fp4 t kk hR4 hft4 hfq4 hkk hlk hhd htt
    refine r_aload_n 101 hE 0 dX9_aLine_100 rfl rfl rfl ?_
    refine r_callV 104 hE [0, 1, 2, 3] [] [(wMo g mo mst mac mmk mr mrd mrm mcm mtp msz tk4 bg4 en4 ls4 vl4 ft4 fp4 mfk 0 0), (wMAll g mo al), (wMTxt g mo tt), (wMPil g mo pl)] [] 0 9 ok9 [] (c_X9_sum (core_all g 6) (by decide) (hB) (hn) (hM) (hG) (hkk) (hR4) (hft4) (by omega) (by omega)) dX9_aLine_101 rfl rfl wd_1253 wd_1255 ws_60 wd_12 wd_1256 ne_X9 np_X9_sum (Nat.le_of_ble_eq_true rfl)  (by decide) (by decide) rfl (Nat.le_of_ble_eq_true rfl) rfl rfl rfl rfl (by decide) rfl (fun v1 f1 hp => ?_)
    obtain ⟨r9_101, tk9_101, bg9_101, en9_101, ls9_101, vl9_101, ft9_101, fp9_101, dp9_101, to9_101, pl9_101, rfl, rfl, h101_0, h101_1⟩ := hp
    show G g E _ _ _ [(wMo g mo mst mac mmk mr mrd mrm mcm mtp msz tk9_101 bg9_101 en9_101 ls9_101 vl9_101 ft9_101 fp9_101 mfk dp9_101 to9_101), (wMAll g mo al), (wMTxt g mo tt), (wMPil g mo pl9_101)] 104 [(0, .ref (mo 0)), (1, .int (iI t))] [.int (iI r9_101)]
    refine r_if_ne 107 109 hE dX9_aLine_104 rfl (by decide) (by omega) (fun c104 => ?_) (fun c104 => ?_)
    · skip
      obtain ⟨zz0, zd, zq, l0, k0, hS0, hR5, hP0⟩ := h101_0.ok c104
      have hg0 : k0 ≤ c ∧ kk < k0 ∧ GoodL l0 := sumOf_G hG (core_G hG 6) _ _ hkk hS0
      have hPl0 := hP0.len
      have hgl := hg0.2.2.1
      have hl0 : l0 = rowL pl9_101 to9_101 := by have h9 := hP0.2.1; rw [Int.sub_zero] at h9; rw [h9]; exact rowL_cong (fun q _ _ => by rw [Int.zero_add])
      have hlt0 : ∀ q, 0 ≤ q → q < to9_101 → 0 ≤ pl9_101 q ∧ pl9_101 q ≤ 25 := fun q a b => hg0.2.2.2 _ (by rw [hl0]; exact List.mem_of_getElem? (i := q.toNat) (by rw [rowL_get _ (by omega), Int.toNat_of_nonneg a]))
      refine r_aload_n 110 hE 0 dX9_aLine_109 rfl rfl rfl ?_
      refine r_iload_n 111 hE 1 dX9_aLine_110 rfl rfl rfl ?_
      refine r_callV 114 hE [0, 1, 3] [2] [(wMo g mo mst mac mmk mr mrd mrm mcm mtp msz tk9_101 bg9_101 en9_101 ls9_101 vl9_101 ft9_101 fp9_101 mfk dp9_101 to9_101), (wMAll g mo al), (wMPil g mo pl9_101)] [(wMTxt g mo tt)] 0 9 ok9 [] (c_X9_puts (by omega) (by omega)) dX9_aLine_111 rfl rfl wd_1289 wd_1291 ws_69 wd_12 wd_1292 ne_X9 np_X9_puts (Nat.le_of_ble_eq_true rfl)  (by decide) (by decide) rfl (Nat.le_of_ble_eq_true rfl) rfl rfl rfl rfl (by decide) rfl (fun v1 f1 hp => ?_)
      obtain ⟨al9_111, rfl, rfl, h111_0⟩ := hp
      show G g E _ _ _ [(wMo g mo mst mac mmk mr mrd mrm mcm mtp msz tk9_101 bg9_101 en9_101 ls9_101 vl9_101 ft9_101 fp9_101 mfk dp9_101 to9_101), (wMAll g mo al9_111), (wMPil g mo pl9_101), (wMTxt g mo tt)] 114 [(0, .ref (mo 0)), (1, .int (iI t))] []
      have hz0 : al9_111 0 = al 0 := h111_0.2.2 0 (by omega) (by omega)
      have hln := h111_0.line hM htt (by omega) hlt0
      refine r_aload_n 115 hE 0 dX9_aLine_114 rfl rfl rfl ?_
      refine r_get 118 hE 0 0 ok9 0 dX9_aLine_115 rfl wd_1052 rfl rfl (by decide) rfl ?_
      refine r_iconst 119 hE dX9_aLine_118 rfl ?_
      refine r_aload_n 120 hE 0 dX9_aLine_119 rfl rfl rfl ?_
      refine r_callV 123 hE [0, 1] [2, 3] [(wMo g mo mst mac mmk mr mrd mrm mcm mtp msz tk9_101 bg9_101 en9_101 ls9_101 vl9_101 ft9_101 fp9_101 mfk dp9_101 to9_101), (wMAll g mo al9_111)] [(wMPil g mo pl9_101), (wMTxt g mo tt)] 0 9 ok9 [.int (iI 0), .ref (mo 1)] (c_X9_many) dX9_aLine_120 rfl rfl wd_1217 wd_1219 ws_52 wd_12 wd_1220 ne_X9 np_X9_many (Nat.le_of_ble_eq_true rfl)  (by decide) (by decide) rfl (Nat.le_of_ble_eq_true rfl) rfl rfl rfl rfl (by decide) rfl (fun v1 f1 hp => ?_)
      obtain ⟨rfl, rfl⟩ := hp
      show G g E _ _ _ [(wMo g mo mst mac mmk mr mrd mrm mcm mtp msz tk9_101 bg9_101 en9_101 ls9_101 vl9_101 ft9_101 fp9_101 mfk dp9_101 to9_101), (wMAll g mo al9_111), (wMPil g mo pl9_101), (wMTxt g mo tt)] 123 [(0, .ref (mo 0)), (1, .int (iI t))] [.int (iI (al9_111 0)), .int (iI 0), .ref (mo 1)]
      refine r_iload_n 124 hE 1 dX9_aLine_123 rfl rfl rfl ?_
      refine r_iconst 125 hE dX9_aLine_124 rfl ?_
      refine r_iadd 126 hE (t + 1) dX9_aLine_125 rfl rfl ?_
      refine r_max 129 hE dX9_aLine_126 rfl wd_1293 wd_110 wd_6 wd_111 (Nat.le_of_ble_eq_true rfl) (by decide) (by decide) (Nat.le_of_ble_eq_true rfl) (by omega) ?_
      refine r_iast 130 hE 1 0 (wMAll g mo (up al9_111 0 (max (al9_111 0) (t + 1)))) [(wMo g mo mst mac mmk mr mrd mrm mcm mtp msz tk9_101 bg9_101 en9_101 ls9_101 vl9_101 ft9_101 fp9_101 mfk dp9_101 to9_101), (wMAll g mo (up al9_111 0 (max (al9_111 0) (t + 1)))), (wMPil g mo pl9_101), (wMTxt g mo tt)] dX9_aLine_129 rfl rfl rfl (by omega) rfl rfl ?_
      refine r_aload_n 131 hE 0 dX9_aLine_130 rfl rfl rfl ?_
      refine r_bipush 133 hE dX9_aLine_131 rfl (by decide) ?_
      refine r_callV 136 hE [0, 3] [1, 2] [(wMo g mo mst mac mmk mr mrd mrm mcm mtp msz tk9_101 bg9_101 en9_101 ls9_101 vl9_101 ft9_101 fp9_101 mfk dp9_101 to9_101), (wMTxt g mo tt)] [(wMAll g mo (up al9_111 0 (max (al9_111 0) (t + 1)))), (wMPil g mo pl9_101)] 0 9 ok9 [] (c_X9_takesSign (hB) (hn) (hR5) (zz0) (by decide)) dX9_aLine_133 rfl rfl wd_1241 wd_1243 ws_57 wd_12 wd_1244 ne_X9 np_X9_takesSign (Nat.le_of_ble_eq_true rfl)  (by decide) (by decide) rfl (Nat.le_of_ble_eq_true rfl) rfl rfl rfl rfl (by decide) rfl (fun v1 f1 hp => ?_)
      obtain ⟨r9_133, tk9_133, bg9_133, en9_133, ls9_133, vl9_133, ft9_133, fp9_133, rfl, rfl, h133_0, h133_1⟩ := hp
      show G g E _ _ _ [(wMo g mo mst mac mmk mr mrd mrm mcm mtp msz tk9_133 bg9_133 en9_133 ls9_133 vl9_133 ft9_133 fp9_133 mfk dp9_101 to9_101), (wMTxt g mo tt), (wMAll g mo (up al9_111 0 (max (al9_111 0) (t + 1)))), (wMPil g mo pl9_101)] 136 [(0, .ref (mo 0)), (1, .int (iI t))] [.int (iI r9_133)]
      refine G.to (fs' := [(wMo g mo mst mac mmk mr mrd mrm mcm mtp msz tk9_133 bg9_133 en9_133 ls9_133 vl9_133 ft9_133 fp9_133 mfk dp9_101 to9_101), (wMAll g mo (up al9_111 0 (max (al9_111 0) (t + 1)))), (wMTxt g mo tt), (wMPil g mo pl9_101)]) [0, 2, 1, 3] [0, 1] rfl rfl rfl ?_
      refine r_zreturn hE hR [(wMo g mo mst mac mmk mr mrd mrm mcm mtp msz tk9_133 bg9_133 en9_133 ls9_133 vl9_133 ft9_133 fp9_133 mfk dp9_101 to9_101), (wMAll g mo (up al9_111 0 (max (al9_111 0) (t + 1)))), (wMTxt g mo tt), (wMPil g mo pl9_101)] dX9_aLine_136 (Nat.le_of_ble_eq_true rfl) (Nat.le_of_ble_eq_true rfl) (by have h9 := h133_1; omega) rfl ?_
      have hts := tsF_set hln.1 hc.1 (by omega)
      rw [← hl0] at hts
      rcases h133_0 with w | w
      · refine ⟨r9_133, _, _, _, _, _, _, _, _, _, _, _, rfl, rfl, Or.inl ⟨w.1, w.2.2.2.1, by have h9 := w.2.2.2.2; omega, k0 + 1, ?_, w.2.2.1, hln.2.1, hG.ok.nx hg0.1 (by rw [w.2.1]; decide), by omega⟩, hln.2.2, h133_1⟩
        rw [hts]
        exact line_ok hhd (body_o hS0 w.2.1)
      · exact ⟨r9_133, _, _, _, _, _, _, _, _, _, _, _, rfl, rfl, Or.inr ⟨w.1, _, line_er hhd (body_s hS0 w.2.1), w.2.2.1, w.2.2.2, (ftAt_r9 _ _)⟩, hln.2.2, h133_1⟩
    · skip
      refine r_iconst 108 hE dX9_aLine_107 rfl ?_
      refine r_zreturn hE hR [(wMo g mo mst mac mmk mr mrd mrm mcm mtp msz tk9_101 bg9_101 en9_101 ls9_101 vl9_101 ft9_101 fp9_101 mfk dp9_101 to9_101), (wMAll g mo al), (wMTxt g mo tt), (wMPil g mo pl9_101)] dX9_aLine_108 (Nat.le_of_ble_eq_true rfl) (Nat.le_of_ble_eq_true rfl) (Or.inl rfl) rfl ?_
      obtain ⟨e, e1, e2, e3, e4⟩ := h101_0.er c104
      exact ⟨0, _, _, _, _, _, _, _, _, _, _, _, rfl, rfl, LnR.no (line_er hhd (body_e e1)) e2 e3 e4, (fun j a => rfl), by omega⟩
  refine r_aload_n 1 hE 0 dX9_aLine_0 rfl rfl rfl ?_
  refine r_iconst 2 hE dX9_aLine_1 rfl ?_
  refine r_put 5 hE 0 0 ok9 37 (wMo g mo mst mac mmk mr mrd mrm mcm mtp msz mtk mbg men mls mvl mft mfp mfk mdp 0) [(wMo g mo mst mac mmk mr mrd mrm mcm mtp msz mtk mbg men mls mvl mft mfp mfk mdp 0), (wMAll g mo al), (wMTxt g mo tt), (wMPil g mo pl)] dX9_aLine_2 rfl wd_1089 rfl rfl (by decide) rfl rfl rfl (Nat.le_of_ble_eq_true rfl) rfl rfl ?_
  refine r_aload_n 6 hE 0 dX9_aLine_5 rfl rfl rfl ?_
  refine r_iconst 7 hE dX9_aLine_6 rfl ?_
  refine r_put 10 hE 0 0 ok9 35 (wMo g mo mst mac mmk mr mrd mrm mcm mtp msz mtk mbg men mls mvl mft mfp mfk 0 0) [(wMo g mo mst mac mmk mr mrd mrm mcm mtp msz mtk mbg men mls mvl mft mfp mfk 0 0), (wMAll g mo al), (wMTxt g mo tt), (wMPil g mo pl)] dX9_aLine_7 rfl wd_1087 rfl rfl (by decide) rfl rfl rfl (Nat.le_of_ble_eq_true rfl) rfl rfl ?_
  refine r_aload_n 11 hE 0 dX9_aLine_10 rfl rfl rfl ?_
  refine r_callV 14 hE [0, 1] [2, 3] [(wMo g mo mst mac mmk mr mrd mrm mcm mtp msz mtk mbg men mls mvl mft mfp mfk 0 0), (wMAll g mo al)] [(wMTxt g mo tt), (wMPil g mo pl)] 0 9 ok9 [] (c_X9_many) dX9_aLine_11 rfl rfl wd_1217 wd_1219 ws_52 wd_12 wd_1220 ne_X9 np_X9_many (Nat.le_of_ble_eq_true rfl)  (by decide) (by decide) rfl (Nat.le_of_ble_eq_true rfl) rfl rfl rfl rfl (by decide) rfl (fun v1 f1 hp => ?_)
  obtain ⟨rfl, rfl⟩ := hp
  show G g E _ _ _ [(wMo g mo mst mac mmk mr mrd mrm mcm mtp msz mtk mbg men mls mvl mft mfp mfk 0 0), (wMAll g mo al), (wMTxt g mo tt), (wMPil g mo pl)] 14 [(0, .ref (mo 0))] [.int (iI (al 0))]
  refine r_istore_n 15 hE [(1, .int (iI (al 0))), (0, .ref (mo 0))] dX9_aLine_14 rfl rfl (by decide) rfl ?_
  refine r_aload_n 16 hE 1 dX9_aLine_15 rfl rfl rfl ?_
  refine r_ldcS 18 hE dX9_aLine_16 rfl hE.2.2.2.1.2.1.2.2.2.1 ?_
  refine r_callV 21 hE [0, 2] [1, 3] [(wMo g mo mst mac mmk mr mrd mrm mcm mtp msz mtk mbg men mls mvl mft mfp mfk 0 0), (wMTxt g mo tt)] [(wMAll g mo al), (wMPil g mo pl)] 0 9 ok9 [] (c_X9_isWord_0 (hB) (hn) (hRd)) dX9_aLine_18 rfl rfl wd_1222 wd_1224 ws_53 wd_12 wd_1225 ne_X9 np_X9_isWord (Nat.le_of_ble_eq_true rfl)  (by decide) (by decide) rfl (Nat.le_of_ble_eq_true rfl) rfl rfl rfl rfl (by decide) rfl (fun v1 f1 hp => ?_)
  obtain ⟨rfl, rfl⟩ := hp
  show G g E _ _ _ [(wMo g mo mst mac mmk mr mrd mrm mcm mtp msz mtk mbg men mls mvl mft mfp mfk 0 0), (wMTxt g mo tt), (wMAll g mo al), (wMPil g mo pl)] 21 [(1, .int (iI (al 0))), (0, .ref (mo 0))] [.int (iI (bI ((bkOf tt msz).K k = 3)))]
  refine r_if_eq 24 44 hE dX9_aLine_21 rfl (by decide) (bI_rg _) (fun c21 => ?_) (fun c21 => ?_)
  · skip
    have c21 := bI0 c21
    refine r_aload_n 45 hE 1 dX9_aLine_44 rfl rfl rfl ?_
    refine r_ldcS 47 hE dX9_aLine_45 rfl hE.2.2.2.1.2.1.2.2.2.2 ?_
    refine r_callV 50 hE [0, 1] [2, 3] [(wMo g mo mst mac mmk mr mrd mrm mcm mtp msz mtk mbg men mls mvl mft mfp mfk 0 0), (wMTxt g mo tt)] [(wMAll g mo al), (wMPil g mo pl)] 0 9 ok9 [] (c_X9_isWord_1 (hB) (hn) (hRd)) dX9_aLine_47 rfl rfl wd_1222 wd_1224 ws_53 wd_12 wd_1225 ne_X9 np_X9_isWord (Nat.le_of_ble_eq_true rfl)  (by decide) (by decide) rfl (Nat.le_of_ble_eq_true rfl) rfl rfl rfl rfl (by decide) rfl (fun v1 f1 hp => ?_)
    obtain ⟨rfl, rfl⟩ := hp
    show G g E _ _ _ [(wMo g mo mst mac mmk mr mrd mrm mcm mtp msz mtk mbg men mls mvl mft mfp mfk 0 0), (wMTxt g mo tt), (wMAll g mo al), (wMPil g mo pl)] 50 [(1, .int (iI (al 0))), (0, .ref (mo 0))] [.int (iI (bI ((bkOf tt msz).K k = 4)))]
    refine r_if_ne 53 59 hE dX9_aLine_50 rfl (by decide) (bI_rg _) (fun c50 => ?_) (fun c50 => ?_)
    · skip
      have c50 := bI1 c50
      have hK := c50
      have hK1 : tkK tt msz k ≠ 1 := by show (bkOf tt msz).K k ≠ 1; rw [hK]; decide
      have hen := (hRd.2.2.1 hK1).2
      have hc1 := hG.ok.nx hkc (by rw [hK]; decide)
      refine r_aload_n 60 hE 1 dX9_aLine_59 rfl rfl rfl ?_
      refine r_callV 63 hE [0, 1] [2, 3] [(wMo g mo mst mac mmk mr mrd mrm mcm mtp msz mtk mbg men mls mvl mft mfp mfk 0 0), (wMTxt g mo tt)] [(wMAll g mo al), (wMPil g mo pl)] 0 9 ok9 [] (c_X9_ahead (hB) (hn) (hen)) dX9_aLine_60 rfl rfl wd_1194 wd_1196 ws_49 wd_12 wd_1197 ne_X9 np_X9_ahead (Nat.le_of_ble_eq_true rfl)  (by decide) (by decide) rfl (Nat.le_of_ble_eq_true rfl) rfl rfl rfl rfl (by decide) rfl (fun v1 f1 hp => ?_)
      obtain ⟨tk9_60, bg9_60, en9_60, vl9_60, rfl, rfl, h60_0⟩ := hp
      show G g E _ _ _ [(wMo g mo mst mac mmk mr mrd mrm mcm mtp msz tk9_60 bg9_60 en9_60 mbg vl9_60 mft mfp mfk 0 0), (wMTxt g mo tt), (wMAll g mo al), (wMPil g mo pl)] 63 [(1, .int (iI (al 0))), (0, .ref (mo 0))] []
      have hR1 := AhIs.rd hRd hK1 hn.1 h60_0
      have hvl1 := hR1.2.2.2.2.1
      refine r_aload_n 64 hE 1 dX9_aLine_63 rfl rfl rfl ?_
      refine r_iconst 65 hE dX9_aLine_64 rfl ?_
      refine r_aload_n 66 hE 1 dX9_aLine_65 rfl rfl rfl ?_
      refine r_callV 69 hE [0, 2] [1, 3] [(wMo g mo mst mac mmk mr mrd mrm mcm mtp msz tk9_60 bg9_60 en9_60 mbg vl9_60 mft mfp mfk 0 0), (wMAll g mo al)] [(wMTxt g mo tt), (wMPil g mo pl)] 0 9 ok9 [.int (iI 0), .ref (mo 0)] (c_X9_many) dX9_aLine_66 rfl rfl wd_1217 wd_1219 ws_52 wd_12 wd_1220 ne_X9 np_X9_many (Nat.le_of_ble_eq_true rfl)  (by decide) (by decide) rfl (Nat.le_of_ble_eq_true rfl) rfl rfl rfl rfl (by decide) rfl (fun v1 f1 hp => ?_)
      obtain ⟨rfl, rfl⟩ := hp
      show G g E _ _ _ [(wMo g mo mst mac mmk mr mrd mrm mcm mtp msz tk9_60 bg9_60 en9_60 mbg vl9_60 mft mfp mfk 0 0), (wMAll g mo al), (wMTxt g mo tt), (wMPil g mo pl)] 69 [(1, .int (iI (al 0))), (0, .ref (mo 0))] [.int (iI (al 0)), .int (iI 0), .ref (mo 0)]
      refine r_iconst 70 hE dX9_aLine_69 rfl ?_
      refine r_isub 71 hE ((al 0) - 1) dX9_aLine_70 rfl rfl ?_
      refine r_iconst 72 hE dX9_aLine_71 rfl ?_
      refine r_callV 75 hE [0] [1, 2, 3] [(wMo g mo mst mac mmk mr mrd mrm mcm mtp msz tk9_60 bg9_60 en9_60 mbg vl9_60 mft mfp mfk 0 0)] [(wMAll g mo al), (wMTxt g mo tt), (wMPil g mo pl)] 0 9 ok9 [] (c_X9_isNumber (hR1) (hf0) (by omega) (by omega) (by decide) (hn)) dX9_aLine_72 rfl rfl wd_1237 wd_1239 ws_56 wd_12 wd_1240 ne_X9 np_X9_isNumber (Nat.le_of_ble_eq_true rfl)  (by decide) (by decide) rfl (Nat.le_of_ble_eq_true rfl) rfl rfl rfl rfl (by decide) rfl (fun v1 f1 hp => ?_)
      obtain ⟨r9_72, ft9_72, fp9_72, rfl, rfl, h72_0, h72_1⟩ := hp
      show G g E _ _ _ [(wMo g mo mst mac mmk mr mrd mrm mcm mtp msz tk9_60 bg9_60 en9_60 mbg vl9_60 ft9_72 fp9_72 mfk 0 0), (wMAll g mo al), (wMTxt g mo tt), (wMPil g mo pl)] 75 [(1, .int (iI (al 0))), (0, .ref (mo 0))] [.int (iI r9_72)]
      rw [← hTl] at h72_0
      refine r_if_ne 78 80 hE dX9_aLine_75 rfl (by decide) (by omega) (fun c75 => ?_) (fun c75 => ?_)
      · skip
        obtain ⟨n1, n2, n3⟩ := h72_0.ok c75
        have hv1 := numE_ok n1
        have hK2 : tkK tt msz (k + 1) ≠ 1 := by show (bkOf tt msz).K (k + 1) ≠ 1; rw [hv1.1]; decide
        have hen1 := (hR1.2.2.1 hK2).2
        have hc2 := hG.ok.nx hc1 (by rw [hv1.1]; decide)
        refine r_aload_n 81 hE 1 dX9_aLine_80 rfl rfl rfl ?_
        refine r_get 84 hE 0 0 ok9 31 dX9_aLine_81 rfl wd_1083 rfl rfl (by decide) rfl ?_
        refine r_istore_n 85 hE [(1, .int (iI vl9_60)), (0, .ref (mo 0))] dX9_aLine_84 rfl rfl (by decide) rfl ?_
        refine r_aload_n 86 hE 1 dX9_aLine_85 rfl rfl rfl ?_
        refine r_callV 89 hE [0, 2] [1, 3] [(wMo g mo mst mac mmk mr mrd mrm mcm mtp msz tk9_60 bg9_60 en9_60 mbg vl9_60 ft9_72 fp9_72 mfk 0 0), (wMTxt g mo tt)] [(wMAll g mo al), (wMPil g mo pl)] 0 9 ok9 [] (c_X9_ahead (hB) (hn) (hen1)) dX9_aLine_86 rfl rfl wd_1194 wd_1196 ws_49 wd_12 wd_1197 ne_X9 np_X9_ahead (Nat.le_of_ble_eq_true rfl)  (by decide) (by decide) rfl (Nat.le_of_ble_eq_true rfl) rfl rfl rfl rfl (by decide) rfl (fun v1 f1 hp => ?_)
        obtain ⟨tk9_86, bg9_86, en9_86, vl9_86, rfl, rfl, h86_0⟩ := hp
        show G g E _ _ _ [(wMo g mo mst mac mmk mr mrd mrm mcm mtp msz tk9_86 bg9_86 en9_86 bg9_60 vl9_86 ft9_72 fp9_72 mfk 0 0), (wMTxt g mo tt), (wMAll g mo al), (wMPil g mo pl)] 89 [(1, .int (iI vl9_60)), (0, .ref (mo 0))] []
        have hR2 := AhIs.rd hR1 hK2 hn.1 h86_0
        refine r_aload_n 90 hE 1 dX9_aLine_89 rfl rfl rfl ?_
        refine r_bipush 92 hE dX9_aLine_90 rfl (by decide) ?_
        refine r_callV 95 hE [0, 1] [2, 3] [(wMo g mo mst mac mmk mr mrd mrm mcm mtp msz tk9_86 bg9_86 en9_86 bg9_60 vl9_86 ft9_72 fp9_72 mfk 0 0), (wMTxt g mo tt)] [(wMAll g mo al), (wMPil g mo pl)] 0 9 ok9 [] (c_X9_takesSign (hB) (hn) (hR2) (n2) (by decide)) dX9_aLine_92 rfl rfl wd_1241 wd_1243 ws_57 wd_12 wd_1244 ne_X9 np_X9_takesSign (Nat.le_of_ble_eq_true rfl)  (by decide) (by decide) rfl (Nat.le_of_ble_eq_true rfl) rfl rfl rfl rfl (by decide) rfl (fun v1 f1 hp => ?_)
        obtain ⟨r9_92, tk9_92, bg9_92, en9_92, ls9_92, vl9_92, ft9_92, fp9_92, rfl, rfl, h92_0, h92_1⟩ := hp
        show G g E _ _ _ [(wMo g mo mst mac mmk mr mrd mrm mcm mtp msz tk9_92 bg9_92 en9_92 ls9_92 vl9_92 ft9_92 fp9_92 mfk 0 0), (wMTxt g mo tt), (wMAll g mo al), (wMPil g mo pl)] 95 [(1, .int (iI vl9_60)), (0, .ref (mo 0))] [.int (iI r9_92)]
        refine r_if_ne 98 100 hE dX9_aLine_95 rfl (by decide) (by omega) (fun c95 => ?_) (fun c95 => ?_)
        · skip
          obtain ⟨t1, hR3, t3, t4⟩ := h92_0.ok c95
          have hc3 := hG.ok.nx hc2 (by rw [t1]; decide)
          have hhd := head_p hK n1 t1
          refine G.to (fs' := [(wMo g mo mst mac mmk mr mrd mrm mcm mtp msz tk9_92 bg9_92 en9_92 ls9_92 vl9_92 ft9_92 fp9_92 mfk 0 0), (wMAll g mo al), (wMTxt g mo tt), (wMPil g mo pl)]) (lv' := [(0, .ref (mo 0)), (1, .int (iI vl9_60))]) [0, 2, 1, 3] [1, 0] rfl rfl rfl ?_
          exact cut100 tk9_92 bg9_92 en9_92 ls9_92 vl9_92 ft9_92 fp9_92 vl9_60 _ (by first | exact hR1 | exact hR3) (by first | exact hf0 | exact t3) (by omega) (by first | exact hc1 | exact hc3) (by omega) (by first | exact hhd) (by omega)
        · skip
          refine r_iconst 99 hE dX9_aLine_98 rfl ?_
          refine G.to (fs' := [(wMo g mo mst mac mmk mr mrd mrm mcm mtp msz tk9_92 bg9_92 en9_92 ls9_92 vl9_92 ft9_92 fp9_92 mfk 0 0), (wMAll g mo al), (wMTxt g mo tt), (wMPil g mo pl)]) [0, 2, 1, 3] [0, 1] rfl rfl rfl ?_
          refine r_zreturn hE hR [(wMo g mo mst mac mmk mr mrd mrm mcm mtp msz tk9_92 bg9_92 en9_92 ls9_92 vl9_92 ft9_92 fp9_92 mfk 0 0), (wMAll g mo al), (wMTxt g mo tt), (wMPil g mo pl)] dX9_aLine_99 (Nat.le_of_ble_eq_true rfl) (Nat.le_of_ble_eq_true rfl) (Or.inl rfl) rfl ?_
          obtain ⟨e1, e2, e3⟩ := h92_0.er c95
          exact ⟨0, _, _, _, _, _, _, _, _, _, _, _, rfl, rfl, LnR.no (line_hd (head_s hK n1 e1)) e2 e3 (ftAt_r9 _ _), (fun j a => rfl), by omega⟩
      · skip
        refine r_iconst 79 hE dX9_aLine_78 rfl ?_
        refine r_zreturn hE hR [(wMo g mo mst mac mmk mr mrd mrm mcm mtp msz tk9_60 bg9_60 en9_60 mbg vl9_60 ft9_72 fp9_72 mfk 0 0), (wMAll g mo al), (wMTxt g mo tt), (wMPil g mo pl)] dX9_aLine_79 (Nat.le_of_ble_eq_true rfl) (Nat.le_of_ble_eq_true rfl) (Or.inl rfl) rfl ?_
        obtain ⟨e, e1, e2, e3, e4⟩ := h72_0.er c75
        exact ⟨0, _, _, _, _, _, _, _, _, _, _, _, rfl, rfl, LnR.no (line_hd (head_n hK e1)) e2 e3 e4, (fun j a => rfl), by omega⟩
    · skip
      have c50 := bI0 c50
      refine r_aload_n 54 hE 1 dX9_aLine_53 rfl rfl rfl ?_
      refine r_iconst 55 hE dX9_aLine_54 rfl ?_
      refine r_callV 58 hE [0] [1, 2, 3] [(wMo g mo mst mac mmk mr mrd mrm mcm mtp msz mtk mbg men mls mvl mft mfp mfk 0 0)] [(wMTxt g mo tt), (wMAll g mo al), (wMPil g mo pl)] 0 9 ok9 [] (c_X9_fails (hf0) (by omega)) dX9_aLine_55 rfl rfl wd_1228 wd_1230 ws_54 wd_12 wd_1231 ne_X9 np_X9_fails (Nat.le_of_ble_eq_true rfl)  (by decide) (by decide) rfl (Nat.le_of_ble_eq_true rfl) rfl rfl rfl rfl (by decide) rfl (fun v1 f1 hp => ?_)
      obtain ⟨rfl, rfl⟩ := hp
      show G g E _ _ _ [(wMo g mo mst mac mmk mr mrd mrm mcm mtp msz mtk mbg men mls mvl (if mtk = 1 then 1 else 2) mbg mfk 0 0), (wMTxt g mo tt), (wMAll g mo al), (wMPil g mo pl)] 58 [(1, .int (iI (al 0))), (0, .ref (mo 0))] [.int (iI 0)]
      refine G.to (fs' := [(wMo g mo mst mac mmk mr mrd mrm mcm mtp msz mtk mbg men mls mvl (if mtk = 1 then 1 else 2) mbg mfk 0 0), (wMAll g mo al), (wMTxt g mo tt), (wMPil g mo pl)]) [0, 2, 1, 3] [0, 1] rfl rfl rfl ?_
      refine r_zreturn hE hR [(wMo g mo mst mac mmk mr mrd mrm mcm mtp msz mtk mbg men mls mvl (if mtk = 1 then 1 else 2) mbg mfk 0 0), (wMAll g mo al), (wMTxt g mo tt), (wMPil g mo pl)] dX9_aLine_58 (Nat.le_of_ble_eq_true rfl) (Nat.le_of_ble_eq_true rfl) (Or.inl rfl) rfl ?_
      exact ⟨0, _, _, _, _, _, _, _, _, _, _, _, rfl, rfl, LnR.no (line_hd (head_0 c21 c50)) (congrArg Prod.fst (hRd.ft 2)) (congrArg Prod.snd (hRd.ft 2)) (ftAt_r9 _ _), (fun j a => rfl), by omega⟩
  · skip
    have c21 := bI1 c21
    have hK := c21
    have hK1 : tkK tt msz k ≠ 1 := by show (bkOf tt msz).K k ≠ 1; rw [hK]; decide
    have hen := (hRd.2.2.1 hK1).2
    have hc1 := hG.ok.nx hkc (by rw [hK]; decide)
    refine r_iload_n 25 hE 0 dX9_aLine_24 rfl rfl rfl ?_
    refine r_bipush 27 hE dX9_aLine_25 rfl (by decide) ?_
    refine r_icmp_ne 30 37 hE dX9_aLine_27 rfl (by decide) (by omega) (fun c27 => ?_) (fun c27 => ?_)
    · skip
      have hhd := head_t (T := (tsF (mF al) (mN al) (al 0))) hK (by omega)
      have hhd : headE (bkOf tt msz) (tsF (mF al) (mN al) (al 0)) k = .ok ((al 0).toNat, k + 1) := by rw [hhd]; congr 2; omega
      refine r_aload_n 38 hE 1 dX9_aLine_37 rfl rfl rfl ?_
      refine r_callV 41 hE [0, 1] [2, 3] [(wMo g mo mst mac mmk mr mrd mrm mcm mtp msz mtk mbg men mls mvl mft mfp mfk 0 0), (wMTxt g mo tt)] [(wMAll g mo al), (wMPil g mo pl)] 0 9 ok9 [] (c_X9_ahead (hB) (hn) (hen)) dX9_aLine_38 rfl rfl wd_1194 wd_1196 ws_49 wd_12 wd_1197 ne_X9 np_X9_ahead (Nat.le_of_ble_eq_true rfl)  (by decide) (by decide) rfl (Nat.le_of_ble_eq_true rfl) rfl rfl rfl rfl (by decide) rfl (fun v1 f1 hp => ?_)
      obtain ⟨tk9_38, bg9_38, en9_38, vl9_38, rfl, rfl, h38_0⟩ := hp
      show G g E _ _ _ [(wMo g mo mst mac mmk mr mrd mrm mcm mtp msz tk9_38 bg9_38 en9_38 mbg vl9_38 mft mfp mfk 0 0), (wMTxt g mo tt), (wMAll g mo al), (wMPil g mo pl)] 41 [(1, .int (iI (al 0))), (0, .ref (mo 0))] []
      have hR1 := AhIs.rd hRd hK1 hn.1 h38_0
      refine r_goto 100 hE dX9_aLine_41 (by decide) ?_
      refine G.to (fs' := [(wMo g mo mst mac mmk mr mrd mrm mcm mtp msz tk9_38 bg9_38 en9_38 mbg vl9_38 mft mfp mfk 0 0), (wMAll g mo al), (wMTxt g mo tt), (wMPil g mo pl)]) (lv' := [(0, .ref (mo 0)), (1, .int (iI (al 0)))]) [0, 2, 1, 3] [1, 0] rfl rfl rfl ?_
      exact cut100 tk9_38 bg9_38 en9_38 mbg vl9_38 mft mfp (al 0) _ (by first | exact hR1 | exact hR3) (by first | exact hf0 | exact t3) (by omega) (by first | exact hc1 | exact hc3) (by omega) (by first | exact hhd) (by omega)
    · skip
      refine r_aload_n 31 hE 1 dX9_aLine_30 rfl rfl rfl ?_
      refine r_bipush 33 hE dX9_aLine_31 rfl (by decide) ?_
      refine r_callV 36 hE [0] [1, 2, 3] [(wMo g mo mst mac mmk mr mrd mrm mcm mtp msz mtk mbg men mls mvl mft mfp mfk 0 0)] [(wMTxt g mo tt), (wMAll g mo al), (wMPil g mo pl)] 0 9 ok9 [] (c_X9_fails (hf0) (by omega)) dX9_aLine_33 rfl rfl wd_1228 wd_1230 ws_54 wd_12 wd_1231 ne_X9 np_X9_fails (Nat.le_of_ble_eq_true rfl)  (by decide) (by decide) rfl (Nat.le_of_ble_eq_true rfl) rfl rfl rfl rfl (by decide) rfl (fun v1 f1 hp => ?_)
      obtain ⟨rfl, rfl⟩ := hp
      show G g E _ _ _ [(wMo g mo mst mac mmk mr mrd mrm mcm mtp msz mtk mbg men mls mvl (if mtk = 1 then 1 else 6) mbg mfk 0 0), (wMTxt g mo tt), (wMAll g mo al), (wMPil g mo pl)] 36 [(1, .int (iI (al 0))), (0, .ref (mo 0))] [.int (iI 0)]
      refine G.to (fs' := [(wMo g mo mst mac mmk mr mrd mrm mcm mtp msz mtk mbg men mls mvl (if mtk = 1 then 1 else 6) mbg mfk 0 0), (wMAll g mo al), (wMTxt g mo tt), (wMPil g mo pl)]) [0, 2, 1, 3] [0, 1] rfl rfl rfl ?_
      refine r_zreturn hE hR [(wMo g mo mst mac mmk mr mrd mrm mcm mtp msz mtk mbg men mls mvl (if mtk = 1 then 1 else 6) mbg mfk 0 0), (wMAll g mo al), (wMTxt g mo tt), (wMPil g mo pl)] dX9_aLine_36 (Nat.le_of_ble_eq_true rfl) (Nat.le_of_ble_eq_true rfl) (Or.inl rfl) rfl ?_
      exact ⟨0, _, _, _, _, _, _, _, _, _, _, _, rfl, rfl, LnR.no (line_hd (head_t6 hK (by omega))) (by rw [if_neg (fun z => by have h9 := hRd.i1.mp z; rw [hK] at h9; exact absurd h9 (by decide))]) hRd.P (by show (1 : Int) ≤ 6 ∧ (6 : Int) ≤ 9; decide), (fun j a => rfl), by omega⟩
