set_option maxHeartbeats 4000000 in
set_option maxRecDepth 100000 in
theorem c_X9_takesSign {g : Gm} {mo : Nat → Nat} {mst mac mmk mr mrd mrm mcm mtp msz mtk mbg men mls mvl mft mfp mfk mdp mto : Int} {tt : Int → Int} {c : Int} {k : Nat} (hB : BR tt) (hn : 0 ≤ msz ∧ msz ≤ 900) (hRd : RdAt tt msz k mtk mbg men mls mvl) (hf0 : mft = 0) (hsg : isSg c) : Ct g 3 0 0 yX9_takesSign cX9_takesSign 2 (some .boolean) [.ref (mo 0), .int (iI c)] [(wMo g mo mst mac mmk mr mrd mrm mcm mtp msz mtk mbg men mls mvl mft mfp mfk mdp mto), (wMTxt g mo tt)] (fun v_ w_ => ∃ r9 : Int, ∃ tk9 : Int, ∃ bg9 : Int, ∃ en9 : Int, ∃ ls9 : Int, ∃ vl9 : Int, ∃ ft9 : Int, ∃ fp9 : Int, v_ = some (.int (iI r9)) ∧ w_ = [(wMo g mo mst mac mmk mr mrd mrm mcm mtp msz tk9 bg9 en9 ls9 vl9 ft9 fp9 mfk mdp mto), (wMTxt g mo tt)] ∧ (TkR tt msz k c mfp r9 tk9 bg9 en9 ls9 vl9 ft9 fp9) ∧ (0 ≤ r9 ∧ r9 ≤ 1)) := by
  refine Ct.of (by decide) (Nat.le_of_ble_eq_true rfl) (lv := [(0, .ref (mo 0)), (1, .int (iI c))]) rfl ?_
  intro E hE hR hnm
  have hk1 := hRd.1.2.2
  have hk2 := hRd.tr
  have hk3 := hRd.2.2.2.2.1
  have hcr : 35 ≤ c ∧ c ≤ 126 := by unfold isSg at hsg; omega
  refine r_aload_n 1 hE 0 dX9_takesSign_0 rfl rfl rfl ?_
  refine r_iload_n 2 hE 1 dX9_takesSign_1 rfl rfl rfl ?_
  refine r_callV 5 hE [0, 1] [] [(wMo g mo mst mac mmk mr mrd mrm mcm mtp msz mtk mbg men mls mvl mft mfp mfk mdp mto), (wMTxt g mo tt)] [] 0 9 ok9 [] (c_X9_isSign (hB) (hn) (by omega) (by omega) (by omega)) dX9_takesSign_2 rfl rfl wd_1245 wd_1247 ws_58 wd_12 wd_1248 ne_X9 np_X9_isSign (Nat.le_of_ble_eq_true rfl)  (by decide) (by decide) rfl (Nat.le_of_ble_eq_true rfl) rfl rfl rfl rfl (by decide) rfl (fun v1 f1 hp => ?_)
  obtain ⟨rfl, rfl⟩ := hp
  show G g E _ _ _ [(wMo g mo mst mac mmk mr mrd mrm mcm mtp msz mtk mbg men mls mvl mft mfp mfk mdp mto), (wMTxt g mo tt)] 5 [(0, .ref (mo 0)), (1, .int (iI c))] [.int (iI (bI (mtk = 5 ∧ mbA tt msz mbg = c)))]
  refine r_if_eq 8 15 hE dX9_takesSign_5 rfl (by decide) (bI_rg _) (fun c5 => ?_) (fun c5 => ?_)
  · skip
    have c5 := bI0 c5
    have hK : (bkOf tt msz).K k ≠ c := fun z => c5 ((hRd.sg hB hsg).mpr z)
    refine r_aload_n 16 hE 0 dX9_takesSign_15 rfl rfl rfl ?_
    refine r_iconst 17 hE dX9_takesSign_16 rfl ?_
    refine r_callV 20 hE [0] [1] [(wMo g mo mst mac mmk mr mrd mrm mcm mtp msz mtk mbg men mls mvl mft mfp mfk mdp mto)] [(wMTxt g mo tt)] 0 9 ok9 [] (c_X9_fails (hf0) (by omega)) dX9_takesSign_17 rfl rfl wd_1228 wd_1230 ws_54 wd_12 wd_1231 ne_X9 np_X9_fails (Nat.le_of_ble_eq_true rfl)  (by decide) (by decide) rfl (Nat.le_of_ble_eq_true rfl) rfl rfl rfl rfl (by decide) rfl (fun v1 f1 hp => ?_)
    obtain ⟨rfl, rfl⟩ := hp
    show G g E _ _ _ [(wMo g mo mst mac mmk mr mrd mrm mcm mtp msz mtk mbg men mls mvl (if mtk = 1 then 1 else 2) mbg mfk mdp mto), (wMTxt g mo tt)] 20 [(0, .ref (mo 0)), (1, .int (iI c))] [.int (iI 0)]
    refine r_zreturn hE hR [(wMo g mo mst mac mmk mr mrd mrm mcm mtp msz mtk mbg men mls mvl (if mtk = 1 then 1 else 2) mbg mfk mdp mto), (wMTxt g mo tt)] dX9_takesSign_20 (Nat.le_of_ble_eq_true rfl) (Nat.le_of_ble_eq_true rfl) (by first | exact Or.inl rfl | exact Or.inr rfl) rfl ?_
    first
      | exact ⟨1, _, _, _, _, _, _, _, rfl, rfl, Or.inl ⟨rfl, hK, AhIs.rd hRd hK1 hn.1 h9_0, hf0, rfl⟩, by omega⟩
      | exact ⟨0, _, _, _, _, _, _, _, rfl, rfl, Or.inr ⟨rfl, hK, congrArg Prod.fst (hRd.ft 2), congrArg Prod.snd (hRd.ft 2)⟩, by omega⟩
  · skip
    have c5 := bI1 c5
    have hK := (hRd.sg hB hsg).mp c5
    have hK1 : tkK tt msz k ≠ 1 := by show (bkOf tt msz).K k ≠ 1; rw [hK]; omega
    have hen := (hRd.2.2.1 hK1).2
    refine r_aload_n 9 hE 0 dX9_takesSign_8 rfl rfl rfl ?_
    refine r_callV 12 hE [0, 1] [] [(wMo g mo mst mac mmk mr mrd mrm mcm mtp msz mtk mbg men mls mvl mft mfp mfk mdp mto), (wMTxt g mo tt)] [] 0 9 ok9 [] (c_X9_takes (hB) (hn) (hen)) dX9_takesSign_9 rfl rfl wd_1249 wd_1251 ws_59 wd_12 wd_1252 ne_X9 np_X9_takes (Nat.le_of_ble_eq_true rfl)  (by decide) (by decide) rfl (Nat.le_of_ble_eq_true rfl) rfl rfl rfl rfl (by decide) rfl (fun v1 f1 hp => ?_)
    obtain ⟨tk9_9, bg9_9, en9_9, vl9_9, rfl, rfl, h9_0⟩ := hp
    show G g E _ _ _ [(wMo g mo mst mac mmk mr mrd mrm mcm mtp msz tk9_9 bg9_9 en9_9 mbg vl9_9 mft mfp mfk mdp mto), (wMTxt g mo tt)] 12 [(0, .ref (mo 0)), (1, .int (iI c))] [.int (iI 1)]
    refine r_goto 20 hE dX9_takesSign_12 (by decide) ?_
    refine r_zreturn hE hR [(wMo g mo mst mac mmk mr mrd mrm mcm mtp msz tk9_9 bg9_9 en9_9 mbg vl9_9 mft mfp mfk mdp mto), (wMTxt g mo tt)] dX9_takesSign_20 (Nat.le_of_ble_eq_true rfl) (Nat.le_of_ble_eq_true rfl) (by first | exact Or.inl rfl | exact Or.inr rfl) rfl ?_
    first
      | exact ⟨1, _, _, _, _, _, _, _, rfl, rfl, Or.inl ⟨rfl, hK, AhIs.rd hRd hK1 hn.1 h9_0, hf0, rfl⟩, by omega⟩
      | exact ⟨0, _, _, _, _, _, _, _, rfl, rfl, Or.inr ⟨rfl, hK, congrArg Prod.fst (hRd.ft 2), congrArg Prod.snd (hRd.ft 2)⟩, by omega⟩
set_option maxHeartbeats 4000000 in
set_option maxRecDepth 100000 in
theorem c_X9_isNumber {g : Gm} {mo : Nat → Nat} {mst mac mmk mr mrd mrm mcm mtp msz mtk mbg men mls mvl mft mfp mfk mdp mto : Int} {tt : Int → Int} {lo hi q : Int} {k : Nat} (hRd : RdAt tt msz k mtk mbg men mls mvl) (hf0 : mft = 0) (hlo : -2147483648 ≤ lo ∧ lo ≤ 2147483647) (hhi : -2147483648 ≤ hi ∧ hi ≤ 2147483647) (hq1 : 1 ≤ q ∧ q ≤ 9) (hn : 0 ≤ msz ∧ msz ≤ 900) : Ct g 2 0 0 yX9_isNumber cX9_isNumber 4 (some .boolean) [.ref (mo 0), .int (iI lo), .int (iI hi), .int (iI q)] [(wMo g mo mst mac mmk mr mrd mrm mcm mtp msz mtk mbg men mls mvl mft mfp mfk mdp mto)] (fun v_ w_ => ∃ r9 : Int, ∃ ft9 : Int, ∃ fp9 : Int, v_ = some (.int (iI r9)) ∧ w_ = [(wMo g mo mst mac mmk mr mrd mrm mcm mtp msz mtk mbg men mls mvl ft9 fp9 mfk mdp mto)] ∧ (NuR (bkOf tt msz) k lo hi q mvl mfp r9 ft9 fp9) ∧ (0 ≤ r9 ∧ r9 ≤ 1)) := by
  refine Ct.of (by decide) (Nat.le_of_ble_eq_true rfl) (lv := [(0, .ref (mo 0)), (1, .int (iI lo)), (2, .int (iI hi)), (3, .int (iI q))]) rfl ?_
  intro E hE hR hnm
  have hk1 := hRd.1.2.2
  have hk2 := hRd.tr
  have hk3 := hRd.2.2.2.2.1
  refine r_aload_n 1 hE 0 dX9_isNumber_0 rfl rfl rfl ?_
  refine r_get 4 hE 0 0 ok9 27 dX9_isNumber_1 rfl wd_1079 rfl rfl (by decide) rfl ?_
  refine r_iconst 5 hE dX9_isNumber_4 rfl ?_
  refine r_icmp_eq 8 14 hE dX9_isNumber_5 rfl (by decide) (by omega) (fun c5 => ?_) (fun c5 => ?_)
  · skip
    refine r_aload_n 15 hE 0 dX9_isNumber_14 rfl rfl rfl ?_
    refine r_get 18 hE 0 0 ok9 31 dX9_isNumber_15 rfl wd_1083 rfl rfl (by decide) rfl ?_
    refine r_iload_n 19 hE 1 dX9_isNumber_18 rfl rfl rfl ?_
    refine r_iload_n 20 hE 2 dX9_isNumber_19 rfl rfl rfl ?_
    refine r_callS 23 hE [] [0] [] [(wMo g mo mst mac mmk mr mrd mrm mcm mtp msz mtk mbg men mls mvl mft mfp mfk mdp mto)] [] (c_X9_isFrom (by have h9 := hRd.v5 (hRd.i3.mp c5); have h8 : 0 ≤ (bkOf tt msz).V k ∧ (bkOf tt msz).V k ≤ 9999 := tkV_rg tt hn k; omega) (by omega) (by omega)) dX9_isNumber_20 rfl wd_1183 wd_1184 wd_12 wd_1185 ne_X9 np_X9_isFrom (Nat.le_of_ble_eq_true rfl)  (by decide) (by decide) rfl (Nat.le_of_ble_eq_true rfl) rfl rfl rfl rfl (by decide) (fun v1 f1 hp => ?_)
    obtain ⟨rfl, rfl⟩ := hp
    show G g E _ _ _ [(wMo g mo mst mac mmk mr mrd mrm mcm mtp msz mtk mbg men mls mvl mft mfp mfk mdp mto)] 23 [(0, .ref (mo 0)), (1, .int (iI lo)), (2, .int (iI hi)), (3, .int (iI q))] [.int (iI (bI (lo ≤ mvl ∧ mvl ≤ hi)))]
    refine r_if_ne 26 34 hE dX9_isNumber_23 rfl (by decide) (bI_rg _) (fun c23 => ?_) (fun c23 => ?_)
    · skip
      have c23 := bI1 c23
      refine r_iconst 35 hE dX9_isNumber_34 rfl ?_
      refine r_goto 39 hE dX9_isNumber_35 (by decide) ?_
      refine r_zreturn hE hR [(wMo g mo mst mac mmk mr mrd mrm mcm mtp msz mtk mbg men mls mvl mft mfp mfk mdp mto)] dX9_isNumber_39 (Nat.le_of_ble_eq_true rfl) (Nat.le_of_ble_eq_true rfl) (by first | exact Or.inl rfl | exact Or.inr rfl) rfl ?_
      have hK := hRd.i3.mp c5
      have hV := hRd.v5 hK
      first
        | exact ⟨1, _, _, rfl, rfl, Or.inl ⟨rfl, by unfold numE; rw [if_pos hK, ← hV, if_pos c23], hf0, rfl⟩, by omega⟩
        | exact ⟨0, _, _, rfl, rfl, Or.inr ⟨rfl, (q, (bkOf tt msz).P k), by unfold numE; rw [if_pos hK, ← hV, if_neg c23], by rw [if_neg (by omega)], hRd.P, hq1⟩, by omega⟩
    · skip
      have c23 := bI0 c23
      refine r_aload_n 27 hE 0 dX9_isNumber_26 rfl rfl rfl ?_
      refine r_iload_n 28 hE 3 dX9_isNumber_27 rfl rfl rfl ?_
      refine r_callV 31 hE [0] [] [(wMo g mo mst mac mmk mr mrd mrm mcm mtp msz mtk mbg men mls mvl mft mfp mfk mdp mto)] [] 0 9 ok9 [] (c_X9_fails (hf0) (by omega)) dX9_isNumber_28 rfl rfl wd_1228 wd_1230 ws_54 wd_12 wd_1231 ne_X9 np_X9_fails (Nat.le_of_ble_eq_true rfl)  (by decide) (by decide) rfl (Nat.le_of_ble_eq_true rfl) rfl rfl rfl rfl (by decide) rfl (fun v1 f1 hp => ?_)
      obtain ⟨rfl, rfl⟩ := hp
      show G g E _ _ _ [(wMo g mo mst mac mmk mr mrd mrm mcm mtp msz mtk mbg men mls mvl (if mtk = 1 then 1 else q) mbg mfk mdp mto)] 31 [(0, .ref (mo 0)), (1, .int (iI lo)), (2, .int (iI hi)), (3, .int (iI q))] [.int (iI 0)]
      refine r_if_eq 34 38 hE dX9_isNumber_31 rfl (by decide) (by omega) (fun c31 => ?_) (fun c31 => ?_)
      · skip
        refine r_iconst 39 hE dX9_isNumber_38 rfl ?_
        refine r_zreturn hE hR [(wMo g mo mst mac mmk mr mrd mrm mcm mtp msz mtk mbg men mls mvl (if mtk = 1 then 1 else q) mbg mfk mdp mto)] dX9_isNumber_39 (Nat.le_of_ble_eq_true rfl) (Nat.le_of_ble_eq_true rfl) (by first | exact Or.inl rfl | exact Or.inr rfl) rfl ?_
        have hK := hRd.i3.mp c5
        have hV := hRd.v5 hK
        first
          | exact ⟨1, _, _, rfl, rfl, Or.inl ⟨rfl, by unfold numE; rw [if_pos hK, ← hV, if_pos c23], hf0, rfl⟩, by omega⟩
          | exact ⟨0, _, _, rfl, rfl, Or.inr ⟨rfl, (q, (bkOf tt msz).P k), by unfold numE; rw [if_pos hK, ← hV, if_neg c23], by rw [if_neg (by omega)], hRd.P, hq1⟩, by omega⟩
      · skip
        exact absurd rfl c31
  · skip
    refine r_aload_n 9 hE 0 dX9_isNumber_8 rfl rfl rfl ?_
    refine r_iconst 10 hE dX9_isNumber_9 rfl ?_
    refine r_callV 13 hE [0] [] [(wMo g mo mst mac mmk mr mrd mrm mcm mtp msz mtk mbg men mls mvl mft mfp mfk mdp mto)] [] 0 9 ok9 [] (c_X9_fails (hf0) (by omega)) dX9_isNumber_10 rfl rfl wd_1228 wd_1230 ws_54 wd_12 wd_1231 ne_X9 np_X9_fails (Nat.le_of_ble_eq_true rfl)  (by decide) (by decide) rfl (Nat.le_of_ble_eq_true rfl) rfl rfl rfl rfl (by decide) rfl (fun v1 f1 hp => ?_)
    obtain ⟨rfl, rfl⟩ := hp
    show G g E _ _ _ [(wMo g mo mst mac mmk mr mrd mrm mcm mtp msz mtk mbg men mls mvl (if mtk = 1 then 1 else 2) mbg mfk mdp mto)] 13 [(0, .ref (mo 0)), (1, .int (iI lo)), (2, .int (iI hi)), (3, .int (iI q))] [.int (iI 0)]
    refine r_zreturn hE hR [(wMo g mo mst mac mmk mr mrd mrm mcm mtp msz mtk mbg men mls mvl (if mtk = 1 then 1 else 2) mbg mfk mdp mto)] dX9_isNumber_13 (Nat.le_of_ble_eq_true rfl) (Nat.le_of_ble_eq_true rfl) (Or.inl rfl) rfl ?_
    refine ⟨0, _, _, rfl, rfl, Or.inr ⟨rfl, ftAt (bkOf tt msz) k 2, ?_, congrArg Prod.fst (hRd.ft 2), congrArg Prod.snd (hRd.ft 2), ftAt_r9 _ _⟩, by omega⟩
    unfold numE
    rw [if_neg (fun z => c5 (hRd.i3.mpr z))]
set_option maxHeartbeats 4000000 in
set_option maxRecDepth 100000 in
theorem c_X9_isWord_0 {g : Gm} {mo : Nat → Nat} {mst mac mmk mr mrd mrm mcm mtp msz mtk mbg men mls mvl mft mfp mfk mdp mto : Int} {tt : Int → Int} {k : Nat} (hB : BR tt) (hn : 0 ≤ msz ∧ msz ≤ 900) (hRd : RdAt tt msz k mtk mbg men mls mvl) : Ct g 4 0 0 yX9_isWord cX9_isWord 4 (some .boolean) [.ref (mo 0), .ref (g.adK 0)] [(wMo g mo mst mac mmk mr mrd mrm mcm mtp msz mtk mbg men mls mvl mft mfp mfk mdp mto), (wMTxt g mo tt)] (fun v_ w_ => v_ = some (.int (iI (bI ((bkOf tt msz).K k = 3)))) ∧ w_ = [(wMo g mo mst mac mmk mr mrd mrm mcm mtp msz mtk mbg men mls mvl mft mfp mfk mdp mto), (wMTxt g mo tt)]) := by
  refine Ct.of (by decide) (Nat.le_of_ble_eq_true rfl) (lv := [(0, .ref (mo 0)), (1, .ref (g.adK 0))]) rfl ?_
  intro E hE hR hnm
  have hk1 := hRd.1.2.2
  have hk2 := hRd.tr
  have hk3 := hRd.2.2.2.2.1
  have hsl := sL0
  have cut32 : ∀ (N : Nat) (b : Int) (i : Int), (0 ≤ i ∧ i ≤ 4) → ((b = 1 ∧ mtk = 2 ∧ men - mbg = 4 ∧ ∀ q, 0 ≤ q → q < i → mbA tt msz (mbg + q) = sByt 0 q) ∨ (b = 0 ∧ (bkOf tt msz).K k ≠ 3)) → (4 - i).toNat < N → G g E 4 0 0 [(wMo g mo mst mac mmk mr mrd mrm mcm mtp msz mtk mbg men mls mvl mft mfp mfk mdp mto), (wMTxt g mo tt)] 32 [(0, .ref (mo 0)), (1, .ref (g.adK 0)), (2, .int (iI b)), (3, .int (iI i))] [] := by
    intro N
    induction N with
    | zero => intro b i _ _ hN; exact absurd hN (Nat.not_lt_zero _)
    | succ N ih32 =>
      intro b i hi hb hN
      have hb01 : b = 0 ∨ b = 1 := by rcases hb with z | z <;> omega
      refine r_iload_n 33 hE 3 dX9_isWord_32 rfl rfl rfl ?_
      refine r_aload_n 34 hE 1 dX9_isWord_33 rfl rfl rfl ?_
      refine r_callT 37 hE [] [0, 1] [] [(wMo g mo mst mac mmk mr mrd mrm mcm mtp msz mtk mbg men mls mvl mft mfp mfk mdp mto), (wMTxt g mo tt)] (by decide) [.int (iI i)] (c_J0_length_8abf5 (by first | exact hj | decide)) dX9_isWord_34 rfl rfl wd_1226 wd_388 wd_389 wd_13 wd_390 ne_J0 np_J0_length_8abf5 (Nat.le_of_ble_eq_true rfl)  (by decide) (by decide) rfl (Nat.le_of_ble_eq_true rfl) rfl rfl rfl rfl (by decide) (fun v1 f1 hp => ?_)
      obtain ⟨rfl, rfl⟩ := hp
      show G g E _ _ _ [(wMo g mo mst mac mmk mr mrd mrm mcm mtp msz mtk mbg men mls mvl mft mfp mfk mdp mto), (wMTxt g mo tt)] 37 [(0, .ref (mo 0)), (1, .ref (g.adK 0)), (2, .int (iI b)), (3, .int (iI i))] [.int (iI ((sLen 0 : Nat) : Int)), .int (iI i)]
      refine r_icmp_ge 40 74 hE dX9_isWord_37 rfl (by decide) (by omega) (fun c37 => ?_) (fun c37 => ?_)
      · skip
        refine r_iload_n 75 hE 2 dX9_isWord_74 rfl rfl rfl ?_
        refine r_zreturn hE hR [(wMo g mo mst mac mmk mr mrd mrm mcm mtp msz mtk mbg men mls mvl mft mfp mfk mdp mto), (wMTxt g mo tt)] dX9_isWord_75 (Nat.le_of_ble_eq_true rfl) (Nat.le_of_ble_eq_true rfl) (by omega) rfl ?_
        rcases hb with z | z
        · first
          | exact ⟨retI (by rw [z.1]; exact (bIt ((mw_iff hB hRd).1.mp ⟨z.2.1, z.2.2.1, fun q a b => z.2.2.2 q a (by omega)⟩)).symm), rfl⟩
          | (exfalso; omega)
        · exact ⟨retI (by rw [z.1]; exact (bIf z.2).symm), rfl⟩
      · skip
        refine r_iload_n 41 hE 2 dX9_isWord_40 rfl rfl rfl ?_
        refine r_if_eq 44 74 hE dX9_isWord_41 rfl (by decide) (by omega) (fun c41 => ?_) (fun c41 => ?_)
        · skip
          refine r_iload_n 75 hE 2 dX9_isWord_74 rfl rfl rfl ?_
          refine r_zreturn hE hR [(wMo g mo mst mac mmk mr mrd mrm mcm mtp msz mtk mbg men mls mvl mft mfp mfk mdp mto), (wMTxt g mo tt)] dX9_isWord_75 (Nat.le_of_ble_eq_true rfl) (Nat.le_of_ble_eq_true rfl) (by omega) rfl ?_
          rcases hb with z | z
          · first
            | exact ⟨retI (by rw [z.1]; exact (bIt ((mw_iff hB hRd).1.mp ⟨z.2.1, z.2.2.1, fun q a b => z.2.2.2 q a (by omega)⟩)).symm), rfl⟩
            | (exfalso; omega)
          · exact ⟨retI (by rw [z.1]; exact (bIf z.2).symm), rfl⟩
        · skip
          refine r_aload_n 45 hE 0 dX9_isWord_44 rfl rfl rfl ?_
          refine r_aload_n 46 hE 0 dX9_isWord_45 rfl rfl rfl ?_
          refine r_get 49 hE 0 0 ok9 28 dX9_isWord_46 rfl wd_1080 rfl rfl (by decide) rfl ?_
          refine r_iload_n 50 hE 3 dX9_isWord_49 rfl rfl rfl ?_
          refine r_iadd 51 hE (mbg + i) dX9_isWord_50 rfl rfl ?_
          refine r_callV 54 hE [0, 1] [] [(wMo g mo mst mac mmk mr mrd mrm mcm mtp msz mtk mbg men mls mvl mft mfp mfk mdp mto), (wMTxt g mo tt)] [] 0 9 ok9 [] (c_X9_byteAt (hB) (hn) (by omega)) dX9_isWord_51 rfl rfl wd_1198 wd_1200 ws_50 wd_12 wd_1201 ne_X9 np_X9_byteAt (Nat.le_of_ble_eq_true rfl)  (by decide) (by decide) rfl (Nat.le_of_ble_eq_true rfl) rfl rfl rfl rfl (by decide) rfl (fun v1 f1 hp => ?_)
          obtain ⟨rfl, rfl⟩ := hp
          show G g E _ _ _ [(wMo g mo mst mac mmk mr mrd mrm mcm mtp msz mtk mbg men mls mvl mft mfp mfk mdp mto), (wMTxt g mo tt)] 54 [(0, .ref (mo 0)), (1, .ref (g.adK 0)), (2, .int (iI b)), (3, .int (iI i))] [.int (iI (mbA tt msz (mbg + i)))]
          refine r_aload_n 55 hE 1 dX9_isWord_54 rfl rfl rfl ?_
          refine r_iload_n 56 hE 3 dX9_isWord_55 rfl rfl rfl ?_
          refine r_callT 59 hE [] [0, 1] [] [(wMo g mo mst mac mmk mr mrd mrm mcm mtp msz mtk mbg men mls mvl mft mfp mfk mdp mto), (wMTxt g mo tt)] (by decide) [.int (iI (mbA tt msz (mbg + i)))] (c_J0_charAt_5068e (by decide) (by omega)) dX9_isWord_56 rfl rfl wd_1227 wd_398 wd_399 wd_13 wd_400 ne_J0 np_J0_charAt_5068e (Nat.le_of_ble_eq_true rfl)  (by decide) (by decide) rfl (Nat.le_of_ble_eq_true rfl) rfl rfl rfl rfl (by decide) (fun v1 f1 hp => ?_)
          obtain ⟨rfl, rfl⟩ := hp
          show G g E _ _ _ [(wMo g mo mst mac mmk mr mrd mrm mcm mtp msz mtk mbg men mls mvl mft mfp mfk mdp mto), (wMTxt g mo tt)] 59 [(0, .ref (mo 0)), (1, .ref (g.adK 0)), (2, .int (iI b)), (3, .int (iI i))] [.int (iI (sByt 0 i)), .int (iI (mbA tt msz (mbg + i)))]
          refine r_icmp_ne 62 66 hE dX9_isWord_59 rfl (by decide) (by have h1 := mbA_rg hB msz (mbg + i); have h2 := sByt_at (j := 0) (by decide) (k := i) (by omega); omega) (fun c59 => ?_) (fun c59 => ?_)
          · skip
            have hb3 : ((0 : Int) = 1 ∧ mtk = 2 ∧ men - mbg = 4 ∧ ∀ q, 0 ≤ q → q < i + 1 → mbA tt msz (mbg + q) = sByt 0 q) ∨ ((0 : Int) = 0 ∧ (bkOf tt msz).K k ≠ 3) := Or.inr ⟨rfl, fun z => c59 (((mw_iff hB hRd).1.mpr z).2.2 i hi.1 (by omega))⟩
            refine r_iconst 67 hE dX9_isWord_66 rfl ?_
            refine r_istore_n 68 hE [(2, .int (iI 0)), (0, .ref (mo 0)), (1, .ref (g.adK 0)), (3, .int (iI i))] dX9_isWord_67 rfl rfl (by decide) rfl ?_
            refine r_iinc 71 hE 3 (i + 1) [(3, .int (iI (i + 1))), (2, .int (iI 0)), (0, .ref (mo 0)), (1, .ref (g.adK 0))] dX9_isWord_68 rfl rfl rfl (by decide) rfl ?_
            refine r_goto 32 hE dX9_isWord_71 (by decide) ?_
            refine G.to (fs' := [(wMo g mo mst mac mmk mr mrd mrm mcm mtp msz mtk mbg men mls mvl mft mfp mfk mdp mto), (wMTxt g mo tt)]) (lv' := [(0, .ref (mo 0)), (1, .ref (g.adK 0)), (2, .int (iI 0)), (3, .int (iI (i + 1)))]) [0, 1] [2, 3, 1, 0] rfl rfl rfl ?_
            exact ih32 0 (i + 1) (by omega) (by first | exact hb2 | exact hb3) (by omega)
          · skip
            have hb3 : ((1 : Int) = 1 ∧ mtk = 2 ∧ men - mbg = 4 ∧ ∀ q, 0 ≤ q → q < i + 1 → mbA tt msz (mbg + q) = sByt 0 q) ∨ ((1 : Int) = 0 ∧ (bkOf tt msz).K k ≠ 3) := Or.inl ⟨rfl, by rcases hb with z | z; exact z.2.1; omega, by rcases hb with z | z; exact z.2.2.1; omega, fun q a b => if z : q = i then z ▸ c59 else by rcases hb with w | w; exact w.2.2.2 q a (by omega); omega⟩
            refine r_iconst 63 hE dX9_isWord_62 rfl ?_
            refine r_goto 67 hE dX9_isWord_63 (by decide) ?_
            refine r_istore_n 68 hE [(2, .int (iI 1)), (0, .ref (mo 0)), (1, .ref (g.adK 0)), (3, .int (iI i))] dX9_isWord_67 rfl rfl (by decide) rfl ?_
            refine r_iinc 71 hE 3 (i + 1) [(3, .int (iI (i + 1))), (2, .int (iI 1)), (0, .ref (mo 0)), (1, .ref (g.adK 0))] dX9_isWord_68 rfl rfl rfl (by decide) rfl ?_
            refine r_goto 32 hE dX9_isWord_71 (by decide) ?_
            refine G.to (fs' := [(wMo g mo mst mac mmk mr mrd mrm mcm mtp msz mtk mbg men mls mvl mft mfp mfk mdp mto), (wMTxt g mo tt)]) (lv' := [(0, .ref (mo 0)), (1, .ref (g.adK 0)), (2, .int (iI 1)), (3, .int (iI (i + 1)))]) [0, 1] [2, 3, 1, 0] rfl rfl rfl ?_
            exact ih32 1 (i + 1) (by omega) (by first | exact hb2 | exact hb3) (by omega)
  refine r_aload_n 1 hE 0 dX9_isWord_0 rfl rfl rfl ?_
  refine r_get 4 hE 0 0 ok9 27 dX9_isWord_1 rfl wd_1079 rfl rfl (by decide) rfl ?_
  refine r_iconst 5 hE dX9_isWord_4 rfl ?_
  refine r_icmp_ne 8 28 hE dX9_isWord_5 rfl (by decide) (by omega) (fun c5 => ?_) (fun c5 => ?_)
  · skip
    have hb2 : ((0 : Int) = 1 ∧ mtk = 2 ∧ men - mbg = 4 ∧ ∀ q, 0 ≤ q → q < 0 → mbA tt msz (mbg + q) = sByt 0 q) ∨ ((0 : Int) = 0 ∧ (bkOf tt msz).K k ≠ 3) := Or.inr ⟨rfl, fun z => c5 ((mw_iff hB hRd).1.mpr z).1⟩
    refine r_iconst 29 hE dX9_isWord_28 rfl ?_
    refine r_istore_n 30 hE [(2, .int (iI 0)), (0, .ref (mo 0)), (1, .ref (g.adK 0))] dX9_isWord_29 rfl rfl (by decide) rfl ?_
    refine r_iconst 31 hE dX9_isWord_30 rfl ?_
    refine r_istore_n 32 hE [(3, .int (iI 0)), (2, .int (iI 0)), (0, .ref (mo 0)), (1, .ref (g.adK 0))] dX9_isWord_31 rfl rfl (by decide) rfl ?_
    refine G.to (fs' := [(wMo g mo mst mac mmk mr mrd mrm mcm mtp msz mtk mbg men mls mvl mft mfp mfk mdp mto), (wMTxt g mo tt)]) (lv' := [(0, .ref (mo 0)), (1, .ref (g.adK 0)), (2, .int (iI 0)), (3, .int (iI 0))]) [0, 1] [2, 3, 1, 0] rfl rfl rfl ?_
    exact cut32 _ 0 0 (by omega) (by first | exact hb2 | exact hb3) (Nat.lt_succ_self _)
  · skip
    have hK1 : tkK tt msz k ≠ 1 := by have h9 := hRd.i2.mp c5; show (bkOf tt msz).K k ≠ 1; omega
    have hen := (hRd.2.2.1 hK1).2
    refine r_aload_n 9 hE 0 dX9_isWord_8 rfl rfl rfl ?_
    refine r_get 12 hE 0 0 ok9 29 dX9_isWord_9 rfl wd_1081 rfl rfl (by decide) rfl ?_
    refine r_aload_n 13 hE 0 dX9_isWord_12 rfl rfl rfl ?_
    refine r_get 16 hE 0 0 ok9 28 dX9_isWord_13 rfl wd_1080 rfl rfl (by decide) rfl ?_
    refine r_isub 17 hE (men - mbg) dX9_isWord_16 rfl rfl ?_
    refine r_aload_n 18 hE 1 dX9_isWord_17 rfl rfl rfl ?_
    refine r_callT 21 hE [] [0, 1] [] [(wMo g mo mst mac mmk mr mrd mrm mcm mtp msz mtk mbg men mls mvl mft mfp mfk mdp mto), (wMTxt g mo tt)] (by decide) [.int (iI (men - mbg))] (c_J0_length_8abf5 (by first | exact hj | decide)) dX9_isWord_18 rfl rfl wd_1226 wd_388 wd_389 wd_13 wd_390 ne_J0 np_J0_length_8abf5 (Nat.le_of_ble_eq_true rfl)  (by decide) (by decide) rfl (Nat.le_of_ble_eq_true rfl) rfl rfl rfl rfl (by decide) (fun v1 f1 hp => ?_)
    obtain ⟨rfl, rfl⟩ := hp
    show G g E _ _ _ [(wMo g mo mst mac mmk mr mrd mrm mcm mtp msz mtk mbg men mls mvl mft mfp mfk mdp mto), (wMTxt g mo tt)] 21 [(0, .ref (mo 0)), (1, .ref (g.adK 0))] [.int (iI ((sLen 0 : Nat) : Int)), .int (iI (men - mbg))]
    refine r_icmp_ne 24 28 hE dX9_isWord_21 rfl (by decide) (by omega) (fun c21 => ?_) (fun c21 => ?_)
    · skip
      have hb2 : ((0 : Int) = 1 ∧ mtk = 2 ∧ men - mbg = 4 ∧ ∀ q, 0 ≤ q → q < 0 → mbA tt msz (mbg + q) = sByt 0 q) ∨ ((0 : Int) = 0 ∧ (bkOf tt msz).K k ≠ 3) := Or.inr ⟨rfl, fun z => c21 (by have h9 := ((mw_iff hB hRd).1.mpr z).2.1; omega)⟩
      refine r_iconst 29 hE dX9_isWord_28 rfl ?_
      refine r_istore_n 30 hE [(2, .int (iI 0)), (0, .ref (mo 0)), (1, .ref (g.adK 0))] dX9_isWord_29 rfl rfl (by decide) rfl ?_
      refine r_iconst 31 hE dX9_isWord_30 rfl ?_
      refine r_istore_n 32 hE [(3, .int (iI 0)), (2, .int (iI 0)), (0, .ref (mo 0)), (1, .ref (g.adK 0))] dX9_isWord_31 rfl rfl (by decide) rfl ?_
      refine G.to (fs' := [(wMo g mo mst mac mmk mr mrd mrm mcm mtp msz mtk mbg men mls mvl mft mfp mfk mdp mto), (wMTxt g mo tt)]) (lv' := [(0, .ref (mo 0)), (1, .ref (g.adK 0)), (2, .int (iI 0)), (3, .int (iI 0))]) [0, 1] [2, 3, 1, 0] rfl rfl rfl ?_
      exact cut32 _ 0 0 (by omega) (by first | exact hb2 | exact hb3) (Nat.lt_succ_self _)
    · skip
      have hb2 : ((1 : Int) = 1 ∧ mtk = 2 ∧ men - mbg = 4 ∧ ∀ q, 0 ≤ q → q < 0 → mbA tt msz (mbg + q) = sByt 0 q) ∨ ((1 : Int) = 0 ∧ (bkOf tt msz).K k ≠ 3) := Or.inl ⟨rfl, c5, by omega, fun q a b => absurd b (by omega)⟩
      refine r_iconst 25 hE dX9_isWord_24 rfl ?_
      refine r_goto 29 hE dX9_isWord_25 (by decide) ?_
      refine r_istore_n 30 hE [(2, .int (iI 1)), (0, .ref (mo 0)), (1, .ref (g.adK 0))] dX9_isWord_29 rfl rfl (by decide) rfl ?_
      refine r_iconst 31 hE dX9_isWord_30 rfl ?_
      refine r_istore_n 32 hE [(3, .int (iI 0)), (2, .int (iI 1)), (0, .ref (mo 0)), (1, .ref (g.adK 0))] dX9_isWord_31 rfl rfl (by decide) rfl ?_
      refine G.to (fs' := [(wMo g mo mst mac mmk mr mrd mrm mcm mtp msz mtk mbg men mls mvl mft mfp mfk mdp mto), (wMTxt g mo tt)]) (lv' := [(0, .ref (mo 0)), (1, .ref (g.adK 0)), (2, .int (iI 1)), (3, .int (iI 0))]) [0, 1] [2, 3, 1, 0] rfl rfl rfl ?_
      exact cut32 _ 1 0 (by omega) (by first | exact hb2 | exact hb3) (Nat.lt_succ_self _)
set_option maxHeartbeats 4000000 in
set_option maxRecDepth 100000 in
theorem c_X9_isWord_1 {g : Gm} {mo : Nat → Nat} {mst mac mmk mr mrd mrm mcm mtp msz mtk mbg men mls mvl mft mfp mfk mdp mto : Int} {tt : Int → Int} {k : Nat} (hB : BR tt) (hn : 0 ≤ msz ∧ msz ≤ 900) (hRd : RdAt tt msz k mtk mbg men mls mvl) : Ct g 4 0 0 yX9_isWord cX9_isWord 4 (some .boolean) [.ref (mo 0), .ref (g.adK 1)] [(wMo g mo mst mac mmk mr mrd mrm mcm mtp msz mtk mbg men mls mvl mft mfp mfk mdp mto), (wMTxt g mo tt)] (fun v_ w_ => v_ = some (.int (iI (bI ((bkOf tt msz).K k = 4)))) ∧ w_ = [(wMo g mo mst mac mmk mr mrd mrm mcm mtp msz mtk mbg men mls mvl mft mfp mfk mdp mto), (wMTxt g mo tt)]) := by
  refine Ct.of (by decide) (Nat.le_of_ble_eq_true rfl) (lv := [(0, .ref (mo 0)), (1, .ref (g.adK 1))]) rfl ?_
  intro E hE hR hnm
  have hk1 := hRd.1.2.2
  have hk2 := hRd.tr
  have hk3 := hRd.2.2.2.2.1
  have hsl := sL1
  have cut32 : ∀ (N : Nat) (b : Int) (i : Int), (0 ≤ i ∧ i ≤ 3) → ((b = 1 ∧ mtk = 2 ∧ men - mbg = 3 ∧ ∀ q, 0 ≤ q → q < i → mbA tt msz (mbg + q) = sByt 1 q) ∨ (b = 0 ∧ (bkOf tt msz).K k ≠ 4)) → (3 - i).toNat < N → G g E 4 0 0 [(wMo g mo mst mac mmk mr mrd mrm mcm mtp msz mtk mbg men mls mvl mft mfp mfk mdp mto), (wMTxt g mo tt)] 32 [(0, .ref (mo 0)), (1, .ref (g.adK 1)), (2, .int (iI b)), (3, .int (iI i))] [] := by
    intro N
    induction N with
    | zero => intro b i _ _ hN; exact absurd hN (Nat.not_lt_zero _)
    | succ N ih32 =>
      intro b i hi hb hN
      have hb01 : b = 0 ∨ b = 1 := by rcases hb with z | z <;> omega
      refine r_iload_n 33 hE 3 dX9_isWord_32 rfl rfl rfl ?_
      refine r_aload_n 34 hE 1 dX9_isWord_33 rfl rfl rfl ?_
      refine r_callT 37 hE [] [0, 1] [] [(wMo g mo mst mac mmk mr mrd mrm mcm mtp msz mtk mbg men mls mvl mft mfp mfk mdp mto), (wMTxt g mo tt)] (by decide) [.int (iI i)] (c_J0_length_8abf5 (by first | exact hj | decide)) dX9_isWord_34 rfl rfl wd_1226 wd_388 wd_389 wd_13 wd_390 ne_J0 np_J0_length_8abf5 (Nat.le_of_ble_eq_true rfl)  (by decide) (by decide) rfl (Nat.le_of_ble_eq_true rfl) rfl rfl rfl rfl (by decide) (fun v1 f1 hp => ?_)
      obtain ⟨rfl, rfl⟩ := hp
      show G g E _ _ _ [(wMo g mo mst mac mmk mr mrd mrm mcm mtp msz mtk mbg men mls mvl mft mfp mfk mdp mto), (wMTxt g mo tt)] 37 [(0, .ref (mo 0)), (1, .ref (g.adK 1)), (2, .int (iI b)), (3, .int (iI i))] [.int (iI ((sLen 1 : Nat) : Int)), .int (iI i)]
      refine r_icmp_ge 40 74 hE dX9_isWord_37 rfl (by decide) (by omega) (fun c37 => ?_) (fun c37 => ?_)
      · skip
        refine r_iload_n 75 hE 2 dX9_isWord_74 rfl rfl rfl ?_
        refine r_zreturn hE hR [(wMo g mo mst mac mmk mr mrd mrm mcm mtp msz mtk mbg men mls mvl mft mfp mfk mdp mto), (wMTxt g mo tt)] dX9_isWord_75 (Nat.le_of_ble_eq_true rfl) (Nat.le_of_ble_eq_true rfl) (by omega) rfl ?_
        rcases hb with z | z
        · first
          | exact ⟨retI (by rw [z.1]; exact (bIt ((mw_iff hB hRd).2.mp ⟨z.2.1, z.2.2.1, fun q a b => z.2.2.2 q a (by omega)⟩)).symm), rfl⟩
          | (exfalso; omega)
        · exact ⟨retI (by rw [z.1]; exact (bIf z.2).symm), rfl⟩
      · skip
        refine r_iload_n 41 hE 2 dX9_isWord_40 rfl rfl rfl ?_
        refine r_if_eq 44 74 hE dX9_isWord_41 rfl (by decide) (by omega) (fun c41 => ?_) (fun c41 => ?_)
        · skip
          refine r_iload_n 75 hE 2 dX9_isWord_74 rfl rfl rfl ?_
          refine r_zreturn hE hR [(wMo g mo mst mac mmk mr mrd mrm mcm mtp msz mtk mbg men mls mvl mft mfp mfk mdp mto), (wMTxt g mo tt)] dX9_isWord_75 (Nat.le_of_ble_eq_true rfl) (Nat.le_of_ble_eq_true rfl) (by omega) rfl ?_
          rcases hb with z | z
          · first
            | exact ⟨retI (by rw [z.1]; exact (bIt ((mw_iff hB hRd).2.mp ⟨z.2.1, z.2.2.1, fun q a b => z.2.2.2 q a (by omega)⟩)).symm), rfl⟩
            | (exfalso; omega)
          · exact ⟨retI (by rw [z.1]; exact (bIf z.2).symm), rfl⟩
        · skip
          refine r_aload_n 45 hE 0 dX9_isWord_44 rfl rfl rfl ?_
          refine r_aload_n 46 hE 0 dX9_isWord_45 rfl rfl rfl ?_
          refine r_get 49 hE 0 0 ok9 28 dX9_isWord_46 rfl wd_1080 rfl rfl (by decide) rfl ?_
          refine r_iload_n 50 hE 3 dX9_isWord_49 rfl rfl rfl ?_
          refine r_iadd 51 hE (mbg + i) dX9_isWord_50 rfl rfl ?_
          refine r_callV 54 hE [0, 1] [] [(wMo g mo mst mac mmk mr mrd mrm mcm mtp msz mtk mbg men mls mvl mft mfp mfk mdp mto), (wMTxt g mo tt)] [] 0 9 ok9 [] (c_X9_byteAt (hB) (hn) (by omega)) dX9_isWord_51 rfl rfl wd_1198 wd_1200 ws_50 wd_12 wd_1201 ne_X9 np_X9_byteAt (Nat.le_of_ble_eq_true rfl)  (by decide) (by decide) rfl (Nat.le_of_ble_eq_true rfl) rfl rfl rfl rfl (by decide) rfl (fun v1 f1 hp => ?_)
          obtain ⟨rfl, rfl⟩ := hp
          show G g E _ _ _ [(wMo g mo mst mac mmk mr mrd mrm mcm mtp msz mtk mbg men mls mvl mft mfp mfk mdp mto), (wMTxt g mo tt)] 54 [(0, .ref (mo 0)), (1, .ref (g.adK 1)), (2, .int (iI b)), (3, .int (iI i))] [.int (iI (mbA tt msz (mbg + i)))]
          refine r_aload_n 55 hE 1 dX9_isWord_54 rfl rfl rfl ?_
          refine r_iload_n 56 hE 3 dX9_isWord_55 rfl rfl rfl ?_
          refine r_callT 59 hE [] [0, 1] [] [(wMo g mo mst mac mmk mr mrd mrm mcm mtp msz mtk mbg men mls mvl mft mfp mfk mdp mto), (wMTxt g mo tt)] (by decide) [.int (iI (mbA tt msz (mbg + i)))] (c_J0_charAt_5068e (by decide) (by omega)) dX9_isWord_56 rfl rfl wd_1227 wd_398 wd_399 wd_13 wd_400 ne_J0 np_J0_charAt_5068e (Nat.le_of_ble_eq_true rfl)  (by decide) (by decide) rfl (Nat.le_of_ble_eq_true rfl) rfl rfl rfl rfl (by decide) (fun v1 f1 hp => ?_)
          obtain ⟨rfl, rfl⟩ := hp
          show G g E _ _ _ [(wMo g mo mst mac mmk mr mrd mrm mcm mtp msz mtk mbg men mls mvl mft mfp mfk mdp mto), (wMTxt g mo tt)] 59 [(0, .ref (mo 0)), (1, .ref (g.adK 1)), (2, .int (iI b)), (3, .int (iI i))] [.int (iI (sByt 1 i)), .int (iI (mbA tt msz (mbg + i)))]
          refine r_icmp_ne 62 66 hE dX9_isWord_59 rfl (by decide) (by have h1 := mbA_rg hB msz (mbg + i); have h2 := sByt_at (j := 1) (by decide) (k := i) (by omega); omega) (fun c59 => ?_) (fun c59 => ?_)
          · skip
            have hb3 : ((0 : Int) = 1 ∧ mtk = 2 ∧ men - mbg = 3 ∧ ∀ q, 0 ≤ q → q < i + 1 → mbA tt msz (mbg + q) = sByt 1 q) ∨ ((0 : Int) = 0 ∧ (bkOf tt msz).K k ≠ 4) := Or.inr ⟨rfl, fun z => c59 (((mw_iff hB hRd).2.mpr z).2.2 i hi.1 (by omega))⟩
            refine r_iconst 67 hE dX9_isWord_66 rfl ?_
            refine r_istore_n 68 hE [(2, .int (iI 0)), (0, .ref (mo 0)), (1, .ref (g.adK 1)), (3, .int (iI i))] dX9_isWord_67 rfl rfl (by decide) rfl ?_
            refine r_iinc 71 hE 3 (i + 1) [(3, .int (iI (i + 1))), (2, .int (iI 0)), (0, .ref (mo 0)), (1, .ref (g.adK 1))] dX9_isWord_68 rfl rfl rfl (by decide) rfl ?_
            refine r_goto 32 hE dX9_isWord_71 (by decide) ?_
            refine G.to (fs' := [(wMo g mo mst mac mmk mr mrd mrm mcm mtp msz mtk mbg men mls mvl mft mfp mfk mdp mto), (wMTxt g mo tt)]) (lv' := [(0, .ref (mo 0)), (1, .ref (g.adK 1)), (2, .int (iI 0)), (3, .int (iI (i + 1)))]) [0, 1] [2, 3, 1, 0] rfl rfl rfl ?_
            exact ih32 0 (i + 1) (by omega) (by first | exact hb2 | exact hb3) (by omega)
          · skip
            have hb3 : ((1 : Int) = 1 ∧ mtk = 2 ∧ men - mbg = 3 ∧ ∀ q, 0 ≤ q → q < i + 1 → mbA tt msz (mbg + q) = sByt 1 q) ∨ ((1 : Int) = 0 ∧ (bkOf tt msz).K k ≠ 4) := Or.inl ⟨rfl, by rcases hb with z | z; exact z.2.1; omega, by rcases hb with z | z; exact z.2.2.1; omega, fun q a b => if z : q = i then z ▸ c59 else by rcases hb with w | w; exact w.2.2.2 q a (by omega); omega⟩
            refine r_iconst 63 hE dX9_isWord_62 rfl ?_
            refine r_goto 67 hE dX9_isWord_63 (by decide) ?_
            refine r_istore_n 68 hE [(2, .int (iI 1)), (0, .ref (mo 0)), (1, .ref (g.adK 1)), (3, .int (iI i))] dX9_isWord_67 rfl rfl (by decide) rfl ?_
            refine r_iinc 71 hE 3 (i + 1) [(3, .int (iI (i + 1))), (2, .int (iI 1)), (0, .ref (mo 0)), (1, .ref (g.adK 1))] dX9_isWord_68 rfl rfl rfl (by decide) rfl ?_
            refine r_goto 32 hE dX9_isWord_71 (by decide) ?_
            refine G.to (fs' := [(wMo g mo mst mac mmk mr mrd mrm mcm mtp msz mtk mbg men mls mvl mft mfp mfk mdp mto), (wMTxt g mo tt)]) (lv' := [(0, .ref (mo 0)), (1, .ref (g.adK 1)), (2, .int (iI 1)), (3, .int (iI (i + 1)))]) [0, 1] [2, 3, 1, 0] rfl rfl rfl ?_
            exact ih32 1 (i + 1) (by omega) (by first | exact hb2 | exact hb3) (by omega)
  refine r_aload_n 1 hE 0 dX9_isWord_0 rfl rfl rfl ?_
  refine r_get 4 hE 0 0 ok9 27 dX9_isWord_1 rfl wd_1079 rfl rfl (by decide) rfl ?_
  refine r_iconst 5 hE dX9_isWord_4 rfl ?_
  refine r_icmp_ne 8 28 hE dX9_isWord_5 rfl (by decide) (by omega) (fun c5 => ?_) (fun c5 => ?_)
  · skip
    have hb2 : ((0 : Int) = 1 ∧ mtk = 2 ∧ men - mbg = 3 ∧ ∀ q, 0 ≤ q → q < 0 → mbA tt msz (mbg + q) = sByt 1 q) ∨ ((0 : Int) = 0 ∧ (bkOf tt msz).K k ≠ 4) := Or.inr ⟨rfl, fun z => c5 ((mw_iff hB hRd).2.mpr z).1⟩
    refine r_iconst 29 hE dX9_isWord_28 rfl ?_
    refine r_istore_n 30 hE [(2, .int (iI 0)), (0, .ref (mo 0)), (1, .ref (g.adK 1))] dX9_isWord_29 rfl rfl (by decide) rfl ?_
    refine r_iconst 31 hE dX9_isWord_30 rfl ?_
    refine r_istore_n 32 hE [(3, .int (iI 0)), (2, .int (iI 0)), (0, .ref (mo 0)), (1, .ref (g.adK 1))] dX9_isWord_31 rfl rfl (by decide) rfl ?_
    refine G.to (fs' := [(wMo g mo mst mac mmk mr mrd mrm mcm mtp msz mtk mbg men mls mvl mft mfp mfk mdp mto), (wMTxt g mo tt)]) (lv' := [(0, .ref (mo 0)), (1, .ref (g.adK 1)), (2, .int (iI 0)), (3, .int (iI 0))]) [0, 1] [2, 3, 1, 0] rfl rfl rfl ?_
    exact cut32 _ 0 0 (by omega) (by first | exact hb2 | exact hb3) (Nat.lt_succ_self _)
  · skip
    have hK1 : tkK tt msz k ≠ 1 := by have h9 := hRd.i2.mp c5; show (bkOf tt msz).K k ≠ 1; omega
    have hen := (hRd.2.2.1 hK1).2
    refine r_aload_n 9 hE 0 dX9_isWord_8 rfl rfl rfl ?_
    refine r_get 12 hE 0 0 ok9 29 dX9_isWord_9 rfl wd_1081 rfl rfl (by decide) rfl ?_
    refine r_aload_n 13 hE 0 dX9_isWord_12 rfl rfl rfl ?_
    refine r_get 16 hE 0 0 ok9 28 dX9_isWord_13 rfl wd_1080 rfl rfl (by decide) rfl ?_
    refine r_isub 17 hE (men - mbg) dX9_isWord_16 rfl rfl ?_
    refine r_aload_n 18 hE 1 dX9_isWord_17 rfl rfl rfl ?_
    refine r_callT 21 hE [] [0, 1] [] [(wMo g mo mst mac mmk mr mrd mrm mcm mtp msz mtk mbg men mls mvl mft mfp mfk mdp mto), (wMTxt g mo tt)] (by decide) [.int (iI (men - mbg))] (c_J0_length_8abf5 (by first | exact hj | decide)) dX9_isWord_18 rfl rfl wd_1226 wd_388 wd_389 wd_13 wd_390 ne_J0 np_J0_length_8abf5 (Nat.le_of_ble_eq_true rfl)  (by decide) (by decide) rfl (Nat.le_of_ble_eq_true rfl) rfl rfl rfl rfl (by decide) (fun v1 f1 hp => ?_)
    obtain ⟨rfl, rfl⟩ := hp
    show G g E _ _ _ [(wMo g mo mst mac mmk mr mrd mrm mcm mtp msz mtk mbg men mls mvl mft mfp mfk mdp mto), (wMTxt g mo tt)] 21 [(0, .ref (mo 0)), (1, .ref (g.adK 1))] [.int (iI ((sLen 1 : Nat) : Int)), .int (iI (men - mbg))]
    refine r_icmp_ne 24 28 hE dX9_isWord_21 rfl (by decide) (by omega) (fun c21 => ?_) (fun c21 => ?_)
    · skip
      have hb2 : ((0 : Int) = 1 ∧ mtk = 2 ∧ men - mbg = 3 ∧ ∀ q, 0 ≤ q → q < 0 → mbA tt msz (mbg + q) = sByt 1 q) ∨ ((0 : Int) = 0 ∧ (bkOf tt msz).K k ≠ 4) := Or.inr ⟨rfl, fun z => c21 (by have h9 := ((mw_iff hB hRd).2.mpr z).2.1; omega)⟩
      refine r_iconst 29 hE dX9_isWord_28 rfl ?_
      refine r_istore_n 30 hE [(2, .int (iI 0)), (0, .ref (mo 0)), (1, .ref (g.adK 1))] dX9_isWord_29 rfl rfl (by decide) rfl ?_
      refine r_iconst 31 hE dX9_isWord_30 rfl ?_
      refine r_istore_n 32 hE [(3, .int (iI 0)), (2, .int (iI 0)), (0, .ref (mo 0)), (1, .ref (g.adK 1))] dX9_isWord_31 rfl rfl (by decide) rfl ?_
      refine G.to (fs' := [(wMo g mo mst mac mmk mr mrd mrm mcm mtp msz mtk mbg men mls mvl mft mfp mfk mdp mto), (wMTxt g mo tt)]) (lv' := [(0, .ref (mo 0)), (1, .ref (g.adK 1)), (2, .int (iI 0)), (3, .int (iI 0))]) [0, 1] [2, 3, 1, 0] rfl rfl rfl ?_
      exact cut32 _ 0 0 (by omega) (by first | exact hb2 | exact hb3) (Nat.lt_succ_self _)
    · skip
      have hb2 : ((1 : Int) = 1 ∧ mtk = 2 ∧ men - mbg = 3 ∧ ∀ q, 0 ≤ q → q < 0 → mbA tt msz (mbg + q) = sByt 1 q) ∨ ((1 : Int) = 0 ∧ (bkOf tt msz).K k ≠ 4) := Or.inl ⟨rfl, c5, by omega, fun q a b => absurd b (by omega)⟩
      refine r_iconst 25 hE dX9_isWord_24 rfl ?_
      refine r_goto 29 hE dX9_isWord_25 (by decide) ?_
      refine r_istore_n 30 hE [(2, .int (iI 1)), (0, .ref (mo 0)), (1, .ref (g.adK 1))] dX9_isWord_29 rfl rfl (by decide) rfl ?_
      refine r_iconst 31 hE dX9_isWord_30 rfl ?_
      refine r_istore_n 32 hE [(3, .int (iI 0)), (2, .int (iI 1)), (0, .ref (mo 0)), (1, .ref (g.adK 1))] dX9_isWord_31 rfl rfl (by decide) rfl ?_
      refine G.to (fs' := [(wMo g mo mst mac mmk mr mrd mrm mcm mtp msz mtk mbg men mls mvl mft mfp mfk mdp mto), (wMTxt g mo tt)]) (lv' := [(0, .ref (mo 0)), (1, .ref (g.adK 1)), (2, .int (iI 1)), (3, .int (iI 0))]) [0, 1] [2, 3, 1, 0] rfl rfl rfl ?_
      exact cut32 _ 1 0 (by omega) (by first | exact hb2 | exact hb3) (Nat.lt_succ_self _)
set_option maxHeartbeats 4000000 in
set_option maxRecDepth 100000 in
theorem c_X9_quote {g : Gm} {mo : Nat → Nat} {mst mac mmk mr mrd mrm mcm mtp msz mtk mbg men mls mvl mft mfp mfk mdp mto : Int} {tt : Int → Int} {pl : Int → Int} {T : List (List Int)} {k : Nat} (hB : BR tt) (hn : 0 ≤ msz ∧ msz ≤ 900) (hRd : RdAt tt msz k mtk mbg men mls mvl) (hf0 : mft = 0) (hK : (bkOf tt msz).K k = 6) (hto : 0 ≤ mto ∧ mto ≤ 5400) : Ct g 3 0 0 yX9_quote cX9_quote 3 (some .boolean) [.ref (mo 0)] [(wMo g mo mst mac mmk mr mrd mrm mcm mtp msz mtk mbg men mls mvl mft mfp mfk mdp mto), (wMTxt g mo tt), (wMPil g mo pl)] (fun v_ w_ => ∃ r9 : Int, ∃ tk9 : Int, ∃ bg9 : Int, ∃ en9 : Int, ∃ ls9 : Int, ∃ vl9 : Int, ∃ ft9 : Int, ∃ fp9 : Int, ∃ dp9 : Int, ∃ to9 : Int, ∃ pl9 : Int → Int, v_ = some (.int (iI r9)) ∧ w_ = [(wMo g mo mst mac mmk mr mrd mrm mcm mtp msz tk9 bg9 en9 ls9 vl9 ft9 fp9 mfk dp9 to9), (wMTxt g mo tt), (wMPil g mo pl9)] ∧ (PrR (leafE (bkOf tt msz) T k) tt msz pl mto mdp mfp r9 tk9 bg9 en9 ls9 vl9 ft9 fp9 dp9 to9 pl9) ∧ (0 ≤ r9 ∧ r9 ≤ 1)) := by
  refine Ct.of (by decide) (Nat.le_of_ble_eq_true rfl) (lv := [(0, .ref (mo 0))]) rfl ?_
  intro E hE hR hnm
  have hk1 := hRd.1.2.2
  have hk2 := hRd.tr
  have hk3 := hRd.2.2.2.2.1
  have hK1 : tkK tt msz k ≠ 1 := by show (bkOf tt msz).K k ≠ 1; rw [hK]; decide
  have hen := (hRd.2.2.1 hK1).2
  have hq := qt_at (B := tt) (n := msz) (k := k) hK
  have hq0 := hq.1
  have hm4 := hRd.i4.mpr hK
  have hV := hRd.2.2.2.2.2.2 hK
  have cut27 : ∀ (N : Nat) (i : Int) (pl9 : Int → Int), (0 ≤ i ∧ i ≤ tkV tt msz k) → (tkV tt msz k ≤ 600) → (∀ q, 0 ≤ q → q < i → pl9 (mto + q) = tt (tkB tt msz k + 1 + q) - 97) → (∀ j, ¬ (mto ≤ j ∧ j < mto + i) → pl9 j = pl j) → (tkV tt msz k - i).toNat < N → G g E 3 0 0 [(wMo g mo mst mac mmk mr mrd mrm mcm mtp msz mtk mbg men mls mvl mft mfp mfk mdp mto), (wMTxt g mo tt), (wMPil g mo pl9)] 27 [(0, .ref (mo 0)), (1, .int (iI (tkV tt msz k))), (2, .int (iI i))] [] := by
    intro N
    induction N with
    | zero => intro i pl9 _ _ _ _ hN; exact absurd hN (Nat.not_lt_zero _)
    | succ N ih27 =>
      intro i pl9 hi h6 g1 g2 hN
      refine r_iload_n 28 hE 2 dX9_quote_27 rfl rfl rfl ?_
      refine r_iload_n 29 hE 1 dX9_quote_28 rfl rfl rfl ?_
      refine r_icmp_ge 32 64 hE dX9_quote_29 rfl (by decide) (by omega) (fun c29 => ?_) (fun c29 => ?_)
      · skip
        refine r_aload_n 65 hE 0 dX9_quote_64 rfl rfl rfl ?_
        refine r_dup 66 hE dX9_quote_65 rfl rfl ?_
        refine r_get 69 hE 0 0 ok9 37 dX9_quote_66 rfl wd_1089 rfl rfl (by decide) rfl ?_
        refine r_iload_n 70 hE 1 dX9_quote_69 rfl rfl rfl ?_
        refine r_iadd 71 hE (mto + (tkV tt msz k)) dX9_quote_70 rfl rfl ?_
        refine r_put 74 hE 0 0 ok9 37 (wMo g mo mst mac mmk mr mrd mrm mcm mtp msz mtk mbg men mls mvl mft mfp mfk mdp (mto + (tkV tt msz k))) [(wMo g mo mst mac mmk mr mrd mrm mcm mtp msz mtk mbg men mls mvl mft mfp mfk mdp (mto + (tkV tt msz k))), (wMTxt g mo tt), (wMPil g mo pl9)] dX9_quote_71 rfl wd_1089 rfl rfl (by decide) rfl rfl rfl (Nat.le_of_ble_eq_true rfl) rfl rfl ?_
        refine r_aload_n 75 hE 0 dX9_quote_74 rfl rfl rfl ?_
        refine r_callV 78 hE [0, 1] [2] [(wMo g mo mst mac mmk mr mrd mrm mcm mtp msz mtk mbg men mls mvl mft mfp mfk mdp (mto + (tkV tt msz k))), (wMTxt g mo tt)] [(wMPil g mo pl9)] 0 9 ok9 [] (c_X9_takes (hB) (hn) (hen)) dX9_quote_75 rfl rfl wd_1249 wd_1251 ws_59 wd_12 wd_1252 ne_X9 np_X9_takes (Nat.le_of_ble_eq_true rfl)  (by decide) (by decide) rfl (Nat.le_of_ble_eq_true rfl) rfl rfl rfl rfl (by decide) rfl (fun v1 f1 hp => ?_)
        obtain ⟨tk9_75, bg9_75, en9_75, vl9_75, rfl, rfl, h75_0⟩ := hp
        show G g E _ _ _ [(wMo g mo mst mac mmk mr mrd mrm mcm mtp msz tk9_75 bg9_75 en9_75 mbg vl9_75 mft mfp mfk mdp (mto + (tkV tt msz k))), (wMTxt g mo tt), (wMPil g mo pl9)] 78 [(0, .ref (mo 0)), (1, .int (iI (tkV tt msz k))), (2, .int (iI i))] [.int (iI 1)]
        refine r_zreturn hE hR [(wMo g mo mst mac mmk mr mrd mrm mcm mtp msz tk9_75 bg9_75 en9_75 mbg vl9_75 mft mfp mfk mdp (mto + (tkV tt msz k))), (wMTxt g mo tt), (wMPil g mo pl9)] dX9_quote_78 (Nat.le_of_ble_eq_true rfl) (Nat.le_of_ble_eq_true rfl) (Or.inr rfl) rfl ?_
        have hin : i = tkV tt msz k := by omega
        rw [hin] at g1 g2
        exact ⟨1, _, _, _, _, _, _, _, _, _, _, rfl, rfl, PrR.yes (leaf_q2 hK (by show ¬ 600 < tkV tt msz k; omega)) (AhIs.rd hRd hK1 hn.1 h75_0) (quo_pl rfl (by omega) g1 g2) hf0 rfl rfl, by omega⟩
      · skip
        refine r_aload_n 33 hE 0 dX9_quote_32 rfl rfl rfl ?_
        refine r_get 36 hE 0 0 ok9 36 dX9_quote_33 rfl wd_1088 rfl rfl (by decide) rfl ?_
        refine r_aload_n 37 hE 0 dX9_quote_36 rfl rfl rfl ?_
        refine r_get 40 hE 0 0 ok9 37 dX9_quote_37 rfl wd_1089 rfl rfl (by decide) rfl ?_
        refine r_iload_n 41 hE 2 dX9_quote_40 rfl rfl rfl ?_
        refine r_iadd 42 hE (mto + i) dX9_quote_41 rfl rfl ?_
        refine r_aload_n 43 hE 0 dX9_quote_42 rfl rfl rfl ?_
        refine r_aload_n 44 hE 0 dX9_quote_43 rfl rfl rfl ?_
        refine r_get 47 hE 0 0 ok9 28 dX9_quote_44 rfl wd_1080 rfl rfl (by decide) rfl ?_
        refine r_iconst 48 hE dX9_quote_47 rfl ?_
        refine r_iadd 49 hE (mbg + 1) dX9_quote_48 rfl rfl ?_
        refine r_iload_n 50 hE 2 dX9_quote_49 rfl rfl rfl ?_
        refine r_iadd 51 hE ((mbg + 1) + i) dX9_quote_50 rfl rfl ?_
        refine r_callV 54 hE [0, 1] [2] [(wMo g mo mst mac mmk mr mrd mrm mcm mtp msz mtk mbg men mls mvl mft mfp mfk mdp mto), (wMTxt g mo tt)] [(wMPil g mo pl9)] 0 9 ok9 [.int (iI (mto + i)), .ref (mo 19)] (c_X9_byteAt (hB) (hn) (by omega)) dX9_quote_51 rfl rfl wd_1198 wd_1200 ws_50 wd_12 wd_1201 ne_X9 np_X9_byteAt (Nat.le_of_ble_eq_true rfl)  (by decide) (by decide) rfl (Nat.le_of_ble_eq_true rfl) rfl rfl rfl rfl (by decide) rfl (fun v1 f1 hp => ?_)
        obtain ⟨rfl, rfl⟩ := hp
        show G g E _ _ _ [(wMo g mo mst mac mmk mr mrd mrm mcm mtp msz mtk mbg men mls mvl mft mfp mfk mdp mto), (wMTxt g mo tt), (wMPil g mo pl9)] 54 [(0, .ref (mo 0)), (1, .int (iI (tkV tt msz k))), (2, .int (iI i))] [.int (iI (mbA tt msz ((mbg + 1) + i))), .int (iI (mto + i)), .ref (mo 19)]
        have hq1 := hq.2 i hi.1 (by omega)
        have hm9 : mbA tt msz (mbg + 1 + i) = tt (tkB tt msz k + 1 + i) := by rw [hRd.1.1]; exact (mbA_eq hB (by omega)).mpr ⟨hq1.2, rfl⟩
        refine r_bipush 56 hE dX9_quote_54 rfl (by decide) ?_
        refine r_isub 57 hE ((mbA tt msz ((mbg + 1) + i)) - 97) dX9_quote_56 rfl rfl ?_
        refine r_iast 58 hE 2 0 (wMPil g mo (up pl9 (mto + i) ((mbA tt msz ((mbg + 1) + i)) - 97))) [(wMo g mo mst mac mmk mr mrd mrm mcm mtp msz mtk mbg men mls mvl mft mfp mfk mdp mto), (wMTxt g mo tt), (wMPil g mo (up pl9 (mto + i) ((mbA tt msz ((mbg + 1) + i)) - 97)))] dX9_quote_57 rfl rfl rfl (by omega) rfl rfl ?_
        have g12 : ∀ q, 0 ≤ q → q < i + 1 → up pl9 (mto + i) (mbA tt msz (mbg + 1 + i) - 97) (mto + q) = tt (tkB tt msz k + 1 + q) - 97 := fun q a b => by
          by_cases z : q = i
          · rw [z, up_same, hm9]
          · rw [up_ne _ _ (by omega)]; exact g1 q a (by omega)
        have g22 : ∀ j, ¬ (mto ≤ j ∧ j < mto + (i + 1)) → up pl9 (mto + i) (mbA tt msz (mbg + 1 + i) - 97) j = pl j := fun j a => by rw [up_ne _ _ (by omega)]; exact g2 j (by omega)
        refine r_iinc 61 hE 2 (i + 1) [(2, .int (iI (i + 1))), (0, .ref (mo 0)), (1, .int (iI (tkV tt msz k)))] dX9_quote_58 rfl rfl rfl (by decide) rfl ?_
        refine r_goto 27 hE dX9_quote_61 (by decide) ?_
        refine G.to (fs' := [(wMo g mo mst mac mmk mr mrd mrm mcm mtp msz mtk mbg men mls mvl mft mfp mfk mdp mto), (wMTxt g mo tt), (wMPil g mo (up pl9 (mto + i) ((mbA tt msz ((mbg + 1) + i)) - 97)))]) (lv' := [(0, .ref (mo 0)), (1, .int (iI (tkV tt msz k))), (2, .int (iI (i + 1)))]) [0, 1, 2] [1, 2, 0] rfl rfl rfl ?_
        exact ih27 (i + 1) (up pl9 (mto + i) ((mbA tt msz ((mbg + 1) + i)) - 97)) (by omega) (by omega) (by first | exact g12 | exact (fun q a b => absurd b (by omega))) (by first | exact g22 | exact (fun _ _ => rfl)) (by omega)
  refine r_aload_n 1 hE 0 dX9_quote_0 rfl rfl rfl ?_
  refine r_get 4 hE 0 0 ok9 29 dX9_quote_1 rfl wd_1081 rfl rfl (by decide) rfl ?_
  refine r_aload_n 5 hE 0 dX9_quote_4 rfl rfl rfl ?_
  refine r_get 8 hE 0 0 ok9 28 dX9_quote_5 rfl wd_1080 rfl rfl (by decide) rfl ?_
  refine r_isub 9 hE (men - mbg) dX9_quote_8 rfl rfl ?_
  refine r_iconst 10 hE dX9_quote_9 rfl ?_
  refine r_isub 11 hE ((men - mbg) - 2) dX9_quote_10 rfl rfl ?_
  rw [show ((men - mbg) - 2 : Int) = tkV tt msz k from hV]
  refine r_istore_n 12 hE [(1, .int (iI (tkV tt msz k))), (0, .ref (mo 0))] dX9_quote_11 rfl rfl (by decide) rfl ?_
  refine r_iload_n 13 hE 0 dX9_quote_12 rfl rfl rfl ?_
  refine r_sipush 16 hE dX9_quote_13 rfl (by decide) ?_
  refine r_icmp_le 19 25 hE dX9_quote_16 rfl (by decide) (by omega) (fun c16 => ?_) (fun c16 => ?_)
  · skip
    refine r_iconst 26 hE dX9_quote_25 rfl ?_
    refine r_istore_n 27 hE [(2, .int (iI 0)), (1, .int (iI (tkV tt msz k))), (0, .ref (mo 0))] dX9_quote_26 rfl rfl (by decide) rfl ?_
    refine G.to (fs' := [(wMo g mo mst mac mmk mr mrd mrm mcm mtp msz mtk mbg men mls mvl mft mfp mfk mdp mto), (wMTxt g mo tt), (wMPil g mo pl)]) (lv' := [(0, .ref (mo 0)), (1, .int (iI (tkV tt msz k))), (2, .int (iI 0))]) [0, 1, 2] [2, 1, 0] rfl rfl rfl ?_
    exact cut27 _ 0 pl (by omega) (by omega) (by first | exact g12 | exact (fun q a b => absurd b (by omega))) (by first | exact g22 | exact (fun _ _ => rfl)) (Nat.lt_succ_self _)
  · skip
    refine r_aload_n 20 hE 1 dX9_quote_19 rfl rfl rfl ?_
    refine r_iconst 21 hE dX9_quote_20 rfl ?_
    refine r_callV 24 hE [0] [1, 2] [(wMo g mo mst mac mmk mr mrd mrm mcm mtp msz mtk mbg men mls mvl mft mfp mfk mdp mto)] [(wMTxt g mo tt), (wMPil g mo pl)] 0 9 ok9 [] (c_X9_fails (hf0) (by omega)) dX9_quote_21 rfl rfl wd_1228 wd_1230 ws_54 wd_12 wd_1231 ne_X9 np_X9_fails (Nat.le_of_ble_eq_true rfl)  (by decide) (by decide) rfl (Nat.le_of_ble_eq_true rfl) rfl rfl rfl rfl (by decide) rfl (fun v1 f1 hp => ?_)
    obtain ⟨rfl, rfl⟩ := hp
    show G g E _ _ _ [(wMo g mo mst mac mmk mr mrd mrm mcm mtp msz mtk mbg men mls mvl (if mtk = 1 then 1 else 5) mbg mfk mdp mto), (wMTxt g mo tt), (wMPil g mo pl)] 24 [(1, .int (iI (tkV tt msz k))), (0, .ref (mo 0))] [.int (iI 0)]
    refine r_zreturn hE hR [(wMo g mo mst mac mmk mr mrd mrm mcm mtp msz mtk mbg men mls mvl (if mtk = 1 then 1 else 5) mbg mfk mdp mto), (wMTxt g mo tt), (wMPil g mo pl)] dX9_quote_24 (Nat.le_of_ble_eq_true rfl) (Nat.le_of_ble_eq_true rfl) (Or.inl rfl) rfl ?_
    exact ⟨0, _, _, _, _, _, _, _, _, _, _, rfl, rfl, PrR.no (leaf_q1 hK (by show 600 < tkV tt msz k; omega)) (by rw [if_neg (by omega)]) hRd.P (by show (1 : Int) ≤ 5 ∧ (5 : Int) ≤ 9; decide), by omega⟩
set_option maxHeartbeats 4000000 in
set_option maxRecDepth 100000 in
theorem c_X9_sinks {g : Gm} {mo : Nat → Nat} {mst mac mmk mr mrd mrm mcm mtp msz mtk mbg men mls mvl mft mfp mfk mdp mto : Int} {tt : Int → Int} (hB : BR tt) (hn : 0 ≤ msz ∧ msz ≤ 900) (he : 0 ≤ men ∧ men ≤ msz) (hd : 0 ≤ mdp ∧ mdp < 6) : Ct g 3 0 0 yX9_sinks cX9_sinks 1 (some .boolean) [.ref (mo 0)] [(wMo g mo mst mac mmk mr mrd mrm mcm mtp msz mtk mbg men mls mvl mft mfp mfk mdp mto), (wMTxt g mo tt)] (fun v_ w_ => ∃ tk9 : Int, ∃ bg9 : Int, ∃ en9 : Int, ∃ vl9 : Int, v_ = some (.int (iI 1)) ∧ w_ = [(wMo g mo mst mac mmk mr mrd mrm mcm mtp msz tk9 bg9 en9 mbg vl9 mft mfp mfk (mdp + 1) mto), (wMTxt g mo tt)] ∧ (AhIs tt msz men tk9 bg9 en9 vl9)) := by
  refine Ct.of (by decide) (Nat.le_of_ble_eq_true rfl) (lv := [(0, .ref (mo 0))]) rfl ?_
  intro E hE hR hnm
  refine r_aload_n 1 hE 0 dX9_sinks_0 rfl rfl rfl ?_
  refine r_get 4 hE 0 0 ok9 35 dX9_sinks_1 rfl wd_1087 rfl rfl (by decide) rfl ?_
  refine r_bipush 6 hE dX9_sinks_4 rfl (by decide) ?_
  refine r_icmp_ne 9 16 hE dX9_sinks_6 rfl (by decide) (by omega) (fun c6 => ?_) (fun c6 => ?_)
  · skip
    refine r_aload_n 17 hE 0 dX9_sinks_16 rfl rfl rfl ?_
    refine r_dup 18 hE dX9_sinks_17 rfl rfl ?_
    refine r_get 21 hE 0 0 ok9 35 dX9_sinks_18 rfl wd_1087 rfl rfl (by decide) rfl ?_
    refine r_iconst 22 hE dX9_sinks_21 rfl ?_
    refine r_iadd 23 hE (mdp + 1) dX9_sinks_22 rfl rfl ?_
    refine r_put 26 hE 0 0 ok9 35 (wMo g mo mst mac mmk mr mrd mrm mcm mtp msz mtk mbg men mls mvl mft mfp mfk (mdp + 1) mto) [(wMo g mo mst mac mmk mr mrd mrm mcm mtp msz mtk mbg men mls mvl mft mfp mfk (mdp + 1) mto), (wMTxt g mo tt)] dX9_sinks_23 rfl wd_1087 rfl rfl (by decide) rfl rfl rfl (Nat.le_of_ble_eq_true rfl) rfl rfl ?_
    refine r_aload_n 27 hE 0 dX9_sinks_26 rfl rfl rfl ?_
    refine r_callV 30 hE [0, 1] [] [(wMo g mo mst mac mmk mr mrd mrm mcm mtp msz mtk mbg men mls mvl mft mfp mfk (mdp + 1) mto), (wMTxt g mo tt)] [] 0 9 ok9 [] (c_X9_takes (hB) (hn) (he)) dX9_sinks_27 rfl rfl wd_1249 wd_1251 ws_59 wd_12 wd_1252 ne_X9 np_X9_takes (Nat.le_of_ble_eq_true rfl)  (by decide) (by decide) rfl (Nat.le_of_ble_eq_true rfl) rfl rfl rfl rfl (by decide) rfl (fun v1 f1 hp => ?_)
    obtain ⟨tk9_27, bg9_27, en9_27, vl9_27, rfl, rfl, h27_0⟩ := hp
    show G g E _ _ _ [(wMo g mo mst mac mmk mr mrd mrm mcm mtp msz tk9_27 bg9_27 en9_27 mbg vl9_27 mft mfp mfk (mdp + 1) mto), (wMTxt g mo tt)] 30 [(0, .ref (mo 0))] [.int (iI 1)]
    refine r_zreturn hE hR [(wMo g mo mst mac mmk mr mrd mrm mcm mtp msz tk9_27 bg9_27 en9_27 mbg vl9_27 mft mfp mfk (mdp + 1) mto), (wMTxt g mo tt)] dX9_sinks_30 (Nat.le_of_ble_eq_true rfl) (Nat.le_of_ble_eq_true rfl) (Or.inr rfl) rfl ?_
    exact ⟨_, _, _, _, rfl, rfl, h27_0⟩
  · skip
    omega
set_option maxHeartbeats 4000000 in
set_option maxRecDepth 100000 in
theorem c_X9_sinks_no {g : Gm} {mo : Nat → Nat} {mst mac mmk mr mrd mrm mcm mtp msz mtk mbg men mls mvl mft mfp mfk mdp mto : Int} (hf0 : mft = 0) (htk : 0 ≤ mtk ∧ mtk ≤ 5) (hd : mdp = 6) : Ct g 3 0 0 yX9_sinks cX9_sinks 1 (some .boolean) [.ref (mo 0)] [(wMo g mo mst mac mmk mr mrd mrm mcm mtp msz mtk mbg men mls mvl mft mfp mfk mdp mto)] (fun v_ w_ => v_ = some (.int (iI 0)) ∧ w_ = [(wMo g mo mst mac mmk mr mrd mrm mcm mtp msz mtk mbg men mls mvl (if mtk = 1 then 1 else 6) mbg mfk mdp mto)]) := by
  refine Ct.of (by decide) (Nat.le_of_ble_eq_true rfl) (lv := [(0, .ref (mo 0))]) rfl ?_
  intro E hE hR hnm
  refine r_aload_n 1 hE 0 dX9_sinks_0 rfl rfl rfl ?_
  refine r_get 4 hE 0 0 ok9 35 dX9_sinks_1 rfl wd_1087 rfl rfl (by decide) rfl ?_
  refine r_bipush 6 hE dX9_sinks_4 rfl (by decide) ?_
  refine r_icmp_ne 9 16 hE dX9_sinks_6 rfl (by decide) (by omega) (fun c6 => ?_) (fun c6 => ?_)
  · skip
    omega
  · skip
    refine r_aload_n 10 hE 0 dX9_sinks_9 rfl rfl rfl ?_
    refine r_bipush 12 hE dX9_sinks_10 rfl (by decide) ?_
    refine r_callV 15 hE [0] [] [(wMo g mo mst mac mmk mr mrd mrm mcm mtp msz mtk mbg men mls mvl mft mfp mfk mdp mto)] [] 0 9 ok9 [] (c_X9_fails (hf0) (by omega)) dX9_sinks_12 rfl rfl wd_1228 wd_1230 ws_54 wd_12 wd_1231 ne_X9 np_X9_fails (Nat.le_of_ble_eq_true rfl)  (by decide) (by decide) rfl (Nat.le_of_ble_eq_true rfl) rfl rfl rfl rfl (by decide) rfl (fun v1 f1 hp => ?_)
    obtain ⟨rfl, rfl⟩ := hp
    show G g E _ _ _ [(wMo g mo mst mac mmk mr mrd mrm mcm mtp msz mtk mbg men mls mvl (if mtk = 1 then 1 else 6) mbg mfk mdp mto)] 15 [(0, .ref (mo 0))] [.int (iI 0)]
    refine r_zreturn hE hR [(wMo g mo mst mac mmk mr mrd mrm mcm mtp msz mtk mbg men mls mvl (if mtk = 1 then 1 else 6) mbg mfk mdp mto)] dX9_sinks_15 (Nat.le_of_ble_eq_true rfl) (Nat.le_of_ble_eq_true rfl) (Or.inl rfl) rfl ?_
    exact ⟨rfl, rfl⟩
set_option maxHeartbeats 4000000 in
set_option maxRecDepth 100000 in
theorem c_X9_rises {g : Gm} {mo : Nat → Nat} {mst mac mmk mr mrd mrm mcm mtp msz mtk mbg men mls mvl mft mfp mfk mdp mto : Int} : Ct g 0 0 0 yX9_rises cX9_rises 1 (some .boolean) [.ref (mo 0)] [(wMo g mo mst mac mmk mr mrd mrm mcm mtp msz mtk mbg men mls mvl mft mfp mfk mdp mto)] (fun v_ w_ => v_ = some (.int (iI 1)) ∧ w_ = [(wMo g mo mst mac mmk mr mrd mrm mcm mtp msz mtk mbg men mls mvl mft mfp mfk (mdp - 1) mto)]) := by
  refine Ct.of (by decide) (Nat.le_of_ble_eq_true rfl) (lv := [(0, .ref (mo 0))]) rfl ?_
  intro E hE hR hnm
  refine r_aload_n 1 hE 0 dX9_rises_0 rfl rfl rfl ?_
  refine r_dup 2 hE dX9_rises_1 rfl rfl ?_
  refine r_get 5 hE 0 0 ok9 35 dX9_rises_2 rfl wd_1087 rfl rfl (by decide) rfl ?_
  refine r_iconst 6 hE dX9_rises_5 rfl ?_
  refine r_isub 7 hE (mdp - 1) dX9_rises_6 rfl rfl ?_
  refine r_put 10 hE 0 0 ok9 35 (wMo g mo mst mac mmk mr mrd mrm mcm mtp msz mtk mbg men mls mvl mft mfp mfk (mdp - 1) mto) [(wMo g mo mst mac mmk mr mrd mrm mcm mtp msz mtk mbg men mls mvl mft mfp mfk (mdp - 1) mto)] dX9_rises_7 rfl wd_1087 rfl rfl (by decide) rfl rfl rfl (Nat.le_of_ble_eq_true rfl) rfl rfl ?_
  refine r_iconst 11 hE dX9_rises_10 rfl ?_
  refine r_zreturn hE hR [(wMo g mo mst mac mmk mr mrd mrm mcm mtp msz mtk mbg men mls mvl mft mfp mfk (mdp - 1) mto)] dX9_rises_11 (Nat.le_of_ble_eq_true rfl) (Nat.le_of_ble_eq_true rfl) (Or.inr rfl) rfl ?_
  exact ⟨rfl, rfl⟩
