set_option maxHeartbeats 4000000 in
set_option maxRecDepth 100000 in
theorem c_X9_load_no {g : Gm} {mo : Nat → Nat} {mst mac mmk mr mrd mrm mcm mtp msz mtk mbg men mls mvl mft mfp mfk mdp mto : Int} {v : Int} (hv : -2147483648 ≤ v ∧ v ≤ 2147483647) (htd : 0 ≤ mtp ∧ mtp ≤ 900) (hno : ¬ (0 ≤ v ∧ v ≤ mtp)) : Ct g 34 0 0 yX9_load cX9_load 3 (some .int) [.ref (mo 0), .int (iI v)] [(wMo g mo mst mac mmk mr mrd mrm mcm mtp msz mtk mbg men mls mvl mft mfp mfk mdp mto)] (fun v_ w_ => v_ = some (.int (iI (-1))) ∧ w_ = [(wMo g mo 1 mac mmk mr mrd mrm mcm mtp msz mtk mbg men mls mvl mft mfp mfk mdp mto)]) := by
  refine Ct.of (by decide) (Nat.le_of_ble_eq_true rfl) (lv := [(0, .ref (mo 0)), (1, .int (iI v))]) rfl ?_
  intro E hE hR hnm
  refine r_iload_n 1 hE 1 dX9_load_0 rfl rfl rfl ?_
  refine r_iconst 2 hE dX9_load_1 rfl ?_
  refine r_aload_n 3 hE 0 dX9_load_2 rfl rfl rfl ?_
  refine r_get 6 hE 0 0 ok9 25 dX9_load_3 rfl wd_1077 rfl rfl (by decide) rfl ?_
  refine r_callS 9 hE [] [0] [] [(wMo g mo mst mac mmk mr mrd mrm mcm mtp msz mtk mbg men mls mvl mft mfp mfk mdp mto)] [] (c_X9_isFrom (by omega) (by omega) (by omega)) dX9_load_6 rfl wd_1183 wd_1184 wd_12 wd_1185 ne_X9 np_X9_isFrom (Nat.le_of_ble_eq_true rfl)  (by decide) (by decide) rfl (Nat.le_of_ble_eq_true rfl) rfl rfl rfl rfl (by decide) (fun v1 f1 hp => ?_)
  obtain ⟨rfl, rfl⟩ := hp
  show G g E _ _ _ [(wMo g mo mst mac mmk mr mrd mrm mcm mtp msz mtk mbg men mls mvl mft mfp mfk mdp mto)] 9 [(0, .ref (mo 0)), (1, .int (iI v))] [.int (iI (bI (0 ≤ v ∧ v ≤ mtp)))]
  refine r_if_ne 12 18 hE dX9_load_9 rfl (by decide) (bI_rg _) (fun c9 => ?_) (fun c9 => ?_)
  · skip
    have c9 := bI1 c9
    exact absurd c9 hno
  · skip
    have c9 := bI0 c9
    refine r_aload_n 13 hE 0 dX9_load_12 rfl rfl rfl ?_
    refine r_iconst 14 hE dX9_load_13 rfl ?_
    refine r_callV 17 hE [0] [] [(wMo g mo mst mac mmk mr mrd mrm mcm mtp msz mtk mbg men mls mvl mft mfp mfk mdp mto)] [] 0 9 ok9 [] (c_X9_refuse) dX9_load_14 rfl rfl wd_1186 wd_1188 ws_47 wd_12 wd_1189 ne_X9 np_X9_refuse (Nat.le_of_ble_eq_true rfl)  (by decide) (by decide) rfl (Nat.le_of_ble_eq_true rfl) rfl rfl rfl rfl (by decide) rfl (fun v1 f1 hp => ?_)
    obtain ⟨rfl, rfl⟩ := hp
    show G g E _ _ _ [(wMo g mo 1 mac mmk mr mrd mrm mcm mtp msz mtk mbg men mls mvl mft mfp mfk mdp mto)] 17 [(0, .ref (mo 0)), (1, .int (iI v))] [.int (iI (-1))]
    refine r_ireturn hE hR [(wMo g mo 1 mac mmk mr mrd mrm mcm mtp msz mtk mbg men mls mvl mft mfp mfk mdp mto)] dX9_load_17 (Nat.le_of_ble_eq_true rfl) (Nat.le_of_ble_eq_true rfl) rfl ?_
    exact ⟨retI (rfl), rfl⟩
set_option maxHeartbeats 4000000 in
set_option maxRecDepth 100000 in
theorem c_X9_load_er {g : Gm} {mo : Nat → Nat} {mst mac mmk mr mrd mrm mcm mtp msz mtk mbg men mls mvl mft mfp mfk mdp mto : Int} {al : Int → Int} {kd on tw sg le de so : Int → Int} {R : Int → Rl} {ro : Int → Int} {nf : Int → Int} {pl tf tt : Int → Int} {v : Int} {e : Ft} (hM : MTx al) (hac : 0 ≤ mac ∧ mac ≤ 8) (hv : 0 ≤ v ∧ v ≤ mtp) (htd : 0 ≤ mtp ∧ mtp ≤ 900) (hTB : BR tf) (hTT : BR tt) (hbe : bookE (bkOf tf v) 901 [] 0 = .error e) : Ct g 34 0 0 yX9_load cX9_load 3 (some .int) [.ref (mo 0), .int (iI v)] [(wMo g mo mst mac mmk mr mrd mrm mcm mtp msz mtk mbg men mls mvl mft mfp mfk mdp mto), (wMTab g mo kd on tw sg le de so), (wMRow g mo ro), (wMAll g mo al), (wMNew g mo nf), (wMTap g mo tf), (wMTxt g mo tt), (wMPil g mo pl)] (fun v_ w_ => ∃ al9 : Int → Int, ∃ tk9 : Int, ∃ bg9 : Int, ∃ en9 : Int, ∃ ls9 : Int, ∃ vl9 : Int, ∃ ft9 : Int, ∃ fp9 : Int, ∃ dp9 : Int, ∃ to9 : Int, ∃ tt9 : Int → Int, ∃ pl9 : Int → Int, v_ = some (.int (iI (-1))) ∧ w_ = [(wMo g mo 9 mac mmk mr mrd mrm mcm 0 v tk9 bg9 en9 ls9 vl9 ft9 fp9 ft9 dp9 to9), (wMTab g mo kd on tw sg le de so), (wMRow g mo ro), (wMAll g mo al9), (wMNew g mo nf), (wMTap g mo tf), (wMTxt g mo tt9), (wMPil g mo pl9)] ∧ (BR tt9) ∧ (ft9 = e.1 ∧ fp9 = e.2 ∧ 1 ≤ ft9 ∧ ft9 ≤ 9) ∧ (∀ j, (0 ≤ j ∧ j < 4809) ∨ 9618 ≤ j → al9 j = al j)) := by
  refine Ct.of (by decide) (Nat.le_of_ble_eq_true rfl) (lv := [(0, .ref (mo 0)), (1, .int (iI v))]) rfl ?_
  intro E hE hR hnm
  have hc := hM.1
  obtain ⟨c, hc900, hcE⟩ : ∃ c : Nat, c ≤ 900 ∧ tkK tf v c = 0 := has_end tf (by omega)
  have cut89 : ∀ (N : Nat) (tk : Int) (bg : Int) (en : Int) (ls : Int) (vl : Int) (ft : Int) (fp : Int) (dp : Int) (to : Int) (tt9 : Int → Int) (pl9 : Int → Int) (al8 : Int → Int) (b : Int) (kk : Nat) (f : Nat), (BR tt9) → (∀ q, 0 ≤ q → q < v → tt9 q = tf q) → (∀ j, 0 ≤ j → j < 4809 → al8 (4809 + j) = al (0 + j)) → (∀ j, 9618 ≤ j → al8 j = al j) → (BkS tt9 v c kk f b tk bg en ls vl ft fp al8) → (kk ≤ c + 1) → ((c : Int) + 1 - (kk : Int)).toNat < N → G g E 3 0 0 [(wMo g mo mst mac mmk mr mrd mrm mcm 0 v tk bg en ls vl ft fp mfk dp to), (wMTab g mo kd on tw sg le de so), (wMRow g mo ro), (wMAll g mo al8), (wMNew g mo nf), (wMTap g mo tf), (wMTxt g mo tt9), (wMPil g mo pl9)] 89 [(0, .ref (mo 0)), (1, .int (iI v)), (2, .int (iI b))] [] := by
    intro N
    induction N with
    | zero => intro tk bg en ls vl ft fp dp to tt9 pl9 al8 b kk f _ _ _ _ _ _ hN; exact absurd hN (Nat.not_lt_zero _)
    | succ N ih89 =>
      intro tk bg en ls vl ft fp dp to tt9 pl9 al8 b kk f hBT g1 hs1 hs2 hst hkc hN
      have hEq := bkOf_E (B := tt9) (C := tf) (n := v) g1 hv.1
      have hbe9 : bookE (bkOf tt9 v) 901 [] 0 = .error e := by rw [bookE_E hEq]; exact hbe
      have hcE9 : tkK tt9 v c = 0 := by rw [(tk_cong g1 hv.1 c).1]; exact hcE
      have hb01 : b = 0 ∨ b = 1 := by rcases hst with z | z; exact Or.inr z.1; exact Or.inl z.1
      have htkr : 0 ≤ tk ∧ tk ≤ 5 ∨ b = 0 := by rcases hst with z | z; exact Or.inl z.2.2.2.1.tr; exact Or.inr z.1
      have hftr : -2147483648 ≤ ft ∧ ft ≤ 2147483647 := by rcases hst with z | z; (have h9 := z.2.1; omega); (obtain ⟨-, e9, z1, z2, z3, z4⟩ := z; omega)
      refine r_iload_n 90 hE 2 dX9_load_89 rfl rfl rfl ?_
      refine r_if_eq 93 108 hE dX9_load_90 rfl (by decide) (by omega) (fun c90 => ?_) (fun c90 => ?_)
      · skip
        have hfo : ft = 0 → fp = -1 ∧ MTx al8 ∧ bookE (bkOf tt9 v) 901 [] 0 = .ok (tsF (mF al8) (mN al8) (al8 0)) := fun q => by rcases hst with z | z; omega; (obtain ⟨-, e9, z1, z2, z3, z4⟩ := z; omega)
        refine r_aload_n 109 hE 0 dX9_load_108 rfl rfl rfl ?_
        refine r_aload_n 110 hE 0 dX9_load_109 rfl rfl rfl ?_
        refine r_get 113 hE 0 0 ok9 32 dX9_load_110 rfl wd_1084 rfl rfl (by decide) rfl ?_
        refine r_put 116 hE 0 0 ok9 34 (wMo g mo mst mac mmk mr mrd mrm mcm 0 v tk bg en ls vl ft fp ft dp to) [(wMo g mo mst mac mmk mr mrd mrm mcm 0 v tk bg en ls vl ft fp ft dp to), (wMTab g mo kd on tw sg le de so), (wMRow g mo ro), (wMAll g mo al8), (wMNew g mo nf), (wMTap g mo tf), (wMTxt g mo tt9), (wMPil g mo pl9)] dX9_load_113 rfl wd_1086 rfl rfl (by decide) rfl rfl rfl (Nat.le_of_ble_eq_true rfl) rfl rfl ?_
        refine r_aload_n 117 hE 0 dX9_load_116 rfl rfl rfl ?_
        refine r_get 120 hE 0 0 ok9 32 dX9_load_117 rfl wd_1084 rfl rfl (by decide) rfl ?_
        refine r_if_le 123 138 hE dX9_load_120 rfl (by decide) (hftr) (fun c120 => ?_) (fun c120 => ?_)
        · skip
          (rcases hst with z | z; (have h9 := hfo z.2.1; rw [hbe9] at h9; cases h9.2.2); (obtain ⟨-, e9, z1, z2, z3, z4⟩ := z; omega))
        · skip
          refine r_aload_n 124 hE 0 dX9_load_123 rfl rfl rfl ?_
          refine r_sipush 127 hE dX9_load_124 rfl (by decide) ?_
          refine r_iconst 128 hE dX9_load_127 rfl ?_
          refine r_callV 131 hE [0, 3] [1, 2, 4, 5, 6, 7] [(wMo g mo mst mac mmk mr mrd mrm mcm 0 v tk bg en ls vl ft fp ft dp to), (wMAll g mo al8)] [(wMTab g mo kd on tw sg le de so), (wMRow g mo ro), (wMNew g mo nf), (wMTap g mo tf), (wMTxt g mo tt9), (wMPil g mo pl9)] 0 9 ok9 [] (c_X9_copies (by omega) (by omega) (by omega)) dX9_load_128 rfl rfl wd_1190 wd_1192 ws_48 wd_12 wd_1193 ne_X9 np_X9_copies (Nat.le_of_ble_eq_true rfl)  (by decide) (by decide) rfl (Nat.le_of_ble_eq_true rfl) rfl rfl rfl rfl (by decide) rfl (fun v1 f1 hp => ?_)
          obtain ⟨al9_128, rfl, rfl, h128_0, h128_1⟩ := hp
          show G g E _ _ _ [(wMo g mo mst mac mmk mr mrd mrm mcm 0 v tk bg en ls vl ft fp ft dp to), (wMAll g mo al9_128), (wMTab g mo kd on tw sg le de so), (wMRow g mo ro), (wMNew g mo nf), (wMTap g mo tf), (wMTxt g mo tt9), (wMPil g mo pl9)] 131 [(0, .ref (mo 0)), (1, .int (iI v)), (2, .int (iI b))] []
          refine r_aload_n 132 hE 0 dX9_load_131 rfl rfl rfl ?_
          refine r_bipush 134 hE dX9_load_132 rfl (by decide) ?_
          refine r_callV 137 hE [0] [1, 2, 3, 4, 5, 6, 7] [(wMo g mo mst mac mmk mr mrd mrm mcm 0 v tk bg en ls vl ft fp ft dp to)] [(wMAll g mo al9_128), (wMTab g mo kd on tw sg le de so), (wMRow g mo ro), (wMNew g mo nf), (wMTap g mo tf), (wMTxt g mo tt9), (wMPil g mo pl9)] 0 9 ok9 [] (c_X9_refuse) dX9_load_134 rfl rfl wd_1186 wd_1188 ws_47 wd_12 wd_1189 ne_X9 np_X9_refuse (Nat.le_of_ble_eq_true rfl)  (by decide) (by decide) rfl (Nat.le_of_ble_eq_true rfl) rfl rfl rfl rfl (by decide) rfl (fun v1 f1 hp => ?_)
          obtain ⟨rfl, rfl⟩ := hp
          show G g E _ _ _ [(wMo g mo 9 mac mmk mr mrd mrm mcm 0 v tk bg en ls vl ft fp ft dp to), (wMAll g mo al9_128), (wMTab g mo kd on tw sg le de so), (wMRow g mo ro), (wMNew g mo nf), (wMTap g mo tf), (wMTxt g mo tt9), (wMPil g mo pl9)] 137 [(0, .ref (mo 0)), (1, .int (iI v)), (2, .int (iI b))] [.int (iI (-1))]
          refine G.to (fs' := [(wMo g mo 9 mac mmk mr mrd mrm mcm 0 v tk bg en ls vl ft fp ft dp to), (wMTab g mo kd on tw sg le de so), (wMRow g mo ro), (wMAll g mo al9_128), (wMNew g mo nf), (wMTap g mo tf), (wMTxt g mo tt9), (wMPil g mo pl9)]) [0, 2, 3, 1, 4, 5, 6, 7] [0, 1, 2] rfl rfl rfl ?_
          refine r_ireturn hE hR [(wMo g mo 9 mac mmk mr mrd mrm mcm 0 v tk bg en ls vl ft fp ft dp to), (wMTab g mo kd on tw sg le de so), (wMRow g mo ro), (wMAll g mo al9_128), (wMNew g mo nf), (wMTap g mo tf), (wMTxt g mo tt9), (wMPil g mo pl9)] dX9_load_137 (Nat.le_of_ble_eq_true rfl) (Nat.le_of_ble_eq_true rfl) rfl ?_
          rcases hst with z | z
          · exfalso; omega
          · obtain ⟨-, e9, z1, z2, z3, z4⟩ := z
            have z5 : e9 = e := by rw [z1] at hbe9; injection hbe9
            subst z5
            refine ⟨_, _, _, _, _, _, _, _, _, _, tt9, _, rfl, rfl, hBT, ⟨z2, z3, by omega, by omega⟩, fun j a => ?_⟩
            rcases a with a | a
            · have h9 := h128_0 j a.1 a.2
              rw [Int.zero_add] at h9
              rw [h9, hs1 j a.1 a.2, Int.zero_add]
            · rw [h128_1 _ (by omega), hs2 _ a]
      · skip
        refine r_aload_n 94 hE 0 dX9_load_93 rfl rfl rfl ?_
        refine r_get 97 hE 0 0 ok9 27 dX9_load_94 rfl wd_1079 rfl rfl (by decide) rfl ?_
        refine r_if_eq 100 108 hE dX9_load_97 rfl (by decide) (by omega) (fun c97 => ?_) (fun c97 => ?_)
        · skip
          have hfo : ft = 0 → fp = -1 ∧ MTx al8 ∧ bookE (bkOf tt9 v) 901 [] 0 = .ok (tsF (mF al8) (mN al8) (al8 0)) := fun q => by
            rcases hst with z | z
            · exact ⟨z.2.2.1, z.2.2.2.2.1, z.2.2.2.2.2.2.2.trans (book_end (by omega) (z.2.2.2.1.i0.mp c97))⟩
            · omega
          refine r_aload_n 109 hE 0 dX9_load_108 rfl rfl rfl ?_
          refine r_aload_n 110 hE 0 dX9_load_109 rfl rfl rfl ?_
          refine r_get 113 hE 0 0 ok9 32 dX9_load_110 rfl wd_1084 rfl rfl (by decide) rfl ?_
          refine r_put 116 hE 0 0 ok9 34 (wMo g mo mst mac mmk mr mrd mrm mcm 0 v tk bg en ls vl ft fp ft dp to) [(wMo g mo mst mac mmk mr mrd mrm mcm 0 v tk bg en ls vl ft fp ft dp to), (wMTab g mo kd on tw sg le de so), (wMRow g mo ro), (wMAll g mo al8), (wMNew g mo nf), (wMTap g mo tf), (wMTxt g mo tt9), (wMPil g mo pl9)] dX9_load_113 rfl wd_1086 rfl rfl (by decide) rfl rfl rfl (Nat.le_of_ble_eq_true rfl) rfl rfl ?_
          refine r_aload_n 117 hE 0 dX9_load_116 rfl rfl rfl ?_
          refine r_get 120 hE 0 0 ok9 32 dX9_load_117 rfl wd_1084 rfl rfl (by decide) rfl ?_
          refine r_if_le 123 138 hE dX9_load_120 rfl (by decide) (hftr) (fun c120 => ?_) (fun c120 => ?_)
          · skip
            (rcases hst with z | z; (have h9 := hfo z.2.1; rw [hbe9] at h9; cases h9.2.2); (obtain ⟨-, e9, z1, z2, z3, z4⟩ := z; omega))
          · skip
            refine r_aload_n 124 hE 0 dX9_load_123 rfl rfl rfl ?_
            refine r_sipush 127 hE dX9_load_124 rfl (by decide) ?_
            refine r_iconst 128 hE dX9_load_127 rfl ?_
            refine r_callV 131 hE [0, 3] [1, 2, 4, 5, 6, 7] [(wMo g mo mst mac mmk mr mrd mrm mcm 0 v tk bg en ls vl ft fp ft dp to), (wMAll g mo al8)] [(wMTab g mo kd on tw sg le de so), (wMRow g mo ro), (wMNew g mo nf), (wMTap g mo tf), (wMTxt g mo tt9), (wMPil g mo pl9)] 0 9 ok9 [] (c_X9_copies (by omega) (by omega) (by omega)) dX9_load_128 rfl rfl wd_1190 wd_1192 ws_48 wd_12 wd_1193 ne_X9 np_X9_copies (Nat.le_of_ble_eq_true rfl)  (by decide) (by decide) rfl (Nat.le_of_ble_eq_true rfl) rfl rfl rfl rfl (by decide) rfl (fun v1 f1 hp => ?_)
            obtain ⟨al9_128, rfl, rfl, h128_0, h128_1⟩ := hp
            show G g E _ _ _ [(wMo g mo mst mac mmk mr mrd mrm mcm 0 v tk bg en ls vl ft fp ft dp to), (wMAll g mo al9_128), (wMTab g mo kd on tw sg le de so), (wMRow g mo ro), (wMNew g mo nf), (wMTap g mo tf), (wMTxt g mo tt9), (wMPil g mo pl9)] 131 [(0, .ref (mo 0)), (1, .int (iI v)), (2, .int (iI b))] []
            refine r_aload_n 132 hE 0 dX9_load_131 rfl rfl rfl ?_
            refine r_bipush 134 hE dX9_load_132 rfl (by decide) ?_
            refine r_callV 137 hE [0] [1, 2, 3, 4, 5, 6, 7] [(wMo g mo mst mac mmk mr mrd mrm mcm 0 v tk bg en ls vl ft fp ft dp to)] [(wMAll g mo al9_128), (wMTab g mo kd on tw sg le de so), (wMRow g mo ro), (wMNew g mo nf), (wMTap g mo tf), (wMTxt g mo tt9), (wMPil g mo pl9)] 0 9 ok9 [] (c_X9_refuse) dX9_load_134 rfl rfl wd_1186 wd_1188 ws_47 wd_12 wd_1189 ne_X9 np_X9_refuse (Nat.le_of_ble_eq_true rfl)  (by decide) (by decide) rfl (Nat.le_of_ble_eq_true rfl) rfl rfl rfl rfl (by decide) rfl (fun v1 f1 hp => ?_)
            obtain ⟨rfl, rfl⟩ := hp
            show G g E _ _ _ [(wMo g mo 9 mac mmk mr mrd mrm mcm 0 v tk bg en ls vl ft fp ft dp to), (wMAll g mo al9_128), (wMTab g mo kd on tw sg le de so), (wMRow g mo ro), (wMNew g mo nf), (wMTap g mo tf), (wMTxt g mo tt9), (wMPil g mo pl9)] 137 [(0, .ref (mo 0)), (1, .int (iI v)), (2, .int (iI b))] [.int (iI (-1))]
            refine G.to (fs' := [(wMo g mo 9 mac mmk mr mrd mrm mcm 0 v tk bg en ls vl ft fp ft dp to), (wMTab g mo kd on tw sg le de so), (wMRow g mo ro), (wMAll g mo al9_128), (wMNew g mo nf), (wMTap g mo tf), (wMTxt g mo tt9), (wMPil g mo pl9)]) [0, 2, 3, 1, 4, 5, 6, 7] [0, 1, 2] rfl rfl rfl ?_
            refine r_ireturn hE hR [(wMo g mo 9 mac mmk mr mrd mrm mcm 0 v tk bg en ls vl ft fp ft dp to), (wMTab g mo kd on tw sg le de so), (wMRow g mo ro), (wMAll g mo al9_128), (wMNew g mo nf), (wMTap g mo tf), (wMTxt g mo tt9), (wMPil g mo pl9)] dX9_load_137 (Nat.le_of_ble_eq_true rfl) (Nat.le_of_ble_eq_true rfl) rfl ?_
            rcases hst with z | z
            · exfalso; omega
            · obtain ⟨-, e9, z1, z2, z3, z4⟩ := z
              have z5 : e9 = e := by rw [z1] at hbe9; injection hbe9
              subst z5
              refine ⟨_, _, _, _, _, _, _, _, _, _, tt9, _, rfl, rfl, hBT, ⟨z2, z3, by omega, by omega⟩, fun j a => ?_⟩
              rcases a with a | a
              · have h9 := h128_0 j a.1 a.2
                rw [Int.zero_add] at h9
                rw [h9, hs1 j a.1 a.2, Int.zero_add]
              · rw [h128_1 _ (by omega), hs2 _ a]
        · skip
          have hst1 : b = 1 ∧ ft = 0 ∧ fp = -1 ∧ RdAt tt9 v kk tk bg en ls vl ∧ MTx al8 ∧ kk ≤ c ∧ c + 1 ≤ kk + f ∧ bookE (bkOf tt9 v) 901 [] 0 = bookE (bkOf tt9 v) f (tsF (mF al8) (mN al8) (al8 0)) kk := by rcases hst with z | z; exact z; omega
          refine r_aload_n 101 hE 0 dX9_load_100 rfl rfl rfl ?_
          refine r_callV 104 hE [0, 3, 6, 7] [1, 2, 4, 5] [(wMo g mo mst mac mmk mr mrd mrm mcm 0 v tk bg en ls vl ft fp mfk dp to), (wMAll g mo al8), (wMTxt g mo tt9), (wMPil g mo pl9)] [(wMTab g mo kd on tw sg le de so), (wMRow g mo ro), (wMNew g mo nf), (wMTap g mo tf)] 0 9 ok9 [] (c_X9_aLine (hBT) (by omega) (hst1.2.2.2.2.1) (bkG_m hst1.2.2.2.2.1 hc900 hcE9) (hst1.2.2.2.2.2.1) (hst1.2.2.2.1) (hst1.2.1)) dX9_load_101 rfl rfl wd_1213 wd_1215 ws_51 wd_12 wd_1216 ne_X9 np_X9_aLine (Nat.le_of_ble_eq_true rfl)  (by decide) (by decide) rfl (Nat.le_of_ble_eq_true rfl) rfl rfl rfl rfl (by decide) rfl (fun v1 f1 hp => ?_)
          obtain ⟨r9_101, tk9_101, bg9_101, en9_101, ls9_101, vl9_101, ft9_101, fp9_101, dp9_101, to9_101, pl9_101, al9_101, rfl, rfl, h101_0, h101_1, h101_2⟩ := hp
          show G g E _ _ _ [(wMo g mo mst mac mmk mr mrd mrm mcm 0 v tk9_101 bg9_101 en9_101 ls9_101 vl9_101 ft9_101 fp9_101 mfk dp9_101 to9_101), (wMAll g mo al9_101), (wMTxt g mo tt9), (wMPil g mo pl9_101), (wMTab g mo kd on tw sg le de so), (wMRow g mo ro), (wMNew g mo nf), (wMTap g mo tf)] 104 [(0, .ref (mo 0)), (1, .int (iI v)), (2, .int (iI b))] [.int (iI r9_101)]
          obtain ⟨k8, f8, hst2, hk8, hk9⟩ := hst.step (by omega) c97 h101_0
          have hs12 : ∀ j, 0 ≤ j → j < 4809 → al9_101 (4809 + j) = al (0 + j) := fun j x y => by rw [h101_1 _ (by omega)]; exact hs1 j x y
          have hs22 : ∀ j, 9618 ≤ j → al9_101 j = al j := fun j x => by rw [h101_1 _ (by omega)]; exact hs2 j x
          refine r_istore_n 105 hE [(2, .int (iI r9_101)), (0, .ref (mo 0)), (1, .int (iI v))] dX9_load_104 rfl rfl (by decide) rfl ?_
          refine r_goto 89 hE dX9_load_105 (by decide) ?_
          refine G.to (fs' := [(wMo g mo mst mac mmk mr mrd mrm mcm 0 v tk9_101 bg9_101 en9_101 ls9_101 vl9_101 ft9_101 fp9_101 mfk dp9_101 to9_101), (wMTab g mo kd on tw sg le de so), (wMRow g mo ro), (wMAll g mo al9_101), (wMNew g mo nf), (wMTap g mo tf), (wMTxt g mo tt9), (wMPil g mo pl9_101)]) (lv' := [(0, .ref (mo 0)), (1, .int (iI v)), (2, .int (iI r9_101))]) [0, 4, 5, 1, 6, 7, 2, 3] [1, 2, 0] rfl rfl rfl ?_
          exact ih89 tk9_101 bg9_101 en9_101 ls9_101 vl9_101 ft9_101 fp9_101 dp9_101 to9_101 tt9 pl9_101 al9_101 r9_101 k8 f8 (by first | exact hBT) (by first | exact g1 | exact (fun q x y => g1 q x (by omega))) (by first | exact hs12 | exact (fun j x y => by rw [up_ne _ _ (by omega)]; exact h73_0 j x y)) (by first | exact hs22 | exact (fun j x => by rw [up_ne _ _ (by omega)]; exact h73_1 j (by omega))) (by first | exact hst2 | exact hst0) (by omega) (by omega)
  have cut25 : ∀ (N : Nat) (i : Int) (tt9 : Int → Int), (0 ≤ i ∧ i ≤ v) → (BR tt9) → (∀ q, 0 ≤ q → q < i → tt9 q = tf q) → (v - i).toNat < N → G g E 3 0 0 [(wMo g mo mst mac mmk mr mrd mrm mcm mtp v mtk mbg men mls mvl mft mfp mfk mdp mto), (wMTab g mo kd on tw sg le de so), (wMRow g mo ro), (wMAll g mo al), (wMNew g mo nf), (wMTap g mo tf), (wMTxt g mo tt9), (wMPil g mo pl)] 25 [(0, .ref (mo 0)), (1, .int (iI v)), (2, .int (iI i))] [] := by
    intro N
    induction N with
    | zero => intro i tt9 _ _ _ hN; exact absurd hN (Nat.not_lt_zero _)
    | succ N ih25 =>
      intro i tt9 hi hBT g1 hN
      refine r_iload_n 26 hE 2 dX9_load_25 rfl rfl rfl ?_
      refine r_iload_n 27 hE 1 dX9_load_26 rfl rfl rfl ?_
      refine r_icmp_ge 30 48 hE dX9_load_27 rfl (by decide) (by omega) (fun c27 => ?_) (fun c27 => ?_)
      · skip
        refine r_aload_n 49 hE 0 dX9_load_48 rfl rfl rfl ?_
        refine r_iconst 50 hE dX9_load_49 rfl ?_
        refine r_put 53 hE 0 0 ok9 25 (wMo g mo mst mac mmk mr mrd mrm mcm 0 v mtk mbg men mls mvl mft mfp mfk mdp mto) [(wMo g mo mst mac mmk mr mrd mrm mcm 0 v mtk mbg men mls mvl mft mfp mfk mdp mto), (wMTab g mo kd on tw sg le de so), (wMRow g mo ro), (wMAll g mo al), (wMNew g mo nf), (wMTap g mo tf), (wMTxt g mo tt9), (wMPil g mo pl)] dX9_load_50 rfl wd_1077 rfl rfl (by decide) rfl rfl rfl (Nat.le_of_ble_eq_true rfl) rfl rfl ?_
        refine r_aload_n 54 hE 0 dX9_load_53 rfl rfl rfl ?_
        refine r_iconst 55 hE dX9_load_54 rfl ?_
        refine r_put 58 hE 0 0 ok9 32 (wMo g mo mst mac mmk mr mrd mrm mcm 0 v mtk mbg men mls mvl 0 mfp mfk mdp mto) [(wMo g mo mst mac mmk mr mrd mrm mcm 0 v mtk mbg men mls mvl 0 mfp mfk mdp mto), (wMTab g mo kd on tw sg le de so), (wMRow g mo ro), (wMAll g mo al), (wMNew g mo nf), (wMTap g mo tf), (wMTxt g mo tt9), (wMPil g mo pl)] dX9_load_55 rfl wd_1084 rfl rfl (by decide) rfl rfl rfl (Nat.le_of_ble_eq_true rfl) rfl rfl ?_
        refine r_aload_n 59 hE 0 dX9_load_58 rfl rfl rfl ?_
        refine r_iconst 60 hE dX9_load_59 rfl ?_
        refine r_put 63 hE 0 0 ok9 33 (wMo g mo mst mac mmk mr mrd mrm mcm 0 v mtk mbg men mls mvl 0 (-1) mfk mdp mto) [(wMo g mo mst mac mmk mr mrd mrm mcm 0 v mtk mbg men mls mvl 0 (-1) mfk mdp mto), (wMTab g mo kd on tw sg le de so), (wMRow g mo ro), (wMAll g mo al), (wMNew g mo nf), (wMTap g mo tf), (wMTxt g mo tt9), (wMPil g mo pl)] dX9_load_60 rfl wd_1085 rfl rfl (by decide) rfl rfl rfl (Nat.le_of_ble_eq_true rfl) rfl rfl ?_
        refine r_aload_n 64 hE 0 dX9_load_63 rfl rfl rfl ?_
        refine r_iconst 65 hE dX9_load_64 rfl ?_
        refine r_put 68 hE 0 0 ok9 29 (wMo g mo mst mac mmk mr mrd mrm mcm 0 v mtk mbg 0 mls mvl 0 (-1) mfk mdp mto) [(wMo g mo mst mac mmk mr mrd mrm mcm 0 v mtk mbg 0 mls mvl 0 (-1) mfk mdp mto), (wMTab g mo kd on tw sg le de so), (wMRow g mo ro), (wMAll g mo al), (wMNew g mo nf), (wMTap g mo tf), (wMTxt g mo tt9), (wMPil g mo pl)] dX9_load_65 rfl wd_1081 rfl rfl (by decide) rfl rfl rfl (Nat.le_of_ble_eq_true rfl) rfl rfl ?_
        refine r_aload_n 69 hE 0 dX9_load_68 rfl rfl rfl ?_
        refine r_iconst 70 hE dX9_load_69 rfl ?_
        refine r_sipush 73 hE dX9_load_70 rfl (by decide) ?_
        refine r_callV 76 hE [0, 3] [1, 2, 4, 5, 6, 7] [(wMo g mo mst mac mmk mr mrd mrm mcm 0 v mtk mbg 0 mls mvl 0 (-1) mfk mdp mto), (wMAll g mo al)] [(wMTab g mo kd on tw sg le de so), (wMRow g mo ro), (wMNew g mo nf), (wMTap g mo tf), (wMTxt g mo tt9), (wMPil g mo pl)] 0 9 ok9 [] (c_X9_copies (by omega) (by omega) (by omega)) dX9_load_73 rfl rfl wd_1190 wd_1192 ws_48 wd_12 wd_1193 ne_X9 np_X9_copies (Nat.le_of_ble_eq_true rfl)  (by decide) (by decide) rfl (Nat.le_of_ble_eq_true rfl) rfl rfl rfl rfl (by decide) rfl (fun v1 f1 hp => ?_)
        obtain ⟨al9_73, rfl, rfl, h73_0, h73_1⟩ := hp
        show G g E _ _ _ [(wMo g mo mst mac mmk mr mrd mrm mcm 0 v mtk mbg 0 mls mvl 0 (-1) mfk mdp mto), (wMAll g mo al9_73), (wMTab g mo kd on tw sg le de so), (wMRow g mo ro), (wMNew g mo nf), (wMTap g mo tf), (wMTxt g mo tt9), (wMPil g mo pl)] 76 [(0, .ref (mo 0)), (1, .int (iI v)), (2, .int (iI i))] []
        refine r_aload_n 77 hE 0 dX9_load_76 rfl rfl rfl ?_
        refine r_get 80 hE 0 0 ok9 0 dX9_load_77 rfl wd_1052 rfl rfl (by decide) rfl ?_
        refine r_iconst 81 hE dX9_load_80 rfl ?_
        refine r_iconst 82 hE dX9_load_81 rfl ?_
        refine r_iast 83 hE 1 0 (wMAll g mo (up al9_73 0 0)) [(wMo g mo mst mac mmk mr mrd mrm mcm 0 v mtk mbg 0 mls mvl 0 (-1) mfk mdp mto), (wMAll g mo (up al9_73 0 0)), (wMTab g mo kd on tw sg le de so), (wMRow g mo ro), (wMNew g mo nf), (wMTap g mo tf), (wMTxt g mo tt9), (wMPil g mo pl)] dX9_load_82 rfl rfl rfl (by omega) rfl rfl ?_
        refine r_aload_n 84 hE 0 dX9_load_83 rfl rfl rfl ?_
        refine r_callV 87 hE [0, 6] [1, 2, 3, 4, 5, 7] [(wMo g mo mst mac mmk mr mrd mrm mcm 0 v mtk mbg 0 mls mvl 0 (-1) mfk mdp mto), (wMTxt g mo tt9)] [(wMAll g mo (up al9_73 0 0)), (wMTab g mo kd on tw sg le de so), (wMRow g mo ro), (wMNew g mo nf), (wMTap g mo tf), (wMPil g mo pl)] 0 9 ok9 [] (c_X9_ahead (hBT) (by omega) (by omega)) dX9_load_84 rfl rfl wd_1194 wd_1196 ws_49 wd_12 wd_1197 ne_X9 np_X9_ahead (Nat.le_of_ble_eq_true rfl)  (by decide) (by decide) rfl (Nat.le_of_ble_eq_true rfl) rfl rfl rfl rfl (by decide) rfl (fun v1 f1 hp => ?_)
        obtain ⟨tk9_84, bg9_84, en9_84, vl9_84, rfl, rfl, h84_0⟩ := hp
        show G g E _ _ _ [(wMo g mo mst mac mmk mr mrd mrm mcm 0 v tk9_84 bg9_84 en9_84 mbg vl9_84 0 (-1) mfk mdp mto), (wMTxt g mo tt9), (wMAll g mo (up al9_73 0 0)), (wMTab g mo kd on tw sg le de so), (wMRow g mo ro), (wMNew g mo nf), (wMTap g mo tf), (wMPil g mo pl)] 87 [(0, .ref (mo 0)), (1, .int (iI v)), (2, .int (iI i))] []
        have hi9 : i = v := by omega
        have hrd0 := AhIs.first (ls := mbg) hv.1 h84_0
        have hM0 : MTx (up al9_73 0 0) := ⟨by rw [up_same]; omega, fun t x y => by rw [up_same] at y; omega⟩
        have hst0 : BkS tt9 v c 0 901 1 tk9_84 bg9_84 en9_84 mbg vl9_84 0 (-1) (up al9_73 0 0) := Or.inl ⟨rfl, rfl, rfl, hrd0, hM0, by omega, by omega, by rw [up_same]; rfl⟩
        refine r_iconst 88 hE dX9_load_87 rfl ?_
        refine r_istore_n 89 hE [(2, .int (iI 1)), (0, .ref (mo 0)), (1, .int (iI v))] dX9_load_88 rfl rfl (by decide) rfl ?_
        refine G.to (fs' := [(wMo g mo mst mac mmk mr mrd mrm mcm 0 v tk9_84 bg9_84 en9_84 mbg vl9_84 0 (-1) mfk mdp mto), (wMTab g mo kd on tw sg le de so), (wMRow g mo ro), (wMAll g mo (up al9_73 0 0)), (wMNew g mo nf), (wMTap g mo tf), (wMTxt g mo tt9), (wMPil g mo pl)]) (lv' := [(0, .ref (mo 0)), (1, .int (iI v)), (2, .int (iI 1))]) [0, 3, 4, 2, 5, 6, 1, 7] [1, 2, 0] rfl rfl rfl ?_
        exact cut89 _ tk9_84 bg9_84 en9_84 mbg vl9_84 0 (-1) mdp mto tt9 pl (up al9_73 0 0) 1 0 901 (by first | exact hBT) (by first | exact g1 | exact (fun q x y => g1 q x (by omega))) (by first | exact hs12 | exact (fun j x y => by rw [up_ne _ _ (by omega)]; exact h73_0 j x y)) (by first | exact hs22 | exact (fun j x => by rw [up_ne _ _ (by omega)]; exact h73_1 j (by omega))) (by first | exact hst2 | exact hst0) (by omega) (Nat.lt_succ_self _)
      · skip
        refine r_aload_n 31 hE 0 dX9_load_30 rfl rfl rfl ?_
        refine r_get 34 hE 0 0 ok9 24 dX9_load_31 rfl wd_1076 rfl rfl (by decide) rfl ?_
        refine r_iload_n 35 hE 2 dX9_load_34 rfl rfl rfl ?_
        refine r_aload_n 36 hE 0 dX9_load_35 rfl rfl rfl ?_
        refine r_get 39 hE 0 0 ok9 23 dX9_load_36 rfl wd_1075 rfl rfl (by decide) rfl ?_
        refine r_iload_n 40 hE 2 dX9_load_39 rfl rfl rfl ?_
        refine r_bald 41 hE 5 0 dX9_load_40 rfl rfl rfl (by omega) ?_
        refine r_bast 42 hE 6 0 (wMTxt g mo (up tt9 i (tf i))) [(wMo g mo mst mac mmk mr mrd mrm mcm mtp v mtk mbg men mls mvl mft mfp mfk mdp mto), (wMTab g mo kd on tw sg le de so), (wMRow g mo ro), (wMAll g mo al), (wMNew g mo nf), (wMTap g mo tf), (wMTxt g mo (up tt9 i (tf i))), (wMPil g mo pl)] dX9_load_41 rfl rfl rfl (by omega) (hTB i) rfl rfl ?_
        refine r_iinc 45 hE 2 (i + 1) [(2, .int (iI (i + 1))), (0, .ref (mo 0)), (1, .int (iI v))] dX9_load_42 rfl rfl rfl (by decide) rfl ?_
        refine r_goto 25 hE dX9_load_45 (by decide) ?_
        refine G.to (fs' := [(wMo g mo mst mac mmk mr mrd mrm mcm mtp v mtk mbg men mls mvl mft mfp mfk mdp mto), (wMTab g mo kd on tw sg le de so), (wMRow g mo ro), (wMAll g mo al), (wMNew g mo nf), (wMTap g mo tf), (wMTxt g mo (up tt9 i (tf i))), (wMPil g mo pl)]) (lv' := [(0, .ref (mo 0)), (1, .int (iI v)), (2, .int (iI (i + 1)))]) [0, 1, 2, 3, 4, 5, 6, 7] [1, 2, 0] rfl rfl rfl ?_
        exact ih25 (i + 1) (up tt9 i (tf i)) (by omega) (by first | exact BR_up hBT _ (hTB i) | exact hTT) (by first | exact (fun q x y => if z : q = i then by rw [z, up_same] else by rw [up_ne _ _ z]; exact g1 q x (by omega)) | exact (fun q x y => absurd y (by omega))) (by omega)
  refine r_iload_n 1 hE 1 dX9_load_0 rfl rfl rfl ?_
  refine r_iconst 2 hE dX9_load_1 rfl ?_
  refine r_aload_n 3 hE 0 dX9_load_2 rfl rfl rfl ?_
  refine r_get 6 hE 0 0 ok9 25 dX9_load_3 rfl wd_1077 rfl rfl (by decide) rfl ?_
  refine r_callS 9 hE [] [0, 1, 2, 3, 4, 5, 6, 7] [] [(wMo g mo mst mac mmk mr mrd mrm mcm mtp msz mtk mbg men mls mvl mft mfp mfk mdp mto), (wMTab g mo kd on tw sg le de so), (wMRow g mo ro), (wMAll g mo al), (wMNew g mo nf), (wMTap g mo tf), (wMTxt g mo tt), (wMPil g mo pl)] [] (c_X9_isFrom (by omega) (by omega) (by omega)) dX9_load_6 rfl wd_1183 wd_1184 wd_12 wd_1185 ne_X9 np_X9_isFrom (Nat.le_of_ble_eq_true rfl)  (by decide) (by decide) rfl (Nat.le_of_ble_eq_true rfl) rfl rfl rfl rfl (by decide) (fun v1 f1 hp => ?_)
  obtain ⟨rfl, rfl⟩ := hp
  show G g E _ _ _ [(wMo g mo mst mac mmk mr mrd mrm mcm mtp msz mtk mbg men mls mvl mft mfp mfk mdp mto), (wMTab g mo kd on tw sg le de so), (wMRow g mo ro), (wMAll g mo al), (wMNew g mo nf), (wMTap g mo tf), (wMTxt g mo tt), (wMPil g mo pl)] 9 [(0, .ref (mo 0)), (1, .int (iI v))] [.int (iI (bI (0 ≤ v ∧ v ≤ mtp)))]
  refine r_if_ne 12 18 hE dX9_load_9 rfl (by decide) (bI_rg _) (fun c9 => ?_) (fun c9 => ?_)
  · skip
    have c9 := bI1 c9
    refine r_aload_n 19 hE 0 dX9_load_18 rfl rfl rfl ?_
    refine r_iload_n 20 hE 1 dX9_load_19 rfl rfl rfl ?_
    refine r_put 23 hE 0 0 ok9 26 (wMo g mo mst mac mmk mr mrd mrm mcm mtp v mtk mbg men mls mvl mft mfp mfk mdp mto) [(wMo g mo mst mac mmk mr mrd mrm mcm mtp v mtk mbg men mls mvl mft mfp mfk mdp mto), (wMTab g mo kd on tw sg le de so), (wMRow g mo ro), (wMAll g mo al), (wMNew g mo nf), (wMTap g mo tf), (wMTxt g mo tt), (wMPil g mo pl)] dX9_load_20 rfl wd_1078 rfl rfl (by decide) rfl rfl rfl (Nat.le_of_ble_eq_true rfl) rfl rfl ?_
    refine r_iconst 24 hE dX9_load_23 rfl ?_
    refine r_istore_n 25 hE [(2, .int (iI 0)), (0, .ref (mo 0)), (1, .int (iI v))] dX9_load_24 rfl rfl (by decide) rfl ?_
    refine G.to (fs' := [(wMo g mo mst mac mmk mr mrd mrm mcm mtp v mtk mbg men mls mvl mft mfp mfk mdp mto), (wMTab g mo kd on tw sg le de so), (wMRow g mo ro), (wMAll g mo al), (wMNew g mo nf), (wMTap g mo tf), (wMTxt g mo tt), (wMPil g mo pl)]) (lv' := [(0, .ref (mo 0)), (1, .int (iI v)), (2, .int (iI 0))]) [0, 1, 2, 3, 4, 5, 6, 7] [1, 2, 0] rfl rfl rfl ?_
    exact cut25 _ 0 tt (by omega) (by first | exact BR_up hBT _ (hTB i) | exact hTT) (by first | exact (fun q x y => if z : q = i then by rw [z, up_same] else by rw [up_ne _ _ z]; exact g1 q x (by omega)) | exact (fun q x y => absurd y (by omega))) (Nat.lt_succ_self _)
  · skip
    have c9 := bI0 c9
    omega
set_option maxHeartbeats 4000000 in
set_option maxRecDepth 100000 in
theorem c_X9_load {g : Gm} {mo : Nat → Nat} {mst mac mmk mr mrd mrm mcm mtp msz mtk mbg men mls mvl mft mfp mfk mdp mto : Int} {al : Int → Int} {kd on tw sg le de so : Int → Int} {R : Int → Rl} {ro : Int → Int} {nf : Int → Int} {pl tf tt : Int → Int} {v : Int} {T : List (List Int)} (hM : MTx al) (hac : 0 ≤ mac ∧ mac ≤ 8) (hv : 0 ≤ v ∧ v ≤ mtp) (htd : 0 ≤ mtp ∧ mtp ≤ 900) (hTB : BR tf) (hTT : BR tt) (hbe : bookE (bkOf tf v) 901 [] 0 = .ok T) : Ct g 34 0 0 yX9_load cX9_load 3 (some .int) [.ref (mo 0), .int (iI v)] [(wMo g mo mst mac mmk mr mrd mrm mcm mtp msz mtk mbg men mls mvl mft mfp mfk mdp mto), (wMTab g mo kd on tw sg le de so), (wMRow g mo ro), (wMAll g mo al), (wMNew g mo nf), (wMTap g mo tf), (wMTxt g mo tt), (wMPil g mo pl)] (fun v_ w_ => ∃ kd9 : Int → Int, ∃ on9 : Int → Int, ∃ tw9 : Int → Int, ∃ sg9 : Int → Int, ∃ le9 : Int → Int, ∃ de9 : Int → Int, ∃ so9 : Int → Int, ∃ mr9 : Int, ∃ R9 : Int → Rl, ∃ ro9 : Int → Int, ∃ mrd9 : Int, ∃ mrm9 : Int, ∃ al9 : Int → Int, ∃ nf9 : Int → Int, ∃ mac9 : Int, ∃ news : Int, ∃ tk9 : Int, ∃ bg9 : Int, ∃ en9 : Int, ∃ ls9 : Int, ∃ vl9 : Int, ∃ ft9 : Int, ∃ fp9 : Int, ∃ dp9 : Int, ∃ to9 : Int, ∃ tt9 : Int → Int, ∃ pl9 : Int → Int, v_ = some (.int (iI (al9 0))) ∧ w_ = [(wMo g mo 0 mac9 mmk mr9 mrd9 mrm9 mcm 0 v tk9 bg9 en9 ls9 vl9 ft9 fp9 ft9 dp9 to9), (wMTab g mo kd9 on9 tw9 sg9 le9 de9 so9), (wMRow g mo ro9), (wMAll g mo al9), (wMNew g mo nf9), (wMTap g mo tf), (wMTxt g mo tt9), (wMPil g mo pl9)] ∧ (BR tt9) ∧ (ActIs al nf mac al9 nf9 mac9 news) ∧ (1 ≤ mac9 ∧ mac9 ≤ 8) ∧ (ft9 = 0 ∧ fp9 = -1) ∧ (tsF (mF al9) (mN al9) (al9 0) = T)) := by
  refine Ct.of (by decide) (Nat.le_of_ble_eq_true rfl) (lv := [(0, .ref (mo 0)), (1, .int (iI v))]) rfl ?_
  intro E hE hR hnm
  have hc := hM.1
  obtain ⟨c, hc900, hcE⟩ : ∃ c : Nat, c ≤ 900 ∧ tkK tf v c = 0 := has_end tf (by omega)
  have cut89 : ∀ (N : Nat) (tk : Int) (bg : Int) (en : Int) (ls : Int) (vl : Int) (ft : Int) (fp : Int) (dp : Int) (to : Int) (tt9 : Int → Int) (pl9 : Int → Int) (al8 : Int → Int) (b : Int) (kk : Nat) (f : Nat), (BR tt9) → (∀ q, 0 ≤ q → q < v → tt9 q = tf q) → (∀ j, 0 ≤ j → j < 4809 → al8 (4809 + j) = al (0 + j)) → (∀ j, 9618 ≤ j → al8 j = al j) → (BkS tt9 v c kk f b tk bg en ls vl ft fp al8) → (kk ≤ c + 1) → ((c : Int) + 1 - (kk : Int)).toNat < N → G g E 3 0 0 [(wMo g mo mst mac mmk mr mrd mrm mcm 0 v tk bg en ls vl ft fp mfk dp to), (wMTab g mo kd on tw sg le de so), (wMRow g mo ro), (wMAll g mo al8), (wMNew g mo nf), (wMTap g mo tf), (wMTxt g mo tt9), (wMPil g mo pl9)] 89 [(0, .ref (mo 0)), (1, .int (iI v)), (2, .int (iI b))] [] := by
    intro N
    induction N with
    | zero => intro tk bg en ls vl ft fp dp to tt9 pl9 al8 b kk f _ _ _ _ _ _ hN; exact absurd hN (Nat.not_lt_zero _)
    | succ N ih89 =>
      intro tk bg en ls vl ft fp dp to tt9 pl9 al8 b kk f hBT g1 hs1 hs2 hst hkc hN
      have hEq := bkOf_E (B := tt9) (C := tf) (n := v) g1 hv.1
      have hbe9 : bookE (bkOf tt9 v) 901 [] 0 = .ok T := by rw [bookE_E hEq]; exact hbe
      have hcE9 : tkK tt9 v c = 0 := by rw [(tk_cong g1 hv.1 c).1]; exact hcE
      have hb01 : b = 0 ∨ b = 1 := by rcases hst with z | z; exact Or.inr z.1; exact Or.inl z.1
      have htkr : 0 ≤ tk ∧ tk ≤ 5 ∨ b = 0 := by rcases hst with z | z; exact Or.inl z.2.2.2.1.tr; exact Or.inr z.1
      have hftr : -2147483648 ≤ ft ∧ ft ≤ 2147483647 := by rcases hst with z | z; (have h9 := z.2.1; omega); (obtain ⟨-, e9, z1, z2, z3, z4⟩ := z; omega)
      refine r_iload_n 90 hE 2 dX9_load_89 rfl rfl rfl ?_
      refine r_if_eq 93 108 hE dX9_load_90 rfl (by decide) (by omega) (fun c90 => ?_) (fun c90 => ?_)
      · skip
        have hfo : ft = 0 → fp = -1 ∧ MTx al8 ∧ bookE (bkOf tt9 v) 901 [] 0 = .ok (tsF (mF al8) (mN al8) (al8 0)) := fun q => by rcases hst with z | z; omega; (obtain ⟨-, e9, z1, z2, z3, z4⟩ := z; omega)
        refine r_aload_n 109 hE 0 dX9_load_108 rfl rfl rfl ?_
        refine r_aload_n 110 hE 0 dX9_load_109 rfl rfl rfl ?_
        refine r_get 113 hE 0 0 ok9 32 dX9_load_110 rfl wd_1084 rfl rfl (by decide) rfl ?_
        refine r_put 116 hE 0 0 ok9 34 (wMo g mo mst mac mmk mr mrd mrm mcm 0 v tk bg en ls vl ft fp ft dp to) [(wMo g mo mst mac mmk mr mrd mrm mcm 0 v tk bg en ls vl ft fp ft dp to), (wMTab g mo kd on tw sg le de so), (wMRow g mo ro), (wMAll g mo al8), (wMNew g mo nf), (wMTap g mo tf), (wMTxt g mo tt9), (wMPil g mo pl9)] dX9_load_113 rfl wd_1086 rfl rfl (by decide) rfl rfl rfl (Nat.le_of_ble_eq_true rfl) rfl rfl ?_
        refine r_aload_n 117 hE 0 dX9_load_116 rfl rfl rfl ?_
        refine r_get 120 hE 0 0 ok9 32 dX9_load_117 rfl wd_1084 rfl rfl (by decide) rfl ?_
        refine r_if_le 123 138 hE dX9_load_120 rfl (by decide) (hftr) (fun c120 => ?_) (fun c120 => ?_)
        · skip
          have hz : ft = 0 := by rcases hst with z | z; exact z.2.1; (obtain ⟨-, e9, z1, z2, z3, z4⟩ := z; omega)
          have hob : fp = -1 ∧ MTx al8 ∧ bookE (bkOf tt9 v) 901 [] 0 = .ok (tsF (mF al8) (mN al8) (al8 0)) := hfo hz
          have hfm := hob.1
          have hTs : tsF (mF al8) (mN al8) (al8 0) = T := by have h9 := hob.2.2; rw [hbe9] at h9; injection h9 with h9; exact h9.symm
          have hpre : PreAct al (fun al3 => tsF (mF al3) (mN al3) (al3 0) = T) al8 := ⟨hs1, hs2, fun al3 q => PreAct.ts hob.2.1 hTs q⟩
          refine r_aload_n 139 hE 0 dX9_load_138 rfl rfl rfl ?_
          refine r_callV 142 hE [0, 1, 2, 3, 4] [5, 6, 7] [(wMo g mo mst mac mmk mr mrd mrm mcm 0 v tk bg en ls vl ft fp ft dp to), (wMTab g mo kd on tw sg le de so), (wMRow g mo ro), (wMAll g mo al8), (wMNew g mo nf)] [(wMTap g mo tf), (wMTxt g mo tt9), (wMPil g mo pl9)] 0 9 ok9 [] (c_X9_acted (R := R) (hpre.ok) (hpre.aside hM) (hac)) dX9_load_139 rfl rfl wd_1294 wd_1296 ws_70 wd_12 wd_1297 ne_X9 np_X9_acted (Nat.le_of_ble_eq_true rfl)  (by decide) (by decide) rfl (Nat.le_of_ble_eq_true rfl) rfl rfl rfl rfl (by decide) rfl (fun v1 f1 hp => ?_)
          obtain ⟨kd9_139, on9_139, tw9_139, sg9_139, le9_139, de9_139, so9_139, mr9_139, R9_139, ro9_139, mrd9_139, mrm9_139, al9_139, nf9_139, mac9_139, news_139, rfl, rfl, h139_0, h139_1, h139_2, h139_3⟩ := hp
          show G g E _ _ _ [(wMo g mo mst mac9_139 mmk mr9_139 mrd9_139 mrm9_139 mcm 0 v tk bg en ls vl ft fp ft dp to), (wMTab g mo kd9_139 on9_139 tw9_139 sg9_139 le9_139 de9_139 so9_139), (wMRow g mo ro9_139), (wMAll g mo al9_139), (wMNew g mo nf9_139), (wMTap g mo tf), (wMTxt g mo tt9), (wMPil g mo pl9)] 142 [(0, .ref (mo 0)), (1, .int (iI v)), (2, .int (iI b))] []
          have hA := hpre.act hM hac h139_0 h139_1 h139_2
          refine r_aload_n 143 hE 0 dX9_load_142 rfl rfl rfl ?_
          refine r_aload_n 144 hE 0 dX9_load_143 rfl rfl rfl ?_
          refine r_callV 147 hE [0, 3] [1, 2, 4, 5, 6, 7] [(wMo g mo mst mac9_139 mmk mr9_139 mrd9_139 mrm9_139 mcm 0 v tk bg en ls vl ft fp ft dp to), (wMAll g mo al9_139)] [(wMTab g mo kd9_139 on9_139 tw9_139 sg9_139 le9_139 de9_139 so9_139), (wMRow g mo ro9_139), (wMNew g mo nf9_139), (wMTap g mo tf), (wMTxt g mo tt9), (wMPil g mo pl9)] 0 9 ok9 [.ref (mo 0)] (c_X9_many) dX9_load_144 rfl rfl wd_1217 wd_1219 ws_52 wd_12 wd_1220 ne_X9 np_X9_many (Nat.le_of_ble_eq_true rfl)  (by decide) (by decide) rfl (Nat.le_of_ble_eq_true rfl) rfl rfl rfl rfl (by decide) rfl (fun v1 f1 hp => ?_)
          obtain ⟨rfl, rfl⟩ := hp
          show G g E _ _ _ [(wMo g mo mst mac9_139 mmk mr9_139 mrd9_139 mrm9_139 mcm 0 v tk bg en ls vl ft fp ft dp to), (wMAll g mo al9_139), (wMTab g mo kd9_139 on9_139 tw9_139 sg9_139 le9_139 de9_139 so9_139), (wMRow g mo ro9_139), (wMNew g mo nf9_139), (wMTap g mo tf), (wMTxt g mo tt9), (wMPil g mo pl9)] 147 [(0, .ref (mo 0)), (1, .int (iI v)), (2, .int (iI b))] [.int (iI (al9_139 0)), .ref (mo 0)]
          refine r_callV 150 hE [0] [1, 2, 3, 4, 5, 6, 7] [(wMo g mo mst mac9_139 mmk mr9_139 mrd9_139 mrm9_139 mcm 0 v tk bg en ls vl ft fp ft dp to)] [(wMAll g mo al9_139), (wMTab g mo kd9_139 on9_139 tw9_139 sg9_139 le9_139 de9_139 so9_139), (wMRow g mo ro9_139), (wMNew g mo nf9_139), (wMTap g mo tf), (wMTxt g mo tt9), (wMPil g mo pl9)] 0 9 ok9 [] (c_X9_gives) dX9_load_147 rfl rfl wd_1334 wd_1336 ws_79 wd_12 wd_1337 ne_X9 np_X9_gives (Nat.le_of_ble_eq_true rfl)  (by decide) (by decide) rfl (Nat.le_of_ble_eq_true rfl) rfl rfl rfl rfl (by decide) rfl (fun v1 f1 hp => ?_)
          obtain ⟨rfl, rfl⟩ := hp
          show G g E _ _ _ [(wMo g mo 0 mac9_139 mmk mr9_139 mrd9_139 mrm9_139 mcm 0 v tk bg en ls vl ft fp ft dp to), (wMAll g mo al9_139), (wMTab g mo kd9_139 on9_139 tw9_139 sg9_139 le9_139 de9_139 so9_139), (wMRow g mo ro9_139), (wMNew g mo nf9_139), (wMTap g mo tf), (wMTxt g mo tt9), (wMPil g mo pl9)] 150 [(0, .ref (mo 0)), (1, .int (iI v)), (2, .int (iI b))] [.int (iI (al9_139 0))]
          refine G.to (fs' := [(wMo g mo 0 mac9_139 mmk mr9_139 mrd9_139 mrm9_139 mcm 0 v tk bg en ls vl ft fp ft dp to), (wMTab g mo kd9_139 on9_139 tw9_139 sg9_139 le9_139 de9_139 so9_139), (wMRow g mo ro9_139), (wMAll g mo al9_139), (wMNew g mo nf9_139), (wMTap g mo tf), (wMTxt g mo tt9), (wMPil g mo pl9)]) [0, 2, 3, 1, 4, 5, 6, 7] [0, 1, 2] rfl rfl rfl ?_
          refine r_ireturn hE hR [(wMo g mo 0 mac9_139 mmk mr9_139 mrd9_139 mrm9_139 mcm 0 v tk bg en ls vl ft fp ft dp to), (wMTab g mo kd9_139 on9_139 tw9_139 sg9_139 le9_139 de9_139 so9_139), (wMRow g mo ro9_139), (wMAll g mo al9_139), (wMNew g mo nf9_139), (wMTap g mo tf), (wMTxt g mo tt9), (wMPil g mo pl9)] dX9_load_150 (Nat.le_of_ble_eq_true rfl) (Nat.le_of_ble_eq_true rfl) rfl ?_
          exact ⟨kd9_139, on9_139, tw9_139, sg9_139, le9_139, de9_139, so9_139, mr9_139, R9_139, ro9_139, mrd9_139, mrm9_139, al9_139, nf9_139, mac9_139, news_139, _, _, _, _, _, _, _, _, _, tt9, _, rfl, rfl, hBT, hA.1, h139_3, ⟨hz, hfm⟩, hA.2⟩
        · skip
          (rcases hst with z | z; omega; (obtain ⟨-, e9, z1, z2, z3, z4⟩ := z; rw [hbe9] at z1; cases z1))
      · skip
        refine r_aload_n 94 hE 0 dX9_load_93 rfl rfl rfl ?_
        refine r_get 97 hE 0 0 ok9 27 dX9_load_94 rfl wd_1079 rfl rfl (by decide) rfl ?_
        refine r_if_eq 100 108 hE dX9_load_97 rfl (by decide) (by omega) (fun c97 => ?_) (fun c97 => ?_)
        · skip
          have hfo : ft = 0 → fp = -1 ∧ MTx al8 ∧ bookE (bkOf tt9 v) 901 [] 0 = .ok (tsF (mF al8) (mN al8) (al8 0)) := fun q => by
            rcases hst with z | z
            · exact ⟨z.2.2.1, z.2.2.2.2.1, z.2.2.2.2.2.2.2.trans (book_end (by omega) (z.2.2.2.1.i0.mp c97))⟩
            · omega
          refine r_aload_n 109 hE 0 dX9_load_108 rfl rfl rfl ?_
          refine r_aload_n 110 hE 0 dX9_load_109 rfl rfl rfl ?_
          refine r_get 113 hE 0 0 ok9 32 dX9_load_110 rfl wd_1084 rfl rfl (by decide) rfl ?_
          refine r_put 116 hE 0 0 ok9 34 (wMo g mo mst mac mmk mr mrd mrm mcm 0 v tk bg en ls vl ft fp ft dp to) [(wMo g mo mst mac mmk mr mrd mrm mcm 0 v tk bg en ls vl ft fp ft dp to), (wMTab g mo kd on tw sg le de so), (wMRow g mo ro), (wMAll g mo al8), (wMNew g mo nf), (wMTap g mo tf), (wMTxt g mo tt9), (wMPil g mo pl9)] dX9_load_113 rfl wd_1086 rfl rfl (by decide) rfl rfl rfl (Nat.le_of_ble_eq_true rfl) rfl rfl ?_
          refine r_aload_n 117 hE 0 dX9_load_116 rfl rfl rfl ?_
          refine r_get 120 hE 0 0 ok9 32 dX9_load_117 rfl wd_1084 rfl rfl (by decide) rfl ?_
          refine r_if_le 123 138 hE dX9_load_120 rfl (by decide) (hftr) (fun c120 => ?_) (fun c120 => ?_)
          · skip
            have hz : ft = 0 := by rcases hst with z | z; exact z.2.1; (obtain ⟨-, e9, z1, z2, z3, z4⟩ := z; omega)
            have hob : fp = -1 ∧ MTx al8 ∧ bookE (bkOf tt9 v) 901 [] 0 = .ok (tsF (mF al8) (mN al8) (al8 0)) := hfo hz
            have hfm := hob.1
            have hTs : tsF (mF al8) (mN al8) (al8 0) = T := by have h9 := hob.2.2; rw [hbe9] at h9; injection h9 with h9; exact h9.symm
            have hpre : PreAct al (fun al3 => tsF (mF al3) (mN al3) (al3 0) = T) al8 := ⟨hs1, hs2, fun al3 q => PreAct.ts hob.2.1 hTs q⟩
            refine r_aload_n 139 hE 0 dX9_load_138 rfl rfl rfl ?_
            refine r_callV 142 hE [0, 1, 2, 3, 4] [5, 6, 7] [(wMo g mo mst mac mmk mr mrd mrm mcm 0 v tk bg en ls vl ft fp ft dp to), (wMTab g mo kd on tw sg le de so), (wMRow g mo ro), (wMAll g mo al8), (wMNew g mo nf)] [(wMTap g mo tf), (wMTxt g mo tt9), (wMPil g mo pl9)] 0 9 ok9 [] (c_X9_acted (R := R) (hpre.ok) (hpre.aside hM) (hac)) dX9_load_139 rfl rfl wd_1294 wd_1296 ws_70 wd_12 wd_1297 ne_X9 np_X9_acted (Nat.le_of_ble_eq_true rfl)  (by decide) (by decide) rfl (Nat.le_of_ble_eq_true rfl) rfl rfl rfl rfl (by decide) rfl (fun v1 f1 hp => ?_)
            obtain ⟨kd9_139, on9_139, tw9_139, sg9_139, le9_139, de9_139, so9_139, mr9_139, R9_139, ro9_139, mrd9_139, mrm9_139, al9_139, nf9_139, mac9_139, news_139, rfl, rfl, h139_0, h139_1, h139_2, h139_3⟩ := hp
            show G g E _ _ _ [(wMo g mo mst mac9_139 mmk mr9_139 mrd9_139 mrm9_139 mcm 0 v tk bg en ls vl ft fp ft dp to), (wMTab g mo kd9_139 on9_139 tw9_139 sg9_139 le9_139 de9_139 so9_139), (wMRow g mo ro9_139), (wMAll g mo al9_139), (wMNew g mo nf9_139), (wMTap g mo tf), (wMTxt g mo tt9), (wMPil g mo pl9)] 142 [(0, .ref (mo 0)), (1, .int (iI v)), (2, .int (iI b))] []
            have hA := hpre.act hM hac h139_0 h139_1 h139_2
            refine r_aload_n 143 hE 0 dX9_load_142 rfl rfl rfl ?_
            refine r_aload_n 144 hE 0 dX9_load_143 rfl rfl rfl ?_
            refine r_callV 147 hE [0, 3] [1, 2, 4, 5, 6, 7] [(wMo g mo mst mac9_139 mmk mr9_139 mrd9_139 mrm9_139 mcm 0 v tk bg en ls vl ft fp ft dp to), (wMAll g mo al9_139)] [(wMTab g mo kd9_139 on9_139 tw9_139 sg9_139 le9_139 de9_139 so9_139), (wMRow g mo ro9_139), (wMNew g mo nf9_139), (wMTap g mo tf), (wMTxt g mo tt9), (wMPil g mo pl9)] 0 9 ok9 [.ref (mo 0)] (c_X9_many) dX9_load_144 rfl rfl wd_1217 wd_1219 ws_52 wd_12 wd_1220 ne_X9 np_X9_many (Nat.le_of_ble_eq_true rfl)  (by decide) (by decide) rfl (Nat.le_of_ble_eq_true rfl) rfl rfl rfl rfl (by decide) rfl (fun v1 f1 hp => ?_)
            obtain ⟨rfl, rfl⟩ := hp
            show G g E _ _ _ [(wMo g mo mst mac9_139 mmk mr9_139 mrd9_139 mrm9_139 mcm 0 v tk bg en ls vl ft fp ft dp to), (wMAll g mo al9_139), (wMTab g mo kd9_139 on9_139 tw9_139 sg9_139 le9_139 de9_139 so9_139), (wMRow g mo ro9_139), (wMNew g mo nf9_139), (wMTap g mo tf), (wMTxt g mo tt9), (wMPil g mo pl9)] 147 [(0, .ref (mo 0)), (1, .int (iI v)), (2, .int (iI b))] [.int (iI (al9_139 0)), .ref (mo 0)]
            refine r_callV 150 hE [0] [1, 2, 3, 4, 5, 6, 7] [(wMo g mo mst mac9_139 mmk mr9_139 mrd9_139 mrm9_139 mcm 0 v tk bg en ls vl ft fp ft dp to)] [(wMAll g mo al9_139), (wMTab g mo kd9_139 on9_139 tw9_139 sg9_139 le9_139 de9_139 so9_139), (wMRow g mo ro9_139), (wMNew g mo nf9_139), (wMTap g mo tf), (wMTxt g mo tt9), (wMPil g mo pl9)] 0 9 ok9 [] (c_X9_gives) dX9_load_147 rfl rfl wd_1334 wd_1336 ws_79 wd_12 wd_1337 ne_X9 np_X9_gives (Nat.le_of_ble_eq_true rfl)  (by decide) (by decide) rfl (Nat.le_of_ble_eq_true rfl) rfl rfl rfl rfl (by decide) rfl (fun v1 f1 hp => ?_)
            obtain ⟨rfl, rfl⟩ := hp
            show G g E _ _ _ [(wMo g mo 0 mac9_139 mmk mr9_139 mrd9_139 mrm9_139 mcm 0 v tk bg en ls vl ft fp ft dp to), (wMAll g mo al9_139), (wMTab g mo kd9_139 on9_139 tw9_139 sg9_139 le9_139 de9_139 so9_139), (wMRow g mo ro9_139), (wMNew g mo nf9_139), (wMTap g mo tf), (wMTxt g mo tt9), (wMPil g mo pl9)] 150 [(0, .ref (mo 0)), (1, .int (iI v)), (2, .int (iI b))] [.int (iI (al9_139 0))]
            refine G.to (fs' := [(wMo g mo 0 mac9_139 mmk mr9_139 mrd9_139 mrm9_139 mcm 0 v tk bg en ls vl ft fp ft dp to), (wMTab g mo kd9_139 on9_139 tw9_139 sg9_139 le9_139 de9_139 so9_139), (wMRow g mo ro9_139), (wMAll g mo al9_139), (wMNew g mo nf9_139), (wMTap g mo tf), (wMTxt g mo tt9), (wMPil g mo pl9)]) [0, 2, 3, 1, 4, 5, 6, 7] [0, 1, 2] rfl rfl rfl ?_
            refine r_ireturn hE hR [(wMo g mo 0 mac9_139 mmk mr9_139 mrd9_139 mrm9_139 mcm 0 v tk bg en ls vl ft fp ft dp to), (wMTab g mo kd9_139 on9_139 tw9_139 sg9_139 le9_139 de9_139 so9_139), (wMRow g mo ro9_139), (wMAll g mo al9_139), (wMNew g mo nf9_139), (wMTap g mo tf), (wMTxt g mo tt9), (wMPil g mo pl9)] dX9_load_150 (Nat.le_of_ble_eq_true rfl) (Nat.le_of_ble_eq_true rfl) rfl ?_
            exact ⟨kd9_139, on9_139, tw9_139, sg9_139, le9_139, de9_139, so9_139, mr9_139, R9_139, ro9_139, mrd9_139, mrm9_139, al9_139, nf9_139, mac9_139, news_139, _, _, _, _, _, _, _, _, _, tt9, _, rfl, rfl, hBT, hA.1, h139_3, ⟨hz, hfm⟩, hA.2⟩
          · skip
            (rcases hst with z | z; omega; (obtain ⟨-, e9, z1, z2, z3, z4⟩ := z; rw [hbe9] at z1; cases z1))
        · skip
          have hst1 : b = 1 ∧ ft = 0 ∧ fp = -1 ∧ RdAt tt9 v kk tk bg en ls vl ∧ MTx al8 ∧ kk ≤ c ∧ c + 1 ≤ kk + f ∧ bookE (bkOf tt9 v) 901 [] 0 = bookE (bkOf tt9 v) f (tsF (mF al8) (mN al8) (al8 0)) kk := by rcases hst with z | z; exact z; omega
          refine r_aload_n 101 hE 0 dX9_load_100 rfl rfl rfl ?_
          refine r_callV 104 hE [0, 3, 6, 7] [1, 2, 4, 5] [(wMo g mo mst mac mmk mr mrd mrm mcm 0 v tk bg en ls vl ft fp mfk dp to), (wMAll g mo al8), (wMTxt g mo tt9), (wMPil g mo pl9)] [(wMTab g mo kd on tw sg le de so), (wMRow g mo ro), (wMNew g mo nf), (wMTap g mo tf)] 0 9 ok9 [] (c_X9_aLine (hBT) (by omega) (hst1.2.2.2.2.1) (bkG_m hst1.2.2.2.2.1 hc900 hcE9) (hst1.2.2.2.2.2.1) (hst1.2.2.2.1) (hst1.2.1)) dX9_load_101 rfl rfl wd_1213 wd_1215 ws_51 wd_12 wd_1216 ne_X9 np_X9_aLine (Nat.le_of_ble_eq_true rfl)  (by decide) (by decide) rfl (Nat.le_of_ble_eq_true rfl) rfl rfl rfl rfl (by decide) rfl (fun v1 f1 hp => ?_)
          obtain ⟨r9_101, tk9_101, bg9_101, en9_101, ls9_101, vl9_101, ft9_101, fp9_101, dp9_101, to9_101, pl9_101, al9_101, rfl, rfl, h101_0, h101_1, h101_2⟩ := hp
          show G g E _ _ _ [(wMo g mo mst mac mmk mr mrd mrm mcm 0 v tk9_101 bg9_101 en9_101 ls9_101 vl9_101 ft9_101 fp9_101 mfk dp9_101 to9_101), (wMAll g mo al9_101), (wMTxt g mo tt9), (wMPil g mo pl9_101), (wMTab g mo kd on tw sg le de so), (wMRow g mo ro), (wMNew g mo nf), (wMTap g mo tf)] 104 [(0, .ref (mo 0)), (1, .int (iI v)), (2, .int (iI b))] [.int (iI r9_101)]
          obtain ⟨k8, f8, hst2, hk8, hk9⟩ := hst.step (by omega) c97 h101_0
          have hs12 : ∀ j, 0 ≤ j → j < 4809 → al9_101 (4809 + j) = al (0 + j) := fun j x y => by rw [h101_1 _ (by omega)]; exact hs1 j x y
          have hs22 : ∀ j, 9618 ≤ j → al9_101 j = al j := fun j x => by rw [h101_1 _ (by omega)]; exact hs2 j x
          refine r_istore_n 105 hE [(2, .int (iI r9_101)), (0, .ref (mo 0)), (1, .int (iI v))] dX9_load_104 rfl rfl (by decide) rfl ?_
          refine r_goto 89 hE dX9_load_105 (by decide) ?_
          refine G.to (fs' := [(wMo g mo mst mac mmk mr mrd mrm mcm 0 v tk9_101 bg9_101 en9_101 ls9_101 vl9_101 ft9_101 fp9_101 mfk dp9_101 to9_101), (wMTab g mo kd on tw sg le de so), (wMRow g mo ro), (wMAll g mo al9_101), (wMNew g mo nf), (wMTap g mo tf), (wMTxt g mo tt9), (wMPil g mo pl9_101)]) (lv' := [(0, .ref (mo 0)), (1, .int (iI v)), (2, .int (iI r9_101))]) [0, 4, 5, 1, 6, 7, 2, 3] [1, 2, 0] rfl rfl rfl ?_
          exact ih89 tk9_101 bg9_101 en9_101 ls9_101 vl9_101 ft9_101 fp9_101 dp9_101 to9_101 tt9 pl9_101 al9_101 r9_101 k8 f8 (by first | exact hBT) (by first | exact g1 | exact (fun q x y => g1 q x (by omega))) (by first | exact hs12 | exact (fun j x y => by rw [up_ne _ _ (by omega)]; exact h73_0 j x y)) (by first | exact hs22 | exact (fun j x => by rw [up_ne _ _ (by omega)]; exact h73_1 j (by omega))) (by first | exact hst2 | exact hst0) (by omega) (by omega)
  have cut25 : ∀ (N : Nat) (i : Int) (tt9 : Int → Int), (0 ≤ i ∧ i ≤ v) → (BR tt9) → (∀ q, 0 ≤ q → q < i → tt9 q = tf q) → (v - i).toNat < N → G g E 3 0 0 [(wMo g mo mst mac mmk mr mrd mrm mcm mtp v mtk mbg men mls mvl mft mfp mfk mdp mto), (wMTab g mo kd on tw sg le de so), (wMRow g mo ro), (wMAll g mo al), (wMNew g mo nf), (wMTap g mo tf), (wMTxt g mo tt9), (wMPil g mo pl)] 25 [(0, .ref (mo 0)), (1, .int (iI v)), (2, .int (iI i))] [] := by
    intro N
    induction N with
    | zero => intro i tt9 _ _ _ hN; exact absurd hN (Nat.not_lt_zero _)
    | succ N ih25 =>
      intro i tt9 hi hBT g1 hN
      refine r_iload_n 26 hE 2 dX9_load_25 rfl rfl rfl ?_
      refine r_iload_n 27 hE 1 dX9_load_26 rfl rfl rfl ?_
      refine r_icmp_ge 30 48 hE dX9_load_27 rfl (by decide) (by omega) (fun c27 => ?_) (fun c27 => ?_)
      · skip
        refine r_aload_n 49 hE 0 dX9_load_48 rfl rfl rfl ?_
        refine r_iconst 50 hE dX9_load_49 rfl ?_
        refine r_put 53 hE 0 0 ok9 25 (wMo g mo mst mac mmk mr mrd mrm mcm 0 v mtk mbg men mls mvl mft mfp mfk mdp mto) [(wMo g mo mst mac mmk mr mrd mrm mcm 0 v mtk mbg men mls mvl mft mfp mfk mdp mto), (wMTab g mo kd on tw sg le de so), (wMRow g mo ro), (wMAll g mo al), (wMNew g mo nf), (wMTap g mo tf), (wMTxt g mo tt9), (wMPil g mo pl)] dX9_load_50 rfl wd_1077 rfl rfl (by decide) rfl rfl rfl (Nat.le_of_ble_eq_true rfl) rfl rfl ?_
        refine r_aload_n 54 hE 0 dX9_load_53 rfl rfl rfl ?_
        refine r_iconst 55 hE dX9_load_54 rfl ?_
        refine r_put 58 hE 0 0 ok9 32 (wMo g mo mst mac mmk mr mrd mrm mcm 0 v mtk mbg men mls mvl 0 mfp mfk mdp mto) [(wMo g mo mst mac mmk mr mrd mrm mcm 0 v mtk mbg men mls mvl 0 mfp mfk mdp mto), (wMTab g mo kd on tw sg le de so), (wMRow g mo ro), (wMAll g mo al), (wMNew g mo nf), (wMTap g mo tf), (wMTxt g mo tt9), (wMPil g mo pl)] dX9_load_55 rfl wd_1084 rfl rfl (by decide) rfl rfl rfl (Nat.le_of_ble_eq_true rfl) rfl rfl ?_
        refine r_aload_n 59 hE 0 dX9_load_58 rfl rfl rfl ?_
        refine r_iconst 60 hE dX9_load_59 rfl ?_
        refine r_put 63 hE 0 0 ok9 33 (wMo g mo mst mac mmk mr mrd mrm mcm 0 v mtk mbg men mls mvl 0 (-1) mfk mdp mto) [(wMo g mo mst mac mmk mr mrd mrm mcm 0 v mtk mbg men mls mvl 0 (-1) mfk mdp mto), (wMTab g mo kd on tw sg le de so), (wMRow g mo ro), (wMAll g mo al), (wMNew g mo nf), (wMTap g mo tf), (wMTxt g mo tt9), (wMPil g mo pl)] dX9_load_60 rfl wd_1085 rfl rfl (by decide) rfl rfl rfl (Nat.le_of_ble_eq_true rfl) rfl rfl ?_
        refine r_aload_n 64 hE 0 dX9_load_63 rfl rfl rfl ?_
        refine r_iconst 65 hE dX9_load_64 rfl ?_
        refine r_put 68 hE 0 0 ok9 29 (wMo g mo mst mac mmk mr mrd mrm mcm 0 v mtk mbg 0 mls mvl 0 (-1) mfk mdp mto) [(wMo g mo mst mac mmk mr mrd mrm mcm 0 v mtk mbg 0 mls mvl 0 (-1) mfk mdp mto), (wMTab g mo kd on tw sg le de so), (wMRow g mo ro), (wMAll g mo al), (wMNew g mo nf), (wMTap g mo tf), (wMTxt g mo tt9), (wMPil g mo pl)] dX9_load_65 rfl wd_1081 rfl rfl (by decide) rfl rfl rfl (Nat.le_of_ble_eq_true rfl) rfl rfl ?_
        refine r_aload_n 69 hE 0 dX9_load_68 rfl rfl rfl ?_
        refine r_iconst 70 hE dX9_load_69 rfl ?_
        refine r_sipush 73 hE dX9_load_70 rfl (by decide) ?_
        refine r_callV 76 hE [0, 3] [1, 2, 4, 5, 6, 7] [(wMo g mo mst mac mmk mr mrd mrm mcm 0 v mtk mbg 0 mls mvl 0 (-1) mfk mdp mto), (wMAll g mo al)] [(wMTab g mo kd on tw sg le de so), (wMRow g mo ro), (wMNew g mo nf), (wMTap g mo tf), (wMTxt g mo tt9), (wMPil g mo pl)] 0 9 ok9 [] (c_X9_copies (by omega) (by omega) (by omega)) dX9_load_73 rfl rfl wd_1190 wd_1192 ws_48 wd_12 wd_1193 ne_X9 np_X9_copies (Nat.le_of_ble_eq_true rfl)  (by decide) (by decide) rfl (Nat.le_of_ble_eq_true rfl) rfl rfl rfl rfl (by decide) rfl (fun v1 f1 hp => ?_)
        obtain ⟨al9_73, rfl, rfl, h73_0, h73_1⟩ := hp
        show G g E _ _ _ [(wMo g mo mst mac mmk mr mrd mrm mcm 0 v mtk mbg 0 mls mvl 0 (-1) mfk mdp mto), (wMAll g mo al9_73), (wMTab g mo kd on tw sg le de so), (wMRow g mo ro), (wMNew g mo nf), (wMTap g mo tf), (wMTxt g mo tt9), (wMPil g mo pl)] 76 [(0, .ref (mo 0)), (1, .int (iI v)), (2, .int (iI i))] []
        refine r_aload_n 77 hE 0 dX9_load_76 rfl rfl rfl ?_
        refine r_get 80 hE 0 0 ok9 0 dX9_load_77 rfl wd_1052 rfl rfl (by decide) rfl ?_
        refine r_iconst 81 hE dX9_load_80 rfl ?_
        refine r_iconst 82 hE dX9_load_81 rfl ?_
        refine r_iast 83 hE 1 0 (wMAll g mo (up al9_73 0 0)) [(wMo g mo mst mac mmk mr mrd mrm mcm 0 v mtk mbg 0 mls mvl 0 (-1) mfk mdp mto), (wMAll g mo (up al9_73 0 0)), (wMTab g mo kd on tw sg le de so), (wMRow g mo ro), (wMNew g mo nf), (wMTap g mo tf), (wMTxt g mo tt9), (wMPil g mo pl)] dX9_load_82 rfl rfl rfl (by omega) rfl rfl ?_
        refine r_aload_n 84 hE 0 dX9_load_83 rfl rfl rfl ?_
        refine r_callV 87 hE [0, 6] [1, 2, 3, 4, 5, 7] [(wMo g mo mst mac mmk mr mrd mrm mcm 0 v mtk mbg 0 mls mvl 0 (-1) mfk mdp mto), (wMTxt g mo tt9)] [(wMAll g mo (up al9_73 0 0)), (wMTab g mo kd on tw sg le de so), (wMRow g mo ro), (wMNew g mo nf), (wMTap g mo tf), (wMPil g mo pl)] 0 9 ok9 [] (c_X9_ahead (hBT) (by omega) (by omega)) dX9_load_84 rfl rfl wd_1194 wd_1196 ws_49 wd_12 wd_1197 ne_X9 np_X9_ahead (Nat.le_of_ble_eq_true rfl)  (by decide) (by decide) rfl (Nat.le_of_ble_eq_true rfl) rfl rfl rfl rfl (by decide) rfl (fun v1 f1 hp => ?_)
        obtain ⟨tk9_84, bg9_84, en9_84, vl9_84, rfl, rfl, h84_0⟩ := hp
        show G g E _ _ _ [(wMo g mo mst mac mmk mr mrd mrm mcm 0 v tk9_84 bg9_84 en9_84 mbg vl9_84 0 (-1) mfk mdp mto), (wMTxt g mo tt9), (wMAll g mo (up al9_73 0 0)), (wMTab g mo kd on tw sg le de so), (wMRow g mo ro), (wMNew g mo nf), (wMTap g mo tf), (wMPil g mo pl)] 87 [(0, .ref (mo 0)), (1, .int (iI v)), (2, .int (iI i))] []
        have hi9 : i = v := by omega
        have hrd0 := AhIs.first (ls := mbg) hv.1 h84_0
        have hM0 : MTx (up al9_73 0 0) := ⟨by rw [up_same]; omega, fun t x y => by rw [up_same] at y; omega⟩
        have hst0 : BkS tt9 v c 0 901 1 tk9_84 bg9_84 en9_84 mbg vl9_84 0 (-1) (up al9_73 0 0) := Or.inl ⟨rfl, rfl, rfl, hrd0, hM0, by omega, by omega, by rw [up_same]; rfl⟩
        refine r_iconst 88 hE dX9_load_87 rfl ?_
        refine r_istore_n 89 hE [(2, .int (iI 1)), (0, .ref (mo 0)), (1, .int (iI v))] dX9_load_88 rfl rfl (by decide) rfl ?_
        refine G.to (fs' := [(wMo g mo mst mac mmk mr mrd mrm mcm 0 v tk9_84 bg9_84 en9_84 mbg vl9_84 0 (-1) mfk mdp mto), (wMTab g mo kd on tw sg le de so), (wMRow g mo ro), (wMAll g mo (up al9_73 0 0)), (wMNew g mo nf), (wMTap g mo tf), (wMTxt g mo tt9), (wMPil g mo pl)]) (lv' := [(0, .ref (mo 0)), (1, .int (iI v)), (2, .int (iI 1))]) [0, 3, 4, 2, 5, 6, 1, 7] [1, 2, 0] rfl rfl rfl ?_
        exact cut89 _ tk9_84 bg9_84 en9_84 mbg vl9_84 0 (-1) mdp mto tt9 pl (up al9_73 0 0) 1 0 901 (by first | exact hBT) (by first | exact g1 | exact (fun q x y => g1 q x (by omega))) (by first | exact hs12 | exact (fun j x y => by rw [up_ne _ _ (by omega)]; exact h73_0 j x y)) (by first | exact hs22 | exact (fun j x => by rw [up_ne _ _ (by omega)]; exact h73_1 j (by omega))) (by first | exact hst2 | exact hst0) (by omega) (Nat.lt_succ_self _)
      · skip
        refine r_aload_n 31 hE 0 dX9_load_30 rfl rfl rfl ?_
        refine r_get 34 hE 0 0 ok9 24 dX9_load_31 rfl wd_1076 rfl rfl (by decide) rfl ?_
        refine r_iload_n 35 hE 2 dX9_load_34 rfl rfl rfl ?_
        refine r_aload_n 36 hE 0 dX9_load_35 rfl rfl rfl ?_
        refine r_get 39 hE 0 0 ok9 23 dX9_load_36 rfl wd_1075 rfl rfl (by decide) rfl ?_
        refine r_iload_n 40 hE 2 dX9_load_39 rfl rfl rfl ?_
        refine r_bald 41 hE 5 0 dX9_load_40 rfl rfl rfl (by omega) ?_
        refine r_bast 42 hE 6 0 (wMTxt g mo (up tt9 i (tf i))) [(wMo g mo mst mac mmk mr mrd mrm mcm mtp v mtk mbg men mls mvl mft mfp mfk mdp mto), (wMTab g mo kd on tw sg le de so), (wMRow g mo ro), (wMAll g mo al), (wMNew g mo nf), (wMTap g mo tf), (wMTxt g mo (up tt9 i (tf i))), (wMPil g mo pl)] dX9_load_41 rfl rfl rfl (by omega) (hTB i) rfl rfl ?_
        refine r_iinc 45 hE 2 (i + 1) [(2, .int (iI (i + 1))), (0, .ref (mo 0)), (1, .int (iI v))] dX9_load_42 rfl rfl rfl (by decide) rfl ?_
        refine r_goto 25 hE dX9_load_45 (by decide) ?_
        refine G.to (fs' := [(wMo g mo mst mac mmk mr mrd mrm mcm mtp v mtk mbg men mls mvl mft mfp mfk mdp mto), (wMTab g mo kd on tw sg le de so), (wMRow g mo ro), (wMAll g mo al), (wMNew g mo nf), (wMTap g mo tf), (wMTxt g mo (up tt9 i (tf i))), (wMPil g mo pl)]) (lv' := [(0, .ref (mo 0)), (1, .int (iI v)), (2, .int (iI (i + 1)))]) [0, 1, 2, 3, 4, 5, 6, 7] [1, 2, 0] rfl rfl rfl ?_
        exact ih25 (i + 1) (up tt9 i (tf i)) (by omega) (by first | exact BR_up hBT _ (hTB i) | exact hTT) (by first | exact (fun q x y => if z : q = i then by rw [z, up_same] else by rw [up_ne _ _ z]; exact g1 q x (by omega)) | exact (fun q x y => absurd y (by omega))) (by omega)
  refine r_iload_n 1 hE 1 dX9_load_0 rfl rfl rfl ?_
  refine r_iconst 2 hE dX9_load_1 rfl ?_
  refine r_aload_n 3 hE 0 dX9_load_2 rfl rfl rfl ?_
  refine r_get 6 hE 0 0 ok9 25 dX9_load_3 rfl wd_1077 rfl rfl (by decide) rfl ?_
  refine r_callS 9 hE [] [0, 1, 2, 3, 4, 5, 6, 7] [] [(wMo g mo mst mac mmk mr mrd mrm mcm mtp msz mtk mbg men mls mvl mft mfp mfk mdp mto), (wMTab g mo kd on tw sg le de so), (wMRow g mo ro), (wMAll g mo al), (wMNew g mo nf), (wMTap g mo tf), (wMTxt g mo tt), (wMPil g mo pl)] [] (c_X9_isFrom (by omega) (by omega) (by omega)) dX9_load_6 rfl wd_1183 wd_1184 wd_12 wd_1185 ne_X9 np_X9_isFrom (Nat.le_of_ble_eq_true rfl)  (by decide) (by decide) rfl (Nat.le_of_ble_eq_true rfl) rfl rfl rfl rfl (by decide) (fun v1 f1 hp => ?_)
  obtain ⟨rfl, rfl⟩ := hp
  show G g E _ _ _ [(wMo g mo mst mac mmk mr mrd mrm mcm mtp msz mtk mbg men mls mvl mft mfp mfk mdp mto), (wMTab g mo kd on tw sg le de so), (wMRow g mo ro), (wMAll g mo al), (wMNew g mo nf), (wMTap g mo tf), (wMTxt g mo tt), (wMPil g mo pl)] 9 [(0, .ref (mo 0)), (1, .int (iI v))] [.int (iI (bI (0 ≤ v ∧ v ≤ mtp)))]
  refine r_if_ne 12 18 hE dX9_load_9 rfl (by decide) (bI_rg _) (fun c9 => ?_) (fun c9 => ?_)
  · skip
    have c9 := bI1 c9
    refine r_aload_n 19 hE 0 dX9_load_18 rfl rfl rfl ?_
    refine r_iload_n 20 hE 1 dX9_load_19 rfl rfl rfl ?_
    refine r_put 23 hE 0 0 ok9 26 (wMo g mo mst mac mmk mr mrd mrm mcm mtp v mtk mbg men mls mvl mft mfp mfk mdp mto) [(wMo g mo mst mac mmk mr mrd mrm mcm mtp v mtk mbg men mls mvl mft mfp mfk mdp mto), (wMTab g mo kd on tw sg le de so), (wMRow g mo ro), (wMAll g mo al), (wMNew g mo nf), (wMTap g mo tf), (wMTxt g mo tt), (wMPil g mo pl)] dX9_load_20 rfl wd_1078 rfl rfl (by decide) rfl rfl rfl (Nat.le_of_ble_eq_true rfl) rfl rfl ?_
    refine r_iconst 24 hE dX9_load_23 rfl ?_
    refine r_istore_n 25 hE [(2, .int (iI 0)), (0, .ref (mo 0)), (1, .int (iI v))] dX9_load_24 rfl rfl (by decide) rfl ?_
    refine G.to (fs' := [(wMo g mo mst mac mmk mr mrd mrm mcm mtp v mtk mbg men mls mvl mft mfp mfk mdp mto), (wMTab g mo kd on tw sg le de so), (wMRow g mo ro), (wMAll g mo al), (wMNew g mo nf), (wMTap g mo tf), (wMTxt g mo tt), (wMPil g mo pl)]) (lv' := [(0, .ref (mo 0)), (1, .int (iI v)), (2, .int (iI 0))]) [0, 1, 2, 3, 4, 5, 6, 7] [1, 2, 0] rfl rfl rfl ?_
    exact cut25 _ 0 tt (by omega) (by first | exact BR_up hBT _ (hTB i) | exact hTT) (by first | exact (fun q x y => if z : q = i then by rw [z, up_same] else by rw [up_ne _ _ z]; exact g1 q x (by omega)) | exact (fun q x y => absurd y (by omega))) (Nat.lt_succ_self _)
  · skip
    have c9 := bI0 c9
    omega
set_option maxHeartbeats 4000000 in
set_option maxRecDepth 100000 in
theorem c_X9_fault_0 {g : Gm} {mo : Nat → Nat} {mst mac mmk mr mrd mrm mcm mtp msz mtk mbg men mls mvl mft mfp mfk mdp mto : Int} {v : Int} (hw : v = 0) (hfk : -1 ≤ mfk ∧ mfk ≤ 9) : Ct g 0 0 0 yX9_fault cX9_fault 2 (some .int) [.ref (mo 0), .int (iI v)] [(wMo g mo mst mac mmk mr mrd mrm mcm mtp msz mtk mbg men mls mvl mft mfp mfk mdp mto)] (fun v_ w_ => v_ = some (.int (iI mfk)) ∧ w_ = [(wMo g mo mst mac mmk mr mrd mrm mcm mtp msz mtk mbg men mls mvl mft mfp mfk mdp mto)]) := by
  refine Ct.of (by decide) (Nat.le_of_ble_eq_true rfl) (lv := [(0, .ref (mo 0)), (1, .int (iI v))]) rfl ?_
  intro E hE hR hnm
  refine r_iload_n 1 hE 1 dX9_fault_0 rfl rfl rfl ?_
  refine r_if_ne 4 11 hE dX9_fault_1 rfl (by decide) (by omega) (fun c1 => ?_) (fun c1 => ?_)
  · skip
    omega
  · skip
    refine r_aload_n 5 hE 0 dX9_fault_4 rfl rfl rfl ?_
    refine r_get 8 hE 0 0 ok9 34 dX9_fault_5 rfl wd_1086 rfl rfl (by decide) rfl ?_
    refine r_goto 51 hE dX9_fault_8 (by decide) ?_
    refine r_ireturn hE hR [(wMo g mo mst mac mmk mr mrd mrm mcm mtp msz mtk mbg men mls mvl mft mfp mfk mdp mto)] dX9_fault_51 (Nat.le_of_ble_eq_true rfl) (Nat.le_of_ble_eq_true rfl) rfl ?_
    first
      | exact ⟨retI rfl, rfl⟩
      | exact ⟨retI (by rw [if_pos (by omega)]), rfl⟩
      | exact ⟨retI (by rw [if_neg (by omega)]), rfl⟩
set_option maxHeartbeats 4000000 in
set_option maxRecDepth 100000 in
theorem c_X9_fault_1 {g : Gm} {mo : Nat → Nat} {mst mac mmk mr mrd mrm mcm mtp msz mtk mbg men mls mvl mft mfp mfk mdp mto : Int} {v : Int} (hw : v = 1) (hfk : -1 ≤ mfk ∧ mfk ≤ 9) : Ct g 0 0 0 yX9_fault cX9_fault 2 (some .int) [.ref (mo 0), .int (iI v)] [(wMo g mo mst mac mmk mr mrd mrm mcm mtp msz mtk mbg men mls mvl mft mfp mfk mdp mto)] (fun v_ w_ => v_ = some (.int (iI mfp)) ∧ w_ = [(wMo g mo mst mac mmk mr mrd mrm mcm mtp msz mtk mbg men mls mvl mft mfp mfk mdp mto)]) := by
  refine Ct.of (by decide) (Nat.le_of_ble_eq_true rfl) (lv := [(0, .ref (mo 0)), (1, .int (iI v))]) rfl ?_
  intro E hE hR hnm
  refine r_iload_n 1 hE 1 dX9_fault_0 rfl rfl rfl ?_
  refine r_if_ne 4 11 hE dX9_fault_1 rfl (by decide) (by omega) (fun c1 => ?_) (fun c1 => ?_)
  · skip
    refine r_iload_n 12 hE 1 dX9_fault_11 rfl rfl rfl ?_
    refine r_iconst 13 hE dX9_fault_12 rfl ?_
    refine r_icmp_ne 16 23 hE dX9_fault_13 rfl (by decide) (by omega) (fun c13 => ?_) (fun c13 => ?_)
    · skip
      omega
    · skip
      refine r_aload_n 17 hE 0 dX9_fault_16 rfl rfl rfl ?_
      refine r_get 20 hE 0 0 ok9 33 dX9_fault_17 rfl wd_1085 rfl rfl (by decide) rfl ?_
      refine r_goto 51 hE dX9_fault_20 (by decide) ?_
      refine r_ireturn hE hR [(wMo g mo mst mac mmk mr mrd mrm mcm mtp msz mtk mbg men mls mvl mft mfp mfk mdp mto)] dX9_fault_51 (Nat.le_of_ble_eq_true rfl) (Nat.le_of_ble_eq_true rfl) rfl ?_
      first
        | exact ⟨retI rfl, rfl⟩
        | exact ⟨retI (by rw [if_pos (by omega)]), rfl⟩
        | exact ⟨retI (by rw [if_neg (by omega)]), rfl⟩
  · skip
    omega
set_option maxHeartbeats 4000000 in
set_option maxRecDepth 100000 in
theorem c_X9_fault_2 {g : Gm} {mo : Nat → Nat} {mst mac mmk mr mrd mrm mcm mtp msz mtk mbg men mls mvl mft mfp mfk mdp mto : Int} {v : Int} (hw : v = 2) (hfk : -1 ≤ mfk ∧ mfk ≤ 9) : Ct g 0 0 0 yX9_fault cX9_fault 2 (some .int) [.ref (mo 0), .int (iI v)] [(wMo g mo mst mac mmk mr mrd mrm mcm mtp msz mtk mbg men mls mvl mft mfp mfk mdp mto)] (fun v_ w_ => v_ = some (.int (iI (if mfk < 0 then -1 else (mfk + 1) / 2))) ∧ w_ = [(wMo g mo mst mac mmk mr mrd mrm mcm mtp msz mtk mbg men mls mvl mft mfp mfk mdp mto)]) := by
  refine Ct.of (by decide) (Nat.le_of_ble_eq_true rfl) (lv := [(0, .ref (mo 0)), (1, .int (iI v))]) rfl ?_
  intro E hE hR hnm
  refine r_iload_n 1 hE 1 dX9_fault_0 rfl rfl rfl ?_
  refine r_if_ne 4 11 hE dX9_fault_1 rfl (by decide) (by omega) (fun c1 => ?_) (fun c1 => ?_)
  · skip
    refine r_iload_n 12 hE 1 dX9_fault_11 rfl rfl rfl ?_
    refine r_iconst 13 hE dX9_fault_12 rfl ?_
    refine r_icmp_ne 16 23 hE dX9_fault_13 rfl (by decide) (by omega) (fun c13 => ?_) (fun c13 => ?_)
    · skip
      refine r_iload_n 24 hE 1 dX9_fault_23 rfl rfl rfl ?_
      refine r_iconst 25 hE dX9_fault_24 rfl ?_
      refine r_icmp_ne 28 50 hE dX9_fault_25 rfl (by decide) (by omega) (fun c25 => ?_) (fun c25 => ?_)
      · skip
        omega
      · skip
        refine r_aload_n 29 hE 0 dX9_fault_28 rfl rfl rfl ?_
        refine r_get 32 hE 0 0 ok9 34 dX9_fault_29 rfl wd_1086 rfl rfl (by decide) rfl ?_
        refine r_if_ge 35 39 hE dX9_fault_32 rfl (by decide) (by omega) (fun c32 => ?_) (fun c32 => ?_)
        · skip
          refine r_aload_n 40 hE 0 dX9_fault_39 rfl rfl rfl ?_
          refine r_get 43 hE 0 0 ok9 34 dX9_fault_40 rfl wd_1086 rfl rfl (by decide) rfl ?_
          refine r_iconst 44 hE dX9_fault_43 rfl ?_
          refine r_iadd 45 hE (mfk + 1) dX9_fault_44 rfl rfl ?_
          refine r_iconst 46 hE dX9_fault_45 rfl ?_
          refine r_idiv 47 hE dX9_fault_46 rfl (by omega) ?_
          refine r_goto 51 hE dX9_fault_47 (by decide) ?_
          refine r_ireturn hE hR [(wMo g mo mst mac mmk mr mrd mrm mcm mtp msz mtk mbg men mls mvl mft mfp mfk mdp mto)] dX9_fault_51 (Nat.le_of_ble_eq_true rfl) (Nat.le_of_ble_eq_true rfl) rfl ?_
          first
            | exact ⟨retI rfl, rfl⟩
            | exact ⟨retI (by rw [if_pos (by omega)]), rfl⟩
            | exact ⟨retI (by rw [if_neg (by omega)]), rfl⟩
        · skip
          refine r_iconst 36 hE dX9_fault_35 rfl ?_
          refine r_goto 51 hE dX9_fault_36 (by decide) ?_
          refine r_ireturn hE hR [(wMo g mo mst mac mmk mr mrd mrm mcm mtp msz mtk mbg men mls mvl mft mfp mfk mdp mto)] dX9_fault_51 (Nat.le_of_ble_eq_true rfl) (Nat.le_of_ble_eq_true rfl) rfl ?_
          first
            | exact ⟨retI rfl, rfl⟩
            | exact ⟨retI (by rw [if_pos (by omega)]), rfl⟩
            | exact ⟨retI (by rw [if_neg (by omega)]), rfl⟩
    · skip
      omega
  · skip
    omega
set_option maxHeartbeats 4000000 in
set_option maxRecDepth 100000 in
theorem c_X9_fault_d {g : Gm} {mo : Nat → Nat} {mst mac mmk mr mrd mrm mcm mtp msz mtk mbg men mls mvl mft mfp mfk mdp mto : Int} {v : Int} (hw : (-2147483648 ≤ v ∧ v ≤ 2147483647) ∧ (v < 0 ∨ 2 < v)) (hfk : -1 ≤ mfk ∧ mfk ≤ 9) : Ct g 0 0 0 yX9_fault cX9_fault 2 (some .int) [.ref (mo 0), .int (iI v)] [(wMo g mo mst mac mmk mr mrd mrm mcm mtp msz mtk mbg men mls mvl mft mfp mfk mdp mto)] (fun v_ w_ => v_ = some (.int (iI (-1))) ∧ w_ = [(wMo g mo mst mac mmk mr mrd mrm mcm mtp msz mtk mbg men mls mvl mft mfp mfk mdp mto)]) := by
  refine Ct.of (by decide) (Nat.le_of_ble_eq_true rfl) (lv := [(0, .ref (mo 0)), (1, .int (iI v))]) rfl ?_
  intro E hE hR hnm
  refine r_iload_n 1 hE 1 dX9_fault_0 rfl rfl rfl ?_
  refine r_if_ne 4 11 hE dX9_fault_1 rfl (by decide) (by omega) (fun c1 => ?_) (fun c1 => ?_)
  · skip
    refine r_iload_n 12 hE 1 dX9_fault_11 rfl rfl rfl ?_
    refine r_iconst 13 hE dX9_fault_12 rfl ?_
    refine r_icmp_ne 16 23 hE dX9_fault_13 rfl (by decide) (by omega) (fun c13 => ?_) (fun c13 => ?_)
    · skip
      refine r_iload_n 24 hE 1 dX9_fault_23 rfl rfl rfl ?_
      refine r_iconst 25 hE dX9_fault_24 rfl ?_
      refine r_icmp_ne 28 50 hE dX9_fault_25 rfl (by decide) (by omega) (fun c25 => ?_) (fun c25 => ?_)
      · skip
        refine r_iconst 51 hE dX9_fault_50 rfl ?_
        refine r_ireturn hE hR [(wMo g mo mst mac mmk mr mrd mrm mcm mtp msz mtk mbg men mls mvl mft mfp mfk mdp mto)] dX9_fault_51 (Nat.le_of_ble_eq_true rfl) (Nat.le_of_ble_eq_true rfl) rfl ?_
        first
          | exact ⟨retI rfl, rfl⟩
          | exact ⟨retI (by rw [if_pos (by omega)]), rfl⟩
          | exact ⟨retI (by rw [if_neg (by omega)]), rfl⟩
      · skip
        omega
    · skip
      omega
  · skip
    omega
