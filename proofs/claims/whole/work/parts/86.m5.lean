set_option maxHeartbeats 4000000 in
set_option maxRecDepth 100000 in
theorem c_X9_mix {g : Gm} {x y : Int} : Ct g 0 0 0 yX9_mix cX9_mix 3 (some .int) [.int (iI x), .int (iI y)] [] (fun v_ w_ => v_ = some (.int (iI (mixI x y))) ∧ w_ = []) := by
  refine Ct.of (by decide) (Nat.le_of_ble_eq_true rfl) (lv := [(0, .int (iI x)), (1, .int (iI y))]) rfl ?_
  intro E hE hR hnm
  refine r_iload_n 1 hE 0 dX9_mix_0 rfl rfl rfl ?_
  refine r_iload_n 2 hE 1 dX9_mix_1 rfl rfl rfl ?_
  refine r_ixor 3 hE dX9_mix_2 rfl ?_
  refine r_ldc 5 hE dX9_mix_3 rfl wd_1325 (by decide : _ = iI 16777619) ?_
  refine r_imul 6 hE ((xorI x y) * 16777619) dX9_mix_5 rfl rfl ?_
  refine r_istore_n 7 hE [(2, .int (iI ((xorI x y) * 16777619))), (0, .int (iI x)), (1, .int (iI y))] dX9_mix_6 rfl rfl (by decide) rfl ?_
  refine r_iload_n 8 hE 0 dX9_mix_7 rfl rfl rfl ?_
  refine r_iload_n 9 hE 0 dX9_mix_8 rfl rfl rfl ?_
  refine r_bipush 11 hE dX9_mix_9 rfl (by decide) ?_
  refine r_iushr 12 hE dX9_mix_11 rfl ?_
  refine r_ixor 13 hE dX9_mix_12 rfl ?_
  refine r_ireturn hE hR [] dX9_mix_13 (Nat.le_of_ble_eq_true rfl) (Nat.le_of_ble_eq_true rfl) rfl ?_
  exact ⟨retI (rfl), rfl⟩
set_option maxHeartbeats 4000000 in
set_option maxRecDepth 100000 in
theorem c_X9_forgets {g : Gm} {mo : Nat → Nat} {mst mac mmk mr mrd mrm mcm mtp msz mtk mbg men mls mvl mft mfp mfk mdp mto : Int} {kd on tw sg le de so : Int → Int} {R : Int → Rl} : Ct g 0 0 0 yX9_forgets cX9_forgets 2 none [.ref (mo 0)] [(wMo g mo mst mac mmk mr mrd mrm mcm mtp msz mtk mbg men mls mvl mft mfp mfk mdp mto), (wMTab g mo kd on tw sg le de so)] (fun v_ w_ => ∃ so9 : Int → Int, v_ = none ∧ w_ = [(wMo g mo mst mac mmk 0 mrd mrm mcm mtp msz mtk mbg men mls mvl mft mfp mfk mdp mto), (wMTab g mo kd on tw sg le de so9)] ∧ (MT kd on tw sg le de so9 0 R)) := by
  refine Ct.of (by decide) (Nat.le_of_ble_eq_true rfl) (lv := [(0, .ref (mo 0))]) rfl ?_
  intro E hE hR hnm
  have cut2 : ∀ (N : Nat) (i : Int) (so9 : Int → Int), (0 ≤ i ∧ i ≤ 32768) → (∀ j, 0 ≤ j → j < i → so9 j = -1) → (32768 - i).toNat < N → G g E 2 0 0 [(wMo g mo mst mac mmk mr mrd mrm mcm mtp msz mtk mbg men mls mvl mft mfp mfk mdp mto), (wMTab g mo kd on tw sg le de so9)] 2 [(0, .ref (mo 0)), (1, .int (iI i))] [] := by
    intro N
    induction N with
    | zero => intro i so9 _ _ hN; exact absurd hN (Nat.not_lt_zero _)
    | succ N ih2 =>
      intro i so9 hi hv hN
      refine r_iload_n 3 hE 1 dX9_forgets_2 rfl rfl rfl ?_
      refine r_ldc 5 hE dX9_forgets_3 rfl wd_1051 (by decide : _ = iI 32768) ?_
      refine r_icmp_ge 8 21 hE dX9_forgets_5 rfl (by decide) (by omega) (fun c5 => ?_) (fun c5 => ?_)
      · skip
        refine r_aload_n 22 hE 0 dX9_forgets_21 rfl rfl rfl ?_
        refine r_iconst 23 hE dX9_forgets_22 rfl ?_
        refine r_put 26 hE 0 0 ok9 12 (wMo g mo mst mac mmk 0 mrd mrm mcm mtp msz mtk mbg men mls mvl mft mfp mfk mdp mto) [(wMo g mo mst mac mmk 0 mrd mrm mcm mtp msz mtk mbg men mls mvl mft mfp mfk mdp mto), (wMTab g mo kd on tw sg le de so9)] dX9_forgets_23 rfl wd_1064 rfl rfl (by decide) rfl rfl rfl (Nat.le_of_ble_eq_true rfl) rfl rfl ?_
        refine r_return hE hR [(wMo g mo mst mac mmk 0 mrd mrm mcm mtp msz mtk mbg men mls mvl mft mfp mfk mdp mto), (wMTab g mo kd on tw sg le de so9)] dX9_forgets_26 (Nat.le_of_ble_eq_true rfl) (Nat.le_of_ble_eq_true rfl) rfl ?_
        exact ⟨so9, rfl, rfl, MT.new (fun p a b => hv p a (by omega))⟩
      · skip
        refine r_aload_n 9 hE 0 dX9_forgets_8 rfl rfl rfl ?_
        refine r_get 12 hE 0 0 ok9 11 dX9_forgets_9 rfl wd_1063 rfl rfl (by decide) rfl ?_
        refine r_iload_n 13 hE 1 dX9_forgets_12 rfl rfl rfl ?_
        refine r_iconst 14 hE dX9_forgets_13 rfl ?_
        refine r_iast 15 hE 1 6 (wMTab g mo kd on tw sg le de (up so9 i (-1))) [(wMo g mo mst mac mmk mr mrd mrm mcm mtp msz mtk mbg men mls mvl mft mfp mfk mdp mto), (wMTab g mo kd on tw sg le de (up so9 i (-1)))] dX9_forgets_14 rfl rfl rfl (by omega) rfl rfl ?_
        refine r_iinc 18 hE 1 (i + 1) [(1, .int (iI (i + 1))), (0, .ref (mo 0))] dX9_forgets_15 rfl rfl rfl (by decide) rfl ?_
        refine r_goto 2 hE dX9_forgets_18 (by decide) ?_
        refine G.to (fs' := [(wMo g mo mst mac mmk mr mrd mrm mcm mtp msz mtk mbg men mls mvl mft mfp mfk mdp mto), (wMTab g mo kd on tw sg le de (up so9 i (-1)))]) (lv' := [(0, .ref (mo 0)), (1, .int (iI (i + 1)))]) [0, 1] [1, 0] rfl rfl rfl ?_
        exact ih2 (i + 1) (up so9 i (-1)) (by omega) (by first | exact (fun j a b => if z : j = i then by rw [z, up_same] else by rw [up_ne _ _ z]; exact hv j a (by omega)) | exact (fun j a b => absurd b (by omega))) (by omega)
  refine r_iconst 1 hE dX9_forgets_0 rfl ?_
  refine r_istore_n 2 hE [(1, .int (iI 0)), (0, .ref (mo 0))] dX9_forgets_1 rfl rfl (by decide) rfl ?_
  refine G.to (fs' := [(wMo g mo mst mac mmk mr mrd mrm mcm mtp msz mtk mbg men mls mvl mft mfp mfk mdp mto), (wMTab g mo kd on tw sg le de so)]) (lv' := [(0, .ref (mo 0)), (1, .int (iI 0))]) [0, 1] [1, 0] rfl rfl rfl ?_
  exact cut2 _ 0 so (by omega) (by first | exact (fun j a b => if z : j = i then by rw [z, up_same] else by rw [up_ne _ _ z]; exact hv j a (by omega)) | exact (fun j a b => absurd b (by omega))) (Nat.lt_succ_self _)
set_option maxHeartbeats 4000000 in
set_option maxRecDepth 100000 in
theorem c_X9_ruleOf_0 {g : Gm} {mo : Nat → Nat} {mst mac mmk mr mrd mrm mcm mtp msz mtk mbg men mls mvl mft mfp mfk mdp mto : Int} {kd on tw sg le de so : Int → Int} {R : Int → Rl} {p q : Int} (hT : MT kd on tw sg le de so mr R) (hm : mkMOk R mr 0 p q) (hro : mr < 10400) : Ct g 1 0 0 yX9_ruleOf cX9_ruleOf 6 (some .int) [.ref (mo 0), .int (iI 0), .int (iI p), .int (iI q)] [(wMo g mo mst mac mmk mr mrd mrm mcm mtp msz mtk mbg men mls mvl mft mfp mfk mdp mto), (wMTab g mo kd on tw sg le de so)] (fun v_ w_ => ∃ kd9 : Int → Int, ∃ on9 : Int → Int, ∃ tw9 : Int → Int, ∃ sg9 : Int → Int, ∃ le9 : Int → Int, ∃ de9 : Int → Int, ∃ so9 : Int → Int, ∃ mr9 : Int, ∃ R9 : Int → Rl, ∃ r : Int, v_ = some (.int (iI r)) ∧ w_ = [(wMo g mo mst mac mmk mr9 mrd mrm mcm mtp msz mtk mbg men mls mvl mft mfp mfk mdp mto), (wMTab g mo kd9 on9 tw9 sg9 le9 de9 so9)] ∧ (MT kd9 on9 tw9 sg9 le9 de9 so9 mr9 R9) ∧ (mr ≤ mr9 ∧ mr9 ≤ mr + 1) ∧ (∀ i, 0 ≤ i → i < mr → R9 i = R i) ∧ (0 ≤ r ∧ r < mr9) ∧ (R9 r = mkM R 0 p q) ∧ (mr9 = mr ∨ r = mr)) := by
  refine Ct.of (by decide) (Nat.le_of_ble_eq_true rfl) (lv := [(0, .ref (mo 0)), (1, .int (iI 0)), (2, .int (iI p)), (3, .int (iI q))]) rfl ?_
  intro E hE hR hnm
  have hcn := hT.1
  have hpq := hm.1
  obtain ⟨h, hh⟩ : ∃ h : Int, h = hmS 0 p q := ⟨_, rfl⟩
  have cut15 : ∀ (N : Nat) (d : Int), (0 ≤ d ∧ d ≤ 32768) → (∀ e, 0 ≤ e → e < d → so (slt h e) ≠ -1 ∧ ¬ (kd (so (slt h e)) = 0 ∧ on (so (slt h e)) = p ∧ tw (so (slt h e)) = q)) → (mr + 1 - d).toNat < N → G g E 6 0 0 [(wMo g mo mst mac mmk mr mrd mrm mcm mtp msz mtk mbg men mls mvl mft mfp mfk mdp mto), (wMTab g mo kd on tw sg le de so)] 15 [(0, .ref (mo 0)), (1, .int (iI 0)), (2, .int (iI p)), (3, .int (iI q)), (4, .int (iI (slt h d)))] [] := by
    intro N
    induction N with
    | zero => intro d _ _ hN; exact absurd hN (Nat.not_lt_zero _)
    | succ N ih15 =>
      intro d hd hps hN
      have hdl := hT.2.2.2.probe hcn.1 hd (fun e a b => (hps e a b).1)
      have hsr := slt_rg h d
      have hsv := hT.2.2.2.1 (slt h d) hsr.1 hsr.2
      refine r_aload_n 16 hE 0 dX9_ruleOf_15 rfl rfl rfl ?_
      refine r_get 19 hE 0 0 ok9 11 dX9_ruleOf_16 rfl wd_1063 rfl rfl (by decide) rfl ?_
      refine r_iload 21 hE 4 dX9_ruleOf_19 rfl rfl ?_
      refine r_iald 22 hE 1 6 dX9_ruleOf_21 rfl rfl rfl (by omega) ?_
      refine r_iconst 23 hE dX9_ruleOf_22 rfl ?_
      refine r_icmp_eq 26 84 hE dX9_ruleOf_23 rfl (by decide) (by omega) (fun c23 => ?_) (fun c23 => ?_)
      · skip
        have hf : so (slt (hmS 0 p q) d) = -1 := by rw [← hh]; exact c23
        have hp9 : ∀ e, 0 ≤ e → e < d → so (slt (hmS 0 p q) e) ≠ -1 ∧ ¬ (kd (so (slt (hmS 0 p q) e)) = 0 ∧ on (so (slt (hmS 0 p q) e)) = p ∧ tw (so (slt (hmS 0 p q) e)) = q) := by rw [← hh]; exact hps
        have hno := hT.miss hm ⟨hd.1, by omega⟩ hf hp9
        have hPush := hT.push (s := mixI 7 (p + 1)) (l := 1) (e9 := 0) hm hro hno ⟨hd.1, by omega⟩ hf (fun e a b => (hp9 e a b).1) (by show mixI 7 (p + 1) = mixI 7 (((p.toNat : Nat) : Int) + 1); rw [Int.toNat_of_nonneg (by omega)]) (rfl) (rfl)
        rw [← hh] at hPush
        refine r_aload_n 85 hE 0 dX9_ruleOf_84 rfl rfl rfl ?_
        refine r_get 88 hE 0 0 ok9 12 dX9_ruleOf_85 rfl wd_1064 rfl rfl (by decide) rfl ?_
        refine r_istore 90 hE [(5, .int (iI mr)), (0, .ref (mo 0)), (1, .int (iI 0)), (2, .int (iI p)), (3, .int (iI q)), (4, .int (iI (slt h d)))] dX9_ruleOf_88 rfl (by decide) rfl ?_
        refine r_aload_n 91 hE 1 dX9_ruleOf_90 rfl rfl rfl ?_
        refine r_dup 92 hE dX9_ruleOf_91 rfl rfl ?_
        refine r_get 95 hE 0 0 ok9 12 dX9_ruleOf_92 rfl wd_1064 rfl rfl (by decide) rfl ?_
        refine r_iconst 96 hE dX9_ruleOf_95 rfl ?_
        refine r_iadd 97 hE (mr + 1) dX9_ruleOf_96 rfl rfl ?_
        refine r_put 100 hE 0 0 ok9 12 (wMo g mo mst mac mmk (mr + 1) mrd mrm mcm mtp msz mtk mbg men mls mvl mft mfp mfk mdp mto) [(wMo g mo mst mac mmk (mr + 1) mrd mrm mcm mtp msz mtk mbg men mls mvl mft mfp mfk mdp mto), (wMTab g mo kd on tw sg le de so)] dX9_ruleOf_97 rfl wd_1064 rfl rfl (by decide) rfl rfl rfl (Nat.le_of_ble_eq_true rfl) rfl rfl ?_
        refine r_aload_n 101 hE 1 dX9_ruleOf_100 rfl rfl rfl ?_
        refine r_get 104 hE 0 0 ok9 11 dX9_ruleOf_101 rfl wd_1063 rfl rfl (by decide) rfl ?_
        refine r_iload 106 hE 5 dX9_ruleOf_104 rfl rfl ?_
        refine r_iload 108 hE 0 dX9_ruleOf_106 rfl rfl ?_
        refine r_iast 109 hE 1 6 (wMTab g mo kd on tw sg le de (up so (slt h d) mr)) [(wMo g mo mst mac mmk (mr + 1) mrd mrm mcm mtp msz mtk mbg men mls mvl mft mfp mfk mdp mto), (wMTab g mo kd on tw sg le de (up so (slt h d) mr))] dX9_ruleOf_108 rfl rfl rfl (by omega) rfl rfl ?_
        refine r_aload_n 110 hE 1 dX9_ruleOf_109 rfl rfl rfl ?_
        refine r_get 113 hE 0 0 ok9 5 dX9_ruleOf_110 rfl wd_1057 rfl rfl (by decide) rfl ?_
        refine r_iload 115 hE 0 dX9_ruleOf_113 rfl rfl ?_
        refine r_iload_n 116 hE 2 dX9_ruleOf_115 rfl rfl rfl ?_
        refine r_iast 117 hE 1 0 (wMTab g mo (up kd mr 0) on tw sg le de (up so (slt h d) mr)) [(wMo g mo mst mac mmk (mr + 1) mrd mrm mcm mtp msz mtk mbg men mls mvl mft mfp mfk mdp mto), (wMTab g mo (up kd mr 0) on tw sg le de (up so (slt h d) mr))] dX9_ruleOf_116 rfl rfl rfl (by omega) rfl rfl ?_
        refine r_aload_n 118 hE 1 dX9_ruleOf_117 rfl rfl rfl ?_
        refine r_get 121 hE 0 0 ok9 6 dX9_ruleOf_118 rfl wd_1058 rfl rfl (by decide) rfl ?_
        refine r_iload 123 hE 0 dX9_ruleOf_121 rfl rfl ?_
        refine r_iload_n 124 hE 3 dX9_ruleOf_123 rfl rfl rfl ?_
        refine r_iast 125 hE 1 1 (wMTab g mo (up kd mr 0) (up on mr p) tw sg le de (up so (slt h d) mr)) [(wMo g mo mst mac mmk (mr + 1) mrd mrm mcm mtp msz mtk mbg men mls mvl mft mfp mfk mdp mto), (wMTab g mo (up kd mr 0) (up on mr p) tw sg le de (up so (slt h d) mr))] dX9_ruleOf_124 rfl rfl rfl (by omega) rfl rfl ?_
        refine r_aload_n 126 hE 1 dX9_ruleOf_125 rfl rfl rfl ?_
        refine r_get 129 hE 0 0 ok9 7 dX9_ruleOf_126 rfl wd_1059 rfl rfl (by decide) rfl ?_
        refine r_iload 131 hE 0 dX9_ruleOf_129 rfl rfl ?_
        refine r_iload_n 132 hE 4 dX9_ruleOf_131 rfl rfl rfl ?_
        refine r_iast 133 hE 1 2 (wMTab g mo (up kd mr 0) (up on mr p) (up tw mr q) sg le de (up so (slt h d) mr)) [(wMo g mo mst mac mmk (mr + 1) mrd mrm mcm mtp msz mtk mbg men mls mvl mft mfp mfk mdp mto), (wMTab g mo (up kd mr 0) (up on mr p) (up tw mr q) sg le de (up so (slt h d) mr))] dX9_ruleOf_132 rfl rfl rfl (by omega) rfl rfl ?_
        refine r_aload_n 134 hE 1 dX9_ruleOf_133 rfl rfl rfl ?_
        refine r_get 137 hE 0 0 ok9 8 dX9_ruleOf_134 rfl wd_1060 rfl rfl (by decide) rfl ?_
        refine r_iload 139 hE 0 dX9_ruleOf_137 rfl rfl ?_
        refine r_iload_n 140 hE 2 dX9_ruleOf_139 rfl rfl rfl ?_
        refine r_if_ne 143 154 hE dX9_ruleOf_140 rfl (by decide) (by omega) (fun c140 => ?_) (fun c140 => ?_)
        · skip
          omega
        · skip
          refine r_bipush 145 hE dX9_ruleOf_143 rfl (by decide) ?_
          refine r_iload_n 146 hE 3 dX9_ruleOf_145 rfl rfl rfl ?_
          refine r_iconst 147 hE dX9_ruleOf_146 rfl ?_
          refine r_iadd 148 hE (p + 1) dX9_ruleOf_147 rfl rfl ?_
          refine r_callS 151 hE [] [0, 1] [] [(wMo g mo mst mac mmk (mr + 1) mrd mrm mcm mtp msz mtk mbg men mls mvl mft mfp mfk mdp mto), (wMTab g mo (up kd mr 0) (up on mr p) (up tw mr q) sg le de (up so (slt h d) mr))] [.int (iI mr), .ref (mo 6)] (c_X9_mix) dX9_ruleOf_148 rfl wd_1322 wd_1323 wd_12 wd_1324 ne_X9 np_X9_mix (Nat.le_of_ble_eq_true rfl)  (by decide) (by decide) rfl (Nat.le_of_ble_eq_true rfl) rfl rfl rfl rfl (by decide) (fun v1 f1 hp => ?_)
          obtain ⟨rfl, rfl⟩ := hp
          show G g E _ _ _ [(wMo g mo mst mac mmk (mr + 1) mrd mrm mcm mtp msz mtk mbg men mls mvl mft mfp mfk mdp mto), (wMTab g mo (up kd mr 0) (up on mr p) (up tw mr q) sg le de (up so (slt h d) mr))] 151 [(5, .int (iI mr)), (0, .ref (mo 0)), (1, .int (iI 0)), (2, .int (iI p)), (3, .int (iI q)), (4, .int (iI (slt h d)))] [.int (iI (mixI 7 (p + 1))), .int (iI mr), .ref (mo 6)]
          refine r_goto 197 hE dX9_ruleOf_151 (by decide) ?_
          refine r_iast 198 hE 1 3 (wMTab g mo (up kd mr 0) (up on mr p) (up tw mr q) (up sg mr (mixI 7 (p + 1))) le de (up so (slt h d) mr)) [(wMo g mo mst mac mmk (mr + 1) mrd mrm mcm mtp msz mtk mbg men mls mvl mft mfp mfk mdp mto), (wMTab g mo (up kd mr 0) (up on mr p) (up tw mr q) (up sg mr (mixI 7 (p + 1))) le de (up so (slt h d) mr))] dX9_ruleOf_197 rfl rfl rfl (by omega) rfl rfl ?_
          refine r_aload_n 199 hE 1 dX9_ruleOf_198 rfl rfl rfl ?_
          refine r_get 202 hE 0 0 ok9 9 dX9_ruleOf_199 rfl wd_1061 rfl rfl (by decide) rfl ?_
          refine r_iload 204 hE 0 dX9_ruleOf_202 rfl rfl ?_
          refine r_iload_n 205 hE 2 dX9_ruleOf_204 rfl rfl rfl ?_
          refine r_if_ne 208 212 hE dX9_ruleOf_205 rfl (by decide) (by omega) (fun c205 => ?_) (fun c205 => ?_)
          · skip
            omega
          · skip
            refine r_iconst 209 hE dX9_ruleOf_208 rfl ?_
            refine r_goto 241 hE dX9_ruleOf_209 (by decide) ?_
            refine r_iast 242 hE 1 4 (wMTab g mo (up kd mr 0) (up on mr p) (up tw mr q) (up sg mr (mixI 7 (p + 1))) (up le mr 1) de (up so (slt h d) mr)) [(wMo g mo mst mac mmk (mr + 1) mrd mrm mcm mtp msz mtk mbg men mls mvl mft mfp mfk mdp mto), (wMTab g mo (up kd mr 0) (up on mr p) (up tw mr q) (up sg mr (mixI 7 (p + 1))) (up le mr 1) de (up so (slt h d) mr))] dX9_ruleOf_241 rfl rfl rfl (by omega) rfl rfl ?_
            refine r_aload_n 243 hE 1 dX9_ruleOf_242 rfl rfl rfl ?_
            refine r_get 246 hE 0 0 ok9 10 dX9_ruleOf_243 rfl wd_1062 rfl rfl (by decide) rfl ?_
            refine r_iload 248 hE 0 dX9_ruleOf_246 rfl rfl ?_
            refine r_iload_n 249 hE 2 dX9_ruleOf_248 rfl rfl rfl ?_
            refine r_if_ne 252 256 hE dX9_ruleOf_249 rfl (by decide) (by omega) (fun c249 => ?_) (fun c249 => ?_)
            · skip
              omega
            · skip
              refine r_iconst 253 hE dX9_ruleOf_252 rfl ?_
              refine r_goto 289 hE dX9_ruleOf_253 (by decide) ?_
              refine r_iast 290 hE 1 5 (wMTab g mo (up kd mr 0) (up on mr p) (up tw mr q) (up sg mr (mixI 7 (p + 1))) (up le mr 1) (up de mr 0) (up so (slt h d) mr)) [(wMo g mo mst mac mmk (mr + 1) mrd mrm mcm mtp msz mtk mbg men mls mvl mft mfp mfk mdp mto), (wMTab g mo (up kd mr 0) (up on mr p) (up tw mr q) (up sg mr (mixI 7 (p + 1))) (up le mr 1) (up de mr 0) (up so (slt h d) mr))] dX9_ruleOf_289 rfl rfl rfl (by omega) rfl rfl ?_
              refine r_iload 292 hE 0 dX9_ruleOf_290 rfl rfl ?_
              refine r_ireturn hE hR [(wMo g mo mst mac mmk (mr + 1) mrd mrm mcm mtp msz mtk mbg men mls mvl mft mfp mfk mdp mto), (wMTab g mo (up kd mr 0) (up on mr p) (up tw mr q) (up sg mr (mixI 7 (p + 1))) (up le mr 1) (up de mr 0) (up so (slt h d) mr))] dX9_ruleOf_292 (Nat.le_of_ble_eq_true rfl) (Nat.le_of_ble_eq_true rfl) rfl ?_
              exact ⟨_, _, _, _, _, _, _, mr + 1, upR R mr (mkM R 0 p q), mr, rfl, rfl, hPush, by omega, fun i a b => upR_ne _ _ (by omega), by omega, upR_same _ _ _, Or.inr rfl⟩
      · skip
        have hv := hsv.resolve_left c23
        have hxr := (hT.2.1 _ hv.1 hv.2).rg (by omega)
        refine r_aload_n 27 hE 0 dX9_ruleOf_26 rfl rfl rfl ?_
        refine r_get 30 hE 0 0 ok9 11 dX9_ruleOf_27 rfl wd_1063 rfl rfl (by decide) rfl ?_
        refine r_iload 32 hE 4 dX9_ruleOf_30 rfl rfl ?_
        refine r_iald 33 hE 1 6 dX9_ruleOf_32 rfl rfl rfl (by omega) ?_
        refine r_istore 35 hE [(5, .int (iI (so (slt h d)))), (0, .ref (mo 0)), (1, .int (iI 0)), (2, .int (iI p)), (3, .int (iI q)), (4, .int (iI (slt h d)))] dX9_ruleOf_33 rfl (by decide) rfl ?_
        refine r_aload_n 36 hE 1 dX9_ruleOf_35 rfl rfl rfl ?_
        refine r_get 39 hE 0 0 ok9 5 dX9_ruleOf_36 rfl wd_1057 rfl rfl (by decide) rfl ?_
        refine r_iload 41 hE 0 dX9_ruleOf_39 rfl rfl ?_
        refine r_iald 42 hE 1 0 dX9_ruleOf_41 rfl rfl rfl (by omega) ?_
        refine r_iload_n 43 hE 2 dX9_ruleOf_42 rfl rfl rfl ?_
        refine r_icmp_ne 46 71 hE dX9_ruleOf_43 rfl (by decide) (by omega) (fun c43 => ?_) (fun c43 => ?_)
        · skip
          have hps2 : ∀ e, 0 ≤ e → e < d + 1 → so (slt h e) ≠ -1 ∧ ¬ (kd (so (slt h e)) = 0 ∧ on (so (slt h e)) = p ∧ tw (so (slt h e)) = q) := fun e a b => by
            by_cases z : e = d
            · subst z; exact ⟨c23, fun y => by omega⟩
            · exact hps e a (by omega)
          refine r_iload 73 hE 5 dX9_ruleOf_71 rfl rfl ?_
          refine r_iconst 74 hE dX9_ruleOf_73 rfl ?_
          refine r_iadd 75 hE ((slt h d) + 1) dX9_ruleOf_74 rfl rfl ?_
          refine r_sipush 78 hE dX9_ruleOf_75 rfl (by decide) ?_
          refine r_iand 79 hE dX9_ruleOf_78 rfl ?_
          refine r_istore 81 hE [(4, .int (iI (andI ((slt h d) + 1) 32767))), (5, .int (iI (so (slt h d)))), (0, .ref (mo 0)), (1, .int (iI 0)), (2, .int (iI p)), (3, .int (iI q))] dX9_ruleOf_79 rfl (by decide) rfl ?_
          refine r_goto 15 hE dX9_ruleOf_81 (by decide) ?_
          refine G.to (fs' := [(wMo g mo mst mac mmk mr mrd mrm mcm mtp msz mtk mbg men mls mvl mft mfp mfk mdp mto), (wMTab g mo kd on tw sg le de so)]) (lv' := [(0, .ref (mo 0)), (1, .int (iI 0)), (2, .int (iI p)), (3, .int (iI q)), (4, .int (iI (andI ((slt h d) + 1) 32767)))]) [0, 1] [2, 3, 4, 5, 0] rfl rfl rfl ?_
          refine G.cast (fs' := [(wMo g mo mst mac mmk mr mrd mrm mcm mtp msz mtk mbg men mls mvl mft mfp mfk mdp mto), (wMTab g mo kd on tw sg le de so)]) (lv' := [(0, .ref (mo 0)), (1, .int (iI 0)), (2, .int (iI p)), (3, .int (iI q)), (4, .int (iI (slt h _)))]) rfl (congrArg (fun z9 : Int => ([(0, .ref (mo 0)), (1, .int (iI 0)), (2, .int (iI p)), (3, .int (iI q)), (4, .int (iI z9))] : List (Nat × Value))) (show (andI ((slt h d) + 1) 32767 : Int) = slt h _ from by first | exact slt_s h d | (rw [hh]; exact slt_0 (hmS_rg _ _ _)))) ?_
          exact ih15 _ (by omega) (by first | exact hps2 | exact (fun e a b => absurd b (by omega))) (by omega)
        · skip
          refine r_aload_n 47 hE 1 dX9_ruleOf_46 rfl rfl rfl ?_
          refine r_get 50 hE 0 0 ok9 6 dX9_ruleOf_47 rfl wd_1058 rfl rfl (by decide) rfl ?_
          refine r_iload 52 hE 0 dX9_ruleOf_50 rfl rfl ?_
          refine r_iald 53 hE 1 1 dX9_ruleOf_52 rfl rfl rfl (by omega) ?_
          refine r_iload_n 54 hE 3 dX9_ruleOf_53 rfl rfl rfl ?_
          refine r_icmp_ne 57 71 hE dX9_ruleOf_54 rfl (by decide) (by omega) (fun c54 => ?_) (fun c54 => ?_)
          · skip
            have hps2 : ∀ e, 0 ≤ e → e < d + 1 → so (slt h e) ≠ -1 ∧ ¬ (kd (so (slt h e)) = 0 ∧ on (so (slt h e)) = p ∧ tw (so (slt h e)) = q) := fun e a b => by
              by_cases z : e = d
              · subst z; exact ⟨c23, fun y => by omega⟩
              · exact hps e a (by omega)
            refine r_iload 73 hE 5 dX9_ruleOf_71 rfl rfl ?_
            refine r_iconst 74 hE dX9_ruleOf_73 rfl ?_
            refine r_iadd 75 hE ((slt h d) + 1) dX9_ruleOf_74 rfl rfl ?_
            refine r_sipush 78 hE dX9_ruleOf_75 rfl (by decide) ?_
            refine r_iand 79 hE dX9_ruleOf_78 rfl ?_
            refine r_istore 81 hE [(4, .int (iI (andI ((slt h d) + 1) 32767))), (5, .int (iI (so (slt h d)))), (0, .ref (mo 0)), (1, .int (iI 0)), (2, .int (iI p)), (3, .int (iI q))] dX9_ruleOf_79 rfl (by decide) rfl ?_
            refine r_goto 15 hE dX9_ruleOf_81 (by decide) ?_
            refine G.to (fs' := [(wMo g mo mst mac mmk mr mrd mrm mcm mtp msz mtk mbg men mls mvl mft mfp mfk mdp mto), (wMTab g mo kd on tw sg le de so)]) (lv' := [(0, .ref (mo 0)), (1, .int (iI 0)), (2, .int (iI p)), (3, .int (iI q)), (4, .int (iI (andI ((slt h d) + 1) 32767)))]) [0, 1] [2, 3, 4, 5, 0] rfl rfl rfl ?_
            refine G.cast (fs' := [(wMo g mo mst mac mmk mr mrd mrm mcm mtp msz mtk mbg men mls mvl mft mfp mfk mdp mto), (wMTab g mo kd on tw sg le de so)]) (lv' := [(0, .ref (mo 0)), (1, .int (iI 0)), (2, .int (iI p)), (3, .int (iI q)), (4, .int (iI (slt h _)))]) rfl (congrArg (fun z9 : Int => ([(0, .ref (mo 0)), (1, .int (iI 0)), (2, .int (iI p)), (3, .int (iI q)), (4, .int (iI z9))] : List (Nat × Value))) (show (andI ((slt h d) + 1) 32767 : Int) = slt h _ from by first | exact slt_s h d | (rw [hh]; exact slt_0 (hmS_rg _ _ _)))) ?_
            exact ih15 _ (by omega) (by first | exact hps2 | exact (fun e a b => absurd b (by omega))) (by omega)
          · skip
            refine r_aload_n 58 hE 1 dX9_ruleOf_57 rfl rfl rfl ?_
            refine r_get 61 hE 0 0 ok9 7 dX9_ruleOf_58 rfl wd_1059 rfl rfl (by decide) rfl ?_
            refine r_iload 63 hE 0 dX9_ruleOf_61 rfl rfl ?_
            refine r_iald 64 hE 1 2 dX9_ruleOf_63 rfl rfl rfl (by omega) ?_
            refine r_iload_n 65 hE 4 dX9_ruleOf_64 rfl rfl rfl ?_
            refine r_icmp_ne 68 71 hE dX9_ruleOf_65 rfl (by decide) (by omega) (fun c65 => ?_) (fun c65 => ?_)
            · skip
              have hps2 : ∀ e, 0 ≤ e → e < d + 1 → so (slt h e) ≠ -1 ∧ ¬ (kd (so (slt h e)) = 0 ∧ on (so (slt h e)) = p ∧ tw (so (slt h e)) = q) := fun e a b => by
                by_cases z : e = d
                · subst z; exact ⟨c23, fun y => by omega⟩
                · exact hps e a (by omega)
              refine r_iload 73 hE 5 dX9_ruleOf_71 rfl rfl ?_
              refine r_iconst 74 hE dX9_ruleOf_73 rfl ?_
              refine r_iadd 75 hE ((slt h d) + 1) dX9_ruleOf_74 rfl rfl ?_
              refine r_sipush 78 hE dX9_ruleOf_75 rfl (by decide) ?_
              refine r_iand 79 hE dX9_ruleOf_78 rfl ?_
              refine r_istore 81 hE [(4, .int (iI (andI ((slt h d) + 1) 32767))), (5, .int (iI (so (slt h d)))), (0, .ref (mo 0)), (1, .int (iI 0)), (2, .int (iI p)), (3, .int (iI q))] dX9_ruleOf_79 rfl (by decide) rfl ?_
              refine r_goto 15 hE dX9_ruleOf_81 (by decide) ?_
              refine G.to (fs' := [(wMo g mo mst mac mmk mr mrd mrm mcm mtp msz mtk mbg men mls mvl mft mfp mfk mdp mto), (wMTab g mo kd on tw sg le de so)]) (lv' := [(0, .ref (mo 0)), (1, .int (iI 0)), (2, .int (iI p)), (3, .int (iI q)), (4, .int (iI (andI ((slt h d) + 1) 32767)))]) [0, 1] [2, 3, 4, 5, 0] rfl rfl rfl ?_
              refine G.cast (fs' := [(wMo g mo mst mac mmk mr mrd mrm mcm mtp msz mtk mbg men mls mvl mft mfp mfk mdp mto), (wMTab g mo kd on tw sg le de so)]) (lv' := [(0, .ref (mo 0)), (1, .int (iI 0)), (2, .int (iI p)), (3, .int (iI q)), (4, .int (iI (slt h _)))]) rfl (congrArg (fun z9 : Int => ([(0, .ref (mo 0)), (1, .int (iI 0)), (2, .int (iI p)), (3, .int (iI q)), (4, .int (iI z9))] : List (Nat × Value))) (show (andI ((slt h d) + 1) 32767 : Int) = slt h _ from by first | exact slt_s h d | (rw [hh]; exact slt_0 (hmS_rg _ _ _)))) ?_
              exact ih15 _ (by omega) (by first | exact hps2 | exact (fun e a b => absurd b (by omega))) (by omega)
            · skip
              refine r_iload 70 hE 0 dX9_ruleOf_68 rfl rfl ?_
              refine r_ireturn hE hR [(wMo g mo mst mac mmk mr mrd mrm mcm mtp msz mtk mbg men mls mvl mft mfp mfk mdp mto), (wMTab g mo kd on tw sg le de so)] dX9_ruleOf_70 (Nat.le_of_ble_eq_true rfl) (Nat.le_of_ble_eq_true rfl) rfl ?_
              exact ⟨kd, on, tw, sg, le, de, so, mr, R, so (slt h d), rfl, rfl, hT, by omega, fun _ _ _ => rfl, by omega, hT.hit hm hv c43 c54 c65, Or.inl rfl⟩
  refine r_iload_n 1 hE 1 dX9_ruleOf_0 rfl rfl rfl ?_
  refine r_iload_n 2 hE 2 dX9_ruleOf_1 rfl rfl rfl ?_
  refine r_callS 5 hE [] [0, 1] [] [(wMo g mo mst mac mmk mr mrd mrm mcm mtp msz mtk mbg men mls mvl mft mfp mfk mdp mto), (wMTab g mo kd on tw sg le de so)] [] (c_X9_mix) dX9_ruleOf_2 rfl wd_1322 wd_1323 wd_12 wd_1324 ne_X9 np_X9_mix (Nat.le_of_ble_eq_true rfl)  (by decide) (by decide) rfl (Nat.le_of_ble_eq_true rfl) rfl rfl rfl rfl (by decide) (fun v1 f1 hp => ?_)
  obtain ⟨rfl, rfl⟩ := hp
  show G g E _ _ _ [(wMo g mo mst mac mmk mr mrd mrm mcm mtp msz mtk mbg men mls mvl mft mfp mfk mdp mto), (wMTab g mo kd on tw sg le de so)] 5 [(0, .ref (mo 0)), (1, .int (iI 0)), (2, .int (iI p)), (3, .int (iI q))] [.int (iI (mixI 0 p))]
  refine r_iload_n 6 hE 3 dX9_ruleOf_5 rfl rfl rfl ?_
  refine r_callS 9 hE [] [0, 1] [] [(wMo g mo mst mac mmk mr mrd mrm mcm mtp msz mtk mbg men mls mvl mft mfp mfk mdp mto), (wMTab g mo kd on tw sg le de so)] [] (c_X9_mix) dX9_ruleOf_6 rfl wd_1322 wd_1323 wd_12 wd_1324 ne_X9 np_X9_mix (Nat.le_of_ble_eq_true rfl)  (by decide) (by decide) rfl (Nat.le_of_ble_eq_true rfl) rfl rfl rfl rfl (by decide) (fun v1 f1 hp => ?_)
  obtain ⟨rfl, rfl⟩ := hp
  show G g E _ _ _ [(wMo g mo mst mac mmk mr mrd mrm mcm mtp msz mtk mbg men mls mvl mft mfp mfk mdp mto), (wMTab g mo kd on tw sg le de so)] 9 [(0, .ref (mo 0)), (1, .int (iI 0)), (2, .int (iI p)), (3, .int (iI q))] [.int (iI (mixI (mixI 0 p) q))]
  refine r_sipush 12 hE dX9_ruleOf_9 rfl (by decide) ?_
  refine r_iand 13 hE dX9_ruleOf_12 rfl ?_
  refine r_istore 15 hE [(4, .int (iI (andI (mixI (mixI 0 p) q) 32767))), (0, .ref (mo 0)), (1, .int (iI 0)), (2, .int (iI p)), (3, .int (iI q))] dX9_ruleOf_13 rfl (by decide) rfl ?_
  refine G.to (fs' := [(wMo g mo mst mac mmk mr mrd mrm mcm mtp msz mtk mbg men mls mvl mft mfp mfk mdp mto), (wMTab g mo kd on tw sg le de so)]) (lv' := [(0, .ref (mo 0)), (1, .int (iI 0)), (2, .int (iI p)), (3, .int (iI q)), (4, .int (iI (andI (mixI (mixI 0 p) q) 32767)))]) [0, 1] [1, 2, 3, 4, 0] rfl rfl rfl ?_
  refine G.cast (fs' := [(wMo g mo mst mac mmk mr mrd mrm mcm mtp msz mtk mbg men mls mvl mft mfp mfk mdp mto), (wMTab g mo kd on tw sg le de so)]) (lv' := [(0, .ref (mo 0)), (1, .int (iI 0)), (2, .int (iI p)), (3, .int (iI q)), (4, .int (iI (slt h _)))]) rfl (congrArg (fun z9 : Int => ([(0, .ref (mo 0)), (1, .int (iI 0)), (2, .int (iI p)), (3, .int (iI q)), (4, .int (iI z9))] : List (Nat × Value))) (show (andI (mixI (mixI 0 p) q) 32767 : Int) = slt h _ from by first | exact slt_s h d | (rw [hh]; exact slt_0 (hmS_rg _ _ _)))) ?_
  exact cut15 _ _ (by omega) (by first | exact hps2 | exact (fun e a b => absurd b (by omega))) (Nat.lt_succ_self _)
set_option maxHeartbeats 4000000 in
set_option maxRecDepth 100000 in
theorem c_X9_ruleOf_1 {g : Gm} {mo : Nat → Nat} {mst mac mmk mr mrd mrm mcm mtp msz mtk mbg men mls mvl mft mfp mfk mdp mto : Int} {kd on tw sg le de so : Int → Int} {R : Int → Rl} {p q : Int} (hT : MT kd on tw sg le de so mr R) (hm : mkMOk R mr 1 p q) (hro : mr < 10400) : Ct g 1 0 0 yX9_ruleOf cX9_ruleOf 6 (some .int) [.ref (mo 0), .int (iI 1), .int (iI p), .int (iI q)] [(wMo g mo mst mac mmk mr mrd mrm mcm mtp msz mtk mbg men mls mvl mft mfp mfk mdp mto), (wMTab g mo kd on tw sg le de so)] (fun v_ w_ => ∃ kd9 : Int → Int, ∃ on9 : Int → Int, ∃ tw9 : Int → Int, ∃ sg9 : Int → Int, ∃ le9 : Int → Int, ∃ de9 : Int → Int, ∃ so9 : Int → Int, ∃ mr9 : Int, ∃ R9 : Int → Rl, ∃ r : Int, v_ = some (.int (iI r)) ∧ w_ = [(wMo g mo mst mac mmk mr9 mrd mrm mcm mtp msz mtk mbg men mls mvl mft mfp mfk mdp mto), (wMTab g mo kd9 on9 tw9 sg9 le9 de9 so9)] ∧ (MT kd9 on9 tw9 sg9 le9 de9 so9 mr9 R9) ∧ (mr ≤ mr9 ∧ mr9 ≤ mr + 1) ∧ (∀ i, 0 ≤ i → i < mr → R9 i = R i) ∧ (0 ≤ r ∧ r < mr9) ∧ (R9 r = mkM R 1 p q) ∧ (mr9 = mr ∨ r = mr)) := by
  refine Ct.of (by decide) (Nat.le_of_ble_eq_true rfl) (lv := [(0, .ref (mo 0)), (1, .int (iI 1)), (2, .int (iI p)), (3, .int (iI q))]) rfl ?_
  intro E hE hR hnm
  have hcn := hT.1
  have hpq := hm.1
  obtain ⟨h, hh⟩ : ∃ h : Int, h = hmS 1 p q := ⟨_, rfl⟩
  have cut15 : ∀ (N : Nat) (d : Int), (0 ≤ d ∧ d ≤ 32768) → (∀ e, 0 ≤ e → e < d → so (slt h e) ≠ -1 ∧ ¬ (kd (so (slt h e)) = 1 ∧ on (so (slt h e)) = p ∧ tw (so (slt h e)) = q)) → (mr + 1 - d).toNat < N → G g E 6 0 0 [(wMo g mo mst mac mmk mr mrd mrm mcm mtp msz mtk mbg men mls mvl mft mfp mfk mdp mto), (wMTab g mo kd on tw sg le de so)] 15 [(0, .ref (mo 0)), (1, .int (iI 1)), (2, .int (iI p)), (3, .int (iI q)), (4, .int (iI (slt h d)))] [] := by
    intro N
    induction N with
    | zero => intro d _ _ hN; exact absurd hN (Nat.not_lt_zero _)
    | succ N ih15 =>
      intro d hd hps hN
      have hdl := hT.2.2.2.probe hcn.1 hd (fun e a b => (hps e a b).1)
      have hsr := slt_rg h d
      have hsv := hT.2.2.2.1 (slt h d) hsr.1 hsr.2
      refine r_aload_n 16 hE 0 dX9_ruleOf_15 rfl rfl rfl ?_
      refine r_get 19 hE 0 0 ok9 11 dX9_ruleOf_16 rfl wd_1063 rfl rfl (by decide) rfl ?_
      refine r_iload 21 hE 4 dX9_ruleOf_19 rfl rfl ?_
      refine r_iald 22 hE 1 6 dX9_ruleOf_21 rfl rfl rfl (by omega) ?_
      refine r_iconst 23 hE dX9_ruleOf_22 rfl ?_
      refine r_icmp_eq 26 84 hE dX9_ruleOf_23 rfl (by decide) (by omega) (fun c23 => ?_) (fun c23 => ?_)
      · skip
        have hf : so (slt (hmS 1 p q) d) = -1 := by rw [← hh]; exact c23
        have hp9 : ∀ e, 0 ≤ e → e < d → so (slt (hmS 1 p q) e) ≠ -1 ∧ ¬ (kd (so (slt (hmS 1 p q) e)) = 1 ∧ on (so (slt (hmS 1 p q) e)) = p ∧ tw (so (slt (hmS 1 p q) e)) = q) := by rw [← hh]; exact hps
        have hno := hT.miss hm ⟨hd.1, by omega⟩ hf hp9
        have hPush := hT.push (s := mixI (mixI 13 (sg p)) (sg q)) (l := le p + le q) (e9 := 1 + max (de p) (de q)) hm hro hno ⟨hd.1, by omega⟩ hf (fun e a b => (hp9 e a b).1) (by rw [mkM_1, (hT.2.1 p (by omega) (by omega)).2.1, (hT.2.1 q (by omega) (by omega)).2.1]; rfl) (by rw [mkM_1, (hT.2.1 p (by omega) (by omega)).2.2.1, (hT.2.1 q (by omega) (by omega)).2.2.1]; rfl) (by rw [mkM_1, (hT.2.1 p (by omega) (by omega)).2.2.2.1, (hT.2.1 q (by omega) (by omega)).2.2.2.1]; rfl)
        rw [← hh] at hPush
        refine r_aload_n 85 hE 0 dX9_ruleOf_84 rfl rfl rfl ?_
        refine r_get 88 hE 0 0 ok9 12 dX9_ruleOf_85 rfl wd_1064 rfl rfl (by decide) rfl ?_
        refine r_istore 90 hE [(5, .int (iI mr)), (0, .ref (mo 0)), (1, .int (iI 1)), (2, .int (iI p)), (3, .int (iI q)), (4, .int (iI (slt h d)))] dX9_ruleOf_88 rfl (by decide) rfl ?_
        refine r_aload_n 91 hE 1 dX9_ruleOf_90 rfl rfl rfl ?_
        refine r_dup 92 hE dX9_ruleOf_91 rfl rfl ?_
        refine r_get 95 hE 0 0 ok9 12 dX9_ruleOf_92 rfl wd_1064 rfl rfl (by decide) rfl ?_
        refine r_iconst 96 hE dX9_ruleOf_95 rfl ?_
        refine r_iadd 97 hE (mr + 1) dX9_ruleOf_96 rfl rfl ?_
        refine r_put 100 hE 0 0 ok9 12 (wMo g mo mst mac mmk (mr + 1) mrd mrm mcm mtp msz mtk mbg men mls mvl mft mfp mfk mdp mto) [(wMo g mo mst mac mmk (mr + 1) mrd mrm mcm mtp msz mtk mbg men mls mvl mft mfp mfk mdp mto), (wMTab g mo kd on tw sg le de so)] dX9_ruleOf_97 rfl wd_1064 rfl rfl (by decide) rfl rfl rfl (Nat.le_of_ble_eq_true rfl) rfl rfl ?_
        refine r_aload_n 101 hE 1 dX9_ruleOf_100 rfl rfl rfl ?_
        refine r_get 104 hE 0 0 ok9 11 dX9_ruleOf_101 rfl wd_1063 rfl rfl (by decide) rfl ?_
        refine r_iload 106 hE 5 dX9_ruleOf_104 rfl rfl ?_
        refine r_iload 108 hE 0 dX9_ruleOf_106 rfl rfl ?_
        refine r_iast 109 hE 1 6 (wMTab g mo kd on tw sg le de (up so (slt h d) mr)) [(wMo g mo mst mac mmk (mr + 1) mrd mrm mcm mtp msz mtk mbg men mls mvl mft mfp mfk mdp mto), (wMTab g mo kd on tw sg le de (up so (slt h d) mr))] dX9_ruleOf_108 rfl rfl rfl (by omega) rfl rfl ?_
        refine r_aload_n 110 hE 1 dX9_ruleOf_109 rfl rfl rfl ?_
        refine r_get 113 hE 0 0 ok9 5 dX9_ruleOf_110 rfl wd_1057 rfl rfl (by decide) rfl ?_
        refine r_iload 115 hE 0 dX9_ruleOf_113 rfl rfl ?_
        refine r_iload_n 116 hE 2 dX9_ruleOf_115 rfl rfl rfl ?_
        refine r_iast 117 hE 1 0 (wMTab g mo (up kd mr 1) on tw sg le de (up so (slt h d) mr)) [(wMo g mo mst mac mmk (mr + 1) mrd mrm mcm mtp msz mtk mbg men mls mvl mft mfp mfk mdp mto), (wMTab g mo (up kd mr 1) on tw sg le de (up so (slt h d) mr))] dX9_ruleOf_116 rfl rfl rfl (by omega) rfl rfl ?_
        refine r_aload_n 118 hE 1 dX9_ruleOf_117 rfl rfl rfl ?_
        refine r_get 121 hE 0 0 ok9 6 dX9_ruleOf_118 rfl wd_1058 rfl rfl (by decide) rfl ?_
        refine r_iload 123 hE 0 dX9_ruleOf_121 rfl rfl ?_
        refine r_iload_n 124 hE 3 dX9_ruleOf_123 rfl rfl rfl ?_
        refine r_iast 125 hE 1 1 (wMTab g mo (up kd mr 1) (up on mr p) tw sg le de (up so (slt h d) mr)) [(wMo g mo mst mac mmk (mr + 1) mrd mrm mcm mtp msz mtk mbg men mls mvl mft mfp mfk mdp mto), (wMTab g mo (up kd mr 1) (up on mr p) tw sg le de (up so (slt h d) mr))] dX9_ruleOf_124 rfl rfl rfl (by omega) rfl rfl ?_
        refine r_aload_n 126 hE 1 dX9_ruleOf_125 rfl rfl rfl ?_
        refine r_get 129 hE 0 0 ok9 7 dX9_ruleOf_126 rfl wd_1059 rfl rfl (by decide) rfl ?_
        refine r_iload 131 hE 0 dX9_ruleOf_129 rfl rfl ?_
        refine r_iload_n 132 hE 4 dX9_ruleOf_131 rfl rfl rfl ?_
        refine r_iast 133 hE 1 2 (wMTab g mo (up kd mr 1) (up on mr p) (up tw mr q) sg le de (up so (slt h d) mr)) [(wMo g mo mst mac mmk (mr + 1) mrd mrm mcm mtp msz mtk mbg men mls mvl mft mfp mfk mdp mto), (wMTab g mo (up kd mr 1) (up on mr p) (up tw mr q) sg le de (up so (slt h d) mr))] dX9_ruleOf_132 rfl rfl rfl (by omega) rfl rfl ?_
        refine r_aload_n 134 hE 1 dX9_ruleOf_133 rfl rfl rfl ?_
        refine r_get 137 hE 0 0 ok9 8 dX9_ruleOf_134 rfl wd_1060 rfl rfl (by decide) rfl ?_
        refine r_iload 139 hE 0 dX9_ruleOf_137 rfl rfl ?_
        refine r_iload_n 140 hE 2 dX9_ruleOf_139 rfl rfl rfl ?_
        refine r_if_ne 143 154 hE dX9_ruleOf_140 rfl (by decide) (by omega) (fun c140 => ?_) (fun c140 => ?_)
        · skip
          refine r_iload_n 155 hE 2 dX9_ruleOf_154 rfl rfl rfl ?_
          refine r_iconst 156 hE dX9_ruleOf_155 rfl ?_
          refine r_icmp_ne 159 177 hE dX9_ruleOf_156 rfl (by decide) (by omega) (fun c156 => ?_) (fun c156 => ?_)
          · skip
            refine r_bipush 179 hE dX9_ruleOf_177 rfl (by decide) ?_
            refine r_aload_n 180 hE 1 dX9_ruleOf_179 rfl rfl rfl ?_
            refine r_get 183 hE 0 0 ok9 8 dX9_ruleOf_180 rfl wd_1060 rfl rfl (by decide) rfl ?_
            refine r_iload_n 184 hE 3 dX9_ruleOf_183 rfl rfl rfl ?_
            refine r_iald 185 hE 1 3 dX9_ruleOf_184 rfl rfl rfl (by omega) ?_
            refine r_callS 188 hE [] [0, 1] [] [(wMo g mo mst mac mmk (mr + 1) mrd mrm mcm mtp msz mtk mbg men mls mvl mft mfp mfk mdp mto), (wMTab g mo (up kd mr 1) (up on mr p) (up tw mr q) sg le de (up so (slt h d) mr))] [.int (iI mr), .ref (mo 6)] (c_X9_mix) dX9_ruleOf_185 rfl wd_1322 wd_1323 wd_12 wd_1324 ne_X9 np_X9_mix (Nat.le_of_ble_eq_true rfl)  (by decide) (by decide) rfl (Nat.le_of_ble_eq_true rfl) rfl rfl rfl rfl (by decide) (fun v1 f1 hp => ?_)
            obtain ⟨rfl, rfl⟩ := hp
            show G g E _ _ _ [(wMo g mo mst mac mmk (mr + 1) mrd mrm mcm mtp msz mtk mbg men mls mvl mft mfp mfk mdp mto), (wMTab g mo (up kd mr 1) (up on mr p) (up tw mr q) sg le de (up so (slt h d) mr))] 188 [(5, .int (iI mr)), (0, .ref (mo 0)), (1, .int (iI 1)), (2, .int (iI p)), (3, .int (iI q)), (4, .int (iI (slt h d)))] [.int (iI (mixI 13 (sg p))), .int (iI mr), .ref (mo 6)]
            refine r_aload_n 189 hE 1 dX9_ruleOf_188 rfl rfl rfl ?_
            refine r_get 192 hE 0 0 ok9 8 dX9_ruleOf_189 rfl wd_1060 rfl rfl (by decide) rfl ?_
            refine r_iload_n 193 hE 4 dX9_ruleOf_192 rfl rfl rfl ?_
            refine r_iald 194 hE 1 3 dX9_ruleOf_193 rfl rfl rfl (by omega) ?_
            refine r_callS 197 hE [] [0, 1] [] [(wMo g mo mst mac mmk (mr + 1) mrd mrm mcm mtp msz mtk mbg men mls mvl mft mfp mfk mdp mto), (wMTab g mo (up kd mr 1) (up on mr p) (up tw mr q) sg le de (up so (slt h d) mr))] [.int (iI mr), .ref (mo 6)] (c_X9_mix) dX9_ruleOf_194 rfl wd_1322 wd_1323 wd_12 wd_1324 ne_X9 np_X9_mix (Nat.le_of_ble_eq_true rfl)  (by decide) (by decide) rfl (Nat.le_of_ble_eq_true rfl) rfl rfl rfl rfl (by decide) (fun v1 f1 hp => ?_)
            obtain ⟨rfl, rfl⟩ := hp
            show G g E _ _ _ [(wMo g mo mst mac mmk (mr + 1) mrd mrm mcm mtp msz mtk mbg men mls mvl mft mfp mfk mdp mto), (wMTab g mo (up kd mr 1) (up on mr p) (up tw mr q) sg le de (up so (slt h d) mr))] 197 [(5, .int (iI mr)), (0, .ref (mo 0)), (1, .int (iI 1)), (2, .int (iI p)), (3, .int (iI q)), (4, .int (iI (slt h d)))] [.int (iI (mixI (mixI 13 (sg p)) (sg q))), .int (iI mr), .ref (mo 6)]
            refine r_iast 198 hE 1 3 (wMTab g mo (up kd mr 1) (up on mr p) (up tw mr q) (up sg mr (mixI (mixI 13 (sg p)) (sg q))) le de (up so (slt h d) mr)) [(wMo g mo mst mac mmk (mr + 1) mrd mrm mcm mtp msz mtk mbg men mls mvl mft mfp mfk mdp mto), (wMTab g mo (up kd mr 1) (up on mr p) (up tw mr q) (up sg mr (mixI (mixI 13 (sg p)) (sg q))) le de (up so (slt h d) mr))] dX9_ruleOf_197 rfl rfl rfl (by omega) rfl rfl ?_
            refine r_aload_n 199 hE 1 dX9_ruleOf_198 rfl rfl rfl ?_
            refine r_get 202 hE 0 0 ok9 9 dX9_ruleOf_199 rfl wd_1061 rfl rfl (by decide) rfl ?_
            refine r_iload 204 hE 0 dX9_ruleOf_202 rfl rfl ?_
            refine r_iload_n 205 hE 2 dX9_ruleOf_204 rfl rfl rfl ?_
            refine r_if_ne 208 212 hE dX9_ruleOf_205 rfl (by decide) (by omega) (fun c205 => ?_) (fun c205 => ?_)
            · skip
              refine r_iload_n 213 hE 2 dX9_ruleOf_212 rfl rfl rfl ?_
              refine r_iconst 214 hE dX9_ruleOf_213 rfl ?_
              refine r_icmp_ne 217 228 hE dX9_ruleOf_214 rfl (by decide) (by omega) (fun c214 => ?_) (fun c214 => ?_)
              · skip
                refine r_aload_n 229 hE 1 dX9_ruleOf_228 rfl rfl rfl ?_
                refine r_get 232 hE 0 0 ok9 9 dX9_ruleOf_229 rfl wd_1061 rfl rfl (by decide) rfl ?_
                refine r_iload_n 233 hE 3 dX9_ruleOf_232 rfl rfl rfl ?_
                refine r_iald 234 hE 1 4 dX9_ruleOf_233 rfl rfl rfl (by omega) ?_
                refine r_aload_n 235 hE 1 dX9_ruleOf_234 rfl rfl rfl ?_
                refine r_get 238 hE 0 0 ok9 9 dX9_ruleOf_235 rfl wd_1061 rfl rfl (by decide) rfl ?_
                refine r_iload_n 239 hE 4 dX9_ruleOf_238 rfl rfl rfl ?_
                refine r_iald 240 hE 1 4 dX9_ruleOf_239 rfl rfl rfl (by omega) ?_
                refine r_iadd 241 hE ((le p) + (le q)) dX9_ruleOf_240 rfl rfl ?_
                refine r_iast 242 hE 1 4 (wMTab g mo (up kd mr 1) (up on mr p) (up tw mr q) (up sg mr (mixI (mixI 13 (sg p)) (sg q))) (up le mr ((le p) + (le q))) de (up so (slt h d) mr)) [(wMo g mo mst mac mmk (mr + 1) mrd mrm mcm mtp msz mtk mbg men mls mvl mft mfp mfk mdp mto), (wMTab g mo (up kd mr 1) (up on mr p) (up tw mr q) (up sg mr (mixI (mixI 13 (sg p)) (sg q))) (up le mr ((le p) + (le q))) de (up so (slt h d) mr))] dX9_ruleOf_241 rfl rfl rfl (by omega) rfl rfl ?_
                refine r_aload_n 243 hE 1 dX9_ruleOf_242 rfl rfl rfl ?_
                refine r_get 246 hE 0 0 ok9 10 dX9_ruleOf_243 rfl wd_1062 rfl rfl (by decide) rfl ?_
                refine r_iload 248 hE 0 dX9_ruleOf_246 rfl rfl ?_
                refine r_iload_n 249 hE 2 dX9_ruleOf_248 rfl rfl rfl ?_
                refine r_if_ne 252 256 hE dX9_ruleOf_249 rfl (by decide) (by omega) (fun c249 => ?_) (fun c249 => ?_)
                · skip
                  refine r_iload_n 257 hE 2 dX9_ruleOf_256 rfl rfl rfl ?_
                  refine r_iconst 258 hE dX9_ruleOf_257 rfl ?_
                  refine r_icmp_ne 261 272 hE dX9_ruleOf_258 rfl (by decide) (by omega) (fun c258 => ?_) (fun c258 => ?_)
                  · skip
                    refine r_iconst 273 hE dX9_ruleOf_272 rfl ?_
                    refine r_aload_n 274 hE 1 dX9_ruleOf_273 rfl rfl rfl ?_
                    refine r_get 277 hE 0 0 ok9 10 dX9_ruleOf_274 rfl wd_1062 rfl rfl (by decide) rfl ?_
                    refine r_iload_n 278 hE 3 dX9_ruleOf_277 rfl rfl rfl ?_
                    refine r_iald 279 hE 1 5 dX9_ruleOf_278 rfl rfl rfl (by omega) ?_
                    refine r_aload_n 280 hE 1 dX9_ruleOf_279 rfl rfl rfl ?_
                    refine r_get 283 hE 0 0 ok9 10 dX9_ruleOf_280 rfl wd_1062 rfl rfl (by decide) rfl ?_
                    refine r_iload_n 284 hE 4 dX9_ruleOf_283 rfl rfl rfl ?_
                    refine r_iald 285 hE 1 5 dX9_ruleOf_284 rfl rfl rfl (by omega) ?_
                    refine r_max 288 hE dX9_ruleOf_285 rfl wd_1293 wd_110 wd_6 wd_111 (Nat.le_of_ble_eq_true rfl) (by decide) (by decide) (Nat.le_of_ble_eq_true rfl) (by have h1 := (hT.2.1 p (by omega) (by omega)).rg (by omega); have h2 := (hT.2.1 q (by omega) (by omega)).rg (by omega); omega) ?_
                    refine r_iadd 289 hE (1 + (max (de p) (de q))) dX9_ruleOf_288 rfl rfl ?_
                    refine r_iast 290 hE 1 5 (wMTab g mo (up kd mr 1) (up on mr p) (up tw mr q) (up sg mr (mixI (mixI 13 (sg p)) (sg q))) (up le mr ((le p) + (le q))) (up de mr (1 + (max (de p) (de q)))) (up so (slt h d) mr)) [(wMo g mo mst mac mmk (mr + 1) mrd mrm mcm mtp msz mtk mbg men mls mvl mft mfp mfk mdp mto), (wMTab g mo (up kd mr 1) (up on mr p) (up tw mr q) (up sg mr (mixI (mixI 13 (sg p)) (sg q))) (up le mr ((le p) + (le q))) (up de mr (1 + (max (de p) (de q)))) (up so (slt h d) mr))] dX9_ruleOf_289 rfl rfl rfl (by omega) rfl rfl ?_
                    refine r_iload 292 hE 0 dX9_ruleOf_290 rfl rfl ?_
                    refine r_ireturn hE hR [(wMo g mo mst mac mmk (mr + 1) mrd mrm mcm mtp msz mtk mbg men mls mvl mft mfp mfk mdp mto), (wMTab g mo (up kd mr 1) (up on mr p) (up tw mr q) (up sg mr (mixI (mixI 13 (sg p)) (sg q))) (up le mr ((le p) + (le q))) (up de mr (1 + (max (de p) (de q)))) (up so (slt h d) mr))] dX9_ruleOf_292 (Nat.le_of_ble_eq_true rfl) (Nat.le_of_ble_eq_true rfl) rfl ?_
                    exact ⟨_, _, _, _, _, _, _, mr + 1, upR R mr (mkM R 1 p q), mr, rfl, rfl, hPush, by omega, fun i a b => upR_ne _ _ (by omega), by omega, upR_same _ _ _, Or.inr rfl⟩
                  · skip
                    omega
                · skip
                  omega
              · skip
                omega
            · skip
              omega
          · skip
            omega
        · skip
          omega
      · skip
        have hv := hsv.resolve_left c23
        have hxr := (hT.2.1 _ hv.1 hv.2).rg (by omega)
        refine r_aload_n 27 hE 0 dX9_ruleOf_26 rfl rfl rfl ?_
        refine r_get 30 hE 0 0 ok9 11 dX9_ruleOf_27 rfl wd_1063 rfl rfl (by decide) rfl ?_
        refine r_iload 32 hE 4 dX9_ruleOf_30 rfl rfl ?_
        refine r_iald 33 hE 1 6 dX9_ruleOf_32 rfl rfl rfl (by omega) ?_
        refine r_istore 35 hE [(5, .int (iI (so (slt h d)))), (0, .ref (mo 0)), (1, .int (iI 1)), (2, .int (iI p)), (3, .int (iI q)), (4, .int (iI (slt h d)))] dX9_ruleOf_33 rfl (by decide) rfl ?_
        refine r_aload_n 36 hE 1 dX9_ruleOf_35 rfl rfl rfl ?_
        refine r_get 39 hE 0 0 ok9 5 dX9_ruleOf_36 rfl wd_1057 rfl rfl (by decide) rfl ?_
        refine r_iload 41 hE 0 dX9_ruleOf_39 rfl rfl ?_
        refine r_iald 42 hE 1 0 dX9_ruleOf_41 rfl rfl rfl (by omega) ?_
        refine r_iload_n 43 hE 2 dX9_ruleOf_42 rfl rfl rfl ?_
        refine r_icmp_ne 46 71 hE dX9_ruleOf_43 rfl (by decide) (by omega) (fun c43 => ?_) (fun c43 => ?_)
        · skip
          have hps2 : ∀ e, 0 ≤ e → e < d + 1 → so (slt h e) ≠ -1 ∧ ¬ (kd (so (slt h e)) = 1 ∧ on (so (slt h e)) = p ∧ tw (so (slt h e)) = q) := fun e a b => by
            by_cases z : e = d
            · subst z; exact ⟨c23, fun y => by omega⟩
            · exact hps e a (by omega)
          refine r_iload 73 hE 5 dX9_ruleOf_71 rfl rfl ?_
          refine r_iconst 74 hE dX9_ruleOf_73 rfl ?_
          refine r_iadd 75 hE ((slt h d) + 1) dX9_ruleOf_74 rfl rfl ?_
          refine r_sipush 78 hE dX9_ruleOf_75 rfl (by decide) ?_
          refine r_iand 79 hE dX9_ruleOf_78 rfl ?_
          refine r_istore 81 hE [(4, .int (iI (andI ((slt h d) + 1) 32767))), (5, .int (iI (so (slt h d)))), (0, .ref (mo 0)), (1, .int (iI 1)), (2, .int (iI p)), (3, .int (iI q))] dX9_ruleOf_79 rfl (by decide) rfl ?_
          refine r_goto 15 hE dX9_ruleOf_81 (by decide) ?_
          refine G.to (fs' := [(wMo g mo mst mac mmk mr mrd mrm mcm mtp msz mtk mbg men mls mvl mft mfp mfk mdp mto), (wMTab g mo kd on tw sg le de so)]) (lv' := [(0, .ref (mo 0)), (1, .int (iI 1)), (2, .int (iI p)), (3, .int (iI q)), (4, .int (iI (andI ((slt h d) + 1) 32767)))]) [0, 1] [2, 3, 4, 5, 0] rfl rfl rfl ?_
          refine G.cast (fs' := [(wMo g mo mst mac mmk mr mrd mrm mcm mtp msz mtk mbg men mls mvl mft mfp mfk mdp mto), (wMTab g mo kd on tw sg le de so)]) (lv' := [(0, .ref (mo 0)), (1, .int (iI 1)), (2, .int (iI p)), (3, .int (iI q)), (4, .int (iI (slt h _)))]) rfl (congrArg (fun z9 : Int => ([(0, .ref (mo 0)), (1, .int (iI 1)), (2, .int (iI p)), (3, .int (iI q)), (4, .int (iI z9))] : List (Nat × Value))) (show (andI ((slt h d) + 1) 32767 : Int) = slt h _ from by first | exact slt_s h d | (rw [hh]; exact slt_0 (hmS_rg _ _ _)))) ?_
          exact ih15 _ (by omega) (by first | exact hps2 | exact (fun e a b => absurd b (by omega))) (by omega)
        · skip
          refine r_aload_n 47 hE 1 dX9_ruleOf_46 rfl rfl rfl ?_
          refine r_get 50 hE 0 0 ok9 6 dX9_ruleOf_47 rfl wd_1058 rfl rfl (by decide) rfl ?_
          refine r_iload 52 hE 0 dX9_ruleOf_50 rfl rfl ?_
          refine r_iald 53 hE 1 1 dX9_ruleOf_52 rfl rfl rfl (by omega) ?_
          refine r_iload_n 54 hE 3 dX9_ruleOf_53 rfl rfl rfl ?_
          refine r_icmp_ne 57 71 hE dX9_ruleOf_54 rfl (by decide) (by omega) (fun c54 => ?_) (fun c54 => ?_)
          · skip
            have hps2 : ∀ e, 0 ≤ e → e < d + 1 → so (slt h e) ≠ -1 ∧ ¬ (kd (so (slt h e)) = 1 ∧ on (so (slt h e)) = p ∧ tw (so (slt h e)) = q) := fun e a b => by
              by_cases z : e = d
              · subst z; exact ⟨c23, fun y => by omega⟩
              · exact hps e a (by omega)
            refine r_iload 73 hE 5 dX9_ruleOf_71 rfl rfl ?_
            refine r_iconst 74 hE dX9_ruleOf_73 rfl ?_
            refine r_iadd 75 hE ((slt h d) + 1) dX9_ruleOf_74 rfl rfl ?_
            refine r_sipush 78 hE dX9_ruleOf_75 rfl (by decide) ?_
            refine r_iand 79 hE dX9_ruleOf_78 rfl ?_
            refine r_istore 81 hE [(4, .int (iI (andI ((slt h d) + 1) 32767))), (5, .int (iI (so (slt h d)))), (0, .ref (mo 0)), (1, .int (iI 1)), (2, .int (iI p)), (3, .int (iI q))] dX9_ruleOf_79 rfl (by decide) rfl ?_
            refine r_goto 15 hE dX9_ruleOf_81 (by decide) ?_
            refine G.to (fs' := [(wMo g mo mst mac mmk mr mrd mrm mcm mtp msz mtk mbg men mls mvl mft mfp mfk mdp mto), (wMTab g mo kd on tw sg le de so)]) (lv' := [(0, .ref (mo 0)), (1, .int (iI 1)), (2, .int (iI p)), (3, .int (iI q)), (4, .int (iI (andI ((slt h d) + 1) 32767)))]) [0, 1] [2, 3, 4, 5, 0] rfl rfl rfl ?_
            refine G.cast (fs' := [(wMo g mo mst mac mmk mr mrd mrm mcm mtp msz mtk mbg men mls mvl mft mfp mfk mdp mto), (wMTab g mo kd on tw sg le de so)]) (lv' := [(0, .ref (mo 0)), (1, .int (iI 1)), (2, .int (iI p)), (3, .int (iI q)), (4, .int (iI (slt h _)))]) rfl (congrArg (fun z9 : Int => ([(0, .ref (mo 0)), (1, .int (iI 1)), (2, .int (iI p)), (3, .int (iI q)), (4, .int (iI z9))] : List (Nat × Value))) (show (andI ((slt h d) + 1) 32767 : Int) = slt h _ from by first | exact slt_s h d | (rw [hh]; exact slt_0 (hmS_rg _ _ _)))) ?_
            exact ih15 _ (by omega) (by first | exact hps2 | exact (fun e a b => absurd b (by omega))) (by omega)
          · skip
            refine r_aload_n 58 hE 1 dX9_ruleOf_57 rfl rfl rfl ?_
            refine r_get 61 hE 0 0 ok9 7 dX9_ruleOf_58 rfl wd_1059 rfl rfl (by decide) rfl ?_
            refine r_iload 63 hE 0 dX9_ruleOf_61 rfl rfl ?_
            refine r_iald 64 hE 1 2 dX9_ruleOf_63 rfl rfl rfl (by omega) ?_
            refine r_iload_n 65 hE 4 dX9_ruleOf_64 rfl rfl rfl ?_
            refine r_icmp_ne 68 71 hE dX9_ruleOf_65 rfl (by decide) (by omega) (fun c65 => ?_) (fun c65 => ?_)
            · skip
              have hps2 : ∀ e, 0 ≤ e → e < d + 1 → so (slt h e) ≠ -1 ∧ ¬ (kd (so (slt h e)) = 1 ∧ on (so (slt h e)) = p ∧ tw (so (slt h e)) = q) := fun e a b => by
                by_cases z : e = d
                · subst z; exact ⟨c23, fun y => by omega⟩
                · exact hps e a (by omega)
              refine r_iload 73 hE 5 dX9_ruleOf_71 rfl rfl ?_
              refine r_iconst 74 hE dX9_ruleOf_73 rfl ?_
              refine r_iadd 75 hE ((slt h d) + 1) dX9_ruleOf_74 rfl rfl ?_
              refine r_sipush 78 hE dX9_ruleOf_75 rfl (by decide) ?_
              refine r_iand 79 hE dX9_ruleOf_78 rfl ?_
              refine r_istore 81 hE [(4, .int (iI (andI ((slt h d) + 1) 32767))), (5, .int (iI (so (slt h d)))), (0, .ref (mo 0)), (1, .int (iI 1)), (2, .int (iI p)), (3, .int (iI q))] dX9_ruleOf_79 rfl (by decide) rfl ?_
              refine r_goto 15 hE dX9_ruleOf_81 (by decide) ?_
              refine G.to (fs' := [(wMo g mo mst mac mmk mr mrd mrm mcm mtp msz mtk mbg men mls mvl mft mfp mfk mdp mto), (wMTab g mo kd on tw sg le de so)]) (lv' := [(0, .ref (mo 0)), (1, .int (iI 1)), (2, .int (iI p)), (3, .int (iI q)), (4, .int (iI (andI ((slt h d) + 1) 32767)))]) [0, 1] [2, 3, 4, 5, 0] rfl rfl rfl ?_
              refine G.cast (fs' := [(wMo g mo mst mac mmk mr mrd mrm mcm mtp msz mtk mbg men mls mvl mft mfp mfk mdp mto), (wMTab g mo kd on tw sg le de so)]) (lv' := [(0, .ref (mo 0)), (1, .int (iI 1)), (2, .int (iI p)), (3, .int (iI q)), (4, .int (iI (slt h _)))]) rfl (congrArg (fun z9 : Int => ([(0, .ref (mo 0)), (1, .int (iI 1)), (2, .int (iI p)), (3, .int (iI q)), (4, .int (iI z9))] : List (Nat × Value))) (show (andI ((slt h d) + 1) 32767 : Int) = slt h _ from by first | exact slt_s h d | (rw [hh]; exact slt_0 (hmS_rg _ _ _)))) ?_
              exact ih15 _ (by omega) (by first | exact hps2 | exact (fun e a b => absurd b (by omega))) (by omega)
            · skip
              refine r_iload 70 hE 0 dX9_ruleOf_68 rfl rfl ?_
              refine r_ireturn hE hR [(wMo g mo mst mac mmk mr mrd mrm mcm mtp msz mtk mbg men mls mvl mft mfp mfk mdp mto), (wMTab g mo kd on tw sg le de so)] dX9_ruleOf_70 (Nat.le_of_ble_eq_true rfl) (Nat.le_of_ble_eq_true rfl) rfl ?_
              exact ⟨kd, on, tw, sg, le, de, so, mr, R, so (slt h d), rfl, rfl, hT, by omega, fun _ _ _ => rfl, by omega, hT.hit hm hv c43 c54 c65, Or.inl rfl⟩
  refine r_iload_n 1 hE 1 dX9_ruleOf_0 rfl rfl rfl ?_
  refine r_iload_n 2 hE 2 dX9_ruleOf_1 rfl rfl rfl ?_
  refine r_callS 5 hE [] [0, 1] [] [(wMo g mo mst mac mmk mr mrd mrm mcm mtp msz mtk mbg men mls mvl mft mfp mfk mdp mto), (wMTab g mo kd on tw sg le de so)] [] (c_X9_mix) dX9_ruleOf_2 rfl wd_1322 wd_1323 wd_12 wd_1324 ne_X9 np_X9_mix (Nat.le_of_ble_eq_true rfl)  (by decide) (by decide) rfl (Nat.le_of_ble_eq_true rfl) rfl rfl rfl rfl (by decide) (fun v1 f1 hp => ?_)
  obtain ⟨rfl, rfl⟩ := hp
  show G g E _ _ _ [(wMo g mo mst mac mmk mr mrd mrm mcm mtp msz mtk mbg men mls mvl mft mfp mfk mdp mto), (wMTab g mo kd on tw sg le de so)] 5 [(0, .ref (mo 0)), (1, .int (iI 1)), (2, .int (iI p)), (3, .int (iI q))] [.int (iI (mixI 1 p))]
  refine r_iload_n 6 hE 3 dX9_ruleOf_5 rfl rfl rfl ?_
  refine r_callS 9 hE [] [0, 1] [] [(wMo g mo mst mac mmk mr mrd mrm mcm mtp msz mtk mbg men mls mvl mft mfp mfk mdp mto), (wMTab g mo kd on tw sg le de so)] [] (c_X9_mix) dX9_ruleOf_6 rfl wd_1322 wd_1323 wd_12 wd_1324 ne_X9 np_X9_mix (Nat.le_of_ble_eq_true rfl)  (by decide) (by decide) rfl (Nat.le_of_ble_eq_true rfl) rfl rfl rfl rfl (by decide) (fun v1 f1 hp => ?_)
  obtain ⟨rfl, rfl⟩ := hp
  show G g E _ _ _ [(wMo g mo mst mac mmk mr mrd mrm mcm mtp msz mtk mbg men mls mvl mft mfp mfk mdp mto), (wMTab g mo kd on tw sg le de so)] 9 [(0, .ref (mo 0)), (1, .int (iI 1)), (2, .int (iI p)), (3, .int (iI q))] [.int (iI (mixI (mixI 1 p) q))]
  refine r_sipush 12 hE dX9_ruleOf_9 rfl (by decide) ?_
  refine r_iand 13 hE dX9_ruleOf_12 rfl ?_
  refine r_istore 15 hE [(4, .int (iI (andI (mixI (mixI 1 p) q) 32767))), (0, .ref (mo 0)), (1, .int (iI 1)), (2, .int (iI p)), (3, .int (iI q))] dX9_ruleOf_13 rfl (by decide) rfl ?_
  refine G.to (fs' := [(wMo g mo mst mac mmk mr mrd mrm mcm mtp msz mtk mbg men mls mvl mft mfp mfk mdp mto), (wMTab g mo kd on tw sg le de so)]) (lv' := [(0, .ref (mo 0)), (1, .int (iI 1)), (2, .int (iI p)), (3, .int (iI q)), (4, .int (iI (andI (mixI (mixI 1 p) q) 32767)))]) [0, 1] [1, 2, 3, 4, 0] rfl rfl rfl ?_
  refine G.cast (fs' := [(wMo g mo mst mac mmk mr mrd mrm mcm mtp msz mtk mbg men mls mvl mft mfp mfk mdp mto), (wMTab g mo kd on tw sg le de so)]) (lv' := [(0, .ref (mo 0)), (1, .int (iI 1)), (2, .int (iI p)), (3, .int (iI q)), (4, .int (iI (slt h _)))]) rfl (congrArg (fun z9 : Int => ([(0, .ref (mo 0)), (1, .int (iI 1)), (2, .int (iI p)), (3, .int (iI q)), (4, .int (iI z9))] : List (Nat × Value))) (show (andI (mixI (mixI 1 p) q) 32767 : Int) = slt h _ from by first | exact slt_s h d | (rw [hh]; exact slt_0 (hmS_rg _ _ _)))) ?_
  exact cut15 _ _ (by omega) (by first | exact hps2 | exact (fun e a b => absurd b (by omega))) (Nat.lt_succ_self _)
set_option maxHeartbeats 4000000 in
set_option maxRecDepth 100000 in
theorem c_X9_ruleOf_2 {g : Gm} {mo : Nat → Nat} {mst mac mmk mr mrd mrm mcm mtp msz mtk mbg men mls mvl mft mfp mfk mdp mto : Int} {kd on tw sg le de so : Int → Int} {R : Int → Rl} {p q : Int} (hT : MT kd on tw sg le de so mr R) (hm : mkMOk R mr 2 p q) (hro : mr < 10400) : Ct g 1 0 0 yX9_ruleOf cX9_ruleOf 6 (some .int) [.ref (mo 0), .int (iI 2), .int (iI p), .int (iI q)] [(wMo g mo mst mac mmk mr mrd mrm mcm mtp msz mtk mbg men mls mvl mft mfp mfk mdp mto), (wMTab g mo kd on tw sg le de so)] (fun v_ w_ => ∃ kd9 : Int → Int, ∃ on9 : Int → Int, ∃ tw9 : Int → Int, ∃ sg9 : Int → Int, ∃ le9 : Int → Int, ∃ de9 : Int → Int, ∃ so9 : Int → Int, ∃ mr9 : Int, ∃ R9 : Int → Rl, ∃ r : Int, v_ = some (.int (iI r)) ∧ w_ = [(wMo g mo mst mac mmk mr9 mrd mrm mcm mtp msz mtk mbg men mls mvl mft mfp mfk mdp mto), (wMTab g mo kd9 on9 tw9 sg9 le9 de9 so9)] ∧ (MT kd9 on9 tw9 sg9 le9 de9 so9 mr9 R9) ∧ (mr ≤ mr9 ∧ mr9 ≤ mr + 1) ∧ (∀ i, 0 ≤ i → i < mr → R9 i = R i) ∧ (0 ≤ r ∧ r < mr9) ∧ (R9 r = mkM R 2 p q) ∧ (mr9 = mr ∨ r = mr)) := by
  refine Ct.of (by decide) (Nat.le_of_ble_eq_true rfl) (lv := [(0, .ref (mo 0)), (1, .int (iI 2)), (2, .int (iI p)), (3, .int (iI q))]) rfl ?_
  intro E hE hR hnm
  have hcn := hT.1
  have hpq := hm.1
  obtain ⟨h, hh⟩ : ∃ h : Int, h = hmS 2 p q := ⟨_, rfl⟩
  have cut15 : ∀ (N : Nat) (d : Int), (0 ≤ d ∧ d ≤ 32768) → (∀ e, 0 ≤ e → e < d → so (slt h e) ≠ -1 ∧ ¬ (kd (so (slt h e)) = 2 ∧ on (so (slt h e)) = p ∧ tw (so (slt h e)) = q)) → (mr + 1 - d).toNat < N → G g E 6 0 0 [(wMo g mo mst mac mmk mr mrd mrm mcm mtp msz mtk mbg men mls mvl mft mfp mfk mdp mto), (wMTab g mo kd on tw sg le de so)] 15 [(0, .ref (mo 0)), (1, .int (iI 2)), (2, .int (iI p)), (3, .int (iI q)), (4, .int (iI (slt h d)))] [] := by
    intro N
    induction N with
    | zero => intro d _ _ hN; exact absurd hN (Nat.not_lt_zero _)
    | succ N ih15 =>
      intro d hd hps hN
      have hdl := hT.2.2.2.probe hcn.1 hd (fun e a b => (hps e a b).1)
      have hsr := slt_rg h d
      have hsv := hT.2.2.2.1 (slt h d) hsr.1 hsr.2
      refine r_aload_n 16 hE 0 dX9_ruleOf_15 rfl rfl rfl ?_
      refine r_get 19 hE 0 0 ok9 11 dX9_ruleOf_16 rfl wd_1063 rfl rfl (by decide) rfl ?_
      refine r_iload 21 hE 4 dX9_ruleOf_19 rfl rfl ?_
      refine r_iald 22 hE 1 6 dX9_ruleOf_21 rfl rfl rfl (by omega) ?_
      refine r_iconst 23 hE dX9_ruleOf_22 rfl ?_
      refine r_icmp_eq 26 84 hE dX9_ruleOf_23 rfl (by decide) (by omega) (fun c23 => ?_) (fun c23 => ?_)
      · skip
        have hf : so (slt (hmS 2 p q) d) = -1 := by rw [← hh]; exact c23
        have hp9 : ∀ e, 0 ≤ e → e < d → so (slt (hmS 2 p q) e) ≠ -1 ∧ ¬ (kd (so (slt (hmS 2 p q) e)) = 2 ∧ on (so (slt (hmS 2 p q) e)) = p ∧ tw (so (slt (hmS 2 p q) e)) = q) := by rw [← hh]; exact hps
        have hno := hT.miss hm ⟨hd.1, by omega⟩ hf hp9
        have hPush := hT.push (s := mixI (mixI 11 (sg p)) q) (l := le p * q) (e9 := 1 + de p) hm hro hno ⟨hd.1, by omega⟩ hf (fun e a b => (hp9 e a b).1) (by rw [mkM_2, rsign_run (by omega), (hT.2.1 p (by omega) (by omega)).2.1]) (by rw [mkM_2, rlen_run' (by omega), (hT.2.1 p (by omega) (by omega)).2.2.1]) (by rw [mkM_2, (hT.2.1 p (by omega) (by omega)).2.2.2.1]; rfl)
        rw [← hh] at hPush
        refine r_aload_n 85 hE 0 dX9_ruleOf_84 rfl rfl rfl ?_
        refine r_get 88 hE 0 0 ok9 12 dX9_ruleOf_85 rfl wd_1064 rfl rfl (by decide) rfl ?_
        refine r_istore 90 hE [(5, .int (iI mr)), (0, .ref (mo 0)), (1, .int (iI 2)), (2, .int (iI p)), (3, .int (iI q)), (4, .int (iI (slt h d)))] dX9_ruleOf_88 rfl (by decide) rfl ?_
        refine r_aload_n 91 hE 1 dX9_ruleOf_90 rfl rfl rfl ?_
        refine r_dup 92 hE dX9_ruleOf_91 rfl rfl ?_
        refine r_get 95 hE 0 0 ok9 12 dX9_ruleOf_92 rfl wd_1064 rfl rfl (by decide) rfl ?_
        refine r_iconst 96 hE dX9_ruleOf_95 rfl ?_
        refine r_iadd 97 hE (mr + 1) dX9_ruleOf_96 rfl rfl ?_
        refine r_put 100 hE 0 0 ok9 12 (wMo g mo mst mac mmk (mr + 1) mrd mrm mcm mtp msz mtk mbg men mls mvl mft mfp mfk mdp mto) [(wMo g mo mst mac mmk (mr + 1) mrd mrm mcm mtp msz mtk mbg men mls mvl mft mfp mfk mdp mto), (wMTab g mo kd on tw sg le de so)] dX9_ruleOf_97 rfl wd_1064 rfl rfl (by decide) rfl rfl rfl (Nat.le_of_ble_eq_true rfl) rfl rfl ?_
        refine r_aload_n 101 hE 1 dX9_ruleOf_100 rfl rfl rfl ?_
        refine r_get 104 hE 0 0 ok9 11 dX9_ruleOf_101 rfl wd_1063 rfl rfl (by decide) rfl ?_
        refine r_iload 106 hE 5 dX9_ruleOf_104 rfl rfl ?_
        refine r_iload 108 hE 0 dX9_ruleOf_106 rfl rfl ?_
        refine r_iast 109 hE 1 6 (wMTab g mo kd on tw sg le de (up so (slt h d) mr)) [(wMo g mo mst mac mmk (mr + 1) mrd mrm mcm mtp msz mtk mbg men mls mvl mft mfp mfk mdp mto), (wMTab g mo kd on tw sg le de (up so (slt h d) mr))] dX9_ruleOf_108 rfl rfl rfl (by omega) rfl rfl ?_
        refine r_aload_n 110 hE 1 dX9_ruleOf_109 rfl rfl rfl ?_
        refine r_get 113 hE 0 0 ok9 5 dX9_ruleOf_110 rfl wd_1057 rfl rfl (by decide) rfl ?_
        refine r_iload 115 hE 0 dX9_ruleOf_113 rfl rfl ?_
        refine r_iload_n 116 hE 2 dX9_ruleOf_115 rfl rfl rfl ?_
        refine r_iast 117 hE 1 0 (wMTab g mo (up kd mr 2) on tw sg le de (up so (slt h d) mr)) [(wMo g mo mst mac mmk (mr + 1) mrd mrm mcm mtp msz mtk mbg men mls mvl mft mfp mfk mdp mto), (wMTab g mo (up kd mr 2) on tw sg le de (up so (slt h d) mr))] dX9_ruleOf_116 rfl rfl rfl (by omega) rfl rfl ?_
        refine r_aload_n 118 hE 1 dX9_ruleOf_117 rfl rfl rfl ?_
        refine r_get 121 hE 0 0 ok9 6 dX9_ruleOf_118 rfl wd_1058 rfl rfl (by decide) rfl ?_
        refine r_iload 123 hE 0 dX9_ruleOf_121 rfl rfl ?_
        refine r_iload_n 124 hE 3 dX9_ruleOf_123 rfl rfl rfl ?_
        refine r_iast 125 hE 1 1 (wMTab g mo (up kd mr 2) (up on mr p) tw sg le de (up so (slt h d) mr)) [(wMo g mo mst mac mmk (mr + 1) mrd mrm mcm mtp msz mtk mbg men mls mvl mft mfp mfk mdp mto), (wMTab g mo (up kd mr 2) (up on mr p) tw sg le de (up so (slt h d) mr))] dX9_ruleOf_124 rfl rfl rfl (by omega) rfl rfl ?_
        refine r_aload_n 126 hE 1 dX9_ruleOf_125 rfl rfl rfl ?_
        refine r_get 129 hE 0 0 ok9 7 dX9_ruleOf_126 rfl wd_1059 rfl rfl (by decide) rfl ?_
        refine r_iload 131 hE 0 dX9_ruleOf_129 rfl rfl ?_
        refine r_iload_n 132 hE 4 dX9_ruleOf_131 rfl rfl rfl ?_
        refine r_iast 133 hE 1 2 (wMTab g mo (up kd mr 2) (up on mr p) (up tw mr q) sg le de (up so (slt h d) mr)) [(wMo g mo mst mac mmk (mr + 1) mrd mrm mcm mtp msz mtk mbg men mls mvl mft mfp mfk mdp mto), (wMTab g mo (up kd mr 2) (up on mr p) (up tw mr q) sg le de (up so (slt h d) mr))] dX9_ruleOf_132 rfl rfl rfl (by omega) rfl rfl ?_
        refine r_aload_n 134 hE 1 dX9_ruleOf_133 rfl rfl rfl ?_
        refine r_get 137 hE 0 0 ok9 8 dX9_ruleOf_134 rfl wd_1060 rfl rfl (by decide) rfl ?_
        refine r_iload 139 hE 0 dX9_ruleOf_137 rfl rfl ?_
        refine r_iload_n 140 hE 2 dX9_ruleOf_139 rfl rfl rfl ?_
        refine r_if_ne 143 154 hE dX9_ruleOf_140 rfl (by decide) (by omega) (fun c140 => ?_) (fun c140 => ?_)
        · skip
          refine r_iload_n 155 hE 2 dX9_ruleOf_154 rfl rfl rfl ?_
          refine r_iconst 156 hE dX9_ruleOf_155 rfl ?_
          refine r_icmp_ne 159 177 hE dX9_ruleOf_156 rfl (by decide) (by omega) (fun c156 => ?_) (fun c156 => ?_)
          · skip
            omega
          · skip
            refine r_bipush 161 hE dX9_ruleOf_159 rfl (by decide) ?_
            refine r_aload_n 162 hE 1 dX9_ruleOf_161 rfl rfl rfl ?_
            refine r_get 165 hE 0 0 ok9 8 dX9_ruleOf_162 rfl wd_1060 rfl rfl (by decide) rfl ?_
            refine r_iload_n 166 hE 3 dX9_ruleOf_165 rfl rfl rfl ?_
            refine r_iald 167 hE 1 3 dX9_ruleOf_166 rfl rfl rfl (by omega) ?_
            refine r_callS 170 hE [] [0, 1] [] [(wMo g mo mst mac mmk (mr + 1) mrd mrm mcm mtp msz mtk mbg men mls mvl mft mfp mfk mdp mto), (wMTab g mo (up kd mr 2) (up on mr p) (up tw mr q) sg le de (up so (slt h d) mr))] [.int (iI mr), .ref (mo 6)] (c_X9_mix) dX9_ruleOf_167 rfl wd_1322 wd_1323 wd_12 wd_1324 ne_X9 np_X9_mix (Nat.le_of_ble_eq_true rfl)  (by decide) (by decide) rfl (Nat.le_of_ble_eq_true rfl) rfl rfl rfl rfl (by decide) (fun v1 f1 hp => ?_)
            obtain ⟨rfl, rfl⟩ := hp
            show G g E _ _ _ [(wMo g mo mst mac mmk (mr + 1) mrd mrm mcm mtp msz mtk mbg men mls mvl mft mfp mfk mdp mto), (wMTab g mo (up kd mr 2) (up on mr p) (up tw mr q) sg le de (up so (slt h d) mr))] 170 [(5, .int (iI mr)), (0, .ref (mo 0)), (1, .int (iI 2)), (2, .int (iI p)), (3, .int (iI q)), (4, .int (iI (slt h d)))] [.int (iI (mixI 11 (sg p))), .int (iI mr), .ref (mo 6)]
            refine r_iload_n 171 hE 4 dX9_ruleOf_170 rfl rfl rfl ?_
            refine r_callS 174 hE [] [0, 1] [] [(wMo g mo mst mac mmk (mr + 1) mrd mrm mcm mtp msz mtk mbg men mls mvl mft mfp mfk mdp mto), (wMTab g mo (up kd mr 2) (up on mr p) (up tw mr q) sg le de (up so (slt h d) mr))] [.int (iI mr), .ref (mo 6)] (c_X9_mix) dX9_ruleOf_171 rfl wd_1322 wd_1323 wd_12 wd_1324 ne_X9 np_X9_mix (Nat.le_of_ble_eq_true rfl)  (by decide) (by decide) rfl (Nat.le_of_ble_eq_true rfl) rfl rfl rfl rfl (by decide) (fun v1 f1 hp => ?_)
            obtain ⟨rfl, rfl⟩ := hp
            show G g E _ _ _ [(wMo g mo mst mac mmk (mr + 1) mrd mrm mcm mtp msz mtk mbg men mls mvl mft mfp mfk mdp mto), (wMTab g mo (up kd mr 2) (up on mr p) (up tw mr q) sg le de (up so (slt h d) mr))] 174 [(5, .int (iI mr)), (0, .ref (mo 0)), (1, .int (iI 2)), (2, .int (iI p)), (3, .int (iI q)), (4, .int (iI (slt h d)))] [.int (iI (mixI (mixI 11 (sg p)) q)), .int (iI mr), .ref (mo 6)]
            refine r_goto 197 hE dX9_ruleOf_174 (by decide) ?_
            refine r_iast 198 hE 1 3 (wMTab g mo (up kd mr 2) (up on mr p) (up tw mr q) (up sg mr (mixI (mixI 11 (sg p)) q)) le de (up so (slt h d) mr)) [(wMo g mo mst mac mmk (mr + 1) mrd mrm mcm mtp msz mtk mbg men mls mvl mft mfp mfk mdp mto), (wMTab g mo (up kd mr 2) (up on mr p) (up tw mr q) (up sg mr (mixI (mixI 11 (sg p)) q)) le de (up so (slt h d) mr))] dX9_ruleOf_197 rfl rfl rfl (by omega) rfl rfl ?_
            refine r_aload_n 199 hE 1 dX9_ruleOf_198 rfl rfl rfl ?_
            refine r_get 202 hE 0 0 ok9 9 dX9_ruleOf_199 rfl wd_1061 rfl rfl (by decide) rfl ?_
            refine r_iload 204 hE 0 dX9_ruleOf_202 rfl rfl ?_
            refine r_iload_n 205 hE 2 dX9_ruleOf_204 rfl rfl rfl ?_
            refine r_if_ne 208 212 hE dX9_ruleOf_205 rfl (by decide) (by omega) (fun c205 => ?_) (fun c205 => ?_)
            · skip
              refine r_iload_n 213 hE 2 dX9_ruleOf_212 rfl rfl rfl ?_
              refine r_iconst 214 hE dX9_ruleOf_213 rfl ?_
              refine r_icmp_ne 217 228 hE dX9_ruleOf_214 rfl (by decide) (by omega) (fun c214 => ?_) (fun c214 => ?_)
              · skip
                omega
              · skip
                refine r_aload_n 218 hE 1 dX9_ruleOf_217 rfl rfl rfl ?_
                refine r_get 221 hE 0 0 ok9 9 dX9_ruleOf_218 rfl wd_1061 rfl rfl (by decide) rfl ?_
                refine r_iload_n 222 hE 3 dX9_ruleOf_221 rfl rfl rfl ?_
                refine r_iald 223 hE 1 4 dX9_ruleOf_222 rfl rfl rfl (by omega) ?_
                refine r_iload_n 224 hE 4 dX9_ruleOf_223 rfl rfl rfl ?_
                refine r_imul 225 hE ((le p) * q) dX9_ruleOf_224 rfl rfl ?_
                refine r_goto 241 hE dX9_ruleOf_225 (by decide) ?_
                refine r_iast 242 hE 1 4 (wMTab g mo (up kd mr 2) (up on mr p) (up tw mr q) (up sg mr (mixI (mixI 11 (sg p)) q)) (up le mr ((le p) * q)) de (up so (slt h d) mr)) [(wMo g mo mst mac mmk (mr + 1) mrd mrm mcm mtp msz mtk mbg men mls mvl mft mfp mfk mdp mto), (wMTab g mo (up kd mr 2) (up on mr p) (up tw mr q) (up sg mr (mixI (mixI 11 (sg p)) q)) (up le mr ((le p) * q)) de (up so (slt h d) mr))] dX9_ruleOf_241 rfl rfl rfl (by omega) rfl rfl ?_
                refine r_aload_n 243 hE 1 dX9_ruleOf_242 rfl rfl rfl ?_
                refine r_get 246 hE 0 0 ok9 10 dX9_ruleOf_243 rfl wd_1062 rfl rfl (by decide) rfl ?_
                refine r_iload 248 hE 0 dX9_ruleOf_246 rfl rfl ?_
                refine r_iload_n 249 hE 2 dX9_ruleOf_248 rfl rfl rfl ?_
                refine r_if_ne 252 256 hE dX9_ruleOf_249 rfl (by decide) (by omega) (fun c249 => ?_) (fun c249 => ?_)
                · skip
                  refine r_iload_n 257 hE 2 dX9_ruleOf_256 rfl rfl rfl ?_
                  refine r_iconst 258 hE dX9_ruleOf_257 rfl ?_
                  refine r_icmp_ne 261 272 hE dX9_ruleOf_258 rfl (by decide) (by omega) (fun c258 => ?_) (fun c258 => ?_)
                  · skip
                    omega
                  · skip
                    refine r_iconst 262 hE dX9_ruleOf_261 rfl ?_
                    refine r_aload_n 263 hE 1 dX9_ruleOf_262 rfl rfl rfl ?_
                    refine r_get 266 hE 0 0 ok9 10 dX9_ruleOf_263 rfl wd_1062 rfl rfl (by decide) rfl ?_
                    refine r_iload_n 267 hE 3 dX9_ruleOf_266 rfl rfl rfl ?_
                    refine r_iald 268 hE 1 5 dX9_ruleOf_267 rfl rfl rfl (by omega) ?_
                    refine r_iadd 269 hE (1 + (de p)) dX9_ruleOf_268 rfl rfl ?_
                    refine r_goto 289 hE dX9_ruleOf_269 (by decide) ?_
                    refine r_iast 290 hE 1 5 (wMTab g mo (up kd mr 2) (up on mr p) (up tw mr q) (up sg mr (mixI (mixI 11 (sg p)) q)) (up le mr ((le p) * q)) (up de mr (1 + (de p))) (up so (slt h d) mr)) [(wMo g mo mst mac mmk (mr + 1) mrd mrm mcm mtp msz mtk mbg men mls mvl mft mfp mfk mdp mto), (wMTab g mo (up kd mr 2) (up on mr p) (up tw mr q) (up sg mr (mixI (mixI 11 (sg p)) q)) (up le mr ((le p) * q)) (up de mr (1 + (de p))) (up so (slt h d) mr))] dX9_ruleOf_289 rfl rfl rfl (by omega) rfl rfl ?_
                    refine r_iload 292 hE 0 dX9_ruleOf_290 rfl rfl ?_
                    refine r_ireturn hE hR [(wMo g mo mst mac mmk (mr + 1) mrd mrm mcm mtp msz mtk mbg men mls mvl mft mfp mfk mdp mto), (wMTab g mo (up kd mr 2) (up on mr p) (up tw mr q) (up sg mr (mixI (mixI 11 (sg p)) q)) (up le mr ((le p) * q)) (up de mr (1 + (de p))) (up so (slt h d) mr))] dX9_ruleOf_292 (Nat.le_of_ble_eq_true rfl) (Nat.le_of_ble_eq_true rfl) rfl ?_
                    exact ⟨_, _, _, _, _, _, _, mr + 1, upR R mr (mkM R 2 p q), mr, rfl, rfl, hPush, by omega, fun i a b => upR_ne _ _ (by omega), by omega, upR_same _ _ _, Or.inr rfl⟩
                · skip
                  omega
            · skip
              omega
        · skip
          omega
      · skip
        have hv := hsv.resolve_left c23
        have hxr := (hT.2.1 _ hv.1 hv.2).rg (by omega)
        refine r_aload_n 27 hE 0 dX9_ruleOf_26 rfl rfl rfl ?_
        refine r_get 30 hE 0 0 ok9 11 dX9_ruleOf_27 rfl wd_1063 rfl rfl (by decide) rfl ?_
        refine r_iload 32 hE 4 dX9_ruleOf_30 rfl rfl ?_
        refine r_iald 33 hE 1 6 dX9_ruleOf_32 rfl rfl rfl (by omega) ?_
        refine r_istore 35 hE [(5, .int (iI (so (slt h d)))), (0, .ref (mo 0)), (1, .int (iI 2)), (2, .int (iI p)), (3, .int (iI q)), (4, .int (iI (slt h d)))] dX9_ruleOf_33 rfl (by decide) rfl ?_
        refine r_aload_n 36 hE 1 dX9_ruleOf_35 rfl rfl rfl ?_
        refine r_get 39 hE 0 0 ok9 5 dX9_ruleOf_36 rfl wd_1057 rfl rfl (by decide) rfl ?_
        refine r_iload 41 hE 0 dX9_ruleOf_39 rfl rfl ?_
        refine r_iald 42 hE 1 0 dX9_ruleOf_41 rfl rfl rfl (by omega) ?_
        refine r_iload_n 43 hE 2 dX9_ruleOf_42 rfl rfl rfl ?_
        refine r_icmp_ne 46 71 hE dX9_ruleOf_43 rfl (by decide) (by omega) (fun c43 => ?_) (fun c43 => ?_)
        · skip
          have hps2 : ∀ e, 0 ≤ e → e < d + 1 → so (slt h e) ≠ -1 ∧ ¬ (kd (so (slt h e)) = 2 ∧ on (so (slt h e)) = p ∧ tw (so (slt h e)) = q) := fun e a b => by
            by_cases z : e = d
            · subst z; exact ⟨c23, fun y => by omega⟩
            · exact hps e a (by omega)
          refine r_iload 73 hE 5 dX9_ruleOf_71 rfl rfl ?_
          refine r_iconst 74 hE dX9_ruleOf_73 rfl ?_
          refine r_iadd 75 hE ((slt h d) + 1) dX9_ruleOf_74 rfl rfl ?_
          refine r_sipush 78 hE dX9_ruleOf_75 rfl (by decide) ?_
          refine r_iand 79 hE dX9_ruleOf_78 rfl ?_
          refine r_istore 81 hE [(4, .int (iI (andI ((slt h d) + 1) 32767))), (5, .int (iI (so (slt h d)))), (0, .ref (mo 0)), (1, .int (iI 2)), (2, .int (iI p)), (3, .int (iI q))] dX9_ruleOf_79 rfl (by decide) rfl ?_
          refine r_goto 15 hE dX9_ruleOf_81 (by decide) ?_
          refine G.to (fs' := [(wMo g mo mst mac mmk mr mrd mrm mcm mtp msz mtk mbg men mls mvl mft mfp mfk mdp mto), (wMTab g mo kd on tw sg le de so)]) (lv' := [(0, .ref (mo 0)), (1, .int (iI 2)), (2, .int (iI p)), (3, .int (iI q)), (4, .int (iI (andI ((slt h d) + 1) 32767)))]) [0, 1] [2, 3, 4, 5, 0] rfl rfl rfl ?_
          refine G.cast (fs' := [(wMo g mo mst mac mmk mr mrd mrm mcm mtp msz mtk mbg men mls mvl mft mfp mfk mdp mto), (wMTab g mo kd on tw sg le de so)]) (lv' := [(0, .ref (mo 0)), (1, .int (iI 2)), (2, .int (iI p)), (3, .int (iI q)), (4, .int (iI (slt h _)))]) rfl (congrArg (fun z9 : Int => ([(0, .ref (mo 0)), (1, .int (iI 2)), (2, .int (iI p)), (3, .int (iI q)), (4, .int (iI z9))] : List (Nat × Value))) (show (andI ((slt h d) + 1) 32767 : Int) = slt h _ from by first | exact slt_s h d | (rw [hh]; exact slt_0 (hmS_rg _ _ _)))) ?_
          exact ih15 _ (by omega) (by first | exact hps2 | exact (fun e a b => absurd b (by omega))) (by omega)
        · skip
          refine r_aload_n 47 hE 1 dX9_ruleOf_46 rfl rfl rfl ?_
          refine r_get 50 hE 0 0 ok9 6 dX9_ruleOf_47 rfl wd_1058 rfl rfl (by decide) rfl ?_
          refine r_iload 52 hE 0 dX9_ruleOf_50 rfl rfl ?_
          refine r_iald 53 hE 1 1 dX9_ruleOf_52 rfl rfl rfl (by omega) ?_
          refine r_iload_n 54 hE 3 dX9_ruleOf_53 rfl rfl rfl ?_
          refine r_icmp_ne 57 71 hE dX9_ruleOf_54 rfl (by decide) (by omega) (fun c54 => ?_) (fun c54 => ?_)
          · skip
            have hps2 : ∀ e, 0 ≤ e → e < d + 1 → so (slt h e) ≠ -1 ∧ ¬ (kd (so (slt h e)) = 2 ∧ on (so (slt h e)) = p ∧ tw (so (slt h e)) = q) := fun e a b => by
              by_cases z : e = d
              · subst z; exact ⟨c23, fun y => by omega⟩
              · exact hps e a (by omega)
            refine r_iload 73 hE 5 dX9_ruleOf_71 rfl rfl ?_
            refine r_iconst 74 hE dX9_ruleOf_73 rfl ?_
            refine r_iadd 75 hE ((slt h d) + 1) dX9_ruleOf_74 rfl rfl ?_
            refine r_sipush 78 hE dX9_ruleOf_75 rfl (by decide) ?_
            refine r_iand 79 hE dX9_ruleOf_78 rfl ?_
            refine r_istore 81 hE [(4, .int (iI (andI ((slt h d) + 1) 32767))), (5, .int (iI (so (slt h d)))), (0, .ref (mo 0)), (1, .int (iI 2)), (2, .int (iI p)), (3, .int (iI q))] dX9_ruleOf_79 rfl (by decide) rfl ?_
            refine r_goto 15 hE dX9_ruleOf_81 (by decide) ?_
            refine G.to (fs' := [(wMo g mo mst mac mmk mr mrd mrm mcm mtp msz mtk mbg men mls mvl mft mfp mfk mdp mto), (wMTab g mo kd on tw sg le de so)]) (lv' := [(0, .ref (mo 0)), (1, .int (iI 2)), (2, .int (iI p)), (3, .int (iI q)), (4, .int (iI (andI ((slt h d) + 1) 32767)))]) [0, 1] [2, 3, 4, 5, 0] rfl rfl rfl ?_
            refine G.cast (fs' := [(wMo g mo mst mac mmk mr mrd mrm mcm mtp msz mtk mbg men mls mvl mft mfp mfk mdp mto), (wMTab g mo kd on tw sg le de so)]) (lv' := [(0, .ref (mo 0)), (1, .int (iI 2)), (2, .int (iI p)), (3, .int (iI q)), (4, .int (iI (slt h _)))]) rfl (congrArg (fun z9 : Int => ([(0, .ref (mo 0)), (1, .int (iI 2)), (2, .int (iI p)), (3, .int (iI q)), (4, .int (iI z9))] : List (Nat × Value))) (show (andI ((slt h d) + 1) 32767 : Int) = slt h _ from by first | exact slt_s h d | (rw [hh]; exact slt_0 (hmS_rg _ _ _)))) ?_
            exact ih15 _ (by omega) (by first | exact hps2 | exact (fun e a b => absurd b (by omega))) (by omega)
          · skip
            refine r_aload_n 58 hE 1 dX9_ruleOf_57 rfl rfl rfl ?_
            refine r_get 61 hE 0 0 ok9 7 dX9_ruleOf_58 rfl wd_1059 rfl rfl (by decide) rfl ?_
            refine r_iload 63 hE 0 dX9_ruleOf_61 rfl rfl ?_
            refine r_iald 64 hE 1 2 dX9_ruleOf_63 rfl rfl rfl (by omega) ?_
            refine r_iload_n 65 hE 4 dX9_ruleOf_64 rfl rfl rfl ?_
            refine r_icmp_ne 68 71 hE dX9_ruleOf_65 rfl (by decide) (by omega) (fun c65 => ?_) (fun c65 => ?_)
            · skip
              have hps2 : ∀ e, 0 ≤ e → e < d + 1 → so (slt h e) ≠ -1 ∧ ¬ (kd (so (slt h e)) = 2 ∧ on (so (slt h e)) = p ∧ tw (so (slt h e)) = q) := fun e a b => by
                by_cases z : e = d
                · subst z; exact ⟨c23, fun y => by omega⟩
                · exact hps e a (by omega)
              refine r_iload 73 hE 5 dX9_ruleOf_71 rfl rfl ?_
              refine r_iconst 74 hE dX9_ruleOf_73 rfl ?_
              refine r_iadd 75 hE ((slt h d) + 1) dX9_ruleOf_74 rfl rfl ?_
              refine r_sipush 78 hE dX9_ruleOf_75 rfl (by decide) ?_
              refine r_iand 79 hE dX9_ruleOf_78 rfl ?_
              refine r_istore 81 hE [(4, .int (iI (andI ((slt h d) + 1) 32767))), (5, .int (iI (so (slt h d)))), (0, .ref (mo 0)), (1, .int (iI 2)), (2, .int (iI p)), (3, .int (iI q))] dX9_ruleOf_79 rfl (by decide) rfl ?_
              refine r_goto 15 hE dX9_ruleOf_81 (by decide) ?_
              refine G.to (fs' := [(wMo g mo mst mac mmk mr mrd mrm mcm mtp msz mtk mbg men mls mvl mft mfp mfk mdp mto), (wMTab g mo kd on tw sg le de so)]) (lv' := [(0, .ref (mo 0)), (1, .int (iI 2)), (2, .int (iI p)), (3, .int (iI q)), (4, .int (iI (andI ((slt h d) + 1) 32767)))]) [0, 1] [2, 3, 4, 5, 0] rfl rfl rfl ?_
              refine G.cast (fs' := [(wMo g mo mst mac mmk mr mrd mrm mcm mtp msz mtk mbg men mls mvl mft mfp mfk mdp mto), (wMTab g mo kd on tw sg le de so)]) (lv' := [(0, .ref (mo 0)), (1, .int (iI 2)), (2, .int (iI p)), (3, .int (iI q)), (4, .int (iI (slt h _)))]) rfl (congrArg (fun z9 : Int => ([(0, .ref (mo 0)), (1, .int (iI 2)), (2, .int (iI p)), (3, .int (iI q)), (4, .int (iI z9))] : List (Nat × Value))) (show (andI ((slt h d) + 1) 32767 : Int) = slt h _ from by first | exact slt_s h d | (rw [hh]; exact slt_0 (hmS_rg _ _ _)))) ?_
              exact ih15 _ (by omega) (by first | exact hps2 | exact (fun e a b => absurd b (by omega))) (by omega)
            · skip
              refine r_iload 70 hE 0 dX9_ruleOf_68 rfl rfl ?_
              refine r_ireturn hE hR [(wMo g mo mst mac mmk mr mrd mrm mcm mtp msz mtk mbg men mls mvl mft mfp mfk mdp mto), (wMTab g mo kd on tw sg le de so)] dX9_ruleOf_70 (Nat.le_of_ble_eq_true rfl) (Nat.le_of_ble_eq_true rfl) rfl ?_
              exact ⟨kd, on, tw, sg, le, de, so, mr, R, so (slt h d), rfl, rfl, hT, by omega, fun _ _ _ => rfl, by omega, hT.hit hm hv c43 c54 c65, Or.inl rfl⟩
  refine r_iload_n 1 hE 1 dX9_ruleOf_0 rfl rfl rfl ?_
  refine r_iload_n 2 hE 2 dX9_ruleOf_1 rfl rfl rfl ?_
  refine r_callS 5 hE [] [0, 1] [] [(wMo g mo mst mac mmk mr mrd mrm mcm mtp msz mtk mbg men mls mvl mft mfp mfk mdp mto), (wMTab g mo kd on tw sg le de so)] [] (c_X9_mix) dX9_ruleOf_2 rfl wd_1322 wd_1323 wd_12 wd_1324 ne_X9 np_X9_mix (Nat.le_of_ble_eq_true rfl)  (by decide) (by decide) rfl (Nat.le_of_ble_eq_true rfl) rfl rfl rfl rfl (by decide) (fun v1 f1 hp => ?_)
  obtain ⟨rfl, rfl⟩ := hp
  show G g E _ _ _ [(wMo g mo mst mac mmk mr mrd mrm mcm mtp msz mtk mbg men mls mvl mft mfp mfk mdp mto), (wMTab g mo kd on tw sg le de so)] 5 [(0, .ref (mo 0)), (1, .int (iI 2)), (2, .int (iI p)), (3, .int (iI q))] [.int (iI (mixI 2 p))]
  refine r_iload_n 6 hE 3 dX9_ruleOf_5 rfl rfl rfl ?_
  refine r_callS 9 hE [] [0, 1] [] [(wMo g mo mst mac mmk mr mrd mrm mcm mtp msz mtk mbg men mls mvl mft mfp mfk mdp mto), (wMTab g mo kd on tw sg le de so)] [] (c_X9_mix) dX9_ruleOf_6 rfl wd_1322 wd_1323 wd_12 wd_1324 ne_X9 np_X9_mix (Nat.le_of_ble_eq_true rfl)  (by decide) (by decide) rfl (Nat.le_of_ble_eq_true rfl) rfl rfl rfl rfl (by decide) (fun v1 f1 hp => ?_)
  obtain ⟨rfl, rfl⟩ := hp
  show G g E _ _ _ [(wMo g mo mst mac mmk mr mrd mrm mcm mtp msz mtk mbg men mls mvl mft mfp mfk mdp mto), (wMTab g mo kd on tw sg le de so)] 9 [(0, .ref (mo 0)), (1, .int (iI 2)), (2, .int (iI p)), (3, .int (iI q))] [.int (iI (mixI (mixI 2 p) q))]
  refine r_sipush 12 hE dX9_ruleOf_9 rfl (by decide) ?_
  refine r_iand 13 hE dX9_ruleOf_12 rfl ?_
  refine r_istore 15 hE [(4, .int (iI (andI (mixI (mixI 2 p) q) 32767))), (0, .ref (mo 0)), (1, .int (iI 2)), (2, .int (iI p)), (3, .int (iI q))] dX9_ruleOf_13 rfl (by decide) rfl ?_
  refine G.to (fs' := [(wMo g mo mst mac mmk mr mrd mrm mcm mtp msz mtk mbg men mls mvl mft mfp mfk mdp mto), (wMTab g mo kd on tw sg le de so)]) (lv' := [(0, .ref (mo 0)), (1, .int (iI 2)), (2, .int (iI p)), (3, .int (iI q)), (4, .int (iI (andI (mixI (mixI 2 p) q) 32767)))]) [0, 1] [1, 2, 3, 4, 0] rfl rfl rfl ?_
  refine G.cast (fs' := [(wMo g mo mst mac mmk mr mrd mrm mcm mtp msz mtk mbg men mls mvl mft mfp mfk mdp mto), (wMTab g mo kd on tw sg le de so)]) (lv' := [(0, .ref (mo 0)), (1, .int (iI 2)), (2, .int (iI p)), (3, .int (iI q)), (4, .int (iI (slt h _)))]) rfl (congrArg (fun z9 : Int => ([(0, .ref (mo 0)), (1, .int (iI 2)), (2, .int (iI p)), (3, .int (iI q)), (4, .int (iI z9))] : List (Nat × Value))) (show (andI (mixI (mixI 2 p) q) 32767 : Int) = slt h _ from by first | exact slt_s h d | (rw [hh]; exact slt_0 (hmS_rg _ _ _)))) ?_
  exact cut15 _ _ (by omega) (by first | exact hps2 | exact (fun e a b => absurd b (by omega))) (Nat.lt_succ_self _)
