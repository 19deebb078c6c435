set_option maxHeartbeats 4000000 in
set_option maxRecDepth 100000 in
theorem c_X9_numbers {g : Gm} {mo : Nat → Nat} {mst mac mmk mr mrd mrm mcm mtp msz mtk mbg men mls mvl mft mfp mfk mdp mto : Int} {kd on tw sg le de so : Int → Int} {R : Int → Rl} {cm nu fa oft hp ha : Int → Int} {t : Int} (hT : MT kd on tw sg le de so mr R) (htt : 0 ≤ t ∧ t < mr) : Ct g 0 0 0 yX9_numbers cX9_numbers 5 none [.ref (mo 0), .int (iI t)] [(wMo g mo mst mac mmk mr mrd mrm mcm mtp msz mtk mbg men mls mvl mft mfp mfk mdp mto), (wMTab g mo kd on tw sg le de so), (wMCom g mo cm), (wMNum g mo nu fa oft), (wMHea g mo hp ha)] (fun v_ w_ => ∃ nu9 : Int → Int, ∃ fa9 : Int → Int, ∃ of9 : Int → Int, ∃ cm9 : Int → Int, ∃ hp9 : Int → Int, ∃ ha9 : Int → Int, ∃ wc9 : Int, v_ = none ∧ w_ = [(wMo g mo mst mac mmk mr mrd mrm wc9 mtp msz mtk mbg men mls mvl mft mfp mfk mdp mto), (wMTab g mo kd on tw sg le de so), (wMCom g mo cm9), (wMNum g mo nu9 fa9 of9), (wMHea g mo hp9 ha9)] ∧ (NV R mr (vis (R t) 0 []) nu9 fa9 cm9 wc9) ∧ (∀ i, 0 ≤ i → i < mr → of9 i = 0) ∧ (0 ≤ wc9 ∧ wc9 ≤ 1199)) := by
  refine Ct.of (by decide) (Nat.le_of_ble_eq_true rfl) (lv := [(0, .ref (mo 0)), (1, .int (iI t))]) rfl ?_
  intro E hE hR hnm
  have hcn := hT.1
  have hrt := hT.2.1 t htt.1 htt.2
  have hnt := nod_le hrt.2.2.2.2.1
  have hrl := hrt.2.2.2.2.2
  have cut51 : ∀ (N : Nat) (nu9 : Int → Int) (fa9 : Int → Int) (of9 : Int → Int) (cm9 : Int → Int) (hp9 : Int → Int) (ha9 : Int → Int) (wc9 : Int) (n : Int) (V9 : List (Rl × Int)), (NV R mr V9 nu9 fa9 cm9 wc9) → (0 ≤ n ∧ n ≤ 1200) → (∀ j, 0 ≤ j → j < n → 0 ≤ hp9 j ∧ hp9 j < mr) → (visS (stk R hp9 ha9 n) V9 = vis (R t) 0 []) → (0 ≤ wc9 ∧ wc9 + nodS (stk R hp9 ha9 n) ≤ 1199) → (∀ i, 0 ≤ i → i < mr → of9 i = 0) → (nodS (stk R hp9 ha9 n)).toNat < N → G g E 5 0 0 [(wMo g mo mst mac mmk mr mrd mrm wc9 mtp msz mtk mbg men mls mvl mft mfp mfk mdp mto), (wMTab g mo kd on tw sg le de so), (wMCom g mo cm9), (wMNum g mo nu9 fa9 of9), (wMHea g mo hp9 ha9)] 51 [(0, .ref (mo 0)), (1, .int (iI t)), (2, .int (iI n))] [] := by
    intro N
    induction N with
    | zero => intro nu9 fa9 of9 cm9 hp9 ha9 wc9 n V9 _ _ _ _ _ _ hN; exact absurd hN (Nat.not_lt_zero _)
    | succ N ih51 =>
      intro nu9 fa9 of9 cm9 hp9 ha9 wc9 n V9 hN9 hn hen hvs hno hof hN
      have hnl := nodS_nn (stk R hp9 ha9 n)
      rw [stk_len _ _ _ hn.1] at hnl
      have cut58 : ∀ (m : Int), (m + 1 = n) → (0 ≤ m) → G g E 5 0 0 [(wMo g mo mst mac mmk mr mrd mrm wc9 mtp msz mtk mbg men mls mvl mft mfp mfk mdp mto), (wMTab g mo kd on tw sg le de so), (wMCom g mo cm9), (wMNum g mo nu9 fa9 of9), (wMHea g mo hp9 ha9)] 58 [(0, .ref (mo 0)), (1, .int (iI t)), (2, .int (iI m))] [] := by
        intro m hm hm0
        have hpop := stk_pop (R := R) (op := hp9) (no := ha9) (n := n) (by omega)
        rw [show n - 1 = m by omega] at hpop
        have hx := hen m (by omega) (by omega)
        have hxr := hT.2.1 _ hx.1 hx.2
        have hxg := hxr.rg (by omega)
        have hnr := hN9.rg hx
        refine r_aload_n 59 hE 0 dX9_numbers_58 rfl rfl rfl ?_
        refine r_get 62 hE 0 0 ok9 20 dX9_numbers_59 rfl wd_1072 rfl rfl (by decide) rfl ?_
        refine r_iload_n 63 hE 2 dX9_numbers_62 rfl rfl rfl ?_
        refine r_iald 64 hE 4 0 dX9_numbers_63 rfl rfl rfl (by omega) ?_
        refine r_istore_n 65 hE [(3, .int (iI (hp9 m))), (0, .ref (mo 0)), (1, .int (iI t)), (2, .int (iI m))] dX9_numbers_64 rfl rfl (by decide) rfl ?_
        refine r_aload_n 66 hE 1 dX9_numbers_65 rfl rfl rfl ?_
        refine r_get 69 hE 0 0 ok9 21 dX9_numbers_66 rfl wd_1073 rfl rfl (by decide) rfl ?_
        refine r_iload_n 70 hE 3 dX9_numbers_69 rfl rfl rfl ?_
        refine r_iald 71 hE 4 1 dX9_numbers_70 rfl rfl rfl (by omega) ?_
        refine r_istore 73 hE [(4, .int (iI (ha9 m))), (3, .int (iI (hp9 m))), (0, .ref (mo 0)), (1, .int (iI t)), (2, .int (iI m))] dX9_numbers_71 rfl (by decide) rfl ?_
        refine r_aload_n 74 hE 2 dX9_numbers_73 rfl rfl rfl ?_
        refine r_get 77 hE 0 0 ok9 17 dX9_numbers_74 rfl wd_1069 rfl rfl (by decide) rfl ?_
        refine r_iload_n 78 hE 1 dX9_numbers_77 rfl rfl rfl ?_
        refine r_iald 79 hE 3 0 dX9_numbers_78 rfl rfl rfl (by omega) ?_
        refine r_iconst 80 hE dX9_numbers_79 rfl ?_
        refine r_icmp_eq 83 86 hE dX9_numbers_80 rfl (by decide) (by omega) (fun c80 => ?_) (fun c80 => ?_)
        · skip
          have hnew := hN9.no hx c80
          have hNm := hN9.meet (ha9 m) hx c80 hT.2.2.1
          refine r_aload_n 87 hE 2 dX9_numbers_86 rfl rfl rfl ?_
          refine r_get 90 hE 0 0 ok9 17 dX9_numbers_87 rfl wd_1069 rfl rfl (by decide) rfl ?_
          refine r_iload_n 91 hE 1 dX9_numbers_90 rfl rfl rfl ?_
          refine r_aload_n 92 hE 2 dX9_numbers_91 rfl rfl rfl ?_
          refine r_get 95 hE 0 0 ok9 22 dX9_numbers_92 rfl wd_1074 rfl rfl (by decide) rfl ?_
          refine r_iast 96 hE 3 0 (wMNum g mo (up nu9 (hp9 m) wc9) fa9 of9) [(wMo g mo mst mac mmk mr mrd mrm wc9 mtp msz mtk mbg men mls mvl mft mfp mfk mdp mto), (wMTab g mo kd on tw sg le de so), (wMCom g mo cm9), (wMNum g mo (up nu9 (hp9 m) wc9) fa9 of9), (wMHea g mo hp9 ha9)] dX9_numbers_95 rfl rfl rfl (by omega) rfl rfl ?_
          refine r_aload_n 97 hE 2 dX9_numbers_96 rfl rfl rfl ?_
          refine r_get 100 hE 0 0 ok9 18 dX9_numbers_97 rfl wd_1070 rfl rfl (by decide) rfl ?_
          refine r_iload_n 101 hE 1 dX9_numbers_100 rfl rfl rfl ?_
          refine r_iload 103 hE 0 dX9_numbers_101 rfl rfl ?_
          refine r_iast 104 hE 3 1 (wMNum g mo (up nu9 (hp9 m) wc9) (up fa9 (hp9 m) (ha9 m)) of9) [(wMo g mo mst mac mmk mr mrd mrm wc9 mtp msz mtk mbg men mls mvl mft mfp mfk mdp mto), (wMTab g mo kd on tw sg le de so), (wMCom g mo cm9), (wMNum g mo (up nu9 (hp9 m) wc9) (up fa9 (hp9 m) (ha9 m)) of9), (wMHea g mo hp9 ha9)] dX9_numbers_103 rfl rfl rfl (by omega) rfl rfl ?_
          refine r_aload_n 105 hE 2 dX9_numbers_104 rfl rfl rfl ?_
          refine r_get 108 hE 0 0 ok9 16 dX9_numbers_105 rfl wd_1068 rfl rfl (by decide) rfl ?_
          refine r_aload_n 109 hE 2 dX9_numbers_108 rfl rfl rfl ?_
          refine r_get 112 hE 0 0 ok9 22 dX9_numbers_109 rfl wd_1074 rfl rfl (by decide) rfl ?_
          refine r_iload_n 113 hE 1 dX9_numbers_112 rfl rfl rfl ?_
          refine r_iast 114 hE 2 0 (wMCom g mo (up cm9 wc9 (hp9 m))) [(wMo g mo mst mac mmk mr mrd mrm wc9 mtp msz mtk mbg men mls mvl mft mfp mfk mdp mto), (wMTab g mo kd on tw sg le de so), (wMCom g mo (up cm9 wc9 (hp9 m))), (wMNum g mo (up nu9 (hp9 m) wc9) (up fa9 (hp9 m) (ha9 m)) of9), (wMHea g mo hp9 ha9)] dX9_numbers_113 rfl rfl rfl (by omega) rfl rfl ?_
          refine r_aload_n 115 hE 2 dX9_numbers_114 rfl rfl rfl ?_
          refine r_dup 116 hE dX9_numbers_115 rfl rfl ?_
          refine r_get 119 hE 0 0 ok9 22 dX9_numbers_116 rfl wd_1074 rfl rfl (by decide) rfl ?_
          refine r_iconst 120 hE dX9_numbers_119 rfl ?_
          refine r_iadd 121 hE (wc9 + 1) dX9_numbers_120 rfl rfl ?_
          refine r_put 124 hE 0 0 ok9 22 (wMo g mo mst mac mmk mr mrd mrm (wc9 + 1) mtp msz mtk mbg men mls mvl mft mfp mfk mdp mto) [(wMo g mo mst mac mmk mr mrd mrm (wc9 + 1) mtp msz mtk mbg men mls mvl mft mfp mfk mdp mto), (wMTab g mo kd on tw sg le de so), (wMCom g mo (up cm9 wc9 (hp9 m))), (wMNum g mo (up nu9 (hp9 m) wc9) (up fa9 (hp9 m) (ha9 m)) of9), (wMHea g mo hp9 ha9)] dX9_numbers_121 rfl wd_1074 rfl rfl (by decide) rfl rfl rfl (Nat.le_of_ble_eq_true rfl) rfl rfl ?_
          refine r_aload_n 125 hE 2 dX9_numbers_124 rfl rfl rfl ?_
          refine r_get 128 hE 0 0 ok9 5 dX9_numbers_125 rfl wd_1057 rfl rfl (by decide) rfl ?_
          refine r_iload_n 129 hE 1 dX9_numbers_128 rfl rfl rfl ?_
          refine r_iald 130 hE 1 0 dX9_numbers_129 rfl rfl rfl (by omega) ?_
          refine r_if_ne 133 136 hE dX9_numbers_130 rfl (by decide) (by omega) (fun c130 => ?_) (fun c130 => ?_)
          · skip
            refine r_aload_n 137 hE 2 dX9_numbers_136 rfl rfl rfl ?_
            refine r_get 140 hE 0 0 ok9 5 dX9_numbers_137 rfl wd_1057 rfl rfl (by decide) rfl ?_
            refine r_iload_n 141 hE 1 dX9_numbers_140 rfl rfl rfl ?_
            refine r_iald 142 hE 1 0 dX9_numbers_141 rfl rfl rfl (by omega) ?_
            refine r_iconst 143 hE dX9_numbers_142 rfl ?_
            refine r_icmp_ne 146 181 hE dX9_numbers_143 rfl (by decide) (by omega) (fun c143 => ?_) (fun c143 => ?_)
            · skip
              have hRun := hxr.run c130 c143
              have hfx : 0 ≤ on (hp9 m) ∧ on (hp9 m) < mr := by omega
              refine r_aload_n 182 hE 2 dX9_numbers_181 rfl rfl rfl ?_
              refine r_get 185 hE 0 0 ok9 20 dX9_numbers_182 rfl wd_1072 rfl rfl (by decide) rfl ?_
              refine r_iload_n 186 hE 4 dX9_numbers_185 rfl rfl rfl ?_
              refine r_aload_n 187 hE 2 dX9_numbers_186 rfl rfl rfl ?_
              refine r_get 190 hE 0 0 ok9 6 dX9_numbers_187 rfl wd_1058 rfl rfl (by decide) rfl ?_
              refine r_iload_n 191 hE 1 dX9_numbers_190 rfl rfl rfl ?_
              refine r_iald 192 hE 1 1 dX9_numbers_191 rfl rfl rfl (by omega) ?_
              refine r_iast 193 hE 4 0 (wMHea g mo (up hp9 m (on (hp9 m))) ha9) [(wMo g mo mst mac mmk mr mrd mrm (wc9 + 1) mtp msz mtk mbg men mls mvl mft mfp mfk mdp mto), (wMTab g mo kd on tw sg le de so), (wMCom g mo (up cm9 wc9 (hp9 m))), (wMNum g mo (up nu9 (hp9 m) wc9) (up fa9 (hp9 m) (ha9 m)) of9), (wMHea g mo (up hp9 m (on (hp9 m))) ha9)] dX9_numbers_192 rfl rfl rfl (by omega) rfl rfl ?_
              refine r_aload_n 194 hE 2 dX9_numbers_193 rfl rfl rfl ?_
              refine r_get 197 hE 0 0 ok9 21 dX9_numbers_194 rfl wd_1073 rfl rfl (by decide) rfl ?_
              refine r_iload_n 198 hE 4 dX9_numbers_197 rfl rfl rfl ?_
              refine r_iload 200 hE 0 dX9_numbers_198 rfl rfl ?_
              refine r_iast 201 hE 4 1 (wMHea g mo (up hp9 m (on (hp9 m))) (up ha9 m (ha9 m))) [(wMo g mo mst mac mmk mr mrd mrm (wc9 + 1) mtp msz mtk mbg men mls mvl mft mfp mfk mdp mto), (wMTab g mo kd on tw sg le de so), (wMCom g mo (up cm9 wc9 (hp9 m))), (wMNum g mo (up nu9 (hp9 m) wc9) (up fa9 (hp9 m) (ha9 m)) of9), (wMHea g mo (up hp9 m (on (hp9 m))) (up ha9 m (ha9 m)))] dX9_numbers_200 rfl rfl rfl (by omega) rfl rfl ?_
              refine r_iinc 204 hE 4 (m + 1) [(2, .int (iI (m + 1))), (4, .int (iI (ha9 m))), (3, .int (iI (hp9 m))), (0, .ref (mo 0)), (1, .int (iI t))] dX9_numbers_201 rfl rfl rfl (by decide) rfl ?_
              refine r_goto 51 hE dX9_numbers_204 (by decide) ?_
              refine G.to (fs' := [(wMo g mo mst mac mmk mr mrd mrm (wc9 + 1) mtp msz mtk mbg men mls mvl mft mfp mfk mdp mto), (wMTab g mo kd on tw sg le de so), (wMCom g mo (up cm9 wc9 (hp9 m))), (wMNum g mo (up nu9 (hp9 m) wc9) (up fa9 (hp9 m) (ha9 m)) of9), (wMHea g mo (up hp9 m (on (hp9 m))) (up ha9 m (ha9 m)))]) (lv' := [(0, .ref (mo 0)), (1, .int (iI t)), (2, .int (iI (m + 1)))]) [0, 1, 2, 3, 4] [3, 4, 0] rfl rfl rfl ?_
              exact ih51 (up nu9 (hp9 m) wc9) (up fa9 (hp9 m) (ha9 m)) of9 (up cm9 wc9 (hp9 m)) (up hp9 m (on (hp9 m))) (up ha9 m (ha9 m)) (wc9 + 1) (m + 1) _ (by first | exact hN9 | exact hNm | exact NV.new (fun j a b => (h1 j a (by omega)).1)) (by omega) (by first | exact (fun j a b => hen j a (by omega)) | exact en_push (fun j a b => hen j a (by omega)) hfx | (have h9 := en_push (en_push (f := hp9) (n := m) (c := mr) (fun j a b => hen j a (by omega)) htx) hfx; exact fun j a b => h9 j a (by omega)) | exact (fun j a b => by rw [show j = 0 by omega, up_same]; exact htt)) (by first | exact vs_old hpop hvs hold | exact vs_let hpop hvs hnew hLet.1 | exact vs_run hpop hvs hnew hRun.1 (by omega) | (rw [show m + 2 = m + 1 + 1 by omega]; exact vs_pair hpop hvs hnew hPair.1 (by omega) hle) | (rw [show (1 : Int) = 0 + 1 from rfl, stk_push (by omega), stk_0 _ _ _ (by omega)]; rfl)) (by first | exact ⟨hno.1, by have := nn_old hpop hno.2; omega⟩ | exact ⟨by omega, nn_old hpop hno.2⟩ | exact ⟨by omega, nn_run hpop hno.2 hRun.1 (by omega)⟩ | (rw [show m + 2 = m + 1 + 1 by omega]; exact ⟨by omega, nn_pair hpop hno.2 hPair.1 (by omega)⟩) | (rw [show (1 : Int) = 0 + 1 from rfl, stk_push (by omega), stk_0 _ _ _ (by omega)]; show (0 : Int) ≤ 0 ∧ 0 + (nod (R t) + 0) ≤ 1199; omega)) (by first | exact hof | exact (fun j a b => (h1 j a (by omega)).2)) (by first | (have h9 := nn_old (i := 0) (K := nodS (stk R hp9 ha9 n)) hpop (by omega); omega) | (have h9 := nn_run (i := 0) (K := nodS (stk R hp9 ha9 n)) (q := ha9 m) hpop (by omega) hRun.1 (by omega); omega) | (rw [show m + 2 = m + 1 + 1 by omega]; have h9 := nn_pair (i := 0) (K := nodS (stk R hp9 ha9 n)) (q := ha9 m + le (on (hp9 m))) (q2 := ha9 m) hpop (by omega) hPair.1 (by omega); omega))
            · skip
              have hPair := hxr.pair c143
              have hfx : 0 ≤ on (hp9 m) ∧ on (hp9 m) < mr := by omega
              have htx : 0 ≤ tw (hp9 m) ∧ tw (hp9 m) < mr := by omega
              have hle := (hT.2.1 _ hfx.1 hfx.2).2.2.1
              refine r_aload_n 147 hE 2 dX9_numbers_146 rfl rfl rfl ?_
              refine r_get 150 hE 0 0 ok9 20 dX9_numbers_147 rfl wd_1072 rfl rfl (by decide) rfl ?_
              refine r_iload_n 151 hE 4 dX9_numbers_150 rfl rfl rfl ?_
              refine r_aload_n 152 hE 2 dX9_numbers_151 rfl rfl rfl ?_
              refine r_get 155 hE 0 0 ok9 7 dX9_numbers_152 rfl wd_1059 rfl rfl (by decide) rfl ?_
              refine r_iload_n 156 hE 1 dX9_numbers_155 rfl rfl rfl ?_
              refine r_iald 157 hE 1 2 dX9_numbers_156 rfl rfl rfl (by omega) ?_
              refine r_iast 158 hE 4 0 (wMHea g mo (up hp9 m (tw (hp9 m))) ha9) [(wMo g mo mst mac mmk mr mrd mrm (wc9 + 1) mtp msz mtk mbg men mls mvl mft mfp mfk mdp mto), (wMTab g mo kd on tw sg le de so), (wMCom g mo (up cm9 wc9 (hp9 m))), (wMNum g mo (up nu9 (hp9 m) wc9) (up fa9 (hp9 m) (ha9 m)) of9), (wMHea g mo (up hp9 m (tw (hp9 m))) ha9)] dX9_numbers_157 rfl rfl rfl (by omega) rfl rfl ?_
              refine r_aload_n 159 hE 2 dX9_numbers_158 rfl rfl rfl ?_
              refine r_get 162 hE 0 0 ok9 21 dX9_numbers_159 rfl wd_1073 rfl rfl (by decide) rfl ?_
              refine r_iload_n 163 hE 4 dX9_numbers_162 rfl rfl rfl ?_
              refine r_iload 165 hE 0 dX9_numbers_163 rfl rfl ?_
              refine r_aload_n 166 hE 2 dX9_numbers_165 rfl rfl rfl ?_
              refine r_get 169 hE 0 0 ok9 9 dX9_numbers_166 rfl wd_1061 rfl rfl (by decide) rfl ?_
              refine r_aload_n 170 hE 2 dX9_numbers_169 rfl rfl rfl ?_
              refine r_get 173 hE 0 0 ok9 6 dX9_numbers_170 rfl wd_1058 rfl rfl (by decide) rfl ?_
              refine r_iload_n 174 hE 1 dX9_numbers_173 rfl rfl rfl ?_
              refine r_iald 175 hE 1 1 dX9_numbers_174 rfl rfl rfl (by omega) ?_
              refine r_iald 176 hE 1 4 dX9_numbers_175 rfl rfl rfl (by omega) ?_
              refine r_iadd 177 hE ((ha9 m) + (le (on (hp9 m)))) dX9_numbers_176 rfl rfl ?_
              refine r_iast 178 hE 4 1 (wMHea g mo (up hp9 m (tw (hp9 m))) (up ha9 m ((ha9 m) + (le (on (hp9 m)))))) [(wMo g mo mst mac mmk mr mrd mrm (wc9 + 1) mtp msz mtk mbg men mls mvl mft mfp mfk mdp mto), (wMTab g mo kd on tw sg le de so), (wMCom g mo (up cm9 wc9 (hp9 m))), (wMNum g mo (up nu9 (hp9 m) wc9) (up fa9 (hp9 m) (ha9 m)) of9), (wMHea g mo (up hp9 m (tw (hp9 m))) (up ha9 m ((ha9 m) + (le (on (hp9 m))))))] dX9_numbers_177 rfl rfl rfl (by omega) rfl rfl ?_
              refine r_iinc 181 hE 4 (m + 1) [(2, .int (iI (m + 1))), (4, .int (iI (ha9 m))), (3, .int (iI (hp9 m))), (0, .ref (mo 0)), (1, .int (iI t))] dX9_numbers_178 rfl rfl rfl (by decide) rfl ?_
              refine r_aload_n 182 hE 3 dX9_numbers_181 rfl rfl rfl ?_
              refine r_get 185 hE 0 0 ok9 20 dX9_numbers_182 rfl wd_1072 rfl rfl (by decide) rfl ?_
              refine r_iload_n 186 hE 0 dX9_numbers_185 rfl rfl rfl ?_
              refine r_aload_n 187 hE 3 dX9_numbers_186 rfl rfl rfl ?_
              refine r_get 190 hE 0 0 ok9 6 dX9_numbers_187 rfl wd_1058 rfl rfl (by decide) rfl ?_
              refine r_iload_n 191 hE 2 dX9_numbers_190 rfl rfl rfl ?_
              refine r_iald 192 hE 1 1 dX9_numbers_191 rfl rfl rfl (by omega) ?_
              refine r_iast 193 hE 4 0 (wMHea g mo (up (up hp9 m (tw (hp9 m))) (m + 1) (on (hp9 m))) (up ha9 m ((ha9 m) + (le (on (hp9 m)))))) [(wMo g mo mst mac mmk mr mrd mrm (wc9 + 1) mtp msz mtk mbg men mls mvl mft mfp mfk mdp mto), (wMTab g mo kd on tw sg le de so), (wMCom g mo (up cm9 wc9 (hp9 m))), (wMNum g mo (up nu9 (hp9 m) wc9) (up fa9 (hp9 m) (ha9 m)) of9), (wMHea g mo (up (up hp9 m (tw (hp9 m))) (m + 1) (on (hp9 m))) (up ha9 m ((ha9 m) + (le (on (hp9 m))))))] dX9_numbers_192 rfl rfl rfl (by omega) rfl rfl ?_
              refine r_aload_n 194 hE 3 dX9_numbers_193 rfl rfl rfl ?_
              refine r_get 197 hE 0 0 ok9 21 dX9_numbers_194 rfl wd_1073 rfl rfl (by decide) rfl ?_
              refine r_iload_n 198 hE 0 dX9_numbers_197 rfl rfl rfl ?_
              refine r_iload 200 hE 1 dX9_numbers_198 rfl rfl ?_
              refine r_iast 201 hE 4 1 (wMHea g mo (up (up hp9 m (tw (hp9 m))) (m + 1) (on (hp9 m))) (up (up ha9 m ((ha9 m) + (le (on (hp9 m))))) (m + 1) (ha9 m))) [(wMo g mo mst mac mmk mr mrd mrm (wc9 + 1) mtp msz mtk mbg men mls mvl mft mfp mfk mdp mto), (wMTab g mo kd on tw sg le de so), (wMCom g mo (up cm9 wc9 (hp9 m))), (wMNum g mo (up nu9 (hp9 m) wc9) (up fa9 (hp9 m) (ha9 m)) of9), (wMHea g mo (up (up hp9 m (tw (hp9 m))) (m + 1) (on (hp9 m))) (up (up ha9 m ((ha9 m) + (le (on (hp9 m))))) (m + 1) (ha9 m)))] dX9_numbers_200 rfl rfl rfl (by omega) rfl rfl ?_
              refine r_iinc 204 hE 0 (m + 2) [(2, .int (iI (m + 2))), (4, .int (iI (ha9 m))), (3, .int (iI (hp9 m))), (0, .ref (mo 0)), (1, .int (iI t))] dX9_numbers_201 rfl rfl (by omega) (by decide) rfl ?_
              refine r_goto 51 hE dX9_numbers_204 (by decide) ?_
              refine G.to (fs' := [(wMo g mo mst mac mmk mr mrd mrm (wc9 + 1) mtp msz mtk mbg men mls mvl mft mfp mfk mdp mto), (wMTab g mo kd on tw sg le de so), (wMCom g mo (up cm9 wc9 (hp9 m))), (wMNum g mo (up nu9 (hp9 m) wc9) (up fa9 (hp9 m) (ha9 m)) of9), (wMHea g mo (up (up hp9 m (tw (hp9 m))) (m + 1) (on (hp9 m))) (up (up ha9 m ((ha9 m) + (le (on (hp9 m))))) (m + 1) (ha9 m)))]) (lv' := [(0, .ref (mo 0)), (1, .int (iI t)), (2, .int (iI (m + 2)))]) [0, 1, 2, 3, 4] [3, 4, 0] rfl rfl rfl ?_
              exact ih51 (up nu9 (hp9 m) wc9) (up fa9 (hp9 m) (ha9 m)) of9 (up cm9 wc9 (hp9 m)) (up (up hp9 m (tw (hp9 m))) (m + 1) (on (hp9 m))) (up (up ha9 m ((ha9 m) + (le (on (hp9 m))))) (m + 1) (ha9 m)) (wc9 + 1) (m + 2) _ (by first | exact hN9 | exact hNm | exact NV.new (fun j a b => (h1 j a (by omega)).1)) (by omega) (by first | exact (fun j a b => hen j a (by omega)) | exact en_push (fun j a b => hen j a (by omega)) hfx | (have h9 := en_push (en_push (f := hp9) (n := m) (c := mr) (fun j a b => hen j a (by omega)) htx) hfx; exact fun j a b => h9 j a (by omega)) | exact (fun j a b => by rw [show j = 0 by omega, up_same]; exact htt)) (by first | exact vs_old hpop hvs hold | exact vs_let hpop hvs hnew hLet.1 | exact vs_run hpop hvs hnew hRun.1 (by omega) | (rw [show m + 2 = m + 1 + 1 by omega]; exact vs_pair hpop hvs hnew hPair.1 (by omega) hle) | (rw [show (1 : Int) = 0 + 1 from rfl, stk_push (by omega), stk_0 _ _ _ (by omega)]; rfl)) (by first | exact ⟨hno.1, by have := nn_old hpop hno.2; omega⟩ | exact ⟨by omega, nn_old hpop hno.2⟩ | exact ⟨by omega, nn_run hpop hno.2 hRun.1 (by omega)⟩ | (rw [show m + 2 = m + 1 + 1 by omega]; exact ⟨by omega, nn_pair hpop hno.2 hPair.1 (by omega)⟩) | (rw [show (1 : Int) = 0 + 1 from rfl, stk_push (by omega), stk_0 _ _ _ (by omega)]; show (0 : Int) ≤ 0 ∧ 0 + (nod (R t) + 0) ≤ 1199; omega)) (by first | exact hof | exact (fun j a b => (h1 j a (by omega)).2)) (by first | (have h9 := nn_old (i := 0) (K := nodS (stk R hp9 ha9 n)) hpop (by omega); omega) | (have h9 := nn_run (i := 0) (K := nodS (stk R hp9 ha9 n)) (q := ha9 m) hpop (by omega) hRun.1 (by omega); omega) | (rw [show m + 2 = m + 1 + 1 by omega]; have h9 := nn_pair (i := 0) (K := nodS (stk R hp9 ha9 n)) (q := ha9 m + le (on (hp9 m))) (q2 := ha9 m) hpop (by omega) hPair.1 (by omega); omega))
          · skip
            have hLet := hxr.let c130
            refine r_goto 51 hE dX9_numbers_133 (by decide) ?_
            refine G.to (fs' := [(wMo g mo mst mac mmk mr mrd mrm (wc9 + 1) mtp msz mtk mbg men mls mvl mft mfp mfk mdp mto), (wMTab g mo kd on tw sg le de so), (wMCom g mo (up cm9 wc9 (hp9 m))), (wMNum g mo (up nu9 (hp9 m) wc9) (up fa9 (hp9 m) (ha9 m)) of9), (wMHea g mo hp9 ha9)]) (lv' := [(0, .ref (mo 0)), (1, .int (iI t)), (2, .int (iI m))]) [0, 1, 2, 3, 4] [2, 3, 4] rfl rfl rfl ?_
            exact ih51 (up nu9 (hp9 m) wc9) (up fa9 (hp9 m) (ha9 m)) of9 (up cm9 wc9 (hp9 m)) hp9 ha9 (wc9 + 1) m _ (by first | exact hN9 | exact hNm | exact NV.new (fun j a b => (h1 j a (by omega)).1)) (by omega) (by first | exact (fun j a b => hen j a (by omega)) | exact en_push (fun j a b => hen j a (by omega)) hfx | (have h9 := en_push (en_push (f := hp9) (n := m) (c := mr) (fun j a b => hen j a (by omega)) htx) hfx; exact fun j a b => h9 j a (by omega)) | exact (fun j a b => by rw [show j = 0 by omega, up_same]; exact htt)) (by first | exact vs_old hpop hvs hold | exact vs_let hpop hvs hnew hLet.1 | exact vs_run hpop hvs hnew hRun.1 (by omega) | (rw [show m + 2 = m + 1 + 1 by omega]; exact vs_pair hpop hvs hnew hPair.1 (by omega) hle) | (rw [show (1 : Int) = 0 + 1 from rfl, stk_push (by omega), stk_0 _ _ _ (by omega)]; rfl)) (by first | exact ⟨hno.1, by have := nn_old hpop hno.2; omega⟩ | exact ⟨by omega, nn_old hpop hno.2⟩ | exact ⟨by omega, nn_run hpop hno.2 hRun.1 (by omega)⟩ | (rw [show m + 2 = m + 1 + 1 by omega]; exact ⟨by omega, nn_pair hpop hno.2 hPair.1 (by omega)⟩) | (rw [show (1 : Int) = 0 + 1 from rfl, stk_push (by omega), stk_0 _ _ _ (by omega)]; show (0 : Int) ≤ 0 ∧ 0 + (nod (R t) + 0) ≤ 1199; omega)) (by first | exact hof | exact (fun j a b => (h1 j a (by omega)).2)) (by first | (have h9 := nn_old (i := 0) (K := nodS (stk R hp9 ha9 n)) hpop (by omega); omega) | (have h9 := nn_run (i := 0) (K := nodS (stk R hp9 ha9 n)) (q := ha9 m) hpop (by omega) hRun.1 (by omega); omega) | (rw [show m + 2 = m + 1 + 1 by omega]; have h9 := nn_pair (i := 0) (K := nodS (stk R hp9 ha9 n)) (q := ha9 m + le (on (hp9 m))) (q2 := ha9 m) hpop (by omega) hPair.1 (by omega); omega))
        · skip
          have hold := hN9.old hx c80
          refine r_goto 51 hE dX9_numbers_83 (by decide) ?_
          refine G.to (fs' := [(wMo g mo mst mac mmk mr mrd mrm wc9 mtp msz mtk mbg men mls mvl mft mfp mfk mdp mto), (wMTab g mo kd on tw sg le de so), (wMCom g mo cm9), (wMNum g mo nu9 fa9 of9), (wMHea g mo hp9 ha9)]) (lv' := [(0, .ref (mo 0)), (1, .int (iI t)), (2, .int (iI m))]) [0, 1, 2, 3, 4] [2, 3, 4] rfl rfl rfl ?_
          exact ih51 nu9 fa9 of9 cm9 hp9 ha9 wc9 m _ (by first | exact hN9 | exact hNm | exact NV.new (fun j a b => (h1 j a (by omega)).1)) (by omega) (by first | exact (fun j a b => hen j a (by omega)) | exact en_push (fun j a b => hen j a (by omega)) hfx | (have h9 := en_push (en_push (f := hp9) (n := m) (c := mr) (fun j a b => hen j a (by omega)) htx) hfx; exact fun j a b => h9 j a (by omega)) | exact (fun j a b => by rw [show j = 0 by omega, up_same]; exact htt)) (by first | exact vs_old hpop hvs hold | exact vs_let hpop hvs hnew hLet.1 | exact vs_run hpop hvs hnew hRun.1 (by omega) | (rw [show m + 2 = m + 1 + 1 by omega]; exact vs_pair hpop hvs hnew hPair.1 (by omega) hle) | (rw [show (1 : Int) = 0 + 1 from rfl, stk_push (by omega), stk_0 _ _ _ (by omega)]; rfl)) (by first | exact ⟨hno.1, by have := nn_old hpop hno.2; omega⟩ | exact ⟨by omega, nn_old hpop hno.2⟩ | exact ⟨by omega, nn_run hpop hno.2 hRun.1 (by omega)⟩ | (rw [show m + 2 = m + 1 + 1 by omega]; exact ⟨by omega, nn_pair hpop hno.2 hPair.1 (by omega)⟩) | (rw [show (1 : Int) = 0 + 1 from rfl, stk_push (by omega), stk_0 _ _ _ (by omega)]; show (0 : Int) ≤ 0 ∧ 0 + (nod (R t) + 0) ≤ 1199; omega)) (by first | exact hof | exact (fun j a b => (h1 j a (by omega)).2)) (by first | (have h9 := nn_old (i := 0) (K := nodS (stk R hp9 ha9 n)) hpop (by omega); omega) | (have h9 := nn_run (i := 0) (K := nodS (stk R hp9 ha9 n)) (q := ha9 m) hpop (by omega) hRun.1 (by omega); omega) | (rw [show m + 2 = m + 1 + 1 by omega]; have h9 := nn_pair (i := 0) (K := nodS (stk R hp9 ha9 n)) (q := ha9 m + le (on (hp9 m))) (q2 := ha9 m) hpop (by omega) hPair.1 (by omega); omega))
      refine r_iload_n 52 hE 2 dX9_numbers_51 rfl rfl rfl ?_
      refine r_if_le 55 207 hE dX9_numbers_52 rfl (by decide) (by omega) (fun c52 => ?_) (fun c52 => ?_)
      · skip
        refine r_return hE hR [(wMo g mo mst mac mmk mr mrd mrm wc9 mtp msz mtk mbg men mls mvl mft mfp mfk mdp mto), (wMTab g mo kd on tw sg le de so), (wMCom g mo cm9), (wMNum g mo nu9 fa9 of9), (wMHea g mo hp9 ha9)] dX9_numbers_207 (Nat.le_of_ble_eq_true rfl) (Nat.le_of_ble_eq_true rfl) rfl ?_
        rw [stk_0 _ _ _ (by omega)] at hvs
        have hvv : V9 = vis (R t) 0 [] := hvs
        rw [hvv] at hN9
        exact ⟨_, _, _, _, _, _, _, rfl, rfl, hN9, hof, by omega⟩
      · skip
        refine r_iinc 58 hE 2 (n + (-1)) [(2, .int (iI (n + (-1)))), (0, .ref (mo 0)), (1, .int (iI t))] dX9_numbers_55 rfl rfl rfl (by decide) rfl ?_
        refine G.to (fs' := [(wMo g mo mst mac mmk mr mrd mrm wc9 mtp msz mtk mbg men mls mvl mft mfp mfk mdp mto), (wMTab g mo kd on tw sg le de so), (wMCom g mo cm9), (wMNum g mo nu9 fa9 of9), (wMHea g mo hp9 ha9)]) (lv' := [(0, .ref (mo 0)), (1, .int (iI t)), (2, .int (iI (n + (-1))))]) [0, 1, 2, 3, 4] [1, 2, 0] rfl rfl rfl ?_
        exact cut58 (n + (-1)) (by omega) (by omega)
  have cut2 : ∀ (N : Nat) (i : Int) (nu9 : Int → Int) (of9 : Int → Int), (0 ≤ i ∧ i ≤ mr) → (∀ j, 0 ≤ j → j < i → nu9 j = -1 ∧ of9 j = 0) → (mr - i).toNat < N → G g E 5 0 0 [(wMo g mo mst mac mmk mr mrd mrm mcm mtp msz mtk mbg men mls mvl mft mfp mfk mdp mto), (wMTab g mo kd on tw sg le de so), (wMCom g mo cm), (wMNum g mo nu9 fa of9), (wMHea g mo hp ha)] 2 [(0, .ref (mo 0)), (1, .int (iI t)), (2, .int (iI i))] [] := by
    intro N
    induction N with
    | zero => intro i nu9 of9 _ _ hN; exact absurd hN (Nat.not_lt_zero _)
    | succ N ih2 =>
      intro i nu9 of9 hi h1 hN
      refine r_iload_n 3 hE 2 dX9_numbers_2 rfl rfl rfl ?_
      refine r_aload_n 4 hE 0 dX9_numbers_3 rfl rfl rfl ?_
      refine r_get 7 hE 0 0 ok9 12 dX9_numbers_4 rfl wd_1064 rfl rfl (by decide) rfl ?_
      refine r_icmp_ge 10 30 hE dX9_numbers_7 rfl (by decide) (by omega) (fun c7 => ?_) (fun c7 => ?_)
      · skip
        refine r_aload_n 31 hE 0 dX9_numbers_30 rfl rfl rfl ?_
        refine r_iconst 32 hE dX9_numbers_31 rfl ?_
        refine r_put 35 hE 0 0 ok9 22 (wMo g mo mst mac mmk mr mrd mrm 0 mtp msz mtk mbg men mls mvl mft mfp mfk mdp mto) [(wMo g mo mst mac mmk mr mrd mrm 0 mtp msz mtk mbg men mls mvl mft mfp mfk mdp mto), (wMTab g mo kd on tw sg le de so), (wMCom g mo cm), (wMNum g mo nu9 fa of9), (wMHea g mo hp ha)] dX9_numbers_32 rfl wd_1074 rfl rfl (by decide) rfl rfl rfl (Nat.le_of_ble_eq_true rfl) rfl rfl ?_
        refine r_iconst 36 hE dX9_numbers_35 rfl ?_
        refine r_istore_n 37 hE [(2, .int (iI 1)), (0, .ref (mo 0)), (1, .int (iI t))] dX9_numbers_36 rfl rfl (by decide) rfl ?_
        refine r_aload_n 38 hE 1 dX9_numbers_37 rfl rfl rfl ?_
        refine r_get 41 hE 0 0 ok9 20 dX9_numbers_38 rfl wd_1072 rfl rfl (by decide) rfl ?_
        refine r_iconst 42 hE dX9_numbers_41 rfl ?_
        refine r_iload_n 43 hE 2 dX9_numbers_42 rfl rfl rfl ?_
        refine r_iast 44 hE 4 0 (wMHea g mo (up hp 0 t) ha) [(wMo g mo mst mac mmk mr mrd mrm 0 mtp msz mtk mbg men mls mvl mft mfp mfk mdp mto), (wMTab g mo kd on tw sg le de so), (wMCom g mo cm), (wMNum g mo nu9 fa of9), (wMHea g mo (up hp 0 t) ha)] dX9_numbers_43 rfl rfl rfl (by omega) rfl rfl ?_
        refine r_aload_n 45 hE 1 dX9_numbers_44 rfl rfl rfl ?_
        refine r_get 48 hE 0 0 ok9 21 dX9_numbers_45 rfl wd_1073 rfl rfl (by decide) rfl ?_
        refine r_iconst 49 hE dX9_numbers_48 rfl ?_
        refine r_iconst 50 hE dX9_numbers_49 rfl ?_
        refine r_iast 51 hE 4 1 (wMHea g mo (up hp 0 t) (up ha 0 0)) [(wMo g mo mst mac mmk mr mrd mrm 0 mtp msz mtk mbg men mls mvl mft mfp mfk mdp mto), (wMTab g mo kd on tw sg le de so), (wMCom g mo cm), (wMNum g mo nu9 fa of9), (wMHea g mo (up hp 0 t) (up ha 0 0))] dX9_numbers_50 rfl rfl rfl (by omega) rfl rfl ?_
        refine G.to (fs' := [(wMo g mo mst mac mmk mr mrd mrm 0 mtp msz mtk mbg men mls mvl mft mfp mfk mdp mto), (wMTab g mo kd on tw sg le de so), (wMCom g mo cm), (wMNum g mo nu9 fa of9), (wMHea g mo (up hp 0 t) (up ha 0 0))]) (lv' := [(0, .ref (mo 0)), (1, .int (iI t)), (2, .int (iI 1))]) [0, 1, 2, 3, 4] [1, 2, 0] rfl rfl rfl ?_
        exact cut51 _ nu9 fa of9 cm (up hp 0 t) (up ha 0 0) 0 1 ([]) (by first | exact hN9 | exact hNm | exact NV.new (fun j a b => (h1 j a (by omega)).1)) (by omega) (by first | exact (fun j a b => hen j a (by omega)) | exact en_push (fun j a b => hen j a (by omega)) hfx | (have h9 := en_push (en_push (f := hp9) (n := m) (c := mr) (fun j a b => hen j a (by omega)) htx) hfx; exact fun j a b => h9 j a (by omega)) | exact (fun j a b => by rw [show j = 0 by omega, up_same]; exact htt)) (by first | exact vs_old hpop hvs hold | exact vs_let hpop hvs hnew hLet.1 | exact vs_run hpop hvs hnew hRun.1 (by omega) | (rw [show m + 2 = m + 1 + 1 by omega]; exact vs_pair hpop hvs hnew hPair.1 (by omega) hle) | (rw [show (1 : Int) = 0 + 1 from rfl, stk_push (by omega), stk_0 _ _ _ (by omega)]; rfl)) (by first | exact ⟨hno.1, by have := nn_old hpop hno.2; omega⟩ | exact ⟨by omega, nn_old hpop hno.2⟩ | exact ⟨by omega, nn_run hpop hno.2 hRun.1 (by omega)⟩ | (rw [show m + 2 = m + 1 + 1 by omega]; exact ⟨by omega, nn_pair hpop hno.2 hPair.1 (by omega)⟩) | (rw [show (1 : Int) = 0 + 1 from rfl, stk_push (by omega), stk_0 _ _ _ (by omega)]; show (0 : Int) ≤ 0 ∧ 0 + (nod (R t) + 0) ≤ 1199; omega)) (by first | exact hof | exact (fun j a b => (h1 j a (by omega)).2)) (Nat.lt_succ_self _)
      · skip
        refine r_aload_n 11 hE 0 dX9_numbers_10 rfl rfl rfl ?_
        refine r_get 14 hE 0 0 ok9 17 dX9_numbers_11 rfl wd_1069 rfl rfl (by decide) rfl ?_
        refine r_iload_n 15 hE 2 dX9_numbers_14 rfl rfl rfl ?_
        refine r_iconst 16 hE dX9_numbers_15 rfl ?_
        refine r_iast 17 hE 3 0 (wMNum g mo (up nu9 i (-1)) fa of9) [(wMo g mo mst mac mmk mr mrd mrm mcm mtp msz mtk mbg men mls mvl mft mfp mfk mdp mto), (wMTab g mo kd on tw sg le de so), (wMCom g mo cm), (wMNum g mo (up nu9 i (-1)) fa of9), (wMHea g mo hp ha)] dX9_numbers_16 rfl rfl rfl (by omega) rfl rfl ?_
        refine r_aload_n 18 hE 0 dX9_numbers_17 rfl rfl rfl ?_
        refine r_get 21 hE 0 0 ok9 19 dX9_numbers_18 rfl wd_1071 rfl rfl (by decide) rfl ?_
        refine r_iload_n 22 hE 2 dX9_numbers_21 rfl rfl rfl ?_
        refine r_iconst 23 hE dX9_numbers_22 rfl ?_
        refine r_iast 24 hE 3 2 (wMNum g mo (up nu9 i (-1)) fa (up of9 i 0)) [(wMo g mo mst mac mmk mr mrd mrm mcm mtp msz mtk mbg men mls mvl mft mfp mfk mdp mto), (wMTab g mo kd on tw sg le de so), (wMCom g mo cm), (wMNum g mo (up nu9 i (-1)) fa (up of9 i 0)), (wMHea g mo hp ha)] dX9_numbers_23 rfl rfl rfl (by omega) rfl rfl ?_
        refine r_iinc 27 hE 2 (i + 1) [(2, .int (iI (i + 1))), (0, .ref (mo 0)), (1, .int (iI t))] dX9_numbers_24 rfl rfl rfl (by decide) rfl ?_
        refine r_goto 2 hE dX9_numbers_27 (by decide) ?_
        refine G.to (fs' := [(wMo g mo mst mac mmk mr mrd mrm mcm mtp msz mtk mbg men mls mvl mft mfp mfk mdp mto), (wMTab g mo kd on tw sg le de so), (wMCom g mo cm), (wMNum g mo (up nu9 i (-1)) fa (up of9 i 0)), (wMHea g mo hp ha)]) (lv' := [(0, .ref (mo 0)), (1, .int (iI t)), (2, .int (iI (i + 1)))]) [0, 1, 2, 3, 4] [1, 2, 0] rfl rfl rfl ?_
        exact ih2 (i + 1) (up nu9 i (-1)) (up of9 i 0) (by omega) (by first | exact (fun j a b => if z : j = i then by rw [z, up_same, up_same]; exact ⟨rfl, rfl⟩ else by rw [up_ne _ _ z, up_ne _ _ z]; exact h1 j a (by omega)) | exact (fun j a b => absurd b (by omega))) (by omega)
  refine r_iconst 1 hE dX9_numbers_0 rfl ?_
  refine r_istore_n 2 hE [(2, .int (iI 0)), (0, .ref (mo 0)), (1, .int (iI t))] dX9_numbers_1 rfl rfl (by decide) rfl ?_
  refine G.to (fs' := [(wMo g mo mst mac mmk mr mrd mrm mcm mtp msz mtk mbg men mls mvl mft mfp mfk mdp mto), (wMTab g mo kd on tw sg le de so), (wMCom g mo cm), (wMNum g mo nu fa oft), (wMHea g mo hp ha)]) (lv' := [(0, .ref (mo 0)), (1, .int (iI t)), (2, .int (iI 0))]) [0, 1, 2, 3, 4] [1, 2, 0] rfl rfl rfl ?_
  exact cut2 _ 0 nu oft (by omega) (by first | exact (fun j a b => if z : j = i then by rw [z, up_same, up_same]; exact ⟨rfl, rfl⟩ else by rw [up_ne _ _ z, up_ne _ _ z]; exact h1 j a (by omega)) | exact (fun j a b => absurd b (by omega))) (Nat.lt_succ_self _)
set_option maxHeartbeats 4000000 in
set_option maxRecDepth 100000 in
theorem c_X9_opens {g : Gm} {mo : Nat → Nat} {mst mac mmk mr mrd mrm mcm mtp msz mtk mbg men mls mvl mft mfp mfk mdp mto : Int} {al : Int → Int} {kd on tw sg le de so : Int → Int} {R : Int → Rl} {ro : Int → Int} {cm nu fa oft hp ha : Int → Int} {t : Int} (hM : MTx al) (ht : 0 ≤ t ∧ t < al 0) : Ct g 5 0 0 yX9_opens cX9_opens 3 (some .int) [.ref (mo 0), .int (iI t)] [(wMo g mo mst mac mmk mr mrd mrm mcm mtp msz mtk mbg men mls mvl mft mfp mfk mdp mto), (wMTab g mo kd on tw sg le de so), (wMRow g mo ro), (wMAll g mo al), (wMCom g mo cm), (wMNum g mo nu fa oft), (wMHea g mo hp ha)] (fun v_ w_ => ∃ kd9 : Int → Int, ∃ on9 : Int → Int, ∃ tw9 : Int → Int, ∃ sg9 : Int → Int, ∃ le9 : Int → Int, ∃ de9 : Int → Int, ∃ so9 : Int → Int, ∃ mr9 : Int, ∃ R9 : Int → Rl, ∃ ro9 : Int → Int, ∃ mrd9 : Int, ∃ mrm9 : Int, ∃ nu9 : Int → Int, ∃ fa9 : Int → Int, ∃ of9 : Int → Int, ∃ cm9 : Int → Int, ∃ hp9 : Int → Int, ∃ ha9 : Int → Int, ∃ wc9 : Int, ∃ r : Int, v_ = some (.int (iI r)) ∧ w_ = [(wMo g mo mst mac mmk mr9 mrd9 mrm9 wc9 mtp msz mtk mbg men mls mvl mft mfp mfk mdp mto), (wMTab g mo kd9 on9 tw9 sg9 le9 de9 so9), (wMRow g mo ro9), (wMAll g mo al), (wMCom g mo cm9), (wMNum g mo nu9 fa9 of9), (wMHea g mo hp9 ha9)] ∧ (MT kd9 on9 tw9 sg9 le9 de9 so9 mr9 R9) ∧ (0 ≤ r ∧ r < mr9) ∧ (BIs (lts (mF al t) 0 (mN al t)) (R9 r) mrd9) ∧ (NV R9 mr9 (vis (R9 r) 0 []) nu9 fa9 cm9 wc9) ∧ (∀ i, 0 ≤ i → i < mr9 → of9 i = 0) ∧ (0 ≤ wc9 ∧ wc9 ≤ 1199) ∧ (0 ≤ mrd9 ∧ mrd9 ≤ 100)) := by
  refine Ct.of (by decide) (Nat.le_of_ble_eq_true rfl) (lv := [(0, .ref (mo 0)), (1, .int (iI t))]) rfl ?_
  intro E hE hR hnm
  have hc := hM.1
  have hl_t := hM.2 t ht.1 ht.2
  refine r_aload_n 1 hE 0 dX9_opens_0 rfl rfl rfl ?_
  refine r_callV 4 hE [0, 1] [2, 3, 4, 5, 6] [(wMo g mo mst mac mmk mr mrd mrm mcm mtp msz mtk mbg men mls mvl mft mfp mfk mdp mto), (wMTab g mo kd on tw sg le de so)] [(wMRow g mo ro), (wMAll g mo al), (wMCom g mo cm), (wMNum g mo nu fa oft), (wMHea g mo hp ha)] 0 9 ok9 [] (c_X9_forgets (R := fun _ => rLet 0)) dX9_opens_1 rfl rfl wd_1302 wd_1304 ws_72 wd_12 wd_1305 ne_X9 np_X9_forgets (Nat.le_of_ble_eq_true rfl)  (by decide) (by decide) rfl (Nat.le_of_ble_eq_true rfl) rfl rfl rfl rfl (by decide) rfl (fun v1 f1 hp => ?_)
  obtain ⟨so9_1, rfl, rfl, h1_0⟩ := hp
  show G g E _ _ _ [(wMo g mo mst mac mmk 0 mrd mrm mcm mtp msz mtk mbg men mls mvl mft mfp mfk mdp mto), (wMTab g mo kd on tw sg le de so9_1), (wMRow g mo ro), (wMAll g mo al), (wMCom g mo cm), (wMNum g mo nu fa oft), (wMHea g mo hp ha)] 4 [(0, .ref (mo 0)), (1, .int (iI t))] []
  refine r_aload_n 5 hE 0 dX9_opens_4 rfl rfl rfl ?_
  refine r_iconst 6 hE dX9_opens_5 rfl ?_
  refine r_iload_n 7 hE 1 dX9_opens_6 rfl rfl rfl ?_
  refine r_callV 10 hE [0, 1, 2, 3] [4, 5, 6] [(wMo g mo mst mac mmk 0 mrd mrm mcm mtp msz mtk mbg men mls mvl mft mfp mfk mdp mto), (wMTab g mo kd on tw sg le de so9_1), (wMRow g mo ro), (wMAll g mo al)] [(wMCom g mo cm), (wMNum g mo nu fa oft), (wMHea g mo hp ha)] 0 9 ok9 [] (c_X9_layText (h1_0) (by omega) (by omega) (by rw [oN_0]; exact hl_t.1) (by rw [oF_0, oN_0]; exact hl_t.2) (by omega)) dX9_opens_7 rfl rfl wd_1310 wd_1312 ws_74 wd_12 wd_1313 ne_X9 np_X9_layText (Nat.le_of_ble_eq_true rfl)  (by decide) (by decide) rfl (Nat.le_of_ble_eq_true rfl) rfl rfl rfl rfl (by decide) rfl (fun v1 f1 hp => ?_)
  obtain ⟨kd9_7, on9_7, tw9_7, sg9_7, le9_7, de9_7, so9_7, mr9_7, R9_7, ro9_7, mrd9_7, mrm9_7, r_7, rfl, rfl, h7_0, h7_1, h7_2, h7_3, h7_4, h7_5, h7_6⟩ := hp
  show G g E _ _ _ [(wMo g mo mst mac mmk mr9_7 mrd9_7 mrm9_7 mcm mtp msz mtk mbg men mls mvl mft mfp mfk mdp mto), (wMTab g mo kd9_7 on9_7 tw9_7 sg9_7 le9_7 de9_7 so9_7), (wMRow g mo ro9_7), (wMAll g mo al), (wMCom g mo cm), (wMNum g mo nu fa oft), (wMHea g mo hp ha)] 10 [(0, .ref (mo 0)), (1, .int (iI t))] [.int (iI r_7)]
  refine r_istore_n 11 hE [(2, .int (iI r_7)), (0, .ref (mo 0)), (1, .int (iI t))] dX9_opens_10 rfl rfl (by decide) rfl ?_
  refine r_aload_n 12 hE 1 dX9_opens_11 rfl rfl rfl ?_
  refine r_iload_n 13 hE 0 dX9_opens_12 rfl rfl rfl ?_
  refine r_callV 16 hE [0, 1, 4, 5, 6] [2, 3] [(wMo g mo mst mac mmk mr9_7 mrd9_7 mrm9_7 mcm mtp msz mtk mbg men mls mvl mft mfp mfk mdp mto), (wMTab g mo kd9_7 on9_7 tw9_7 sg9_7 le9_7 de9_7 so9_7), (wMCom g mo cm), (wMNum g mo nu fa oft), (wMHea g mo hp ha)] [(wMRow g mo ro9_7), (wMAll g mo al)] 0 9 ok9 [] (c_X9_numbers (h7_0) (by omega)) dX9_opens_13 rfl rfl wd_1435 wd_1437 ws_90 wd_12 wd_1438 ne_X9 np_X9_numbers (Nat.le_of_ble_eq_true rfl)  (by decide) (by decide) rfl (Nat.le_of_ble_eq_true rfl) rfl rfl rfl rfl (by decide) rfl (fun v1 f1 hp => ?_)
  obtain ⟨nu9_13, fa9_13, of9_13, cm9_13, hp9_13, ha9_13, wc9_13, rfl, rfl, h13_0, h13_1, h13_2⟩ := hp
  show G g E _ _ _ [(wMo g mo mst mac mmk mr9_7 mrd9_7 mrm9_7 wc9_13 mtp msz mtk mbg men mls mvl mft mfp mfk mdp mto), (wMTab g mo kd9_7 on9_7 tw9_7 sg9_7 le9_7 de9_7 so9_7), (wMCom g mo cm9_13), (wMNum g mo nu9_13 fa9_13 of9_13), (wMHea g mo hp9_13 ha9_13), (wMRow g mo ro9_7), (wMAll g mo al)] 16 [(2, .int (iI r_7)), (0, .ref (mo 0)), (1, .int (iI t))] []
  refine r_iload_n 17 hE 0 dX9_opens_16 rfl rfl rfl ?_
  refine G.to (fs' := [(wMo g mo mst mac mmk mr9_7 mrd9_7 mrm9_7 wc9_13 mtp msz mtk mbg men mls mvl mft mfp mfk mdp mto), (wMTab g mo kd9_7 on9_7 tw9_7 sg9_7 le9_7 de9_7 so9_7), (wMRow g mo ro9_7), (wMAll g mo al), (wMCom g mo cm9_13), (wMNum g mo nu9_13 fa9_13 of9_13), (wMHea g mo hp9_13 ha9_13)]) [0, 1, 5, 6, 2, 3, 4] [0, 1, 2] rfl rfl rfl ?_
  refine r_ireturn hE hR [(wMo g mo mst mac mmk mr9_7 mrd9_7 mrm9_7 wc9_13 mtp msz mtk mbg men mls mvl mft mfp mfk mdp mto), (wMTab g mo kd9_7 on9_7 tw9_7 sg9_7 le9_7 de9_7 so9_7), (wMRow g mo ro9_7), (wMAll g mo al), (wMCom g mo cm9_13), (wMNum g mo nu9_13 fa9_13 of9_13), (wMHea g mo hp9_13 ha9_13)] dX9_opens_17 (Nat.le_of_ble_eq_true rfl) (Nat.le_of_ble_eq_true rfl) rfl ?_
  have h9 := h7_4
  rw [oF_0, oN_0] at h9
  exact ⟨_, _, _, _, _, _, _, _, _, _, _, _, _, _, _, _, _, _, _, _, rfl, rfl, h7_0, h7_3, h9, h13_0, h13_1, h13_2, h7_6⟩
set_option maxHeartbeats 4000000 in
set_option maxRecDepth 100000 in
theorem c_X9_shared {g : Gm} {mo : Nat → Nat} {mst mac mmk mr mrd mrm mcm mtp msz mtk mbg men mls mvl mft mfp mfk mdp mto : Int} {al : Int → Int} {kd on tw sg le de so : Int → Int} {R : Int → Rl} {ro : Int → Int} {t u : Int} (hM : MTx al) (ht : 0 ≤ t ∧ t < al 0) (hu : 0 ≤ u ∧ u < al 0) : Ct g 5 0 0 yX9_shared cX9_shared 5 (some .int) [.ref (mo 0), .int (iI t), .int (iI u)] [(wMo g mo mst mac mmk mr mrd mrm mcm mtp msz mtk mbg men mls mvl mft mfp mfk mdp mto), (wMTab g mo kd on tw sg le de so), (wMRow g mo ro), (wMAll g mo al)] (fun v_ w_ => ∃ kd9 : Int → Int, ∃ on9 : Int → Int, ∃ tw9 : Int → Int, ∃ sg9 : Int → Int, ∃ le9 : Int → Int, ∃ de9 : Int → Int, ∃ so9 : Int → Int, ∃ mr9 : Int, ∃ R9 : Int → Rl, ∃ ro9 : Int → Int, ∃ mrd9 : Int, ∃ mrm9 : Int, ∃ r9 : Int, v_ = some (.int (iI r9)) ∧ w_ = [(wMo g mo mst mac mmk mr9 mrd9 mrm9 mcm mtp msz mtk mbg men mls mvl mft mfp mfk mdp mto), (wMTab g mo kd9 on9 tw9 sg9 le9 de9 so9), (wMRow g mo ro9), (wMAll g mo al)] ∧ (SharedIs (mF al t) (mN al t) (mF al u) (mN al u) r9)) := by
  refine Ct.of (by decide) (Nat.le_of_ble_eq_true rfl) (lv := [(0, .ref (mo 0)), (1, .int (iI t)), (2, .int (iI u))]) rfl ?_
  intro E hE hR hnm
  have hc := hM.1
  have hl_t := hM.2 t ht.1 ht.2
  have hl_u := hM.2 u hu.1 hu.2
  refine r_aload_n 1 hE 0 dX9_shared_0 rfl rfl rfl ?_
  refine r_callV 4 hE [0, 1] [2, 3] [(wMo g mo mst mac mmk mr mrd mrm mcm mtp msz mtk mbg men mls mvl mft mfp mfk mdp mto), (wMTab g mo kd on tw sg le de so)] [(wMRow g mo ro), (wMAll g mo al)] 0 9 ok9 [] (c_X9_forgets (R := fun _ => rLet 0)) dX9_shared_1 rfl rfl wd_1302 wd_1304 ws_72 wd_12 wd_1305 ne_X9 np_X9_forgets (Nat.le_of_ble_eq_true rfl)  (by decide) (by decide) rfl (Nat.le_of_ble_eq_true rfl) rfl rfl rfl rfl (by decide) rfl (fun v1 f1 hp => ?_)
  obtain ⟨so9_1, rfl, rfl, h1_0⟩ := hp
  show G g E _ _ _ [(wMo g mo mst mac mmk 0 mrd mrm mcm mtp msz mtk mbg men mls mvl mft mfp mfk mdp mto), (wMTab g mo kd on tw sg le de so9_1), (wMRow g mo ro), (wMAll g mo al)] 4 [(0, .ref (mo 0)), (1, .int (iI t)), (2, .int (iI u))] []
  refine r_aload_n 5 hE 0 dX9_shared_4 rfl rfl rfl ?_
  refine r_iconst 6 hE dX9_shared_5 rfl ?_
  refine r_iload_n 7 hE 2 dX9_shared_6 rfl rfl rfl ?_
  refine r_callV 10 hE [0, 1, 2, 3] [] [(wMo g mo mst mac mmk 0 mrd mrm mcm mtp msz mtk mbg men mls mvl mft mfp mfk mdp mto), (wMTab g mo kd on tw sg le de so9_1), (wMRow g mo ro), (wMAll g mo al)] [] 0 9 ok9 [] (c_X9_layText (h1_0) (by omega) (by omega) (by rw [oN_0]; exact hl_u.1) (by rw [oF_0, oN_0]; exact hl_u.2) (by omega)) dX9_shared_7 rfl rfl wd_1310 wd_1312 ws_74 wd_12 wd_1313 ne_X9 np_X9_layText (Nat.le_of_ble_eq_true rfl)  (by decide) (by decide) rfl (Nat.le_of_ble_eq_true rfl) rfl rfl rfl rfl (by decide) rfl (fun v1 f1 hp => ?_)
  obtain ⟨kd9_7, on9_7, tw9_7, sg9_7, le9_7, de9_7, so9_7, mr9_7, R9_7, ro9_7, mrd9_7, mrm9_7, r_7, rfl, rfl, h7_0, h7_1, h7_2, h7_3, h7_4, h7_5, h7_6⟩ := hp
  show G g E _ _ _ [(wMo g mo mst mac mmk mr9_7 mrd9_7 mrm9_7 mcm mtp msz mtk mbg men mls mvl mft mfp mfk mdp mto), (wMTab g mo kd9_7 on9_7 tw9_7 sg9_7 le9_7 de9_7 so9_7), (wMRow g mo ro9_7), (wMAll g mo al)] 10 [(0, .ref (mo 0)), (1, .int (iI t)), (2, .int (iI u))] [.int (iI r_7)]
  refine r_pop 11 hE dX9_shared_10 rfl rfl ?_
  refine r_aload_n 12 hE 0 dX9_shared_11 rfl rfl rfl ?_
  refine r_get 15 hE 0 0 ok9 12 dX9_shared_12 rfl wd_1064 rfl rfl (by decide) rfl ?_
  refine r_istore_n 16 hE [(3, .int (iI mr9_7)), (0, .ref (mo 0)), (1, .int (iI t)), (2, .int (iI u))] dX9_shared_15 rfl rfl (by decide) rfl ?_
  refine r_aload_n 17 hE 1 dX9_shared_16 rfl rfl rfl ?_
  refine r_callV 20 hE [0, 1] [2, 3] [(wMo g mo mst mac mmk mr9_7 mrd9_7 mrm9_7 mcm mtp msz mtk mbg men mls mvl mft mfp mfk mdp mto), (wMTab g mo kd9_7 on9_7 tw9_7 sg9_7 le9_7 de9_7 so9_7)] [(wMRow g mo ro9_7), (wMAll g mo al)] 0 9 ok9 [] (c_X9_forgets (R := fun _ => rLet 0)) dX9_shared_17 rfl rfl wd_1302 wd_1304 ws_72 wd_12 wd_1305 ne_X9 np_X9_forgets (Nat.le_of_ble_eq_true rfl)  (by decide) (by decide) rfl (Nat.le_of_ble_eq_true rfl) rfl rfl rfl rfl (by decide) rfl (fun v1 f1 hp => ?_)
  obtain ⟨so9_17, rfl, rfl, h17_0⟩ := hp
  show G g E _ _ _ [(wMo g mo mst mac mmk 0 mrd9_7 mrm9_7 mcm mtp msz mtk mbg men mls mvl mft mfp mfk mdp mto), (wMTab g mo kd9_7 on9_7 tw9_7 sg9_7 le9_7 de9_7 so9_17), (wMRow g mo ro9_7), (wMAll g mo al)] 20 [(3, .int (iI mr9_7)), (0, .ref (mo 0)), (1, .int (iI t)), (2, .int (iI u))] []
  refine r_aload_n 21 hE 1 dX9_shared_20 rfl rfl rfl ?_
  refine r_iconst 22 hE dX9_shared_21 rfl ?_
  refine r_iload_n 23 hE 2 dX9_shared_22 rfl rfl rfl ?_
  refine r_callV 26 hE [0, 1, 2, 3] [] [(wMo g mo mst mac mmk 0 mrd9_7 mrm9_7 mcm mtp msz mtk mbg men mls mvl mft mfp mfk mdp mto), (wMTab g mo kd9_7 on9_7 tw9_7 sg9_7 le9_7 de9_7 so9_17), (wMRow g mo ro9_7), (wMAll g mo al)] [] 0 9 ok9 [] (c_X9_layText (h17_0) (by omega) (by omega) (by rw [oN_0]; exact hl_t.1) (by rw [oF_0, oN_0]; exact hl_t.2) (by omega)) dX9_shared_23 rfl rfl wd_1310 wd_1312 ws_74 wd_12 wd_1313 ne_X9 np_X9_layText (Nat.le_of_ble_eq_true rfl)  (by decide) (by decide) rfl (Nat.le_of_ble_eq_true rfl) rfl rfl rfl rfl (by decide) rfl (fun v1 f1 hp => ?_)
  obtain ⟨kd9_23, on9_23, tw9_23, sg9_23, le9_23, de9_23, so9_23, mr9_23, R9_23, ro9_23, mrd9_23, mrm9_23, r_23, rfl, rfl, h23_0, h23_1, h23_2, h23_3, h23_4, h23_5, h23_6⟩ := hp
  show G g E _ _ _ [(wMo g mo mst mac mmk mr9_23 mrd9_23 mrm9_23 mcm mtp msz mtk mbg men mls mvl mft mfp mfk mdp mto), (wMTab g mo kd9_23 on9_23 tw9_23 sg9_23 le9_23 de9_23 so9_23), (wMRow g mo ro9_23), (wMAll g mo al)] 26 [(3, .int (iI mr9_7)), (0, .ref (mo 0)), (1, .int (iI t)), (2, .int (iI u))] [.int (iI r_23)]
  refine r_pop 27 hE dX9_shared_26 rfl rfl ?_
  refine r_aload_n 28 hE 1 dX9_shared_27 rfl rfl rfl ?_
  refine r_get 31 hE 0 0 ok9 12 dX9_shared_28 rfl wd_1064 rfl rfl (by decide) rfl ?_
  refine r_istore 33 hE [(4, .int (iI mr9_23)), (3, .int (iI mr9_7)), (0, .ref (mo 0)), (1, .int (iI t)), (2, .int (iI u))] dX9_shared_31 rfl (by decide) rfl ?_
  refine r_aload_n 34 hE 2 dX9_shared_33 rfl rfl rfl ?_
  refine r_iconst 35 hE dX9_shared_34 rfl ?_
  refine r_iload_n 36 hE 4 dX9_shared_35 rfl rfl rfl ?_
  refine r_callV 39 hE [0, 1, 2, 3] [] [(wMo g mo mst mac mmk mr9_23 mrd9_23 mrm9_23 mcm mtp msz mtk mbg men mls mvl mft mfp mfk mdp mto), (wMTab g mo kd9_23 on9_23 tw9_23 sg9_23 le9_23 de9_23 so9_23), (wMRow g mo ro9_23), (wMAll g mo al)] [] 0 9 ok9 [] (c_X9_layText (h23_0) (by omega) (by omega) (by rw [oN_0]; exact hl_u.1) (by rw [oF_0, oN_0]; exact hl_u.2) (by omega)) dX9_shared_36 rfl rfl wd_1310 wd_1312 ws_74 wd_12 wd_1313 ne_X9 np_X9_layText (Nat.le_of_ble_eq_true rfl)  (by decide) (by decide) rfl (Nat.le_of_ble_eq_true rfl) rfl rfl rfl rfl (by decide) rfl (fun v1 f1 hp => ?_)
  obtain ⟨kd9_36, on9_36, tw9_36, sg9_36, le9_36, de9_36, so9_36, mr9_36, R9_36, ro9_36, mrd9_36, mrm9_36, r_36, rfl, rfl, h36_0, h36_1, h36_2, h36_3, h36_4, h36_5, h36_6⟩ := hp
  show G g E _ _ _ [(wMo g mo mst mac mmk mr9_36 mrd9_36 mrm9_36 mcm mtp msz mtk mbg men mls mvl mft mfp mfk mdp mto), (wMTab g mo kd9_36 on9_36 tw9_36 sg9_36 le9_36 de9_36 so9_36), (wMRow g mo ro9_36), (wMAll g mo al)] 39 [(4, .int (iI mr9_23)), (3, .int (iI mr9_7)), (0, .ref (mo 0)), (1, .int (iI t)), (2, .int (iI u))] [.int (iI r_36)]
  refine r_pop 40 hE dX9_shared_39 rfl rfl ?_
  refine r_iload 42 hE 0 dX9_shared_40 rfl rfl ?_
  refine r_iload_n 43 hE 1 dX9_shared_42 rfl rfl rfl ?_
  refine r_iadd 44 hE (mr9_23 + mr9_7) dX9_shared_43 rfl rfl ?_
  refine r_aload_n 45 hE 2 dX9_shared_44 rfl rfl rfl ?_
  refine r_get 48 hE 0 0 ok9 12 dX9_shared_45 rfl wd_1064 rfl rfl (by decide) rfl ?_
  refine r_isub 49 hE ((mr9_23 + mr9_7) - mr9_36) dX9_shared_48 rfl rfl ?_
  refine r_ireturn hE hR [(wMo g mo mst mac mmk mr9_36 mrd9_36 mrm9_36 mcm mtp msz mtk mbg men mls mvl mft mfp mfk mdp mto), (wMTab g mo kd9_36 on9_36 tw9_36 sg9_36 le9_36 de9_36 so9_36), (wMRow g mo ro9_36), (wMAll g mo al)] dX9_shared_49 (Nat.le_of_ble_eq_true rfl) (Nat.le_of_ble_eq_true rfl) rfl ?_
  have v7 := (TabV.nil (fun _ => rLet 0)).lay h7_1.1 h7_2 h7_0.2.2.1 h7_3 (h7_0.sub _ (Nat.le_refl _) h7_3.1 h7_3.2) h7_5 0
  have v23 := (TabV.nil (fun _ => rLet 0)).lay h23_1.1 h23_2 h23_0.2.2.1 h23_3 (h23_0.sub _ (Nat.le_refl _) h23_3.1 h23_3.2) h23_5 0
  have v36 := v23.lay h36_1.1 h36_2 h36_0.2.2.1 h36_3 (h36_0.sub _ (Nat.le_refl _) h36_3.1 h36_3.2) h36_5 0
  have b7 := h7_4
  have b23 := h23_4
  have b36 := h36_4
  rw [oF_0, oN_0] at b7 b23 b36
  have e7 := (b7.one b36).1
  have l7 := v7.2.1
  have l23 := v23.2.1
  have l36 := v36.2.1
  rw [e7] at l7
  exact ⟨kd9_36, on9_36, tw9_36, sg9_36, le9_36, de9_36, so9_36, mr9_36, R9_36, ro9_36, mrd9_36, mrm9_36, _, rfl, rfl, R9_23 r_23, R9_36 r_36, ⟨_, b23⟩, ⟨_, b36⟩, by omega⟩
