set_option maxHeartbeats 4000000 in
set_option maxRecDepth 100000 in
theorem c_X9_around {g : Gm} {mo : Nat → Nat} {mst mac mmk mr mrd mrm mcm mtp msz mtk mbg men mls mvl mft mfp mfk mdp mto : Int} {al : Int → Int} {kd on tw sg le de so : Int → Int} {R : Int → Rl} {ro : Int → Int} {cm nu fa oft hp ha : Int → Int} {t p_ i_ : Int} (hM : MTx al) (hr_t : -2147483648 ≤ t ∧ t ≤ 2147483647) (hr_p_ : -2147483648 ≤ p_ ∧ p_ ≤ 2147483647) (hr_i_ : -2147483648 ≤ i_ ∧ i_ ≤ 2147483647) : Ct g 6 0 0 yX9_around cX9_around 7 (some .int) [.ref (mo 0), .int (iI t), .int (iI p_), .int (iI i_)] [(wMo g mo mst mac mmk mr mrd mrm mcm mtp msz mtk mbg men mls mvl mft mfp mfk mdp mto), (wMTab g mo kd on tw sg le de so), (wMRow g mo ro), (wMAll g mo al), (wMCom g mo cm), (wMNum g mo nu fa oft), (wMHea g mo hp ha)] (fun v_ w_ => ∃ kd9 : Int → Int, ∃ on9 : Int → Int, ∃ tw9 : Int → Int, ∃ sg9 : Int → Int, ∃ le9 : Int → Int, ∃ de9 : Int → Int, ∃ so9 : Int → Int, ∃ mr9 : Int, ∃ R9 : Int → Rl, ∃ ro9 : Int → Int, ∃ mrd9 : Int, ∃ mrm9 : Int, ∃ nu9 : Int → Int, ∃ fa9 : Int → Int, ∃ of9 : Int → Int, ∃ cm9 : Int → Int, ∃ hp9 : Int → Int, ∃ ha9 : Int → Int, ∃ wc9 : Int, ∃ r9 : Int, ∃ s9 : Int, v_ = some (.int (iI r9)) ∧ w_ = [(wMo g mo s9 mac mmk mr9 mrd9 mrm9 wc9 mtp msz mtk mbg men mls mvl mft mfp mfk mdp mto), (wMTab g mo kd9 on9 tw9 sg9 le9 de9 so9), (wMRow g mo ro9), (wMAll g mo al), (wMCom g mo cm9), (wMNum g mo nu9 fa9 of9), (wMHea g mo hp9 ha9)] ∧ (QAround (mF al) (mN al) (al 0) t p_ i_ r9 s9)) := by
  refine Ct.of (by decide) (Nat.le_of_ble_eq_true rfl) (lv := [(0, .ref (mo 0)), (1, .int (iI t)), (2, .int (iI p_)), (3, .int (iI i_))]) rfl ?_
  intro E hE hR hnm
  have hc := hM.1
  have cut56 : ∀ (N : Nat) (kd9 : Int → Int) (on9 : Int → Int) (tw9 : Int → Int) (sg9 : Int → Int) (le9 : Int → Int) (de9 : Int → Int) (so9 : Int → Int) (mr9 : Int) (R9 : Int → Rl) (ro9 : Int → Int) (mrd9 : Int) (mrm9 : Int) (nu9 : Int → Int) (fa9 : Int → Int) (of9 : Int → Int) (cm9 : Int → Int) (hp9 : Int → Int) (ha9 : Int → Int) (wc9 : Int) (r : Int) (x : Int) (q : Int) (k : Int), (MT kd9 on9 tw9 sg9 le9 de9 so9 mr9 R9) → (BIs (lts (mF al t) 0 (mN al t)) (R9 r) mrd9) → (NV R9 mr9 (vis (R9 r) 0 []) nu9 fa9 cm9 wc9) → (0 ≤ p_ ∧ 0 ≤ i_) → (0 ≤ t ∧ t < al 0) → (p_ < mN al t) → (0 ≤ x ∧ x < mr9) → (0 ≤ q ∧ q ≤ 600) → (0 ≤ k ∧ k ≤ i_) → (arN i_.toNat (R9 r) p_ = arN (i_ - k).toNat (R9 x) q) → (InV (vis (R9 r) 0 []) (R9 x)) → (i_ - k).toNat < N → G g E 7 0 0 [(wMo g mo mst mac mmk mr9 mrd9 mrm9 wc9 mtp msz mtk mbg men mls mvl mft mfp mfk mdp mto), (wMTab g mo kd9 on9 tw9 sg9 le9 de9 so9), (wMRow g mo ro9), (wMAll g mo al), (wMCom g mo cm9), (wMNum g mo nu9 fa9 of9), (wMHea g mo hp9 ha9)] 56 [(0, .ref (mo 0)), (1, .int (iI t)), (2, .int (iI p_)), (3, .int (iI i_)), (4, .int (iI x)), (5, .int (iI q)), (6, .int (iI k))] [] := by
    intro N
    induction N with
    | zero => intro kd9 on9 tw9 sg9 le9 de9 so9 mr9 R9 ro9 mrd9 mrm9 nu9 fa9 of9 cm9 hp9 ha9 wc9 r x q k _ _ _ _ _ _ _ _ _ _ _ hN; exact absurd hN (Nat.not_lt_zero _)
    | succ N ih56 =>
      intro kd9 on9 tw9 sg9 le9 de9 so9 mr9 R9 ro9 mrd9 mrm9 nu9 fa9 of9 cm9 hp9 ha9 wc9 r x q k hT9 hB9 hN9 hpi htt hpl hx hq hk hv hxi hN
      have hl_t := hM.2 t htt.1 htt.2
      have hcn9 := hT9.1
      have hxr := hT9.2.1 x hx.1 hx.2
      have hxg := hxr.rg (by omega)
      have hprt := NV.prt hxr (vis_parts hxi)
      have cut173 : ∀ (x8 : Int) (q8 : Int), (0 ≤ x8 ∧ x8 < mr9) → (0 ≤ q8 ∧ q8 ≤ 600) → (arN i_.toNat (R9 r) p_ = arN (i_ - (k + 1)).toNat (R9 x8) q8) → (InV (vis (R9 r) 0 []) (R9 x8)) → (k < i_) → G g E 7 0 0 [(wMo g mo mst mac mmk mr9 mrd9 mrm9 wc9 mtp msz mtk mbg men mls mvl mft mfp mfk mdp mto), (wMTab g mo kd9 on9 tw9 sg9 le9 de9 so9), (wMRow g mo ro9), (wMAll g mo al), (wMCom g mo cm9), (wMNum g mo nu9 fa9 of9), (wMHea g mo hp9 ha9)] 173 [(0, .ref (mo 0)), (1, .int (iI t)), (2, .int (iI p_)), (3, .int (iI i_)), (4, .int (iI x8)), (5, .int (iI q8)), (6, .int (iI k))] [] := by
        intro x8 q8 hx8 hq8 hv2 hxi2 hlt
        refine r_iinc 176 hE 6 (k + 1) [(6, .int (iI (k + 1))), (0, .ref (mo 0)), (1, .int (iI t)), (2, .int (iI p_)), (3, .int (iI i_)), (4, .int (iI x8)), (5, .int (iI q8))] dX9_around_173 rfl rfl rfl (by decide) rfl ?_
        refine r_goto 56 hE dX9_around_176 (by decide) ?_
        refine G.to (fs' := [(wMo g mo mst mac mmk mr9 mrd9 mrm9 wc9 mtp msz mtk mbg men mls mvl mft mfp mfk mdp mto), (wMTab g mo kd9 on9 tw9 sg9 le9 de9 so9), (wMRow g mo ro9), (wMAll g mo al), (wMCom g mo cm9), (wMNum g mo nu9 fa9 of9), (wMHea g mo hp9 ha9)]) (lv' := [(0, .ref (mo 0)), (1, .int (iI t)), (2, .int (iI p_)), (3, .int (iI i_)), (4, .int (iI x8)), (5, .int (iI q8)), (6, .int (iI (k + 1)))]) [0, 1, 2, 3, 4, 5, 6] [1, 2, 3, 4, 5, 6, 0] rfl rfl rfl ?_
        exact ih56 kd9 on9 tw9 sg9 le9 de9 so9 mr9 _ ro9 mrd9 mrm9 nu9 fa9 of9 cm9 hp9 ha9 wc9 r x8 q8 (k + 1) (by first | exact h45_0 | exact hT9) (by first | exact h45_2 | exact hB9) (by first | exact h45_3 | exact hN9) (by omega) (by first | exact c19 | exact htt) (by omega) (by omega) (by omega) (by omega) (by first | exact hv2 | (rw [Int.sub_zero])) (by first | exact hxi2 | exact (vis_closed _ 0 []).2.1) (by omega)
      refine r_iload 58 hE 6 dX9_around_56 rfl rfl ?_
      refine r_iload_n 59 hE 3 dX9_around_58 rfl rfl rfl ?_
      refine r_icmp_ge 62 179 hE dX9_around_59 rfl (by decide) (by omega) (fun c59 => ?_) (fun c59 => ?_)
      · skip
        refine r_aload_n 180 hE 0 dX9_around_179 rfl rfl rfl ?_
        refine r_aload_n 181 hE 0 dX9_around_180 rfl rfl rfl ?_
        refine r_get 184 hE 0 0 ok9 17 dX9_around_181 rfl wd_1069 rfl rfl (by decide) rfl ?_
        refine r_iload 186 hE 4 dX9_around_184 rfl rfl ?_
        refine r_iald 187 hE 5 0 dX9_around_186 rfl rfl rfl (by omega) ?_
        refine r_callV 190 hE [0] [1, 2, 3, 4, 5, 6] [(wMo g mo mst mac mmk mr9 mrd9 mrm9 wc9 mtp msz mtk mbg men mls mvl mft mfp mfk mdp mto)] [(wMTab g mo kd9 on9 tw9 sg9 le9 de9 so9), (wMRow g mo ro9), (wMAll g mo al), (wMCom g mo cm9), (wMNum g mo nu9 fa9 of9), (wMHea g mo hp9 ha9)] 0 9 ok9 [] (c_X9_gives) dX9_around_187 rfl rfl wd_1334 wd_1336 ws_79 wd_12 wd_1337 ne_X9 np_X9_gives (Nat.le_of_ble_eq_true rfl)  (by decide) (by decide) rfl (Nat.le_of_ble_eq_true rfl) rfl rfl rfl rfl (by decide) rfl (fun v1 f1 hp => ?_)
        obtain ⟨rfl, rfl⟩ := hp
        show G g E _ _ _ [(wMo g mo 0 mac mmk mr9 mrd9 mrm9 wc9 mtp msz mtk mbg men mls mvl mft mfp mfk mdp mto), (wMTab g mo kd9 on9 tw9 sg9 le9 de9 so9), (wMRow g mo ro9), (wMAll g mo al), (wMCom g mo cm9), (wMNum g mo nu9 fa9 of9), (wMHea g mo hp9 ha9)] 190 [(0, .ref (mo 0)), (1, .int (iI t)), (2, .int (iI p_)), (3, .int (iI i_)), (4, .int (iI x)), (5, .int (iI q)), (6, .int (iI k))] [.int (iI (nu9 x))]
        refine r_ireturn hE hR [(wMo g mo 0 mac mmk mr9 mrd9 mrm9 wc9 mtp msz mtk mbg men mls mvl mft mfp mfk mdp mto), (wMTab g mo kd9 on9 tw9 sg9 le9 de9 so9), (wMRow g mo ro9), (wMAll g mo al), (wMCom g mo cm9), (wMNum g mo nu9 fa9 of9), (wMHea g mo hp9 ha9)] dX9_around_190 (Nat.le_of_ble_eq_true rfl) (Nat.le_of_ble_eq_true rfl) rfl ?_
        exact ⟨kd9, on9, tw9, sg9, le9, de9, so9, mr9, R9, ro9, mrd9, mrm9, nu9, fa9, of9, cm9, hp9, ha9, wc9, _, _, rfl, rfl, Or.inr (Or.inr (Or.inr ⟨hpi, htt, hpl, R9 r, mrd9, hB9, Or.inr ⟨R9 x, by rw [hv, show (i_ - k).toNat = 0 by omega]; rfl, hN9.idx hx hxi, rfl⟩⟩))⟩
      · skip
        rw [ar_s (by omega)] at hv
        refine r_aload_n 63 hE 0 dX9_around_62 rfl rfl rfl ?_
        refine r_get 66 hE 0 0 ok9 5 dX9_around_63 rfl wd_1057 rfl rfl (by decide) rfl ?_
        refine r_iload 68 hE 4 dX9_around_66 rfl rfl ?_
        refine r_iald 69 hE 1 0 dX9_around_68 rfl rfl rfl (by omega) ?_
        refine r_if_ne 72 78 hE dX9_around_69 rfl (by decide) (by omega) (fun c69 => ?_) (fun c69 => ?_)
        · skip
          have hfx : 0 ≤ on9 x ∧ on9 x < mr9 := by have h9 := hxr.1; rcases h9 with z | z | z <;> omega
          have hfr := hT9.2.1 _ hfx.1 hfx.2
          have hfg := hfr.rg (by omega)
          have hle := hfr.2.2.1
          refine r_aload_n 79 hE 0 dX9_around_78 rfl rfl rfl ?_
          refine r_get 82 hE 0 0 ok9 5 dX9_around_79 rfl wd_1057 rfl rfl (by decide) rfl ?_
          refine r_iload 84 hE 4 dX9_around_82 rfl rfl ?_
          refine r_iald 85 hE 1 0 dX9_around_84 rfl rfl rfl (by omega) ?_
          refine r_iconst 86 hE dX9_around_85 rfl ?_
          refine r_icmp_ne 89 118 hE dX9_around_86 rfl (by decide) (by omega) (fun c86 => ?_) (fun c86 => ?_)
          · skip
            have hk1 : kd9 x = 1 := by omega
            have hPair := hxr.pair hk1
            refine r_iload 120 hE 5 dX9_around_118 rfl rfl ?_
            refine r_aload_n 121 hE 0 dX9_around_120 rfl rfl rfl ?_
            refine r_get 124 hE 0 0 ok9 9 dX9_around_121 rfl wd_1061 rfl rfl (by decide) rfl ?_
            refine r_aload_n 125 hE 0 dX9_around_124 rfl rfl rfl ?_
            refine r_get 128 hE 0 0 ok9 6 dX9_around_125 rfl wd_1058 rfl rfl (by decide) rfl ?_
            refine r_iload 130 hE 4 dX9_around_128 rfl rfl ?_
            refine r_iald 131 hE 1 1 dX9_around_130 rfl rfl rfl (by omega) ?_
            refine r_iald 132 hE 1 4 dX9_around_131 rfl rfl rfl (by omega) ?_
            refine r_icmp_ge 135 147 hE dX9_around_132 rfl (by decide) (by omega) (fun c132 => ?_) (fun c132 => ?_)
            · skip
              have hvp : arN i_.toNat (R9 r) p_ = arN (i_ - (k + 1)).toNat (R9 (tw9 x)) (q - le9 (on9 x)) := by rw [hv, hPair.1, arN_pair, if_neg (by rw [← hle]; omega), hle]
              refine r_iload 149 hE 5 dX9_around_147 rfl rfl ?_
              refine r_aload_n 150 hE 0 dX9_around_149 rfl rfl rfl ?_
              refine r_get 153 hE 0 0 ok9 9 dX9_around_150 rfl wd_1061 rfl rfl (by decide) rfl ?_
              refine r_aload_n 154 hE 0 dX9_around_153 rfl rfl rfl ?_
              refine r_get 157 hE 0 0 ok9 6 dX9_around_154 rfl wd_1058 rfl rfl (by decide) rfl ?_
              refine r_iload 159 hE 4 dX9_around_157 rfl rfl ?_
              refine r_iald 160 hE 1 1 dX9_around_159 rfl rfl rfl (by omega) ?_
              refine r_iald 161 hE 1 4 dX9_around_160 rfl rfl rfl (by omega) ?_
              refine r_isub 162 hE (q - (le9 (on9 x))) dX9_around_161 rfl rfl ?_
              refine r_istore 164 hE [(5, .int (iI (q - (le9 (on9 x))))), (0, .ref (mo 0)), (1, .int (iI t)), (2, .int (iI p_)), (3, .int (iI i_)), (4, .int (iI x)), (6, .int (iI k))] dX9_around_162 rfl (by decide) rfl ?_
              refine r_aload_n 165 hE 1 dX9_around_164 rfl rfl rfl ?_
              refine r_get 168 hE 0 0 ok9 7 dX9_around_165 rfl wd_1059 rfl rfl (by decide) rfl ?_
              refine r_iload 170 hE 5 dX9_around_168 rfl rfl ?_
              refine r_iald 171 hE 1 2 dX9_around_170 rfl rfl rfl (by omega) ?_
              refine r_istore 173 hE [(4, .int (iI (tw9 x))), (5, .int (iI (q - (le9 (on9 x))))), (0, .ref (mo 0)), (1, .int (iI t)), (2, .int (iI p_)), (3, .int (iI i_)), (6, .int (iI k))] dX9_around_171 rfl (by decide) rfl ?_
              refine G.to (fs' := [(wMo g mo mst mac mmk mr9 mrd9 mrm9 wc9 mtp msz mtk mbg men mls mvl mft mfp mfk mdp mto), (wMTab g mo kd9 on9 tw9 sg9 le9 de9 so9), (wMRow g mo ro9), (wMAll g mo al), (wMCom g mo cm9), (wMNum g mo nu9 fa9 of9), (wMHea g mo hp9 ha9)]) (lv' := [(0, .ref (mo 0)), (1, .int (iI t)), (2, .int (iI p_)), (3, .int (iI i_)), (4, .int (iI (tw9 x))), (5, .int (iI (q - (le9 (on9 x))))), (6, .int (iI k))]) [0, 1, 2, 3, 4, 5, 6] [2, 3, 4, 5, 0, 1, 6] rfl rfl rfl ?_
              exact cut173 (tw9 x) (q - (le9 (on9 x))) (by omega) (by omega) (by first | exact hvr | exact hvp) (by first | exact hprt.1 c69 | exact hprt.2 hk1) (by omega)
            · skip
              have hvp : arN i_.toNat (R9 r) p_ = arN (i_ - (k + 1)).toNat (R9 (on9 x)) q := by rw [hv, hPair.1, arN_pair, if_pos (by rw [← hle]; omega)]
              refine r_aload_n 136 hE 0 dX9_around_135 rfl rfl rfl ?_
              refine r_get 139 hE 0 0 ok9 6 dX9_around_136 rfl wd_1058 rfl rfl (by decide) rfl ?_
              refine r_iload 141 hE 4 dX9_around_139 rfl rfl ?_
              refine r_iald 142 hE 1 1 dX9_around_141 rfl rfl rfl (by omega) ?_
              refine r_istore 144 hE [(4, .int (iI (on9 x))), (0, .ref (mo 0)), (1, .int (iI t)), (2, .int (iI p_)), (3, .int (iI i_)), (5, .int (iI q)), (6, .int (iI k))] dX9_around_142 rfl (by decide) rfl ?_
              refine r_goto 173 hE dX9_around_144 (by decide) ?_
              refine G.to (fs' := [(wMo g mo mst mac mmk mr9 mrd9 mrm9 wc9 mtp msz mtk mbg men mls mvl mft mfp mfk mdp mto), (wMTab g mo kd9 on9 tw9 sg9 le9 de9 so9), (wMRow g mo ro9), (wMAll g mo al), (wMCom g mo cm9), (wMNum g mo nu9 fa9 of9), (wMHea g mo hp9 ha9)]) (lv' := [(0, .ref (mo 0)), (1, .int (iI t)), (2, .int (iI p_)), (3, .int (iI i_)), (4, .int (iI (on9 x))), (5, .int (iI q)), (6, .int (iI k))]) [0, 1, 2, 3, 4, 5, 6] [1, 2, 3, 4, 0, 5, 6] rfl rfl rfl ?_
              exact cut173 (on9 x) q (by omega) (by omega) (by first | exact hvr | exact hvp) (by first | exact hprt.1 c69 | exact hprt.2 hk1) (by omega)
          · skip
            have hRun := hxr.run (by omega) (by omega)
            have hmod1 := Int.emod_nonneg q (show le9 (on9 x) ≠ 0 by omega)
            have hmod2 := Int.emod_lt_of_pos q (show 0 < le9 (on9 x) by omega)
            have hvr : arN i_.toNat (R9 r) p_ = arN (i_ - (k + 1)).toNat (R9 (on9 x)) (q % le9 (on9 x)) := by rw [hv, hRun.1, arN_run, hle]
            refine r_iload 91 hE 5 dX9_around_89 rfl rfl ?_
            refine r_aload_n 92 hE 0 dX9_around_91 rfl rfl rfl ?_
            refine r_get 95 hE 0 0 ok9 9 dX9_around_92 rfl wd_1061 rfl rfl (by decide) rfl ?_
            refine r_aload_n 96 hE 0 dX9_around_95 rfl rfl rfl ?_
            refine r_get 99 hE 0 0 ok9 6 dX9_around_96 rfl wd_1058 rfl rfl (by decide) rfl ?_
            refine r_iload 101 hE 4 dX9_around_99 rfl rfl ?_
            refine r_iald 102 hE 1 1 dX9_around_101 rfl rfl rfl (by omega) ?_
            refine r_iald 103 hE 1 4 dX9_around_102 rfl rfl rfl (by omega) ?_
            refine r_irem 104 hE dX9_around_103 rfl (by omega) ?_
            refine r_istore 106 hE [(5, .int (iI (q % (le9 (on9 x))))), (0, .ref (mo 0)), (1, .int (iI t)), (2, .int (iI p_)), (3, .int (iI i_)), (4, .int (iI x)), (6, .int (iI k))] dX9_around_104 rfl (by decide) rfl ?_
            refine r_aload_n 107 hE 1 dX9_around_106 rfl rfl rfl ?_
            refine r_get 110 hE 0 0 ok9 6 dX9_around_107 rfl wd_1058 rfl rfl (by decide) rfl ?_
            refine r_iload 112 hE 5 dX9_around_110 rfl rfl ?_
            refine r_iald 113 hE 1 1 dX9_around_112 rfl rfl rfl (by omega) ?_
            refine r_istore 115 hE [(4, .int (iI (on9 x))), (5, .int (iI (q % (le9 (on9 x))))), (0, .ref (mo 0)), (1, .int (iI t)), (2, .int (iI p_)), (3, .int (iI i_)), (6, .int (iI k))] dX9_around_113 rfl (by decide) rfl ?_
            refine r_goto 173 hE dX9_around_115 (by decide) ?_
            refine G.to (fs' := [(wMo g mo mst mac mmk mr9 mrd9 mrm9 wc9 mtp msz mtk mbg men mls mvl mft mfp mfk mdp mto), (wMTab g mo kd9 on9 tw9 sg9 le9 de9 so9), (wMRow g mo ro9), (wMAll g mo al), (wMCom g mo cm9), (wMNum g mo nu9 fa9 of9), (wMHea g mo hp9 ha9)]) (lv' := [(0, .ref (mo 0)), (1, .int (iI t)), (2, .int (iI p_)), (3, .int (iI i_)), (4, .int (iI (on9 x))), (5, .int (iI (q % (le9 (on9 x))))), (6, .int (iI k))]) [0, 1, 2, 3, 4, 5, 6] [2, 3, 4, 5, 0, 1, 6] rfl rfl rfl ?_
            exact cut173 (on9 x) (q % (le9 (on9 x))) (by omega) (by omega) (by first | exact hvr | exact hvp) (by first | exact hprt.1 c69 | exact hprt.2 hk1) (by omega)
        · skip
          refine r_aload_n 73 hE 0 dX9_around_72 rfl rfl rfl ?_
          refine r_iconst 74 hE dX9_around_73 rfl ?_
          refine r_callV 77 hE [0] [1, 2, 3, 4, 5, 6] [(wMo g mo mst mac mmk mr9 mrd9 mrm9 wc9 mtp msz mtk mbg men mls mvl mft mfp mfk mdp mto)] [(wMTab g mo kd9 on9 tw9 sg9 le9 de9 so9), (wMRow g mo ro9), (wMAll g mo al), (wMCom g mo cm9), (wMNum g mo nu9 fa9 of9), (wMHea g mo hp9 ha9)] 0 9 ok9 [] (c_X9_refuse) dX9_around_74 rfl rfl wd_1186 wd_1188 ws_47 wd_12 wd_1189 ne_X9 np_X9_refuse (Nat.le_of_ble_eq_true rfl)  (by decide) (by decide) rfl (Nat.le_of_ble_eq_true rfl) rfl rfl rfl rfl (by decide) rfl (fun v1 f1 hp => ?_)
          obtain ⟨rfl, rfl⟩ := hp
          show G g E _ _ _ [(wMo g mo 5 mac mmk mr9 mrd9 mrm9 wc9 mtp msz mtk mbg men mls mvl mft mfp mfk mdp mto), (wMTab g mo kd9 on9 tw9 sg9 le9 de9 so9), (wMRow g mo ro9), (wMAll g mo al), (wMCom g mo cm9), (wMNum g mo nu9 fa9 of9), (wMHea g mo hp9 ha9)] 77 [(0, .ref (mo 0)), (1, .int (iI t)), (2, .int (iI p_)), (3, .int (iI i_)), (4, .int (iI x)), (5, .int (iI q)), (6, .int (iI k))] [.int (iI (-1))]
          refine r_ireturn hE hR [(wMo g mo 5 mac mmk mr9 mrd9 mrm9 wc9 mtp msz mtk mbg men mls mvl mft mfp mfk mdp mto), (wMTab g mo kd9 on9 tw9 sg9 le9 de9 so9), (wMRow g mo ro9), (wMAll g mo al), (wMCom g mo cm9), (wMNum g mo nu9 fa9 of9), (wMHea g mo hp9 ha9)] dX9_around_77 (Nat.le_of_ble_eq_true rfl) (Nat.le_of_ble_eq_true rfl) rfl ?_
          exact ⟨kd9, on9, tw9, sg9, le9, de9, so9, mr9, R9, ro9, mrd9, mrm9, nu9, fa9, of9, cm9, hp9, ha9, wc9, _, _, rfl, rfl, Or.inr (Or.inr (Or.inr ⟨hpi, htt, hpl, R9 r, mrd9, hB9, Or.inl ⟨by rw [hv, (hxr.let c69).1, arN_let], rfl, rfl⟩⟩))⟩
  refine r_iload_n 1 hE 2 dX9_around_0 rfl rfl rfl ?_
  refine r_if_lt 4 8 hE dX9_around_1 rfl (by decide) (by omega) (fun c1 => ?_) (fun c1 => ?_)
  · skip
    refine r_aload_n 9 hE 0 dX9_around_8 rfl rfl rfl ?_
    refine r_iconst 10 hE dX9_around_9 rfl ?_
    refine r_callV 13 hE [0] [1, 2, 3, 4, 5, 6] [(wMo g mo mst mac mmk mr mrd mrm mcm mtp msz mtk mbg men mls mvl mft mfp mfk mdp mto)] [(wMTab g mo kd on tw sg le de so), (wMRow g mo ro), (wMAll g mo al), (wMCom g mo cm), (wMNum g mo nu fa oft), (wMHea g mo hp ha)] 0 9 ok9 [] (c_X9_refuse) dX9_around_10 rfl rfl wd_1186 wd_1188 ws_47 wd_12 wd_1189 ne_X9 np_X9_refuse (Nat.le_of_ble_eq_true rfl)  (by decide) (by decide) rfl (Nat.le_of_ble_eq_true rfl) rfl rfl rfl rfl (by decide) rfl (fun v1 f1 hp => ?_)
    obtain ⟨rfl, rfl⟩ := hp
    show G g E _ _ _ [(wMo g mo 1 mac mmk mr mrd mrm mcm mtp msz mtk mbg men mls mvl mft mfp mfk mdp mto), (wMTab g mo kd on tw sg le de so), (wMRow g mo ro), (wMAll g mo al), (wMCom g mo cm), (wMNum g mo nu fa oft), (wMHea g mo hp ha)] 13 [(0, .ref (mo 0)), (1, .int (iI t)), (2, .int (iI p_)), (3, .int (iI i_))] [.int (iI (-1))]
    refine r_ireturn hE hR [(wMo g mo 1 mac mmk mr mrd mrm mcm mtp msz mtk mbg men mls mvl mft mfp mfk mdp mto), (wMTab g mo kd on tw sg le de so), (wMRow g mo ro), (wMAll g mo al), (wMCom g mo cm), (wMNum g mo nu fa oft), (wMHea g mo hp ha)] dX9_around_13 (Nat.le_of_ble_eq_true rfl) (Nat.le_of_ble_eq_true rfl) rfl ?_
    exact ⟨kd, on, tw, sg, le, de, so, mr, R, ro, mrd, mrm, nu, fa, oft, cm, hp, ha, mcm, _, _, rfl, rfl, Or.inl ⟨by omega, rfl, rfl⟩⟩
  · skip
    refine r_iload_n 5 hE 3 dX9_around_4 rfl rfl rfl ?_
    refine r_if_ge 8 14 hE dX9_around_5 rfl (by decide) (by omega) (fun c5 => ?_) (fun c5 => ?_)
    · skip
      refine r_aload_n 15 hE 0 dX9_around_14 rfl rfl rfl ?_
      refine r_iload_n 16 hE 1 dX9_around_15 rfl rfl rfl ?_
      refine r_callV 19 hE [0, 3] [1, 2, 4, 5, 6] [(wMo g mo mst mac mmk mr mrd mrm mcm mtp msz mtk mbg men mls mvl mft mfp mfk mdp mto), (wMAll g mo al)] [(wMTab g mo kd on tw sg le de so), (wMRow g mo ro), (wMCom g mo cm), (wMNum g mo nu fa oft), (wMHea g mo hp ha)] 0 9 ok9 [] (c_X9_isText (by omega) (by omega)) dX9_around_16 rfl rfl wd_1346 wd_1348 ws_80 wd_12 wd_1349 ne_X9 np_X9_isText (Nat.le_of_ble_eq_true rfl)  (by decide) (by decide) rfl (Nat.le_of_ble_eq_true rfl) rfl rfl rfl rfl (by decide) rfl (fun v1 f1 hp => ?_)
      obtain ⟨rfl, rfl⟩ := hp
      show G g E _ _ _ [(wMo g mo mst mac mmk mr mrd mrm mcm mtp msz mtk mbg men mls mvl mft mfp mfk mdp mto), (wMAll g mo al), (wMTab g mo kd on tw sg le de so), (wMRow g mo ro), (wMCom g mo cm), (wMNum g mo nu fa oft), (wMHea g mo hp ha)] 19 [(0, .ref (mo 0)), (1, .int (iI t)), (2, .int (iI p_)), (3, .int (iI i_))] [.int (iI (bI (0 ≤ t ∧ t < al 0)))]
      refine r_if_ne 22 28 hE dX9_around_19 rfl (by decide) (bI_rg _) (fun c19 => ?_) (fun c19 => ?_)
      · skip
        have c19 := bI1 c19
        have hl_t := hM.2 t c19.1 c19.2
        refine r_iload_n 29 hE 2 dX9_around_28 rfl rfl rfl ?_
        refine r_aload_n 30 hE 0 dX9_around_29 rfl rfl rfl ?_
        refine r_iload_n 31 hE 1 dX9_around_30 rfl rfl rfl ?_
        refine r_callV 34 hE [0, 1] [2, 3, 4, 5, 6] [(wMo g mo mst mac mmk mr mrd mrm mcm mtp msz mtk mbg men mls mvl mft mfp mfk mdp mto), (wMAll g mo al)] [(wMTab g mo kd on tw sg le de so), (wMRow g mo ro), (wMCom g mo cm), (wMNum g mo nu fa oft), (wMHea g mo hp ha)] 0 9 ok9 [.int (iI p_)] (c_X9_sizeOf (by omega)) dX9_around_31 rfl rfl wd_1273 wd_1275 ws_65 wd_12 wd_1276 ne_X9 np_X9_sizeOf (Nat.le_of_ble_eq_true rfl)  (by decide) (by decide) rfl (Nat.le_of_ble_eq_true rfl) rfl rfl rfl rfl (by decide) rfl (fun v1 f1 hp => ?_)
        obtain ⟨rfl, rfl⟩ := hp
        show G g E _ _ _ [(wMo g mo mst mac mmk mr mrd mrm mcm mtp msz mtk mbg men mls mvl mft mfp mfk mdp mto), (wMAll g mo al), (wMTab g mo kd on tw sg le de so), (wMRow g mo ro), (wMCom g mo cm), (wMNum g mo nu fa oft), (wMHea g mo hp ha)] 34 [(0, .ref (mo 0)), (1, .int (iI t)), (2, .int (iI p_)), (3, .int (iI i_))] [.int (iI (mN al t)), .int (iI p_)]
        refine r_icmp_lt 37 43 hE dX9_around_34 rfl (by decide) (by omega) (fun c34 => ?_) (fun c34 => ?_)
        · skip
          refine r_aload_n 44 hE 0 dX9_around_43 rfl rfl rfl ?_
          refine r_iload_n 45 hE 1 dX9_around_44 rfl rfl rfl ?_
          refine r_callV 48 hE [0, 2, 3, 1, 4, 5, 6] [] [(wMo g mo mst mac mmk mr mrd mrm mcm mtp msz mtk mbg men mls mvl mft mfp mfk mdp mto), (wMTab g mo kd on tw sg le de so), (wMRow g mo ro), (wMAll g mo al), (wMCom g mo cm), (wMNum g mo nu fa oft), (wMHea g mo hp ha)] [] 0 9 ok9 [] (c_X9_opens (R := R) (hM) (by omega)) dX9_around_45 rfl rfl wd_1431 wd_1433 ws_89 wd_12 wd_1434 ne_X9 np_X9_opens (Nat.le_of_ble_eq_true rfl)  (by decide) (by decide) rfl (Nat.le_of_ble_eq_true rfl) rfl rfl rfl rfl (by decide) rfl (fun v1 f1 hp => ?_)
          obtain ⟨kd9_45, on9_45, tw9_45, sg9_45, le9_45, de9_45, so9_45, mr9_45, R9_45, ro9_45, mrd9_45, mrm9_45, nu9_45, fa9_45, of9_45, cm9_45, hp9_45, ha9_45, wc9_45, r_45, rfl, rfl, h45_0, h45_1, h45_2, h45_3, h45_4, h45_5, h45_6⟩ := hp
          show G g E _ _ _ [(wMo g mo mst mac mmk mr9_45 mrd9_45 mrm9_45 wc9_45 mtp msz mtk mbg men mls mvl mft mfp mfk mdp mto), (wMTab g mo kd9_45 on9_45 tw9_45 sg9_45 le9_45 de9_45 so9_45), (wMRow g mo ro9_45), (wMAll g mo al), (wMCom g mo cm9_45), (wMNum g mo nu9_45 fa9_45 of9_45), (wMHea g mo hp9_45 ha9_45)] 48 [(0, .ref (mo 0)), (1, .int (iI t)), (2, .int (iI p_)), (3, .int (iI i_))] [.int (iI r_45)]
          have hcn := h45_0.1
          refine r_istore 50 hE [(4, .int (iI r_45)), (0, .ref (mo 0)), (1, .int (iI t)), (2, .int (iI p_)), (3, .int (iI i_))] dX9_around_48 rfl (by decide) rfl ?_
          refine r_iload_n 51 hE 3 dX9_around_50 rfl rfl rfl ?_
          refine r_istore 53 hE [(5, .int (iI p_)), (4, .int (iI r_45)), (0, .ref (mo 0)), (1, .int (iI t)), (2, .int (iI p_)), (3, .int (iI i_))] dX9_around_51 rfl (by decide) rfl ?_
          refine r_iconst 54 hE dX9_around_53 rfl ?_
          refine r_istore 56 hE [(6, .int (iI 0)), (5, .int (iI p_)), (4, .int (iI r_45)), (0, .ref (mo 0)), (1, .int (iI t)), (2, .int (iI p_)), (3, .int (iI i_))] dX9_around_54 rfl (by decide) rfl ?_
          refine G.to (fs' := [(wMo g mo mst mac mmk mr9_45 mrd9_45 mrm9_45 wc9_45 mtp msz mtk mbg men mls mvl mft mfp mfk mdp mto), (wMTab g mo kd9_45 on9_45 tw9_45 sg9_45 le9_45 de9_45 so9_45), (wMRow g mo ro9_45), (wMAll g mo al), (wMCom g mo cm9_45), (wMNum g mo nu9_45 fa9_45 of9_45), (wMHea g mo hp9_45 ha9_45)]) (lv' := [(0, .ref (mo 0)), (1, .int (iI t)), (2, .int (iI p_)), (3, .int (iI i_)), (4, .int (iI r_45)), (5, .int (iI p_)), (6, .int (iI 0))]) [0, 1, 2, 3, 4, 5, 6] [3, 4, 5, 6, 2, 1, 0] rfl rfl rfl ?_
          exact cut56 _ kd9_45 on9_45 tw9_45 sg9_45 le9_45 de9_45 so9_45 mr9_45 _ ro9_45 mrd9_45 mrm9_45 nu9_45 fa9_45 of9_45 cm9_45 hp9_45 ha9_45 wc9_45 r_45 r_45 p_ 0 (by first | exact h45_0 | exact hT9) (by first | exact h45_2 | exact hB9) (by first | exact h45_3 | exact hN9) (by omega) (by first | exact c19 | exact htt) (by omega) (by omega) (by omega) (by omega) (by first | exact hv2 | (rw [Int.sub_zero])) (by first | exact hxi2 | exact (vis_closed _ 0 []).2.1) (Nat.lt_succ_self _)
        · skip
          refine r_aload_n 38 hE 0 dX9_around_37 rfl rfl rfl ?_
          refine r_iconst 39 hE dX9_around_38 rfl ?_
          refine r_callV 42 hE [0] [1, 2, 3, 4, 5, 6] [(wMo g mo mst mac mmk mr mrd mrm mcm mtp msz mtk mbg men mls mvl mft mfp mfk mdp mto)] [(wMAll g mo al), (wMTab g mo kd on tw sg le de so), (wMRow g mo ro), (wMCom g mo cm), (wMNum g mo nu fa oft), (wMHea g mo hp ha)] 0 9 ok9 [] (c_X9_refuse) dX9_around_39 rfl rfl wd_1186 wd_1188 ws_47 wd_12 wd_1189 ne_X9 np_X9_refuse (Nat.le_of_ble_eq_true rfl)  (by decide) (by decide) rfl (Nat.le_of_ble_eq_true rfl) rfl rfl rfl rfl (by decide) rfl (fun v1 f1 hp => ?_)
          obtain ⟨rfl, rfl⟩ := hp
          show G g E _ _ _ [(wMo g mo 5 mac mmk mr mrd mrm mcm mtp msz mtk mbg men mls mvl mft mfp mfk mdp mto), (wMAll g mo al), (wMTab g mo kd on tw sg le de so), (wMRow g mo ro), (wMCom g mo cm), (wMNum g mo nu fa oft), (wMHea g mo hp ha)] 42 [(0, .ref (mo 0)), (1, .int (iI t)), (2, .int (iI p_)), (3, .int (iI i_))] [.int (iI (-1))]
          refine G.to (fs' := [(wMo g mo 5 mac mmk mr mrd mrm mcm mtp msz mtk mbg men mls mvl mft mfp mfk mdp mto), (wMTab g mo kd on tw sg le de so), (wMRow g mo ro), (wMAll g mo al), (wMCom g mo cm), (wMNum g mo nu fa oft), (wMHea g mo hp ha)]) [0, 2, 3, 1, 4, 5, 6] [0, 1, 2, 3] rfl rfl rfl ?_
          refine r_ireturn hE hR [(wMo g mo 5 mac mmk mr mrd mrm mcm mtp msz mtk mbg men mls mvl mft mfp mfk mdp mto), (wMTab g mo kd on tw sg le de so), (wMRow g mo ro), (wMAll g mo al), (wMCom g mo cm), (wMNum g mo nu fa oft), (wMHea g mo hp ha)] dX9_around_42 (Nat.le_of_ble_eq_true rfl) (Nat.le_of_ble_eq_true rfl) rfl ?_
          exact ⟨kd, on, tw, sg, le, de, so, mr, R, ro, mrd, mrm, nu, fa, oft, cm, hp, ha, mcm, _, _, rfl, rfl, Or.inr (Or.inr (Or.inl ⟨by omega, c19, by omega, rfl, rfl⟩))⟩
      · skip
        have c19 := bI0 c19
        refine r_aload_n 23 hE 0 dX9_around_22 rfl rfl rfl ?_
        refine r_iconst 24 hE dX9_around_23 rfl ?_
        refine r_callV 27 hE [0] [1, 2, 3, 4, 5, 6] [(wMo g mo mst mac mmk mr mrd mrm mcm mtp msz mtk mbg men mls mvl mft mfp mfk mdp mto)] [(wMAll g mo al), (wMTab g mo kd on tw sg le de so), (wMRow g mo ro), (wMCom g mo cm), (wMNum g mo nu fa oft), (wMHea g mo hp ha)] 0 9 ok9 [] (c_X9_refuse) dX9_around_24 rfl rfl wd_1186 wd_1188 ws_47 wd_12 wd_1189 ne_X9 np_X9_refuse (Nat.le_of_ble_eq_true rfl)  (by decide) (by decide) rfl (Nat.le_of_ble_eq_true rfl) rfl rfl rfl rfl (by decide) rfl (fun v1 f1 hp => ?_)
        obtain ⟨rfl, rfl⟩ := hp
        show G g E _ _ _ [(wMo g mo 2 mac mmk mr mrd mrm mcm mtp msz mtk mbg men mls mvl mft mfp mfk mdp mto), (wMAll g mo al), (wMTab g mo kd on tw sg le de so), (wMRow g mo ro), (wMCom g mo cm), (wMNum g mo nu fa oft), (wMHea g mo hp ha)] 27 [(0, .ref (mo 0)), (1, .int (iI t)), (2, .int (iI p_)), (3, .int (iI i_))] [.int (iI (-1))]
        refine G.to (fs' := [(wMo g mo 2 mac mmk mr mrd mrm mcm mtp msz mtk mbg men mls mvl mft mfp mfk mdp mto), (wMTab g mo kd on tw sg le de so), (wMRow g mo ro), (wMAll g mo al), (wMCom g mo cm), (wMNum g mo nu fa oft), (wMHea g mo hp ha)]) [0, 2, 3, 1, 4, 5, 6] [0, 1, 2, 3] rfl rfl rfl ?_
        refine r_ireturn hE hR [(wMo g mo 2 mac mmk mr mrd mrm mcm mtp msz mtk mbg men mls mvl mft mfp mfk mdp mto), (wMTab g mo kd on tw sg le de so), (wMRow g mo ro), (wMAll g mo al), (wMCom g mo cm), (wMNum g mo nu fa oft), (wMHea g mo hp ha)] dX9_around_27 (Nat.le_of_ble_eq_true rfl) (Nat.le_of_ble_eq_true rfl) rfl ?_
        exact ⟨kd, on, tw, sg, le, de, so, mr, R, ro, mrd, mrm, nu, fa, oft, cm, hp, ha, mcm, _, _, rfl, rfl, Or.inr (Or.inl ⟨by omega, c19, rfl, rfl⟩)⟩
    · skip
      refine r_aload_n 9 hE 0 dX9_around_8 rfl rfl rfl ?_
      refine r_iconst 10 hE dX9_around_9 rfl ?_
      refine r_callV 13 hE [0] [1, 2, 3, 4, 5, 6] [(wMo g mo mst mac mmk mr mrd mrm mcm mtp msz mtk mbg men mls mvl mft mfp mfk mdp mto)] [(wMTab g mo kd on tw sg le de so), (wMRow g mo ro), (wMAll g mo al), (wMCom g mo cm), (wMNum g mo nu fa oft), (wMHea g mo hp ha)] 0 9 ok9 [] (c_X9_refuse) dX9_around_10 rfl rfl wd_1186 wd_1188 ws_47 wd_12 wd_1189 ne_X9 np_X9_refuse (Nat.le_of_ble_eq_true rfl)  (by decide) (by decide) rfl (Nat.le_of_ble_eq_true rfl) rfl rfl rfl rfl (by decide) rfl (fun v1 f1 hp => ?_)
      obtain ⟨rfl, rfl⟩ := hp
      show G g E _ _ _ [(wMo g mo 1 mac mmk mr mrd mrm mcm mtp msz mtk mbg men mls mvl mft mfp mfk mdp mto), (wMTab g mo kd on tw sg le de so), (wMRow g mo ro), (wMAll g mo al), (wMCom g mo cm), (wMNum g mo nu fa oft), (wMHea g mo hp ha)] 13 [(0, .ref (mo 0)), (1, .int (iI t)), (2, .int (iI p_)), (3, .int (iI i_))] [.int (iI (-1))]
      refine r_ireturn hE hR [(wMo g mo 1 mac mmk mr mrd mrm mcm mtp msz mtk mbg men mls mvl mft mfp mfk mdp mto), (wMTab g mo kd on tw sg le de so), (wMRow g mo ro), (wMAll g mo al), (wMCom g mo cm), (wMNum g mo nu fa oft), (wMHea g mo hp ha)] dX9_around_13 (Nat.le_of_ble_eq_true rfl) (Nat.le_of_ble_eq_true rfl) rfl ?_
      exact ⟨kd, on, tw, sg, le, de, so, mr, R, ro, mrd, mrm, nu, fa, oft, cm, hp, ha, mcm, _, _, rfl, rfl, Or.inl ⟨by omega, rfl, rfl⟩⟩
set_option maxHeartbeats 4000000 in
set_option maxRecDepth 100000 in
theorem c_X9_many_ {g : Gm} {mo : Nat → Nat} {mst mac mmk mr mrd mrm mcm mtp msz mtk mbg men mls mvl mft mfp mfk mdp mto : Int} {al : Int → Int} {kd on tw sg le de so : Int → Int} {R : Int → Rl} {ro : Int → Int} {nf : Int → Int} {v : Int} (hM : MTx al) (hr_v : -2147483648 ≤ v ∧ v ≤ 2147483647) (hac : 0 ≤ mac ∧ mac ≤ 8) : Ct g 7 0 0 yX9_many_ cX9_many_ 2 (some .int) [.ref (mo 0), .int (iI v)] [(wMo g mo mst mac mmk mr mrd mrm mcm mtp msz mtk mbg men mls mvl mft mfp mfk mdp mto), (wMTab g mo kd on tw sg le de so), (wMRow g mo ro), (wMAll g mo al), (wMNew g mo nf)] (fun v_ w_ => ∃ kd9 : Int → Int, ∃ on9 : Int → Int, ∃ tw9 : Int → Int, ∃ sg9 : Int → Int, ∃ le9 : Int → Int, ∃ de9 : Int → Int, ∃ so9 : Int → Int, ∃ mr9 : Int, ∃ R9 : Int → Rl, ∃ ro9 : Int → Int, ∃ mrd9 : Int, ∃ mrm9 : Int, ∃ r9 : Int, ∃ s9 : Int, v_ = some (.int (iI r9)) ∧ w_ = [(wMo g mo s9 mac mmk mr9 mrd9 mrm9 mcm mtp msz mtk mbg men mls mvl mft mfp mfk mdp mto), (wMTab g mo kd9 on9 tw9 sg9 le9 de9 so9), (wMRow g mo ro9), (wMAll g mo al), (wMNew g mo nf)] ∧ (QMany (mF al) (mN al) (al 0) mac mmk (if mac = 0 then 0 else nf (mac - 1)) v r9 s9)) := by
  refine Ct.of (by decide) (Nat.le_of_ble_eq_true rfl) (lv := [(0, .ref (mo 0)), (1, .int (iI v))]) rfl ?_
  intro E hE hR hnm
  have hc := hM.1
  refine r_iload_n 1 hE 1 dX9_many__0 rfl rfl rfl ?_
  by_cases sw1 : (v : Int) = 0
  · skip
    refine r_tsIn 40 hE 0 dX9_many__1 (sw1) (by decide) rfl (by decide) ?_
    refine r_aload_n 41 hE 0 dX9_many__40 rfl rfl rfl ?_
    refine r_aload_n 42 hE 0 dX9_many__41 rfl rfl rfl ?_
    refine r_callV 45 hE [0, 3] [1, 2, 4] [(wMo g mo mst mac mmk mr mrd mrm mcm mtp msz mtk mbg men mls mvl mft mfp mfk mdp mto), (wMAll g mo al)] [(wMTab g mo kd on tw sg le de so), (wMRow g mo ro), (wMNew g mo nf)] 0 9 ok9 [.ref (mo 0)] (c_X9_many) dX9_many__42 rfl rfl wd_1217 wd_1219 ws_52 wd_12 wd_1220 ne_X9 np_X9_many (Nat.le_of_ble_eq_true rfl)  (by decide) (by decide) rfl (Nat.le_of_ble_eq_true rfl) rfl rfl rfl rfl (by decide) rfl (fun v1 f1 hp => ?_)
    obtain ⟨rfl, rfl⟩ := hp
    show G g E _ _ _ [(wMo g mo mst mac mmk mr mrd mrm mcm mtp msz mtk mbg men mls mvl mft mfp mfk mdp mto), (wMAll g mo al), (wMTab g mo kd on tw sg le de so), (wMRow g mo ro), (wMNew g mo nf)] 45 [(0, .ref (mo 0)), (1, .int (iI v))] [.int (iI (al 0)), .ref (mo 0)]
    refine r_callV 48 hE [0] [1, 2, 3, 4] [(wMo g mo mst mac mmk mr mrd mrm mcm mtp msz mtk mbg men mls mvl mft mfp mfk mdp mto)] [(wMAll g mo al), (wMTab g mo kd on tw sg le de so), (wMRow g mo ro), (wMNew g mo nf)] 0 9 ok9 [] (c_X9_gives) dX9_many__45 rfl rfl wd_1334 wd_1336 ws_79 wd_12 wd_1337 ne_X9 np_X9_gives (Nat.le_of_ble_eq_true rfl)  (by decide) (by decide) rfl (Nat.le_of_ble_eq_true rfl) rfl rfl rfl rfl (by decide) rfl (fun v1 f1 hp => ?_)
    obtain ⟨rfl, rfl⟩ := hp
    show G g E _ _ _ [(wMo g mo 0 mac mmk mr mrd mrm mcm mtp msz mtk mbg men mls mvl mft mfp mfk mdp mto), (wMAll g mo al), (wMTab g mo kd on tw sg le de so), (wMRow g mo ro), (wMNew g mo nf)] 48 [(0, .ref (mo 0)), (1, .int (iI v))] [.int (iI (al 0))]
    refine G.to (fs' := [(wMo g mo 0 mac mmk mr mrd mrm mcm mtp msz mtk mbg men mls mvl mft mfp mfk mdp mto), (wMTab g mo kd on tw sg le de so), (wMRow g mo ro), (wMAll g mo al), (wMNew g mo nf)]) [0, 2, 3, 1, 4] [0, 1] rfl rfl rfl ?_
    refine r_ireturn hE hR [(wMo g mo 0 mac mmk mr mrd mrm mcm mtp msz mtk mbg men mls mvl mft mfp mfk mdp mto), (wMTab g mo kd on tw sg le de so), (wMRow g mo ro), (wMAll g mo al), (wMNew g mo nf)] dX9_many__48 (Nat.le_of_ble_eq_true rfl) (Nat.le_of_ble_eq_true rfl) rfl ?_
    exact ⟨kd, on, tw, sg, le, de, so, mr, R, ro, mrd, mrm, _, _, rfl, rfl, Or.inl ⟨by omega, rfl, rfl⟩⟩
  have sw1_0 := sw1
  by_cases sw1 : (v : Int) = 1
  · skip
    refine r_tsIn 49 hE 1 dX9_many__1 (sw1) (by decide) rfl (by decide) ?_
    refine r_aload_n 50 hE 0 dX9_many__49 rfl rfl rfl ?_
    refine r_aload_n 51 hE 0 dX9_many__50 rfl rfl rfl ?_
    refine r_callV 54 hE [0, 1, 2, 3] [4] [(wMo g mo mst mac mmk mr mrd mrm mcm mtp msz mtk mbg men mls mvl mft mfp mfk mdp mto), (wMTab g mo kd on tw sg le de so), (wMRow g mo ro), (wMAll g mo al)] [(wMNew g mo nf)] 0 9 ok9 [.ref (mo 0)] (c_X9_allRules (R := R) (hM)) dX9_many__51 rfl rfl wd_1419 wd_1421 ws_87 wd_12 wd_1422 ne_X9 np_X9_allRules (Nat.le_of_ble_eq_true rfl)  (by decide) (by decide) rfl (Nat.le_of_ble_eq_true rfl) rfl rfl rfl rfl (by decide) rfl (fun v1 f1 hp => ?_)
    obtain ⟨kd9_51, on9_51, tw9_51, sg9_51, le9_51, de9_51, so9_51, mr9_51, R9_51, ro9_51, mrd9_51, mrm9_51, rfl, rfl, h51_0⟩ := hp
    show G g E _ _ _ [(wMo g mo mst mac mmk mr9_51 mrd9_51 mrm9_51 mcm mtp msz mtk mbg men mls mvl mft mfp mfk mdp mto), (wMTab g mo kd9_51 on9_51 tw9_51 sg9_51 le9_51 de9_51 so9_51), (wMRow g mo ro9_51), (wMAll g mo al), (wMNew g mo nf)] 54 [(0, .ref (mo 0)), (1, .int (iI v))] [.int (iI mr9_51), .ref (mo 0)]
    refine r_callV 57 hE [0] [1, 2, 3, 4] [(wMo g mo mst mac mmk mr9_51 mrd9_51 mrm9_51 mcm mtp msz mtk mbg men mls mvl mft mfp mfk mdp mto)] [(wMTab g mo kd9_51 on9_51 tw9_51 sg9_51 le9_51 de9_51 so9_51), (wMRow g mo ro9_51), (wMAll g mo al), (wMNew g mo nf)] 0 9 ok9 [] (c_X9_gives) dX9_many__54 rfl rfl wd_1334 wd_1336 ws_79 wd_12 wd_1337 ne_X9 np_X9_gives (Nat.le_of_ble_eq_true rfl)  (by decide) (by decide) rfl (Nat.le_of_ble_eq_true rfl) rfl rfl rfl rfl (by decide) rfl (fun v1 f1 hp => ?_)
    obtain ⟨rfl, rfl⟩ := hp
    show G g E _ _ _ [(wMo g mo 0 mac mmk mr9_51 mrd9_51 mrm9_51 mcm mtp msz mtk mbg men mls mvl mft mfp mfk mdp mto), (wMTab g mo kd9_51 on9_51 tw9_51 sg9_51 le9_51 de9_51 so9_51), (wMRow g mo ro9_51), (wMAll g mo al), (wMNew g mo nf)] 57 [(0, .ref (mo 0)), (1, .int (iI v))] [.int (iI mr9_51)]
    refine r_ireturn hE hR [(wMo g mo 0 mac mmk mr9_51 mrd9_51 mrm9_51 mcm mtp msz mtk mbg men mls mvl mft mfp mfk mdp mto), (wMTab g mo kd9_51 on9_51 tw9_51 sg9_51 le9_51 de9_51 so9_51), (wMRow g mo ro9_51), (wMAll g mo al), (wMNew g mo nf)] dX9_many__57 (Nat.le_of_ble_eq_true rfl) (Nat.le_of_ble_eq_true rfl) rfl ?_
    exact ⟨kd9_51, on9_51, tw9_51, sg9_51, le9_51, de9_51, so9_51, mr9_51, R9_51, ro9_51, mrd9_51, mrm9_51, _, _, rfl, rfl, Or.inr (Or.inl ⟨by omega, h51_0, rfl⟩)⟩
  have sw1_1 := sw1
  by_cases sw1 : (v : Int) = 2
  · skip
    refine r_tsIn 58 hE 2 dX9_many__1 (sw1) (by decide) rfl (by decide) ?_
    refine r_aload_n 59 hE 0 dX9_many__58 rfl rfl rfl ?_
    refine r_aload_n 60 hE 0 dX9_many__59 rfl rfl rfl ?_
    refine r_callV 63 hE [0, 3] [1, 2, 4] [(wMo g mo mst mac mmk mr mrd mrm mcm mtp msz mtk mbg men mls mvl mft mfp mfk mdp mto), (wMAll g mo al)] [(wMTab g mo kd on tw sg le de so), (wMRow g mo ro), (wMNew g mo nf)] 0 9 ok9 [.ref (mo 0)] (c_X9_letters (hM)) dX9_many__60 rfl rfl wd_1423 wd_1425 ws_88 wd_12 wd_1426 ne_X9 np_X9_letters (Nat.le_of_ble_eq_true rfl)  (by decide) (by decide) rfl (Nat.le_of_ble_eq_true rfl) rfl rfl rfl rfl (by decide) rfl (fun v1 f1 hp => ?_)
    obtain ⟨rfl, rfl⟩ := hp
    show G g E _ _ _ [(wMo g mo mst mac mmk mr mrd mrm mcm mtp msz mtk mbg men mls mvl mft mfp mfk mdp mto), (wMAll g mo al), (wMTab g mo kd on tw sg le de so), (wMRow g mo ro), (wMNew g mo nf)] 63 [(0, .ref (mo 0)), (1, .int (iI v))] [.int (iI (sumF (mN al) (al 0))), .ref (mo 0)]
    refine r_callV 66 hE [0] [1, 2, 3, 4] [(wMo g mo mst mac mmk mr mrd mrm mcm mtp msz mtk mbg men mls mvl mft mfp mfk mdp mto)] [(wMAll g mo al), (wMTab g mo kd on tw sg le de so), (wMRow g mo ro), (wMNew g mo nf)] 0 9 ok9 [] (c_X9_gives) dX9_many__63 rfl rfl wd_1334 wd_1336 ws_79 wd_12 wd_1337 ne_X9 np_X9_gives (Nat.le_of_ble_eq_true rfl)  (by decide) (by decide) rfl (Nat.le_of_ble_eq_true rfl) rfl rfl rfl rfl (by decide) rfl (fun v1 f1 hp => ?_)
    obtain ⟨rfl, rfl⟩ := hp
    show G g E _ _ _ [(wMo g mo 0 mac mmk mr mrd mrm mcm mtp msz mtk mbg men mls mvl mft mfp mfk mdp mto), (wMAll g mo al), (wMTab g mo kd on tw sg le de so), (wMRow g mo ro), (wMNew g mo nf)] 66 [(0, .ref (mo 0)), (1, .int (iI v))] [.int (iI (sumF (mN al) (al 0)))]
    refine G.to (fs' := [(wMo g mo 0 mac mmk mr mrd mrm mcm mtp msz mtk mbg men mls mvl mft mfp mfk mdp mto), (wMTab g mo kd on tw sg le de so), (wMRow g mo ro), (wMAll g mo al), (wMNew g mo nf)]) [0, 2, 3, 1, 4] [0, 1] rfl rfl rfl ?_
    refine r_ireturn hE hR [(wMo g mo 0 mac mmk mr mrd mrm mcm mtp msz mtk mbg men mls mvl mft mfp mfk mdp mto), (wMTab g mo kd on tw sg le de so), (wMRow g mo ro), (wMAll g mo al), (wMNew g mo nf)] dX9_many__66 (Nat.le_of_ble_eq_true rfl) (Nat.le_of_ble_eq_true rfl) rfl ?_
    exact ⟨kd, on, tw, sg, le, de, so, mr, R, ro, mrd, mrm, _, _, rfl, rfl, Or.inr (Or.inr (Or.inl ⟨by omega, rfl, rfl⟩))⟩
  have sw1_2 := sw1
  by_cases sw1 : (v : Int) = 3
  · skip
    refine r_tsIn 67 hE 3 dX9_many__1 (sw1) (by decide) rfl (by decide) ?_
    refine r_aload_n 68 hE 0 dX9_many__67 rfl rfl rfl ?_
    refine r_aload_n 69 hE 0 dX9_many__68 rfl rfl rfl ?_
    refine r_get 72 hE 0 0 ok9 3 dX9_many__69 rfl wd_1055 rfl rfl (by decide) rfl ?_
    refine r_callV 75 hE [0] [1, 2, 3, 4] [(wMo g mo mst mac mmk mr mrd mrm mcm mtp msz mtk mbg men mls mvl mft mfp mfk mdp mto)] [(wMTab g mo kd on tw sg le de so), (wMRow g mo ro), (wMAll g mo al), (wMNew g mo nf)] 0 9 ok9 [] (c_X9_gives) dX9_many__72 rfl rfl wd_1334 wd_1336 ws_79 wd_12 wd_1337 ne_X9 np_X9_gives (Nat.le_of_ble_eq_true rfl)  (by decide) (by decide) rfl (Nat.le_of_ble_eq_true rfl) rfl rfl rfl rfl (by decide) rfl (fun v1 f1 hp => ?_)
    obtain ⟨rfl, rfl⟩ := hp
    show G g E _ _ _ [(wMo g mo 0 mac mmk mr mrd mrm mcm mtp msz mtk mbg men mls mvl mft mfp mfk mdp mto), (wMTab g mo kd on tw sg le de so), (wMRow g mo ro), (wMAll g mo al), (wMNew g mo nf)] 75 [(0, .ref (mo 0)), (1, .int (iI v))] [.int (iI mac)]
    refine r_ireturn hE hR [(wMo g mo 0 mac mmk mr mrd mrm mcm mtp msz mtk mbg men mls mvl mft mfp mfk mdp mto), (wMTab g mo kd on tw sg le de so), (wMRow g mo ro), (wMAll g mo al), (wMNew g mo nf)] dX9_many__75 (Nat.le_of_ble_eq_true rfl) (Nat.le_of_ble_eq_true rfl) rfl ?_
    exact ⟨kd, on, tw, sg, le, de, so, mr, R, ro, mrd, mrm, _, _, rfl, rfl, Or.inr (Or.inr (Or.inr (Or.inl ⟨by omega, rfl, rfl⟩)))⟩
  have sw1_3 := sw1
  by_cases sw1 : (v : Int) = 4
  · skip
    refine r_tsIn 76 hE 4 dX9_many__1 (sw1) (by decide) rfl (by decide) ?_
    refine r_aload_n 77 hE 0 dX9_many__76 rfl rfl rfl ?_
    refine r_aload_n 78 hE 0 dX9_many__77 rfl rfl rfl ?_
    refine r_get 81 hE 0 0 ok9 4 dX9_many__78 rfl wd_1056 rfl rfl (by decide) rfl ?_
    refine r_callV 84 hE [0] [1, 2, 3, 4] [(wMo g mo mst mac mmk mr mrd mrm mcm mtp msz mtk mbg men mls mvl mft mfp mfk mdp mto)] [(wMTab g mo kd on tw sg le de so), (wMRow g mo ro), (wMAll g mo al), (wMNew g mo nf)] 0 9 ok9 [] (c_X9_gives) dX9_many__81 rfl rfl wd_1334 wd_1336 ws_79 wd_12 wd_1337 ne_X9 np_X9_gives (Nat.le_of_ble_eq_true rfl)  (by decide) (by decide) rfl (Nat.le_of_ble_eq_true rfl) rfl rfl rfl rfl (by decide) rfl (fun v1 f1 hp => ?_)
    obtain ⟨rfl, rfl⟩ := hp
    show G g E _ _ _ [(wMo g mo 0 mac mmk mr mrd mrm mcm mtp msz mtk mbg men mls mvl mft mfp mfk mdp mto), (wMTab g mo kd on tw sg le de so), (wMRow g mo ro), (wMAll g mo al), (wMNew g mo nf)] 84 [(0, .ref (mo 0)), (1, .int (iI v))] [.int (iI mmk)]
    refine r_ireturn hE hR [(wMo g mo 0 mac mmk mr mrd mrm mcm mtp msz mtk mbg men mls mvl mft mfp mfk mdp mto), (wMTab g mo kd on tw sg le de so), (wMRow g mo ro), (wMAll g mo al), (wMNew g mo nf)] dX9_many__84 (Nat.le_of_ble_eq_true rfl) (Nat.le_of_ble_eq_true rfl) rfl ?_
    exact ⟨kd, on, tw, sg, le, de, so, mr, R, ro, mrd, mrm, _, _, rfl, rfl, Or.inr (Or.inr (Or.inr (Or.inr (Or.inl ⟨by omega, rfl, rfl⟩))))⟩
  have sw1_4 := sw1
  by_cases sw1 : (v : Int) = 5
  · skip
    refine r_tsIn 85 hE 5 dX9_many__1 (sw1) (by decide) rfl (by decide) ?_
    refine r_aload_n 86 hE 0 dX9_many__85 rfl rfl rfl ?_
    refine r_aload_n 87 hE 0 dX9_many__86 rfl rfl rfl ?_
    refine r_get 90 hE 0 0 ok9 3 dX9_many__87 rfl wd_1055 rfl rfl (by decide) rfl ?_
    refine r_if_ne 93 97 hE dX9_many__90 rfl (by decide) (by omega) (fun c90 => ?_) (fun c90 => ?_)
    · skip
      refine r_aload_n 98 hE 0 dX9_many__97 rfl rfl rfl ?_
      refine r_get 101 hE 0 0 ok9 1 dX9_many__98 rfl wd_1053 rfl rfl (by decide) rfl ?_
      refine r_aload_n 102 hE 0 dX9_many__101 rfl rfl rfl ?_
      refine r_get 105 hE 0 0 ok9 3 dX9_many__102 rfl wd_1055 rfl rfl (by decide) rfl ?_
      refine r_iconst 106 hE dX9_many__105 rfl ?_
      refine r_isub 107 hE (mac - 1) dX9_many__106 rfl rfl ?_
      refine r_iald 108 hE 4 0 dX9_many__107 rfl rfl rfl (by omega) ?_
      refine r_callV 111 hE [0] [1, 2, 3, 4] [(wMo g mo mst mac mmk mr mrd mrm mcm mtp msz mtk mbg men mls mvl mft mfp mfk mdp mto)] [(wMTab g mo kd on tw sg le de so), (wMRow g mo ro), (wMAll g mo al), (wMNew g mo nf)] 0 9 ok9 [] (c_X9_gives) dX9_many__108 rfl rfl wd_1334 wd_1336 ws_79 wd_12 wd_1337 ne_X9 np_X9_gives (Nat.le_of_ble_eq_true rfl)  (by decide) (by decide) rfl (Nat.le_of_ble_eq_true rfl) rfl rfl rfl rfl (by decide) rfl (fun v1 f1 hp => ?_)
      obtain ⟨rfl, rfl⟩ := hp
      show G g E _ _ _ [(wMo g mo 0 mac mmk mr mrd mrm mcm mtp msz mtk mbg men mls mvl mft mfp mfk mdp mto), (wMTab g mo kd on tw sg le de so), (wMRow g mo ro), (wMAll g mo al), (wMNew g mo nf)] 111 [(0, .ref (mo 0)), (1, .int (iI v))] [.int (iI (nf (mac - 1)))]
      refine r_ireturn hE hR [(wMo g mo 0 mac mmk mr mrd mrm mcm mtp msz mtk mbg men mls mvl mft mfp mfk mdp mto), (wMTab g mo kd on tw sg le de so), (wMRow g mo ro), (wMAll g mo al), (wMNew g mo nf)] dX9_many__111 (Nat.le_of_ble_eq_true rfl) (Nat.le_of_ble_eq_true rfl) rfl ?_
      first
        | exact ⟨kd, on, tw, sg, le, de, so, mr, R, ro, mrd, mrm, _, _, rfl, rfl, Or.inr (Or.inr (Or.inr (Or.inr (Or.inr (Or.inl ⟨by omega, by rw [if_pos c90], rfl⟩)))))⟩
        | exact ⟨kd, on, tw, sg, le, de, so, mr, R, ro, mrd, mrm, _, _, rfl, rfl, Or.inr (Or.inr (Or.inr (Or.inr (Or.inr (Or.inl ⟨by omega, by rw [if_neg c90], rfl⟩)))))⟩
    · skip
      refine r_iconst 94 hE dX9_many__93 rfl ?_
      refine r_goto 108 hE dX9_many__94 (by decide) ?_
      refine r_callV 111 hE [0] [1, 2, 3, 4] [(wMo g mo mst mac mmk mr mrd mrm mcm mtp msz mtk mbg men mls mvl mft mfp mfk mdp mto)] [(wMTab g mo kd on tw sg le de so), (wMRow g mo ro), (wMAll g mo al), (wMNew g mo nf)] 0 9 ok9 [] (c_X9_gives) dX9_many__108 rfl rfl wd_1334 wd_1336 ws_79 wd_12 wd_1337 ne_X9 np_X9_gives (Nat.le_of_ble_eq_true rfl)  (by decide) (by decide) rfl (Nat.le_of_ble_eq_true rfl) rfl rfl rfl rfl (by decide) rfl (fun v1 f1 hp => ?_)
      obtain ⟨rfl, rfl⟩ := hp
      show G g E _ _ _ [(wMo g mo 0 mac mmk mr mrd mrm mcm mtp msz mtk mbg men mls mvl mft mfp mfk mdp mto), (wMTab g mo kd on tw sg le de so), (wMRow g mo ro), (wMAll g mo al), (wMNew g mo nf)] 111 [(0, .ref (mo 0)), (1, .int (iI v))] [.int (iI 0)]
      refine r_ireturn hE hR [(wMo g mo 0 mac mmk mr mrd mrm mcm mtp msz mtk mbg men mls mvl mft mfp mfk mdp mto), (wMTab g mo kd on tw sg le de so), (wMRow g mo ro), (wMAll g mo al), (wMNew g mo nf)] dX9_many__111 (Nat.le_of_ble_eq_true rfl) (Nat.le_of_ble_eq_true rfl) rfl ?_
      first
        | exact ⟨kd, on, tw, sg, le, de, so, mr, R, ro, mrd, mrm, _, _, rfl, rfl, Or.inr (Or.inr (Or.inr (Or.inr (Or.inr (Or.inl ⟨by omega, by rw [if_pos c90], rfl⟩)))))⟩
        | exact ⟨kd, on, tw, sg, le, de, so, mr, R, ro, mrd, mrm, _, _, rfl, rfl, Or.inr (Or.inr (Or.inr (Or.inr (Or.inr (Or.inl ⟨by omega, by rw [if_neg c90], rfl⟩)))))⟩
  have sw1_5 := sw1
  refine r_tsOut 112 hE dX9_many__1 (by omega) (by decide) ?_
  refine r_aload_n 113 hE 0 dX9_many__112 rfl rfl rfl ?_
  refine r_iconst 114 hE dX9_many__113 rfl ?_
  refine r_callV 117 hE [0] [1, 2, 3, 4] [(wMo g mo mst mac mmk mr mrd mrm mcm mtp msz mtk mbg men mls mvl mft mfp mfk mdp mto)] [(wMTab g mo kd on tw sg le de so), (wMRow g mo ro), (wMAll g mo al), (wMNew g mo nf)] 0 9 ok9 [] (c_X9_refuse) dX9_many__114 rfl rfl wd_1186 wd_1188 ws_47 wd_12 wd_1189 ne_X9 np_X9_refuse (Nat.le_of_ble_eq_true rfl)  (by decide) (by decide) rfl (Nat.le_of_ble_eq_true rfl) rfl rfl rfl rfl (by decide) rfl (fun v1 f1 hp => ?_)
  obtain ⟨rfl, rfl⟩ := hp
  show G g E _ _ _ [(wMo g mo 1 mac mmk mr mrd mrm mcm mtp msz mtk mbg men mls mvl mft mfp mfk mdp mto), (wMTab g mo kd on tw sg le de so), (wMRow g mo ro), (wMAll g mo al), (wMNew g mo nf)] 117 [(0, .ref (mo 0)), (1, .int (iI v))] [.int (iI (-1))]
  refine r_ireturn hE hR [(wMo g mo 1 mac mmk mr mrd mrm mcm mtp msz mtk mbg men mls mvl mft mfp mfk mdp mto), (wMTab g mo kd on tw sg le de so), (wMRow g mo ro), (wMAll g mo al), (wMNew g mo nf)] dX9_many__117 (Nat.le_of_ble_eq_true rfl) (Nat.le_of_ble_eq_true rfl) rfl ?_
  exact ⟨kd, on, tw, sg, le, de, so, mr, R, ro, mrd, mrm, _, _, rfl, rfl, Or.inr (Or.inr (Or.inr (Or.inr (Or.inr (Or.inr ⟨by omega, rfl, rfl⟩)))))⟩
set_option maxHeartbeats 4000000 in
set_option maxRecDepth 100000 in
theorem c_X9_against {g : Gm} {mo : Nat → Nat} {mst mac mmk mr mrd mrm mcm mtp msz mtk mbg men mls mvl mft mfp mfk mdp mto : Int} {al : Int → Int} {kd on tw sg le de so : Int → Int} {R : Int → Rl} {ro : Int → Int} {t u v : Int} (hM : MTx al) (hr_t : -2147483648 ≤ t ∧ t ≤ 2147483647) (hr_u : -2147483648 ≤ u ∧ u ≤ 2147483647) (hr_v : -2147483648 ≤ v ∧ v ≤ 2147483647) : Ct g 6 0 0 yX9_against cX9_against 5 (some .int) [.ref (mo 0), .int (iI t), .int (iI u), .int (iI v)] [(wMo g mo mst mac mmk mr mrd mrm mcm mtp msz mtk mbg men mls mvl mft mfp mfk mdp mto), (wMTab g mo kd on tw sg le de so), (wMRow g mo ro), (wMAll g mo al)] (fun v_ w_ => ∃ kd9 : Int → Int, ∃ on9 : Int → Int, ∃ tw9 : Int → Int, ∃ sg9 : Int → Int, ∃ le9 : Int → Int, ∃ de9 : Int → Int, ∃ so9 : Int → Int, ∃ mr9 : Int, ∃ R9 : Int → Rl, ∃ ro9 : Int → Int, ∃ mrd9 : Int, ∃ mrm9 : Int, ∃ r9 : Int, ∃ s9 : Int, v_ = some (.int (iI r9)) ∧ w_ = [(wMo g mo s9 mac mmk mr9 mrd9 mrm9 mcm mtp msz mtk mbg men mls mvl mft mfp mfk mdp mto), (wMTab g mo kd9 on9 tw9 sg9 le9 de9 so9), (wMRow g mo ro9), (wMAll g mo al)] ∧ (QAg (mF al) (mN al) (al 0) t u v r9 s9)) := by
  refine Ct.of (by decide) (Nat.le_of_ble_eq_true rfl) (lv := [(0, .ref (mo 0)), (1, .int (iI t)), (2, .int (iI u)), (3, .int (iI v))]) rfl ?_
  intro E hE hR hnm
  have hc := hM.1
  refine r_iload_n 1 hE 3 dX9_against_0 rfl rfl rfl ?_
  refine r_iconst 2 hE dX9_against_1 rfl ?_
  refine r_iconst 3 hE dX9_against_2 rfl ?_
  refine r_callS 6 hE [] [0, 1, 2, 3] [] [(wMo g mo mst mac mmk mr mrd mrm mcm mtp msz mtk mbg men mls mvl mft mfp mfk mdp mto), (wMTab g mo kd on tw sg le de so), (wMRow g mo ro), (wMAll g mo al)] [] (c_X9_isFrom (by omega) (by omega) (by omega)) dX9_against_3 rfl wd_1183 wd_1184 wd_12 wd_1185 ne_X9 np_X9_isFrom (Nat.le_of_ble_eq_true rfl)  (by decide) (by decide) rfl (Nat.le_of_ble_eq_true rfl) rfl rfl rfl rfl (by decide) (fun v1 f1 hp => ?_)
  obtain ⟨rfl, rfl⟩ := hp
  show G g E _ _ _ [(wMo g mo mst mac mmk mr mrd mrm mcm mtp msz mtk mbg men mls mvl mft mfp mfk mdp mto), (wMTab g mo kd on tw sg le de so), (wMRow g mo ro), (wMAll g mo al)] 6 [(0, .ref (mo 0)), (1, .int (iI t)), (2, .int (iI u)), (3, .int (iI v))] [.int (iI (bI (0 ≤ v ∧ v ≤ 3)))]
  refine r_if_ne 9 15 hE dX9_against_6 rfl (by decide) (bI_rg _) (fun c6 => ?_) (fun c6 => ?_)
  · skip
    have c6 := bI1 c6
    refine r_aload_n 16 hE 0 dX9_against_15 rfl rfl rfl ?_
    refine r_iload_n 17 hE 1 dX9_against_16 rfl rfl rfl ?_
    refine r_callV 20 hE [0, 3] [1, 2] [(wMo g mo mst mac mmk mr mrd mrm mcm mtp msz mtk mbg men mls mvl mft mfp mfk mdp mto), (wMAll g mo al)] [(wMTab g mo kd on tw sg le de so), (wMRow g mo ro)] 0 9 ok9 [] (c_X9_isText (by omega) (by omega)) dX9_against_17 rfl rfl wd_1346 wd_1348 ws_80 wd_12 wd_1349 ne_X9 np_X9_isText (Nat.le_of_ble_eq_true rfl)  (by decide) (by decide) rfl (Nat.le_of_ble_eq_true rfl) rfl rfl rfl rfl (by decide) rfl (fun v1 f1 hp => ?_)
    obtain ⟨rfl, rfl⟩ := hp
    show G g E _ _ _ [(wMo g mo mst mac mmk mr mrd mrm mcm mtp msz mtk mbg men mls mvl mft mfp mfk mdp mto), (wMAll g mo al), (wMTab g mo kd on tw sg le de so), (wMRow g mo ro)] 20 [(0, .ref (mo 0)), (1, .int (iI t)), (2, .int (iI u)), (3, .int (iI v))] [.int (iI (bI (0 ≤ t ∧ t < al 0)))]
    refine r_if_eq 23 31 hE dX9_against_20 rfl (by decide) (bI_rg _) (fun c20 => ?_) (fun c20 => ?_)
    · skip
      have c20 := bI0 c20
      refine r_aload_n 32 hE 0 dX9_against_31 rfl rfl rfl ?_
      refine r_iconst 33 hE dX9_against_32 rfl ?_
      refine r_callV 36 hE [0] [1, 2, 3] [(wMo g mo mst mac mmk mr mrd mrm mcm mtp msz mtk mbg men mls mvl mft mfp mfk mdp mto)] [(wMAll g mo al), (wMTab g mo kd on tw sg le de so), (wMRow g mo ro)] 0 9 ok9 [] (c_X9_refuse) dX9_against_33 rfl rfl wd_1186 wd_1188 ws_47 wd_12 wd_1189 ne_X9 np_X9_refuse (Nat.le_of_ble_eq_true rfl)  (by decide) (by decide) rfl (Nat.le_of_ble_eq_true rfl) rfl rfl rfl rfl (by decide) rfl (fun v1 f1 hp => ?_)
      obtain ⟨rfl, rfl⟩ := hp
      show G g E _ _ _ [(wMo g mo 2 mac mmk mr mrd mrm mcm mtp msz mtk mbg men mls mvl mft mfp mfk mdp mto), (wMAll g mo al), (wMTab g mo kd on tw sg le de so), (wMRow g mo ro)] 36 [(0, .ref (mo 0)), (1, .int (iI t)), (2, .int (iI u)), (3, .int (iI v))] [.int (iI (-1))]
      refine G.to (fs' := [(wMo g mo 2 mac mmk mr mrd mrm mcm mtp msz mtk mbg men mls mvl mft mfp mfk mdp mto), (wMTab g mo kd on tw sg le de so), (wMRow g mo ro), (wMAll g mo al)]) [0, 2, 3, 1] [0, 1, 2, 3] rfl rfl rfl ?_
      refine r_ireturn hE hR [(wMo g mo 2 mac mmk mr mrd mrm mcm mtp msz mtk mbg men mls mvl mft mfp mfk mdp mto), (wMTab g mo kd on tw sg le de so), (wMRow g mo ro), (wMAll g mo al)] dX9_against_36 (Nat.le_of_ble_eq_true rfl) (Nat.le_of_ble_eq_true rfl) rfl ?_
      exact ⟨kd, on, tw, sg, le, de, so, mr, R, ro, mrd, mrm, _, _, rfl, rfl, Or.inr (Or.inl ⟨by omega, by unfold HasT; omega, rfl, rfl⟩)⟩
    · skip
      have c20 := bI1 c20
      have hl_t := hM.2 t c20.1 c20.2
      refine r_aload_n 24 hE 0 dX9_against_23 rfl rfl rfl ?_
      refine r_iload_n 25 hE 2 dX9_against_24 rfl rfl rfl ?_
      refine r_callV 28 hE [0, 1] [2, 3] [(wMo g mo mst mac mmk mr mrd mrm mcm mtp msz mtk mbg men mls mvl mft mfp mfk mdp mto), (wMAll g mo al)] [(wMTab g mo kd on tw sg le de so), (wMRow g mo ro)] 0 9 ok9 [] (c_X9_isText (by omega) (by omega)) dX9_against_25 rfl rfl wd_1346 wd_1348 ws_80 wd_12 wd_1349 ne_X9 np_X9_isText (Nat.le_of_ble_eq_true rfl)  (by decide) (by decide) rfl (Nat.le_of_ble_eq_true rfl) rfl rfl rfl rfl (by decide) rfl (fun v1 f1 hp => ?_)
      obtain ⟨rfl, rfl⟩ := hp
      show G g E _ _ _ [(wMo g mo mst mac mmk mr mrd mrm mcm mtp msz mtk mbg men mls mvl mft mfp mfk mdp mto), (wMAll g mo al), (wMTab g mo kd on tw sg le de so), (wMRow g mo ro)] 28 [(0, .ref (mo 0)), (1, .int (iI t)), (2, .int (iI u)), (3, .int (iI v))] [.int (iI (bI (0 ≤ u ∧ u < al 0)))]
      refine r_if_ne 31 37 hE dX9_against_28 rfl (by decide) (bI_rg _) (fun c28 => ?_) (fun c28 => ?_)
      · skip
        have c28 := bI1 c28
        have hl_u := hM.2 u c28.1 c28.2
        refine r_aload_n 38 hE 0 dX9_against_37 rfl rfl rfl ?_
        refine r_iload_n 39 hE 1 dX9_against_38 rfl rfl rfl ?_
        refine r_iload_n 40 hE 2 dX9_against_39 rfl rfl rfl ?_
        refine r_callV 43 hE [0, 1] [2, 3] [(wMo g mo mst mac mmk mr mrd mrm mcm mtp msz mtk mbg men mls mvl mft mfp mfk mdp mto), (wMAll g mo al)] [(wMTab g mo kd on tw sg le de so), (wMRow g mo ro)] 0 9 ok9 [] (c_X9_isSame (hM) (by omega) (by omega)) dX9_against_40 rfl rfl wd_1481 wd_1483 ws_95 wd_12 wd_1484 ne_X9 np_X9_isSame (Nat.le_of_ble_eq_true rfl)  (by decide) (by decide) rfl (Nat.le_of_ble_eq_true rfl) rfl rfl rfl rfl (by decide) rfl (fun v1 f1 hp => ?_)
        obtain ⟨rfl, rfl⟩ := hp
        show G g E _ _ _ [(wMo g mo mst mac mmk mr mrd mrm mcm mtp msz mtk mbg men mls mvl mft mfp mfk mdp mto), (wMAll g mo al), (wMTab g mo kd on tw sg le de so), (wMRow g mo ro)] 43 [(0, .ref (mo 0)), (1, .int (iI t)), (2, .int (iI u)), (3, .int (iI v))] [.int (iI (bI (cmpT (mF al t) (mN al t) (mF al u) (mN al u) = 0)))]
        have hcr := cmpT_rg (mF al t) (mN al t) (mF al u) (mN al u)
        refine r_istore 45 hE [(4, .int (iI (bI (cmpT (mF al t) (mN al t) (mF al u) (mN al u) = 0)))), (0, .ref (mo 0)), (1, .int (iI t)), (2, .int (iI u)), (3, .int (iI v))] dX9_against_43 rfl (by decide) rfl ?_
        refine r_iload_n 46 hE 4 dX9_against_45 rfl rfl rfl ?_
        by_cases sw46 : (v : Int) = 0
        · skip
          refine r_tsIn 72 hE 0 dX9_against_46 (sw46) (by decide) rfl (by decide) ?_
          refine r_aload_n 73 hE 1 dX9_against_72 rfl rfl rfl ?_
          refine r_iload 75 hE 0 dX9_against_73 rfl rfl ?_
          refine r_if_eq 78 82 hE dX9_against_75 rfl (by decide) (bI_rg _) (fun c75 => ?_) (fun c75 => ?_)
          · skip
            have c75 := bI0 c75
            refine r_aload_n 83 hE 1 dX9_against_82 rfl rfl rfl ?_
            refine r_iload_n 84 hE 2 dX9_against_83 rfl rfl rfl ?_
            refine r_iconst 85 hE dX9_against_84 rfl ?_
            refine r_iload_n 86 hE 3 dX9_against_85 rfl rfl rfl ?_
            refine r_iconst 87 hE dX9_against_86 rfl ?_
            refine r_callV 90 hE [0, 1] [2, 3] [(wMo g mo mst mac mmk mr mrd mrm mcm mtp msz mtk mbg men mls mvl mft mfp mfk mdp mto), (wMAll g mo al)] [(wMTab g mo kd on tw sg le de so), (wMRow g mo ro)] 0 9 ok9 [.ref (mo 0)] (c_X9_same (hM) (by omega) (by omega) (by omega) (by omega)) dX9_against_87 rfl rfl wd_1473 wd_1475 ws_94 wd_12 wd_1476 ne_X9 np_X9_same (Nat.le_of_ble_eq_true rfl)  (by decide) (by decide) rfl (Nat.le_of_ble_eq_true rfl) rfl rfl rfl rfl (by decide) rfl (fun v1 f1 hp => ?_)
            obtain ⟨r_87, rfl, rfl, h87_0⟩ := hp
            show G g E _ _ _ [(wMo g mo mst mac mmk mr mrd mrm mcm mtp msz mtk mbg men mls mvl mft mfp mfk mdp mto), (wMAll g mo al), (wMTab g mo kd on tw sg le de so), (wMRow g mo ro)] 90 [(4, .int (iI (bI (cmpT (mF al t) (mN al t) (mF al u) (mN al u) = 0)))), (0, .ref (mo 0)), (1, .int (iI t)), (2, .int (iI u)), (3, .int (iI v))] [.int (iI r_87), .ref (mo 0)]
            refine r_callV 93 hE [0] [1, 2, 3] [(wMo g mo mst mac mmk mr mrd mrm mcm mtp msz mtk mbg men mls mvl mft mfp mfk mdp mto)] [(wMAll g mo al), (wMTab g mo kd on tw sg le de so), (wMRow g mo ro)] 0 9 ok9 [] (c_X9_gives) dX9_against_90 rfl rfl wd_1334 wd_1336 ws_79 wd_12 wd_1337 ne_X9 np_X9_gives (Nat.le_of_ble_eq_true rfl)  (by decide) (by decide) rfl (Nat.le_of_ble_eq_true rfl) rfl rfl rfl rfl (by decide) rfl (fun v1 f1 hp => ?_)
            obtain ⟨rfl, rfl⟩ := hp
            show G g E _ _ _ [(wMo g mo 0 mac mmk mr mrd mrm mcm mtp msz mtk mbg men mls mvl mft mfp mfk mdp mto), (wMAll g mo al), (wMTab g mo kd on tw sg le de so), (wMRow g mo ro)] 93 [(4, .int (iI (bI (cmpT (mF al t) (mN al t) (mF al u) (mN al u) = 0)))), (0, .ref (mo 0)), (1, .int (iI t)), (2, .int (iI u)), (3, .int (iI v))] [.int (iI r_87)]
            refine G.to (fs' := [(wMo g mo 0 mac mmk mr mrd mrm mcm mtp msz mtk mbg men mls mvl mft mfp mfk mdp mto), (wMTab g mo kd on tw sg le de so), (wMRow g mo ro), (wMAll g mo al)]) [0, 2, 3, 1] [0, 1, 2, 3, 4] rfl rfl rfl ?_
            refine r_ireturn hE hR [(wMo g mo 0 mac mmk mr mrd mrm mcm mtp msz mtk mbg men mls mvl mft mfp mfk mdp mto), (wMTab g mo kd on tw sg le de so), (wMRow g mo ro), (wMAll g mo al)] dX9_against_93 (Nat.le_of_ble_eq_true rfl) (Nat.le_of_ble_eq_true rfl) rfl ?_
            first
              | exact ⟨kd, on, tw, sg, le, de, so, mr, R, ro, mrd, mrm, _, _, rfl, rfl, Or.inr (Or.inr ⟨by omega, ⟨c20, c28⟩, Or.inl ⟨by omega, by rw [if_pos c75]⟩, rfl⟩)⟩
              | exact ⟨kd, on, tw, sg, le, de, so, mr, R, ro, mrd, mrm, _, _, rfl, rfl, Or.inr (Or.inr ⟨by omega, ⟨c20, c28⟩, Or.inl ⟨by omega, by rw [if_neg c75]; exact (lcp0 h87_0).eq⟩, rfl⟩)⟩
          · skip
            have c75 := bI1 c75
            refine r_iconst 79 hE dX9_against_78 rfl ?_
            refine r_goto 90 hE dX9_against_79 (by decide) ?_
            refine r_callV 93 hE [0] [1, 2, 3] [(wMo g mo mst mac mmk mr mrd mrm mcm mtp msz mtk mbg men mls mvl mft mfp mfk mdp mto)] [(wMAll g mo al), (wMTab g mo kd on tw sg le de so), (wMRow g mo ro)] 0 9 ok9 [] (c_X9_gives) dX9_against_90 rfl rfl wd_1334 wd_1336 ws_79 wd_12 wd_1337 ne_X9 np_X9_gives (Nat.le_of_ble_eq_true rfl)  (by decide) (by decide) rfl (Nat.le_of_ble_eq_true rfl) rfl rfl rfl rfl (by decide) rfl (fun v1 f1 hp => ?_)
            obtain ⟨rfl, rfl⟩ := hp
            show G g E _ _ _ [(wMo g mo 0 mac mmk mr mrd mrm mcm mtp msz mtk mbg men mls mvl mft mfp mfk mdp mto), (wMAll g mo al), (wMTab g mo kd on tw sg le de so), (wMRow g mo ro)] 93 [(4, .int (iI (bI (cmpT (mF al t) (mN al t) (mF al u) (mN al u) = 0)))), (0, .ref (mo 0)), (1, .int (iI t)), (2, .int (iI u)), (3, .int (iI v))] [.int (iI (-1))]
            refine G.to (fs' := [(wMo g mo 0 mac mmk mr mrd mrm mcm mtp msz mtk mbg men mls mvl mft mfp mfk mdp mto), (wMTab g mo kd on tw sg le de so), (wMRow g mo ro), (wMAll g mo al)]) [0, 2, 3, 1] [0, 1, 2, 3, 4] rfl rfl rfl ?_
            refine r_ireturn hE hR [(wMo g mo 0 mac mmk mr mrd mrm mcm mtp msz mtk mbg men mls mvl mft mfp mfk mdp mto), (wMTab g mo kd on tw sg le de so), (wMRow g mo ro), (wMAll g mo al)] dX9_against_93 (Nat.le_of_ble_eq_true rfl) (Nat.le_of_ble_eq_true rfl) rfl ?_
            first
              | exact ⟨kd, on, tw, sg, le, de, so, mr, R, ro, mrd, mrm, _, _, rfl, rfl, Or.inr (Or.inr ⟨by omega, ⟨c20, c28⟩, Or.inl ⟨by omega, by rw [if_pos c75]⟩, rfl⟩)⟩
              | exact ⟨kd, on, tw, sg, le, de, so, mr, R, ro, mrd, mrm, _, _, rfl, rfl, Or.inr (Or.inr ⟨by omega, ⟨c20, c28⟩, Or.inl ⟨by omega, by rw [if_neg c75]; exact (lcp0 h87_0).eq⟩, rfl⟩)⟩
        have sw46_0 := sw46
        by_cases sw46 : (v : Int) = 1
        · skip
          refine r_tsIn 94 hE 1 dX9_against_46 (sw46) (by decide) rfl (by decide) ?_
          refine r_aload_n 95 hE 1 dX9_against_94 rfl rfl rfl ?_
          refine r_iload 97 hE 0 dX9_against_95 rfl rfl ?_
          refine r_if_eq 100 104 hE dX9_against_97 rfl (by decide) (bI_rg _) (fun c97 => ?_) (fun c97 => ?_)
          · skip
            have c97 := bI0 c97
            refine r_aload_n 105 hE 1 dX9_against_104 rfl rfl rfl ?_
            refine r_iload_n 106 hE 2 dX9_against_105 rfl rfl rfl ?_
            refine r_iload_n 107 hE 3 dX9_against_106 rfl rfl rfl ?_
            refine r_callV 110 hE [0, 1] [2, 3] [(wMo g mo mst mac mmk mr mrd mrm mcm mtp msz mtk mbg men mls mvl mft mfp mfk mdp mto), (wMAll g mo al)] [(wMTab g mo kd on tw sg le de so), (wMRow g mo ro)] 0 9 ok9 [.ref (mo 0)] (c_X9_isAhead (hM) (by omega) (by omega)) dX9_against_107 rfl rfl wd_1485 wd_1487 ws_96 wd_12 wd_1488 ne_X9 np_X9_isAhead (Nat.le_of_ble_eq_true rfl)  (by decide) (by decide) rfl (Nat.le_of_ble_eq_true rfl) rfl rfl rfl rfl (by decide) rfl (fun v1 f1 hp => ?_)
            obtain ⟨rfl, rfl⟩ := hp
            show G g E _ _ _ [(wMo g mo mst mac mmk mr mrd mrm mcm mtp msz mtk mbg men mls mvl mft mfp mfk mdp mto), (wMAll g mo al), (wMTab g mo kd on tw sg le de so), (wMRow g mo ro)] 110 [(4, .int (iI (bI (cmpT (mF al t) (mN al t) (mF al u) (mN al u) = 0)))), (0, .ref (mo 0)), (1, .int (iI t)), (2, .int (iI u)), (3, .int (iI v))] [.int (iI (bI (cmpT (mF al t) (mN al t) (mF al u) (mN al u) < 0))), .ref (mo 0)]
            refine r_if_eq 113 117 hE dX9_against_110 rfl (by decide) (bI_rg _) (fun c110 => ?_) (fun c110 => ?_)
            · skip
              have c110 := bI0 c110
              refine r_iconst 118 hE dX9_against_117 rfl ?_
              refine r_callV 121 hE [0] [1, 2, 3] [(wMo g mo mst mac mmk mr mrd mrm mcm mtp msz mtk mbg men mls mvl mft mfp mfk mdp mto)] [(wMAll g mo al), (wMTab g mo kd on tw sg le de so), (wMRow g mo ro)] 0 9 ok9 [] (c_X9_gives) dX9_against_118 rfl rfl wd_1334 wd_1336 ws_79 wd_12 wd_1337 ne_X9 np_X9_gives (Nat.le_of_ble_eq_true rfl)  (by decide) (by decide) rfl (Nat.le_of_ble_eq_true rfl) rfl rfl rfl rfl (by decide) rfl (fun v1 f1 hp => ?_)
              obtain ⟨rfl, rfl⟩ := hp
              show G g E _ _ _ [(wMo g mo 0 mac mmk mr mrd mrm mcm mtp msz mtk mbg men mls mvl mft mfp mfk mdp mto), (wMAll g mo al), (wMTab g mo kd on tw sg le de so), (wMRow g mo ro)] 121 [(4, .int (iI (bI (cmpT (mF al t) (mN al t) (mF al u) (mN al u) = 0)))), (0, .ref (mo 0)), (1, .int (iI t)), (2, .int (iI u)), (3, .int (iI v))] [.int (iI 2)]
              refine G.to (fs' := [(wMo g mo 0 mac mmk mr mrd mrm mcm mtp msz mtk mbg men mls mvl mft mfp mfk mdp mto), (wMTab g mo kd on tw sg le de so), (wMRow g mo ro), (wMAll g mo al)]) [0, 2, 3, 1] [0, 1, 2, 3, 4] rfl rfl rfl ?_
              refine r_ireturn hE hR [(wMo g mo 0 mac mmk mr mrd mrm mcm mtp msz mtk mbg men mls mvl mft mfp mfk mdp mto), (wMTab g mo kd on tw sg le de so), (wMRow g mo ro), (wMAll g mo al)] dX9_against_121 (Nat.le_of_ble_eq_true rfl) (Nat.le_of_ble_eq_true rfl) rfl ?_
              first
                | exact ⟨kd, on, tw, sg, le, de, so, mr, R, ro, mrd, mrm, _, _, rfl, rfl, Or.inr (Or.inr ⟨by omega, ⟨c20, c28⟩, Or.inr (Or.inl ⟨by omega, by have hz := c97; rw [if_neg (by omega), if_neg (by omega)]⟩), rfl⟩)⟩
                | exact ⟨kd, on, tw, sg, le, de, so, mr, R, ro, mrd, mrm, _, _, rfl, rfl, Or.inr (Or.inr ⟨by omega, ⟨c20, c28⟩, Or.inr (Or.inl ⟨by omega, by rw [if_pos c110]⟩), rfl⟩)⟩
                | exact ⟨kd, on, tw, sg, le, de, so, mr, R, ro, mrd, mrm, _, _, rfl, rfl, Or.inr (Or.inr ⟨by omega, ⟨c20, c28⟩, Or.inr (Or.inl ⟨by omega, by have hz := c97; rw [if_neg c110, if_pos (by omega)]⟩), rfl⟩)⟩
            · skip
              have c110 := bI1 c110
              refine r_iconst 114 hE dX9_against_113 rfl ?_
              refine r_goto 118 hE dX9_against_114 (by decide) ?_
              refine r_callV 121 hE [0] [1, 2, 3] [(wMo g mo mst mac mmk mr mrd mrm mcm mtp msz mtk mbg men mls mvl mft mfp mfk mdp mto)] [(wMAll g mo al), (wMTab g mo kd on tw sg le de so), (wMRow g mo ro)] 0 9 ok9 [] (c_X9_gives) dX9_against_118 rfl rfl wd_1334 wd_1336 ws_79 wd_12 wd_1337 ne_X9 np_X9_gives (Nat.le_of_ble_eq_true rfl)  (by decide) (by decide) rfl (Nat.le_of_ble_eq_true rfl) rfl rfl rfl rfl (by decide) rfl (fun v1 f1 hp => ?_)
              obtain ⟨rfl, rfl⟩ := hp
              show G g E _ _ _ [(wMo g mo 0 mac mmk mr mrd mrm mcm mtp msz mtk mbg men mls mvl mft mfp mfk mdp mto), (wMAll g mo al), (wMTab g mo kd on tw sg le de so), (wMRow g mo ro)] 121 [(4, .int (iI (bI (cmpT (mF al t) (mN al t) (mF al u) (mN al u) = 0)))), (0, .ref (mo 0)), (1, .int (iI t)), (2, .int (iI u)), (3, .int (iI v))] [.int (iI 1)]
              refine G.to (fs' := [(wMo g mo 0 mac mmk mr mrd mrm mcm mtp msz mtk mbg men mls mvl mft mfp mfk mdp mto), (wMTab g mo kd on tw sg le de so), (wMRow g mo ro), (wMAll g mo al)]) [0, 2, 3, 1] [0, 1, 2, 3, 4] rfl rfl rfl ?_
              refine r_ireturn hE hR [(wMo g mo 0 mac mmk mr mrd mrm mcm mtp msz mtk mbg men mls mvl mft mfp mfk mdp mto), (wMTab g mo kd on tw sg le de so), (wMRow g mo ro), (wMAll g mo al)] dX9_against_121 (Nat.le_of_ble_eq_true rfl) (Nat.le_of_ble_eq_true rfl) rfl ?_
              first
                | exact ⟨kd, on, tw, sg, le, de, so, mr, R, ro, mrd, mrm, _, _, rfl, rfl, Or.inr (Or.inr ⟨by omega, ⟨c20, c28⟩, Or.inr (Or.inl ⟨by omega, by have hz := c97; rw [if_neg (by omega), if_neg (by omega)]⟩), rfl⟩)⟩
                | exact ⟨kd, on, tw, sg, le, de, so, mr, R, ro, mrd, mrm, _, _, rfl, rfl, Or.inr (Or.inr ⟨by omega, ⟨c20, c28⟩, Or.inr (Or.inl ⟨by omega, by rw [if_pos c110]⟩), rfl⟩)⟩
                | exact ⟨kd, on, tw, sg, le, de, so, mr, R, ro, mrd, mrm, _, _, rfl, rfl, Or.inr (Or.inr ⟨by omega, ⟨c20, c28⟩, Or.inr (Or.inl ⟨by omega, by have hz := c97; rw [if_neg c110, if_pos (by omega)]⟩), rfl⟩)⟩
          · skip
            have c97 := bI1 c97
            refine r_iconst 101 hE dX9_against_100 rfl ?_
            refine r_goto 118 hE dX9_against_101 (by decide) ?_
            refine r_callV 121 hE [0] [1, 2, 3] [(wMo g mo mst mac mmk mr mrd mrm mcm mtp msz mtk mbg men mls mvl mft mfp mfk mdp mto)] [(wMAll g mo al), (wMTab g mo kd on tw sg le de so), (wMRow g mo ro)] 0 9 ok9 [] (c_X9_gives) dX9_against_118 rfl rfl wd_1334 wd_1336 ws_79 wd_12 wd_1337 ne_X9 np_X9_gives (Nat.le_of_ble_eq_true rfl)  (by decide) (by decide) rfl (Nat.le_of_ble_eq_true rfl) rfl rfl rfl rfl (by decide) rfl (fun v1 f1 hp => ?_)
            obtain ⟨rfl, rfl⟩ := hp
            show G g E _ _ _ [(wMo g mo 0 mac mmk mr mrd mrm mcm mtp msz mtk mbg men mls mvl mft mfp mfk mdp mto), (wMAll g mo al), (wMTab g mo kd on tw sg le de so), (wMRow g mo ro)] 121 [(4, .int (iI (bI (cmpT (mF al t) (mN al t) (mF al u) (mN al u) = 0)))), (0, .ref (mo 0)), (1, .int (iI t)), (2, .int (iI u)), (3, .int (iI v))] [.int (iI 0)]
            refine G.to (fs' := [(wMo g mo 0 mac mmk mr mrd mrm mcm mtp msz mtk mbg men mls mvl mft mfp mfk mdp mto), (wMTab g mo kd on tw sg le de so), (wMRow g mo ro), (wMAll g mo al)]) [0, 2, 3, 1] [0, 1, 2, 3, 4] rfl rfl rfl ?_
            refine r_ireturn hE hR [(wMo g mo 0 mac mmk mr mrd mrm mcm mtp msz mtk mbg men mls mvl mft mfp mfk mdp mto), (wMTab g mo kd on tw sg le de so), (wMRow g mo ro), (wMAll g mo al)] dX9_against_121 (Nat.le_of_ble_eq_true rfl) (Nat.le_of_ble_eq_true rfl) rfl ?_
            first
              | exact ⟨kd, on, tw, sg, le, de, so, mr, R, ro, mrd, mrm, _, _, rfl, rfl, Or.inr (Or.inr ⟨by omega, ⟨c20, c28⟩, Or.inr (Or.inl ⟨by omega, by have hz := c97; rw [if_neg (by omega), if_neg (by omega)]⟩), rfl⟩)⟩
              | exact ⟨kd, on, tw, sg, le, de, so, mr, R, ro, mrd, mrm, _, _, rfl, rfl, Or.inr (Or.inr ⟨by omega, ⟨c20, c28⟩, Or.inr (Or.inl ⟨by omega, by rw [if_pos c110]⟩), rfl⟩)⟩
              | exact ⟨kd, on, tw, sg, le, de, so, mr, R, ro, mrd, mrm, _, _, rfl, rfl, Or.inr (Or.inr ⟨by omega, ⟨c20, c28⟩, Or.inr (Or.inl ⟨by omega, by have hz := c97; rw [if_neg c110, if_pos (by omega)]⟩), rfl⟩)⟩
        have sw46_1 := sw46
        by_cases sw46 : (v : Int) = 2
        · skip
          refine r_tsIn 122 hE 2 dX9_against_46 (sw46) (by decide) rfl (by decide) ?_
          refine r_aload_n 123 hE 1 dX9_against_122 rfl rfl rfl ?_
          refine r_aload_n 124 hE 1 dX9_against_123 rfl rfl rfl ?_
          refine r_iload_n 125 hE 2 dX9_against_124 rfl rfl rfl ?_
          refine r_iload_n 126 hE 3 dX9_against_125 rfl rfl rfl ?_
          refine r_callV 129 hE [0, 2, 3, 1] [] [(wMo g mo mst mac mmk mr mrd mrm mcm mtp msz mtk mbg men mls mvl mft mfp mfk mdp mto), (wMTab g mo kd on tw sg le de so), (wMRow g mo ro), (wMAll g mo al)] [] 0 9 ok9 [.ref (mo 0)] (c_X9_shared (R := R) (hM) (by omega) (by omega)) dX9_against_126 rfl rfl wd_1489 wd_1491 ws_97 wd_12 wd_1492 ne_X9 np_X9_shared (Nat.le_of_ble_eq_true rfl)  (by decide) (by decide) rfl (Nat.le_of_ble_eq_true rfl) rfl rfl rfl rfl (by decide) rfl (fun v1 f1 hp => ?_)
          obtain ⟨kd9_126, on9_126, tw9_126, sg9_126, le9_126, de9_126, so9_126, mr9_126, R9_126, ro9_126, mrd9_126, mrm9_126, r9_126, rfl, rfl, h126_0⟩ := hp
          show G g E _ _ _ [(wMo g mo mst mac mmk mr9_126 mrd9_126 mrm9_126 mcm mtp msz mtk mbg men mls mvl mft mfp mfk mdp mto), (wMTab g mo kd9_126 on9_126 tw9_126 sg9_126 le9_126 de9_126 so9_126), (wMRow g mo ro9_126), (wMAll g mo al)] 129 [(4, .int (iI (bI (cmpT (mF al t) (mN al t) (mF al u) (mN al u) = 0)))), (0, .ref (mo 0)), (1, .int (iI t)), (2, .int (iI u)), (3, .int (iI v))] [.int (iI r9_126), .ref (mo 0)]
          refine r_callV 132 hE [0] [1, 2, 3] [(wMo g mo mst mac mmk mr9_126 mrd9_126 mrm9_126 mcm mtp msz mtk mbg men mls mvl mft mfp mfk mdp mto)] [(wMTab g mo kd9_126 on9_126 tw9_126 sg9_126 le9_126 de9_126 so9_126), (wMRow g mo ro9_126), (wMAll g mo al)] 0 9 ok9 [] (c_X9_gives) dX9_against_129 rfl rfl wd_1334 wd_1336 ws_79 wd_12 wd_1337 ne_X9 np_X9_gives (Nat.le_of_ble_eq_true rfl)  (by decide) (by decide) rfl (Nat.le_of_ble_eq_true rfl) rfl rfl rfl rfl (by decide) rfl (fun v1 f1 hp => ?_)
          obtain ⟨rfl, rfl⟩ := hp
          show G g E _ _ _ [(wMo g mo 0 mac mmk mr9_126 mrd9_126 mrm9_126 mcm mtp msz mtk mbg men mls mvl mft mfp mfk mdp mto), (wMTab g mo kd9_126 on9_126 tw9_126 sg9_126 le9_126 de9_126 so9_126), (wMRow g mo ro9_126), (wMAll g mo al)] 132 [(4, .int (iI (bI (cmpT (mF al t) (mN al t) (mF al u) (mN al u) = 0)))), (0, .ref (mo 0)), (1, .int (iI t)), (2, .int (iI u)), (3, .int (iI v))] [.int (iI r9_126)]
          refine r_ireturn hE hR [(wMo g mo 0 mac mmk mr9_126 mrd9_126 mrm9_126 mcm mtp msz mtk mbg men mls mvl mft mfp mfk mdp mto), (wMTab g mo kd9_126 on9_126 tw9_126 sg9_126 le9_126 de9_126 so9_126), (wMRow g mo ro9_126), (wMAll g mo al)] dX9_against_132 (Nat.le_of_ble_eq_true rfl) (Nat.le_of_ble_eq_true rfl) rfl ?_
          exact ⟨kd9_126, on9_126, tw9_126, sg9_126, le9_126, de9_126, so9_126, mr9_126, R9_126, ro9_126, mrd9_126, mrm9_126, _, _, rfl, rfl, Or.inr (Or.inr ⟨by omega, ⟨c20, c28⟩, Or.inr (Or.inr (Or.inl ⟨by omega, h126_0⟩)), rfl⟩)⟩
        have sw46_2 := sw46
        refine r_tsOut 133 hE dX9_against_46 (by omega) (by decide) ?_
        refine r_aload_n 134 hE 1 dX9_against_133 rfl rfl rfl ?_
        refine r_iload 136 hE 0 dX9_against_134 rfl rfl ?_
        refine r_if_eq 139 143 hE dX9_against_136 rfl (by decide) (bI_rg _) (fun c136 => ?_) (fun c136 => ?_)
        · skip
          have c136 := bI0 c136
          refine r_iconst 144 hE dX9_against_143 rfl ?_
          refine r_callV 147 hE [0] [1, 2, 3] [(wMo g mo mst mac mmk mr mrd mrm mcm mtp msz mtk mbg men mls mvl mft mfp mfk mdp mto)] [(wMAll g mo al), (wMTab g mo kd on tw sg le de so), (wMRow g mo ro)] 0 9 ok9 [] (c_X9_gives) dX9_against_144 rfl rfl wd_1334 wd_1336 ws_79 wd_12 wd_1337 ne_X9 np_X9_gives (Nat.le_of_ble_eq_true rfl)  (by decide) (by decide) rfl (Nat.le_of_ble_eq_true rfl) rfl rfl rfl rfl (by decide) rfl (fun v1 f1 hp => ?_)
          obtain ⟨rfl, rfl⟩ := hp
          show G g E _ _ _ [(wMo g mo 0 mac mmk mr mrd mrm mcm mtp msz mtk mbg men mls mvl mft mfp mfk mdp mto), (wMAll g mo al), (wMTab g mo kd on tw sg le de so), (wMRow g mo ro)] 147 [(4, .int (iI (bI (cmpT (mF al t) (mN al t) (mF al u) (mN al u) = 0)))), (0, .ref (mo 0)), (1, .int (iI t)), (2, .int (iI u)), (3, .int (iI v))] [.int (iI 0)]
          refine G.to (fs' := [(wMo g mo 0 mac mmk mr mrd mrm mcm mtp msz mtk mbg men mls mvl mft mfp mfk mdp mto), (wMTab g mo kd on tw sg le de so), (wMRow g mo ro), (wMAll g mo al)]) [0, 2, 3, 1] [0, 1, 2, 3, 4] rfl rfl rfl ?_
          refine r_ireturn hE hR [(wMo g mo 0 mac mmk mr mrd mrm mcm mtp msz mtk mbg men mls mvl mft mfp mfk mdp mto), (wMTab g mo kd on tw sg le de so), (wMRow g mo ro), (wMAll g mo al)] dX9_against_147 (Nat.le_of_ble_eq_true rfl) (Nat.le_of_ble_eq_true rfl) rfl ?_
          first
            | exact ⟨kd, on, tw, sg, le, de, so, mr, R, ro, mrd, mrm, _, _, rfl, rfl, Or.inr (Or.inr ⟨by omega, ⟨c20, c28⟩, Or.inr (Or.inr (Or.inr (⟨by omega, by rw [if_pos c136]⟩))), rfl⟩)⟩
            | exact ⟨kd, on, tw, sg, le, de, so, mr, R, ro, mrd, mrm, _, _, rfl, rfl, Or.inr (Or.inr ⟨by omega, ⟨c20, c28⟩, Or.inr (Or.inr (Or.inr (⟨by omega, by rw [if_neg c136]⟩))), rfl⟩)⟩
        · skip
          have c136 := bI1 c136
          refine r_iconst 140 hE dX9_against_139 rfl ?_
          refine r_goto 144 hE dX9_against_140 (by decide) ?_
          refine r_callV 147 hE [0] [1, 2, 3] [(wMo g mo mst mac mmk mr mrd mrm mcm mtp msz mtk mbg men mls mvl mft mfp mfk mdp mto)] [(wMAll g mo al), (wMTab g mo kd on tw sg le de so), (wMRow g mo ro)] 0 9 ok9 [] (c_X9_gives) dX9_against_144 rfl rfl wd_1334 wd_1336 ws_79 wd_12 wd_1337 ne_X9 np_X9_gives (Nat.le_of_ble_eq_true rfl)  (by decide) (by decide) rfl (Nat.le_of_ble_eq_true rfl) rfl rfl rfl rfl (by decide) rfl (fun v1 f1 hp => ?_)
          obtain ⟨rfl, rfl⟩ := hp
          show G g E _ _ _ [(wMo g mo 0 mac mmk mr mrd mrm mcm mtp msz mtk mbg men mls mvl mft mfp mfk mdp mto), (wMAll g mo al), (wMTab g mo kd on tw sg le de so), (wMRow g mo ro)] 147 [(4, .int (iI (bI (cmpT (mF al t) (mN al t) (mF al u) (mN al u) = 0)))), (0, .ref (mo 0)), (1, .int (iI t)), (2, .int (iI u)), (3, .int (iI v))] [.int (iI 1)]
          refine G.to (fs' := [(wMo g mo 0 mac mmk mr mrd mrm mcm mtp msz mtk mbg men mls mvl mft mfp mfk mdp mto), (wMTab g mo kd on tw sg le de so), (wMRow g mo ro), (wMAll g mo al)]) [0, 2, 3, 1] [0, 1, 2, 3, 4] rfl rfl rfl ?_
          refine r_ireturn hE hR [(wMo g mo 0 mac mmk mr mrd mrm mcm mtp msz mtk mbg men mls mvl mft mfp mfk mdp mto), (wMTab g mo kd on tw sg le de so), (wMRow g mo ro), (wMAll g mo al)] dX9_against_147 (Nat.le_of_ble_eq_true rfl) (Nat.le_of_ble_eq_true rfl) rfl ?_
          first
            | exact ⟨kd, on, tw, sg, le, de, so, mr, R, ro, mrd, mrm, _, _, rfl, rfl, Or.inr (Or.inr ⟨by omega, ⟨c20, c28⟩, Or.inr (Or.inr (Or.inr (⟨by omega, by rw [if_pos c136]⟩))), rfl⟩)⟩
            | exact ⟨kd, on, tw, sg, le, de, so, mr, R, ro, mrd, mrm, _, _, rfl, rfl, Or.inr (Or.inr ⟨by omega, ⟨c20, c28⟩, Or.inr (Or.inr (Or.inr (⟨by omega, by rw [if_neg c136]⟩))), rfl⟩)⟩
      · skip
        have c28 := bI0 c28
        refine r_aload_n 32 hE 0 dX9_against_31 rfl rfl rfl ?_
        refine r_iconst 33 hE dX9_against_32 rfl ?_
        refine r_callV 36 hE [0] [1, 2, 3] [(wMo g mo mst mac mmk mr mrd mrm mcm mtp msz mtk mbg men mls mvl mft mfp mfk mdp mto)] [(wMAll g mo al), (wMTab g mo kd on tw sg le de so), (wMRow g mo ro)] 0 9 ok9 [] (c_X9_refuse) dX9_against_33 rfl rfl wd_1186 wd_1188 ws_47 wd_12 wd_1189 ne_X9 np_X9_refuse (Nat.le_of_ble_eq_true rfl)  (by decide) (by decide) rfl (Nat.le_of_ble_eq_true rfl) rfl rfl rfl rfl (by decide) rfl (fun v1 f1 hp => ?_)
        obtain ⟨rfl, rfl⟩ := hp
        show G g E _ _ _ [(wMo g mo 2 mac mmk mr mrd mrm mcm mtp msz mtk mbg men mls mvl mft mfp mfk mdp mto), (wMAll g mo al), (wMTab g mo kd on tw sg le de so), (wMRow g mo ro)] 36 [(0, .ref (mo 0)), (1, .int (iI t)), (2, .int (iI u)), (3, .int (iI v))] [.int (iI (-1))]
        refine G.to (fs' := [(wMo g mo 2 mac mmk mr mrd mrm mcm mtp msz mtk mbg men mls mvl mft mfp mfk mdp mto), (wMTab g mo kd on tw sg le de so), (wMRow g mo ro), (wMAll g mo al)]) [0, 2, 3, 1] [0, 1, 2, 3] rfl rfl rfl ?_
        refine r_ireturn hE hR [(wMo g mo 2 mac mmk mr mrd mrm mcm mtp msz mtk mbg men mls mvl mft mfp mfk mdp mto), (wMTab g mo kd on tw sg le de so), (wMRow g mo ro), (wMAll g mo al)] dX9_against_36 (Nat.le_of_ble_eq_true rfl) (Nat.le_of_ble_eq_true rfl) rfl ?_
        exact ⟨kd, on, tw, sg, le, de, so, mr, R, ro, mrd, mrm, _, _, rfl, rfl, Or.inr (Or.inl ⟨by omega, by unfold HasT; omega, rfl, rfl⟩)⟩
  · skip
    have c6 := bI0 c6
    refine r_aload_n 10 hE 0 dX9_against_9 rfl rfl rfl ?_
    refine r_iconst 11 hE dX9_against_10 rfl ?_
    refine r_callV 14 hE [0] [1, 2, 3] [(wMo g mo mst mac mmk mr mrd mrm mcm mtp msz mtk mbg men mls mvl mft mfp mfk mdp mto)] [(wMTab g mo kd on tw sg le de so), (wMRow g mo ro), (wMAll g mo al)] 0 9 ok9 [] (c_X9_refuse) dX9_against_11 rfl rfl wd_1186 wd_1188 ws_47 wd_12 wd_1189 ne_X9 np_X9_refuse (Nat.le_of_ble_eq_true rfl)  (by decide) (by decide) rfl (Nat.le_of_ble_eq_true rfl) rfl rfl rfl rfl (by decide) rfl (fun v1 f1 hp => ?_)
    obtain ⟨rfl, rfl⟩ := hp
    show G g E _ _ _ [(wMo g mo 1 mac mmk mr mrd mrm mcm mtp msz mtk mbg men mls mvl mft mfp mfk mdp mto), (wMTab g mo kd on tw sg le de so), (wMRow g mo ro), (wMAll g mo al)] 14 [(0, .ref (mo 0)), (1, .int (iI t)), (2, .int (iI u)), (3, .int (iI v))] [.int (iI (-1))]
    refine r_ireturn hE hR [(wMo g mo 1 mac mmk mr mrd mrm mcm mtp msz mtk mbg men mls mvl mft mfp mfk mdp mto), (wMTab g mo kd on tw sg le de so), (wMRow g mo ro), (wMAll g mo al)] dX9_against_14 (Nat.le_of_ble_eq_true rfl) (Nat.le_of_ble_eq_true rfl) rfl ?_
    exact ⟨kd, on, tw, sg, le, de, so, mr, R, ro, mrd, mrm, _, _, rfl, rfl, Or.inl ⟨by omega, rfl, rfl⟩⟩
