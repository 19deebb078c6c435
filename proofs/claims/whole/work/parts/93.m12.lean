set_option maxHeartbeats 4000000 in
set_option maxRecDepth 100000 in
theorem c_X9_counts {g : Gm} {mo : Nat → Nat} {mst mac mmk mr mrd mrm mcm mtp msz mtk mbg men mls mvl mft mfp mfk mdp mto : Int} {kd on tw sg le de so : Int → Int} {R : Int → Rl} {cm nu fa oft : Int → Int} {t : Int} (hT : MT kd on tw sg le de so mr R) (hNV : NV R mr (vis (R t) 0 []) nu fa cm mcm) (htt : 0 ≤ t ∧ t < mr) (hof : ∀ i, 0 ≤ i → i < mr → oft i = 0) (hmc : 0 ≤ mcm ∧ mcm ≤ 1199) : Ct g 0 0 0 yX9_counts cX9_counts 5 none [.ref (mo 0), .int (iI t)] [(wMo g mo mst mac mmk mr mrd mrm mcm mtp msz mtk mbg men mls mvl mft mfp mfk mdp mto), (wMTab g mo kd on tw sg le de so), (wMCom g mo cm), (wMNum g mo nu fa oft)] (fun v_ w_ => ∃ of9 : Int → Int, v_ = none ∧ w_ = [(wMo g mo mst mac mmk mr mrd mrm mcm mtp msz mtk mbg men mls mvl mft mfp mfk mdp mto), (wMTab g mo kd on tw sg le de so), (wMCom g mo cm), (wMNum g mo nu fa of9)] ∧ (∀ a, 0 ≤ a → a < mcm → of9 (cm a) = occ (R (cm a)) (R t))) := by
  refine Ct.of (by decide) (Nat.le_of_ble_eq_true rfl) (lv := [(0, .ref (mo 0)), (1, .int (iI t))]) rfl ?_
  intro E hE hR hnm
  have hcn := hT.1
  have hcb := hNV.cb hT
  have htr := hT.2.1 t htt.1 htt.2
  have htg := htr.rg (by omega)
  have hcl := ClosedV.nil.vis (R t) 0
  obtain ⟨x0, hx0, ex0⟩ := hNV.pos htt hT.2.2.1 (vis_closed (R t) 0 []).2.1
  have hmax : ∀ a, 0 ≤ a → a < mcm → le (cm a) ≤ le t := fun a a0 a1 => by
    have h9 := hNV.2.2.1 a a0 a1
    rw [(hcb.1 a a0 a1).2, htr.2.2.1]
    refine Sub.len htr.2.2.2.2.1 ?_
    rcases vis_in (⟨_, List.mem_of_getElem? h9.2⟩ : InV (vis (R t) 0 []) (R (cm a))) with z | z
    · obtain ⟨p, hp⟩ := z; simp at hp
    · exact z
  have hst0 : CI R cm le (up oft t 1) mcm (le t) 0 (R t) := CI.start hcb hx0 ex0 hmax (fun a a0 a1 ne => by have h9 := (hNV.2.2.1 a a0 a1).1; rw [up_ne _ _ (fun e => ne (hcb.2 a x0 a0 a1 hx0.1 hx0.2 (by rw [e, ex0])))]; exact hof _ h9.1 h9.2) (up_same _ _ _)
  have cut14 : ∀ (N : Nat) (l : Int) (of9 : Int → Int), (1 ≤ l ∧ l ≤ 600) → (CI R cm le of9 mcm l 0 (R t)) → (l).toNat < N → G g E 5 0 0 [(wMo g mo mst mac mmk mr mrd mrm mcm mtp msz mtk mbg men mls mvl mft mfp mfk mdp mto), (wMTab g mo kd on tw sg le de so), (wMCom g mo cm), (wMNum g mo nu fa of9)] 14 [(0, .ref (mo 0)), (1, .int (iI t)), (2, .int (iI l))] [] := by
    intro N
    induction N with
    | zero => intro l of9 _ _ hN; exact absurd hN (Nat.not_lt_zero _)
    | succ N ih14 =>
      intro l of9 hl hci hN
      have cut21 : ∀ (N : Nat) (k : Int) (of8 : Int → Int), (1 < l) → (0 ≤ k ∧ k ≤ mcm) → (CI R cm le of8 mcm l k (R t)) → (mcm - k).toNat < N → G g E 5 0 0 [(wMo g mo mst mac mmk mr mrd mrm mcm mtp msz mtk mbg men mls mvl mft mfp mfk mdp mto), (wMTab g mo kd on tw sg le de so), (wMCom g mo cm), (wMNum g mo nu fa of8)] 21 [(0, .ref (mo 0)), (1, .int (iI t)), (2, .int (iI l)), (3, .int (iI k))] [] := by
        intro N
        induction N with
        | zero => intro k of8 _ _ _ hN; exact absurd hN (Nat.not_lt_zero _)
        | succ N ih21 =>
          intro k of8 hl1 hk hci8 hN
          refine r_iload_n 22 hE 3 dX9_counts_21 rfl rfl rfl ?_
          refine r_aload_n 23 hE 0 dX9_counts_22 rfl rfl rfl ?_
          refine r_get 26 hE 0 0 ok9 22 dX9_counts_23 rfl wd_1074 rfl rfl (by decide) rfl ?_
          refine r_icmp_ge 29 135 hE dX9_counts_26 rfl (by decide) (by omega) (fun c26 => ?_) (fun c26 => ?_)
          · skip
            have hdn : CI R cm le of8 mcm (l + -1) 0 (R t) := hci8.down (by omega)
            refine r_iinc 138 hE 2 (l + (-1)) [(2, .int (iI (l + (-1)))), (0, .ref (mo 0)), (1, .int (iI t)), (3, .int (iI k))] dX9_counts_135 rfl rfl rfl (by decide) rfl ?_
            refine r_goto 14 hE dX9_counts_138 (by decide) ?_
            refine G.to (fs' := [(wMo g mo mst mac mmk mr mrd mrm mcm mtp msz mtk mbg men mls mvl mft mfp mfk mdp mto), (wMTab g mo kd on tw sg le de so), (wMCom g mo cm), (wMNum g mo nu fa of8)]) (lv' := [(0, .ref (mo 0)), (1, .int (iI t)), (2, .int (iI (l + (-1))))]) [0, 1, 2, 3] [1, 2, 0] rfl rfl rfl ?_
            exact ih14 (l + (-1)) of8 (by omega) (by first | exact hst0 | exact hdn) (by omega)
          · skip
            have hck := hNV.2.2.1 k hk.1 (by omega)
            have hxr := hT.2.1 _ hck.1.1 hck.1.2
            have hxg := hxr.rg (by omega)
            have hpi := hcl _ (⟨_, List.mem_of_getElem? hck.2⟩ : InV (vis (R t) 0 []) (R (cm k)))
            have hkd := hxr.1
            refine r_aload_n 30 hE 0 dX9_counts_29 rfl rfl rfl ?_
            refine r_get 33 hE 0 0 ok9 16 dX9_counts_30 rfl wd_1068 rfl rfl (by decide) rfl ?_
            refine r_iload_n 34 hE 3 dX9_counts_33 rfl rfl rfl ?_
            refine r_iald 35 hE 2 0 dX9_counts_34 rfl rfl rfl (by omega) ?_
            refine r_istore 37 hE [(4, .int (iI (cm k))), (0, .ref (mo 0)), (1, .int (iI t)), (2, .int (iI l)), (3, .int (iI k))] dX9_counts_35 rfl (by decide) rfl ?_
            refine r_aload_n 38 hE 1 dX9_counts_37 rfl rfl rfl ?_
            refine r_get 41 hE 0 0 ok9 9 dX9_counts_38 rfl wd_1061 rfl rfl (by decide) rfl ?_
            refine r_iload 43 hE 0 dX9_counts_41 rfl rfl ?_
            refine r_iald 44 hE 1 4 dX9_counts_43 rfl rfl rfl (by omega) ?_
            refine r_iload_n 45 hE 3 dX9_counts_44 rfl rfl rfl ?_
            refine r_icmp_eq 48 51 hE dX9_counts_45 rfl (by decide) (by omega) (fun c45 => ?_) (fun c45 => ?_)
            · skip
              have hnl : kd (cm k) ≠ 0 := fun z => by have h9 := hxr.2.2.1; rw [(hxr.let z).1] at h9; have h8 : le (cm k) = 1 := h9; omega
              refine r_aload_n 52 hE 1 dX9_counts_51 rfl rfl rfl ?_
              refine r_get 55 hE 0 0 ok9 19 dX9_counts_52 rfl wd_1071 rfl rfl (by decide) rfl ?_
              refine r_aload_n 56 hE 1 dX9_counts_55 rfl rfl rfl ?_
              refine r_get 59 hE 0 0 ok9 6 dX9_counts_56 rfl wd_1058 rfl rfl (by decide) rfl ?_
              refine r_iload 61 hE 0 dX9_counts_59 rfl rfl ?_
              refine r_iald 62 hE 1 1 dX9_counts_61 rfl rfl rfl (by omega) ?_
              refine r_dup2 63 hE dX9_counts_62 rfl rfl rfl ?_
              refine r_iald 64 hE 3 2 dX9_counts_63 rfl rfl rfl (by omega) ?_
              refine r_aload_n 65 hE 1 dX9_counts_64 rfl rfl rfl ?_
              refine r_get 68 hE 0 0 ok9 19 dX9_counts_65 rfl wd_1071 rfl rfl (by decide) rfl ?_
              refine r_iload 70 hE 0 dX9_counts_68 rfl rfl ?_
              refine r_iald 71 hE 3 2 dX9_counts_70 rfl rfl rfl (by omega) ?_
              refine r_aload_n 72 hE 1 dX9_counts_71 rfl rfl rfl ?_
              refine r_get 75 hE 0 0 ok9 5 dX9_counts_72 rfl wd_1057 rfl rfl (by decide) rfl ?_
              refine r_iload 77 hE 0 dX9_counts_75 rfl rfl ?_
              refine r_iald 78 hE 1 0 dX9_counts_77 rfl rfl rfl (by omega) ?_
              refine r_iconst 79 hE dX9_counts_78 rfl ?_
              refine r_icmp_ne 82 92 hE dX9_counts_79 rfl (by decide) (by omega) (fun c79 => ?_) (fun c79 => ?_)
              · skip
                refine r_iconst 93 hE dX9_counts_92 rfl ?_
                refine r_imul 94 hE ((of8 (cm k)) * 1) dX9_counts_93 rfl rfl ?_
                refine r_iadd 95 hE ((of8 (on (cm k))) + ((of8 (cm k)) * 1)) dX9_counts_94 rfl rfl ?_
                refine r_iast 96 hE 3 2 (wMNum g mo nu fa (up of8 (on (cm k)) ((of8 (on (cm k))) + ((of8 (cm k)) * 1)))) [(wMo g mo mst mac mmk mr mrd mrm mcm mtp msz mtk mbg men mls mvl mft mfp mfk mdp mto), (wMTab g mo kd on tw sg le de so), (wMCom g mo cm), (wMNum g mo nu fa (up of8 (on (cm k)) ((of8 (on (cm k))) + ((of8 (cm k)) * 1))))] dX9_counts_95 rfl rfl rfl (by omega) rfl rfl ?_
                refine r_aload_n 97 hE 1 dX9_counts_96 rfl rfl rfl ?_
                refine r_get 100 hE 0 0 ok9 5 dX9_counts_97 rfl wd_1057 rfl rfl (by decide) rfl ?_
                refine r_iload 102 hE 0 dX9_counts_100 rfl rfl ?_
                refine r_iald 103 hE 1 0 dX9_counts_102 rfl rfl rfl (by omega) ?_
                refine r_iconst 104 hE dX9_counts_103 rfl ?_
                refine r_icmp_ne 107 129 hE dX9_counts_104 rfl (by decide) (by omega) (fun c104 => ?_) (fun c104 => ?_)
                · skip
                  refine r_iinc 132 hE 4 (k + 1) [(3, .int (iI (k + 1))), (4, .int (iI (cm k))), (0, .ref (mo 0)), (1, .int (iI t)), (2, .int (iI l))] dX9_counts_129 rfl rfl rfl (by decide) rfl ?_
                  refine r_goto 21 hE dX9_counts_132 (by decide) ?_
                  refine G.to (fs' := [(wMo g mo mst mac mmk mr mrd mrm mcm mtp msz mtk mbg men mls mvl mft mfp mfk mdp mto), (wMTab g mo kd on tw sg le de so), (wMCom g mo cm), (wMNum g mo nu fa (up of8 (on (cm k)) ((of8 (on (cm k))) + ((of8 (cm k)) * 1))))]) (lv' := [(0, .ref (mo 0)), (1, .int (iI t)), (2, .int (iI l)), (3, .int (iI (k + 1)))]) [0, 1, 2, 3] [2, 3, 4, 0] rfl rfl rfl ?_
                  exact ih21 (k + 1) (up of8 (on (cm k)) ((of8 (on (cm k))) + ((of8 (cm k)) * 1))) (by omega) (by omega) (by first | exact hci | exact hsk | exact hrn | exact hpr | (exfalso; omega)) (by omega)
                · skip
                  have hPair := hxr.pair c104
                  have hpi2 := hpi
                  rw [hPair.1] at hpi2
                  obtain ⟨a1, ha1, ea1⟩ := hNV.pos (x := on (cm k)) (by omega) hT.2.2.1 hpi2.1
                  obtain ⟨a2, ha2, ea2⟩ := hNV.pos (x := tw (cm k)) (by omega) hT.2.2.1 hpi2.2
                  have hlo1 := (hT.2.1 (on (cm k)) (by omega) (by omega)).2.2.1
                  have hlo2 := (hT.2.1 (tw (cm k)) (by omega) (by omega)).2.2.1
                  have hll : le (on (cm k)) < l ∧ le (tw (cm k)) < l := by
                    have h9 := hxr.2.2.1
                    rw [hPair.1] at h9
                    have h6 : le (cm k) = rlen (R (on (cm k))) + rlen (R (tw (cm k))) := h9
                    have h8 := rlen_pos (hT.wf (i := on (cm k)) (by omega))
                    have h7 := rlen_pos (hT.wf (i := tw (cm k)) (by omega))
                    omega
                  have hpr : CI R cm le (up (up of8 (on (cm k)) (of8 (on (cm k)) + of8 (cm k) * 1)) (tw (cm k)) ((up of8 (on (cm k)) (of8 (on (cm k)) + of8 (cm k) * 1)) (tw (cm k)) + (up of8 (on (cm k)) (of8 (on (cm k)) + of8 (cm k) * 1)) (cm k))) mcm l (k + 1) (R t) := by
                    refine hci8.step (a1 := a1) (a2 := a2) (d1 := of8 (cm k)) (d2 := of8 (cm k)) hcb ⟨hk.1, by omega⟩ c45 ha1 ha2 (by rw [ea1]; exact hll.1) (by rw [ea2]; exact hll.2) (fun j j0 j1 => ?_) (fun w hw => ?_)
                    · rw [up_ne (i := on (cm k)) (j := cm k) _ _ (by omega)]
                      by_cases q2 : j = a2
                      · rw [if_pos q2, q2, ea2, up_same]
                        by_cases q1 : a2 = a1
                        · rw [if_pos q1, ← ea2, q1, ea1, up_same]; omega
                        · rw [if_neg q1, up_ne _ _ (fun e => q1 (hcb.2 a2 a1 ha2.1 ha2.2 ha1.1 ha1.2 (by rw [ea2, ea1, e])))]; omega
                      · rw [if_neg q2, up_ne _ _ (fun e => q2 (hcb.2 j a2 j0 j1 ha2.1 ha2.2 (by rw [e, ea2])))]
                        by_cases q1 : j = a1
                        · rw [if_pos q1, q1, ea1, up_same]; omega
                        · rw [if_neg q1, up_ne _ _ (fun e => q1 (hcb.2 j a1 j0 j1 ha1.1 ha1.2 (by rw [e, ea1])))]; omega
                    · rw [hPair.1] at hw ⊢
                      rw [occ_pair hw, ea1, ea2, Int.mul_add]
                  refine r_aload_n 108 hE 1 dX9_counts_107 rfl rfl rfl ?_
                  refine r_get 111 hE 0 0 ok9 19 dX9_counts_108 rfl wd_1071 rfl rfl (by decide) rfl ?_
                  refine r_aload_n 112 hE 1 dX9_counts_111 rfl rfl rfl ?_
                  refine r_get 115 hE 0 0 ok9 7 dX9_counts_112 rfl wd_1059 rfl rfl (by decide) rfl ?_
                  refine r_iload 117 hE 0 dX9_counts_115 rfl rfl ?_
                  refine r_iald 118 hE 1 2 dX9_counts_117 rfl rfl rfl (by omega) ?_
                  refine r_dup2 119 hE dX9_counts_118 rfl rfl rfl ?_
                  refine r_iald 120 hE 3 2 dX9_counts_119 rfl rfl rfl (by omega) ?_
                  refine r_aload_n 121 hE 1 dX9_counts_120 rfl rfl rfl ?_
                  refine r_get 124 hE 0 0 ok9 19 dX9_counts_121 rfl wd_1071 rfl rfl (by decide) rfl ?_
                  refine r_iload 126 hE 0 dX9_counts_124 rfl rfl ?_
                  refine r_iald 127 hE 3 2 dX9_counts_126 rfl rfl rfl (by omega) ?_
                  refine r_iadd 128 hE (((up of8 (on (cm k)) ((of8 (on (cm k))) + ((of8 (cm k)) * 1))) (tw (cm k))) + ((up of8 (on (cm k)) ((of8 (on (cm k))) + ((of8 (cm k)) * 1))) (cm k))) dX9_counts_127 rfl rfl ?_
                  refine r_iast 129 hE 3 2 (wMNum g mo nu fa (up (up of8 (on (cm k)) ((of8 (on (cm k))) + ((of8 (cm k)) * 1))) (tw (cm k)) (((up of8 (on (cm k)) ((of8 (on (cm k))) + ((of8 (cm k)) * 1))) (tw (cm k))) + ((up of8 (on (cm k)) ((of8 (on (cm k))) + ((of8 (cm k)) * 1))) (cm k))))) [(wMo g mo mst mac mmk mr mrd mrm mcm mtp msz mtk mbg men mls mvl mft mfp mfk mdp mto), (wMTab g mo kd on tw sg le de so), (wMCom g mo cm), (wMNum g mo nu fa (up (up of8 (on (cm k)) ((of8 (on (cm k))) + ((of8 (cm k)) * 1))) (tw (cm k)) (((up of8 (on (cm k)) ((of8 (on (cm k))) + ((of8 (cm k)) * 1))) (tw (cm k))) + ((up of8 (on (cm k)) ((of8 (on (cm k))) + ((of8 (cm k)) * 1))) (cm k)))))] dX9_counts_128 rfl rfl rfl (by omega) rfl rfl ?_
                  refine r_iinc 132 hE 4 (k + 1) [(3, .int (iI (k + 1))), (4, .int (iI (cm k))), (0, .ref (mo 0)), (1, .int (iI t)), (2, .int (iI l))] dX9_counts_129 rfl rfl rfl (by decide) rfl ?_
                  refine r_goto 21 hE dX9_counts_132 (by decide) ?_
                  refine G.to (fs' := [(wMo g mo mst mac mmk mr mrd mrm mcm mtp msz mtk mbg men mls mvl mft mfp mfk mdp mto), (wMTab g mo kd on tw sg le de so), (wMCom g mo cm), (wMNum g mo nu fa (up (up of8 (on (cm k)) ((of8 (on (cm k))) + ((of8 (cm k)) * 1))) (tw (cm k)) (((up of8 (on (cm k)) ((of8 (on (cm k))) + ((of8 (cm k)) * 1))) (tw (cm k))) + ((up of8 (on (cm k)) ((of8 (on (cm k))) + ((of8 (cm k)) * 1))) (cm k)))))]) (lv' := [(0, .ref (mo 0)), (1, .int (iI t)), (2, .int (iI l)), (3, .int (iI (k + 1)))]) [0, 1, 2, 3] [2, 3, 4, 0] rfl rfl rfl ?_
                  exact ih21 (k + 1) (up (up of8 (on (cm k)) ((of8 (on (cm k))) + ((of8 (cm k)) * 1))) (tw (cm k)) (((up of8 (on (cm k)) ((of8 (on (cm k))) + ((of8 (cm k)) * 1))) (tw (cm k))) + ((up of8 (on (cm k)) ((of8 (on (cm k))) + ((of8 (cm k)) * 1))) (cm k)))) (by omega) (by omega) (by first | exact hci | exact hsk | exact hrn | exact hpr | (exfalso; omega)) (by omega)
              · skip
                have hRun := hxr.run (by omega) (by omega)
                have hpi1 := hpi
                rw [hRun.1] at hpi1
                obtain ⟨a1, ha1, ea1⟩ := hNV.pos (x := on (cm k)) (by omega) hT.2.2.1 hpi1
                have hlo := (hT.2.1 (on (cm k)) (by omega) (by omega)).2.2.1
                have hll : le (on (cm k)) < l := by
                  have h9 := hxr.2.2.1
                  rw [hRun.1, rlen_run' (by omega)] at h9
                  have h8 := rlen_pos (hT.wf (i := on (cm k)) (by omega))
                  have h7 := mul_step (a := rlen (R (on (cm k)))) (b := 1) (c := tw (cm k)) (by omega) (by omega)
                  rw [Int.mul_one] at h7
                  omega
                have hrn : CI R cm le (up of8 (on (cm k)) (of8 (on (cm k)) + of8 (cm k) * tw (cm k))) mcm l (k + 1) (R t) := by
                  refine hci8.step (a1 := a1) (a2 := a1) (d1 := of8 (cm k) * tw (cm k)) (d2 := 0) hcb ⟨hk.1, by omega⟩ c45 ha1 ha1 (by rw [ea1]; exact hll) (by rw [ea1]; exact hll) (fun j j0 j1 => ?_) (fun w hw => ?_)
                  · by_cases q : j = a1
                    · rw [if_pos q, if_pos q, q, ea1, up_same]; omega
                    · rw [if_neg q, if_neg q, up_ne _ _ (fun e => q (hcb.2 j a1 j0 j1 ha1.1 ha1.2 (by rw [e, ea1])))]; omega
                  · rw [hRun.1] at hw ⊢
                    rw [occ_run (by omega) hw, ea1, Int.zero_mul, Int.add_zero, Int.mul_assoc]
                refine r_aload_n 83 hE 1 dX9_counts_82 rfl rfl rfl ?_
                refine r_get 86 hE 0 0 ok9 7 dX9_counts_83 rfl wd_1059 rfl rfl (by decide) rfl ?_
                refine r_iload 88 hE 0 dX9_counts_86 rfl rfl ?_
                refine r_iald 89 hE 1 2 dX9_counts_88 rfl rfl rfl (by omega) ?_
                refine r_goto 93 hE dX9_counts_89 (by decide) ?_
                refine r_imul 94 hE ((of8 (cm k)) * (tw (cm k))) dX9_counts_93 rfl rfl ?_
                refine r_iadd 95 hE ((of8 (on (cm k))) + ((of8 (cm k)) * (tw (cm k)))) dX9_counts_94 rfl rfl ?_
                refine r_iast 96 hE 3 2 (wMNum g mo nu fa (up of8 (on (cm k)) ((of8 (on (cm k))) + ((of8 (cm k)) * (tw (cm k)))))) [(wMo g mo mst mac mmk mr mrd mrm mcm mtp msz mtk mbg men mls mvl mft mfp mfk mdp mto), (wMTab g mo kd on tw sg le de so), (wMCom g mo cm), (wMNum g mo nu fa (up of8 (on (cm k)) ((of8 (on (cm k))) + ((of8 (cm k)) * (tw (cm k))))))] dX9_counts_95 rfl rfl rfl (by omega) rfl rfl ?_
                refine r_aload_n 97 hE 1 dX9_counts_96 rfl rfl rfl ?_
                refine r_get 100 hE 0 0 ok9 5 dX9_counts_97 rfl wd_1057 rfl rfl (by decide) rfl ?_
                refine r_iload 102 hE 0 dX9_counts_100 rfl rfl ?_
                refine r_iald 103 hE 1 0 dX9_counts_102 rfl rfl rfl (by omega) ?_
                refine r_iconst 104 hE dX9_counts_103 rfl ?_
                refine r_icmp_ne 107 129 hE dX9_counts_104 rfl (by decide) (by omega) (fun c104 => ?_) (fun c104 => ?_)
                · skip
                  refine r_iinc 132 hE 4 (k + 1) [(3, .int (iI (k + 1))), (4, .int (iI (cm k))), (0, .ref (mo 0)), (1, .int (iI t)), (2, .int (iI l))] dX9_counts_129 rfl rfl rfl (by decide) rfl ?_
                  refine r_goto 21 hE dX9_counts_132 (by decide) ?_
                  refine G.to (fs' := [(wMo g mo mst mac mmk mr mrd mrm mcm mtp msz mtk mbg men mls mvl mft mfp mfk mdp mto), (wMTab g mo kd on tw sg le de so), (wMCom g mo cm), (wMNum g mo nu fa (up of8 (on (cm k)) ((of8 (on (cm k))) + ((of8 (cm k)) * (tw (cm k))))))]) (lv' := [(0, .ref (mo 0)), (1, .int (iI t)), (2, .int (iI l)), (3, .int (iI (k + 1)))]) [0, 1, 2, 3] [2, 3, 4, 0] rfl rfl rfl ?_
                  exact ih21 (k + 1) (up of8 (on (cm k)) ((of8 (on (cm k))) + ((of8 (cm k)) * (tw (cm k))))) (by omega) (by omega) (by first | exact hci | exact hsk | exact hrn | exact hpr | (exfalso; omega)) (by omega)
                · skip
                  have hPair := hxr.pair c104
                  have hpi2 := hpi
                  rw [hPair.1] at hpi2
                  obtain ⟨a1, ha1, ea1⟩ := hNV.pos (x := on (cm k)) (by omega) hT.2.2.1 hpi2.1
                  obtain ⟨a2, ha2, ea2⟩ := hNV.pos (x := tw (cm k)) (by omega) hT.2.2.1 hpi2.2
                  have hlo1 := (hT.2.1 (on (cm k)) (by omega) (by omega)).2.2.1
                  have hlo2 := (hT.2.1 (tw (cm k)) (by omega) (by omega)).2.2.1
                  have hll : le (on (cm k)) < l ∧ le (tw (cm k)) < l := by
                    have h9 := hxr.2.2.1
                    rw [hPair.1] at h9
                    have h6 : le (cm k) = rlen (R (on (cm k))) + rlen (R (tw (cm k))) := h9
                    have h8 := rlen_pos (hT.wf (i := on (cm k)) (by omega))
                    have h7 := rlen_pos (hT.wf (i := tw (cm k)) (by omega))
                    omega
                  have hpr : CI R cm le (up (up of8 (on (cm k)) (of8 (on (cm k)) + of8 (cm k) * 1)) (tw (cm k)) ((up of8 (on (cm k)) (of8 (on (cm k)) + of8 (cm k) * 1)) (tw (cm k)) + (up of8 (on (cm k)) (of8 (on (cm k)) + of8 (cm k) * 1)) (cm k))) mcm l (k + 1) (R t) := by
                    refine hci8.step (a1 := a1) (a2 := a2) (d1 := of8 (cm k)) (d2 := of8 (cm k)) hcb ⟨hk.1, by omega⟩ c45 ha1 ha2 (by rw [ea1]; exact hll.1) (by rw [ea2]; exact hll.2) (fun j j0 j1 => ?_) (fun w hw => ?_)
                    · rw [up_ne (i := on (cm k)) (j := cm k) _ _ (by omega)]
                      by_cases q2 : j = a2
                      · rw [if_pos q2, q2, ea2, up_same]
                        by_cases q1 : a2 = a1
                        · rw [if_pos q1, ← ea2, q1, ea1, up_same]; omega
                        · rw [if_neg q1, up_ne _ _ (fun e => q1 (hcb.2 a2 a1 ha2.1 ha2.2 ha1.1 ha1.2 (by rw [ea2, ea1, e])))]; omega
                      · rw [if_neg q2, up_ne _ _ (fun e => q2 (hcb.2 j a2 j0 j1 ha2.1 ha2.2 (by rw [e, ea2])))]
                        by_cases q1 : j = a1
                        · rw [if_pos q1, q1, ea1, up_same]; omega
                        · rw [if_neg q1, up_ne _ _ (fun e => q1 (hcb.2 j a1 j0 j1 ha1.1 ha1.2 (by rw [e, ea1])))]; omega
                    · rw [hPair.1] at hw ⊢
                      rw [occ_pair hw, ea1, ea2, Int.mul_add]
                  refine r_aload_n 108 hE 1 dX9_counts_107 rfl rfl rfl ?_
                  refine r_get 111 hE 0 0 ok9 19 dX9_counts_108 rfl wd_1071 rfl rfl (by decide) rfl ?_
                  refine r_aload_n 112 hE 1 dX9_counts_111 rfl rfl rfl ?_
                  refine r_get 115 hE 0 0 ok9 7 dX9_counts_112 rfl wd_1059 rfl rfl (by decide) rfl ?_
                  refine r_iload 117 hE 0 dX9_counts_115 rfl rfl ?_
                  refine r_iald 118 hE 1 2 dX9_counts_117 rfl rfl rfl (by omega) ?_
                  refine r_dup2 119 hE dX9_counts_118 rfl rfl rfl ?_
                  refine r_iald 120 hE 3 2 dX9_counts_119 rfl rfl rfl (by omega) ?_
                  refine r_aload_n 121 hE 1 dX9_counts_120 rfl rfl rfl ?_
                  refine r_get 124 hE 0 0 ok9 19 dX9_counts_121 rfl wd_1071 rfl rfl (by decide) rfl ?_
                  refine r_iload 126 hE 0 dX9_counts_124 rfl rfl ?_
                  refine r_iald 127 hE 3 2 dX9_counts_126 rfl rfl rfl (by omega) ?_
                  refine r_iadd 128 hE (((up of8 (on (cm k)) ((of8 (on (cm k))) + ((of8 (cm k)) * (tw (cm k))))) (tw (cm k))) + ((up of8 (on (cm k)) ((of8 (on (cm k))) + ((of8 (cm k)) * (tw (cm k))))) (cm k))) dX9_counts_127 rfl rfl ?_
                  refine r_iast 129 hE 3 2 (wMNum g mo nu fa (up (up of8 (on (cm k)) ((of8 (on (cm k))) + ((of8 (cm k)) * (tw (cm k))))) (tw (cm k)) (((up of8 (on (cm k)) ((of8 (on (cm k))) + ((of8 (cm k)) * (tw (cm k))))) (tw (cm k))) + ((up of8 (on (cm k)) ((of8 (on (cm k))) + ((of8 (cm k)) * (tw (cm k))))) (cm k))))) [(wMo g mo mst mac mmk mr mrd mrm mcm mtp msz mtk mbg men mls mvl mft mfp mfk mdp mto), (wMTab g mo kd on tw sg le de so), (wMCom g mo cm), (wMNum g mo nu fa (up (up of8 (on (cm k)) ((of8 (on (cm k))) + ((of8 (cm k)) * (tw (cm k))))) (tw (cm k)) (((up of8 (on (cm k)) ((of8 (on (cm k))) + ((of8 (cm k)) * (tw (cm k))))) (tw (cm k))) + ((up of8 (on (cm k)) ((of8 (on (cm k))) + ((of8 (cm k)) * (tw (cm k))))) (cm k)))))] dX9_counts_128 rfl rfl rfl (by omega) rfl rfl ?_
                  refine r_iinc 132 hE 4 (k + 1) [(3, .int (iI (k + 1))), (4, .int (iI (cm k))), (0, .ref (mo 0)), (1, .int (iI t)), (2, .int (iI l))] dX9_counts_129 rfl rfl rfl (by decide) rfl ?_
                  refine r_goto 21 hE dX9_counts_132 (by decide) ?_
                  refine G.to (fs' := [(wMo g mo mst mac mmk mr mrd mrm mcm mtp msz mtk mbg men mls mvl mft mfp mfk mdp mto), (wMTab g mo kd on tw sg le de so), (wMCom g mo cm), (wMNum g mo nu fa (up (up of8 (on (cm k)) ((of8 (on (cm k))) + ((of8 (cm k)) * (tw (cm k))))) (tw (cm k)) (((up of8 (on (cm k)) ((of8 (on (cm k))) + ((of8 (cm k)) * (tw (cm k))))) (tw (cm k))) + ((up of8 (on (cm k)) ((of8 (on (cm k))) + ((of8 (cm k)) * (tw (cm k))))) (cm k)))))]) (lv' := [(0, .ref (mo 0)), (1, .int (iI t)), (2, .int (iI l)), (3, .int (iI (k + 1)))]) [0, 1, 2, 3] [2, 3, 4, 0] rfl rfl rfl ?_
                  exact ih21 (k + 1) (up (up of8 (on (cm k)) ((of8 (on (cm k))) + ((of8 (cm k)) * (tw (cm k))))) (tw (cm k)) (((up of8 (on (cm k)) ((of8 (on (cm k))) + ((of8 (cm k)) * (tw (cm k))))) (tw (cm k))) + ((up of8 (on (cm k)) ((of8 (on (cm k))) + ((of8 (cm k)) * (tw (cm k))))) (cm k)))) (by omega) (by omega) (by first | exact hci | exact hsk | exact hrn | exact hpr | (exfalso; omega)) (by omega)
            · skip
              have hsk := hci8.skip c45
              refine r_goto 129 hE dX9_counts_48 (by decide) ?_
              refine r_iinc 132 hE 4 (k + 1) [(3, .int (iI (k + 1))), (4, .int (iI (cm k))), (0, .ref (mo 0)), (1, .int (iI t)), (2, .int (iI l))] dX9_counts_129 rfl rfl rfl (by decide) rfl ?_
              refine r_goto 21 hE dX9_counts_132 (by decide) ?_
              refine G.to (fs' := [(wMo g mo mst mac mmk mr mrd mrm mcm mtp msz mtk mbg men mls mvl mft mfp mfk mdp mto), (wMTab g mo kd on tw sg le de so), (wMCom g mo cm), (wMNum g mo nu fa of8)]) (lv' := [(0, .ref (mo 0)), (1, .int (iI t)), (2, .int (iI l)), (3, .int (iI (k + 1)))]) [0, 1, 2, 3] [2, 3, 4, 0] rfl rfl rfl ?_
              exact ih21 (k + 1) of8 (by omega) (by omega) (by first | exact hci | exact hsk | exact hrn | exact hpr | (exfalso; omega)) (by omega)
      refine r_iload_n 15 hE 2 dX9_counts_14 rfl rfl rfl ?_
      refine r_iconst 16 hE dX9_counts_15 rfl ?_
      refine r_icmp_le 19 141 hE dX9_counts_16 rfl (by decide) (by omega) (fun c16 => ?_) (fun c16 => ?_)
      · skip
        refine r_return hE hR [(wMo g mo mst mac mmk mr mrd mrm mcm mtp msz mtk mbg men mls mvl mft mfp mfk mdp mto), (wMTab g mo kd on tw sg le de so), (wMCom g mo cm), (wMNum g mo nu fa of9)] dX9_counts_141 (Nat.le_of_ble_eq_true rfl) (Nat.le_of_ble_eq_true rfl) rfl ?_
        exact ⟨of9, rfl, rfl, hci.done hcb (by omega)⟩
      · skip
        refine r_iconst 20 hE dX9_counts_19 rfl ?_
        refine r_istore_n 21 hE [(3, .int (iI 0)), (0, .ref (mo 0)), (1, .int (iI t)), (2, .int (iI l))] dX9_counts_20 rfl rfl (by decide) rfl ?_
        refine G.to (fs' := [(wMo g mo mst mac mmk mr mrd mrm mcm mtp msz mtk mbg men mls mvl mft mfp mfk mdp mto), (wMTab g mo kd on tw sg le de so), (wMCom g mo cm), (wMNum g mo nu fa of9)]) (lv' := [(0, .ref (mo 0)), (1, .int (iI t)), (2, .int (iI l)), (3, .int (iI 0))]) [0, 1, 2, 3] [1, 2, 3, 0] rfl rfl rfl ?_
        exact cut21 _ 0 of9 (by omega) (by omega) (by first | exact hci | exact hsk | exact hrn | exact hpr | (exfalso; omega)) (Nat.lt_succ_self _)
  refine r_aload_n 1 hE 0 dX9_counts_0 rfl rfl rfl ?_
  refine r_get 4 hE 0 0 ok9 19 dX9_counts_1 rfl wd_1071 rfl rfl (by decide) rfl ?_
  refine r_iload_n 5 hE 1 dX9_counts_4 rfl rfl rfl ?_
  refine r_iconst 6 hE dX9_counts_5 rfl ?_
  refine r_iast 7 hE 3 2 (wMNum g mo nu fa (up oft t 1)) [(wMo g mo mst mac mmk mr mrd mrm mcm mtp msz mtk mbg men mls mvl mft mfp mfk mdp mto), (wMTab g mo kd on tw sg le de so), (wMCom g mo cm), (wMNum g mo nu fa (up oft t 1))] dX9_counts_6 rfl rfl rfl (by omega) rfl rfl ?_
  refine r_aload_n 8 hE 0 dX9_counts_7 rfl rfl rfl ?_
  refine r_get 11 hE 0 0 ok9 9 dX9_counts_8 rfl wd_1061 rfl rfl (by decide) rfl ?_
  refine r_iload_n 12 hE 1 dX9_counts_11 rfl rfl rfl ?_
  refine r_iald 13 hE 1 4 dX9_counts_12 rfl rfl rfl (by omega) ?_
  refine r_istore_n 14 hE [(2, .int (iI (le t))), (0, .ref (mo 0)), (1, .int (iI t))] dX9_counts_13 rfl rfl (by decide) rfl ?_
  refine G.to (fs' := [(wMo g mo mst mac mmk mr mrd mrm mcm mtp msz mtk mbg men mls mvl mft mfp mfk mdp mto), (wMTab g mo kd on tw sg le de so), (wMCom g mo cm), (wMNum g mo nu fa (up oft t 1))]) (lv' := [(0, .ref (mo 0)), (1, .int (iI t)), (2, .int (iI (le t)))]) [0, 1, 2, 3] [1, 2, 0] rfl rfl rfl ?_
  exact cut14 _ (le t) (up oft t 1) (by omega) (by first | exact hst0 | exact hdn) (Nat.lt_succ_self _)
