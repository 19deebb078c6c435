set_option maxHeartbeats 4000000 in
set_option maxRecDepth 100000 in
theorem c_X3_build {g : Gm} {ru : Nat → Nat} {kd fi se sg le de nx he ro : Int → Int} {rc re rr : Int} {R : Int → Rl} {x n : Nat} {f : Int → Int} {p c : Int} (hT : RT kd fi se sg le de nx he rc R) (hc : 1 ≤ c ∧ c ≤ 600) (hp : 0 ≤ p ∧ p + c ≤ (n : Int) ∧ (n : Int) ≤ 4800) (hf : ∀ k, 0 ≤ k → k < c → 0 ≤ f (p + k) ∧ f (p + k) ≤ 25) (hroom : rc + c ≤ 10240) : Ct g 3 0 0 yX3_build cX3_build 5 (some .int) [.ref (ru 0), .ref x, .int (iI p), .int (iI c)] [(wRules g ru kd fi se sg le de nx he ro rc re rr), (wBytes g x n f)] (fun v w => ∃ kd9 : Int → Int, ∃ fi9 : Int → Int, ∃ se9 : Int → Int, ∃ sg9 : Int → Int, ∃ le9 : Int → Int, ∃ de9 : Int → Int, ∃ nx9 : Int → Int, ∃ he9 : Int → Int, ∃ rc9 : Int, ∃ R9 : Int → Rl, ∃ ro9 : Int → Int, ∃ rr9 : Int, ∃ r : Int, v = some (.int (iI r)) ∧ w = [(wRules g ru kd9 fi9 se9 sg9 le9 de9 nx9 he9 ro9 rc9 re rr9), (wBytes g x n f)] ∧ (RT kd9 fi9 se9 sg9 le9 de9 nx9 he9 rc9 R9) ∧ (rc ≤ rc9 ∧ rc9 + 1 ≤ rc + c) ∧ (∀ i, 0 ≤ i → i < rc → R9 i = R i) ∧ (0 ≤ r ∧ r < rc9) ∧ (BIs (lts f p c) (R9 r) rr9) ∧ (0 ≤ rr9 ∧ rr9 ≤ 64)) := by
  refine Ct.of (by decide) (Nat.le_of_ble_eq_true rfl) (lv := [(0, .ref (ru 0)), (1, .ref x), (2, .int (iI p)), (3, .int (iI c))]) rfl ?_
  intro E hE hR hnm
  have hcn := hT.1
  have cut106 : ∀ (N : Nat) (kd9 : Int → Int) (fi9 : Int → Int) (se9 : Int → Int) (sg9 : Int → Int) (le9 : Int → Int) (de9 : Int → Int) (nx9 : Int → Int) (he9 : Int → Int) (rc9 : Int) (R9 : Int → Rl) (ro9 : Int → Int) (z : Int) (rr9 : Int), (RT kd9 fi9 se9 sg9 le9 de9 nx9 he9 rc9 R9) → (rc ≤ rc9 ∧ rc9 + z ≤ rc + c) → (∀ i, 0 ≤ i → i < rc → R9 i = R i) → (1 ≤ z ∧ z ≤ c) → (∀ k, 0 ≤ k → k < z → 0 ≤ ro9 k ∧ ro9 k < rc9) → (sumLen (seg (rw_ R9 ro9) 0 z) = c) → (BTo (lts f p c) rr9 (seg (rw_ R9 ro9) 0 z)) → ((z ≤ 1 ∧ 0 ≤ rr9 ∧ rr9 ≤ 64) ∨ hb_ z rr9) → (64 - rr9).toNat < N → G g E 5 0 0 [(wRules g ru kd9 fi9 se9 sg9 le9 de9 nx9 he9 ro9 rc9 re rr9), (wBytes g x n f)] 106 [(0, .ref (ru 0)), (1, .ref x), (2, .int (iI p)), (3, .int (iI c)), (4, .int (iI z))] [] := by
    intro N
    induction N with
    | zero => intro kd9 fi9 se9 sg9 le9 de9 nx9 he9 rc9 R9 ro9 z rr9 _ _ _ _ _ _ _ _ hN; exact absurd hN (Nat.not_lt_zero _)
    | succ N ih106 =>
      intro kd9 fi9 se9 sg9 le9 de9 nx9 he9 rc9 R9 ro9 z rr9 hT9 hrc9 hag hz hin hsl hbl hrr hN
      have hcn9 := hT9.1
      have hrr2 : 0 ≤ rr9 ∧ rr9 ≤ 64 := by rcases hrr with q | q <;> first | exact q.2 | (have := hb_rg q; omega)
      refine r_iload 108 hE 4 dX3_build_106 rfl rfl ?_
      refine r_iconst 109 hE dX3_build_108 rfl ?_
      refine r_icmp_le 112 142 hE dX3_build_109 rfl (by decide) (by omega) (fun c109 => ?_) (fun c109 => ?_)
      · skip
        refine r_aload_n 143 hE 0 dX3_build_142 rfl rfl rfl ?_
        refine r_get 146 hE 0 0 ok3 8 dX3_build_143 rfl wd_221 rfl rfl (by decide) rfl ?_
        refine r_iconst 147 hE dX3_build_146 rfl ?_
        refine r_iald 148 hE 0 9 dX3_build_147 rfl rfl rfl (by omega) ?_
        refine r_ireturn hE hR [(wRules g ru kd9 fi9 se9 sg9 le9 de9 nx9 he9 ro9 rc9 re rr9), (wBytes g x n f)] dX3_build_148 (Nat.le_of_ble_eq_true rfl) (Nat.le_of_ble_eq_true rfl) rfl ?_
        have hz1 : z = 1 := by rcases hrr with q | q <;> first | omega | (have := hb_rg q; omega)
        subst hz1
        have h0 := hin 0 (by omega) (by omega)
        have hb9 : BIs (lts f p c) (R9 (ro9 0)) rr9 := by
          rw [seg_cons _ (by omega), seg_nil _ (by omega)] at hbl
          exact hbl.done
        exact ⟨kd9, fi9, se9, sg9, le9, de9, nx9, he9, rc9, R9, ro9, rr9, ro9 0, rfl, rfl, hT9, by omega, hag, h0, hb9, hrr2⟩
      · skip
        refine r_aload_n 113 hE 0 dX3_build_112 rfl rfl rfl ?_
        refine r_get 116 hE 0 0 ok3 11 dX3_build_113 rfl wd_225 rfl rfl (by decide) rfl ?_
        refine r_bipush 118 hE dX3_build_116 rfl (by decide) ?_
        refine r_icmp_ge 121 142 hE dX3_build_118 rfl (by decide) (by omega) (fun c118 => ?_) (fun c118 => ?_)
        · skip
          refine r_aload_n 143 hE 0 dX3_build_142 rfl rfl rfl ?_
          refine r_get 146 hE 0 0 ok3 8 dX3_build_143 rfl wd_221 rfl rfl (by decide) rfl ?_
          refine r_iconst 147 hE dX3_build_146 rfl ?_
          refine r_iald 148 hE 0 9 dX3_build_147 rfl rfl rfl (by omega) ?_
          refine r_ireturn hE hR [(wRules g ru kd9 fi9 se9 sg9 le9 de9 nx9 he9 ro9 rc9 re rr9), (wBytes g x n f)] dX3_build_148 (Nat.le_of_ble_eq_true rfl) (Nat.le_of_ble_eq_true rfl) rfl ?_
          have hz1 : z = 1 := by rcases hrr with q | q <;> first | omega | (have := hb_rg q; omega)
          subst hz1
          have h0 := hin 0 (by omega) (by omega)
          have hb9 : BIs (lts f p c) (R9 (ro9 0)) rr9 := by
            rw [seg_cons _ (by omega), seg_nil _ (by omega)] at hbl
            exact hbl.done
          exact ⟨kd9, fi9, se9, sg9, le9, de9, nx9, he9, rc9, R9, ro9, rr9, ro9 0, rfl, rfl, hT9, by omega, hag, h0, hb9, hrr2⟩
        · skip
          refine r_aload_n 122 hE 0 dX3_build_121 rfl rfl rfl ?_
          refine r_iload 124 hE 4 dX3_build_122 rfl rfl ?_
          refine r_callV 127 hE [0] [1] [(wRules g ru kd9 fi9 se9 sg9 le9 de9 nx9 he9 ro9 rc9 re rr9)] [(wBytes g x n f)] 0 3 ok3 [] (c_X3_pairByPlace (hT9) (hin) (by omega) (by rw [hsl]; omega) (by omega)) dX3_build_124 rfl rfl wd_660 wd_662 ws_27 wd_9 wd_663 ne_X3 np_X3_pairByPlace (Nat.le_of_ble_eq_true rfl)  (by decide) (by decide) rfl (Nat.le_of_ble_eq_true rfl) rfl rfl rfl rfl (by decide) rfl (fun v1 f1 hp => ?_)
          obtain ⟨kd9_124, fi9_124, se9_124, sg9_124, le9_124, de9_124, nx9_124, he9_124, rc9_124, R9_124, ro9_124, n9_124, rfl, rfl, h124_0, h124_1, h124_2, h124_3, h124_4, h124_5, h124_6⟩ := hp
          show G g E _ _ _ [(wRules g ru kd9_124 fi9_124 se9_124 sg9_124 le9_124 de9_124 nx9_124 he9_124 ro9_124 rc9_124 re rr9), (wBytes g x n f)] 127 [(0, .ref (ru 0)), (1, .ref x), (2, .int (iI p)), (3, .int (iI c)), (4, .int (iI z))] [.int (iI n9_124)]
          have hag2 : ∀ i, 0 ≤ i → i < rc → R9_124 i = R i := fun i a b => by rw [h124_2 i a (by omega)]; exact hag i a b
          have hsl2 : sumLen (seg (rw_ R9_124 ro9_124) 0 n9_124) = c := by rw [h124_6]; exact hsl
          have hhb : hb_ z rr9 := hrr.resolve_left (by omega)
          have hhr := hb_rg hhb
          have hbl2 : BTo (lts f p c) (rr9 + 1) (seg (rw_ R9_124 ro9_124) 0 n9_124) := by
            have h9 := hbl.step (by rw [seg_len]; omega)
            unfold rnd at h9
            rw [if_neg (by omega)] at h9
            rw [h124_5]; exact h9
          have hb2 : hb_ n9_124 (rr9 + 1) := hb_step hhb (by omega) (pairP_seg (by omega) h124_5)
          refine r_istore 129 hE [(4, .int (iI n9_124)), (0, .ref (ru 0)), (1, .ref x), (2, .int (iI p)), (3, .int (iI c))] dX3_build_127 rfl (by decide) rfl ?_
          refine r_aload_n 130 hE 1 dX3_build_129 rfl rfl rfl ?_
          refine r_dup 131 hE dX3_build_130 rfl rfl ?_
          refine r_get 134 hE 0 0 ok3 11 dX3_build_131 rfl wd_225 rfl rfl (by decide) rfl ?_
          refine r_iconst 135 hE dX3_build_134 rfl ?_
          refine r_iadd 136 hE (rr9 + 1) dX3_build_135 rfl rfl ?_
          refine r_put 139 hE 0 0 ok3 11 (wRules g ru kd9_124 fi9_124 se9_124 sg9_124 le9_124 de9_124 nx9_124 he9_124 ro9_124 rc9_124 re (rr9 + 1)) [(wRules g ru kd9_124 fi9_124 se9_124 sg9_124 le9_124 de9_124 nx9_124 he9_124 ro9_124 rc9_124 re (rr9 + 1)), (wBytes g x n f)] dX3_build_136 rfl wd_225 rfl rfl (by decide) rfl rfl rfl (Nat.le_of_ble_eq_true rfl) rfl rfl ?_
          refine r_goto 106 hE dX3_build_139 (by decide) ?_
          refine G.to (fs' := [(wRules g ru kd9_124 fi9_124 se9_124 sg9_124 le9_124 de9_124 nx9_124 he9_124 ro9_124 rc9_124 re (rr9 + 1)), (wBytes g x n f)]) (lv' := [(0, .ref (ru 0)), (1, .ref x), (2, .int (iI p)), (3, .int (iI c)), (4, .int (iI n9_124))]) [0, 1] [1, 2, 3, 4, 0] rfl rfl rfl ?_
          exact ih106 kd9_124 fi9_124 se9_124 sg9_124 le9_124 de9_124 nx9_124 he9_124 rc9_124 _ ro9_124 n9_124 (rr9 + 1) (by first | exact hT9 | exact h124_0 | exact hT) (by omega) (by first | exact hag | exact hag2 | exact (fun _ _ _ => rfl)) (by omega) (by first | exact hin | exact h124_4 | exact (fun k a b => by rw [hfl k a (by omega)]; have := hf k a b; omega)) (by first | exact hsl | exact hsl2) (by first | exact hbl | exact hbl2) (by first | exact Or.inr hb2 | exact Or.inl (by omega) | (right; rw [show rr9 = 31 by omega]; exact hb_start (by omega))) (by omega)
  have cut62 : ∀ (N : Nat) (kd9 : Int → Int) (fi9 : Int → Int) (se9 : Int → Int) (sg9 : Int → Int) (le9 : Int → Int) (de9 : Int → Int) (nx9 : Int → Int) (he9 : Int → Int) (rc9 : Int) (R9 : Int → Rl) (ro9 : Int → Int) (z : Int) (rr9 : Int), (RT kd9 fi9 se9 sg9 le9 de9 nx9 he9 rc9 R9) → (rc ≤ rc9 ∧ rc9 + z ≤ rc + c) → (∀ i, 0 ≤ i → i < rc → R9 i = R i) → (1 ≤ z ∧ z ≤ c) → (∀ k, 0 ≤ k → k < z → 0 ≤ ro9 k ∧ ro9 k < rc9) → (sumLen (seg (rw_ R9 ro9) 0 z) = c) → (BTo (lts f p c) rr9 (seg (rw_ R9 ro9) 0 z)) → (0 ≤ rr9 ∧ rr9 ≤ 31) → (31 - rr9).toNat < N → G g E 5 0 0 [(wRules g ru kd9 fi9 se9 sg9 le9 de9 nx9 he9 ro9 rc9 re rr9), (wBytes g x n f)] 62 [(0, .ref (ru 0)), (1, .ref x), (2, .int (iI p)), (3, .int (iI c)), (4, .int (iI z))] [] := by
    intro N
    induction N with
    | zero => intro kd9 fi9 se9 sg9 le9 de9 nx9 he9 rc9 R9 ro9 z rr9 _ _ _ _ _ _ _ _ hN; exact absurd hN (Nat.not_lt_zero _)
    | succ N ih62 =>
      intro kd9 fi9 se9 sg9 le9 de9 nx9 he9 rc9 R9 ro9 z rr9 hT9 hrc9 hag hz hin hsl hbl hrr hN
      have hcn9 := hT9.1
      refine r_iload 64 hE 4 dX3_build_62 rfl rfl ?_
      refine r_iconst 65 hE dX3_build_64 rfl ?_
      refine r_icmp_le 68 106 hE dX3_build_65 rfl (by decide) (by omega) (fun c65 => ?_) (fun c65 => ?_)
      · skip
        exact cut106 _ kd9 fi9 se9 sg9 le9 de9 nx9 he9 rc9 _ ro9 z rr9 (by first | exact hT9 | exact h124_0 | exact hT) (by omega) (by first | exact hag | exact hag2 | exact (fun _ _ _ => rfl)) (by omega) (by first | exact hin | exact h124_4 | exact (fun k a b => by rw [hfl k a (by omega)]; have := hf k a b; omega)) (by first | exact hsl | exact hsl2) (by first | exact hbl | exact hbl2) (by first | exact Or.inr hb2 | exact Or.inl (by omega) | (right; rw [show rr9 = 31 by omega]; exact hb_start (by omega))) (Nat.lt_succ_self _)
      · skip
        refine r_aload_n 69 hE 0 dX3_build_68 rfl rfl rfl ?_
        refine r_get 72 hE 0 0 ok3 11 dX3_build_69 rfl wd_225 rfl rfl (by decide) rfl ?_
        refine r_bipush 74 hE dX3_build_72 rfl (by decide) ?_
        refine r_icmp_ge 77 106 hE dX3_build_74 rfl (by decide) (by omega) (fun c74 => ?_) (fun c74 => ?_)
        · skip
          exact cut106 _ kd9 fi9 se9 sg9 le9 de9 nx9 he9 rc9 _ ro9 z rr9 (by first | exact hT9 | exact h124_0 | exact hT) (by omega) (by first | exact hag | exact hag2 | exact (fun _ _ _ => rfl)) (by omega) (by first | exact hin | exact h124_4 | exact (fun k a b => by rw [hfl k a (by omega)]; have := hf k a b; omega)) (by first | exact hsl | exact hsl2) (by first | exact hbl | exact hbl2) (by first | exact Or.inr hb2 | exact Or.inl (by omega) | (right; rw [show rr9 = 31 by omega]; exact hb_start (by omega))) (Nat.lt_succ_self _)
        · skip
          refine r_aload_n 78 hE 0 dX3_build_77 rfl rfl rfl ?_
          refine r_aload_n 79 hE 0 dX3_build_78 rfl rfl rfl ?_
          refine r_iload 81 hE 4 dX3_build_79 rfl rfl ?_
          refine r_callV 84 hE [0] [1] [(wRules g ru kd9 fi9 se9 sg9 le9 de9 nx9 he9 ro9 rc9 re rr9)] [(wBytes g x n f)] 0 3 ok3 [.ref (ru 0)] (c_X3_gatherRuns (hT9) (hin) (by omega) (by rw [hsl]; omega) (by omega)) dX3_build_81 rfl rfl wd_639 wd_641 ws_23 wd_9 wd_642 ne_X3 np_X3_gatherRuns (Nat.le_of_ble_eq_true rfl)  (by decide) (by decide) rfl (Nat.le_of_ble_eq_true rfl) rfl rfl rfl rfl (by decide) rfl (fun v1 f1 hp => ?_)
          obtain ⟨kd9_81, fi9_81, se9_81, sg9_81, le9_81, de9_81, nx9_81, he9_81, rc9_81, R9_81, ro9_81, n9_81, rfl, rfl, h81_0, h81_1, h81_2, h81_3, h81_4, h81_5, h81_6⟩ := hp
          show G g E _ _ _ [(wRules g ru kd9_81 fi9_81 se9_81 sg9_81 le9_81 de9_81 nx9_81 he9_81 ro9_81 rc9_81 re rr9), (wBytes g x n f)] 84 [(0, .ref (ru 0)), (1, .ref x), (2, .int (iI p)), (3, .int (iI c)), (4, .int (iI z))] [.int (iI n9_81), .ref (ru 0)]
          refine r_aload_n 85 hE 0 dX3_build_84 rfl rfl rfl ?_
          refine r_get 88 hE 0 0 ok3 11 dX3_build_85 rfl wd_225 rfl rfl (by decide) rfl ?_
          refine r_callV 91 hE [0] [1] [(wRules g ru kd9_81 fi9_81 se9_81 sg9_81 le9_81 de9_81 nx9_81 he9_81 ro9_81 rc9_81 re rr9)] [(wBytes g x n f)] 0 3 ok3 [] (c_X3_pairByBit (h81_0) (h81_4) (by omega) (by rw [h81_6, hsl]; omega) (by omega) (by omega)) dX3_build_88 rfl rfl wd_652 wd_654 ws_25 wd_9 wd_655 ne_X3 np_X3_pairByBit (Nat.le_of_ble_eq_true rfl)  (by decide) (by decide) rfl (Nat.le_of_ble_eq_true rfl) rfl rfl rfl rfl (by decide) rfl (fun v1 f1 hp => ?_)
          obtain ⟨kd9_88, fi9_88, se9_88, sg9_88, le9_88, de9_88, nx9_88, he9_88, rc9_88, R9_88, ro9_88, n9_88, rfl, rfl, h88_0, h88_1, h88_2, h88_3, h88_4, h88_5, h88_6⟩ := hp
          show G g E _ _ _ [(wRules g ru kd9_88 fi9_88 se9_88 sg9_88 le9_88 de9_88 nx9_88 he9_88 ro9_88 rc9_88 re rr9), (wBytes g x n f)] 91 [(0, .ref (ru 0)), (1, .ref x), (2, .int (iI p)), (3, .int (iI c)), (4, .int (iI z))] [.int (iI n9_88)]
          have hag2 : ∀ i, 0 ≤ i → i < rc → R9_88 i = R i := fun i a b => by rw [h88_2 i a (by omega), h81_2 i a (by omega)]; exact hag i a b
          have hsl2 : sumLen (seg (rw_ R9_88 ro9_88) 0 n9_88) = c := by rw [h88_6, h81_6]; exact hsl
          have hbl2 : BTo (lts f p c) (rr9 + 1) (seg (rw_ R9_88 ro9_88) 0 n9_88) := by
            have h9 := hbl.step (by rw [seg_len]; omega)
            unfold rnd at h9
            rw [if_pos (by omega)] at h9
            rw [h88_5, h81_5]; exact h9
          refine r_istore 93 hE [(4, .int (iI n9_88)), (0, .ref (ru 0)), (1, .ref x), (2, .int (iI p)), (3, .int (iI c))] dX3_build_91 rfl (by decide) rfl ?_
          refine r_aload_n 94 hE 1 dX3_build_93 rfl rfl rfl ?_
          refine r_dup 95 hE dX3_build_94 rfl rfl ?_
          refine r_get 98 hE 0 0 ok3 11 dX3_build_95 rfl wd_225 rfl rfl (by decide) rfl ?_
          refine r_iconst 99 hE dX3_build_98 rfl ?_
          refine r_iadd 100 hE (rr9 + 1) dX3_build_99 rfl rfl ?_
          refine r_put 103 hE 0 0 ok3 11 (wRules g ru kd9_88 fi9_88 se9_88 sg9_88 le9_88 de9_88 nx9_88 he9_88 ro9_88 rc9_88 re (rr9 + 1)) [(wRules g ru kd9_88 fi9_88 se9_88 sg9_88 le9_88 de9_88 nx9_88 he9_88 ro9_88 rc9_88 re (rr9 + 1)), (wBytes g x n f)] dX3_build_100 rfl wd_225 rfl rfl (by decide) rfl rfl rfl (Nat.le_of_ble_eq_true rfl) rfl rfl ?_
          refine r_goto 62 hE dX3_build_103 (by decide) ?_
          refine G.to (fs' := [(wRules g ru kd9_88 fi9_88 se9_88 sg9_88 le9_88 de9_88 nx9_88 he9_88 ro9_88 rc9_88 re (rr9 + 1)), (wBytes g x n f)]) (lv' := [(0, .ref (ru 0)), (1, .ref x), (2, .int (iI p)), (3, .int (iI c)), (4, .int (iI n9_88))]) [0, 1] [1, 2, 3, 4, 0] rfl rfl rfl ?_
          exact ih62 kd9_88 fi9_88 se9_88 sg9_88 le9_88 de9_88 nx9_88 he9_88 rc9_88 _ ro9_88 n9_88 (rr9 + 1) (by first | exact hT9 | exact h88_0 | exact hT) (by omega) (by first | exact hag | exact hag2 | exact (fun _ _ _ => rfl)) (by omega) (by first | exact hin | exact h88_4 | exact (fun k a b => by rw [hfl k a (by omega)]; have := hf k a b; omega)) (by first | exact hsl | exact hsl2) (by first | exact hbl | exact hbl2) (by omega) (by omega)
  have cut34 : ∀ (N : Nat) (i : Int) (ro9 : Int → Int), (0 ≤ i ∧ i ≤ c) → (∀ j, 0 ≤ j → j < i → ro9 j = f (p + j)) → (c - i).toNat < N → G g E 5 0 0 [(wRules g ru kd fi se sg le de nx he ro9 rc re 0), (wBytes g x n f)] 34 [(0, .ref (ru 0)), (1, .ref x), (2, .int (iI p)), (3, .int (iI c)), (4, .int (iI i))] [] := by
    intro N
    induction N with
    | zero => intro i ro9 _ _ hN; exact absurd hN (Nat.not_lt_zero _)
    | succ N ih34 =>
      intro i ro9 hi hfl hN
      refine r_iload 36 hE 4 dX3_build_34 rfl rfl ?_
      refine r_iload_n 37 hE 3 dX3_build_36 rfl rfl rfl ?_
      refine r_icmp_ge 40 59 hE dX3_build_37 rfl (by decide) (by omega) (fun c37 => ?_) (fun c37 => ?_)
      · skip
        have heq : seg (rw_ R ro9) 0 c = lts f p c := by
          refine seg_cong (fun k a b => ?_)
          show R (ro9 k) = _
          rw [hfl k a (by omega)]
          exact hT.letter (by have := hf k a b; omega)
        have hsl2 : sumLen (seg (rw_ R ro9) 0 c) = c := by rw [heq]; have := sumLen_lts f p c.toNat (s := 0) (c := c) (by omega) (by omega); show sumLen (seg (fun k => rLet (f (p + k))) 0 c) = c; omega
        have hbl2 : BTo (lts f p c) 0 (seg (rw_ R ro9) 0 c) := by rw [heq]; exact BTo.start _
        refine r_iload_n 60 hE 3 dX3_build_59 rfl rfl rfl ?_
        refine r_istore 62 hE [(4, .int (iI c)), (0, .ref (ru 0)), (1, .ref x), (2, .int (iI p)), (3, .int (iI c))] dX3_build_60 rfl (by decide) rfl ?_
        refine G.to (fs' := [(wRules g ru kd fi se sg le de nx he ro9 rc re 0), (wBytes g x n f)]) (lv' := [(0, .ref (ru 0)), (1, .ref x), (2, .int (iI p)), (3, .int (iI c)), (4, .int (iI c))]) [0, 1] [1, 2, 3, 4, 0] rfl rfl rfl ?_
        exact cut62 _ kd fi se sg le de nx he rc _ ro9 c 0 (by first | exact hT9 | exact h88_0 | exact hT) (by omega) (by first | exact hag | exact hag2 | exact (fun _ _ _ => rfl)) (by omega) (by first | exact hin | exact h88_4 | exact (fun k a b => by rw [hfl k a (by omega)]; have := hf k a b; omega)) (by first | exact hsl | exact hsl2) (by first | exact hbl | exact hbl2) (by omega) (Nat.lt_succ_self _)
      · skip
        refine r_aload_n 41 hE 0 dX3_build_40 rfl rfl rfl ?_
        refine r_get 44 hE 0 0 ok3 8 dX3_build_41 rfl wd_221 rfl rfl (by decide) rfl ?_
        refine r_iload 46 hE 4 dX3_build_44 rfl rfl ?_
        refine r_aload_n 47 hE 1 dX3_build_46 rfl rfl rfl ?_
        refine r_iload_n 48 hE 2 dX3_build_47 rfl rfl rfl ?_
        refine r_iload 50 hE 4 dX3_build_48 rfl rfl ?_
        refine r_iadd 51 hE (p + i) dX3_build_50 rfl rfl ?_
        refine r_bald 52 hE 1 0 dX3_build_51 rfl rfl rfl (by omega) ?_
        refine r_iast 53 hE 0 9 (wRules g ru kd fi se sg le de nx he (up ro9 i (f (p + i))) rc re 0) [(wRules g ru kd fi se sg le de nx he (up ro9 i (f (p + i))) rc re 0), (wBytes g x n f)] dX3_build_52 rfl rfl rfl (by omega) rfl rfl ?_
        refine r_iinc 56 hE 4 (i + 1) [(4, .int (iI (i + 1))), (0, .ref (ru 0)), (1, .ref x), (2, .int (iI p)), (3, .int (iI c))] dX3_build_53 rfl rfl rfl (by decide) rfl ?_
        refine r_goto 34 hE dX3_build_56 (by decide) ?_
        refine G.to (fs' := [(wRules g ru kd fi se sg le de nx he (up ro9 i (f (p + i))) rc re 0), (wBytes g x n f)]) (lv' := [(0, .ref (ru 0)), (1, .ref x), (2, .int (iI p)), (3, .int (iI c)), (4, .int (iI (i + 1)))]) [0, 1] [1, 2, 3, 4, 0] rfl rfl rfl ?_
        exact ih34 (i + 1) (up ro9 i (f (p + i))) (by omega) (by first | exact (fun j a b => if z : j = i then by rw [z, up_same] else by rw [up_ne _ _ z]; exact hfl j a (by omega)) | exact (fun j a b => absurd b (by omega))) (by omega)
  refine r_aload_n 1 hE 0 dX3_build_0 rfl rfl rfl ?_
  refine r_iconst 2 hE dX3_build_1 rfl ?_
  refine r_put 5 hE 0 0 ok3 11 (wRules g ru kd fi se sg le de nx he ro rc re 0) [(wRules g ru kd fi se sg le de nx he ro rc re 0), (wBytes g x n f)] dX3_build_2 rfl wd_225 rfl rfl (by decide) rfl rfl rfl (Nat.le_of_ble_eq_true rfl) rfl rfl ?_
  refine r_iload_n 6 hE 3 dX3_build_5 rfl rfl rfl ?_
  refine r_iconst 7 hE dX3_build_6 rfl ?_
  refine r_icmp_lt 10 29 hE dX3_build_7 rfl (by decide) (by omega) (fun c7 => ?_) (fun c7 => ?_)
  · skip
    omega
  · skip
    refine r_iload_n 11 hE 3 dX3_build_10 rfl rfl rfl ?_
    refine r_sipush 14 hE dX3_build_11 rfl (by decide) ?_
    refine r_icmp_gt 17 29 hE dX3_build_14 rfl (by decide) (by omega) (fun c14 => ?_) (fun c14 => ?_)
    · skip
      omega
    · skip
      refine r_iload_n 18 hE 2 dX3_build_17 rfl rfl rfl ?_
      refine r_if_lt 21 29 hE dX3_build_18 rfl (by decide) (by omega) (fun c18 => ?_) (fun c18 => ?_)
      · skip
        omega
      · skip
        refine r_iload_n 22 hE 2 dX3_build_21 rfl rfl rfl ?_
        refine r_aload_n 23 hE 1 dX3_build_22 rfl rfl rfl ?_
        refine r_alenB 24 hE 1 0 dX3_build_23 rfl rfl rfl ?_
        refine r_iload_n 25 hE 3 dX3_build_24 rfl rfl rfl ?_
        refine r_isub 26 hE ((n : Int) - c) dX3_build_25 rfl rfl ?_
        refine r_icmp_le 29 31 hE dX3_build_26 rfl (by decide) (by omega) (fun c26 => ?_) (fun c26 => ?_)
        · skip
          refine r_iconst 32 hE dX3_build_31 rfl ?_
          refine r_istore 34 hE [(4, .int (iI 0)), (0, .ref (ru 0)), (1, .ref x), (2, .int (iI p)), (3, .int (iI c))] dX3_build_32 rfl (by decide) rfl ?_
          refine G.to (fs' := [(wRules g ru kd fi se sg le de nx he ro rc re 0), (wBytes g x n f)]) (lv' := [(0, .ref (ru 0)), (1, .ref x), (2, .int (iI p)), (3, .int (iI c)), (4, .int (iI 0))]) [0, 1] [1, 2, 3, 4, 0] rfl rfl rfl ?_
          exact cut34 _ 0 ro (by omega) (by first | exact (fun j a b => if z : j = i then by rw [z, up_same] else by rw [up_ne _ _ z]; exact hfl j a (by omega)) | exact (fun j a b => absurd b (by omega))) (Nat.lt_succ_self _)
        · skip
          omega
