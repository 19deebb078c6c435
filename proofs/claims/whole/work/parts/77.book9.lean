set_option maxHeartbeats 4000000 in
set_option maxRecDepth 100000 in
theorem c_X0_readTimes {g : Gm} {k : Nat → Nat} {tpa : Nat} {kk kp kn : Int → Int} {sz kc fg ps : Int} {tf : Int → Int} {bk : Nat → Nat} {sa2 : Nat} {eo es ep : Int → Int} {dp ss pp sg us fk fp : Int} {r : Nat → Nat} {m : Nat} {RL : Int → Int} {rlen : Int} {T : List (List Int)} (hK : TkG tf sz kk kp kn kc) (hfi : 0 ≤ fg ∧ fg < kc) (hfk0 : fk = 0) (hPs : PsOk (psOf fg RL rlen eo es ep dp ss pp sg)) (hm48 : (m : Int) = 4800) (hrl : 0 ≤ rlen) (hBR : BR RL) (hsg : sg ≠ 0) (hkv : kk fg = 42) : Ct g 3 0 0 yX0_readTimes cX0_readTimes 2 none [.ref (bk 0)] [(wBook g bk (k 0) sa2 (r 0) eo es ep dp ss pp sg us fk fp), (wTok g k tpa kk kp kn sz kc fg ps), (wRow g r m RL rlen)] (fun v_ w_ => ∃ RL9 : Int → Int, ∃ rl9 : Int, ∃ fg9 : Int, ∃ ps9 : Int, ∃ fk9 : Int, ∃ fp9 : Int, ∃ sg9 : Int, v_ = none ∧ w_ = [(wBook g bk (k 0) sa2 (r 0) eo es ep dp ss pp sg9 us fk9 fp9), (wTok g k tpa kk kp kn sz kc fg9 ps9), (wRow g r m RL9 rl9)] ∧ (StepR (bkOf tf sz) T (psOf fg RL rlen eo es ep dp ss pp sg) (psOf fg9 RL9 rl9 eo es ep dp ss pp sg9) (fk9, fp9)) ∧ (fk9 = 0 → fg < fg9 ∧ ps9 = (bkOf tf sz).P (fg9.toNat - 1)) ∧ (0 ≤ fg9 ∧ fg9 < kc) ∧ (-1 ≤ fk9 ∧ fk9 ≤ 9) ∧ (BR RL9) ∧ (0 ≤ rl9 ∧ rl9 ≤ 4800)) := by
  refine Ct.of (by decide) (Nat.le_of_ble_eq_true rfl) (lv := [(0, .ref (bk 0))]) rfl ?_
  intro E hE hR hnm
  have hkc := hK.1
  have hat := hK.at hfi
  have hrm := hPs.room
  simp only [psOf] at hrm
  rw [rowL_lenI RL hrl] at hrm
  have hp1 := (hPs.2.2.2.2.1 hsg).1
  simp only [psOf] at hp1
  rw [rowL_lenI RL hrl] at hp1
  have hul : (((rowL RL rlen).drop pp.toNat).length : Int) = rlen - pp := by rw [List.length_drop, rowL_len]; omega
  have hk42 : (bkOf tf sz).K fg.toNat = 42 := by rw [← hat.1.1]; exact hkv
  have hnx := hK.nx hfi (by omega)
  refine r_aload_n 1 hE 0 dX0_readTimes_0 rfl rfl rfl ?_
  refine r_get 4 hE 0 0 ok0 0 dX0_readTimes_1 rfl wd_124 rfl rfl (by decide) rfl ?_
  refine r_callV 7 hE [1] [0, 2] [(wTok g k tpa kk kp kn sz kc fg ps)] [(wBook g bk (k 0) sa2 (r 0) eo es ep dp ss pp sg us fk fp), (wRow g r m RL rlen)] 0 6 ok6 [] (c_X6_pass (by omega) (by omega)) dX0_readTimes_4 rfl rfl wd_527 wd_528 wd_529 wd_3 wd_530 ne_X6 np_X6_pass (Nat.le_of_ble_eq_true rfl)  (by decide) (by decide) rfl (Nat.le_of_ble_eq_true rfl) rfl rfl rfl rfl (by decide) rfl (fun v1 f1 hp => ?_)
  obtain ⟨rfl, rfl⟩ := hp
  show G g E _ _ _ [(wTok g k tpa kk kp kn sz kc (fg + 1) (kp fg)), (wBook g bk (k 0) sa2 (r 0) eo es ep dp ss pp sg us fk fp), (wRow g r m RL rlen)] 7 [(0, .ref (bk 0))] []
  refine r_aload_n 8 hE 0 dX0_readTimes_7 rfl rfl rfl ?_
  refine r_iconst 9 hE dX0_readTimes_8 rfl ?_
  refine r_sipush 12 hE dX0_readTimes_9 rfl (by decide) ?_
  refine r_iconst 13 hE dX0_readTimes_12 rfl ?_
  refine r_callV 16 hE [1, 0] [2] [(wBook g bk (k 0) sa2 (r 0) eo es ep dp ss pp sg us fk fp), (wTok g k tpa kk kp kn sz kc (fg + 1) (kp fg))] [(wRow g r m RL rlen)] 0 0 ok0 [] (c_X0_readNumber (hK) (by omega) (by omega) (by omega)) dX0_readTimes_13 rfl rfl wd_540 wd_542 ws_14 wd_2 wd_543 ne_X0 np_X0_readNumber (Nat.le_of_ble_eq_true rfl)  (by decide) (by decide) rfl (Nat.le_of_ble_eq_true rfl) rfl rfl rfl rfl (by decide) rfl (fun v1 f1 hp => ?_)
  obtain ⟨r9_13, fg9_13, ps9_13, fk9_13, fp9_13, rfl, rfl, h13_0, h13_1, h13_2, h13_3, h13_4⟩ := hp
  show G g E _ _ _ [(wBook g bk (k 0) sa2 (r 0) eo es ep dp ss pp sg us fk9_13 fp9_13), (wTok g k tpa kk kp kn sz kc fg9_13 ps9_13), (wRow g r m RL rlen)] 16 [(0, .ref (bk 0))] [.int (iI r9_13)]
  have hte := times_e (u := (rowL RL rlen).drop pp.toNat) hfi.1 hfk0 h13_0
  rw [hul] at hte
  refine r_istore_n 17 hE [(1, .int (iI r9_13)), (0, .ref (bk 0))] dX0_readTimes_16 rfl rfl (by decide) rfl ?_
  refine r_aload_n 18 hE 1 dX0_readTimes_17 rfl rfl rfl ?_
  refine r_get 21 hE 0 0 ok0 11 dX0_readTimes_18 rfl wd_138 rfl rfl (by decide) rfl ?_
  refine r_if_eq 24 25 hE dX0_readTimes_21 rfl (by decide) (by omega) (fun c21 => ?_) (fun c21 => ?_)
  · skip
    have hy := hte.2 c21
    have hmul : 0 ≤ (rlen - pp) * r9_13 ∧ (rlen - pp) * r9_13 ≤ 600 * 600 := ⟨Int.mul_nonneg (by omega) (by omega), Int.mul_le_mul (by omega) (by omega) (by omega) (by omega)⟩
    have hpas : ps9_13 = (bkOf tf sz).P (fg + 1).toNat := by
      rcases h13_2 with z | z
      · exact z.2
      · omega
    refine r_aload_n 26 hE 1 dX0_readTimes_25 rfl rfl rfl ?_
    refine r_get 29 hE 0 0 ok0 2 dX0_readTimes_26 rfl wd_128 rfl rfl (by decide) rfl ?_
    refine r_get 32 hE 2 0 ok2 1 dX0_readTimes_29 rfl wd_116 rfl rfl (by decide) rfl ?_
    refine r_aload_n 33 hE 1 dX0_readTimes_32 rfl rfl rfl ?_
    refine r_get 36 hE 0 0 ok0 8 dX0_readTimes_33 rfl wd_134 rfl rfl (by decide) rfl ?_
    refine r_isub 37 hE (rlen - pp) dX0_readTimes_36 rfl rfl ?_
    refine r_iload_n 38 hE 0 dX0_readTimes_37 rfl rfl rfl ?_
    refine r_imul 39 hE ((rlen - pp) * r9_13) dX0_readTimes_38 rfl rfl ?_
    refine r_sipush 42 hE dX0_readTimes_39 rfl (by decide) ?_
    refine r_icmp_le 45 58 hE dX0_readTimes_42 rfl (by decide) (by omega) (fun c42 => ?_) (fun c42 => ?_)
    · skip
      refine r_aload_n 59 hE 1 dX0_readTimes_58 rfl rfl rfl ?_
      refine r_get 62 hE 0 0 ok0 2 dX0_readTimes_59 rfl wd_128 rfl rfl (by decide) rfl ?_
      refine r_aload_n 63 hE 1 dX0_readTimes_62 rfl rfl rfl ?_
      refine r_get 66 hE 0 0 ok0 8 dX0_readTimes_63 rfl wd_134 rfl rfl (by decide) rfl ?_
      refine r_iload_n 67 hE 0 dX0_readTimes_66 rfl rfl rfl ?_
      refine r_callV 70 hE [2] [0, 1] [(wRow g r m RL rlen)] [(wBook g bk (k 0) sa2 (r 0) eo es ep dp ss pp sg us fk9_13 fp9_13), (wTok g k tpa kk kp kn sz kc fg9_13 ps9_13)] 0 2 ok2 [] (c_X2_multiplyFrom (by omega) (by omega) (by omega) (by omega) (hBR)) dX0_readTimes_67 rfl rfl wd_596 wd_597 wd_598 wd_5 wd_599 ne_X2 np_X2_multiplyFrom (Nat.le_of_ble_eq_true rfl)  (by decide) (by decide) rfl (Nat.le_of_ble_eq_true rfl) rfl rfl rfl rfl (by decide) rfl (fun v1 f1 hp => ?_)
      obtain ⟨RL9_67, rfl, rfl, h67_0⟩ := hp
      show G g E _ _ _ [(wRow g r m RL9_67 (pp + (rlen - pp) * r9_13)), (wBook g bk (k 0) sa2 (r 0) eo es ep dp ss pp sg us fk9_13 fp9_13), (wTok g k tpa kk kp kn sz kc fg9_13 ps9_13)] 70 [(1, .int (iI r9_13)), (0, .ref (bk 0))] []
      have hr9 : rowL RL9_67 (pp + (rlen - pp) * r9_13) = (rowL RL rlen).take pp.toNat ++ rep r9_13 ((rowL RL rlen).drop pp.toNat) := by rw [rowL_rep (RL := RL) (by omega) (by omega) hy.2.2.1.1 h67_0, rowL_take _ (by omega), rowL_drop _ (by omega)]
      have hst : StepR (bkOf tf sz) T (psOf fg RL rlen eo es ep dp ss pp sg) (psOf fg9_13 RL9_67 (pp + (rlen - pp) * r9_13) eo es ep dp ss pp 2) (fk9_13, fp9_13) := Or.inl ⟨times_ok hsg hk42 (hy.2.2.2.2 c42) hr9, c21⟩
      refine r_aload_n 71 hE 1 dX0_readTimes_70 rfl rfl rfl ?_
      refine r_iconst 72 hE dX0_readTimes_71 rfl ?_
      refine r_put 75 hE 1 0 ok0 9 (wBook g bk (k 0) sa2 (r 0) eo es ep dp ss pp 2 us fk9_13 fp9_13) [(wRow g r m RL9_67 (pp + (rlen - pp) * r9_13)), (wBook g bk (k 0) sa2 (r 0) eo es ep dp ss pp 2 us fk9_13 fp9_13), (wTok g k tpa kk kp kn sz kc fg9_13 ps9_13)] dX0_readTimes_72 rfl wd_135 rfl rfl (by decide) rfl rfl rfl (Nat.le_of_ble_eq_true rfl) rfl rfl ?_
      refine G.to (fs' := [(wBook g bk (k 0) sa2 (r 0) eo es ep dp ss pp 2 us fk9_13 fp9_13), (wTok g k tpa kk kp kn sz kc fg9_13 ps9_13), (wRow g r m RL9_67 (pp + (rlen - pp) * r9_13))]) [1, 2, 0] [0, 1] rfl rfl rfl ?_
      refine r_return hE hR [(wBook g bk (k 0) sa2 (r 0) eo es ep dp ss pp 2 us fk9_13 fp9_13), (wTok g k tpa kk kp kn sz kc fg9_13 ps9_13), (wRow g r m RL9_67 (pp + (rlen - pp) * r9_13))] dX0_readTimes_75 (Nat.le_of_ble_eq_true rfl) (Nat.le_of_ble_eq_true rfl) rfl ?_
      exact ⟨_, _, _, _, _, _, _, rfl, rfl, hst, fun _ => ⟨by omega, by rw [hpas, hy.1]; congr 1; omega⟩, h13_1, h13_4, h67_0.2.2, by omega⟩
    · skip
      refine r_aload_n 46 hE 1 dX0_readTimes_45 rfl rfl rfl ?_
      refine r_iconst 47 hE dX0_readTimes_46 rfl ?_
      refine r_aload_n 48 hE 1 dX0_readTimes_47 rfl rfl rfl ?_
      refine r_get 51 hE 0 0 ok0 0 dX0_readTimes_48 rfl wd_124 rfl rfl (by decide) rfl ?_
      refine r_get 54 hE 1 0 ok6 7 dX0_readTimes_51 rfl wd_49 rfl rfl (by decide) rfl ?_
      refine r_callV 57 hE [0] [1, 2] [(wBook g bk (k 0) sa2 (r 0) eo es ep dp ss pp sg us fk9_13 fp9_13)] [(wTok g k tpa kk kp kn sz kc fg9_13 ps9_13), (wRow g r m RL rlen)] 0 0 ok0 [] (c_X0_blame (by omega) (by omega)) dX0_readTimes_54 rfl rfl wd_523 wd_525 ws_11 wd_2 wd_526 ne_X0 np_X0_blame (Nat.le_of_ble_eq_true rfl)  (by decide) (by decide) rfl (Nat.le_of_ble_eq_true rfl) rfl rfl rfl rfl (by decide) rfl (fun v1 f1 hp => ?_)
      obtain ⟨fk9_54, fp9_54, rfl, rfl, h54_0, h54_1⟩ := hp
      show G g E _ _ _ [(wBook g bk (k 0) sa2 (r 0) eo es ep dp ss pp sg us fk9_54 fp9_54), (wTok g k tpa kk kp kn sz kc fg9_13 ps9_13), (wRow g r m RL rlen)] 57 [(1, .int (iI r9_13)), (0, .ref (bk 0))] []
      rw [blm_0 c21] at h54_0
      have hst : StepR (bkOf tf sz) T (psOf fg RL rlen eo es ep dp ss pp sg) (psOf fg9_13 RL rlen eo es ep dp ss pp sg) (fk9_54, fp9_54) := Or.inr ⟨by rw [h54_0, hpas]; exact times_err hsg hk42 (hy.2.2.2.1 c42), by rw [h54_0]; show (5 : Int) ≠ 0; decide⟩
      have hne : fk9_54 ≠ 0 := by have := congrArg Prod.fst h54_0; simp only at this; omega
      refine r_return hE hR [(wBook g bk (k 0) sa2 (r 0) eo es ep dp ss pp sg us fk9_54 fp9_54), (wTok g k tpa kk kp kn sz kc fg9_13 ps9_13), (wRow g r m RL rlen)] dX0_readTimes_57 (Nat.le_of_ble_eq_true rfl) (Nat.le_of_ble_eq_true rfl) rfl ?_
      exact ⟨_, _, _, _, _, _, _, rfl, rfl, hst, fun q => absurd q hne, h13_1, h54_1, hBR, by omega⟩
  · skip
    have hst : StepR (bkOf tf sz) T (psOf fg RL rlen eo es ep dp ss pp sg) (psOf fg9_13 RL rlen eo es ep dp ss pp sg) (fk9_13, fp9_13) := Or.inr ⟨times_err hsg hk42 (hte.1 c21), c21⟩
    refine r_return hE hR [(wBook g bk (k 0) sa2 (r 0) eo es ep dp ss pp sg us fk9_13 fp9_13), (wTok g k tpa kk kp kn sz kc fg9_13 ps9_13), (wRow g r m RL rlen)] dX0_readTimes_24 (Nat.le_of_ble_eq_true rfl) (Nat.le_of_ble_eq_true rfl) rfl ?_
    exact ⟨_, _, _, _, _, _, _, rfl, rfl, hst, fun q => absurd q c21, h13_1, h13_4, hBR, by omega⟩
set_option maxHeartbeats 4000000 in
set_option maxRecDepth 100000 in
theorem c_X0_readCut {g : Gm} {k : Nat → Nat} {tpa : Nat} {kk kp kn : Int → Int} {sz kc fg ps : Int} {tf : Int → Int} {bk : Nat → Nat} {sa2 : Nat} {eo es ep : Int → Int} {dp ss pp sg us fk fp : Int} {r : Nat → Nat} {m : Nat} {RL : Int → Int} {rlen : Int} {T : List (List Int)} (hK : TkG tf sz kk kp kn kc) (hfi : 0 ≤ fg ∧ fg < kc) (hfk0 : fk = 0) (hPs : PsOk (psOf fg RL rlen eo es ep dp ss pp sg)) (hm48 : (m : Int) = 4800) (hrl : 0 ≤ rlen) (hBR : BR RL) (hsg1 : sg = 1) (hkv : kk fg = 91) : Ct g 3 0 0 yX0_readCut cX0_readCut 4 none [.ref (bk 0)] [(wBook g bk (k 0) sa2 (r 0) eo es ep dp ss pp sg us fk fp), (wTok g k tpa kk kp kn sz kc fg ps), (wRow g r m RL rlen)] (fun v_ w_ => ∃ RL9 : Int → Int, ∃ rl9 : Int, ∃ fg9 : Int, ∃ ps9 : Int, ∃ fk9 : Int, ∃ fp9 : Int, v_ = none ∧ w_ = [(wBook g bk (k 0) sa2 (r 0) eo es ep dp ss pp sg us fk9 fp9), (wTok g k tpa kk kp kn sz kc fg9 ps9), (wRow g r m RL9 rl9)] ∧ (StepR (bkOf tf sz) T (psOf fg RL rlen eo es ep dp ss pp sg) (psOf fg9 RL9 rl9 eo es ep dp ss pp sg) (fk9, fp9)) ∧ (fk9 = 0 → fg < fg9 ∧ ps9 = (bkOf tf sz).P (fg9.toNat - 1)) ∧ (0 ≤ fg9 ∧ fg9 < kc) ∧ (-1 ≤ fk9 ∧ fk9 ≤ 9) ∧ (BR RL9) ∧ (0 ≤ rl9 ∧ rl9 ≤ 4800)) := by
  refine Ct.of (by decide) (Nat.le_of_ble_eq_true rfl) (lv := [(0, .ref (bk 0))]) rfl ?_
  intro E hE hR hnm
  have hsg : sg ≠ 0 := by omega
  have hkc := hK.1
  have hat := hK.at hfi
  have hrm := hPs.room
  simp only [psOf] at hrm
  rw [rowL_lenI RL hrl] at hrm
  have hp1 := (hPs.2.2.2.2.1 hsg).1
  simp only [psOf] at hp1
  rw [rowL_lenI RL hrl] at hp1
  have hul : (((rowL RL rlen).drop pp.toNat).length : Int) = rlen - pp := by rw [List.length_drop, rowL_len]; omega
  have hk91 : (bkOf tf sz).K fg.toNat = 91 := by rw [← hat.1.1]; exact hkv
  have hnx := hK.nx hfi (by omega)
  refine r_aload_n 1 hE 0 dX0_readCut_0 rfl rfl rfl ?_
  refine r_get 4 hE 0 0 ok0 0 dX0_readCut_1 rfl wd_124 rfl rfl (by decide) rfl ?_
  refine r_callV 7 hE [1] [0, 2] [(wTok g k tpa kk kp kn sz kc fg ps)] [(wBook g bk (k 0) sa2 (r 0) eo es ep dp ss pp sg us fk fp), (wRow g r m RL rlen)] 0 6 ok6 [] (c_X6_pass (by omega) (by omega)) dX0_readCut_4 rfl rfl wd_527 wd_528 wd_529 wd_3 wd_530 ne_X6 np_X6_pass (Nat.le_of_ble_eq_true rfl)  (by decide) (by decide) rfl (Nat.le_of_ble_eq_true rfl) rfl rfl rfl rfl (by decide) rfl (fun v1 f1 hp => ?_)
  obtain ⟨rfl, rfl⟩ := hp
  show G g E _ _ _ [(wTok g k tpa kk kp kn sz kc (fg + 1) (kp fg)), (wBook g bk (k 0) sa2 (r 0) eo es ep dp ss pp sg us fk fp), (wRow g r m RL rlen)] 7 [(0, .ref (bk 0))] []
  refine r_aload_n 8 hE 0 dX0_readCut_7 rfl rfl rfl ?_
  refine r_get 11 hE 1 0 ok0 2 dX0_readCut_8 rfl wd_128 rfl rfl (by decide) rfl ?_
  refine r_get 14 hE 2 0 ok2 1 dX0_readCut_11 rfl wd_116 rfl rfl (by decide) rfl ?_
  refine r_aload_n 15 hE 0 dX0_readCut_14 rfl rfl rfl ?_
  refine r_get 18 hE 1 0 ok0 8 dX0_readCut_15 rfl wd_134 rfl rfl (by decide) rfl ?_
  refine r_isub 19 hE (rlen - pp) dX0_readCut_18 rfl rfl ?_
  refine r_istore_n 20 hE [(1, .int (iI (rlen - pp))), (0, .ref (bk 0))] dX0_readCut_19 rfl rfl (by decide) rfl ?_
  refine r_aload_n 21 hE 1 dX0_readCut_20 rfl rfl rfl ?_
  refine r_iconst 22 hE dX0_readCut_21 rfl ?_
  refine r_iload_n 23 hE 0 dX0_readCut_22 rfl rfl rfl ?_
  refine r_iconst 24 hE dX0_readCut_23 rfl ?_
  refine r_isub 25 hE ((rlen - pp) - 1) dX0_readCut_24 rfl rfl ?_
  refine r_iconst 26 hE dX0_readCut_25 rfl ?_
  refine r_callV 29 hE [1, 0] [2] [(wBook g bk (k 0) sa2 (r 0) eo es ep dp ss pp sg us fk fp), (wTok g k tpa kk kp kn sz kc (fg + 1) (kp fg))] [(wRow g r m RL rlen)] 0 0 ok0 [] (c_X0_readNumber (hK) (by omega) (by omega) (by omega)) dX0_readCut_26 rfl rfl wd_540 wd_542 ws_14 wd_2 wd_543 ne_X0 np_X0_readNumber (Nat.le_of_ble_eq_true rfl)  (by decide) (by decide) rfl (Nat.le_of_ble_eq_true rfl) rfl rfl rfl rfl (by decide) rfl (fun v1 f1 hp => ?_)
  obtain ⟨r9_26, fg9_26, ps9_26, fk9_26, fp9_26, rfl, rfl, h26_0, h26_1, h26_2, h26_3, h26_4⟩ := hp
  show G g E _ _ _ [(wBook g bk (k 0) sa2 (r 0) eo es ep dp ss pp sg us fk9_26 fp9_26), (wTok g k tpa kk kp kn sz kc fg9_26 ps9_26), (wRow g r m RL rlen)] 29 [(1, .int (iI (rlen - pp))), (0, .ref (bk 0))] [.int (iI r9_26)]
  rw [show rlen - pp - 1 = ((((rowL RL rlen).drop pp.toNat).length : Nat) : Int) - 1 by omega] at h26_0
  refine r_istore_n 30 hE [(2, .int (iI r9_26)), (1, .int (iI (rlen - pp))), (0, .ref (bk 0))] dX0_readCut_29 rfl rfl (by decide) rfl ?_
  refine r_aload_n 31 hE 2 dX0_readCut_30 rfl rfl rfl ?_
  refine r_bipush 33 hE dX0_readCut_31 rfl (by decide) ?_
  refine r_callV 36 hE [0, 1] [2] [(wBook g bk (k 0) sa2 (r 0) eo es ep dp ss pp sg us fk9_26 fp9_26), (wTok g k tpa kk kp kn sz kc fg9_26 ps9_26)] [(wRow g r m RL rlen)] 0 0 ok0 [] (c_X0_expect (hK) (h26_1) (h26_4) (by omega)) dX0_readCut_33 rfl rfl wd_532 wd_534 ws_12 wd_2 wd_535 ne_X0 np_X0_expect (Nat.le_of_ble_eq_true rfl)  (by decide) (by decide) rfl (Nat.le_of_ble_eq_true rfl) rfl rfl rfl rfl (by decide) rfl (fun v1 f1 hp => ?_)
  obtain ⟨fg9_33, ps9_33, fk9_33, fp9_33, rfl, rfl, h33_0, h33_1, h33_2, h33_3⟩ := hp
  show G g E _ _ _ [(wBook g bk (k 0) sa2 (r 0) eo es ep dp ss pp sg us fk9_33 fp9_33), (wTok g k tpa kk kp kn sz kc fg9_33 ps9_33), (wRow g r m RL rlen)] 36 [(2, .int (iI r9_26)), (1, .int (iI (rlen - pp))), (0, .ref (bk 0))] []
  refine r_aload_n 37 hE 2 dX0_readCut_36 rfl rfl rfl ?_
  refine r_iconst 38 hE dX0_readCut_37 rfl ?_
  refine r_iload_n 39 hE 1 dX0_readCut_38 rfl rfl rfl ?_
  refine r_iload_n 40 hE 0 dX0_readCut_39 rfl rfl rfl ?_
  refine r_isub 41 hE ((rlen - pp) - r9_26) dX0_readCut_40 rfl rfl ?_
  refine r_iconst 42 hE dX0_readCut_41 rfl ?_
  refine r_callV 45 hE [0, 1] [2] [(wBook g bk (k 0) sa2 (r 0) eo es ep dp ss pp sg us fk9_33 fp9_33), (wTok g k tpa kk kp kn sz kc fg9_33 ps9_33)] [(wRow g r m RL rlen)] 0 0 ok0 [] (c_X0_readNumber (hK) (h33_1) (h33_3) (by omega)) dX0_readCut_42 rfl rfl wd_540 wd_542 ws_14 wd_2 wd_543 ne_X0 np_X0_readNumber (Nat.le_of_ble_eq_true rfl)  (by decide) (by decide) rfl (Nat.le_of_ble_eq_true rfl) rfl rfl rfl rfl (by decide) rfl (fun v1 f1 hp => ?_)
  obtain ⟨r9_42, fg9_42, ps9_42, fk9_42, fp9_42, rfl, rfl, h42_0, h42_1, h42_2, h42_3, h42_4⟩ := hp
  show G g E _ _ _ [(wBook g bk (k 0) sa2 (r 0) eo es ep dp ss pp sg us fk9_42 fp9_42), (wTok g k tpa kk kp kn sz kc fg9_42 ps9_42), (wRow g r m RL rlen)] 45 [(2, .int (iI r9_26)), (1, .int (iI (rlen - pp))), (0, .ref (bk 0))] [.int (iI r9_42)]
  rw [show rlen - pp - r9_26 = ((((rowL RL rlen).drop pp.toNat).length : Nat) : Int) - r9_26 by omega] at h42_0
  refine r_istore_n 46 hE [(3, .int (iI r9_42)), (2, .int (iI r9_26)), (1, .int (iI (rlen - pp))), (0, .ref (bk 0))] dX0_readCut_45 rfl rfl (by decide) rfl ?_
  refine r_aload_n 47 hE 3 dX0_readCut_46 rfl rfl rfl ?_
  refine r_bipush 49 hE dX0_readCut_47 rfl (by decide) ?_
  refine r_callV 52 hE [0, 1] [2] [(wBook g bk (k 0) sa2 (r 0) eo es ep dp ss pp sg us fk9_42 fp9_42), (wTok g k tpa kk kp kn sz kc fg9_42 ps9_42)] [(wRow g r m RL rlen)] 0 0 ok0 [] (c_X0_expect (hK) (h42_1) (h42_4) (by omega)) dX0_readCut_49 rfl rfl wd_532 wd_534 ws_12 wd_2 wd_535 ne_X0 np_X0_expect (Nat.le_of_ble_eq_true rfl)  (by decide) (by decide) rfl (Nat.le_of_ble_eq_true rfl) rfl rfl rfl rfl (by decide) rfl (fun v1 f1 hp => ?_)
  obtain ⟨fg9_49, ps9_49, fk9_49, fp9_49, rfl, rfl, h49_0, h49_1, h49_2, h49_3⟩ := hp
  show G g E _ _ _ [(wBook g bk (k 0) sa2 (r 0) eo es ep dp ss pp sg us fk9_49 fp9_49), (wTok g k tpa kk kp kn sz kc fg9_49 ps9_49), (wRow g r m RL rlen)] 52 [(3, .int (iI r9_42)), (2, .int (iI r9_26)), (1, .int (iI (rlen - pp))), (0, .ref (bk 0))] []
  have hcs := cut_sim (u := (rowL RL rlen).drop pp.toNat) hfi.1 hfk0 h26_0 h33_0 h42_0 h49_0
  rw [hul] at hcs
  refine r_aload_n 53 hE 3 dX0_readCut_52 rfl rfl rfl ?_
  refine r_get 56 hE 0 0 ok0 11 dX0_readCut_53 rfl wd_138 rfl rfl (by decide) rfl ?_
  refine r_if_ne 59 72 hE dX0_readCut_56 rfl (by decide) (by omega) (fun c56 => ?_) (fun c56 => ?_)
  · skip
    have hst : StepR (bkOf tf sz) T (psOf fg RL rlen eo es ep dp ss pp sg) (psOf fg9_49 RL rlen eo es ep dp ss pp sg) (fk9_49, fp9_49) := by rw [hsg1]; exact Or.inr ⟨cut_err hk91 (hcs.2 c56), c56⟩
    refine r_return hE hR [(wBook g bk (k 0) sa2 (r 0) eo es ep dp ss pp sg us fk9_49 fp9_49), (wTok g k tpa kk kp kn sz kc fg9_49 ps9_49), (wRow g r m RL rlen)] dX0_readCut_72 (Nat.le_of_ble_eq_true rfl) (Nat.le_of_ble_eq_true rfl) rfl ?_
    first
      | exact ⟨_, _, _, _, _, _, rfl, rfl, hst, fun q => absurd q c56, h49_1, h49_3, hBR, by omega⟩
      | exact ⟨_, _, _, _, _, _, rfl, rfl, hst, fun _ => ⟨by omega, hpas⟩, h49_1, h49_3, BR_cpy hBR hBR _ _ _, by omega⟩
  · skip
    have hy := hcs.1 c56
    have hpas : ps9_49 = (bkOf tf sz).P (fg9_49.toNat - 1) := by
      rcases h49_2 with z | z
      · rw [z.2, z.1]; congr 1; omega
      · rcases h49_0 with w | w
        · omega
        · have hz : (fk9_49, fp9_49) = blm (fk9_42, fp9_42) (ftAt (bkOf tf sz) fg9_42.toNat 2) := w.2.2
          exact absurd (by rw [← hz]; exact c56) (blm_ne (f := (fk9_42, fp9_42)) (ftAt_ne (bkOf tf sz) fg9_42.toNat))
    refine r_aload_n 60 hE 3 dX0_readCut_59 rfl rfl rfl ?_
    refine r_get 63 hE 0 0 ok0 2 dX0_readCut_60 rfl wd_128 rfl rfl (by decide) rfl ?_
    refine r_aload_n 64 hE 3 dX0_readCut_63 rfl rfl rfl ?_
    refine r_get 67 hE 0 0 ok0 8 dX0_readCut_64 rfl wd_134 rfl rfl (by decide) rfl ?_
    refine r_iload_n 68 hE 1 dX0_readCut_67 rfl rfl rfl ?_
    refine r_iload_n 69 hE 0 dX0_readCut_68 rfl rfl rfl ?_
    refine r_callV 72 hE [2] [0, 1] [(wRow g r m RL rlen)] [(wBook g bk (k 0) sa2 (r 0) eo es ep dp ss pp sg us fk9_49 fp9_49), (wTok g k tpa kk kp kn sz kc fg9_49 ps9_49)] 0 2 ok2 [] (c_X2_cutFrom (by omega) (by omega) (hBR)) dX0_readCut_69 rfl rfl wd_604 wd_605 wd_606 wd_5 wd_607 ne_X2 np_X2_cutFrom (Nat.le_of_ble_eq_true rfl)  (by decide) (by decide) rfl (Nat.le_of_ble_eq_true rfl) rfl rfl rfl rfl (by decide) rfl (fun v1 f1 hp => ?_)
    obtain ⟨rfl, rfl⟩ := hp
    show G g E _ _ _ [(wRow g r m (cpy RL RL (pp + r9_26) pp r9_42) (pp + r9_42)), (wBook g bk (k 0) sa2 (r 0) eo es ep dp ss pp sg us fk9_49 fp9_49), (wTok g k tpa kk kp kn sz kc fg9_49 ps9_49)] 72 [(3, .int (iI r9_42)), (2, .int (iI r9_26)), (1, .int (iI (rlen - pp))), (0, .ref (bk 0))] []
    have hr9 : rowL (cpy RL RL (pp + r9_26) pp r9_42) (pp + r9_42) = (rowL RL rlen).take pp.toNat ++ (((rowL RL rlen).drop pp.toNat).drop r9_26.toNat).take r9_42.toNat := by
      rw [rowL_cpy _ _ (by omega) (by omega), rowL_take _ (by omega), rowL_drop _ (by omega), rowL_drop _ (by omega), rowL_take _ (by omega)]
      congr 1
      exact rowL_cong (fun k _ _ => by congr 1; omega)
    have hst : StepR (bkOf tf sz) T (psOf fg RL rlen eo es ep dp ss pp sg) (psOf fg9_49 (cpy RL RL (pp + r9_26) pp r9_42) (pp + r9_42) eo es ep dp ss pp sg) (fk9_49, fp9_49) := by rw [hsg1]; exact Or.inl ⟨cut_ok hk91 hy.1 hr9, c56⟩
    refine G.to (fs' := [(wBook g bk (k 0) sa2 (r 0) eo es ep dp ss pp sg us fk9_49 fp9_49), (wTok g k tpa kk kp kn sz kc fg9_49 ps9_49), (wRow g r m (cpy RL RL (pp + r9_26) pp r9_42) (pp + r9_42))]) [1, 2, 0] [0, 1, 2, 3] rfl rfl rfl ?_
    refine r_return hE hR [(wBook g bk (k 0) sa2 (r 0) eo es ep dp ss pp sg us fk9_49 fp9_49), (wTok g k tpa kk kp kn sz kc fg9_49 ps9_49), (wRow g r m (cpy RL RL (pp + r9_26) pp r9_42) (pp + r9_42))] dX0_readCut_72 (Nat.le_of_ble_eq_true rfl) (Nat.le_of_ble_eq_true rfl) rfl ?_
    first
      | exact ⟨_, _, _, _, _, _, rfl, rfl, hst, fun q => absurd q c56, h49_1, h49_3, hBR, by omega⟩
      | exact ⟨_, _, _, _, _, _, rfl, rfl, hst, fun _ => ⟨by omega, hpas⟩, h49_1, h49_3, BR_cpy hBR hBR _ _ _, by omega⟩
set_option maxHeartbeats 4000000 in
set_option maxRecDepth 100000 in
theorem c_X0_endProduct {g : Gm} {k : Nat → Nat} {tpa : Nat} {kk kp kn : Int → Int} {sz kc fg ps : Int} {tf : Int → Int} {bk : Nat → Nat} {sa2 : Nat} {eo es ep : Int → Int} {dp ss pp sg us fk fp : Int} {r : Nat → Nat} {m : Nat} {RL : Int → Int} {rlen : Int} {T : List (List Int)} (hK : TkG tf sz kk kp kn kc) (hfi : 0 ≤ fg ∧ fg < kc) (hfk0 : fk = 0) (hPs : PsOk (psOf fg RL rlen eo es ep dp ss pp sg)) (hm48 : (m : Int) = 4800) (hrl : 0 ≤ rlen) (hBR : BR RL) (hdp : 0 ≤ dp ∧ dp ≤ 6) (hEo : R32 eo) (hsg : sg ≠ 0) (hk42 : kk fg ≠ 42) (hk91 : ¬ (kk fg = 91 ∧ sg = 1)) (hps : ps = (bkOf tf sz).P (fg.toNat - 1)) : Ct g 3 0 0 yX0_endProduct cX0_endProduct 2 none [.ref (bk 0), .int (iI (kk fg))] [(wBook g bk (k 0) sa2 (r 0) eo es ep dp ss pp sg us fk fp), (wTok g k tpa kk kp kn sz kc fg ps), (wRow g r m RL rlen)] (fun v_ w_ => ∃ RL9 : Int → Int, ∃ rl9 : Int, ∃ fg9 : Int, ∃ ps9 : Int, ∃ fk9 : Int, ∃ fp9 : Int, ∃ dp9 : Int, ∃ ss9 : Int, ∃ pp9 : Int, ∃ sg9 : Int, v_ = none ∧ w_ = [(wBook g bk (k 0) sa2 (r 0) eo es ep dp9 ss9 pp9 sg9 us fk9 fp9), (wTok g k tpa kk kp kn sz kc fg9 ps9), (wRow g r m RL9 rl9)] ∧ (StepR (bkOf tf sz) T (psOf fg RL rlen eo es ep dp ss pp sg) (psOf fg9 RL9 rl9 eo es ep dp9 ss9 pp9 sg9) (fk9, fp9)) ∧ (fk9 = 0 → fg < fg9 ∧ ps9 = (bkOf tf sz).P (fg9.toNat - 1)) ∧ (0 ≤ fg9 ∧ fg9 < kc) ∧ (-1 ≤ fk9 ∧ fk9 ≤ 9) ∧ (BR RL9) ∧ (0 ≤ rl9 ∧ rl9 ≤ 4800) ∧ (0 ≤ dp9 ∧ dp9 ≤ 6)) := by
  refine Ct.of (by decide) (Nat.le_of_ble_eq_true rfl) (lv := [(0, .ref (bk 0)), (1, .int (iI (kk fg)))]) rfl ?_
  intro E hE hR hnm
  have hkc := hK.1
  have hat := hK.at hfi
  have hrm := hPs.room
  simp only [psOf] at hrm
  rw [rowL_lenI RL hrl] at hrm
  have hp1 := (hPs.2.2.2.2.1 hsg).1
  simp only [psOf] at hp1
  rw [rowL_lenI RL hrl] at hp1
  have hul : (((rowL RL rlen).drop pp.toNat).length : Int) = rlen - pp := by rw [List.length_drop, rowL_len]; omega
  have hK42 : (bkOf tf sz).K fg.toNat ≠ 42 := by rw [← hat.1.1]; exact hk42
  have hK91 : ¬ ((bkOf tf sz).K fg.toNat = 91 ∧ sg = 1) := by rw [← hat.1.1]; exact hk91
  have heq := end_eq (T := T) (RL := RL) (rl := rlen) (eo := eo) (es := es) (ep := ep) (dp := dp) (ss := ss) (pp := pp) hsg hK42 hK91
  have hbd := hPs.2.1
  have hnt := (hPs.2.2.2.2.1 hsg).2
  simp only [psOf] at hbd hnt
  have hble := hbd.le
  refine r_aload_n 1 hE 0 dX0_endProduct_0 rfl rfl rfl ?_
  refine r_get 4 hE 0 0 ok0 2 dX0_endProduct_1 rfl wd_128 rfl rfl (by decide) rfl ?_
  refine r_get 7 hE 2 0 ok2 1 dX0_endProduct_4 rfl wd_116 rfl rfl (by decide) rfl ?_
  refine r_aload_n 8 hE 0 dX0_endProduct_7 rfl rfl rfl ?_
  refine r_get 11 hE 0 0 ok0 7 dX0_endProduct_8 rfl wd_133 rfl rfl (by decide) rfl ?_
  refine r_isub 12 hE (rlen - ss) dX0_endProduct_11 rfl rfl ?_
  refine r_sipush 15 hE dX0_endProduct_12 rfl (by decide) ?_
  refine r_icmp_le 18 33 hE dX0_endProduct_15 rfl (by decide) (by omega) (fun c15 => ?_) (fun c15 => ?_)
  · skip
    refine r_iload_n 34 hE 1 dX0_endProduct_33 rfl rfl rfl ?_
    refine r_bipush 36 hE dX0_endProduct_34 rfl (by decide) ?_
    refine r_icmp_ne 39 65 hE dX0_endProduct_36 rfl (by decide) (by omega) (fun c36 => ?_) (fun c36 => ?_)
    · skip
      refine r_iload_n 66 hE 1 dX0_endProduct_65 rfl rfl rfl ?_
      refine r_bipush 68 hE dX0_endProduct_66 rfl (by decide) ?_
      refine r_icmp_ne 71 137 hE dX0_endProduct_68 rfl (by decide) (by omega) (fun c68 => ?_) (fun c68 => ?_)
      · skip
        refine r_iload_n 138 hE 1 dX0_endProduct_137 rfl rfl rfl ?_
        refine r_bipush 140 hE dX0_endProduct_138 rfl (by decide) ?_
        refine r_icmp_ne 143 165 hE dX0_endProduct_140 rfl (by decide) (by omega) (fun c140 => ?_) (fun c140 => ?_)
        · skip
          refine r_aload_n 166 hE 0 dX0_endProduct_165 rfl rfl rfl ?_
          refine r_callV 169 hE [0, 1] [2] [(wBook g bk (k 0) sa2 (r 0) eo es ep dp ss pp sg us fk fp), (wTok g k tpa kk kp kn sz kc fg ps)] [(wRow g r m RL rlen)] 0 0 ok0 [] (c_X0_blameToken (hK) (by omega) (by omega)) dX0_endProduct_166 rfl rfl wd_536 wd_538 ws_13 wd_2 wd_539 ne_X0 np_X0_blameToken (Nat.le_of_ble_eq_true rfl)  (by decide) (by decide) rfl (Nat.le_of_ble_eq_true rfl) rfl rfl rfl rfl (by decide) rfl (fun v1 f1 hp => ?_)
          obtain ⟨fk9_166, fp9_166, rfl, rfl, h166_0, h166_1⟩ := hp
          show G g E _ _ _ [(wBook g bk (k 0) sa2 (r 0) eo es ep dp ss pp sg us fk9_166 fp9_166), (wTok g k tpa kk kp kn sz kc fg ps), (wRow g r m RL rlen)] 169 [(0, .ref (bk 0)), (1, .int (iI (kk fg)))] []
          rw [blm_0 hfk0] at h166_0
          have hst : StepR (bkOf tf sz) T (psOf fg RL rlen eo es ep dp ss pp sg) (psOf fg RL rlen eo es ep dp ss pp sg) (fk9_166, fp9_166) := Or.inr ⟨by rw [heq, h166_0]; exact end_bad hrl c15 hdp.1 (by rw [← hat.1.1]; exact c36) (by rw [← hat.1.1]; omega) (by rw [← hat.1.1]; omega), by rw [h166_0]; exact ftAt_ne _ _⟩
          have hne : fk9_166 ≠ 0 := by have h8 := ftAt_ne (bkOf tf sz) fg.toNat; rw [← h166_0] at h8; exact h8
          refine r_return hE hR [(wBook g bk (k 0) sa2 (r 0) eo es ep dp ss pp sg us fk9_166 fp9_166), (wTok g k tpa kk kp kn sz kc fg ps), (wRow g r m RL rlen)] dX0_endProduct_169 (Nat.le_of_ble_eq_true rfl) (Nat.le_of_ble_eq_true rfl) rfl ?_
          first
            | exact ⟨_, _, _, _, _, _, _, _, _, _, rfl, rfl, hst, fun q => absurd q hne, hfi, h27_1, hBR, by omega, hdp⟩
            | exact ⟨_, _, _, _, _, _, _, _, _, _, rfl, rfl, hst, fun _ => ⟨by omega, by rw [hat.1.2.1]; congr 1; omega⟩, by omega, by omega, h131_1, by omega, by omega⟩
            | exact ⟨_, _, _, _, _, _, _, _, _, _, rfl, rfl, hst, fun _ => ⟨by omega, by rw [hat.1.2.1]; congr 1; omega⟩, by omega, by omega, hBR, by omega, hdp⟩
            | exact ⟨_, _, _, _, _, _, _, _, _, _, rfl, rfl, hst, fun q => absurd q hne, hfi, h166_1, hBR, by omega, hdp⟩
        · skip
          have hKk : (bkOf tf sz).K fg.toNat = 59 := by rw [← hat.1.1]; exact c140
          have hnx := hK.nx hfi (by omega)
          refine r_aload_n 144 hE 0 dX0_endProduct_143 rfl rfl rfl ?_
          refine r_get 147 hE 0 0 ok0 6 dX0_endProduct_144 rfl wd_132 rfl rfl (by decide) rfl ?_
          refine r_if_ne 150 165 hE dX0_endProduct_147 rfl (by decide) (by omega) (fun c147 => ?_) (fun c147 => ?_)
          · skip
            refine r_aload_n 166 hE 0 dX0_endProduct_165 rfl rfl rfl ?_
            refine r_callV 169 hE [0, 1] [2] [(wBook g bk (k 0) sa2 (r 0) eo es ep dp ss pp sg us fk fp), (wTok g k tpa kk kp kn sz kc fg ps)] [(wRow g r m RL rlen)] 0 0 ok0 [] (c_X0_blameToken (hK) (by omega) (by omega)) dX0_endProduct_166 rfl rfl wd_536 wd_538 ws_13 wd_2 wd_539 ne_X0 np_X0_blameToken (Nat.le_of_ble_eq_true rfl)  (by decide) (by decide) rfl (Nat.le_of_ble_eq_true rfl) rfl rfl rfl rfl (by decide) rfl (fun v1 f1 hp => ?_)
            obtain ⟨fk9_166, fp9_166, rfl, rfl, h166_0, h166_1⟩ := hp
            show G g E _ _ _ [(wBook g bk (k 0) sa2 (r 0) eo es ep dp ss pp sg us fk9_166 fp9_166), (wTok g k tpa kk kp kn sz kc fg ps), (wRow g r m RL rlen)] 169 [(0, .ref (bk 0)), (1, .int (iI (kk fg)))] []
            rw [blm_0 hfk0] at h166_0
            have hst : StepR (bkOf tf sz) T (psOf fg RL rlen eo es ep dp ss pp sg) (psOf fg RL rlen eo es ep dp ss pp sg) (fk9_166, fp9_166) := Or.inr ⟨by rw [heq, h166_0]; exact end_bad hrl c15 hdp.1 (by rw [← hat.1.1]; exact c36) (by rw [← hat.1.1]; omega) (by rw [← hat.1.1]; omega), by rw [h166_0]; exact ftAt_ne _ _⟩
            have hne : fk9_166 ≠ 0 := by have h8 := ftAt_ne (bkOf tf sz) fg.toNat; rw [← h166_0] at h8; exact h8
            refine r_return hE hR [(wBook g bk (k 0) sa2 (r 0) eo es ep dp ss pp sg us fk9_166 fp9_166), (wTok g k tpa kk kp kn sz kc fg ps), (wRow g r m RL rlen)] dX0_endProduct_169 (Nat.le_of_ble_eq_true rfl) (Nat.le_of_ble_eq_true rfl) rfl ?_
            first
              | exact ⟨_, _, _, _, _, _, _, _, _, _, rfl, rfl, hst, fun q => absurd q hne, hfi, h27_1, hBR, by omega, hdp⟩
              | exact ⟨_, _, _, _, _, _, _, _, _, _, rfl, rfl, hst, fun _ => ⟨by omega, by rw [hat.1.2.1]; congr 1; omega⟩, by omega, by omega, h131_1, by omega, by omega⟩
              | exact ⟨_, _, _, _, _, _, _, _, _, _, rfl, rfl, hst, fun _ => ⟨by omega, by rw [hat.1.2.1]; congr 1; omega⟩, by omega, by omega, hBR, by omega, hdp⟩
              | exact ⟨_, _, _, _, _, _, _, _, _, _, rfl, rfl, hst, fun q => absurd q hne, hfi, h166_1, hBR, by omega, hdp⟩
          · skip
            refine r_aload_n 151 hE 0 dX0_endProduct_150 rfl rfl rfl ?_
            refine r_get 154 hE 0 0 ok0 0 dX0_endProduct_151 rfl wd_124 rfl rfl (by decide) rfl ?_
            refine r_callV 157 hE [1] [0, 2] [(wTok g k tpa kk kp kn sz kc fg ps)] [(wBook g bk (k 0) sa2 (r 0) eo es ep dp ss pp sg us fk fp), (wRow g r m RL rlen)] 0 6 ok6 [] (c_X6_pass (by omega) (by omega)) dX0_endProduct_154 rfl rfl wd_527 wd_528 wd_529 wd_3 wd_530 ne_X6 np_X6_pass (Nat.le_of_ble_eq_true rfl)  (by decide) (by decide) rfl (Nat.le_of_ble_eq_true rfl) rfl rfl rfl rfl (by decide) rfl (fun v1 f1 hp => ?_)
            obtain ⟨rfl, rfl⟩ := hp
            show G g E _ _ _ [(wTok g k tpa kk kp kn sz kc (fg + 1) (kp fg)), (wBook g bk (k 0) sa2 (r 0) eo es ep dp ss pp sg us fk fp), (wRow g r m RL rlen)] 157 [(0, .ref (bk 0)), (1, .int (iI (kk fg)))] []
            have hst : StepR (bkOf tf sz) T (psOf fg RL rlen eo es ep dp ss pp sg) (psOf (fg + 1) RL rlen eo es ep dp ss pp 3) (fk, fp) := Or.inl ⟨by rw [heq]; exact end_semi hrl c15 hfi.1 hKk c147, hfk0⟩
            refine r_aload_n 158 hE 0 dX0_endProduct_157 rfl rfl rfl ?_
            refine r_iconst 159 hE dX0_endProduct_158 rfl ?_
            refine r_put 162 hE 1 0 ok0 9 (wBook g bk (k 0) sa2 (r 0) eo es ep dp ss pp 3 us fk fp) [(wTok g k tpa kk kp kn sz kc (fg + 1) (kp fg)), (wBook g bk (k 0) sa2 (r 0) eo es ep dp ss pp 3 us fk fp), (wRow g r m RL rlen)] dX0_endProduct_159 rfl wd_135 rfl rfl (by decide) rfl rfl rfl (Nat.le_of_ble_eq_true rfl) rfl rfl ?_
            refine r_goto 169 hE dX0_endProduct_162 (by decide) ?_
            refine G.to (fs' := [(wBook g bk (k 0) sa2 (r 0) eo es ep dp ss pp 3 us fk fp), (wTok g k tpa kk kp kn sz kc (fg + 1) (kp fg)), (wRow g r m RL rlen)]) [1, 0, 2] [0, 1] rfl rfl rfl ?_
            refine r_return hE hR [(wBook g bk (k 0) sa2 (r 0) eo es ep dp ss pp 3 us fk fp), (wTok g k tpa kk kp kn sz kc (fg + 1) (kp fg)), (wRow g r m RL rlen)] dX0_endProduct_169 (Nat.le_of_ble_eq_true rfl) (Nat.le_of_ble_eq_true rfl) rfl ?_
            first
              | exact ⟨_, _, _, _, _, _, _, _, _, _, rfl, rfl, hst, fun q => absurd q hne, hfi, h27_1, hBR, by omega, hdp⟩
              | exact ⟨_, _, _, _, _, _, _, _, _, _, rfl, rfl, hst, fun _ => ⟨by omega, by rw [hat.1.2.1]; congr 1; omega⟩, by omega, by omega, h131_1, by omega, by omega⟩
              | exact ⟨_, _, _, _, _, _, _, _, _, _, rfl, rfl, hst, fun _ => ⟨by omega, by rw [hat.1.2.1]; congr 1; omega⟩, by omega, by omega, hBR, by omega, hdp⟩
              | exact ⟨_, _, _, _, _, _, _, _, _, _, rfl, rfl, hst, fun q => absurd q hne, hfi, h166_1, hBR, by omega, hdp⟩
      · skip
        have hKk : (bkOf tf sz).K fg.toNat = 41 := by rw [← hat.1.1]; exact c68
        have hnx := hK.nx hfi (by omega)
        refine r_aload_n 72 hE 0 dX0_endProduct_71 rfl rfl rfl ?_
        refine r_get 75 hE 0 0 ok0 6 dX0_endProduct_72 rfl wd_132 rfl rfl (by decide) rfl ?_
        refine r_if_le 78 137 hE dX0_endProduct_75 rfl (by decide) (by omega) (fun c75 => ?_) (fun c75 => ?_)
        · skip
          refine r_iload_n 138 hE 1 dX0_endProduct_137 rfl rfl rfl ?_
          refine r_bipush 140 hE dX0_endProduct_138 rfl (by decide) ?_
          refine r_icmp_ne 143 165 hE dX0_endProduct_140 rfl (by decide) (by omega) (fun c140 => ?_) (fun c140 => ?_)
          · skip
            refine r_aload_n 166 hE 0 dX0_endProduct_165 rfl rfl rfl ?_
            refine r_callV 169 hE [0, 1] [2] [(wBook g bk (k 0) sa2 (r 0) eo es ep dp ss pp sg us fk fp), (wTok g k tpa kk kp kn sz kc fg ps)] [(wRow g r m RL rlen)] 0 0 ok0 [] (c_X0_blameToken (hK) (by omega) (by omega)) dX0_endProduct_166 rfl rfl wd_536 wd_538 ws_13 wd_2 wd_539 ne_X0 np_X0_blameToken (Nat.le_of_ble_eq_true rfl)  (by decide) (by decide) rfl (Nat.le_of_ble_eq_true rfl) rfl rfl rfl rfl (by decide) rfl (fun v1 f1 hp => ?_)
            obtain ⟨fk9_166, fp9_166, rfl, rfl, h166_0, h166_1⟩ := hp
            show G g E _ _ _ [(wBook g bk (k 0) sa2 (r 0) eo es ep dp ss pp sg us fk9_166 fp9_166), (wTok g k tpa kk kp kn sz kc fg ps), (wRow g r m RL rlen)] 169 [(0, .ref (bk 0)), (1, .int (iI (kk fg)))] []
            rw [blm_0 hfk0] at h166_0
            have hst : StepR (bkOf tf sz) T (psOf fg RL rlen eo es ep dp ss pp sg) (psOf fg RL rlen eo es ep dp ss pp sg) (fk9_166, fp9_166) := Or.inr ⟨by rw [heq, h166_0]; exact end_bad hrl c15 hdp.1 (by rw [← hat.1.1]; exact c36) (by rw [← hat.1.1]; omega) (by rw [← hat.1.1]; omega), by rw [h166_0]; exact ftAt_ne _ _⟩
            have hne : fk9_166 ≠ 0 := by have h8 := ftAt_ne (bkOf tf sz) fg.toNat; rw [← h166_0] at h8; exact h8
            refine r_return hE hR [(wBook g bk (k 0) sa2 (r 0) eo es ep dp ss pp sg us fk9_166 fp9_166), (wTok g k tpa kk kp kn sz kc fg ps), (wRow g r m RL rlen)] dX0_endProduct_169 (Nat.le_of_ble_eq_true rfl) (Nat.le_of_ble_eq_true rfl) rfl ?_
            first
              | exact ⟨_, _, _, _, _, _, _, _, _, _, rfl, rfl, hst, fun q => absurd q hne, hfi, h27_1, hBR, by omega, hdp⟩
              | exact ⟨_, _, _, _, _, _, _, _, _, _, rfl, rfl, hst, fun _ => ⟨by omega, by rw [hat.1.2.1]; congr 1; omega⟩, by omega, by omega, h131_1, by omega, by omega⟩
              | exact ⟨_, _, _, _, _, _, _, _, _, _, rfl, rfl, hst, fun _ => ⟨by omega, by rw [hat.1.2.1]; congr 1; omega⟩, by omega, by omega, hBR, by omega, hdp⟩
              | exact ⟨_, _, _, _, _, _, _, _, _, _, rfl, rfl, hst, fun q => absurd q hne, hfi, h166_1, hBR, by omega, hdp⟩
          · skip
            have hKk : (bkOf tf sz).K fg.toNat = 59 := by rw [← hat.1.1]; exact c140
            have hnx := hK.nx hfi (by omega)
            refine r_aload_n 144 hE 0 dX0_endProduct_143 rfl rfl rfl ?_
            refine r_get 147 hE 0 0 ok0 6 dX0_endProduct_144 rfl wd_132 rfl rfl (by decide) rfl ?_
            refine r_if_ne 150 165 hE dX0_endProduct_147 rfl (by decide) (by omega) (fun c147 => ?_) (fun c147 => ?_)
            · skip
              refine r_aload_n 166 hE 0 dX0_endProduct_165 rfl rfl rfl ?_
              refine r_callV 169 hE [0, 1] [2] [(wBook g bk (k 0) sa2 (r 0) eo es ep dp ss pp sg us fk fp), (wTok g k tpa kk kp kn sz kc fg ps)] [(wRow g r m RL rlen)] 0 0 ok0 [] (c_X0_blameToken (hK) (by omega) (by omega)) dX0_endProduct_166 rfl rfl wd_536 wd_538 ws_13 wd_2 wd_539 ne_X0 np_X0_blameToken (Nat.le_of_ble_eq_true rfl)  (by decide) (by decide) rfl (Nat.le_of_ble_eq_true rfl) rfl rfl rfl rfl (by decide) rfl (fun v1 f1 hp => ?_)
              obtain ⟨fk9_166, fp9_166, rfl, rfl, h166_0, h166_1⟩ := hp
              show G g E _ _ _ [(wBook g bk (k 0) sa2 (r 0) eo es ep dp ss pp sg us fk9_166 fp9_166), (wTok g k tpa kk kp kn sz kc fg ps), (wRow g r m RL rlen)] 169 [(0, .ref (bk 0)), (1, .int (iI (kk fg)))] []
              rw [blm_0 hfk0] at h166_0
              have hst : StepR (bkOf tf sz) T (psOf fg RL rlen eo es ep dp ss pp sg) (psOf fg RL rlen eo es ep dp ss pp sg) (fk9_166, fp9_166) := Or.inr ⟨by rw [heq, h166_0]; exact end_bad hrl c15 hdp.1 (by rw [← hat.1.1]; exact c36) (by rw [← hat.1.1]; omega) (by rw [← hat.1.1]; omega), by rw [h166_0]; exact ftAt_ne _ _⟩
              have hne : fk9_166 ≠ 0 := by have h8 := ftAt_ne (bkOf tf sz) fg.toNat; rw [← h166_0] at h8; exact h8
              refine r_return hE hR [(wBook g bk (k 0) sa2 (r 0) eo es ep dp ss pp sg us fk9_166 fp9_166), (wTok g k tpa kk kp kn sz kc fg ps), (wRow g r m RL rlen)] dX0_endProduct_169 (Nat.le_of_ble_eq_true rfl) (Nat.le_of_ble_eq_true rfl) rfl ?_
              first
                | exact ⟨_, _, _, _, _, _, _, _, _, _, rfl, rfl, hst, fun q => absurd q hne, hfi, h27_1, hBR, by omega, hdp⟩
                | exact ⟨_, _, _, _, _, _, _, _, _, _, rfl, rfl, hst, fun _ => ⟨by omega, by rw [hat.1.2.1]; congr 1; omega⟩, by omega, by omega, h131_1, by omega, by omega⟩
                | exact ⟨_, _, _, _, _, _, _, _, _, _, rfl, rfl, hst, fun _ => ⟨by omega, by rw [hat.1.2.1]; congr 1; omega⟩, by omega, by omega, hBR, by omega, hdp⟩
                | exact ⟨_, _, _, _, _, _, _, _, _, _, rfl, rfl, hst, fun q => absurd q hne, hfi, h166_1, hBR, by omega, hdp⟩
            · skip
              refine r_aload_n 151 hE 0 dX0_endProduct_150 rfl rfl rfl ?_
              refine r_get 154 hE 0 0 ok0 0 dX0_endProduct_151 rfl wd_124 rfl rfl (by decide) rfl ?_
              refine r_callV 157 hE [1] [0, 2] [(wTok g k tpa kk kp kn sz kc fg ps)] [(wBook g bk (k 0) sa2 (r 0) eo es ep dp ss pp sg us fk fp), (wRow g r m RL rlen)] 0 6 ok6 [] (c_X6_pass (by omega) (by omega)) dX0_endProduct_154 rfl rfl wd_527 wd_528 wd_529 wd_3 wd_530 ne_X6 np_X6_pass (Nat.le_of_ble_eq_true rfl)  (by decide) (by decide) rfl (Nat.le_of_ble_eq_true rfl) rfl rfl rfl rfl (by decide) rfl (fun v1 f1 hp => ?_)
              obtain ⟨rfl, rfl⟩ := hp
              show G g E _ _ _ [(wTok g k tpa kk kp kn sz kc (fg + 1) (kp fg)), (wBook g bk (k 0) sa2 (r 0) eo es ep dp ss pp sg us fk fp), (wRow g r m RL rlen)] 157 [(0, .ref (bk 0)), (1, .int (iI (kk fg)))] []
              have hst : StepR (bkOf tf sz) T (psOf fg RL rlen eo es ep dp ss pp sg) (psOf (fg + 1) RL rlen eo es ep dp ss pp 3) (fk, fp) := Or.inl ⟨by rw [heq]; exact end_semi hrl c15 hfi.1 hKk c147, hfk0⟩
              refine r_aload_n 158 hE 0 dX0_endProduct_157 rfl rfl rfl ?_
              refine r_iconst 159 hE dX0_endProduct_158 rfl ?_
              refine r_put 162 hE 1 0 ok0 9 (wBook g bk (k 0) sa2 (r 0) eo es ep dp ss pp 3 us fk fp) [(wTok g k tpa kk kp kn sz kc (fg + 1) (kp fg)), (wBook g bk (k 0) sa2 (r 0) eo es ep dp ss pp 3 us fk fp), (wRow g r m RL rlen)] dX0_endProduct_159 rfl wd_135 rfl rfl (by decide) rfl rfl rfl (Nat.le_of_ble_eq_true rfl) rfl rfl ?_
              refine r_goto 169 hE dX0_endProduct_162 (by decide) ?_
              refine G.to (fs' := [(wBook g bk (k 0) sa2 (r 0) eo es ep dp ss pp 3 us fk fp), (wTok g k tpa kk kp kn sz kc (fg + 1) (kp fg)), (wRow g r m RL rlen)]) [1, 0, 2] [0, 1] rfl rfl rfl ?_
              refine r_return hE hR [(wBook g bk (k 0) sa2 (r 0) eo es ep dp ss pp 3 us fk fp), (wTok g k tpa kk kp kn sz kc (fg + 1) (kp fg)), (wRow g r m RL rlen)] dX0_endProduct_169 (Nat.le_of_ble_eq_true rfl) (Nat.le_of_ble_eq_true rfl) rfl ?_
              first
                | exact ⟨_, _, _, _, _, _, _, _, _, _, rfl, rfl, hst, fun q => absurd q hne, hfi, h27_1, hBR, by omega, hdp⟩
                | exact ⟨_, _, _, _, _, _, _, _, _, _, rfl, rfl, hst, fun _ => ⟨by omega, by rw [hat.1.2.1]; congr 1; omega⟩, by omega, by omega, h131_1, by omega, by omega⟩
                | exact ⟨_, _, _, _, _, _, _, _, _, _, rfl, rfl, hst, fun _ => ⟨by omega, by rw [hat.1.2.1]; congr 1; omega⟩, by omega, by omega, hBR, by omega, hdp⟩
                | exact ⟨_, _, _, _, _, _, _, _, _, _, rfl, rfl, hst, fun q => absurd q hne, hfi, h166_1, hBR, by omega, hdp⟩
        · skip
          rw [stkO_pop _ _ _ c75] at hbd hnt
          have hn6 := hnt _ _ rfl
          have hep : ss = ep (dp - 1) ∧ 0 ≤ ep (dp - 1) ∧ ep (dp - 1) ≤ rlen := by
            rcases hbd.2 with z | z
            · have := z.2.1; simp only at this; omega
            · exact absurd z.1 hn6
          refine r_aload_n 79 hE 0 dX0_endProduct_78 rfl rfl rfl ?_
          refine r_get 82 hE 0 0 ok0 6 dX0_endProduct_79 rfl wd_132 rfl rfl (by decide) rfl ?_
          refine r_bipush 84 hE dX0_endProduct_82 rfl (by decide) ?_
          refine r_icmp_gt 87 137 hE dX0_endProduct_84 rfl (by decide) (by omega) (fun c84 => ?_) (fun c84 => ?_)
          · skip
            omega
          · skip
            refine r_aload_n 88 hE 0 dX0_endProduct_87 rfl rfl rfl ?_
            refine r_get 91 hE 0 0 ok0 0 dX0_endProduct_88 rfl wd_124 rfl rfl (by decide) rfl ?_
            refine r_callV 94 hE [1] [0, 2] [(wTok g k tpa kk kp kn sz kc fg ps)] [(wBook g bk (k 0) sa2 (r 0) eo es ep dp ss pp sg us fk fp), (wRow g r m RL rlen)] 0 6 ok6 [] (c_X6_pass (by omega) (by omega)) dX0_endProduct_91 rfl rfl wd_527 wd_528 wd_529 wd_3 wd_530 ne_X6 np_X6_pass (Nat.le_of_ble_eq_true rfl)  (by decide) (by decide) rfl (Nat.le_of_ble_eq_true rfl) rfl rfl rfl rfl (by decide) rfl (fun v1 f1 hp => ?_)
            obtain ⟨rfl, rfl⟩ := hp
            show G g E _ _ _ [(wTok g k tpa kk kp kn sz kc (fg + 1) (kp fg)), (wBook g bk (k 0) sa2 (r 0) eo es ep dp ss pp sg us fk fp), (wRow g r m RL rlen)] 94 [(0, .ref (bk 0)), (1, .int (iI (kk fg)))] []
            refine r_aload_n 95 hE 0 dX0_endProduct_94 rfl rfl rfl ?_
            refine r_dup 96 hE dX0_endProduct_95 rfl rfl ?_
            refine r_get 99 hE 1 0 ok0 6 dX0_endProduct_96 rfl wd_132 rfl rfl (by decide) rfl ?_
            refine r_iconst 100 hE dX0_endProduct_99 rfl ?_
            refine r_isub 101 hE (dp - 1) dX0_endProduct_100 rfl rfl ?_
            refine r_put 104 hE 1 0 ok0 6 (wBook g bk (k 0) sa2 (r 0) eo es ep (dp - 1) ss pp sg us fk fp) [(wTok g k tpa kk kp kn sz kc (fg + 1) (kp fg)), (wBook g bk (k 0) sa2 (r 0) eo es ep (dp - 1) ss pp sg us fk fp), (wRow g r m RL rlen)] dX0_endProduct_101 rfl wd_132 rfl rfl (by decide) rfl rfl rfl (Nat.le_of_ble_eq_true rfl) rfl rfl ?_
            refine r_aload_n 105 hE 0 dX0_endProduct_104 rfl rfl rfl ?_
            refine r_aload_n 106 hE 0 dX0_endProduct_105 rfl rfl rfl ?_
            refine r_get 109 hE 1 0 ok0 4 dX0_endProduct_106 rfl wd_130 rfl rfl (by decide) rfl ?_
            refine r_aload_n 110 hE 0 dX0_endProduct_109 rfl rfl rfl ?_
            refine r_get 113 hE 1 0 ok0 6 dX0_endProduct_110 rfl wd_132 rfl rfl (by decide) rfl ?_
            refine r_iald 114 hE 1 2 dX0_endProduct_113 rfl rfl rfl (by omega) ?_
            refine r_put 117 hE 1 0 ok0 7 (wBook g bk (k 0) sa2 (r 0) eo es ep (dp - 1) (es (dp - 1)) pp sg us fk fp) [(wTok g k tpa kk kp kn sz kc (fg + 1) (kp fg)), (wBook g bk (k 0) sa2 (r 0) eo es ep (dp - 1) (es (dp - 1)) pp sg us fk fp), (wRow g r m RL rlen)] dX0_endProduct_114 rfl wd_133 rfl rfl (by decide) rfl rfl rfl (Nat.le_of_ble_eq_true rfl) rfl rfl ?_
            refine r_aload_n 118 hE 0 dX0_endProduct_117 rfl rfl rfl ?_
            refine r_aload_n 119 hE 0 dX0_endProduct_118 rfl rfl rfl ?_
            refine r_get 122 hE 1 0 ok0 5 dX0_endProduct_119 rfl wd_131 rfl rfl (by decide) rfl ?_
            refine r_aload_n 123 hE 0 dX0_endProduct_122 rfl rfl rfl ?_
            refine r_get 126 hE 1 0 ok0 6 dX0_endProduct_123 rfl wd_132 rfl rfl (by decide) rfl ?_
            refine r_iald 127 hE 1 3 dX0_endProduct_126 rfl rfl rfl (by omega) ?_
            refine r_put 130 hE 1 0 ok0 8 (wBook g bk (k 0) sa2 (r 0) eo es ep (dp - 1) (es (dp - 1)) (ep (dp - 1)) sg us fk fp) [(wTok g k tpa kk kp kn sz kc (fg + 1) (kp fg)), (wBook g bk (k 0) sa2 (r 0) eo es ep (dp - 1) (es (dp - 1)) (ep (dp - 1)) sg us fk fp), (wRow g r m RL rlen)] dX0_endProduct_127 rfl wd_134 rfl rfl (by decide) rfl rfl rfl (Nat.le_of_ble_eq_true rfl) rfl rfl ?_
            refine r_aload_n 131 hE 0 dX0_endProduct_130 rfl rfl rfl ?_
            refine r_callV 134 hE [1, 2] [0] [(wBook g bk (k 0) sa2 (r 0) eo es ep (dp - 1) (es (dp - 1)) (ep (dp - 1)) sg us fk fp), (wRow g r m RL rlen)] [(wTok g k tpa kk kp kn sz kc (fg + 1) (kp fg))] 0 0 ok0 [] (c_X0_endCore (by omega) (by omega) (hBR) (hEo)) dX0_endProduct_131 rfl rfl wd_565 wd_567 ws_17 wd_2 wd_568 ne_X0 np_X0_endCore (Nat.le_of_ble_eq_true rfl)  (by decide) (by decide) rfl (Nat.le_of_ble_eq_true rfl) rfl rfl rfl rfl (by decide) rfl (fun v1 f1 hp => ?_)
            obtain ⟨RL9_131, dp9_131, rfl, rfl, h131_0, h131_1, h131_2⟩ := hp
            show G g E _ _ _ [(wBook g bk (k 0) sa2 (r 0) eo es ep dp9_131 (es (dp - 1)) (ep (dp - 1)) 1 us fk fp), (wRow g r m RL9_131 rlen), (wTok g k tpa kk kp kn sz kc (fg + 1) (kp fg))] 134 [(0, .ref (bk 0)), (1, .int (iI (kk fg)))] []
            have hst : StepR (bkOf tf sz) T (psOf fg RL rlen eo es ep dp ss pp sg) (psOf (fg + 1) RL9_131 rlen eo es ep dp9_131 (es (dp - 1)) (ep (dp - 1)) 1) (fk, fp) := Or.inl ⟨by rw [heq]; exact end_par hrl c15 hfi.1 hKk c75 rfl h131_0, hfk0⟩
            refine r_goto 169 hE dX0_endProduct_134 (by decide) ?_
            refine G.to (fs' := [(wBook g bk (k 0) sa2 (r 0) eo es ep dp9_131 (es (dp - 1)) (ep (dp - 1)) 1 us fk fp), (wTok g k tpa kk kp kn sz kc (fg + 1) (kp fg)), (wRow g r m RL9_131 rlen)]) [0, 2, 1] [0, 1] rfl rfl rfl ?_
            refine r_return hE hR [(wBook g bk (k 0) sa2 (r 0) eo es ep dp9_131 (es (dp - 1)) (ep (dp - 1)) 1 us fk fp), (wTok g k tpa kk kp kn sz kc (fg + 1) (kp fg)), (wRow g r m RL9_131 rlen)] dX0_endProduct_169 (Nat.le_of_ble_eq_true rfl) (Nat.le_of_ble_eq_true rfl) rfl ?_
            first
              | exact ⟨_, _, _, _, _, _, _, _, _, _, rfl, rfl, hst, fun q => absurd q hne, hfi, h27_1, hBR, by omega, hdp⟩
              | exact ⟨_, _, _, _, _, _, _, _, _, _, rfl, rfl, hst, fun _ => ⟨by omega, by rw [hat.1.2.1]; congr 1; omega⟩, by omega, by omega, h131_1, by omega, by omega⟩
              | exact ⟨_, _, _, _, _, _, _, _, _, _, rfl, rfl, hst, fun _ => ⟨by omega, by rw [hat.1.2.1]; congr 1; omega⟩, by omega, by omega, hBR, by omega, hdp⟩
              | exact ⟨_, _, _, _, _, _, _, _, _, _, rfl, rfl, hst, fun q => absurd q hne, hfi, h166_1, hBR, by omega, hdp⟩
    · skip
      have hKk : (bkOf tf sz).K fg.toNat = 43 := by rw [← hat.1.1]; exact c36
      have hnx := hK.nx hfi (by omega)
      refine r_aload_n 40 hE 0 dX0_endProduct_39 rfl rfl rfl ?_
      refine r_get 43 hE 0 0 ok0 0 dX0_endProduct_40 rfl wd_124 rfl rfl (by decide) rfl ?_
      refine r_callV 46 hE [1] [0, 2] [(wTok g k tpa kk kp kn sz kc fg ps)] [(wBook g bk (k 0) sa2 (r 0) eo es ep dp ss pp sg us fk fp), (wRow g r m RL rlen)] 0 6 ok6 [] (c_X6_pass (by omega) (by omega)) dX0_endProduct_43 rfl rfl wd_527 wd_528 wd_529 wd_3 wd_530 ne_X6 np_X6_pass (Nat.le_of_ble_eq_true rfl)  (by decide) (by decide) rfl (Nat.le_of_ble_eq_true rfl) rfl rfl rfl rfl (by decide) rfl (fun v1 f1 hp => ?_)
      obtain ⟨rfl, rfl⟩ := hp
      show G g E _ _ _ [(wTok g k tpa kk kp kn sz kc (fg + 1) (kp fg)), (wBook g bk (k 0) sa2 (r 0) eo es ep dp ss pp sg us fk fp), (wRow g r m RL rlen)] 46 [(0, .ref (bk 0)), (1, .int (iI (kk fg)))] []
      have hst : StepR (bkOf tf sz) T (psOf fg RL rlen eo es ep dp ss pp sg) (psOf (fg + 1) RL rlen eo es ep dp ss rlen 0) (fk, fp) := Or.inl ⟨by rw [heq]; exact end_plus hrl c15 hfi.1 hKk, hfk0⟩
      refine r_aload_n 47 hE 0 dX0_endProduct_46 rfl rfl rfl ?_
      refine r_aload_n 48 hE 0 dX0_endProduct_47 rfl rfl rfl ?_
      refine r_get 51 hE 1 0 ok0 2 dX0_endProduct_48 rfl wd_128 rfl rfl (by decide) rfl ?_
      refine r_get 54 hE 2 0 ok2 1 dX0_endProduct_51 rfl wd_116 rfl rfl (by decide) rfl ?_
      refine r_put 57 hE 1 0 ok0 8 (wBook g bk (k 0) sa2 (r 0) eo es ep dp ss rlen sg us fk fp) [(wTok g k tpa kk kp kn sz kc (fg + 1) (kp fg)), (wBook g bk (k 0) sa2 (r 0) eo es ep dp ss rlen sg us fk fp), (wRow g r m RL rlen)] dX0_endProduct_54 rfl wd_134 rfl rfl (by decide) rfl rfl rfl (Nat.le_of_ble_eq_true rfl) rfl rfl ?_
      refine r_aload_n 58 hE 0 dX0_endProduct_57 rfl rfl rfl ?_
      refine r_iconst 59 hE dX0_endProduct_58 rfl ?_
      refine r_put 62 hE 1 0 ok0 9 (wBook g bk (k 0) sa2 (r 0) eo es ep dp ss rlen 0 us fk fp) [(wTok g k tpa kk kp kn sz kc (fg + 1) (kp fg)), (wBook g bk (k 0) sa2 (r 0) eo es ep dp ss rlen 0 us fk fp), (wRow g r m RL rlen)] dX0_endProduct_59 rfl wd_135 rfl rfl (by decide) rfl rfl rfl (Nat.le_of_ble_eq_true rfl) rfl rfl ?_
      refine r_goto 169 hE dX0_endProduct_62 (by decide) ?_
      refine G.to (fs' := [(wBook g bk (k 0) sa2 (r 0) eo es ep dp ss rlen 0 us fk fp), (wTok g k tpa kk kp kn sz kc (fg + 1) (kp fg)), (wRow g r m RL rlen)]) [1, 0, 2] [0, 1] rfl rfl rfl ?_
      refine r_return hE hR [(wBook g bk (k 0) sa2 (r 0) eo es ep dp ss rlen 0 us fk fp), (wTok g k tpa kk kp kn sz kc (fg + 1) (kp fg)), (wRow g r m RL rlen)] dX0_endProduct_169 (Nat.le_of_ble_eq_true rfl) (Nat.le_of_ble_eq_true rfl) rfl ?_
      first
        | exact ⟨_, _, _, _, _, _, _, _, _, _, rfl, rfl, hst, fun q => absurd q hne, hfi, h27_1, hBR, by omega, hdp⟩
        | exact ⟨_, _, _, _, _, _, _, _, _, _, rfl, rfl, hst, fun _ => ⟨by omega, by rw [hat.1.2.1]; congr 1; omega⟩, by omega, by omega, h131_1, by omega, by omega⟩
        | exact ⟨_, _, _, _, _, _, _, _, _, _, rfl, rfl, hst, fun _ => ⟨by omega, by rw [hat.1.2.1]; congr 1; omega⟩, by omega, by omega, hBR, by omega, hdp⟩
        | exact ⟨_, _, _, _, _, _, _, _, _, _, rfl, rfl, hst, fun q => absurd q hne, hfi, h166_1, hBR, by omega, hdp⟩
  · skip
    refine r_aload_n 19 hE 0 dX0_endProduct_18 rfl rfl rfl ?_
    refine r_iconst 20 hE dX0_endProduct_19 rfl ?_
    refine r_aload_n 21 hE 0 dX0_endProduct_20 rfl rfl rfl ?_
    refine r_get 24 hE 0 0 ok0 0 dX0_endProduct_21 rfl wd_124 rfl rfl (by decide) rfl ?_
    refine r_get 27 hE 1 0 ok6 7 dX0_endProduct_24 rfl wd_49 rfl rfl (by decide) rfl ?_
    refine r_callV 30 hE [0] [1, 2] [(wBook g bk (k 0) sa2 (r 0) eo es ep dp ss pp sg us fk fp)] [(wTok g k tpa kk kp kn sz kc fg ps), (wRow g r m RL rlen)] 0 0 ok0 [] (c_X0_blame (by omega) (by omega)) dX0_endProduct_27 rfl rfl wd_523 wd_525 ws_11 wd_2 wd_526 ne_X0 np_X0_blame (Nat.le_of_ble_eq_true rfl)  (by decide) (by decide) rfl (Nat.le_of_ble_eq_true rfl) rfl rfl rfl rfl (by decide) rfl (fun v1 f1 hp => ?_)
    obtain ⟨fk9_27, fp9_27, rfl, rfl, h27_0, h27_1⟩ := hp
    show G g E _ _ _ [(wBook g bk (k 0) sa2 (r 0) eo es ep dp ss pp sg us fk9_27 fp9_27), (wTok g k tpa kk kp kn sz kc fg ps), (wRow g r m RL rlen)] 30 [(0, .ref (bk 0)), (1, .int (iI (kk fg)))] []
    rw [blm_0 hfk0] at h27_0
    have hst : StepR (bkOf tf sz) T (psOf fg RL rlen eo es ep dp ss pp sg) (psOf fg RL rlen eo es ep dp ss pp sg) (fk9_27, fp9_27) := Or.inr ⟨by rw [heq, h27_0, hps]; exact end_long hrl c15, by rw [h27_0]; show (5 : Int) ≠ 0; decide⟩
    have hne : fk9_27 ≠ 0 := by have := congrArg Prod.fst h27_0; simp only at this; omega
    refine r_goto 169 hE dX0_endProduct_30 (by decide) ?_
    refine r_return hE hR [(wBook g bk (k 0) sa2 (r 0) eo es ep dp ss pp sg us fk9_27 fp9_27), (wTok g k tpa kk kp kn sz kc fg ps), (wRow g r m RL rlen)] dX0_endProduct_169 (Nat.le_of_ble_eq_true rfl) (Nat.le_of_ble_eq_true rfl) rfl ?_
    first
      | exact ⟨_, _, _, _, _, _, _, _, _, _, rfl, rfl, hst, fun q => absurd q hne, hfi, h27_1, hBR, by omega, hdp⟩
      | exact ⟨_, _, _, _, _, _, _, _, _, _, rfl, rfl, hst, fun _ => ⟨by omega, by rw [hat.1.2.1]; congr 1; omega⟩, by omega, by omega, h131_1, by omega, by omega⟩
      | exact ⟨_, _, _, _, _, _, _, _, _, _, rfl, rfl, hst, fun _ => ⟨by omega, by rw [hat.1.2.1]; congr 1; omega⟩, by omega, by omega, hBR, by omega, hdp⟩
      | exact ⟨_, _, _, _, _, _, _, _, _, _, rfl, rfl, hst, fun q => absurd q hne, hfi, h166_1, hBR, by omega, hdp⟩
