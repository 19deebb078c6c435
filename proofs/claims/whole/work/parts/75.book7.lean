set_option maxHeartbeats 4000000 in
set_option maxRecDepth 100000 in
theorem c_X0_readQuote {g : Gm} {k : Nat → Nat} {tpa : Nat} {kk kp kn : Int → Int} {sz kc fg ps : Int} {tf : Int → Int} {bk : Nat → Nat} {sa2 : Nat} {eo es ep : Int → Int} {dp ss pp sg us fk fp : Int} {r : Nat → Nat} {m : Nat} {RL : Int → Int} {rlen : Int} (hK : TkG tf sz kk kp kn kc) (hfi : 0 ≤ fg ∧ fg < kc) (hfk0 : fk = 0) (hRw : 0 ≤ rlen ∧ rlen ≤ 4200 ∧ (m : Int) = 4800) (hBR : BR RL) (h6 : kk fg = 6) : Ct g 2 0 0 yX0_readQuote cX0_readQuote 3 none [.ref (bk 0)] [(wBook g bk (k 0) sa2 (r 0) eo es ep dp ss pp sg us fk fp), (wTok g k tpa kk kp kn sz kc fg ps), (wBytes g tpa 900 tf), (wRow g r m RL rlen)] (fun v_ w_ => ∃ RL9 : Int → Int, ∃ rl9 : Int, ∃ fg9 : Int, ∃ ps9 : Int, ∃ fk9 : Int, ∃ fp9 : Int, v_ = none ∧ w_ = [(wBook g bk (k 0) sa2 (r 0) eo es ep dp ss pp sg us fk9 fp9), (wTok g k tpa kk kp kn sz kc fg9 ps9), (wBytes g tpa 900 tf), (wRow g r m RL9 rl9)] ∧ ((600 < (bkOf tf sz).V fg.toNat ∧ (fk9, fp9) = (5, (bkOf tf sz).P fg.toNat) ∧ rl9 = rlen ∧ fg9 = fg) ∨ ((bkOf tf sz).V fg.toNat ≤ 600 ∧ fk9 = 0 ∧ rowL RL9 rl9 = rowL RL rlen ++ (bkOf tf sz).Q fg.toNat ∧ fg9 = fg + 1 ∧ ps9 = (bkOf tf sz).P fg.toNat)) ∧ (BR RL9) ∧ (rlen ≤ rl9 ∧ rl9 ≤ rlen + 600) ∧ (0 ≤ fg9 ∧ fg9 < kc) ∧ (-1 ≤ fk9 ∧ fk9 ≤ 9)) := by
  refine Ct.of (by decide) (Nat.le_of_ble_eq_true rfl) (lv := [(0, .ref (bk 0))]) rfl ?_
  intro E hE hR hnm
  have hkc := hK.1
  have hat := hK.at hfi
  have hk6 : tkK tf sz fg.toNat = 6 := by have h9 := hat.1.1; rw [h6] at h9; exact h9.symm
  have hq := qt_at hk6
  have hV : kn fg = tkV tf sz fg.toNat := hat.1.2.2
  have hP : kp fg = tkB tf sz fg.toNat := hat.1.2.1
  have hszz := hK.2.2.2.1
  have hnx := hK.nx hfi (by omega)
  have cut30 : ∀ (N : Nat) (i : Int) (RL9 : Int → Int), (1 ≤ i ∧ i ≤ kn fg + 1) → (kn fg ≤ 600) → (rowL RL9 (rlen + (i - 1)) = rowL RL rlen ++ rowL (fun j => tf (kp fg + 1 + j) - 97) (i - 1)) → (BR RL9) → (kn fg + 1 - i).toNat < N → G g E 3 0 0 [(wBook g bk (k 0) sa2 (r 0) eo es ep dp ss pp sg us fk fp), (wTok g k tpa kk kp kn sz kc fg ps), (wBytes g tpa 900 tf), (wRow g r m RL9 (rlen + (i - 1)))] 30 [(0, .ref (bk 0)), (1, .int (iI (kn fg))), (2, .int (iI i))] [] := by
    intro N
    induction N with
    | zero => intro i RL9 _ _ _ _ hN; exact absurd hN (Nat.not_lt_zero _)
    | succ N ih30 =>
      intro i RL9 hi hv6 hv hB9 hN
      refine r_iload_n 31 hE 2 dX0_readQuote_30 rfl rfl rfl ?_
      refine r_iload_n 32 hE 1 dX0_readQuote_31 rfl rfl rfl ?_
      refine r_icmp_gt 35 67 hE dX0_readQuote_32 rfl (by decide) (by omega) (fun c32 => ?_) (fun c32 => ?_)
      · skip
        refine r_aload_n 68 hE 0 dX0_readQuote_67 rfl rfl rfl ?_
        refine r_get 71 hE 0 0 ok0 0 dX0_readQuote_68 rfl wd_124 rfl rfl (by decide) rfl ?_
        refine r_callV 74 hE [1] [0, 2, 3] [(wTok g k tpa kk kp kn sz kc fg ps)] [(wBook g bk (k 0) sa2 (r 0) eo es ep dp ss pp sg us fk fp), (wBytes g tpa 900 tf), (wRow g r m RL9 (rlen + (i - 1)))] 0 6 ok6 [] (c_X6_pass (by omega) (by omega)) dX0_readQuote_71 rfl rfl wd_527 wd_528 wd_529 wd_3 wd_530 ne_X6 np_X6_pass (Nat.le_of_ble_eq_true rfl)  (by decide) (by decide) rfl (Nat.le_of_ble_eq_true rfl) rfl rfl rfl rfl (by decide) rfl (fun v1 f1 hp => ?_)
        obtain ⟨rfl, rfl⟩ := hp
        show G g E _ _ _ [(wTok g k tpa kk kp kn sz kc (fg + 1) (kp fg)), (wBook g bk (k 0) sa2 (r 0) eo es ep dp ss pp sg us fk fp), (wBytes g tpa 900 tf), (wRow g r m RL9 (rlen + (i - 1)))] 74 [(0, .ref (bk 0)), (1, .int (iI (kn fg))), (2, .int (iI i))] []
        refine G.to (fs' := [(wBook g bk (k 0) sa2 (r 0) eo es ep dp ss pp sg us fk fp), (wTok g k tpa kk kp kn sz kc (fg + 1) (kp fg)), (wBytes g tpa 900 tf), (wRow g r m RL9 (rlen + (i - 1)))]) [1, 0, 2, 3] [0, 1, 2] rfl rfl rfl ?_
        refine r_return hE hR [(wBook g bk (k 0) sa2 (r 0) eo es ep dp ss pp sg us fk fp), (wTok g k tpa kk kp kn sz kc (fg + 1) (kp fg)), (wBytes g tpa 900 tf), (wRow g r m RL9 (rlen + (i - 1)))] dX0_readQuote_74 (Nat.le_of_ble_eq_true rfl) (Nat.le_of_ble_eq_true rfl) rfl ?_
        have hie : i = kn fg + 1 := by omega
        subst hie
        rw [show kn fg + 1 - 1 = kn fg by omega] at hv
        refine ⟨_, _, _, _, _, _, rfl, rfl, Or.inr ⟨by rw [← hat.1.2.2]; exact hv6, hfk0, ?_, rfl, hat.1.2.1⟩, hB9, by omega, by omega, by omega⟩
        rw [show rlen + (kn fg + 1 - 1) = rlen + kn fg by omega, hv]
        congr 1
        rw [hV, hP]
        rfl
      · skip
        have hqi := hq.2 (i - 1) (by omega) (by omega)
        rw [← hP, show kp fg + 1 + (i - 1) = kp fg + i by omega] at hqi
        have hv2 : rowL (up RL9 (rlen + (i - 1)) (tf (kp fg + i) - 97)) (rlen + (i + 1 - 1)) = rowL RL rlen ++ rowL (fun j => tf (kp fg + 1 + j) - 97) (i + 1 - 1) := by
          rw [show rlen + (i + 1 - 1) = rlen + (i - 1) + 1 by omega, rowL_up _ _ (by omega), hv, show i + 1 - 1 = (i - 1) + 1 by omega, rowL_app _ (by omega) (by omega), rowL_one, List.append_assoc]
          congr 3
          rw [show kp fg + 1 + (i - 1 + 0) = kp fg + i by omega]
        have hB2 : BR (up RL9 (rlen + (i - 1)) (tf (kp fg + i) - 97)) := BR_up hB9 _ (by omega)
        refine r_aload_n 36 hE 0 dX0_readQuote_35 rfl rfl rfl ?_
        refine r_get 39 hE 0 0 ok0 2 dX0_readQuote_36 rfl wd_128 rfl rfl (by decide) rfl ?_
        refine r_aload_n 40 hE 0 dX0_readQuote_39 rfl rfl rfl ?_
        refine r_get 43 hE 0 0 ok0 0 dX0_readQuote_40 rfl wd_124 rfl rfl (by decide) rfl ?_
        refine r_aload_n 44 hE 0 dX0_readQuote_43 rfl rfl rfl ?_
        refine r_get 47 hE 0 0 ok0 0 dX0_readQuote_44 rfl wd_124 rfl rfl (by decide) rfl ?_
        refine r_callV 50 hE [1] [0, 2, 3] [(wTok g k tpa kk kp kn sz kc fg ps)] [(wBook g bk (k 0) sa2 (r 0) eo es ep dp ss pp sg us fk fp), (wBytes g tpa 900 tf), (wRow g r m RL9 (rlen + (i - 1)))] 0 6 ok6 [.ref (k 0), .ref (r 0)] (c_X6_place (by omega)) dX0_readQuote_47 rfl rfl wd_519 wd_520 wd_521 wd_3 wd_522 ne_X6 np_X6_place (Nat.le_of_ble_eq_true rfl)  (by decide) (by decide) rfl (Nat.le_of_ble_eq_true rfl) rfl rfl rfl rfl (by decide) rfl (fun v1 f1 hp => ?_)
        obtain ⟨rfl, rfl⟩ := hp
        show G g E _ _ _ [(wTok g k tpa kk kp kn sz kc fg ps), (wBook g bk (k 0) sa2 (r 0) eo es ep dp ss pp sg us fk fp), (wBytes g tpa 900 tf), (wRow g r m RL9 (rlen + (i - 1)))] 50 [(0, .ref (bk 0)), (1, .int (iI (kn fg))), (2, .int (iI i))] [.int (iI (kp fg)), .ref (k 0), .ref (r 0)]
        refine r_iload_n 51 hE 2 dX0_readQuote_50 rfl rfl rfl ?_
        refine r_iadd 52 hE ((kp fg) + i) dX0_readQuote_51 rfl rfl ?_
        refine r_callV 55 hE [0, 2] [1, 3] [(wTok g k tpa kk kp kn sz kc fg ps), (wBytes g tpa 900 tf)] [(wBook g bk (k 0) sa2 (r 0) eo es ep dp ss pp sg us fk fp), (wRow g r m RL9 (rlen + (i - 1)))] 0 6 ok6 [.ref (r 0)] (c_X6_byteAt (by omega) (by omega)) dX0_readQuote_52 rfl rfl wd_560 wd_364 wd_365 wd_3 wd_366 ne_X6 np_X6_byteAt (Nat.le_of_ble_eq_true rfl)  (by decide) (by decide) rfl (Nat.le_of_ble_eq_true rfl) rfl rfl rfl rfl (by decide) rfl (fun v1 f1 hp => ?_)
        obtain ⟨rfl, rfl⟩ := hp
        show G g E _ _ _ [(wTok g k tpa kk kp kn sz kc fg ps), (wBytes g tpa 900 tf), (wBook g bk (k 0) sa2 (r 0) eo es ep dp ss pp sg us fk fp), (wRow g r m RL9 (rlen + (i - 1)))] 55 [(0, .ref (bk 0)), (1, .int (iI (kn fg))), (2, .int (iI i))] [.int (iI (bA tf sz ((kp fg) + i))), .ref (r 0)]
        rw [show (bA tf sz ((kp fg) + i) : Int) = tf (kp fg + i) from bA_in (by omega)]
        refine r_bipush 57 hE dX0_readQuote_55 rfl (by decide) ?_
        refine r_isub 58 hE ((tf (kp fg + i)) - 97) dX0_readQuote_57 rfl rfl ?_
        refine r_callV 61 hE [3] [0, 1, 2] [(wRow g r m RL9 (rlen + (i - 1)))] [(wTok g k tpa kk kp kn sz kc fg ps), (wBytes g tpa 900 tf), (wBook g bk (k 0) sa2 (r 0) eo es ep dp ss pp sg us fk fp)] 0 2 ok2 [] (c_X2_addLetter (by omega) (by omega) (by omega)) dX0_readQuote_58 rfl rfl wd_561 wd_562 wd_563 wd_5 wd_564 ne_X2 np_X2_addLetter (Nat.le_of_ble_eq_true rfl)  (by decide) (by decide) rfl (Nat.le_of_ble_eq_true rfl) rfl rfl rfl rfl (by decide) rfl (fun v1 f1 hp => ?_)
        obtain ⟨rfl, rfl⟩ := hp
        show G g E _ _ _ [(wRow g r m (up RL9 (rlen + (i - 1)) ((tf (kp fg + i)) - 97)) ((rlen + (i - 1)) + 1)), (wTok g k tpa kk kp kn sz kc fg ps), (wBytes g tpa 900 tf), (wBook g bk (k 0) sa2 (r 0) eo es ep dp ss pp sg us fk fp)] 61 [(0, .ref (bk 0)), (1, .int (iI (kn fg))), (2, .int (iI i))] []
        refine r_iinc 64 hE 2 (i + 1) [(2, .int (iI (i + 1))), (0, .ref (bk 0)), (1, .int (iI (kn fg)))] dX0_readQuote_61 rfl rfl rfl (by decide) rfl ?_
        refine r_goto 30 hE dX0_readQuote_64 (by decide) ?_
        refine G.to (fs' := [(wBook g bk (k 0) sa2 (r 0) eo es ep dp ss pp sg us fk fp), (wTok g k tpa kk kp kn sz kc fg ps), (wBytes g tpa 900 tf), (wRow g r m (up RL9 (rlen + (i - 1)) ((tf (kp fg + i)) - 97)) ((rlen + (i - 1)) + 1))]) (lv' := [(0, .ref (bk 0)), (1, .int (iI (kn fg))), (2, .int (iI (i + 1)))]) [3, 1, 2, 0] [1, 2, 0] rfl rfl rfl ?_
        refine G.cast (fs' := [(wBook g bk (k 0) sa2 (r 0) eo es ep dp ss pp sg us fk fp), (wTok g k tpa kk kp kn sz kc fg ps), (wBytes g tpa 900 tf), (wRow g r m (up RL9 (rlen + (i - 1)) ((tf (kp fg + i)) - 97)) (rlen + ((i + 1) - 1)))]) (lv' := [(0, .ref (bk 0)), (1, .int (iI (kn fg))), (2, .int (iI (i + 1)))]) (by first | rw [show rlen + (i - 1) + 1 = rlen + (i + 1 - 1) by omega] | rw [show rlen + ((1 : Int) - 1) = rlen by omega]) rfl ?_
        exact ih30 (i + 1) (up RL9 (rlen + (i - 1)) ((tf (kp fg + i)) - 97)) (by omega) (by omega) (by first | exact hv2 | (rw [show (1 : Int) - 1 = 0 from rfl, Int.add_zero, rowL_nil (n := 0) _ (by omega), List.append_nil])) (by first | exact hB2 | exact hBR) (by omega)
  refine r_aload_n 1 hE 0 dX0_readQuote_0 rfl rfl rfl ?_
  refine r_get 4 hE 0 0 ok0 0 dX0_readQuote_1 rfl wd_124 rfl rfl (by decide) rfl ?_
  refine r_callV 7 hE [1] [0, 2, 3] [(wTok g k tpa kk kp kn sz kc fg ps)] [(wBook g bk (k 0) sa2 (r 0) eo es ep dp ss pp sg us fk fp), (wBytes g tpa 900 tf), (wRow g r m RL rlen)] 0 6 ok6 [] (c_X6_number (by omega)) dX0_readQuote_4 rfl rfl wd_544 wd_545 wd_546 wd_3 wd_547 ne_X6 np_X6_number (Nat.le_of_ble_eq_true rfl)  (by decide) (by decide) rfl (Nat.le_of_ble_eq_true rfl) rfl rfl rfl rfl (by decide) rfl (fun v1 f1 hp => ?_)
  obtain ⟨rfl, rfl⟩ := hp
  show G g E _ _ _ [(wTok g k tpa kk kp kn sz kc fg ps), (wBook g bk (k 0) sa2 (r 0) eo es ep dp ss pp sg us fk fp), (wBytes g tpa 900 tf), (wRow g r m RL rlen)] 7 [(0, .ref (bk 0))] [.int (iI (kn fg))]
  refine r_istore_n 8 hE [(1, .int (iI (kn fg))), (0, .ref (bk 0))] dX0_readQuote_7 rfl rfl (by decide) rfl ?_
  refine r_iload_n 9 hE 0 dX0_readQuote_8 rfl rfl rfl ?_
  refine r_sipush 12 hE dX0_readQuote_9 rfl (by decide) ?_
  refine r_icmp_le 15 28 hE dX0_readQuote_12 rfl (by decide) (by omega) (fun c12 => ?_) (fun c12 => ?_)
  · skip
    refine r_iconst 29 hE dX0_readQuote_28 rfl ?_
    refine r_istore_n 30 hE [(2, .int (iI 1)), (1, .int (iI (kn fg))), (0, .ref (bk 0))] dX0_readQuote_29 rfl rfl (by decide) rfl ?_
    refine G.to (fs' := [(wBook g bk (k 0) sa2 (r 0) eo es ep dp ss pp sg us fk fp), (wTok g k tpa kk kp kn sz kc fg ps), (wBytes g tpa 900 tf), (wRow g r m RL rlen)]) (lv' := [(0, .ref (bk 0)), (1, .int (iI (kn fg))), (2, .int (iI 1))]) [1, 0, 2, 3] [2, 1, 0] rfl rfl rfl ?_
    refine G.cast (fs' := [(wBook g bk (k 0) sa2 (r 0) eo es ep dp ss pp sg us fk fp), (wTok g k tpa kk kp kn sz kc fg ps), (wBytes g tpa 900 tf), (wRow g r m RL (rlen + (1 - 1)))]) (lv' := [(0, .ref (bk 0)), (1, .int (iI (kn fg))), (2, .int (iI 1))]) (by first | rw [show rlen + (i - 1) + 1 = rlen + (i + 1 - 1) by omega] | rw [show rlen + ((1 : Int) - 1) = rlen by omega]) rfl ?_
    exact cut30 _ 1 RL (by omega) (by omega) (by first | exact hv2 | (rw [show (1 : Int) - 1 = 0 from rfl, Int.add_zero, rowL_nil (n := 0) _ (by omega), List.append_nil])) (by first | exact hB2 | exact hBR) (Nat.lt_succ_self _)
  · skip
    refine r_aload_n 16 hE 1 dX0_readQuote_15 rfl rfl rfl ?_
    refine r_iconst 17 hE dX0_readQuote_16 rfl ?_
    refine r_aload_n 18 hE 1 dX0_readQuote_17 rfl rfl rfl ?_
    refine r_get 21 hE 1 0 ok0 0 dX0_readQuote_18 rfl wd_124 rfl rfl (by decide) rfl ?_
    refine r_callV 24 hE [0] [1, 2, 3] [(wTok g k tpa kk kp kn sz kc fg ps)] [(wBook g bk (k 0) sa2 (r 0) eo es ep dp ss pp sg us fk fp), (wBytes g tpa 900 tf), (wRow g r m RL rlen)] 0 6 ok6 [.int (iI 5), .ref (bk 0)] (c_X6_place (by omega)) dX0_readQuote_21 rfl rfl wd_519 wd_520 wd_521 wd_3 wd_522 ne_X6 np_X6_place (Nat.le_of_ble_eq_true rfl)  (by decide) (by decide) rfl (Nat.le_of_ble_eq_true rfl) rfl rfl rfl rfl (by decide) rfl (fun v1 f1 hp => ?_)
    obtain ⟨rfl, rfl⟩ := hp
    show G g E _ _ _ [(wTok g k tpa kk kp kn sz kc fg ps), (wBook g bk (k 0) sa2 (r 0) eo es ep dp ss pp sg us fk fp), (wBytes g tpa 900 tf), (wRow g r m RL rlen)] 24 [(1, .int (iI (kn fg))), (0, .ref (bk 0))] [.int (iI (kp fg)), .int (iI 5), .ref (bk 0)]
    refine r_callV 27 hE [1] [0, 2, 3] [(wBook g bk (k 0) sa2 (r 0) eo es ep dp ss pp sg us fk fp)] [(wTok g k tpa kk kp kn sz kc fg ps), (wBytes g tpa 900 tf), (wRow g r m RL rlen)] 0 0 ok0 [] (c_X0_blame (by omega) (by omega)) dX0_readQuote_24 rfl rfl wd_523 wd_525 ws_11 wd_2 wd_526 ne_X0 np_X0_blame (Nat.le_of_ble_eq_true rfl)  (by decide) (by decide) rfl (Nat.le_of_ble_eq_true rfl) rfl rfl rfl rfl (by decide) rfl (fun v1 f1 hp => ?_)
    obtain ⟨fk9_24, fp9_24, rfl, rfl, h24_0, h24_1⟩ := hp
    show G g E _ _ _ [(wBook g bk (k 0) sa2 (r 0) eo es ep dp ss pp sg us fk9_24 fp9_24), (wTok g k tpa kk kp kn sz kc fg ps), (wBytes g tpa 900 tf), (wRow g r m RL rlen)] 27 [(1, .int (iI (kn fg))), (0, .ref (bk 0))] []
    refine r_return hE hR [(wBook g bk (k 0) sa2 (r 0) eo es ep dp ss pp sg us fk9_24 fp9_24), (wTok g k tpa kk kp kn sz kc fg ps), (wBytes g tpa 900 tf), (wRow g r m RL rlen)] dX0_readQuote_27 (Nat.le_of_ble_eq_true rfl) (Nat.le_of_ble_eq_true rfl) rfl ?_
    rw [blm_0 hfk0] at h24_0
    exact ⟨_, _, _, _, _, _, rfl, rfl, Or.inl ⟨by rw [← hat.1.2.2]; exact c12, by rw [h24_0, hat.1.2.1], rfl, rfl⟩, hBR, by omega, by omega, h24_1⟩
set_option maxHeartbeats 4000000 in
set_option maxRecDepth 100000 in
theorem c_X0_open {g : Gm} {k : Nat → Nat} {tpa : Nat} {kk kp kn : Int → Int} {sz kc fg ps : Int} {tf : Int → Int} {bk : Nat → Nat} {sa2 : Nat} {eo es ep : Int → Int} {dp ss pp sg us fk fp : Int} {r : Nat → Nat} {m : Nat} {RL : Int → Int} {rlen : Int} {v : Int} (hK : TkG tf sz kk kp kn kc) (hfi : 0 ≤ fg ∧ fg < kc) (hfk0 : fk = 0) (hv : v = 40 ∨ v = 126) (hkv : kk fg = v) (hdp : 0 ≤ dp ∧ dp ≤ 6) (hRw : 0 ≤ rlen ∧ rlen ≤ 4800) (hEo : R32 eo) : Ct g 2 0 0 yX0_open cX0_open 2 none [.ref (bk 0), .int (iI v)] [(wBook g bk (k 0) sa2 (r 0) eo es ep dp ss pp sg us fk fp), (wTok g k tpa kk kp kn sz kc fg ps), (wRow g r m RL rlen)] (fun v_ w_ => ∃ eo9 : Int → Int, ∃ es9 : Int → Int, ∃ ep9 : Int → Int, ∃ dp9 : Int, ∃ ss9 : Int, ∃ pp9 : Int, ∃ fg9 : Int, ∃ ps9 : Int, ∃ fk9 : Int, ∃ fp9 : Int, v_ = none ∧ w_ = [(wBook g bk (k 0) sa2 (r 0) eo9 es9 ep9 dp9 ss9 pp9 sg us fk9 fp9), (wTok g k tpa kk kp kn sz kc fg9 ps9), (wRow g r m RL rlen)] ∧ ((6 ≤ dp ∧ (fk9, fp9) = (6, (bkOf tf sz).P fg.toNat)) ∨ (dp < 6 ∧ fk9 = 0 ∧ fg9 = fg + 1 ∧ ps9 = (bkOf tf sz).P fg.toNat ∧ eo9 = up eo dp v ∧ es9 = up es dp ss ∧ ep9 = up ep dp pp ∧ dp9 = dp + 1 ∧ ((v = 40 ∧ ss9 = rlen ∧ pp9 = rlen) ∨ (v = 126 ∧ ss9 = ss ∧ pp9 = pp)))) ∧ (0 ≤ fg9 ∧ fg9 < kc) ∧ (0 ≤ dp9 ∧ dp9 ≤ 6) ∧ (-1 ≤ fk9 ∧ fk9 ≤ 9) ∧ (R32 eo9)) := by
  refine Ct.of (by decide) (Nat.le_of_ble_eq_true rfl) (lv := [(0, .ref (bk 0)), (1, .int (iI v))]) rfl ?_
  intro E hE hR hnm
  have hkc := hK.1
  have hat := hK.at hfi
  have hnx := hK.nx hfi (by omega)
  refine r_aload_n 1 hE 0 dX0_open_0 rfl rfl rfl ?_
  refine r_get 4 hE 0 0 ok0 6 dX0_open_1 rfl wd_132 rfl rfl (by decide) rfl ?_
  refine r_bipush 6 hE dX0_open_4 rfl (by decide) ?_
  refine r_icmp_lt 9 23 hE dX0_open_6 rfl (by decide) (by omega) (fun c6 => ?_) (fun c6 => ?_)
  · skip
    refine r_aload_n 24 hE 0 dX0_open_23 rfl rfl rfl ?_
    refine r_get 27 hE 0 0 ok0 3 dX0_open_24 rfl wd_129 rfl rfl (by decide) rfl ?_
    refine r_aload_n 28 hE 0 dX0_open_27 rfl rfl rfl ?_
    refine r_get 31 hE 0 0 ok0 6 dX0_open_28 rfl wd_132 rfl rfl (by decide) rfl ?_
    refine r_iload_n 32 hE 1 dX0_open_31 rfl rfl rfl ?_
    refine r_iast 33 hE 0 1 (wBook g bk (k 0) sa2 (r 0) (up eo dp v) es ep dp ss pp sg us fk fp) [(wBook g bk (k 0) sa2 (r 0) (up eo dp v) es ep dp ss pp sg us fk fp), (wTok g k tpa kk kp kn sz kc fg ps), (wRow g r m RL rlen)] dX0_open_32 rfl rfl rfl (by omega) rfl rfl ?_
    refine r_aload_n 34 hE 0 dX0_open_33 rfl rfl rfl ?_
    refine r_get 37 hE 0 0 ok0 4 dX0_open_34 rfl wd_130 rfl rfl (by decide) rfl ?_
    refine r_aload_n 38 hE 0 dX0_open_37 rfl rfl rfl ?_
    refine r_get 41 hE 0 0 ok0 6 dX0_open_38 rfl wd_132 rfl rfl (by decide) rfl ?_
    refine r_aload_n 42 hE 0 dX0_open_41 rfl rfl rfl ?_
    refine r_get 45 hE 0 0 ok0 7 dX0_open_42 rfl wd_133 rfl rfl (by decide) rfl ?_
    refine r_iast 46 hE 0 2 (wBook g bk (k 0) sa2 (r 0) (up eo dp v) (up es dp ss) ep dp ss pp sg us fk fp) [(wBook g bk (k 0) sa2 (r 0) (up eo dp v) (up es dp ss) ep dp ss pp sg us fk fp), (wTok g k tpa kk kp kn sz kc fg ps), (wRow g r m RL rlen)] dX0_open_45 rfl rfl rfl (by omega) rfl rfl ?_
    refine r_aload_n 47 hE 0 dX0_open_46 rfl rfl rfl ?_
    refine r_get 50 hE 0 0 ok0 5 dX0_open_47 rfl wd_131 rfl rfl (by decide) rfl ?_
    refine r_aload_n 51 hE 0 dX0_open_50 rfl rfl rfl ?_
    refine r_get 54 hE 0 0 ok0 6 dX0_open_51 rfl wd_132 rfl rfl (by decide) rfl ?_
    refine r_aload_n 55 hE 0 dX0_open_54 rfl rfl rfl ?_
    refine r_get 58 hE 0 0 ok0 8 dX0_open_55 rfl wd_134 rfl rfl (by decide) rfl ?_
    refine r_iast 59 hE 0 3 (wBook g bk (k 0) sa2 (r 0) (up eo dp v) (up es dp ss) (up ep dp pp) dp ss pp sg us fk fp) [(wBook g bk (k 0) sa2 (r 0) (up eo dp v) (up es dp ss) (up ep dp pp) dp ss pp sg us fk fp), (wTok g k tpa kk kp kn sz kc fg ps), (wRow g r m RL rlen)] dX0_open_58 rfl rfl rfl (by omega) rfl rfl ?_
    refine r_aload_n 60 hE 0 dX0_open_59 rfl rfl rfl ?_
    refine r_dup 61 hE dX0_open_60 rfl rfl ?_
    refine r_get 64 hE 0 0 ok0 6 dX0_open_61 rfl wd_132 rfl rfl (by decide) rfl ?_
    refine r_iconst 65 hE dX0_open_64 rfl ?_
    refine r_iadd 66 hE (dp + 1) dX0_open_65 rfl rfl ?_
    refine r_put 69 hE 0 0 ok0 6 (wBook g bk (k 0) sa2 (r 0) (up eo dp v) (up es dp ss) (up ep dp pp) (dp + 1) ss pp sg us fk fp) [(wBook g bk (k 0) sa2 (r 0) (up eo dp v) (up es dp ss) (up ep dp pp) (dp + 1) ss pp sg us fk fp), (wTok g k tpa kk kp kn sz kc fg ps), (wRow g r m RL rlen)] dX0_open_66 rfl wd_132 rfl rfl (by decide) rfl rfl rfl (Nat.le_of_ble_eq_true rfl) rfl rfl ?_
    refine r_aload_n 70 hE 0 dX0_open_69 rfl rfl rfl ?_
    refine r_get 73 hE 0 0 ok0 0 dX0_open_70 rfl wd_124 rfl rfl (by decide) rfl ?_
    refine r_callV 76 hE [1] [0, 2] [(wTok g k tpa kk kp kn sz kc fg ps)] [(wBook g bk (k 0) sa2 (r 0) (up eo dp v) (up es dp ss) (up ep dp pp) (dp + 1) ss pp sg us fk fp), (wRow g r m RL rlen)] 0 6 ok6 [] (c_X6_pass (by omega) (by omega)) dX0_open_73 rfl rfl wd_527 wd_528 wd_529 wd_3 wd_530 ne_X6 np_X6_pass (Nat.le_of_ble_eq_true rfl)  (by decide) (by decide) rfl (Nat.le_of_ble_eq_true rfl) rfl rfl rfl rfl (by decide) rfl (fun v1 f1 hp => ?_)
    obtain ⟨rfl, rfl⟩ := hp
    show G g E _ _ _ [(wTok g k tpa kk kp kn sz kc (fg + 1) (kp fg)), (wBook g bk (k 0) sa2 (r 0) (up eo dp v) (up es dp ss) (up ep dp pp) (dp + 1) ss pp sg us fk fp), (wRow g r m RL rlen)] 76 [(0, .ref (bk 0)), (1, .int (iI v))] []
    refine r_iload_n 77 hE 1 dX0_open_76 rfl rfl rfl ?_
    refine r_bipush 79 hE dX0_open_77 rfl (by decide) ?_
    refine r_icmp_ne 82 104 hE dX0_open_79 rfl (by decide) (by omega) (fun c79 => ?_) (fun c79 => ?_)
    · skip
      refine G.to (fs' := [(wBook g bk (k 0) sa2 (r 0) (up eo dp v) (up es dp ss) (up ep dp pp) (dp + 1) ss pp sg us fk fp), (wTok g k tpa kk kp kn sz kc (fg + 1) (kp fg)), (wRow g r m RL rlen)]) [1, 0, 2] [0, 1] rfl rfl rfl ?_
      refine r_return hE hR [(wBook g bk (k 0) sa2 (r 0) (up eo dp v) (up es dp ss) (up ep dp pp) (dp + 1) ss pp sg us fk fp), (wTok g k tpa kk kp kn sz kc (fg + 1) (kp fg)), (wRow g r m RL rlen)] dX0_open_104 (Nat.le_of_ble_eq_true rfl) (Nat.le_of_ble_eq_true rfl) rfl ?_
      first
        | exact ⟨_, _, _, _, _, _, _, _, _, _, rfl, rfl, Or.inr ⟨by omega, hfk0, rfl, hat.1.2.1, rfl, rfl, rfl, rfl, Or.inl ⟨c79, rfl, rfl⟩⟩, by omega, by omega, by omega, R32_up hEo _ (by omega)⟩
        | exact ⟨_, _, _, _, _, _, _, _, _, _, rfl, rfl, Or.inr ⟨by omega, hfk0, rfl, hat.1.2.1, rfl, rfl, rfl, rfl, Or.inr ⟨by omega, rfl, rfl⟩⟩, by omega, by omega, by omega, R32_up hEo _ (by omega)⟩
    · skip
      refine r_aload_n 83 hE 0 dX0_open_82 rfl rfl rfl ?_
      refine r_aload_n 84 hE 0 dX0_open_83 rfl rfl rfl ?_
      refine r_get 87 hE 1 0 ok0 2 dX0_open_84 rfl wd_128 rfl rfl (by decide) rfl ?_
      refine r_get 90 hE 2 0 ok2 1 dX0_open_87 rfl wd_116 rfl rfl (by decide) rfl ?_
      refine r_put 93 hE 1 0 ok0 7 (wBook g bk (k 0) sa2 (r 0) (up eo dp v) (up es dp ss) (up ep dp pp) (dp + 1) rlen pp sg us fk fp) [(wTok g k tpa kk kp kn sz kc (fg + 1) (kp fg)), (wBook g bk (k 0) sa2 (r 0) (up eo dp v) (up es dp ss) (up ep dp pp) (dp + 1) rlen pp sg us fk fp), (wRow g r m RL rlen)] dX0_open_90 rfl wd_133 rfl rfl (by decide) rfl rfl rfl (Nat.le_of_ble_eq_true rfl) rfl rfl ?_
      refine r_aload_n 94 hE 0 dX0_open_93 rfl rfl rfl ?_
      refine r_aload_n 95 hE 0 dX0_open_94 rfl rfl rfl ?_
      refine r_get 98 hE 1 0 ok0 2 dX0_open_95 rfl wd_128 rfl rfl (by decide) rfl ?_
      refine r_get 101 hE 2 0 ok2 1 dX0_open_98 rfl wd_116 rfl rfl (by decide) rfl ?_
      refine r_put 104 hE 1 0 ok0 8 (wBook g bk (k 0) sa2 (r 0) (up eo dp v) (up es dp ss) (up ep dp pp) (dp + 1) rlen rlen sg us fk fp) [(wTok g k tpa kk kp kn sz kc (fg + 1) (kp fg)), (wBook g bk (k 0) sa2 (r 0) (up eo dp v) (up es dp ss) (up ep dp pp) (dp + 1) rlen rlen sg us fk fp), (wRow g r m RL rlen)] dX0_open_101 rfl wd_134 rfl rfl (by decide) rfl rfl rfl (Nat.le_of_ble_eq_true rfl) rfl rfl ?_
      refine G.to (fs' := [(wBook g bk (k 0) sa2 (r 0) (up eo dp v) (up es dp ss) (up ep dp pp) (dp + 1) rlen rlen sg us fk fp), (wTok g k tpa kk kp kn sz kc (fg + 1) (kp fg)), (wRow g r m RL rlen)]) [1, 0, 2] [0, 1] rfl rfl rfl ?_
      refine r_return hE hR [(wBook g bk (k 0) sa2 (r 0) (up eo dp v) (up es dp ss) (up ep dp pp) (dp + 1) rlen rlen sg us fk fp), (wTok g k tpa kk kp kn sz kc (fg + 1) (kp fg)), (wRow g r m RL rlen)] dX0_open_104 (Nat.le_of_ble_eq_true rfl) (Nat.le_of_ble_eq_true rfl) rfl ?_
      first
        | exact ⟨_, _, _, _, _, _, _, _, _, _, rfl, rfl, Or.inr ⟨by omega, hfk0, rfl, hat.1.2.1, rfl, rfl, rfl, rfl, Or.inl ⟨c79, rfl, rfl⟩⟩, by omega, by omega, by omega, R32_up hEo _ (by omega)⟩
        | exact ⟨_, _, _, _, _, _, _, _, _, _, rfl, rfl, Or.inr ⟨by omega, hfk0, rfl, hat.1.2.1, rfl, rfl, rfl, rfl, Or.inr ⟨by omega, rfl, rfl⟩⟩, by omega, by omega, by omega, R32_up hEo _ (by omega)⟩
  · skip
    refine r_aload_n 10 hE 0 dX0_open_9 rfl rfl rfl ?_
    refine r_bipush 12 hE dX0_open_10 rfl (by decide) ?_
    refine r_aload_n 13 hE 0 dX0_open_12 rfl rfl rfl ?_
    refine r_get 16 hE 0 0 ok0 0 dX0_open_13 rfl wd_124 rfl rfl (by decide) rfl ?_
    refine r_callV 19 hE [1] [0, 2] [(wTok g k tpa kk kp kn sz kc fg ps)] [(wBook g bk (k 0) sa2 (r 0) eo es ep dp ss pp sg us fk fp), (wRow g r m RL rlen)] 0 6 ok6 [.int (iI 6), .ref (bk 0)] (c_X6_place (by omega)) dX0_open_16 rfl rfl wd_519 wd_520 wd_521 wd_3 wd_522 ne_X6 np_X6_place (Nat.le_of_ble_eq_true rfl)  (by decide) (by decide) rfl (Nat.le_of_ble_eq_true rfl) rfl rfl rfl rfl (by decide) rfl (fun v1 f1 hp => ?_)
    obtain ⟨rfl, rfl⟩ := hp
    show G g E _ _ _ [(wTok g k tpa kk kp kn sz kc fg ps), (wBook g bk (k 0) sa2 (r 0) eo es ep dp ss pp sg us fk fp), (wRow g r m RL rlen)] 19 [(0, .ref (bk 0)), (1, .int (iI v))] [.int (iI (kp fg)), .int (iI 6), .ref (bk 0)]
    refine r_callV 22 hE [1] [0, 2] [(wBook g bk (k 0) sa2 (r 0) eo es ep dp ss pp sg us fk fp)] [(wTok g k tpa kk kp kn sz kc fg ps), (wRow g r m RL rlen)] 0 0 ok0 [] (c_X0_blame (by omega) (by omega)) dX0_open_19 rfl rfl wd_523 wd_525 ws_11 wd_2 wd_526 ne_X0 np_X0_blame (Nat.le_of_ble_eq_true rfl)  (by decide) (by decide) rfl (Nat.le_of_ble_eq_true rfl) rfl rfl rfl rfl (by decide) rfl (fun v1 f1 hp => ?_)
    obtain ⟨fk9_19, fp9_19, rfl, rfl, h19_0, h19_1⟩ := hp
    show G g E _ _ _ [(wBook g bk (k 0) sa2 (r 0) eo es ep dp ss pp sg us fk9_19 fp9_19), (wTok g k tpa kk kp kn sz kc fg ps), (wRow g r m RL rlen)] 22 [(0, .ref (bk 0)), (1, .int (iI v))] []
    refine r_return hE hR [(wBook g bk (k 0) sa2 (r 0) eo es ep dp ss pp sg us fk9_19 fp9_19), (wTok g k tpa kk kp kn sz kc fg ps), (wRow g r m RL rlen)] dX0_open_22 (Nat.le_of_ble_eq_true rfl) (Nat.le_of_ble_eq_true rfl) rfl ?_
    rw [blm_0 hfk0] at h19_0
    exact ⟨_, _, _, _, _, _, _, _, _, _, rfl, rfl, Or.inl ⟨by omega, by rw [h19_0, hat.1.2.1]⟩, by omega, by omega, h19_1, hEo⟩
set_option maxHeartbeats 4000000 in
set_option maxRecDepth 100000 in
theorem c_X0_endCore {g : Gm} {bk : Nat → Nat} {ka sa2 : Nat} {eo es ep : Int → Int} {dp ss pp sg us fk fp : Int} {r : Nat → Nat} {m : Nat} {RL : Int → Int} {rlen : Int} (hdp : 0 ≤ dp ∧ dp ≤ 6) (hpp : 0 ≤ pp ∧ pp ≤ rlen ∧ rlen ≤ 4800 ∧ (m : Int) = 4800) (hBR : BR RL) (hEo : R32 eo) : Ct g 1 0 0 yX0_endCore cX0_endCore 2 none [.ref (bk 0)] [(wBook g bk ka sa2 (r 0) eo es ep dp ss pp sg us fk fp), (wRow g r m RL rlen)] (fun v_ w_ => ∃ RL9 : Int → Int, ∃ dp9 : Int, v_ = none ∧ w_ = [(wBook g bk ka sa2 (r 0) eo es ep dp9 ss pp 1 us fk fp), (wRow g r m RL9 rlen)] ∧ (popT pp.toNat (rowL RL rlen) (stkO eo es ep dp.toNat) = (rowL RL9 rlen, stkO eo es ep dp9.toNat)) ∧ (BR RL9) ∧ (0 ≤ dp9 ∧ dp9 ≤ dp)) := by
  refine Ct.of (by decide) (Nat.le_of_ble_eq_true rfl) (lv := [(0, .ref (bk 0))]) rfl ?_
  intro E hE hR hnm
  have cut7 : ∀ (N : Nat) (RL9 : Int → Int) (dp9 : Int), (0 ≤ dp9 ∧ dp9 ≤ dp) → (popT pp.toNat (rowL RL rlen) (stkO eo es ep dp.toNat) = popT pp.toNat (rowL RL9 rlen) (stkO eo es ep dp9.toNat)) → (BR RL9) → (dp9).toNat < N → G g E 2 0 0 [(wBook g bk ka sa2 (r 0) eo es ep dp9 ss pp sg us fk fp), (wRow g r m RL9 rlen)] 7 [(0, .ref (bk 0)), (1, .int (iI (dp9 - 1)))] [] := by
    intro N
    induction N with
    | zero => intro RL9 dp9 _ _ _ hN; exact absurd hN (Nat.not_lt_zero _)
    | succ N ih7 =>
      intro RL9 dp9 hd9 hv hB9 hN
      refine r_iload_n 8 hE 1 dX0_endCore_7 rfl rfl rfl ?_
      refine r_if_lt 11 55 hE dX0_endCore_8 rfl (by decide) (by omega) (fun c8 => ?_) (fun c8 => ?_)
      · skip
        refine r_aload_n 56 hE 0 dX0_endCore_55 rfl rfl rfl ?_
        refine r_iconst 57 hE dX0_endCore_56 rfl ?_
        refine r_put 60 hE 0 0 ok0 9 (wBook g bk ka sa2 (r 0) eo es ep dp9 ss pp 1 us fk fp) [(wBook g bk ka sa2 (r 0) eo es ep dp9 ss pp 1 us fk fp), (wRow g r m RL9 rlen)] dX0_endCore_57 rfl wd_135 rfl rfl (by decide) rfl rfl rfl (Nat.le_of_ble_eq_true rfl) rfl rfl ?_
        refine r_return hE hR [(wBook g bk ka sa2 (r 0) eo es ep dp9 ss pp 1 us fk fp), (wRow g r m RL9 rlen)] dX0_endCore_60 (Nat.le_of_ble_eq_true rfl) (Nat.le_of_ble_eq_true rfl) rfl ?_
        first
          | exact ⟨RL9, dp9, rfl, rfl, by rw [hv, stkO_pop _ _ _ (by omega), popT, if_neg c25], hB9, hd9⟩
          | exact ⟨RL9, dp9, rfl, rfl, by rw [hv, show dp9.toNat = 0 by omega]; rfl, hB9, hd9⟩
      · skip
        refine r_iload_n 12 hE 1 dX0_endCore_11 rfl rfl rfl ?_
        refine r_bipush 14 hE dX0_endCore_12 rfl (by decide) ?_
        refine r_icmp_ge 17 55 hE dX0_endCore_14 rfl (by decide) (by omega) (fun c14 => ?_) (fun c14 => ?_)
        · skip
          omega
        · skip
          refine r_aload_n 18 hE 0 dX0_endCore_17 rfl rfl rfl ?_
          refine r_get 21 hE 0 0 ok0 3 dX0_endCore_18 rfl wd_129 rfl rfl (by decide) rfl ?_
          refine r_iload_n 22 hE 1 dX0_endCore_21 rfl rfl rfl ?_
          refine r_iald 23 hE 0 1 dX0_endCore_22 rfl rfl rfl (by omega) ?_
          refine r_bipush 25 hE dX0_endCore_23 rfl (by decide) ?_
          refine r_icmp_ne 28 55 hE dX0_endCore_25 rfl (by decide) (⟨hEo _, by omega⟩) (fun c25 => ?_) (fun c25 => ?_)
          · skip
            refine r_aload_n 56 hE 0 dX0_endCore_55 rfl rfl rfl ?_
            refine r_iconst 57 hE dX0_endCore_56 rfl ?_
            refine r_put 60 hE 0 0 ok0 9 (wBook g bk ka sa2 (r 0) eo es ep dp9 ss pp 1 us fk fp) [(wBook g bk ka sa2 (r 0) eo es ep dp9 ss pp 1 us fk fp), (wRow g r m RL9 rlen)] dX0_endCore_57 rfl wd_135 rfl rfl (by decide) rfl rfl rfl (Nat.le_of_ble_eq_true rfl) rfl rfl ?_
            refine r_return hE hR [(wBook g bk ka sa2 (r 0) eo es ep dp9 ss pp 1 us fk fp), (wRow g r m RL9 rlen)] dX0_endCore_60 (Nat.le_of_ble_eq_true rfl) (Nat.le_of_ble_eq_true rfl) rfl ?_
            first
              | exact ⟨RL9, dp9, rfl, rfl, by rw [hv, stkO_pop _ _ _ (by omega), popT, if_neg c25], hB9, hd9⟩
              | exact ⟨RL9, dp9, rfl, rfl, by rw [hv, show dp9.toNat = 0 by omega]; rfl, hB9, hd9⟩
          · skip
            refine r_aload_n 29 hE 0 dX0_endCore_28 rfl rfl rfl ?_
            refine r_get 32 hE 0 0 ok0 2 dX0_endCore_29 rfl wd_128 rfl rfl (by decide) rfl ?_
            refine r_aload_n 33 hE 0 dX0_endCore_32 rfl rfl rfl ?_
            refine r_get 36 hE 0 0 ok0 8 dX0_endCore_33 rfl wd_134 rfl rfl (by decide) rfl ?_
            refine r_callV 39 hE [1] [0] [(wRow g r m RL9 rlen)] [(wBook g bk ka sa2 (r 0) eo es ep dp9 ss pp sg us fk fp)] 0 2 ok2 [] (c_X2_reverseFrom (by omega) (by omega) (hB9)) dX0_endCore_36 rfl rfl wd_569 wd_570 wd_571 wd_5 wd_572 ne_X2 np_X2_reverseFrom (Nat.le_of_ble_eq_true rfl)  (by decide) (by decide) rfl (Nat.le_of_ble_eq_true rfl) rfl rfl rfl rfl (by decide) rfl (fun v1 f1 hp => ?_)
            obtain ⟨RL9_36, rfl, rfl, h36_0, h36_1, h36_2⟩ := hp
            show G g E _ _ _ [(wRow g r m RL9_36 rlen), (wBook g bk ka sa2 (r 0) eo es ep dp9 ss pp sg us fk fp)] 39 [(0, .ref (bk 0)), (1, .int (iI (dp9 - 1)))] []
            have hv2 : popT pp.toNat (rowL RL rlen) (stkO eo es ep dp.toNat) = popT pp.toNat (rowL RL9_36 rlen) (stkO eo es ep (dp9 - 1).toNat) := by
              rw [hv, stkO_pop _ _ _ (by omega), popT, if_pos c25, rowL_rev (RL := RL9) (RL9 := RL9_36) ⟨hpp.1, hpp.2.1⟩ h36_0 h36_1]
            refine r_aload_n 40 hE 0 dX0_endCore_39 rfl rfl rfl ?_
            refine r_dup 41 hE dX0_endCore_40 rfl rfl ?_
            refine r_get 44 hE 1 0 ok0 6 dX0_endCore_41 rfl wd_132 rfl rfl (by decide) rfl ?_
            refine r_iconst 45 hE dX0_endCore_44 rfl ?_
            refine r_isub 46 hE (dp9 - 1) dX0_endCore_45 rfl rfl ?_
            refine r_put 49 hE 1 0 ok0 6 (wBook g bk ka sa2 (r 0) eo es ep (dp9 - 1) ss pp sg us fk fp) [(wRow g r m RL9_36 rlen), (wBook g bk ka sa2 (r 0) eo es ep (dp9 - 1) ss pp sg us fk fp)] dX0_endCore_46 rfl wd_132 rfl rfl (by decide) rfl rfl rfl (Nat.le_of_ble_eq_true rfl) rfl rfl ?_
            refine r_iinc 52 hE 1 ((dp9 - 1) + (-1)) [(1, .int (iI ((dp9 - 1) + (-1)))), (0, .ref (bk 0))] dX0_endCore_49 rfl rfl rfl (by decide) rfl ?_
            refine r_goto 7 hE dX0_endCore_52 (by decide) ?_
            refine G.to (fs' := [(wBook g bk ka sa2 (r 0) eo es ep (dp9 - 1) ss pp sg us fk fp), (wRow g r m RL9_36 rlen)]) (lv' := [(0, .ref (bk 0)), (1, .int (iI ((dp9 - 1) + (-1))))]) [1, 0] [1, 0] rfl rfl rfl ?_
            refine G.cast (fs' := [(wBook g bk ka sa2 (r 0) eo es ep (dp9 - 1) ss pp sg us fk fp), (wRow g r m RL9_36 rlen)]) (lv' := [(0, .ref (bk 0)), (1, .int (iI ((dp9 - 1) - 1)))]) rfl (congrArg (fun z9 : Int => ([(0, .ref (bk 0)), (1, .int (iI z9))] : List (Nat × Value))) (show ((dp9 - 1) + (-1) : Int) = (dp9 - 1) - 1 from by omega)) ?_
            exact ih7 RL9_36 (dp9 - 1) (by omega) (by first | exact hv2 | rfl) (by first | exact h36_2 | exact hBR) (by omega)
  refine r_aload_n 1 hE 0 dX0_endCore_0 rfl rfl rfl ?_
  refine r_get 4 hE 0 0 ok0 6 dX0_endCore_1 rfl wd_132 rfl rfl (by decide) rfl ?_
  refine r_iconst 5 hE dX0_endCore_4 rfl ?_
  refine r_isub 6 hE (dp - 1) dX0_endCore_5 rfl rfl ?_
  refine r_istore_n 7 hE [(1, .int (iI (dp - 1))), (0, .ref (bk 0))] dX0_endCore_6 rfl rfl (by decide) rfl ?_
  refine G.to (fs' := [(wBook g bk ka sa2 (r 0) eo es ep dp ss pp sg us fk fp), (wRow g r m RL rlen)]) (lv' := [(0, .ref (bk 0)), (1, .int (iI (dp - 1)))]) [0, 1] [1, 0] rfl rfl rfl ?_
  exact cut7 _ RL dp (by omega) (by first | exact hv2 | rfl) (by first | exact h36_2 | exact hBR) (Nat.lt_succ_self _)
