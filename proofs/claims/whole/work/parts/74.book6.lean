def wBook (g : Gm) (bk : Nat → Nat) (ka : Nat) (sa2 : Nat) (ra : Nat) (eo : Int → Int) (es : Int → Int) (ep : Int → Int) (dp : Int) (ss : Int) (pp : Int) (sg : Int) (us : Int) (fk : Int) (fp : Int) : va_W := [ob (bk 0) 0 [.ref ka, .ref sa2, .ref ra, .ref (bk 1), .ref (bk 2), .ref (bk 3), .int (iI dp), .int (iI ss), .int (iI pp), .int (iI sg), .int (iI us), .int (iI fk), .int (iI fp)], ia g (bk 1) 6 eo, ia g (bk 2) 6 es, ia g (bk 3) 6 ep]
set_option maxHeartbeats 4000000 in
set_option maxRecDepth 100000 in
theorem c_X0_blame {g : Gm} {bk : Nat → Nat} {ka sa2 ra : Nat} {eo es ep : Int → Int} {dp ss pp sg us fk fp : Int} {v p : Int} (hfk : -1 ≤ fk ∧ fk ≤ 9) (hv : 1 ≤ v ∧ v ≤ 9) : Ct g 0 0 0 yX0_blame cX0_blame 3 none [.ref (bk 0), .int (iI v), .int (iI p)] [(wBook g bk ka sa2 ra eo es ep dp ss pp sg us fk fp)] (fun v_ w_ => ∃ fk9 : Int, ∃ fp9 : Int, v_ = none ∧ w_ = [(wBook g bk ka sa2 ra eo es ep dp ss pp sg us fk9 fp9)] ∧ ((fk9, fp9) = blm (fk, fp) (v, p)) ∧ (-1 ≤ fk9 ∧ fk9 ≤ 9)) := by
  refine Ct.of (by decide) (Nat.le_of_ble_eq_true rfl) (lv := [(0, .ref (bk 0)), (1, .int (iI v)), (2, .int (iI p))]) rfl ?_
  intro E hE hR hnm
  refine r_aload_n 1 hE 0 dX0_blame_0 rfl rfl rfl ?_
  refine r_get 4 hE 0 0 ok0 11 dX0_blame_1 rfl wd_138 rfl rfl (by decide) rfl ?_
  refine r_if_ne 7 17 hE dX0_blame_4 rfl (by decide) (by omega) (fun c4 => ?_) (fun c4 => ?_)
  · skip
    refine r_return hE hR [(wBook g bk ka sa2 ra eo es ep dp ss pp sg us fk fp)] dX0_blame_17 (Nat.le_of_ble_eq_true rfl) (Nat.le_of_ble_eq_true rfl) rfl ?_
    first | exact ⟨_, _, rfl, rfl, (blm_n c4).symm, by omega⟩ | exact ⟨_, _, rfl, rfl, (blm_0 c4).symm, by omega⟩
  · skip
    refine r_aload_n 8 hE 0 dX0_blame_7 rfl rfl rfl ?_
    refine r_iload_n 9 hE 1 dX0_blame_8 rfl rfl rfl ?_
    refine r_put 12 hE 0 0 ok0 11 (wBook g bk ka sa2 ra eo es ep dp ss pp sg us v fp) [(wBook g bk ka sa2 ra eo es ep dp ss pp sg us v fp)] dX0_blame_9 rfl wd_138 rfl rfl (by decide) rfl rfl rfl (Nat.le_of_ble_eq_true rfl) rfl rfl ?_
    refine r_aload_n 13 hE 0 dX0_blame_12 rfl rfl rfl ?_
    refine r_iload_n 14 hE 2 dX0_blame_13 rfl rfl rfl ?_
    refine r_put 17 hE 0 0 ok0 12 (wBook g bk ka sa2 ra eo es ep dp ss pp sg us v p) [(wBook g bk ka sa2 ra eo es ep dp ss pp sg us v p)] dX0_blame_14 rfl wd_140 rfl rfl (by decide) rfl rfl rfl (Nat.le_of_ble_eq_true rfl) rfl rfl ?_
    refine r_return hE hR [(wBook g bk ka sa2 ra eo es ep dp ss pp sg us v p)] dX0_blame_17 (Nat.le_of_ble_eq_true rfl) (Nat.le_of_ble_eq_true rfl) rfl ?_
    first | exact ⟨_, _, rfl, rfl, (blm_n c4).symm, by omega⟩ | exact ⟨_, _, rfl, rfl, (blm_0 c4).symm, by omega⟩
set_option maxHeartbeats 4000000 in
set_option maxRecDepth 100000 in
theorem c_X0_blameToken {g : Gm} {k : Nat → Nat} {tpa : Nat} {kk kp kn : Int → Int} {sz kc fg ps : Int} {tf : Int → Int} {bk : Nat → Nat} {sa2 ra : Nat} {eo es ep : Int → Int} {dp ss pp sg us fk fp : Int} (hK : TkG tf sz kk kp kn kc) (hfi : 0 ≤ fg ∧ fg < kc) (hfk : -1 ≤ fk ∧ fk ≤ 9) : Ct g 1 0 0 yX0_blameToken cX0_blameToken 1 none [.ref (bk 0)] [(wBook g bk (k 0) sa2 ra eo es ep dp ss pp sg us fk fp), (wTok g k tpa kk kp kn sz kc fg ps)] (fun v_ w_ => ∃ fk9 : Int, ∃ fp9 : Int, v_ = none ∧ w_ = [(wBook g bk (k 0) sa2 ra eo es ep dp ss pp sg us fk9 fp9), (wTok g k tpa kk kp kn sz kc fg ps)] ∧ ((fk9, fp9) = blm (fk, fp) (ftAt (bkOf tf sz) fg.toNat 2)) ∧ (-1 ≤ fk9 ∧ fk9 ≤ 9)) := by
  refine Ct.of (by decide) (Nat.le_of_ble_eq_true rfl) (lv := [(0, .ref (bk 0))]) rfl ?_
  intro E hE hR hnm
  have hkc := hK.1
  have hat := hK.at hfi
  refine r_aload_n 1 hE 0 dX0_blameToken_0 rfl rfl rfl ?_
  refine r_aload_n 2 hE 0 dX0_blameToken_1 rfl rfl rfl ?_
  refine r_get 5 hE 0 0 ok0 0 dX0_blameToken_2 rfl wd_124 rfl rfl (by decide) rfl ?_
  refine r_callV 8 hE [1] [0] [(wTok g k tpa kk kp kn sz kc fg ps)] [(wBook g bk (k 0) sa2 ra eo es ep dp ss pp sg us fk fp)] 0 6 ok6 [.ref (bk 0)] (c_X6_kind (by omega)) dX0_blameToken_5 rfl rfl wd_507 wd_508 wd_509 wd_3 wd_510 ne_X6 np_X6_kind (Nat.le_of_ble_eq_true rfl)  (by decide) (by decide) rfl (Nat.le_of_ble_eq_true rfl) rfl rfl rfl rfl (by decide) rfl (fun v1 f1 hp => ?_)
  obtain ⟨rfl, rfl⟩ := hp
  show G g E _ _ _ [(wTok g k tpa kk kp kn sz kc fg ps), (wBook g bk (k 0) sa2 ra eo es ep dp ss pp sg us fk fp)] 8 [(0, .ref (bk 0))] [.int (iI (kk fg)), .ref (bk 0)]
  refine r_iconst 9 hE dX0_blameToken_8 rfl ?_
  refine r_icmp_ne 12 16 hE dX0_blameToken_9 rfl (by decide) (by omega) (fun c9 => ?_) (fun c9 => ?_)
  · skip
    have hft : ftAt (bkOf tf sz) fg.toNat 2 = (2, kp fg) := by unfold ftAt; rw [← hat.1.1, ← hat.1.2.1, if_neg c9]
    refine r_iconst 17 hE dX0_blameToken_16 rfl ?_
    refine r_aload_n 18 hE 0 dX0_blameToken_17 rfl rfl rfl ?_
    refine r_get 21 hE 1 0 ok0 0 dX0_blameToken_18 rfl wd_124 rfl rfl (by decide) rfl ?_
    refine r_callV 24 hE [0] [1] [(wTok g k tpa kk kp kn sz kc fg ps)] [(wBook g bk (k 0) sa2 ra eo es ep dp ss pp sg us fk fp)] 0 6 ok6 [.int (iI 2), .ref (bk 0)] (c_X6_place (by omega)) dX0_blameToken_21 rfl rfl wd_519 wd_520 wd_521 wd_3 wd_522 ne_X6 np_X6_place (Nat.le_of_ble_eq_true rfl)  (by decide) (by decide) rfl (Nat.le_of_ble_eq_true rfl) rfl rfl rfl rfl (by decide) rfl (fun v1 f1 hp => ?_)
    obtain ⟨rfl, rfl⟩ := hp
    show G g E _ _ _ [(wTok g k tpa kk kp kn sz kc fg ps), (wBook g bk (k 0) sa2 ra eo es ep dp ss pp sg us fk fp)] 24 [(0, .ref (bk 0))] [.int (iI (kp fg)), .int (iI 2), .ref (bk 0)]
    refine r_callV 27 hE [1] [0] [(wBook g bk (k 0) sa2 ra eo es ep dp ss pp sg us fk fp)] [(wTok g k tpa kk kp kn sz kc fg ps)] 0 0 ok0 [] (c_X0_blame (by omega) (by omega)) dX0_blameToken_24 rfl rfl wd_523 wd_525 ws_11 wd_2 wd_526 ne_X0 np_X0_blame (Nat.le_of_ble_eq_true rfl)  (by decide) (by decide) rfl (Nat.le_of_ble_eq_true rfl) rfl rfl rfl rfl (by decide) rfl (fun v1 f1 hp => ?_)
    obtain ⟨fk9_24, fp9_24, rfl, rfl, h24_0, h24_1⟩ := hp
    show G g E _ _ _ [(wBook g bk (k 0) sa2 ra eo es ep dp ss pp sg us fk9_24 fp9_24), (wTok g k tpa kk kp kn sz kc fg ps)] 27 [(0, .ref (bk 0))] []
    refine r_return hE hR [(wBook g bk (k 0) sa2 ra eo es ep dp ss pp sg us fk9_24 fp9_24), (wTok g k tpa kk kp kn sz kc fg ps)] dX0_blameToken_27 (Nat.le_of_ble_eq_true rfl) (Nat.le_of_ble_eq_true rfl) rfl ?_
    exact ⟨_, _, rfl, rfl, by rw [hft]; exact h24_0, h24_1⟩
  · skip
    have hft : ftAt (bkOf tf sz) fg.toNat 2 = (1, kp fg) := by unfold ftAt; rw [← hat.1.1, ← hat.1.2.1, if_pos c9]
    refine r_iconst 13 hE dX0_blameToken_12 rfl ?_
    refine r_goto 17 hE dX0_blameToken_13 (by decide) ?_
    refine r_aload_n 18 hE 0 dX0_blameToken_17 rfl rfl rfl ?_
    refine r_get 21 hE 1 0 ok0 0 dX0_blameToken_18 rfl wd_124 rfl rfl (by decide) rfl ?_
    refine r_callV 24 hE [0] [1] [(wTok g k tpa kk kp kn sz kc fg ps)] [(wBook g bk (k 0) sa2 ra eo es ep dp ss pp sg us fk fp)] 0 6 ok6 [.int (iI 1), .ref (bk 0)] (c_X6_place (by omega)) dX0_blameToken_21 rfl rfl wd_519 wd_520 wd_521 wd_3 wd_522 ne_X6 np_X6_place (Nat.le_of_ble_eq_true rfl)  (by decide) (by decide) rfl (Nat.le_of_ble_eq_true rfl) rfl rfl rfl rfl (by decide) rfl (fun v1 f1 hp => ?_)
    obtain ⟨rfl, rfl⟩ := hp
    show G g E _ _ _ [(wTok g k tpa kk kp kn sz kc fg ps), (wBook g bk (k 0) sa2 ra eo es ep dp ss pp sg us fk fp)] 24 [(0, .ref (bk 0))] [.int (iI (kp fg)), .int (iI 1), .ref (bk 0)]
    refine r_callV 27 hE [1] [0] [(wBook g bk (k 0) sa2 ra eo es ep dp ss pp sg us fk fp)] [(wTok g k tpa kk kp kn sz kc fg ps)] 0 0 ok0 [] (c_X0_blame (by omega) (by omega)) dX0_blameToken_24 rfl rfl wd_523 wd_525 ws_11 wd_2 wd_526 ne_X0 np_X0_blame (Nat.le_of_ble_eq_true rfl)  (by decide) (by decide) rfl (Nat.le_of_ble_eq_true rfl) rfl rfl rfl rfl (by decide) rfl (fun v1 f1 hp => ?_)
    obtain ⟨fk9_24, fp9_24, rfl, rfl, h24_0, h24_1⟩ := hp
    show G g E _ _ _ [(wBook g bk (k 0) sa2 ra eo es ep dp ss pp sg us fk9_24 fp9_24), (wTok g k tpa kk kp kn sz kc fg ps)] 27 [(0, .ref (bk 0))] []
    refine r_return hE hR [(wBook g bk (k 0) sa2 ra eo es ep dp ss pp sg us fk9_24 fp9_24), (wTok g k tpa kk kp kn sz kc fg ps)] dX0_blameToken_27 (Nat.le_of_ble_eq_true rfl) (Nat.le_of_ble_eq_true rfl) rfl ?_
    exact ⟨_, _, rfl, rfl, by rw [hft]; exact h24_0, h24_1⟩
set_option maxHeartbeats 4000000 in
set_option maxRecDepth 100000 in
theorem c_X0_expect {g : Gm} {k : Nat → Nat} {tpa : Nat} {kk kp kn : Int → Int} {sz kc fg ps : Int} {tf : Int → Int} {bk : Nat → Nat} {sa2 ra : Nat} {eo es ep : Int → Int} {dp ss pp sg us fk fp : Int} {v : Int} (hK : TkG tf sz kk kp kn kc) (hfi : 0 ≤ fg ∧ fg < kc) (hfk : -1 ≤ fk ∧ fk ≤ 9) (hv : 1 ≤ v ∧ v ≤ 127) : Ct g 2 0 0 yX0_expect cX0_expect 2 none [.ref (bk 0), .int (iI v)] [(wBook g bk (k 0) sa2 ra eo es ep dp ss pp sg us fk fp), (wTok g k tpa kk kp kn sz kc fg ps)] (fun v_ w_ => ∃ fg9 : Int, ∃ ps9 : Int, ∃ fk9 : Int, ∃ fp9 : Int, v_ = none ∧ w_ = [(wBook g bk (k 0) sa2 ra eo es ep dp ss pp sg us fk9 fp9), (wTok g k tpa kk kp kn sz kc fg9 ps9)] ∧ (ExpR (bkOf tf sz) fg v (fk, fp) fg9 (fk9, fp9)) ∧ (0 ≤ fg9 ∧ fg9 < kc) ∧ (PasR (bkOf tf sz) fg ps fg9 ps9) ∧ (-1 ≤ fk9 ∧ fk9 ≤ 9)) := by
  refine Ct.of (by decide) (Nat.le_of_ble_eq_true rfl) (lv := [(0, .ref (bk 0)), (1, .int (iI v))]) rfl ?_
  intro E hE hR hnm
  have hkc := hK.1
  have hat := hK.at hfi
  refine r_aload_n 1 hE 0 dX0_expect_0 rfl rfl rfl ?_
  refine r_get 4 hE 0 0 ok0 0 dX0_expect_1 rfl wd_124 rfl rfl (by decide) rfl ?_
  refine r_callV 7 hE [1] [0] [(wTok g k tpa kk kp kn sz kc fg ps)] [(wBook g bk (k 0) sa2 ra eo es ep dp ss pp sg us fk fp)] 0 6 ok6 [] (c_X6_kind (by omega)) dX0_expect_4 rfl rfl wd_507 wd_508 wd_509 wd_3 wd_510 ne_X6 np_X6_kind (Nat.le_of_ble_eq_true rfl)  (by decide) (by decide) rfl (Nat.le_of_ble_eq_true rfl) rfl rfl rfl rfl (by decide) rfl (fun v1 f1 hp => ?_)
  obtain ⟨rfl, rfl⟩ := hp
  show G g E _ _ _ [(wTok g k tpa kk kp kn sz kc fg ps), (wBook g bk (k 0) sa2 ra eo es ep dp ss pp sg us fk fp)] 7 [(0, .ref (bk 0)), (1, .int (iI v))] [.int (iI (kk fg))]
  refine r_iload_n 8 hE 1 dX0_expect_7 rfl rfl rfl ?_
  refine r_icmp_ne 11 21 hE dX0_expect_8 rfl (by decide) (by omega) (fun c8 => ?_) (fun c8 => ?_)
  · skip
    refine r_aload_n 22 hE 0 dX0_expect_21 rfl rfl rfl ?_
    refine r_callV 25 hE [1, 0] [] [(wBook g bk (k 0) sa2 ra eo es ep dp ss pp sg us fk fp), (wTok g k tpa kk kp kn sz kc fg ps)] [] 0 0 ok0 [] (c_X0_blameToken (hK) (by omega) (by omega)) dX0_expect_22 rfl rfl wd_536 wd_538 ws_13 wd_2 wd_539 ne_X0 np_X0_blameToken (Nat.le_of_ble_eq_true rfl)  (by decide) (by decide) rfl (Nat.le_of_ble_eq_true rfl) rfl rfl rfl rfl (by decide) rfl (fun v1 f1 hp => ?_)
    obtain ⟨fk9_22, fp9_22, rfl, rfl, h22_0, h22_1⟩ := hp
    show G g E _ _ _ [(wBook g bk (k 0) sa2 ra eo es ep dp ss pp sg us fk9_22 fp9_22), (wTok g k tpa kk kp kn sz kc fg ps)] 25 [(0, .ref (bk 0)), (1, .int (iI v))] []
    refine r_return hE hR [(wBook g bk (k 0) sa2 ra eo es ep dp ss pp sg us fk9_22 fp9_22), (wTok g k tpa kk kp kn sz kc fg ps)] dX0_expect_25 (Nat.le_of_ble_eq_true rfl) (Nat.le_of_ble_eq_true rfl) rfl ?_
    first
      | exact ⟨_, _, _, _, rfl, rfl, Or.inl ⟨by rw [← hat.1.1]; exact c8, rfl, rfl⟩, by omega, Or.inl ⟨rfl, hat.1.2.1⟩, by omega⟩
      | exact ⟨_, _, _, _, rfl, rfl, Or.inr ⟨by rw [← hat.1.1]; exact c8, rfl, h22_0⟩, hfi, Or.inr ⟨rfl, rfl⟩, h22_1⟩
  · skip
    have hnx := hK.nx hfi (by omega)
    refine r_aload_n 12 hE 0 dX0_expect_11 rfl rfl rfl ?_
    refine r_get 15 hE 1 0 ok0 0 dX0_expect_12 rfl wd_124 rfl rfl (by decide) rfl ?_
    refine r_callV 18 hE [0] [1] [(wTok g k tpa kk kp kn sz kc fg ps)] [(wBook g bk (k 0) sa2 ra eo es ep dp ss pp sg us fk fp)] 0 6 ok6 [] (c_X6_pass (by omega) (by omega)) dX0_expect_15 rfl rfl wd_527 wd_528 wd_529 wd_3 wd_530 ne_X6 np_X6_pass (Nat.le_of_ble_eq_true rfl)  (by decide) (by decide) rfl (Nat.le_of_ble_eq_true rfl) rfl rfl rfl rfl (by decide) rfl (fun v1 f1 hp => ?_)
    obtain ⟨rfl, rfl⟩ := hp
    show G g E _ _ _ [(wTok g k tpa kk kp kn sz kc (fg + 1) (kp fg)), (wBook g bk (k 0) sa2 ra eo es ep dp ss pp sg us fk fp)] 18 [(0, .ref (bk 0)), (1, .int (iI v))] []
    refine r_goto 25 hE dX0_expect_18 (by decide) ?_
    refine G.to (fs' := [(wBook g bk (k 0) sa2 ra eo es ep dp ss pp sg us fk fp), (wTok g k tpa kk kp kn sz kc (fg + 1) (kp fg))]) [1, 0] [0, 1] rfl rfl rfl ?_
    refine r_return hE hR [(wBook g bk (k 0) sa2 ra eo es ep dp ss pp sg us fk fp), (wTok g k tpa kk kp kn sz kc (fg + 1) (kp fg))] dX0_expect_25 (Nat.le_of_ble_eq_true rfl) (Nat.le_of_ble_eq_true rfl) rfl ?_
    first
      | exact ⟨_, _, _, _, rfl, rfl, Or.inl ⟨by rw [← hat.1.1]; exact c8, rfl, rfl⟩, by omega, Or.inl ⟨rfl, hat.1.2.1⟩, by omega⟩
      | exact ⟨_, _, _, _, rfl, rfl, Or.inr ⟨by rw [← hat.1.1]; exact c8, rfl, h22_0⟩, hfi, Or.inr ⟨rfl, rfl⟩, h22_1⟩
set_option maxHeartbeats 4000000 in
set_option maxRecDepth 100000 in
theorem c_X0_readNumber {g : Gm} {k : Nat → Nat} {tpa : Nat} {kk kp kn : Int → Int} {sz kc fg ps : Int} {tf : Int → Int} {bk : Nat → Nat} {sa2 ra : Nat} {eo es ep : Int → Int} {dp ss pp sg us fk fp : Int} {lo hi q : Int} (hK : TkG tf sz kk kp kn kc) (hfi : 0 ≤ fg ∧ fg < kc) (hfk : -1 ≤ fk ∧ fk ≤ 9) (hlo : (0 ≤ lo ∧ lo ≤ 1) ∧ (-20000 ≤ hi ∧ hi ≤ 20000) ∧ (1 ≤ q ∧ q ≤ 9)) : Ct g 2 0 0 yX0_readNumber cX0_readNumber 5 (some .int) [.ref (bk 0), .int (iI lo), .int (iI hi), .int (iI q)] [(wBook g bk (k 0) sa2 ra eo es ep dp ss pp sg us fk fp), (wTok g k tpa kk kp kn sz kc fg ps)] (fun v_ w_ => ∃ r9 : Int, ∃ fg9 : Int, ∃ ps9 : Int, ∃ fk9 : Int, ∃ fp9 : Int, v_ = some (.int (iI r9)) ∧ w_ = [(wBook g bk (k 0) sa2 ra eo es ep dp ss pp sg us fk9 fp9), (wTok g k tpa kk kp kn sz kc fg9 ps9)] ∧ (NumR (bkOf tf sz) fg lo hi q (fk, fp) r9 fg9 (fk9, fp9)) ∧ (0 ≤ fg9 ∧ fg9 < kc) ∧ (PasR (bkOf tf sz) fg ps fg9 ps9) ∧ (-1 ≤ r9 ∧ r9 ≤ 9999) ∧ (-1 ≤ fk9 ∧ fk9 ≤ 9)) := by
  refine Ct.of (by decide) (Nat.le_of_ble_eq_true rfl) (lv := [(0, .ref (bk 0)), (1, .int (iI lo)), (2, .int (iI hi)), (3, .int (iI q))]) rfl ?_
  intro E hE hR hnm
  have hkc := hK.1
  have hat := hK.at hfi
  refine r_aload_n 1 hE 0 dX0_readNumber_0 rfl rfl rfl ?_
  refine r_get 4 hE 0 0 ok0 0 dX0_readNumber_1 rfl wd_124 rfl rfl (by decide) rfl ?_
  refine r_callV 7 hE [1] [0] [(wTok g k tpa kk kp kn sz kc fg ps)] [(wBook g bk (k 0) sa2 ra eo es ep dp ss pp sg us fk fp)] 0 6 ok6 [] (c_X6_kind (by omega)) dX0_readNumber_4 rfl rfl wd_507 wd_508 wd_509 wd_3 wd_510 ne_X6 np_X6_kind (Nat.le_of_ble_eq_true rfl)  (by decide) (by decide) rfl (Nat.le_of_ble_eq_true rfl) rfl rfl rfl rfl (by decide) rfl (fun v1 f1 hp => ?_)
  obtain ⟨rfl, rfl⟩ := hp
  show G g E _ _ _ [(wTok g k tpa kk kp kn sz kc fg ps), (wBook g bk (k 0) sa2 ra eo es ep dp ss pp sg us fk fp)] 7 [(0, .ref (bk 0)), (1, .int (iI lo)), (2, .int (iI hi)), (3, .int (iI q))] [.int (iI (kk fg))]
  refine r_iconst 8 hE dX0_readNumber_7 rfl ?_
  refine r_icmp_eq 11 17 hE dX0_readNumber_8 rfl (by decide) (by omega) (fun c8 => ?_) (fun c8 => ?_)
  · skip
    have hnx := hK.nx hfi (by omega)
    have hk5 : (bkOf tf sz).K fg.toNat = 5 := by rw [← hat.1.1]; exact c8
    refine r_aload_n 18 hE 0 dX0_readNumber_17 rfl rfl rfl ?_
    refine r_get 21 hE 1 0 ok0 0 dX0_readNumber_18 rfl wd_124 rfl rfl (by decide) rfl ?_
    refine r_callV 24 hE [0] [1] [(wTok g k tpa kk kp kn sz kc fg ps)] [(wBook g bk (k 0) sa2 ra eo es ep dp ss pp sg us fk fp)] 0 6 ok6 [] (c_X6_number (by omega)) dX0_readNumber_21 rfl rfl wd_544 wd_545 wd_546 wd_3 wd_547 ne_X6 np_X6_number (Nat.le_of_ble_eq_true rfl)  (by decide) (by decide) rfl (Nat.le_of_ble_eq_true rfl) rfl rfl rfl rfl (by decide) rfl (fun v1 f1 hp => ?_)
    obtain ⟨rfl, rfl⟩ := hp
    show G g E _ _ _ [(wTok g k tpa kk kp kn sz kc fg ps), (wBook g bk (k 0) sa2 ra eo es ep dp ss pp sg us fk fp)] 24 [(0, .ref (bk 0)), (1, .int (iI lo)), (2, .int (iI hi)), (3, .int (iI q))] [.int (iI (kn fg))]
    refine r_istore 26 hE [(4, .int (iI (kn fg))), (0, .ref (bk 0)), (1, .int (iI lo)), (2, .int (iI hi)), (3, .int (iI q))] dX0_readNumber_24 rfl (by decide) rfl ?_
    refine r_iload 28 hE 0 dX0_readNumber_26 rfl rfl ?_
    refine r_iload_n 29 hE 2 dX0_readNumber_28 rfl rfl rfl ?_
    refine r_icmp_lt 32 38 hE dX0_readNumber_29 rfl (by decide) (by omega) (fun c29 => ?_) (fun c29 => ?_)
    · skip
      refine r_aload_n 39 hE 1 dX0_readNumber_38 rfl rfl rfl ?_
      refine r_iload_n 40 hE 4 dX0_readNumber_39 rfl rfl rfl ?_
      refine r_aload_n 41 hE 1 dX0_readNumber_40 rfl rfl rfl ?_
      refine r_get 44 hE 1 0 ok0 0 dX0_readNumber_41 rfl wd_124 rfl rfl (by decide) rfl ?_
      refine r_callV 47 hE [0] [1] [(wTok g k tpa kk kp kn sz kc fg ps)] [(wBook g bk (k 0) sa2 ra eo es ep dp ss pp sg us fk fp)] 0 6 ok6 [.int (iI q), .ref (bk 0)] (c_X6_place (by omega)) dX0_readNumber_44 rfl rfl wd_519 wd_520 wd_521 wd_3 wd_522 ne_X6 np_X6_place (Nat.le_of_ble_eq_true rfl)  (by decide) (by decide) rfl (Nat.le_of_ble_eq_true rfl) rfl rfl rfl rfl (by decide) rfl (fun v1 f1 hp => ?_)
      obtain ⟨rfl, rfl⟩ := hp
      show G g E _ _ _ [(wTok g k tpa kk kp kn sz kc fg ps), (wBook g bk (k 0) sa2 ra eo es ep dp ss pp sg us fk fp)] 47 [(4, .int (iI (kn fg))), (0, .ref (bk 0)), (1, .int (iI lo)), (2, .int (iI hi)), (3, .int (iI q))] [.int (iI (kp fg)), .int (iI q), .ref (bk 0)]
      refine r_callV 50 hE [1] [0] [(wBook g bk (k 0) sa2 ra eo es ep dp ss pp sg us fk fp)] [(wTok g k tpa kk kp kn sz kc fg ps)] 0 0 ok0 [] (c_X0_blame (by omega) (by omega)) dX0_readNumber_47 rfl rfl wd_523 wd_525 ws_11 wd_2 wd_526 ne_X0 np_X0_blame (Nat.le_of_ble_eq_true rfl)  (by decide) (by decide) rfl (Nat.le_of_ble_eq_true rfl) rfl rfl rfl rfl (by decide) rfl (fun v1 f1 hp => ?_)
      obtain ⟨fk9_47, fp9_47, rfl, rfl, h47_0, h47_1⟩ := hp
      show G g E _ _ _ [(wBook g bk (k 0) sa2 ra eo es ep dp ss pp sg us fk9_47 fp9_47), (wTok g k tpa kk kp kn sz kc fg ps)] 50 [(4, .int (iI (kn fg))), (0, .ref (bk 0)), (1, .int (iI lo)), (2, .int (iI hi)), (3, .int (iI q))] []
      refine r_aload_n 51 hE 1 dX0_readNumber_50 rfl rfl rfl ?_
      refine r_get 54 hE 0 0 ok0 0 dX0_readNumber_51 rfl wd_124 rfl rfl (by decide) rfl ?_
      refine r_callV 57 hE [1] [0] [(wTok g k tpa kk kp kn sz kc fg ps)] [(wBook g bk (k 0) sa2 ra eo es ep dp ss pp sg us fk9_47 fp9_47)] 0 6 ok6 [] (c_X6_pass (by omega) (by omega)) dX0_readNumber_54 rfl rfl wd_527 wd_528 wd_529 wd_3 wd_530 ne_X6 np_X6_pass (Nat.le_of_ble_eq_true rfl)  (by decide) (by decide) rfl (Nat.le_of_ble_eq_true rfl) rfl rfl rfl rfl (by decide) rfl (fun v1 f1 hp => ?_)
      obtain ⟨rfl, rfl⟩ := hp
      show G g E _ _ _ [(wTok g k tpa kk kp kn sz kc (fg + 1) (kp fg)), (wBook g bk (k 0) sa2 ra eo es ep dp ss pp sg us fk9_47 fp9_47)] 57 [(4, .int (iI (kn fg))), (0, .ref (bk 0)), (1, .int (iI lo)), (2, .int (iI hi)), (3, .int (iI q))] []
      refine r_iload 59 hE 0 dX0_readNumber_57 rfl rfl ?_
      refine G.to (fs' := [(wBook g bk (k 0) sa2 ra eo es ep dp ss pp sg us fk9_47 fp9_47), (wTok g k tpa kk kp kn sz kc (fg + 1) (kp fg))]) [1, 0] [0, 1, 2, 3, 4] rfl rfl rfl ?_
      refine r_ireturn hE hR [(wBook g bk (k 0) sa2 ra eo es ep dp ss pp sg us fk9_47 fp9_47), (wTok g k tpa kk kp kn sz kc (fg + 1) (kp fg))] dX0_readNumber_59 (Nat.le_of_ble_eq_true rfl) (Nat.le_of_ble_eq_true rfl) rfl ?_
      first
        | exact ⟨_, _, _, _, _, rfl, rfl, Or.inr ⟨_, num_r hk5 hat.1.2.2 (by omega), Or.inr rfl, by rw [← hat.1.2.1]; exact h47_0⟩, by omega, Or.inl ⟨rfl, hat.1.2.1⟩, by omega, h47_1⟩
        | exact ⟨_, _, _, _, _, rfl, rfl, Or.inl ⟨num_y hk5 hat.1.2.2 (by omega), rfl, rfl⟩, by omega, Or.inl ⟨rfl, hat.1.2.1⟩, by omega, by omega⟩
    · skip
      refine r_iload 34 hE 0 dX0_readNumber_32 rfl rfl ?_
      refine r_iload_n 35 hE 3 dX0_readNumber_34 rfl rfl rfl ?_
      refine r_icmp_le 38 50 hE dX0_readNumber_35 rfl (by decide) (by omega) (fun c35 => ?_) (fun c35 => ?_)
      · skip
        refine r_aload_n 51 hE 1 dX0_readNumber_50 rfl rfl rfl ?_
        refine r_get 54 hE 1 0 ok0 0 dX0_readNumber_51 rfl wd_124 rfl rfl (by decide) rfl ?_
        refine r_callV 57 hE [0] [1] [(wTok g k tpa kk kp kn sz kc fg ps)] [(wBook g bk (k 0) sa2 ra eo es ep dp ss pp sg us fk fp)] 0 6 ok6 [] (c_X6_pass (by omega) (by omega)) dX0_readNumber_54 rfl rfl wd_527 wd_528 wd_529 wd_3 wd_530 ne_X6 np_X6_pass (Nat.le_of_ble_eq_true rfl)  (by decide) (by decide) rfl (Nat.le_of_ble_eq_true rfl) rfl rfl rfl rfl (by decide) rfl (fun v1 f1 hp => ?_)
        obtain ⟨rfl, rfl⟩ := hp
        show G g E _ _ _ [(wTok g k tpa kk kp kn sz kc (fg + 1) (kp fg)), (wBook g bk (k 0) sa2 ra eo es ep dp ss pp sg us fk fp)] 57 [(4, .int (iI (kn fg))), (0, .ref (bk 0)), (1, .int (iI lo)), (2, .int (iI hi)), (3, .int (iI q))] []
        refine r_iload 59 hE 0 dX0_readNumber_57 rfl rfl ?_
        refine G.to (fs' := [(wBook g bk (k 0) sa2 ra eo es ep dp ss pp sg us fk fp), (wTok g k tpa kk kp kn sz kc (fg + 1) (kp fg))]) [1, 0] [0, 1, 2, 3, 4] rfl rfl rfl ?_
        refine r_ireturn hE hR [(wBook g bk (k 0) sa2 ra eo es ep dp ss pp sg us fk fp), (wTok g k tpa kk kp kn sz kc (fg + 1) (kp fg))] dX0_readNumber_59 (Nat.le_of_ble_eq_true rfl) (Nat.le_of_ble_eq_true rfl) rfl ?_
        first
          | exact ⟨_, _, _, _, _, rfl, rfl, Or.inr ⟨_, num_r hk5 hat.1.2.2 (by omega), Or.inr rfl, by rw [← hat.1.2.1]; exact h47_0⟩, by omega, Or.inl ⟨rfl, hat.1.2.1⟩, by omega, h47_1⟩
          | exact ⟨_, _, _, _, _, rfl, rfl, Or.inl ⟨num_y hk5 hat.1.2.2 (by omega), rfl, rfl⟩, by omega, Or.inl ⟨rfl, hat.1.2.1⟩, by omega, by omega⟩
      · skip
        refine r_aload_n 39 hE 1 dX0_readNumber_38 rfl rfl rfl ?_
        refine r_iload_n 40 hE 4 dX0_readNumber_39 rfl rfl rfl ?_
        refine r_aload_n 41 hE 1 dX0_readNumber_40 rfl rfl rfl ?_
        refine r_get 44 hE 1 0 ok0 0 dX0_readNumber_41 rfl wd_124 rfl rfl (by decide) rfl ?_
        refine r_callV 47 hE [0] [1] [(wTok g k tpa kk kp kn sz kc fg ps)] [(wBook g bk (k 0) sa2 ra eo es ep dp ss pp sg us fk fp)] 0 6 ok6 [.int (iI q), .ref (bk 0)] (c_X6_place (by omega)) dX0_readNumber_44 rfl rfl wd_519 wd_520 wd_521 wd_3 wd_522 ne_X6 np_X6_place (Nat.le_of_ble_eq_true rfl)  (by decide) (by decide) rfl (Nat.le_of_ble_eq_true rfl) rfl rfl rfl rfl (by decide) rfl (fun v1 f1 hp => ?_)
        obtain ⟨rfl, rfl⟩ := hp
        show G g E _ _ _ [(wTok g k tpa kk kp kn sz kc fg ps), (wBook g bk (k 0) sa2 ra eo es ep dp ss pp sg us fk fp)] 47 [(4, .int (iI (kn fg))), (0, .ref (bk 0)), (1, .int (iI lo)), (2, .int (iI hi)), (3, .int (iI q))] [.int (iI (kp fg)), .int (iI q), .ref (bk 0)]
        refine r_callV 50 hE [1] [0] [(wBook g bk (k 0) sa2 ra eo es ep dp ss pp sg us fk fp)] [(wTok g k tpa kk kp kn sz kc fg ps)] 0 0 ok0 [] (c_X0_blame (by omega) (by omega)) dX0_readNumber_47 rfl rfl wd_523 wd_525 ws_11 wd_2 wd_526 ne_X0 np_X0_blame (Nat.le_of_ble_eq_true rfl)  (by decide) (by decide) rfl (Nat.le_of_ble_eq_true rfl) rfl rfl rfl rfl (by decide) rfl (fun v1 f1 hp => ?_)
        obtain ⟨fk9_47, fp9_47, rfl, rfl, h47_0, h47_1⟩ := hp
        show G g E _ _ _ [(wBook g bk (k 0) sa2 ra eo es ep dp ss pp sg us fk9_47 fp9_47), (wTok g k tpa kk kp kn sz kc fg ps)] 50 [(4, .int (iI (kn fg))), (0, .ref (bk 0)), (1, .int (iI lo)), (2, .int (iI hi)), (3, .int (iI q))] []
        refine r_aload_n 51 hE 1 dX0_readNumber_50 rfl rfl rfl ?_
        refine r_get 54 hE 0 0 ok0 0 dX0_readNumber_51 rfl wd_124 rfl rfl (by decide) rfl ?_
        refine r_callV 57 hE [1] [0] [(wTok g k tpa kk kp kn sz kc fg ps)] [(wBook g bk (k 0) sa2 ra eo es ep dp ss pp sg us fk9_47 fp9_47)] 0 6 ok6 [] (c_X6_pass (by omega) (by omega)) dX0_readNumber_54 rfl rfl wd_527 wd_528 wd_529 wd_3 wd_530 ne_X6 np_X6_pass (Nat.le_of_ble_eq_true rfl)  (by decide) (by decide) rfl (Nat.le_of_ble_eq_true rfl) rfl rfl rfl rfl (by decide) rfl (fun v1 f1 hp => ?_)
        obtain ⟨rfl, rfl⟩ := hp
        show G g E _ _ _ [(wTok g k tpa kk kp kn sz kc (fg + 1) (kp fg)), (wBook g bk (k 0) sa2 ra eo es ep dp ss pp sg us fk9_47 fp9_47)] 57 [(4, .int (iI (kn fg))), (0, .ref (bk 0)), (1, .int (iI lo)), (2, .int (iI hi)), (3, .int (iI q))] []
        refine r_iload 59 hE 0 dX0_readNumber_57 rfl rfl ?_
        refine G.to (fs' := [(wBook g bk (k 0) sa2 ra eo es ep dp ss pp sg us fk9_47 fp9_47), (wTok g k tpa kk kp kn sz kc (fg + 1) (kp fg))]) [1, 0] [0, 1, 2, 3, 4] rfl rfl rfl ?_
        refine r_ireturn hE hR [(wBook g bk (k 0) sa2 ra eo es ep dp ss pp sg us fk9_47 fp9_47), (wTok g k tpa kk kp kn sz kc (fg + 1) (kp fg))] dX0_readNumber_59 (Nat.le_of_ble_eq_true rfl) (Nat.le_of_ble_eq_true rfl) rfl ?_
        first
          | exact ⟨_, _, _, _, _, rfl, rfl, Or.inr ⟨_, num_r hk5 hat.1.2.2 (by omega), Or.inr rfl, by rw [← hat.1.2.1]; exact h47_0⟩, by omega, Or.inl ⟨rfl, hat.1.2.1⟩, by omega, h47_1⟩
          | exact ⟨_, _, _, _, _, rfl, rfl, Or.inl ⟨num_y hk5 hat.1.2.2 (by omega), rfl, rfl⟩, by omega, Or.inl ⟨rfl, hat.1.2.1⟩, by omega, by omega⟩
  · skip
    refine r_aload_n 12 hE 0 dX0_readNumber_11 rfl rfl rfl ?_
    refine r_callV 15 hE [1, 0] [] [(wBook g bk (k 0) sa2 ra eo es ep dp ss pp sg us fk fp), (wTok g k tpa kk kp kn sz kc fg ps)] [] 0 0 ok0 [] (c_X0_blameToken (hK) (by omega) (by omega)) dX0_readNumber_12 rfl rfl wd_536 wd_538 ws_13 wd_2 wd_539 ne_X0 np_X0_blameToken (Nat.le_of_ble_eq_true rfl)  (by decide) (by decide) rfl (Nat.le_of_ble_eq_true rfl) rfl rfl rfl rfl (by decide) rfl (fun v1 f1 hp => ?_)
    obtain ⟨fk9_12, fp9_12, rfl, rfl, h12_0, h12_1⟩ := hp
    show G g E _ _ _ [(wBook g bk (k 0) sa2 ra eo es ep dp ss pp sg us fk9_12 fp9_12), (wTok g k tpa kk kp kn sz kc fg ps)] 15 [(0, .ref (bk 0)), (1, .int (iI lo)), (2, .int (iI hi)), (3, .int (iI q))] []
    refine r_iconst 16 hE dX0_readNumber_15 rfl ?_
    refine r_ireturn hE hR [(wBook g bk (k 0) sa2 ra eo es ep dp ss pp sg us fk9_12 fp9_12), (wTok g k tpa kk kp kn sz kc fg ps)] dX0_readNumber_16 (Nat.le_of_ble_eq_true rfl) (Nat.le_of_ble_eq_true rfl) rfl ?_
    exact ⟨_, _, _, _, _, rfl, rfl, Or.inr ⟨_, num_n (by rw [← hat.1.1]; exact c8), Or.inl rfl, h12_0⟩, hfi, Or.inr ⟨rfl, rfl⟩, by omega, h12_1⟩
set_option maxHeartbeats 4000000 in
set_option maxRecDepth 100000 in
theorem c_X0_readHead {g : Gm} {k : Nat → Nat} {tpa : Nat} {kk kp kn : Int → Int} {sz kc fg ps : Int} {tf : Int → Int} {bk : Nat → Nat} {ra : Nat} {eo es ep : Int → Int} {dp ss pp sg us fk fp : Int} {a : Nat → Nat} {L ln tp rd : Int → Int} {cnt era nws : Int} (hK : TkG tf sz kk kp kn kc) (hfi : 0 ≤ fg ∧ fg < kc) (hfk0 : fk = 0) (hsh : ShOk L ln cnt) : Ct g 3 0 0 yX0_readHead cX0_readHead 2 (some .int) [.ref (bk 0)] [(wBook g bk (k 0) (a 0) ra eo es ep dp ss pp sg us fk fp), (wTok g k tpa kk kp kn sz kc fg ps), (wShelf g a L ln tp rd cnt era nws)] (fun v_ w_ => ∃ t9 : Int, ∃ fg9 : Int, ∃ ps9 : Int, ∃ fk9 : Int, ∃ fp9 : Int, v_ = some (.int (iI t9)) ∧ w_ = [(wBook g bk (k 0) (a 0) ra eo es ep dp ss pp sg us fk9 fp9), (wTok g k tpa kk kp kn sz kc fg9 ps9), (wShelf g a L ln tp rd cnt era nws)] ∧ ((headE (bkOf tf sz) (tsOf L ln cnt) fg.toNat = .ok (t9.toNat, fg9.toNat) ∧ fk9 = 0 ∧ (0 ≤ t9 ∧ t9 ≤ cnt ∧ t9 < 8) ∧ fg < fg9 ∧ ps9 = (bkOf tf sz).P (fg9.toNat - 1)) ∨ (headE (bkOf tf sz) (tsOf L ln cnt) fg.toNat = .error (fk9, fp9) ∧ fk9 ≠ 0)) ∧ (0 ≤ fg9 ∧ fg9 < kc) ∧ (-1 ≤ fk9 ∧ fk9 ≤ 9) ∧ (-1 ≤ t9 ∧ t9 ≤ 9999)) := by
  refine Ct.of (by decide) (Nat.le_of_ble_eq_true rfl) (lv := [(0, .ref (bk 0))]) rfl ?_
  intro E hE hR hnm
  have hkc := hK.1
  have hat := hK.at hfi
  have hc := hsh.1
  have htl := tsOf_len L ln hc.1
  refine r_aload_n 1 hE 0 dX0_readHead_0 rfl rfl rfl ?_
  refine r_get 4 hE 0 0 ok0 0 dX0_readHead_1 rfl wd_124 rfl rfl (by decide) rfl ?_
  refine r_callV 7 hE [1] [0, 2] [(wTok g k tpa kk kp kn sz kc fg ps)] [(wBook g bk (k 0) (a 0) ra eo es ep dp ss pp sg us fk fp), (wShelf g a L ln tp rd cnt era nws)] 0 6 ok6 [] (c_X6_kind (by omega)) dX0_readHead_4 rfl rfl wd_507 wd_508 wd_509 wd_3 wd_510 ne_X6 np_X6_kind (Nat.le_of_ble_eq_true rfl)  (by decide) (by decide) rfl (Nat.le_of_ble_eq_true rfl) rfl rfl rfl rfl (by decide) rfl (fun v1 f1 hp => ?_)
  obtain ⟨rfl, rfl⟩ := hp
  show G g E _ _ _ [(wTok g k tpa kk kp kn sz kc fg ps), (wBook g bk (k 0) (a 0) ra eo es ep dp ss pp sg us fk fp), (wShelf g a L ln tp rd cnt era nws)] 7 [(0, .ref (bk 0))] [.int (iI (kk fg))]
  refine r_iconst 8 hE dX0_readHead_7 rfl ?_
  refine r_icmp_ne 11 51 hE dX0_readHead_8 rfl (by decide) (by omega) (fun c8 => ?_) (fun c8 => ?_)
  · skip
    have hk3 : (bkOf tf sz).K fg.toNat ≠ 3 := by rw [← hat.1.1]; exact c8
    refine r_aload_n 52 hE 0 dX0_readHead_51 rfl rfl rfl ?_
    refine r_iconst 53 hE dX0_readHead_52 rfl ?_
    refine r_callV 56 hE [1, 0] [2] [(wBook g bk (k 0) (a 0) ra eo es ep dp ss pp sg us fk fp), (wTok g k tpa kk kp kn sz kc fg ps)] [(wShelf g a L ln tp rd cnt era nws)] 0 0 ok0 [] (c_X0_expect (hK) (by omega) (by omega) (by omega)) dX0_readHead_53 rfl rfl wd_532 wd_534 ws_12 wd_2 wd_535 ne_X0 np_X0_expect (Nat.le_of_ble_eq_true rfl)  (by decide) (by decide) rfl (Nat.le_of_ble_eq_true rfl) rfl rfl rfl rfl (by decide) rfl (fun v1 f1 hp => ?_)
    obtain ⟨fg9_53, ps9_53, fk9_53, fp9_53, rfl, rfl, h53_0, h53_1, h53_2, h53_3⟩ := hp
    show G g E _ _ _ [(wBook g bk (k 0) (a 0) ra eo es ep dp ss pp sg us fk9_53 fp9_53), (wTok g k tpa kk kp kn sz kc fg9_53 ps9_53), (wShelf g a L ln tp rd cnt era nws)] 56 [(0, .ref (bk 0))] []
    refine r_aload_n 57 hE 0 dX0_readHead_56 rfl rfl rfl ?_
    refine r_iconst 58 hE dX0_readHead_57 rfl ?_
    refine r_aload_n 59 hE 0 dX0_readHead_58 rfl rfl rfl ?_
    refine r_get 62 hE 0 0 ok0 1 dX0_readHead_59 rfl wd_126 rfl rfl (by decide) rfl ?_
    refine r_get 65 hE 2 0 ok5 4 dX0_readHead_62 rfl wd_83 rfl rfl (by decide) rfl ?_
    refine r_iconst 66 hE dX0_readHead_65 rfl ?_
    refine r_isub 67 hE (cnt - 1) dX0_readHead_66 rfl rfl ?_
    refine r_iconst 68 hE dX0_readHead_67 rfl ?_
    refine r_callV 71 hE [0, 1] [2] [(wBook g bk (k 0) (a 0) ra eo es ep dp ss pp sg us fk9_53 fp9_53), (wTok g k tpa kk kp kn sz kc fg9_53 ps9_53)] [(wShelf g a L ln tp rd cnt era nws)] 0 0 ok0 [] (c_X0_readNumber (hK) (h53_1) (h53_3) (by omega)) dX0_readHead_68 rfl rfl wd_540 wd_542 ws_14 wd_2 wd_543 ne_X0 np_X0_readNumber (Nat.le_of_ble_eq_true rfl)  (by decide) (by decide) rfl (Nat.le_of_ble_eq_true rfl) rfl rfl rfl rfl (by decide) rfl (fun v1 f1 hp => ?_)
    obtain ⟨r9_68, fg9_68, ps9_68, fk9_68, fp9_68, rfl, rfl, h68_0, h68_1, h68_2, h68_3, h68_4⟩ := hp
    show G g E _ _ _ [(wBook g bk (k 0) (a 0) ra eo es ep dp ss pp sg us fk9_68 fp9_68), (wTok g k tpa kk kp kn sz kc fg9_68 ps9_68), (wShelf g a L ln tp rd cnt era nws)] 71 [(0, .ref (bk 0))] [.int (iI r9_68)]
    rw [show cnt - 1 = ((tsOf L ln cnt).length : Int) - 1 by omega] at h68_0
    refine r_istore_n 72 hE [(1, .int (iI r9_68)), (0, .ref (bk 0))] dX0_readHead_71 rfl rfl (by decide) rfl ?_
    refine r_aload_n 73 hE 1 dX0_readHead_72 rfl rfl rfl ?_
    refine r_bipush 75 hE dX0_readHead_73 rfl (by decide) ?_
    refine r_callV 78 hE [0, 1] [2] [(wBook g bk (k 0) (a 0) ra eo es ep dp ss pp sg us fk9_68 fp9_68), (wTok g k tpa kk kp kn sz kc fg9_68 ps9_68)] [(wShelf g a L ln tp rd cnt era nws)] 0 0 ok0 [] (c_X0_expect (hK) (h68_1) (h68_4) (by omega)) dX0_readHead_75 rfl rfl wd_532 wd_534 ws_12 wd_2 wd_535 ne_X0 np_X0_expect (Nat.le_of_ble_eq_true rfl)  (by decide) (by decide) rfl (Nat.le_of_ble_eq_true rfl) rfl rfl rfl rfl (by decide) rfl (fun v1 f1 hp => ?_)
    obtain ⟨fg9_75, ps9_75, fk9_75, fp9_75, rfl, rfl, h75_0, h75_1, h75_2, h75_3⟩ := hp
    show G g E _ _ _ [(wBook g bk (k 0) (a 0) ra eo es ep dp ss pp sg us fk9_75 fp9_75), (wTok g k tpa kk kp kn sz kc fg9_75 ps9_75), (wShelf g a L ln tp rd cnt era nws)] 78 [(1, .int (iI r9_68)), (0, .ref (bk 0))] []
    have hsim := head_sim hfi.1 hfk0 hk3 h53_0 h68_0 h75_0
    refine r_iload_n 79 hE 0 dX0_readHead_78 rfl rfl rfl ?_
    refine r_ireturn hE hR [(wBook g bk (k 0) (a 0) ra eo es ep dp ss pp sg us fk9_75 fp9_75), (wTok g k tpa kk kp kn sz kc fg9_75 ps9_75), (wShelf g a L ln tp rd cnt era nws)] dX0_readHead_79 (Nat.le_of_ble_eq_true rfl) (Nat.le_of_ble_eq_true rfl) rfl ?_
    refine ⟨_, _, _, _, _, rfl, rfl, ?_, h75_1, h75_3, h68_3⟩
    by_cases q : fk9_75 = 0
    · have hy := hsim.1 q
      refine Or.inl ⟨hy.1, q, by omega, by omega, ?_⟩
      rcases h75_2 with z | z
      · rw [z.2, z.1]; congr 1; omega
      · have h9 := h75_0; rcases h9 with w | w
        · omega
        · have hz : (fk9_75, fp9_75) = blm (fk9_68, fp9_68) (ftAt (bkOf tf sz) fg9_68.toNat 2) := w.2.2
          exact absurd (by rw [← hz]; exact q) (blm_ne (f := (fk9_68, fp9_68)) (ftAt_ne (bkOf tf sz) fg9_68.toNat))
    · exact Or.inr ⟨hsim.2 q, q⟩
  · skip
    have hnx := hK.nx hfi (by omega)
    have hk3 : (bkOf tf sz).K fg.toNat = 3 := by rw [← hat.1.1]; exact c8
    refine r_aload_n 12 hE 0 dX0_readHead_11 rfl rfl rfl ?_
    refine r_get 15 hE 1 0 ok0 1 dX0_readHead_12 rfl wd_126 rfl rfl (by decide) rfl ?_
    refine r_get 18 hE 2 0 ok5 4 dX0_readHead_15 rfl wd_83 rfl rfl (by decide) rfl ?_
    refine r_bipush 20 hE dX0_readHead_18 rfl (by decide) ?_
    refine r_icmp_lt 23 36 hE dX0_readHead_20 rfl (by decide) (by omega) (fun c20 => ?_) (fun c20 => ?_)
    · skip
      have hst : headE (bkOf tf sz) (tsOf L ln cnt) fg.toNat = .ok (cnt.toNat, (fg + 1).toNat) := by unfold headE; rw [if_pos hk3, if_neg (by omega), toNat_succ hfi.1]; congr 2; omega
      refine r_aload_n 37 hE 0 dX0_readHead_36 rfl rfl rfl ?_
      refine r_get 40 hE 1 0 ok0 0 dX0_readHead_37 rfl wd_124 rfl rfl (by decide) rfl ?_
      refine r_callV 43 hE [0] [1, 2] [(wTok g k tpa kk kp kn sz kc fg ps)] [(wBook g bk (k 0) (a 0) ra eo es ep dp ss pp sg us fk fp), (wShelf g a L ln tp rd cnt era nws)] 0 6 ok6 [] (c_X6_pass (by omega) (by omega)) dX0_readHead_40 rfl rfl wd_527 wd_528 wd_529 wd_3 wd_530 ne_X6 np_X6_pass (Nat.le_of_ble_eq_true rfl)  (by decide) (by decide) rfl (Nat.le_of_ble_eq_true rfl) rfl rfl rfl rfl (by decide) rfl (fun v1 f1 hp => ?_)
      obtain ⟨rfl, rfl⟩ := hp
      show G g E _ _ _ [(wTok g k tpa kk kp kn sz kc (fg + 1) (kp fg)), (wBook g bk (k 0) (a 0) ra eo es ep dp ss pp sg us fk fp), (wShelf g a L ln tp rd cnt era nws)] 43 [(0, .ref (bk 0))] []
      refine r_aload_n 44 hE 0 dX0_readHead_43 rfl rfl rfl ?_
      refine r_get 47 hE 1 0 ok0 1 dX0_readHead_44 rfl wd_126 rfl rfl (by decide) rfl ?_
      refine r_get 50 hE 2 0 ok5 4 dX0_readHead_47 rfl wd_83 rfl rfl (by decide) rfl ?_
      refine G.to (fs' := [(wBook g bk (k 0) (a 0) ra eo es ep dp ss pp sg us fk fp), (wTok g k tpa kk kp kn sz kc (fg + 1) (kp fg)), (wShelf g a L ln tp rd cnt era nws)]) [1, 0, 2] [0] rfl rfl rfl ?_
      refine r_ireturn hE hR [(wBook g bk (k 0) (a 0) ra eo es ep dp ss pp sg us fk fp), (wTok g k tpa kk kp kn sz kc (fg + 1) (kp fg)), (wShelf g a L ln tp rd cnt era nws)] dX0_readHead_50 (Nat.le_of_ble_eq_true rfl) (Nat.le_of_ble_eq_true rfl) rfl ?_
      first
        | exact ⟨_, _, _, _, _, rfl, rfl, Or.inr ⟨by rw [hst, ← h33_0], by injection h33_0 with q1 q2; rw [q1]; decide⟩, by omega, h33_1, by omega⟩
        | exact ⟨_, _, _, _, _, rfl, rfl, Or.inl ⟨hst, hfk0, by omega, by omega, by rw [toNat_succ hfi.1, Nat.add_sub_cancel]; exact hat.1.2.1⟩, by omega, by omega, by omega⟩
    · skip
      have hst : headE (bkOf tf sz) (tsOf L ln cnt) fg.toNat = .error (6, kp fg) := by unfold headE; rw [if_pos hk3, if_pos (by omega), hat.1.2.1]
      refine r_aload_n 24 hE 0 dX0_readHead_23 rfl rfl rfl ?_
      refine r_bipush 26 hE dX0_readHead_24 rfl (by decide) ?_
      refine r_aload_n 27 hE 0 dX0_readHead_26 rfl rfl rfl ?_
      refine r_get 30 hE 1 0 ok0 0 dX0_readHead_27 rfl wd_124 rfl rfl (by decide) rfl ?_
      refine r_callV 33 hE [0] [1, 2] [(wTok g k tpa kk kp kn sz kc fg ps)] [(wBook g bk (k 0) (a 0) ra eo es ep dp ss pp sg us fk fp), (wShelf g a L ln tp rd cnt era nws)] 0 6 ok6 [.int (iI 6), .ref (bk 0)] (c_X6_place (by omega)) dX0_readHead_30 rfl rfl wd_519 wd_520 wd_521 wd_3 wd_522 ne_X6 np_X6_place (Nat.le_of_ble_eq_true rfl)  (by decide) (by decide) rfl (Nat.le_of_ble_eq_true rfl) rfl rfl rfl rfl (by decide) rfl (fun v1 f1 hp => ?_)
      obtain ⟨rfl, rfl⟩ := hp
      show G g E _ _ _ [(wTok g k tpa kk kp kn sz kc fg ps), (wBook g bk (k 0) (a 0) ra eo es ep dp ss pp sg us fk fp), (wShelf g a L ln tp rd cnt era nws)] 33 [(0, .ref (bk 0))] [.int (iI (kp fg)), .int (iI 6), .ref (bk 0)]
      refine r_callV 36 hE [1] [0, 2] [(wBook g bk (k 0) (a 0) ra eo es ep dp ss pp sg us fk fp)] [(wTok g k tpa kk kp kn sz kc fg ps), (wShelf g a L ln tp rd cnt era nws)] 0 0 ok0 [] (c_X0_blame (by omega) (by omega)) dX0_readHead_33 rfl rfl wd_523 wd_525 ws_11 wd_2 wd_526 ne_X0 np_X0_blame (Nat.le_of_ble_eq_true rfl)  (by decide) (by decide) rfl (Nat.le_of_ble_eq_true rfl) rfl rfl rfl rfl (by decide) rfl (fun v1 f1 hp => ?_)
      obtain ⟨fk9_33, fp9_33, rfl, rfl, h33_0, h33_1⟩ := hp
      show G g E _ _ _ [(wBook g bk (k 0) (a 0) ra eo es ep dp ss pp sg us fk9_33 fp9_33), (wTok g k tpa kk kp kn sz kc fg ps), (wShelf g a L ln tp rd cnt era nws)] 36 [(0, .ref (bk 0))] []
      rw [blm_0 hfk0] at h33_0
      refine r_aload_n 37 hE 0 dX0_readHead_36 rfl rfl rfl ?_
      refine r_get 40 hE 0 0 ok0 0 dX0_readHead_37 rfl wd_124 rfl rfl (by decide) rfl ?_
      refine r_callV 43 hE [1] [0, 2] [(wTok g k tpa kk kp kn sz kc fg ps)] [(wBook g bk (k 0) (a 0) ra eo es ep dp ss pp sg us fk9_33 fp9_33), (wShelf g a L ln tp rd cnt era nws)] 0 6 ok6 [] (c_X6_pass (by omega) (by omega)) dX0_readHead_40 rfl rfl wd_527 wd_528 wd_529 wd_3 wd_530 ne_X6 np_X6_pass (Nat.le_of_ble_eq_true rfl)  (by decide) (by decide) rfl (Nat.le_of_ble_eq_true rfl) rfl rfl rfl rfl (by decide) rfl (fun v1 f1 hp => ?_)
      obtain ⟨rfl, rfl⟩ := hp
      show G g E _ _ _ [(wTok g k tpa kk kp kn sz kc (fg + 1) (kp fg)), (wBook g bk (k 0) (a 0) ra eo es ep dp ss pp sg us fk9_33 fp9_33), (wShelf g a L ln tp rd cnt era nws)] 43 [(0, .ref (bk 0))] []
      refine r_aload_n 44 hE 0 dX0_readHead_43 rfl rfl rfl ?_
      refine r_get 47 hE 1 0 ok0 1 dX0_readHead_44 rfl wd_126 rfl rfl (by decide) rfl ?_
      refine r_get 50 hE 2 0 ok5 4 dX0_readHead_47 rfl wd_83 rfl rfl (by decide) rfl ?_
      refine G.to (fs' := [(wBook g bk (k 0) (a 0) ra eo es ep dp ss pp sg us fk9_33 fp9_33), (wTok g k tpa kk kp kn sz kc (fg + 1) (kp fg)), (wShelf g a L ln tp rd cnt era nws)]) [1, 0, 2] [0] rfl rfl rfl ?_
      refine r_ireturn hE hR [(wBook g bk (k 0) (a 0) ra eo es ep dp ss pp sg us fk9_33 fp9_33), (wTok g k tpa kk kp kn sz kc (fg + 1) (kp fg)), (wShelf g a L ln tp rd cnt era nws)] dX0_readHead_50 (Nat.le_of_ble_eq_true rfl) (Nat.le_of_ble_eq_true rfl) rfl ?_
      first
        | exact ⟨_, _, _, _, _, rfl, rfl, Or.inr ⟨by rw [hst, ← h33_0], by injection h33_0 with q1 q2; rw [q1]; decide⟩, by omega, h33_1, by omega⟩
        | exact ⟨_, _, _, _, _, rfl, rfl, Or.inl ⟨hst, hfk0, by omega, by omega, by rw [toNat_succ hfi.1, Nat.add_sub_cancel]; exact hat.1.2.1⟩, by omega, by omega, by omega⟩
