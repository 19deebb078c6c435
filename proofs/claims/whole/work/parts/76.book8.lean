set_option maxHeartbeats 4000000 in
set_option maxRecDepth 100000 in
theorem c_X2_addWhole_any {g : Gm} {a : Nat → Nat} {L ln tp rd : Int → Int} {cnt era nws : Int} {r : Nat → Nat} {m : Nat} {RL : Int → Int} {rlen : Int} {t : Int} (ht : -2147483648 ≤ t ∧ t ≤ 2147483647) (hc : 0 ≤ cnt ∧ cnt ≤ 8) (hln : ∀ j, 0 ≤ j → j < cnt → 0 ≤ ln j ∧ ln j ≤ 600) (hB : BR L) (hw : 0 ≤ rlen ∧ rlen ≤ (m : Int) ∧ (m : Int) ≤ 4800) (hk : 0 ≤ t → t < cnt → rlen + ln t ≤ (m : Int)) : Ct g 2 0 0 yX2_addWhole cX2_addWhole 3 none [.ref (r 0), .ref (a 0), .int (iI t)] [(wRow g r m RL rlen), (wShelf g a L ln tp rd cnt era nws)] (fun v_ w_ => ∃ RL9 : Int → Int, ∃ rl9 : Int, v_ = none ∧ w_ = [(wRow g r m RL9 rl9), (wShelf g a L ln tp rd cnt era nws)] ∧ (((0 ≤ t ∧ t < cnt) ∧ RL9 = cpy L RL (t * 600) rlen (ln t) ∧ rl9 = rlen + ln t) ∨ (¬ (0 ≤ t ∧ t < cnt) ∧ RL9 = RL ∧ rl9 = rlen))) := by
  refine Ct.of (by decide) (Nat.le_of_ble_eq_true rfl) (lv := [(0, .ref (r 0)), (1, .ref (a 0)), (2, .int (iI t))]) rfl ?_
  intro E hE hR hnm
  refine r_aload_n 1 hE 1 dX2_addWhole_0 rfl rfl rfl ?_
  refine r_iload_n 2 hE 2 dX2_addWhole_1 rfl rfl rfl ?_
  refine r_callV 5 hE [1] [0] [(wShelf g a L ln tp rd cnt era nws)] [(wRow g r m RL rlen)] 0 5 ok5 [] (c_X5_has (by omega) (by omega)) dX2_addWhole_2 rfl rfl wd_577 wd_578 wd_579 wd_4 wd_580 ne_X5 np_X5_has (Nat.le_of_ble_eq_true rfl)  (by decide) (by decide) rfl (Nat.le_of_ble_eq_true rfl) rfl rfl rfl rfl (by decide) rfl (fun v1 f1 hp => ?_)
  obtain ⟨rfl, rfl⟩ := hp
  show G g E _ _ _ [(wShelf g a L ln tp rd cnt era nws), (wRow g r m RL rlen)] 5 [(0, .ref (r 0)), (1, .ref (a 0)), (2, .int (iI t))] [.int (iI (bI (0 ≤ t ∧ t < cnt)))]
  refine r_if_eq 8 27 hE dX2_addWhole_5 rfl (by decide) (bI_rg _) (fun c5 => ?_) (fun c5 => ?_)
  · skip
    have c5 := bI0 c5
    refine G.to (fs' := [(wRow g r m RL rlen), (wShelf g a L ln tp rd cnt era nws)]) [1, 0] [0, 1, 2] rfl rfl rfl ?_
    refine r_return hE hR [(wRow g r m RL rlen), (wShelf g a L ln tp rd cnt era nws)] dX2_addWhole_27 (Nat.le_of_ble_eq_true rfl) (Nat.le_of_ble_eq_true rfl) rfl ?_
    first
      | exact ⟨_, _, rfl, rfl, Or.inl ⟨c5, rfl, rfl⟩⟩
      | exact ⟨_, _, rfl, rfl, Or.inr ⟨c5, rfl, rfl⟩⟩
  · skip
    have c5 := bI1 c5
    have hl1 := hln t c5.1 c5.2
    have hk1 := hk c5.1 c5.2
    refine r_aload_n 9 hE 0 dX2_addWhole_8 rfl rfl rfl ?_
    refine r_aload_n 10 hE 1 dX2_addWhole_9 rfl rfl rfl ?_
    refine r_get 13 hE 0 0 ok5 0 dX2_addWhole_10 rfl wd_76 rfl rfl (by decide) rfl ?_
    refine r_iload_n 14 hE 2 dX2_addWhole_13 rfl rfl rfl ?_
    refine r_sipush 17 hE dX2_addWhole_14 rfl (by decide) ?_
    refine r_imul 18 hE (t * 600) dX2_addWhole_17 rfl rfl ?_
    refine r_aload_n 19 hE 1 dX2_addWhole_18 rfl rfl rfl ?_
    refine r_get 22 hE 0 0 ok5 1 dX2_addWhole_19 rfl wd_79 rfl rfl (by decide) rfl ?_
    refine r_iload_n 23 hE 2 dX2_addWhole_22 rfl rfl rfl ?_
    refine r_iald 24 hE 0 2 dX2_addWhole_23 rfl rfl rfl (by omega) ?_
    refine G.cast (fs' := [(wShelfH g a cnt era nws), (wBytes g (a 1) 4800 L), (wShelfT g a ln tp rd), (wRow g r m RL rlen)]) (lv' := [(0, .ref (r 0)), (1, .ref (a 0)), (2, .int (iI t))]) rfl rfl ?_
    refine r_callV 27 hE [3, 1] [0, 2] [(wRow g r m RL rlen), (wBytes g (a 1) 4800 L)] [(wShelfH g a cnt era nws), (wShelfT g a ln tp rd)] 0 2 ok2 [] (c_X2_add (by omega) (by omega) (by omega) (by omega) (hB)) dX2_addWhole_24 rfl rfl wd_581 wd_582 wd_583 wd_5 wd_584 ne_X2 np_X2_add (Nat.le_of_ble_eq_true rfl)  (by decide) (by decide) rfl (Nat.le_of_ble_eq_true rfl) rfl rfl rfl rfl (by decide) rfl (fun v1 f1 hp => ?_)
    obtain ⟨rfl, rfl⟩ := hp
    show G g E _ _ _ [(wRow g r m (cpy L RL (t * 600) rlen (ln t)) (rlen + (ln t))), (wBytes g (a 1) 4800 L), (wShelfH g a cnt era nws), (wShelfT g a ln tp rd)] 27 [(0, .ref (r 0)), (1, .ref (a 0)), (2, .int (iI t))] []
    refine G.to (fs' := [(wShelfH g a cnt era nws), (wBytes g (a 1) 4800 L), (wShelfT g a ln tp rd), (wRow g r m (cpy L RL (t * 600) rlen (ln t)) (rlen + (ln t)))]) (lv' := [(0, .ref (r 0)), (1, .ref (a 0)), (2, .int (iI t))]) [2, 1, 3, 0] [0, 1, 2] rfl rfl rfl ?_
    refine G.cast (fs' := [(wShelf g a L ln tp rd cnt era nws), (wRow g r m (cpy L RL (t * 600) rlen (ln t)) (rlen + (ln t)))]) (lv' := [(0, .ref (r 0)), (1, .ref (a 0)), (2, .int (iI t))]) rfl rfl ?_
    refine G.to (fs' := [(wRow g r m (cpy L RL (t * 600) rlen (ln t)) (rlen + (ln t))), (wShelf g a L ln tp rd cnt era nws)]) [1, 0] [0, 1, 2] rfl rfl rfl ?_
    refine r_return hE hR [(wRow g r m (cpy L RL (t * 600) rlen (ln t)) (rlen + (ln t))), (wShelf g a L ln tp rd cnt era nws)] dX2_addWhole_27 (Nat.le_of_ble_eq_true rfl) (Nat.le_of_ble_eq_true rfl) rfl ?_
    first
      | exact ⟨_, _, rfl, rfl, Or.inl ⟨c5, rfl, rfl⟩⟩
      | exact ⟨_, _, rfl, rfl, Or.inr ⟨c5, rfl, rfl⟩⟩
set_option maxHeartbeats 4000000 in
set_option maxRecDepth 100000 in
theorem c_X0_readCore {g : Gm} {k : Nat → Nat} {tpa : Nat} {kk kp kn : Int → Int} {sz kc fg ps : Int} {tf : Int → Int} {bk : Nat → Nat} {eo es ep : Int → Int} {dp ss pp sg us fk fp : Int} {a : Nat → Nat} {L ln tp rd : Int → Int} {cnt era nws : Int} {r : Nat → Nat} {m : Nat} {RL : Int → Int} {rlen : Int} (hK : TkG tf sz kk kp kn kc) (hfi : 0 ≤ fg ∧ fg < kc) (hfk0 : fk = 0) (hsh : ShOk L ln cnt) (hPs : PsOk (psOf fg RL rlen eo es ep dp ss pp sg)) (hdp : 0 ≤ dp ∧ dp ≤ 6) (hm48 : (m : Int) = 4800) (hrl : 0 ≤ rlen) (hBR : BR RL) (hEo : R32 eo) (hsg : sg = 0) : Ct g 4 0 0 yX0_readCore cX0_readCore 2 none [.ref (bk 0), .int (iI (kk fg))] [(wBook g bk (k 0) (a 0) (r 0) eo es ep dp ss pp sg us fk fp), (wTok g k tpa kk kp kn sz kc fg ps), (wBytes g tpa 900 tf), (wShelf g a L ln tp rd cnt era nws), (wRow g r m RL rlen)] (fun v_ w_ => ∃ RL9 : Int → Int, ∃ rl9 : Int, ∃ fg9 : Int, ∃ ps9 : Int, ∃ fk9 : Int, ∃ fp9 : Int, ∃ eo9 : Int → Int, ∃ es9 : Int → Int, ∃ ep9 : Int → Int, ∃ dp9 : Int, ∃ ss9 : Int, ∃ pp9 : Int, ∃ sg9 : Int, v_ = none ∧ w_ = [(wBook g bk (k 0) (a 0) (r 0) eo9 es9 ep9 dp9 ss9 pp9 sg9 us fk9 fp9), (wTok g k tpa kk kp kn sz kc fg9 ps9), (wBytes g tpa 900 tf), (wShelf g a L ln tp rd cnt era nws), (wRow g r m RL9 rl9)] ∧ (StepR (bkOf tf sz) (tsOf L ln cnt) (psOf fg RL rlen eo es ep dp ss pp sg) (psOf fg9 RL9 rl9 eo9 es9 ep9 dp9 ss9 pp9 sg9) (fk9, fp9)) ∧ (fk9 = 0 → fg < fg9 ∧ ps9 = (bkOf tf sz).P (fg9.toNat - 1)) ∧ (0 ≤ fg9 ∧ fg9 < kc) ∧ (-1 ≤ fk9 ∧ fk9 ≤ 9) ∧ (BR RL9) ∧ (0 ≤ rl9 ∧ rl9 ≤ 4800) ∧ (0 ≤ dp9 ∧ dp9 ≤ 6) ∧ (R32 eo9)) := by
  refine Ct.of (by decide) (Nat.le_of_ble_eq_true rfl) (lv := [(0, .ref (bk 0)), (1, .int (iI (kk fg)))]) rfl ?_
  intro E hE hR hnm
  have hkc := hK.1
  have hat := hK.at hfi
  have hc := hsh.1
  have hln := hsh.ln
  have hB := hsh.2.1
  have htl := tsOf_len L ln hc.1
  have hrm := hPs.room
  simp only [psOf] at hrm
  rw [rowL_lenI RL hrl] at hrm
  have hpr : rlen = pp := by have h9 := hPs.2.2.2.1 hsg; simp only [psOf] at h9; rw [rowL_lenI RL hrl] at h9; exact h9
  refine r_iload_n 1 hE 1 dX0_readCore_0 rfl rfl rfl ?_
  refine r_bipush 3 hE dX0_readCore_1 rfl (by decide) ?_
  refine r_icmp_ne 6 17 hE dX0_readCore_3 rfl (by decide) (by omega) (fun c3 => ?_) (fun c3 => ?_)
  · skip
    have hk6 : (bkOf tf sz).K fg.toNat ≠ 6 := by rw [← hat.1.1]; exact c3
    refine r_iload_n 18 hE 1 dX0_readCore_17 rfl rfl rfl ?_
    refine r_bipush 20 hE dX0_readCore_18 rfl (by decide) ?_
    refine r_icmp_ne 23 63 hE dX0_readCore_20 rfl (by decide) (by omega) (fun c20 => ?_) (fun c20 => ?_)
    · skip
      have hk35 : (bkOf tf sz).K fg.toNat ≠ 35 := by rw [← hat.1.1]; exact c20
      refine r_iload_n 64 hE 1 dX0_readCore_63 rfl rfl rfl ?_
      refine r_bipush 66 hE dX0_readCore_64 rfl (by decide) ?_
      refine r_icmp_eq 69 75 hE dX0_readCore_66 rfl (by decide) (by omega) (fun c66 => ?_) (fun c66 => ?_)
      · skip
        have hk40 : (bkOf tf sz).K fg.toNat = 40 ∨ (bkOf tf sz).K fg.toNat = 126 := Or.inl (by rw [← hat.1.1]; exact c66)
        refine r_aload_n 76 hE 0 dX0_readCore_75 rfl rfl rfl ?_
        refine r_iload_n 77 hE 1 dX0_readCore_76 rfl rfl rfl ?_
        refine r_callV 80 hE [0, 1, 4] [2, 3] [(wBook g bk (k 0) (a 0) (r 0) eo es ep dp ss pp sg us fk fp), (wTok g k tpa kk kp kn sz kc fg ps), (wRow g r m RL rlen)] [(wBytes g tpa 900 tf), (wShelf g a L ln tp rd cnt era nws)] 0 0 ok0 [] (c_X0_open (hK) (by omega) (by omega) (by omega) (rfl) (by omega) (by omega) (hEo)) dX0_readCore_77 rfl rfl wd_588 wd_590 ws_18 wd_2 wd_591 ne_X0 np_X0_open (Nat.le_of_ble_eq_true rfl)  (by decide) (by decide) rfl (Nat.le_of_ble_eq_true rfl) rfl rfl rfl rfl (by decide) rfl (fun v1 f1 hp => ?_)
        obtain ⟨eo9_77, es9_77, ep9_77, dp9_77, ss9_77, pp9_77, fg9_77, ps9_77, fk9_77, fp9_77, rfl, rfl, h77_0, h77_1, h77_2, h77_3, h77_4⟩ := hp
        show G g E _ _ _ [(wBook g bk (k 0) (a 0) (r 0) eo9_77 es9_77 ep9_77 dp9_77 ss9_77 pp9_77 sg us fk9_77 fp9_77), (wTok g k tpa kk kp kn sz kc fg9_77 ps9_77), (wRow g r m RL rlen), (wBytes g tpa 900 tf), (wShelf g a L ln tp rd cnt era nws)] 80 [(0, .ref (bk 0)), (1, .int (iI (kk fg)))] []
        have hst : StepR (bkOf tf sz) (tsOf L ln cnt) (psOf fg RL rlen eo es ep dp ss pp sg) (psOf fg9_77 RL rlen eo9_77 es9_77 ep9_77 dp9_77 ss9_77 pp9_77 sg) (fk9_77, fp9_77) := by
          rw [hsg]
          rcases h77_0 with z | ⟨z1, z2, z3, z4, z5, z6, z7, z8, z9⟩
          · exact Or.inr ⟨by rw [z.2]; exact open_err hk40 z.1, by rw [z.2]; show (6 : Int) ≠ 0; decide⟩
          · subst z3 z5 z6 z7 z8
            rcases z9 with ⟨v1, v2, v3⟩ | ⟨v1, v2, v3⟩
            · subst v2 v3; rw [v1]; exact Or.inl ⟨open_par (by rw [← hat.1.1]; exact v1) (by omega) hfi.1 hrl, z2⟩
            · subst v2 v3; rw [v1]; exact Or.inl ⟨open_til (by rw [← hat.1.1]; exact v1) (by omega) hfi.1, z2⟩
        have hfp : fk9_77 = 0 → fg < fg9_77 ∧ ps9_77 = (bkOf tf sz).P (fg9_77.toNat - 1) := by
          intro q
          rcases h77_0 with z | ⟨z1, z2, z3, z4, -⟩
          · have := congrArg Prod.fst z.2; simp only at this; omega
          · refine ⟨by omega, ?_⟩
            rw [z3, z4]; congr 1; omega
        refine r_goto 87 hE dX0_readCore_80 (by decide) ?_
        refine G.to (fs' := [(wBook g bk (k 0) (a 0) (r 0) eo9_77 es9_77 ep9_77 dp9_77 ss9_77 pp9_77 sg us fk9_77 fp9_77), (wTok g k tpa kk kp kn sz kc fg9_77 ps9_77), (wBytes g tpa 900 tf), (wShelf g a L ln tp rd cnt era nws), (wRow g r m RL rlen)]) [0, 1, 3, 4, 2] [0, 1] rfl rfl rfl ?_
        refine r_return hE hR [(wBook g bk (k 0) (a 0) (r 0) eo9_77 es9_77 ep9_77 dp9_77 ss9_77 pp9_77 sg us fk9_77 fp9_77), (wTok g k tpa kk kp kn sz kc fg9_77 ps9_77), (wBytes g tpa 900 tf), (wShelf g a L ln tp rd cnt era nws), (wRow g r m RL rlen)] dX0_readCore_87 (Nat.le_of_ble_eq_true rfl) (Nat.le_of_ble_eq_true rfl) rfl ?_
        first
          | exact ⟨_, _, _, _, _, _, _, _, _, _, _, _, _, rfl, rfl, hst, hfp, h7_3, h7_4, h11_1, hrl9, by omega, hEo⟩
          | exact ⟨_, _, _, _, _, _, _, _, _, _, _, _, _, rfl, rfl, hst, hfp, h50_1, h50_4, h57_1, by omega, by omega, hEo⟩
          | exact ⟨_, _, _, _, _, _, _, _, _, _, _, _, _, rfl, rfl, hst, hfp, h77_1, h77_3, hBR, by omega, by omega, h77_4⟩
          | exact ⟨_, _, _, _, _, _, _, _, _, _, _, _, _, rfl, rfl, hst, hfp, hfi, h84_1, hBR, by omega, by omega, hEo⟩
      · skip
        refine r_iload_n 70 hE 1 dX0_readCore_69 rfl rfl rfl ?_
        refine r_bipush 72 hE dX0_readCore_70 rfl (by decide) ?_
        refine r_icmp_ne 75 83 hE dX0_readCore_72 rfl (by decide) (by omega) (fun c72 => ?_) (fun c72 => ?_)
        · skip
          have hk40 : ¬ ((bkOf tf sz).K fg.toNat = 40 ∨ (bkOf tf sz).K fg.toNat = 126) := by rw [← hat.1.1]; omega
          refine r_aload_n 84 hE 0 dX0_readCore_83 rfl rfl rfl ?_
          refine r_callV 87 hE [0, 1] [2, 3, 4] [(wBook g bk (k 0) (a 0) (r 0) eo es ep dp ss pp sg us fk fp), (wTok g k tpa kk kp kn sz kc fg ps)] [(wBytes g tpa 900 tf), (wShelf g a L ln tp rd cnt era nws), (wRow g r m RL rlen)] 0 0 ok0 [] (c_X0_blameToken (hK) (by omega) (by omega)) dX0_readCore_84 rfl rfl wd_536 wd_538 ws_13 wd_2 wd_539 ne_X0 np_X0_blameToken (Nat.le_of_ble_eq_true rfl)  (by decide) (by decide) rfl (Nat.le_of_ble_eq_true rfl) rfl rfl rfl rfl (by decide) rfl (fun v1 f1 hp => ?_)
          obtain ⟨fk9_84, fp9_84, rfl, rfl, h84_0, h84_1⟩ := hp
          show G g E _ _ _ [(wBook g bk (k 0) (a 0) (r 0) eo es ep dp ss pp sg us fk9_84 fp9_84), (wTok g k tpa kk kp kn sz kc fg ps), (wBytes g tpa 900 tf), (wShelf g a L ln tp rd cnt era nws), (wRow g r m RL rlen)] 87 [(0, .ref (bk 0)), (1, .int (iI (kk fg)))] []
          rw [blm_0 hfk0] at h84_0
          have hst : StepR (bkOf tf sz) (tsOf L ln cnt) (psOf fg RL rlen eo es ep dp ss pp sg) (psOf fg RL rlen eo es ep dp ss pp sg) (fk9_84, fp9_84) := by rw [hsg]; exact Or.inr ⟨by rw [h84_0]; exact leaf_err hk40 (leaf_no hk6 hk35), by rw [h84_0]; exact ftAt_ne _ _⟩
          have hfp : fk9_84 = 0 → fg < fg ∧ ps = (bkOf tf sz).P (fg.toNat - 1) := fun q => by have h8 := ftAt_ne (bkOf tf sz) fg.toNat; rw [← h84_0] at h8; exact absurd q h8
          refine r_return hE hR [(wBook g bk (k 0) (a 0) (r 0) eo es ep dp ss pp sg us fk9_84 fp9_84), (wTok g k tpa kk kp kn sz kc fg ps), (wBytes g tpa 900 tf), (wShelf g a L ln tp rd cnt era nws), (wRow g r m RL rlen)] dX0_readCore_87 (Nat.le_of_ble_eq_true rfl) (Nat.le_of_ble_eq_true rfl) rfl ?_
          first
            | exact ⟨_, _, _, _, _, _, _, _, _, _, _, _, _, rfl, rfl, hst, hfp, h7_3, h7_4, h11_1, hrl9, by omega, hEo⟩
            | exact ⟨_, _, _, _, _, _, _, _, _, _, _, _, _, rfl, rfl, hst, hfp, h50_1, h50_4, h57_1, by omega, by omega, hEo⟩
            | exact ⟨_, _, _, _, _, _, _, _, _, _, _, _, _, rfl, rfl, hst, hfp, h77_1, h77_3, hBR, by omega, by omega, h77_4⟩
            | exact ⟨_, _, _, _, _, _, _, _, _, _, _, _, _, rfl, rfl, hst, hfp, hfi, h84_1, hBR, by omega, by omega, hEo⟩
        · skip
          have hk40 : (bkOf tf sz).K fg.toNat = 40 ∨ (bkOf tf sz).K fg.toNat = 126 := Or.inr (by rw [← hat.1.1]; exact c72)
          refine r_aload_n 76 hE 0 dX0_readCore_75 rfl rfl rfl ?_
          refine r_iload_n 77 hE 1 dX0_readCore_76 rfl rfl rfl ?_
          refine r_callV 80 hE [0, 1, 4] [2, 3] [(wBook g bk (k 0) (a 0) (r 0) eo es ep dp ss pp sg us fk fp), (wTok g k tpa kk kp kn sz kc fg ps), (wRow g r m RL rlen)] [(wBytes g tpa 900 tf), (wShelf g a L ln tp rd cnt era nws)] 0 0 ok0 [] (c_X0_open (hK) (by omega) (by omega) (by omega) (rfl) (by omega) (by omega) (hEo)) dX0_readCore_77 rfl rfl wd_588 wd_590 ws_18 wd_2 wd_591 ne_X0 np_X0_open (Nat.le_of_ble_eq_true rfl)  (by decide) (by decide) rfl (Nat.le_of_ble_eq_true rfl) rfl rfl rfl rfl (by decide) rfl (fun v1 f1 hp => ?_)
          obtain ⟨eo9_77, es9_77, ep9_77, dp9_77, ss9_77, pp9_77, fg9_77, ps9_77, fk9_77, fp9_77, rfl, rfl, h77_0, h77_1, h77_2, h77_3, h77_4⟩ := hp
          show G g E _ _ _ [(wBook g bk (k 0) (a 0) (r 0) eo9_77 es9_77 ep9_77 dp9_77 ss9_77 pp9_77 sg us fk9_77 fp9_77), (wTok g k tpa kk kp kn sz kc fg9_77 ps9_77), (wRow g r m RL rlen), (wBytes g tpa 900 tf), (wShelf g a L ln tp rd cnt era nws)] 80 [(0, .ref (bk 0)), (1, .int (iI (kk fg)))] []
          have hst : StepR (bkOf tf sz) (tsOf L ln cnt) (psOf fg RL rlen eo es ep dp ss pp sg) (psOf fg9_77 RL rlen eo9_77 es9_77 ep9_77 dp9_77 ss9_77 pp9_77 sg) (fk9_77, fp9_77) := by
            rw [hsg]
            rcases h77_0 with z | ⟨z1, z2, z3, z4, z5, z6, z7, z8, z9⟩
            · exact Or.inr ⟨by rw [z.2]; exact open_err hk40 z.1, by rw [z.2]; show (6 : Int) ≠ 0; decide⟩
            · subst z3 z5 z6 z7 z8
              rcases z9 with ⟨v1, v2, v3⟩ | ⟨v1, v2, v3⟩
              · subst v2 v3; rw [v1]; exact Or.inl ⟨open_par (by rw [← hat.1.1]; exact v1) (by omega) hfi.1 hrl, z2⟩
              · subst v2 v3; rw [v1]; exact Or.inl ⟨open_til (by rw [← hat.1.1]; exact v1) (by omega) hfi.1, z2⟩
          have hfp : fk9_77 = 0 → fg < fg9_77 ∧ ps9_77 = (bkOf tf sz).P (fg9_77.toNat - 1) := by
            intro q
            rcases h77_0 with z | ⟨z1, z2, z3, z4, -⟩
            · have := congrArg Prod.fst z.2; simp only at this; omega
            · refine ⟨by omega, ?_⟩
              rw [z3, z4]; congr 1; omega
          refine r_goto 87 hE dX0_readCore_80 (by decide) ?_
          refine G.to (fs' := [(wBook g bk (k 0) (a 0) (r 0) eo9_77 es9_77 ep9_77 dp9_77 ss9_77 pp9_77 sg us fk9_77 fp9_77), (wTok g k tpa kk kp kn sz kc fg9_77 ps9_77), (wBytes g tpa 900 tf), (wShelf g a L ln tp rd cnt era nws), (wRow g r m RL rlen)]) [0, 1, 3, 4, 2] [0, 1] rfl rfl rfl ?_
          refine r_return hE hR [(wBook g bk (k 0) (a 0) (r 0) eo9_77 es9_77 ep9_77 dp9_77 ss9_77 pp9_77 sg us fk9_77 fp9_77), (wTok g k tpa kk kp kn sz kc fg9_77 ps9_77), (wBytes g tpa 900 tf), (wShelf g a L ln tp rd cnt era nws), (wRow g r m RL rlen)] dX0_readCore_87 (Nat.le_of_ble_eq_true rfl) (Nat.le_of_ble_eq_true rfl) rfl ?_
          first
            | exact ⟨_, _, _, _, _, _, _, _, _, _, _, _, _, rfl, rfl, hst, hfp, h7_3, h7_4, h11_1, hrl9, by omega, hEo⟩
            | exact ⟨_, _, _, _, _, _, _, _, _, _, _, _, _, rfl, rfl, hst, hfp, h50_1, h50_4, h57_1, by omega, by omega, hEo⟩
            | exact ⟨_, _, _, _, _, _, _, _, _, _, _, _, _, rfl, rfl, hst, hfp, h77_1, h77_3, hBR, by omega, by omega, h77_4⟩
            | exact ⟨_, _, _, _, _, _, _, _, _, _, _, _, _, rfl, rfl, hst, hfp, hfi, h84_1, hBR, by omega, by omega, hEo⟩
    · skip
      have hk35 : (bkOf tf sz).K fg.toNat = 35 := by rw [← hat.1.1]; exact c20
      have hnx := hK.nx hfi (by omega)
      refine r_aload_n 24 hE 0 dX0_readCore_23 rfl rfl rfl ?_
      refine r_get 27 hE 0 0 ok0 0 dX0_readCore_24 rfl wd_124 rfl rfl (by decide) rfl ?_
      refine r_callV 30 hE [1] [0, 2, 3, 4] [(wTok g k tpa kk kp kn sz kc fg ps)] [(wBook g bk (k 0) (a 0) (r 0) eo es ep dp ss pp sg us fk fp), (wBytes g tpa 900 tf), (wShelf g a L ln tp rd cnt era nws), (wRow g r m RL rlen)] 0 6 ok6 [] (c_X6_pass (by omega) (by omega)) dX0_readCore_27 rfl rfl wd_527 wd_528 wd_529 wd_3 wd_530 ne_X6 np_X6_pass (Nat.le_of_ble_eq_true rfl)  (by decide) (by decide) rfl (Nat.le_of_ble_eq_true rfl) rfl rfl rfl rfl (by decide) rfl (fun v1 f1 hp => ?_)
      obtain ⟨rfl, rfl⟩ := hp
      show G g E _ _ _ [(wTok g k tpa kk kp kn sz kc (fg + 1) (kp fg)), (wBook g bk (k 0) (a 0) (r 0) eo es ep dp ss pp sg us fk fp), (wBytes g tpa 900 tf), (wShelf g a L ln tp rd cnt era nws), (wRow g r m RL rlen)] 30 [(0, .ref (bk 0)), (1, .int (iI (kk fg)))] []
      refine r_aload_n 31 hE 0 dX0_readCore_30 rfl rfl rfl ?_
      refine r_get 34 hE 1 0 ok0 2 dX0_readCore_31 rfl wd_128 rfl rfl (by decide) rfl ?_
      refine r_aload_n 35 hE 0 dX0_readCore_34 rfl rfl rfl ?_
      refine r_get 38 hE 1 0 ok0 1 dX0_readCore_35 rfl wd_126 rfl rfl (by decide) rfl ?_
      refine r_aload_n 39 hE 0 dX0_readCore_38 rfl rfl rfl ?_
      refine r_iconst 40 hE dX0_readCore_39 rfl ?_
      refine r_aload_n 41 hE 0 dX0_readCore_40 rfl rfl rfl ?_
      refine r_get 44 hE 1 0 ok0 1 dX0_readCore_41 rfl wd_126 rfl rfl (by decide) rfl ?_
      refine r_get 47 hE 3 0 ok5 4 dX0_readCore_44 rfl wd_83 rfl rfl (by decide) rfl ?_
      refine r_iconst 48 hE dX0_readCore_47 rfl ?_
      refine r_isub 49 hE (cnt - 1) dX0_readCore_48 rfl rfl ?_
      refine r_iconst 50 hE dX0_readCore_49 rfl ?_
      refine r_callV 53 hE [1, 0] [2, 3, 4] [(wBook g bk (k 0) (a 0) (r 0) eo es ep dp ss pp sg us fk fp), (wTok g k tpa kk kp kn sz kc (fg + 1) (kp fg))] [(wBytes g tpa 900 tf), (wShelf g a L ln tp rd cnt era nws), (wRow g r m RL rlen)] 0 0 ok0 [.ref (a 0), .ref (r 0)] (c_X0_readNumber (hK) (by omega) (by omega) (by omega)) dX0_readCore_50 rfl rfl wd_540 wd_542 ws_14 wd_2 wd_543 ne_X0 np_X0_readNumber (Nat.le_of_ble_eq_true rfl)  (by decide) (by decide) rfl (Nat.le_of_ble_eq_true rfl) rfl rfl rfl rfl (by decide) rfl (fun v1 f1 hp => ?_)
      obtain ⟨r9_50, fg9_50, ps9_50, fk9_50, fp9_50, rfl, rfl, h50_0, h50_1, h50_2, h50_3, h50_4⟩ := hp
      show G g E _ _ _ [(wBook g bk (k 0) (a 0) (r 0) eo es ep dp ss pp sg us fk9_50 fp9_50), (wTok g k tpa kk kp kn sz kc fg9_50 ps9_50), (wBytes g tpa 900 tf), (wShelf g a L ln tp rd cnt era nws), (wRow g r m RL rlen)] 53 [(0, .ref (bk 0)), (1, .int (iI (kk fg)))] [.int (iI r9_50), .ref (a 0), .ref (r 0)]
      refine r_callV 56 hE [4, 3] [0, 1, 2] [(wRow g r m RL rlen), (wShelf g a L ln tp rd cnt era nws)] [(wBook g bk (k 0) (a 0) (r 0) eo es ep dp ss pp sg us fk9_50 fp9_50), (wTok g k tpa kk kp kn sz kc fg9_50 ps9_50), (wBytes g tpa 900 tf)] 0 2 ok2 [] (c_X2_addWhole_any (by omega) (by omega) (hln) (hB) (by omega) (fun a b => by have := hln _ a b; omega)) dX0_readCore_53 rfl rfl wd_573 wd_574 wd_575 wd_5 wd_576 ne_X2 np_X2_addWhole (Nat.le_of_ble_eq_true rfl)  (by decide) (by decide) rfl (Nat.le_of_ble_eq_true rfl) rfl rfl rfl rfl (by decide) rfl (fun v1 f1 hp => ?_)
      obtain ⟨RL9_53, rl9_53, rfl, rfl, h53_0⟩ := hp
      show G g E _ _ _ [(wRow g r m RL9_53 rl9_53), (wShelf g a L ln tp rd cnt era nws), (wBook g bk (k 0) (a 0) (r 0) eo es ep dp ss pp sg us fk9_50 fp9_50), (wTok g k tpa kk kp kn sz kc fg9_50 ps9_50), (wBytes g tpa 900 tf)] 56 [(0, .ref (bk 0)), (1, .int (iI (kk fg)))] []
      have hRB : BR RL9_53 := by
        rcases h53_0 with z | z
        · rw [z.2.1]; exact BR_cpy hB hBR _ _ _
        · rw [z.2.1]; exact hBR
      have hrl9 : rlen ≤ rl9_53 ∧ rl9_53 ≤ 4800 := by
        rcases h53_0 with z | z
        · have := hln _ z.1.1 z.1.2; omega
        · omega
      refine r_aload_n 57 hE 0 dX0_readCore_56 rfl rfl rfl ?_
      refine r_callV 60 hE [2, 0] [1, 3, 4] [(wBook g bk (k 0) (a 0) (r 0) eo es ep dp ss pp sg us fk9_50 fp9_50), (wRow g r m RL9_53 rl9_53)] [(wShelf g a L ln tp rd cnt era nws), (wTok g k tpa kk kp kn sz kc fg9_50 ps9_50), (wBytes g tpa 900 tf)] 0 0 ok0 [] (c_X0_endCore (by omega) (by omega) (hRB) (hEo)) dX0_readCore_57 rfl rfl wd_565 wd_567 ws_17 wd_2 wd_568 ne_X0 np_X0_endCore (Nat.le_of_ble_eq_true rfl)  (by decide) (by decide) rfl (Nat.le_of_ble_eq_true rfl) rfl rfl rfl rfl (by decide) rfl (fun v1 f1 hp => ?_)
      obtain ⟨RL9_57, dp9_57, rfl, rfl, h57_0, h57_1, h57_2⟩ := hp
      show G g E _ _ _ [(wBook g bk (k 0) (a 0) (r 0) eo es ep dp9_57 ss pp 1 us fk9_50 fp9_50), (wRow g r m RL9_57 rl9_53), (wShelf g a L ln tp rd cnt era nws), (wTok g k tpa kk kp kn sz kc fg9_50 ps9_50), (wBytes g tpa 900 tf)] 60 [(0, .ref (bk 0)), (1, .int (iI (kk fg)))] []
      have hst : StepR (bkOf tf sz) (tsOf L ln cnt) (psOf fg RL rlen eo es ep dp ss pp sg) (psOf fg9_50 RL9_57 rl9_53 eo es ep dp9_57 ss pp 1) (fk9_50, fp9_50) := by
        rw [hsg]
        rw [show cnt - 1 = ((tsOf L ln cnt).length : Int) - 1 by omega] at h50_0
        rcases h50_0 with z | ⟨e, z1, z2, z3⟩
        · have n1 := numE_ok z.1
          have hh : 0 ≤ r9_50 ∧ r9_50 < cnt := by omega
          have hr53 : rowL RL9_53 rl9_53 = rowL RL rlen ++ (tsOf L ln cnt).getD r9_50.toNat [] := by
            rcases h53_0 with w | w
            · rw [w.2.1, w.2.2, rowL_cpy _ _ hrl (hln _ hh.1 hh.2).1, tsOf_at _ _ hh]; congr 1; exact rowL_cong (fun k _ _ => by unfold tx; congr 1; omega)
            · exact absurd hh w.1
          refine Or.inl ⟨leaf_step (by rw [hk35]; decide) ?_ hr53 h57_0, by rw [z.2.2]; exact hfk0⟩
          rw [z.2.1]; exact leaf_n hk35 hfi.1 z.1
        · rw [blm_0 hfk0] at z3
          rw [z3]
          exact Or.inr ⟨leaf_err (by rw [hk35]; decide) (leaf_ne hk35 hfi.1 z1), numE_er (by decide) z1⟩
      have hfp : fk9_50 = 0 → fg < fg9_50 ∧ ps9_50 = (bkOf tf sz).P (fg9_50.toNat - 1) := by
        intro q
        rcases h50_0 with z | ⟨e, z1, z2, z3⟩
        · rcases h50_2 with w | w
          · refine ⟨by omega, ?_⟩
            rw [w.1, w.2]; congr 1; omega
          · omega
        · rw [blm_0 hfk0] at z3; have h8 := numE_er (by decide) z1; rw [← z3] at h8; exact absurd q h8
      refine r_goto 87 hE dX0_readCore_60 (by decide) ?_
      refine G.to (fs' := [(wBook g bk (k 0) (a 0) (r 0) eo es ep dp9_57 ss pp 1 us fk9_50 fp9_50), (wTok g k tpa kk kp kn sz kc fg9_50 ps9_50), (wBytes g tpa 900 tf), (wShelf g a L ln tp rd cnt era nws), (wRow g r m RL9_57 rl9_53)]) [0, 3, 4, 2, 1] [0, 1] rfl rfl rfl ?_
      refine r_return hE hR [(wBook g bk (k 0) (a 0) (r 0) eo es ep dp9_57 ss pp 1 us fk9_50 fp9_50), (wTok g k tpa kk kp kn sz kc fg9_50 ps9_50), (wBytes g tpa 900 tf), (wShelf g a L ln tp rd cnt era nws), (wRow g r m RL9_57 rl9_53)] dX0_readCore_87 (Nat.le_of_ble_eq_true rfl) (Nat.le_of_ble_eq_true rfl) rfl ?_
      first
        | exact ⟨_, _, _, _, _, _, _, _, _, _, _, _, _, rfl, rfl, hst, hfp, h7_3, h7_4, h11_1, hrl9, by omega, hEo⟩
        | exact ⟨_, _, _, _, _, _, _, _, _, _, _, _, _, rfl, rfl, hst, hfp, h50_1, h50_4, h57_1, by omega, by omega, hEo⟩
        | exact ⟨_, _, _, _, _, _, _, _, _, _, _, _, _, rfl, rfl, hst, hfp, h77_1, h77_3, hBR, by omega, by omega, h77_4⟩
        | exact ⟨_, _, _, _, _, _, _, _, _, _, _, _, _, rfl, rfl, hst, hfp, hfi, h84_1, hBR, by omega, by omega, hEo⟩
  · skip
    have hk6 : (bkOf tf sz).K fg.toNat = 6 := by rw [← hat.1.1]; exact c3
    refine r_aload_n 7 hE 0 dX0_readCore_6 rfl rfl rfl ?_
    refine r_callV 10 hE [0, 1, 2, 4] [3] [(wBook g bk (k 0) (a 0) (r 0) eo es ep dp ss pp sg us fk fp), (wTok g k tpa kk kp kn sz kc fg ps), (wBytes g tpa 900 tf), (wRow g r m RL rlen)] [(wShelf g a L ln tp rd cnt era nws)] 0 0 ok0 [] (c_X0_readQuote (hK) (by omega) (by omega) (by omega) (hBR) (c3)) dX0_readCore_7 rfl rfl wd_556 wd_558 ws_16 wd_2 wd_559 ne_X0 np_X0_readQuote (Nat.le_of_ble_eq_true rfl)  (by decide) (by decide) rfl (Nat.le_of_ble_eq_true rfl) rfl rfl rfl rfl (by decide) rfl (fun v1 f1 hp => ?_)
    obtain ⟨RL9_7, rl9_7, fg9_7, ps9_7, fk9_7, fp9_7, rfl, rfl, h7_0, h7_1, h7_2, h7_3, h7_4⟩ := hp
    show G g E _ _ _ [(wBook g bk (k 0) (a 0) (r 0) eo es ep dp ss pp sg us fk9_7 fp9_7), (wTok g k tpa kk kp kn sz kc fg9_7 ps9_7), (wBytes g tpa 900 tf), (wRow g r m RL9_7 rl9_7), (wShelf g a L ln tp rd cnt era nws)] 10 [(0, .ref (bk 0)), (1, .int (iI (kk fg)))] []
    refine r_aload_n 11 hE 0 dX0_readCore_10 rfl rfl rfl ?_
    refine r_callV 14 hE [0, 3] [1, 2, 4] [(wBook g bk (k 0) (a 0) (r 0) eo es ep dp ss pp sg us fk9_7 fp9_7), (wRow g r m RL9_7 rl9_7)] [(wTok g k tpa kk kp kn sz kc fg9_7 ps9_7), (wBytes g tpa 900 tf), (wShelf g a L ln tp rd cnt era nws)] 0 0 ok0 [] (c_X0_endCore (by omega) (by omega) (h7_1) (hEo)) dX0_readCore_11 rfl rfl wd_565 wd_567 ws_17 wd_2 wd_568 ne_X0 np_X0_endCore (Nat.le_of_ble_eq_true rfl)  (by decide) (by decide) rfl (Nat.le_of_ble_eq_true rfl) rfl rfl rfl rfl (by decide) rfl (fun v1 f1 hp => ?_)
    obtain ⟨RL9_11, dp9_11, rfl, rfl, h11_0, h11_1, h11_2⟩ := hp
    show G g E _ _ _ [(wBook g bk (k 0) (a 0) (r 0) eo es ep dp9_11 ss pp 1 us fk9_7 fp9_7), (wRow g r m RL9_11 rl9_7), (wTok g k tpa kk kp kn sz kc fg9_7 ps9_7), (wBytes g tpa 900 tf), (wShelf g a L ln tp rd cnt era nws)] 14 [(0, .ref (bk 0)), (1, .int (iI (kk fg)))] []
    have hst : StepR (bkOf tf sz) (tsOf L ln cnt) (psOf fg RL rlen eo es ep dp ss pp sg) (psOf fg9_7 RL9_11 rl9_7 eo es ep dp9_11 ss pp 1) (fk9_7, fp9_7) := by
      rw [hsg]
      rcases h7_0 with z | z
      · refine Or.inr ⟨by rw [z.2.1]; exact leaf_err (by rw [hk6]; decide) (leaf_qe hk6 z.1), ?_⟩
        rw [z.2.1]; show (5 : Int) ≠ 0; decide
      · refine Or.inl ⟨leaf_step (by rw [hk6]; decide) ?_ z.2.2.1 h11_0, z.2.1⟩
        rw [z.2.2.2.1]; exact leaf_q hk6 z.1 hfi.1
    have hfp : fk9_7 = 0 → fg < fg9_7 ∧ ps9_7 = (bkOf tf sz).P (fg9_7.toNat - 1) := by
      intro q
      rcases h7_0 with z | z
      · have := congrArg Prod.fst z.2.1; simp only at this; omega
      · refine ⟨by omega, ?_⟩
        rw [z.2.2.2.1, z.2.2.2.2]; congr 1; omega
    have hrl9 : 0 ≤ rl9_7 ∧ rl9_7 ≤ 4800 := by omega
    refine r_goto 87 hE dX0_readCore_14 (by decide) ?_
    refine G.to (fs' := [(wBook g bk (k 0) (a 0) (r 0) eo es ep dp9_11 ss pp 1 us fk9_7 fp9_7), (wTok g k tpa kk kp kn sz kc fg9_7 ps9_7), (wBytes g tpa 900 tf), (wShelf g a L ln tp rd cnt era nws), (wRow g r m RL9_11 rl9_7)]) [0, 2, 3, 4, 1] [0, 1] rfl rfl rfl ?_
    refine r_return hE hR [(wBook g bk (k 0) (a 0) (r 0) eo es ep dp9_11 ss pp 1 us fk9_7 fp9_7), (wTok g k tpa kk kp kn sz kc fg9_7 ps9_7), (wBytes g tpa 900 tf), (wShelf g a L ln tp rd cnt era nws), (wRow g r m RL9_11 rl9_7)] dX0_readCore_87 (Nat.le_of_ble_eq_true rfl) (Nat.le_of_ble_eq_true rfl) rfl ?_
    first
      | exact ⟨_, _, _, _, _, _, _, _, _, _, _, _, _, rfl, rfl, hst, hfp, h7_3, h7_4, h11_1, hrl9, by omega, hEo⟩
      | exact ⟨_, _, _, _, _, _, _, _, _, _, _, _, _, rfl, rfl, hst, hfp, h50_1, h50_4, h57_1, by omega, by omega, hEo⟩
      | exact ⟨_, _, _, _, _, _, _, _, _, _, _, _, _, rfl, rfl, hst, hfp, h77_1, h77_3, hBR, by omega, by omega, h77_4⟩
      | exact ⟨_, _, _, _, _, _, _, _, _, _, _, _, _, rfl, rfl, hst, hfp, hfi, h84_1, hBR, by omega, by omega, hEo⟩
