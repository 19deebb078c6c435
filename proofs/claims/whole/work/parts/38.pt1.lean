def wMain (g : Gm) (x : Nat) (tpa : Nat) (na : Nat) (da : Nat) (pa : Nat) (qa : Nat) (rua : Nat) (wa : Nat) (sa : Nat) (bka : Nat) (taped : Int) (told : Int) : va_W := [ob x 8 [.ref bka, .ref tpa, .int (iI taped), .int (iI told), .ref na, .ref da, .ref pa, .ref qa, .ref wa, .ref rua, .ref sa]]
set_option maxHeartbeats 4000000 in
set_option maxRecDepth 100000 in
theorem c_X8_status {g : Gm} {x tpa na da pa qa rua wa sa bka : Nat} {taped told : Int} : Ct g 0 0 0 yX8_status cX8_status 1 (some .int) [.ref x] [(wMain g x tpa na da pa qa rua wa sa bka taped told)] (fun v_ w_ => v_ = some (.int (iI told)) ∧ w_ = [(wMain g x tpa na da pa qa rua wa sa bka taped told)]) := by
  refine Ct.of (by decide) (Nat.le_of_ble_eq_true rfl) (lv := [(0, .ref x)]) rfl ?_
  intro E hE hR hnm
  refine r_aload_n 1 hE 0 dX8_status_0 rfl rfl rfl ?_
  refine r_get 4 hE 0 0 ok8 3 dX8_status_1 rfl wd_300 rfl rfl (by decide) rfl ?_
  refine r_ireturn hE hR [(wMain g x tpa na da pa qa rua wa sa bka taped told)] dX8_status_4 (Nat.le_of_ble_eq_true rfl) (Nat.le_of_ble_eq_true rfl) rfl ?_
  exact ⟨retI (rfl), rfl⟩
set_option maxHeartbeats 4000000 in
set_option maxRecDepth 100000 in
theorem c_X8_answer {g : Gm} {x tpa na da pa qa rua wa sa bka : Nat} {taped told : Int} {v : Int} : Ct g 0 0 0 yX8_answer cX8_answer 2 (some .int) [.ref x, .int (iI v)] [(wMain g x tpa na da pa qa rua wa sa bka taped told)] (fun v_ w_ => v_ = some (.int (iI v)) ∧ w_ = [(wMain g x tpa na da pa qa rua wa sa bka taped 0)]) := by
  refine Ct.of (by decide) (Nat.le_of_ble_eq_true rfl) (lv := [(0, .ref x), (1, .int (iI v))]) rfl ?_
  intro E hE hR hnm
  refine r_aload_n 1 hE 0 dX8_answer_0 rfl rfl rfl ?_
  refine r_iconst 2 hE dX8_answer_1 rfl ?_
  refine r_put 5 hE 0 0 ok8 3 (wMain g x tpa na da pa qa rua wa sa bka taped 0) [(wMain g x tpa na da pa qa rua wa sa bka taped 0)] dX8_answer_2 rfl wd_300 rfl rfl (by decide) rfl rfl rfl (Nat.le_of_ble_eq_true rfl) rfl rfl ?_
  refine r_iload_n 6 hE 1 dX8_answer_5 rfl rfl rfl ?_
  refine r_ireturn hE hR [(wMain g x tpa na da pa qa rua wa sa bka taped 0)] dX8_answer_6 (Nat.le_of_ble_eq_true rfl) (Nat.le_of_ble_eq_true rfl) rfl ?_
  exact ⟨retI (rfl), rfl⟩
set_option maxHeartbeats 4000000 in
set_option maxRecDepth 100000 in
theorem c_X8_refuse {g : Gm} {x tpa na da pa qa rua wa sa bka : Nat} {taped told : Int} {v : Int} : Ct g 0 0 0 yX8_refuse cX8_refuse 2 (some .int) [.ref x, .int (iI v)] [(wMain g x tpa na da pa qa rua wa sa bka taped told)] (fun v_ w_ => v_ = some (.int (iI (-1))) ∧ w_ = [(wMain g x tpa na da pa qa rua wa sa bka taped v)]) := by
  refine Ct.of (by decide) (Nat.le_of_ble_eq_true rfl) (lv := [(0, .ref x), (1, .int (iI v))]) rfl ?_
  intro E hE hR hnm
  refine r_aload_n 1 hE 0 dX8_refuse_0 rfl rfl rfl ?_
  refine r_iload_n 2 hE 1 dX8_refuse_1 rfl rfl rfl ?_
  refine r_put 5 hE 0 0 ok8 3 (wMain g x tpa na da pa qa rua wa sa bka taped v) [(wMain g x tpa na da pa qa rua wa sa bka taped v)] dX8_refuse_2 rfl wd_300 rfl rfl (by decide) rfl rfl rfl (Nat.le_of_ble_eq_true rfl) rfl rfl ?_
  refine r_iconst 6 hE dX8_refuse_5 rfl ?_
  refine r_ireturn hE hR [(wMain g x tpa na da pa qa rua wa sa bka taped v)] dX8_refuse_6 (Nat.le_of_ble_eq_true rfl) (Nat.le_of_ble_eq_true rfl) rfl ?_
  exact ⟨retI (rfl), rfl⟩
set_option maxHeartbeats 4000000 in
set_option maxRecDepth 100000 in
theorem c_X8_isLetter {g : Gm} {v : Int} (hv : -2147483648 ≤ v ∧ v ≤ 2147483647) : Ct g 0 0 0 yX8_isLetter cX8_isLetter 1 (some .boolean) [.int (iI v)] [] (fun v_ w_ => v_ = some (.int (iI (bI (0 ≤ v ∧ v < 26)))) ∧ w_ = []) := by
  refine Ct.of (by decide) (Nat.le_of_ble_eq_true rfl) (lv := [(0, .int (iI v))]) rfl ?_
  intro E hE hR hnm
  refine r_iload_n 1 hE 0 dX8_isLetter_0 rfl rfl rfl ?_
  refine r_if_lt 4 14 hE dX8_isLetter_1 rfl (by decide) (by omega) (fun c1 => ?_) (fun c1 => ?_)
  · skip
    refine r_iconst 15 hE dX8_isLetter_14 rfl ?_
    refine r_zreturn hE hR [] dX8_isLetter_15 (Nat.le_of_ble_eq_true rfl) (Nat.le_of_ble_eq_true rfl) (by decide) rfl ?_
    exact ⟨ret0 (by omega), rfl⟩
  · skip
    refine r_iload_n 5 hE 0 dX8_isLetter_4 rfl rfl rfl ?_
    refine r_bipush 7 hE dX8_isLetter_5 rfl (by decide) ?_
    refine r_icmp_ge 10 14 hE dX8_isLetter_7 rfl (by decide) (by omega) (fun c7 => ?_) (fun c7 => ?_)
    · skip
      refine r_iconst 15 hE dX8_isLetter_14 rfl ?_
      refine r_zreturn hE hR [] dX8_isLetter_15 (Nat.le_of_ble_eq_true rfl) (Nat.le_of_ble_eq_true rfl) (by decide) rfl ?_
      exact ⟨ret0 (by omega), rfl⟩
    · skip
      refine r_iconst 11 hE dX8_isLetter_10 rfl ?_
      refine r_goto 15 hE dX8_isLetter_11 (by decide) ?_
      refine r_zreturn hE hR [] dX8_isLetter_15 (Nat.le_of_ble_eq_true rfl) (Nat.le_of_ble_eq_true rfl) (by decide) rfl ?_
      exact ⟨ret1 (by omega), rfl⟩
set_option maxHeartbeats 4000000 in
set_option maxRecDepth 100000 in
theorem c_X8_settle {g : Gm} {a : Nat → Nat} {L ln tp rd : Int → Int} {cnt era nws : Int} {ru : Nat → Nat} {kd fi se sg le de nx he ro : Int → Int} {rc re rr : Int} {R : Int → Rl} {x tpa da pa qa wa sa bka : Nat} {taped told : Int} {v : Int} (hT : RT kd fi se sg le de nx he rc R) (hsh : ShOk L ln cnt) (hv : 0 ≤ v ∧ v ≤ 4800) (hre : 0 ≤ re ∧ re ≤ 1000000 ∧ -1 ≤ era ∧ era ≤ re) (hto : era = re → TopsOk R rc L ln tp rd cnt) (hroom : era ≠ re → v ≤ 10240 - rc → rc + sumF ln cnt ≤ 10240) : Ct g 4 0 0 yX8_settle cX8_settle 4 none [.ref x, .int (iI v)] [(wMain g x tpa (a 0) da pa qa (ru 0) wa sa bka taped told), (wShelf g a L ln tp rd cnt era nws), (wRules g ru kd fi se sg le de nx he ro rc re rr)] (fun v_ w_ => ∃ kd9 : Int → Int, ∃ fi9 : Int → Int, ∃ se9 : Int → Int, ∃ sg9 : Int → Int, ∃ le9 : Int → Int, ∃ de9 : Int → Int, ∃ nx9 : Int → Int, ∃ he9 : Int → Int, ∃ rc9 : Int, ∃ R9 : Int → Rl, ∃ ro9 : Int → Int, ∃ re9 : Int, ∃ rr9 : Int, ∃ tp9 : Int → Int, ∃ rd9 : Int → Int, v_ = none ∧ w_ = [(wMain g x tpa (a 0) da pa qa (ru 0) wa sa bka taped told), (wShelf g a L ln tp9 rd9 cnt re9 nws), (wRules g ru kd9 fi9 se9 sg9 le9 de9 nx9 he9 ro9 rc9 re9 rr9)] ∧ (RT kd9 fi9 se9 sg9 le9 de9 nx9 he9 rc9 R9) ∧ (TopsOk R9 rc9 L ln tp9 rd9 cnt) ∧ ((re9 = re ∧ rc ≤ rc9 ∧ (∀ i, 0 ≤ i → i < rc → R9 i = R i) ∧ v ≤ 10240 - rc ∧ (era = re ∨ cnt = 0 → rc9 = rc)) ∨ (re9 = re + 1 ∧ rc9 ≤ 26 + sumF ln cnt))) := by
  refine Ct.of (by decide) (Nat.le_of_ble_eq_true rfl) (lv := [(0, .ref x), (1, .int (iI v))]) rfl ?_
  intro E hE hR hnm
  have hcn := hT.1
  have hln := hsh.ln
  have hc := hsh.1
  have hB := hsh.2.1
  have hs6 := sumF_600 hln hc
  have cut18 : ∀ (he8 : Int → Int) (rc8 : Int) (re8 : Int), (RT kd fi se sg le de nx he8 rc8 R) → ((re8 = re ∧ rc8 = rc ∧ v ≤ 10240 - rc) ∨ (re8 = re + 1 ∧ rc8 = 26)) → G g E 4 0 0 [(wMain g x tpa (a 0) da pa qa (ru 0) wa sa bka taped told), (wShelf g a L ln tp rd cnt era nws), (wRules g ru kd fi se sg le de nx he8 ro rc8 re8 rr)] 18 [(0, .ref x), (1, .int (iI v))] [] := by
    intro he8 rc8 re8 hT8 h8
    have cut38 : ∀ (N : Nat) (kd9 : Int → Int) (fi9 : Int → Int) (se9 : Int → Int) (sg9 : Int → Int) (le9 : Int → Int) (de9 : Int → Int) (nx9 : Int → Int) (he9 : Int → Int) (rc9 : Int) (R9 : Int → Rl) (ro9 : Int → Int) (rr9 : Int) (tp9 : Int → Int) (rd9 : Int → Int) (i : Int), (RT kd9 fi9 se9 sg9 le9 de9 nx9 he9 rc9 R9) → (0 ≤ i ∧ i ≤ cnt) → (rc8 ≤ rc9 ∧ rc9 ≤ rc8 + sumF ln i) → (∀ j, 0 ≤ j → j < rc8 → R9 j = R j) → (TopsOk R9 rc9 L ln tp9 rd9 i) → (era ≠ re8) → (rc8 + sumF ln cnt ≤ 10240) → (cnt - i).toNat < N → G g E 4 0 0 [(wMain g x tpa (a 0) da pa qa (ru 0) wa sa bka taped told), (wShelf g a L ln tp9 rd9 cnt era nws), (wRules g ru kd9 fi9 se9 sg9 le9 de9 nx9 he9 ro9 rc9 re8 rr9)] 38 [(0, .ref x), (1, .int (iI v)), (2, .int (iI i))] [] := by
      intro N
      induction N with
      | zero => intro kd9 fi9 se9 sg9 le9 de9 nx9 he9 rc9 R9 ro9 rr9 tp9 rd9 i _ _ _ _ _ _ _ hN; exact absurd hN (Nat.not_lt_zero _)
      | succ N ih38 =>
        intro kd9 fi9 se9 sg9 le9 de9 nx9 he9 rc9 R9 ro9 rr9 tp9 rd9 i hT9 hi hrc hag htp hne hrm8 hN
        have hcn9 := hT9.1
        refine r_iload_n 39 hE 2 dX8_settle_38 rfl rfl rfl ?_
        refine r_aload_n 40 hE 0 dX8_settle_39 rfl rfl rfl ?_
        refine r_get 43 hE 0 0 ok8 4 dX8_settle_40 rfl wd_301 rfl rfl (by decide) rfl ?_
        refine r_get 46 hE 1 0 ok5 4 dX8_settle_43 rfl wd_84 rfl rfl (by decide) rfl ?_
        refine r_icmp_ge 49 99 hE dX8_settle_46 rfl (by decide) (by omega) (fun c46 => ?_) (fun c46 => ?_)
        · skip
          refine r_aload_n 100 hE 0 dX8_settle_99 rfl rfl rfl ?_
          refine r_get 103 hE 0 0 ok8 4 dX8_settle_100 rfl wd_301 rfl rfl (by decide) rfl ?_
          refine r_aload_n 104 hE 0 dX8_settle_103 rfl rfl rfl ?_
          refine r_get 107 hE 0 0 ok8 9 dX8_settle_104 rfl wd_306 rfl rfl (by decide) rfl ?_
          refine r_get 110 hE 2 0 ok3 10 dX8_settle_107 rfl wd_224 rfl rfl (by decide) rfl ?_
          refine r_put 113 hE 1 0 ok5 5 (wShelf g a L ln tp9 rd9 cnt re8 nws) [(wMain g x tpa (a 0) da pa qa (ru 0) wa sa bka taped told), (wShelf g a L ln tp9 rd9 cnt re8 nws), (wRules g ru kd9 fi9 se9 sg9 le9 de9 nx9 he9 ro9 rc9 re8 rr9)] dX8_settle_110 rfl wd_86 rfl rfl (by decide) rfl rfl rfl (Nat.le_of_ble_eq_true rfl) rfl rfl ?_
          refine r_return hE hR [(wMain g x tpa (a 0) da pa qa (ru 0) wa sa bka taped told), (wShelf g a L ln tp9 rd9 cnt re8 nws), (wRules g ru kd9 fi9 se9 sg9 le9 de9 nx9 he9 ro9 rc9 re8 rr9)] dX8_settle_113 (Nat.le_of_ble_eq_true rfl) (Nat.le_of_ble_eq_true rfl) rfl ?_
          have hic : i = cnt := by omega
          subst hic
          refine ⟨kd9, fi9, se9, sg9, le9, de9, nx9, he9, rc9, R9, ro9, re8, rr9, tp9, rd9, rfl, rfl, hT9, htp, ?_⟩
          rcases h8 with z | z
          · refine Or.inl ⟨z.1, by omega, fun j a b => hag j a (by omega), z.2.2, fun q => ?_⟩
            rcases q with q | q
            · omega
            · rw [q, sumF_0] at hrc; omega
          · exact Or.inr ⟨z.1, by omega⟩
        · skip
          have hl1 := (hsh.2.2 i hi.1 c46).1
          have hs1 := sumF_succ ln hi.1
          have hs2 := sumF_le (f := ln) (i := i + 1) (n := cnt) (fun j a b => (hln j a b).1) (by omega) (by omega)
          have hfl := (hsh.2.2 i hi.1 c46).2
          refine r_aload_n 50 hE 0 dX8_settle_49 rfl rfl rfl ?_
          refine r_get 53 hE 0 0 ok8 9 dX8_settle_50 rfl wd_306 rfl rfl (by decide) rfl ?_
          refine r_aload_n 54 hE 0 dX8_settle_53 rfl rfl rfl ?_
          refine r_get 57 hE 0 0 ok8 4 dX8_settle_54 rfl wd_301 rfl rfl (by decide) rfl ?_
          refine r_get 60 hE 1 0 ok5 0 dX8_settle_57 rfl wd_77 rfl rfl (by decide) rfl ?_
          refine r_iload_n 61 hE 2 dX8_settle_60 rfl rfl rfl ?_
          refine r_sipush 64 hE dX8_settle_61 rfl (by decide) ?_
          refine r_imul 65 hE (i * 600) dX8_settle_64 rfl rfl ?_
          refine r_aload_n 66 hE 0 dX8_settle_65 rfl rfl rfl ?_
          refine r_get 69 hE 0 0 ok8 4 dX8_settle_66 rfl wd_301 rfl rfl (by decide) rfl ?_
          refine r_iload_n 70 hE 2 dX8_settle_69 rfl rfl rfl ?_
          refine r_callV 73 hE [1] [0, 2] [(wShelf g a L ln tp9 rd9 cnt era nws)] [(wMain g x tpa (a 0) da pa qa (ru 0) wa sa bka taped told), (wRules g ru kd9 fi9 se9 sg9 le9 de9 nx9 he9 ro9 rc9 re8 rr9)] 0 5 ok5 [.int (iI (i * 600)), .ref (a 1), .ref (ru 0)] (c_X5_lengthOf (by omega) (by omega)) dX8_settle_70 rfl rfl wd_630 wd_631 wd_632 wd_4 wd_633 ne_X5 np_X5_lengthOf (Nat.le_of_ble_eq_true rfl)  (by decide) (by decide) rfl (Nat.le_of_ble_eq_true rfl) rfl rfl rfl rfl (by decide) rfl (fun v1 f1 hp => ?_)
          obtain ⟨rfl, rfl⟩ := hp
          show G g E _ _ _ [(wShelf g a L ln tp9 rd9 cnt era nws), (wMain g x tpa (a 0) da pa qa (ru 0) wa sa bka taped told), (wRules g ru kd9 fi9 se9 sg9 le9 de9 nx9 he9 ro9 rc9 re8 rr9)] 73 [(0, .ref x), (1, .int (iI v)), (2, .int (iI i))] [.int (iI (ln i)), .int (iI (i * 600)), .ref (a 1), .ref (ru 0)]
          refine G.cast (fs' := [(wShelfH g a cnt era nws), (wBytes g (a 1) 4800 L), (wShelfT g a ln tp9 rd9), (wMain g x tpa (a 0) da pa qa (ru 0) wa sa bka taped told), (wRules g ru kd9 fi9 se9 sg9 le9 de9 nx9 he9 ro9 rc9 re8 rr9)]) (lv' := [(0, .ref x), (1, .int (iI v)), (2, .int (iI i))]) rfl rfl ?_
          refine r_callV 76 hE [4, 1] [0, 2, 3] [(wRules g ru kd9 fi9 se9 sg9 le9 de9 nx9 he9 ro9 rc9 re8 rr9), (wBytes g (a 1) 4800 L)] [(wShelfH g a cnt era nws), (wShelfT g a ln tp9 rd9), (wMain g x tpa (a 0) da pa qa (ru 0) wa sa bka taped told)] 0 3 ok3 [] (c_X3_build (hT9) (by omega) (by omega) (fun k a b => by have := hfl k a b; rw [show i * 600 + k = 600 * i + k by omega]; exact this) (by omega)) dX8_settle_73 rfl rfl wd_635 wd_636 wd_637 wd_9 wd_638 ne_X3 np_X3_build (Nat.le_of_ble_eq_true rfl)  (by decide) (by decide) rfl (Nat.le_of_ble_eq_true rfl) rfl rfl rfl rfl (by decide) rfl (fun v1 f1 hp => ?_)
          obtain ⟨kd9_73, fi9_73, se9_73, sg9_73, le9_73, de9_73, nx9_73, he9_73, rc9_73, R9_73, ro9_73, rr9_73, r_73, rfl, rfl, h73_0, h73_1, h73_2, h73_3, h73_4, h73_5⟩ := hp
          show G g E _ _ _ [(wRules g ru kd9_73 fi9_73 se9_73 sg9_73 le9_73 de9_73 nx9_73 he9_73 ro9_73 rc9_73 re8 rr9_73), (wBytes g (a 1) 4800 L), (wShelfH g a cnt era nws), (wShelfT g a ln tp9 rd9), (wMain g x tpa (a 0) da pa qa (ru 0) wa sa bka taped told)] 76 [(0, .ref x), (1, .int (iI v)), (2, .int (iI i))] [.int (iI r_73)]
          have hag2 : ∀ j, 0 ≤ j → j < rc8 → R9_73 j = R j := fun j a b => by rw [h73_2 j a (by omega)]; exact hag j a b
          have hrc2 : rc8 ≤ rc9_73 ∧ rc9_73 ≤ rc8 + sumF ln (i + 1) := by omega
          have htp2 := (htp.ext h73_1.1 h73_2).step h73_3 h73_4
          refine G.to (fs' := [(wShelfH g a cnt era nws), (wBytes g (a 1) 4800 L), (wShelfT g a ln tp9 rd9), (wRules g ru kd9_73 fi9_73 se9_73 sg9_73 le9_73 de9_73 nx9_73 he9_73 ro9_73 rc9_73 re8 rr9_73), (wMain g x tpa (a 0) da pa qa (ru 0) wa sa bka taped told)]) (lv' := [(0, .ref x), (1, .int (iI v)), (2, .int (iI i))]) [2, 1, 3, 0, 4] [0, 1, 2] rfl rfl rfl ?_
          refine G.cast (fs' := [(wShelf g a L ln tp9 rd9 cnt era nws), (wRules g ru kd9_73 fi9_73 se9_73 sg9_73 le9_73 de9_73 nx9_73 he9_73 ro9_73 rc9_73 re8 rr9_73), (wMain g x tpa (a 0) da pa qa (ru 0) wa sa bka taped told)]) (lv' := [(0, .ref x), (1, .int (iI v)), (2, .int (iI i))]) rfl rfl ?_
          refine r_istore_n 77 hE [(3, .int (iI r_73)), (0, .ref x), (1, .int (iI v)), (2, .int (iI i))] dX8_settle_76 rfl rfl (by decide) rfl ?_
          refine r_aload_n 78 hE 1 dX8_settle_77 rfl rfl rfl ?_
          refine r_get 81 hE 2 0 ok8 4 dX8_settle_78 rfl wd_301 rfl rfl (by decide) rfl ?_
          refine r_iload_n 82 hE 3 dX8_settle_81 rfl rfl rfl ?_
          refine r_iload_n 83 hE 0 dX8_settle_82 rfl rfl rfl ?_
          refine r_aload_n 84 hE 1 dX8_settle_83 rfl rfl rfl ?_
          refine r_get 87 hE 2 0 ok8 9 dX8_settle_84 rfl wd_306 rfl rfl (by decide) rfl ?_
          refine r_get 90 hE 1 0 ok3 11 dX8_settle_87 rfl wd_226 rfl rfl (by decide) rfl ?_
          refine r_callV 93 hE [0] [1, 2] [(wShelf g a L ln tp9 rd9 cnt era nws)] [(wRules g ru kd9_73 fi9_73 se9_73 sg9_73 le9_73 de9_73 nx9_73 he9_73 ro9_73 rc9_73 re8 rr9_73), (wMain g x tpa (a 0) da pa qa (ru 0) wa sa bka taped told)] 0 5 ok5 [] (c_X5_setTop (by omega) (by omega)) dX8_settle_90 rfl rfl wd_664 wd_665 wd_666 wd_4 wd_667 ne_X5 np_X5_setTop (Nat.le_of_ble_eq_true rfl)  (by decide) (by decide) rfl (Nat.le_of_ble_eq_true rfl) rfl rfl rfl rfl (by decide) rfl (fun v1 f1 hp => ?_)
          obtain ⟨rfl, rfl⟩ := hp
          show G g E _ _ _ [(wShelf g a L ln (up tp9 i r_73) (up rd9 i rr9_73) cnt era nws), (wRules g ru kd9_73 fi9_73 se9_73 sg9_73 le9_73 de9_73 nx9_73 he9_73 ro9_73 rc9_73 re8 rr9_73), (wMain g x tpa (a 0) da pa qa (ru 0) wa sa bka taped told)] 93 [(3, .int (iI r_73)), (0, .ref x), (1, .int (iI v)), (2, .int (iI i))] []
          refine r_iinc 96 hE 3 (i + 1) [(2, .int (iI (i + 1))), (3, .int (iI r_73)), (0, .ref x), (1, .int (iI v))] dX8_settle_93 rfl rfl rfl (by decide) rfl ?_
          refine r_goto 38 hE dX8_settle_96 (by decide) ?_
          refine G.to (fs' := [(wMain g x tpa (a 0) da pa qa (ru 0) wa sa bka taped told), (wShelf g a L ln (up tp9 i r_73) (up rd9 i rr9_73) cnt era nws), (wRules g ru kd9_73 fi9_73 se9_73 sg9_73 le9_73 de9_73 nx9_73 he9_73 ro9_73 rc9_73 re8 rr9_73)]) (lv' := [(0, .ref x), (1, .int (iI v)), (2, .int (iI (i + 1)))]) [2, 0, 1] [2, 3, 0] rfl rfl rfl ?_
          exact ih38 kd9_73 fi9_73 se9_73 sg9_73 le9_73 de9_73 nx9_73 he9_73 rc9_73 _ ro9_73 rr9_73 (up tp9 i r_73) (up rd9 i rr9_73) (i + 1) (by first | exact h73_0 | exact hT8) (by omega) (by first | exact hrc2 | (rw [sumF_0]; omega)) (by first | exact hag2 | exact (fun _ _ _ => rfl)) (by first | exact htp2 | exact (fun t a b => absurd b (by omega))) (by first | exact hne | exact c32) (hrm8) (by omega)
    refine r_aload_n 19 hE 0 dX8_settle_18 rfl rfl rfl ?_
    refine r_get 22 hE 0 0 ok8 4 dX8_settle_19 rfl wd_301 rfl rfl (by decide) rfl ?_
    refine r_get 25 hE 1 0 ok5 5 dX8_settle_22 rfl wd_86 rfl rfl (by decide) rfl ?_
    refine r_aload_n 26 hE 0 dX8_settle_25 rfl rfl rfl ?_
    refine r_get 29 hE 0 0 ok8 9 dX8_settle_26 rfl wd_306 rfl rfl (by decide) rfl ?_
    refine r_get 32 hE 2 0 ok3 10 dX8_settle_29 rfl wd_224 rfl rfl (by decide) rfl ?_
    refine r_icmp_ne 35 36 hE dX8_settle_32 rfl (by decide) (by omega) (fun c32 => ?_) (fun c32 => ?_)
    · skip
      have hrm8 : rc8 + sumF ln cnt ≤ 10240 := by rcases h8 with z | z <;> first | (have := hroom (by omega) (by omega); omega) | omega
      refine r_iconst 37 hE dX8_settle_36 rfl ?_
      refine r_istore_n 38 hE [(2, .int (iI 0)), (0, .ref x), (1, .int (iI v))] dX8_settle_37 rfl rfl (by decide) rfl ?_
      refine G.to (fs' := [(wMain g x tpa (a 0) da pa qa (ru 0) wa sa bka taped told), (wShelf g a L ln tp rd cnt era nws), (wRules g ru kd fi se sg le de nx he8 ro rc8 re8 rr)]) (lv' := [(0, .ref x), (1, .int (iI v)), (2, .int (iI 0))]) [0, 1, 2] [1, 2, 0] rfl rfl rfl ?_
      exact cut38 _ kd fi se sg le de nx he8 rc8 _ ro rr tp rd 0 (by first | exact h73_0 | exact hT8) (by omega) (by first | exact hrc2 | (rw [sumF_0]; omega)) (by first | exact hag2 | exact (fun _ _ _ => rfl)) (by first | exact htp2 | exact (fun t a b => absurd b (by omega))) (by first | exact hne | exact c32) (hrm8) (Nat.lt_succ_self _)
    · skip
      refine r_return hE hR [(wMain g x tpa (a 0) da pa qa (ru 0) wa sa bka taped told), (wShelf g a L ln tp rd cnt era nws), (wRules g ru kd fi se sg le de nx he8 ro rc8 re8 rr)] dX8_settle_35 (Nat.le_of_ble_eq_true rfl) (Nat.le_of_ble_eq_true rfl) rfl ?_
      have hre8 : re8 = re := by omega
      have hrc8 : rc8 = rc := by omega
      subst hre8
      exact ⟨kd, fi, se, sg, le, de, nx, he8, rc8, R, ro, re8, rr, tp, rd, rfl, by rw [c32], hT8, by rw [hrc8]; exact hto c32, Or.inl ⟨rfl, by omega, fun _ _ _ => rfl, by omega, fun _ => hrc8⟩⟩
  refine r_aload_n 1 hE 0 dX8_settle_0 rfl rfl rfl ?_
  refine r_get 4 hE 0 0 ok8 9 dX8_settle_1 rfl wd_306 rfl rfl (by decide) rfl ?_
  refine r_callV 7 hE [2] [0, 1] [(wRules g ru kd fi se sg le de nx he ro rc re rr)] [(wMain g x tpa (a 0) da pa qa (ru 0) wa sa bka taped told), (wShelf g a L ln tp rd cnt era nws)] 0 3 ok3 [] (c_X3_room) dX8_settle_4 rfl rfl wd_622 wd_623 wd_624 wd_9 wd_625 ne_X3 np_X3_room (Nat.le_of_ble_eq_true rfl)  (by decide) (by decide) rfl (Nat.le_of_ble_eq_true rfl) rfl rfl rfl rfl (by decide) rfl (fun v1 f1 hp => ?_)
  obtain ⟨rfl, rfl⟩ := hp
  show G g E _ _ _ [(wRules g ru kd fi se sg le de nx he ro rc re rr), (wMain g x tpa (a 0) da pa qa (ru 0) wa sa bka taped told), (wShelf g a L ln tp rd cnt era nws)] 7 [(0, .ref x), (1, .int (iI v))] [.int (iI (10240 - rc))]
  refine r_iload_n 8 hE 1 dX8_settle_7 rfl rfl rfl ?_
  refine r_icmp_ge 11 18 hE dX8_settle_8 rfl (by decide) (by omega) (fun c8 => ?_) (fun c8 => ?_)
  · skip
    refine G.to (fs' := [(wMain g x tpa (a 0) da pa qa (ru 0) wa sa bka taped told), (wShelf g a L ln tp rd cnt era nws), (wRules g ru kd fi se sg le de nx he ro rc re rr)]) (lv' := [(0, .ref x), (1, .int (iI v))]) [1, 2, 0] [0, 1] rfl rfl rfl ?_
    exact cut18 he rc re (by first | exact hT | exact h15_0) (by omega)
  · skip
    refine r_aload_n 12 hE 0 dX8_settle_11 rfl rfl rfl ?_
    refine r_get 15 hE 1 0 ok8 9 dX8_settle_12 rfl wd_306 rfl rfl (by decide) rfl ?_
    refine r_callV 18 hE [0] [1, 2] [(wRules g ru kd fi se sg le de nx he ro rc re rr)] [(wMain g x tpa (a 0) da pa qa (ru 0) wa sa bka taped told), (wShelf g a L ln tp rd cnt era nws)] 0 3 ok3 [] (c_X3_clear (hT)) dX8_settle_15 rfl rfl wd_626 wd_627 wd_628 wd_9 wd_629 ne_X3 np_X3_clear (Nat.le_of_ble_eq_true rfl)  (by decide) (by decide) rfl (Nat.le_of_ble_eq_true rfl) rfl rfl rfl rfl (by decide) rfl (fun v1 f1 hp => ?_)
    obtain ⟨he9_15, rfl, rfl, h15_0⟩ := hp
    show G g E _ _ _ [(wRules g ru kd fi se sg le de nx he9_15 ro 26 (re + 1) rr), (wMain g x tpa (a 0) da pa qa (ru 0) wa sa bka taped told), (wShelf g a L ln tp rd cnt era nws)] 18 [(0, .ref x), (1, .int (iI v))] []
    refine G.to (fs' := [(wMain g x tpa (a 0) da pa qa (ru 0) wa sa bka taped told), (wShelf g a L ln tp rd cnt era nws), (wRules g ru kd fi se sg le de nx he9_15 ro 26 (re + 1) rr)]) (lv' := [(0, .ref x), (1, .int (iI v))]) [1, 2, 0] [0, 1] rfl rfl rfl ?_
    exact cut18 he9_15 26 (re + 1) (by first | exact hT | exact h15_0) (by omega)
