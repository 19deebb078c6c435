def wInts (g : Gm) (x : Nat) (n : Nat) (f : Int → Int) : va_W := [ia g x n f]
def wRulesA (g : Gm) (ru : Nat → Nat) (kd : Int → Int) (fi : Int → Int) (se : Int → Int) (sg : Int → Int) (le : Int → Int) (de : Int → Int) (nx : Int → Int) (rc : Int) (re : Int) (rr : Int) : va_W := [ob (ru 0) 3 [.ref (ru 1), .ref (ru 2), .ref (ru 3), .ref (ru 4), .ref (ru 5), .ref (ru 6), .ref (ru 7), .ref (ru 8), .ref (ru 9), .int (iI rc), .int (iI re), .int (iI rr)], ba g (ru 1) 10240 kd, ia g (ru 2) 10240 fi, ia g (ru 3) 10240 se, ia g (ru 4) 10240 sg, ia g (ru 5) 10240 le, ia g (ru 6) 10240 de, ia g (ru 7) 10240 nx]
set_option maxHeartbeats 4000000 in
set_option maxRecDepth 100000 in
theorem c_J7_fill_53178 {g : Gm} {x n : Nat} {f : Int → Int} {v : Int} (hn : (n : Int) ≤ 100000) : Ct g 0 0 0 yJ7_fill_53178 cJ7_fill_53178 4 none [.ref x, .int (iI v)] [(wInts g x n f)] (fun v_ w_ => ∃ f9 : Int → Int, v_ = none ∧ w_ = [(wInts g x n f9)] ∧ (∀ j, 0 ≤ j → j < (n : Int) → f9 j = v)) := by
  refine Ct.of (by decide) (Nat.le_of_ble_eq_true rfl) (lv := [(0, .ref x), (1, .int (iI v))]) rfl ?_
  intro E hE hR hnm
  have cut5 : ∀ (N : Nat) (i : Int) (f9 : Int → Int), (0 ≤ i ∧ i ≤ (n : Int)) → (∀ j, 0 ≤ j → j < i → f9 j = v) → ((n : Int) - i).toNat < N → G g E 4 0 0 [(wInts g x n f9)] 5 [(0, .ref x), (1, .int (iI v)), (2, .int (iI i)), (3, .int (iI (n : Int)))] [] := by
    intro N
    induction N with
    | zero => intro i f9 _ _ hN; exact absurd hN (Nat.not_lt_zero _)
    | succ N ih5 =>
      intro i f9 hi hv hN
      refine r_iload_n 6 hE 2 dJ7_fill_53178_5 rfl rfl rfl ?_
      refine r_iload_n 7 hE 3 dJ7_fill_53178_6 rfl rfl rfl ?_
      refine r_icmp_ge 10 20 hE dJ7_fill_53178_7 rfl (by decide) (by omega) (fun c7 => ?_) (fun c7 => ?_)
      · skip
        refine r_return hE hR [(wInts g x n f9)] dJ7_fill_53178_20 (Nat.le_of_ble_eq_true rfl) (Nat.le_of_ble_eq_true rfl) rfl ?_
        exact ⟨f9, rfl, rfl, fun j a b => hv j a (by omega)⟩
      · skip
        refine r_aload_n 11 hE 0 dJ7_fill_53178_10 rfl rfl rfl ?_
        refine r_iload_n 12 hE 2 dJ7_fill_53178_11 rfl rfl rfl ?_
        refine r_iload_n 13 hE 1 dJ7_fill_53178_12 rfl rfl rfl ?_
        refine r_iast 14 hE 0 0 (wInts g x n (up f9 i v)) [(wInts g x n (up f9 i v))] dJ7_fill_53178_13 rfl rfl rfl (by omega) rfl rfl ?_
        refine r_iinc 17 hE 2 (i + 1) [(2, .int (iI (i + 1))), (0, .ref x), (1, .int (iI v)), (3, .int (iI (n : Int)))] dJ7_fill_53178_14 rfl rfl rfl (by decide) rfl ?_
        refine r_goto 5 hE dJ7_fill_53178_17 (by decide) ?_
        refine G.to (fs' := [(wInts g x n (up f9 i v))]) (lv' := [(0, .ref x), (1, .int (iI v)), (2, .int (iI (i + 1))), (3, .int (iI (n : Int)))]) [0] [1, 2, 0, 3] rfl rfl rfl ?_
        exact ih5 (i + 1) (up f9 i v) (by omega) (by first | exact (fun j a b => if z : j = i then by rw [z, up_same] else by rw [up_ne _ _ z]; exact hv j a (by omega)) | exact (fun j a b => absurd b (by omega))) (by omega)
  refine r_iconst 1 hE dJ7_fill_53178_0 rfl ?_
  refine r_istore_n 2 hE [(2, .int (iI 0)), (0, .ref x), (1, .int (iI v))] dJ7_fill_53178_1 rfl rfl (by decide) rfl ?_
  refine r_aload_n 3 hE 1 dJ7_fill_53178_2 rfl rfl rfl ?_
  refine r_alen 4 hE 0 0 dJ7_fill_53178_3 rfl rfl rfl ?_
  refine r_istore_n 5 hE [(3, .int (iI (n : Int))), (2, .int (iI 0)), (0, .ref x), (1, .int (iI v))] dJ7_fill_53178_4 rfl rfl (by decide) rfl ?_
  refine G.to (fs' := [(wInts g x n f)]) (lv' := [(0, .ref x), (1, .int (iI v)), (2, .int (iI 0)), (3, .int (iI (n : Int)))]) [0] [2, 3, 1, 0] rfl rfl rfl ?_
  exact cut5 _ 0 f (by omega) (by first | exact (fun j a b => if z : j = i then by rw [z, up_same] else by rw [up_ne _ _ z]; exact hv j a (by omega)) | exact (fun j a b => absurd b (by omega))) (Nat.lt_succ_self _)
set_option maxHeartbeats 4000000 in
set_option maxRecDepth 100000 in
theorem c_X3_clear {g : Gm} {ru : Nat → Nat} {kd fi se sg le de nx he ro : Int → Int} {rc re rr : Int} {R : Int → Rl} (hT : RT kd fi se sg le de nx he rc R) : Ct g 1 0 0 yX3_clear cX3_clear 1 none [.ref (ru 0)] [(wRules g ru kd fi se sg le de nx he ro rc re rr)] (fun v_ w_ => ∃ he9 : Int → Int, v_ = none ∧ w_ = [(wRules g ru kd fi se sg le de nx he9 ro 26 (re + 1) rr)] ∧ (RT kd fi se sg le de nx he9 26 R)) := by
  refine Ct.of (by decide) (Nat.le_of_ble_eq_true rfl) (lv := [(0, .ref (ru 0))]) rfl ?_
  intro E hE hR hnm
  refine r_aload_n 1 hE 0 dX3_clear_0 rfl rfl rfl ?_
  refine r_get 4 hE 0 0 ok3 7 dX3_clear_1 rfl wd_220 rfl rfl (by decide) rfl ?_
  refine r_iconst 5 hE dX3_clear_4 rfl ?_
  refine G.cast (fs' := [(wRulesA g ru kd fi se sg le de nx rc re rr), (wInts g (ru 8) 4096 he), (wInts g (ru 9) 600 ro)]) (lv' := [(0, .ref (ru 0))]) rfl rfl ?_
  refine r_callS 8 hE [1] [0, 2] [(wInts g (ru 8) 4096 he)] [(wRulesA g ru kd fi se sg le de nx rc re rr), (wInts g (ru 9) 600 ro)] [] (c_J7_fill_53178 (by decide)) dX3_clear_5 rfl wd_210 wd_211 wd_10 wd_212 ne_J7 np_J7_fill_53178 (Nat.le_of_ble_eq_true rfl)  (by decide) (by decide) rfl (Nat.le_of_ble_eq_true rfl) rfl rfl rfl rfl (by decide) (fun v1 f1 hp => ?_)
  obtain ⟨f9_5, rfl, rfl, h5_0⟩ := hp
  show G g E _ _ _ [(wInts g (ru 8) 4096 f9_5), (wRulesA g ru kd fi se sg le de nx rc re rr), (wInts g (ru 9) 600 ro)] 8 [(0, .ref (ru 0))] []
  refine G.to (fs' := [(wRulesA g ru kd fi se sg le de nx rc re rr), (wInts g (ru 8) 4096 f9_5), (wInts g (ru 9) 600 ro)]) (lv' := [(0, .ref (ru 0))]) [1, 0, 2] [0] rfl rfl rfl ?_
  refine G.cast (fs' := [(wRules g ru kd fi se sg le de nx f9_5 ro rc re rr)]) (lv' := [(0, .ref (ru 0))]) rfl rfl ?_
  refine r_aload_n 9 hE 0 dX3_clear_8 rfl rfl rfl ?_
  refine r_bipush 11 hE dX3_clear_9 rfl (by decide) ?_
  refine r_put 14 hE 0 0 ok3 9 (wRules g ru kd fi se sg le de nx f9_5 ro 26 re rr) [(wRules g ru kd fi se sg le de nx f9_5 ro 26 re rr)] dX3_clear_11 rfl wd_222 rfl rfl (by decide) rfl rfl rfl (Nat.le_of_ble_eq_true rfl) rfl rfl ?_
  refine r_aload_n 15 hE 0 dX3_clear_14 rfl rfl rfl ?_
  refine r_dup 16 hE dX3_clear_15 rfl rfl ?_
  refine r_get 19 hE 0 0 ok3 10 dX3_clear_16 rfl wd_223 rfl rfl (by decide) rfl ?_
  refine r_iconst 20 hE dX3_clear_19 rfl ?_
  refine r_iadd 21 hE (re + 1) dX3_clear_20 rfl rfl ?_
  refine r_put 24 hE 0 0 ok3 10 (wRules g ru kd fi se sg le de nx f9_5 ro 26 (re + 1) rr) [(wRules g ru kd fi se sg le de nx f9_5 ro 26 (re + 1) rr)] dX3_clear_21 rfl wd_223 rfl rfl (by decide) rfl rfl rfl (Nat.le_of_ble_eq_true rfl) rfl rfl ?_
  refine r_return hE hR [(wRules g ru kd fi se sg le de nx f9_5 ro 26 (re + 1) rr)] dX3_clear_24 (Nat.le_of_ble_eq_true rfl) (Nat.le_of_ble_eq_true rfl) rfl ?_
  exact ⟨_, rfl, rfl, hT.clear h5_0⟩
set_option maxHeartbeats 4000000 in
set_option maxRecDepth 100000 in
theorem c_X3_partAround {g : Gm} {ru : Nat → Nat} {kd fi se sg le de nx he ro : Int → Int} {rc re rr : Int} {R : Int → Rl} {t p i : Int} (hT : RT kd fi se sg le de nx he rc R) (htt : 0 ≤ t ∧ t < rc) (hp : 0 ≤ p ∧ p ≤ 600) (hi : 0 ≤ i ∧ i ≤ 2147483647) : Ct g 2 0 0 yX3_partAround cX3_partAround 10 (some .int) [.ref (ru 0), .int (iI t), .int (iI p), .int (iI i)] [(wRules g ru kd fi se sg le de nx he ro rc re rr)] (fun v_ w_ => ∃ x9 : Int, v_ = some (.int (iI x9)) ∧ w_ = [(wRules g ru kd fi se sg le de nx he ro rc re rr)] ∧ ((x9 = -1 ∧ arN i.toNat (R t) p = none) ∨ (0 ≤ x9 ∧ x9 < rc ∧ arN i.toNat (R t) p = some (R x9)))) := by
  refine Ct.of (by decide) (Nat.le_of_ble_eq_true rfl) (lv := [(0, .ref (ru 0)), (1, .int (iI t)), (2, .int (iI p)), (3, .int (iI i))]) rfl ?_
  intro E hE hR hnm
  have hcn := hT.1
  have cut9 : ∀ (N : Nat) (x : Int) (q : Int) (k : Int), (0 ≤ x ∧ x < rc) → (0 ≤ q ∧ q ≤ 600) → (0 ≤ k ∧ k ≤ i) → (arN i.toNat (R t) p = arN (i - k).toNat (R x) q) → (i - k).toNat < N → G g E 10 0 0 [(wRules g ru kd fi se sg le de nx he ro rc re rr)] 9 [(0, .ref (ru 0)), (1, .int (iI t)), (2, .int (iI p)), (3, .int (iI i)), (4, .int (iI x)), (5, .int (iI q)), (6, .int (iI k))] [] := by
    intro N
    induction N with
    | zero => intro x q k _ _ _ _ hN; exact absurd hN (Nat.not_lt_zero _)
    | succ N ih9 =>
      intro x q k hx hq hk hv hN
      have hxr := hT.2.1 x hx.1 hx.2
      have hxg := hxr.rg (by omega)
      have cut95 : ∀ (x8 : Int) (q8 : Int), (0 ≤ x8 ∧ x8 < rc) → (0 ≤ q8 ∧ q8 ≤ 600) → (arN i.toNat (R t) p = arN (i - (k + 1)).toNat (R x8) q8) → (k < i) → G g E 10 0 0 [(wRules g ru kd fi se sg le de nx he ro rc re rr)] 95 [(0, .ref (ru 0)), (1, .int (iI t)), (2, .int (iI p)), (3, .int (iI i)), (4, .int (iI x8)), (5, .int (iI q8)), (6, .int (iI k))] [] := by
        intro x8 q8 hx8 hq8 hv2 hlt
        refine r_iinc 98 hE 6 (k + 1) [(6, .int (iI (k + 1))), (0, .ref (ru 0)), (1, .int (iI t)), (2, .int (iI p)), (3, .int (iI i)), (4, .int (iI x8)), (5, .int (iI q8))] dX3_partAround_95 rfl rfl rfl (by decide) rfl ?_
        refine r_goto 9 hE dX3_partAround_98 (by decide) ?_
        refine G.to (fs' := [(wRules g ru kd fi se sg le de nx he ro rc re rr)]) (lv' := [(0, .ref (ru 0)), (1, .int (iI t)), (2, .int (iI p)), (3, .int (iI i)), (4, .int (iI x8)), (5, .int (iI q8)), (6, .int (iI (k + 1)))]) [0] [1, 2, 3, 4, 5, 6, 0] rfl rfl rfl ?_
        exact ih9 x8 q8 (k + 1) (by omega) (by omega) (by omega) (by first | exact hv2 | (rw [Int.sub_zero])) (by omega)
      refine r_iload 11 hE 6 dX3_partAround_9 rfl rfl ?_
      refine r_iload_n 12 hE 3 dX3_partAround_11 rfl rfl rfl ?_
      refine r_icmp_ge 15 101 hE dX3_partAround_12 rfl (by decide) (by omega) (fun c12 => ?_) (fun c12 => ?_)
      · skip
        refine r_iload 103 hE 4 dX3_partAround_101 rfl rfl ?_
        refine r_ireturn hE hR [(wRules g ru kd fi se sg le de nx he ro rc re rr)] dX3_partAround_103 (Nat.le_of_ble_eq_true rfl) (Nat.le_of_ble_eq_true rfl) rfl ?_
        exact ⟨x, rfl, rfl, Or.inr ⟨hx.1, hx.2, by rw [hv, show (i - k).toNat = 0 by omega]; rfl⟩⟩
      · skip
        rw [ar_s (by omega)] at hv
        refine r_aload_n 16 hE 0 dX3_partAround_15 rfl rfl rfl ?_
        refine r_iload 18 hE 4 dX3_partAround_16 rfl rfl ?_
        refine r_callV 21 hE [0] [] [(wRules g ru kd fi se sg le de nx he ro rc re rr)] [] 0 3 ok3 [] (c_X3_kindOf (by omega) (by omega)) dX3_partAround_18 rfl rfl wd_859 wd_702 wd_703 wd_9 wd_704 ne_X3 np_X3_kindOf (Nat.le_of_ble_eq_true rfl)  (by decide) (by decide) rfl (Nat.le_of_ble_eq_true rfl) rfl rfl rfl rfl (by decide) rfl (fun v1 f1 hp => ?_)
        obtain ⟨rfl, rfl⟩ := hp
        show G g E _ _ _ [(wRules g ru kd fi se sg le de nx he ro rc re rr)] 21 [(0, .ref (ru 0)), (1, .int (iI t)), (2, .int (iI p)), (3, .int (iI i)), (4, .int (iI x)), (5, .int (iI q)), (6, .int (iI k))] [.int (iI (kd x))]
        refine r_istore 23 hE [(7, .int (iI (kd x))), (0, .ref (ru 0)), (1, .int (iI t)), (2, .int (iI p)), (3, .int (iI i)), (4, .int (iI x)), (5, .int (iI q)), (6, .int (iI k))] dX3_partAround_21 rfl (by decide) rfl ?_
        refine r_iload 25 hE 0 dX3_partAround_23 rfl rfl ?_
        refine r_if_ne 28 30 hE dX3_partAround_25 rfl (by decide) (by omega) (fun c25 => ?_) (fun c25 => ?_)
        · skip
          have hfx : 0 ≤ fi x ∧ fi x < rc := by have h9 := hxr.1; rcases h9 with z | z | z <;> omega
          have hfr := hT.2.1 _ hfx.1 hfx.2
          have hfg := hfr.rg (by omega)
          have hle := hfr.2.2.1
          refine r_aload_n 31 hE 1 dX3_partAround_30 rfl rfl rfl ?_
          refine r_iload 33 hE 5 dX3_partAround_31 rfl rfl ?_
          refine r_callV 36 hE [0] [] [(wRules g ru kd fi se sg le de nx he ro rc re rr)] [] 0 3 ok3 [] (c_X3_firstOf (by omega) (by omega)) dX3_partAround_33 rfl rfl wd_860 wd_698 wd_699 wd_9 wd_700 ne_X3 np_X3_firstOf (Nat.le_of_ble_eq_true rfl)  (by decide) (by decide) rfl (Nat.le_of_ble_eq_true rfl) rfl rfl rfl rfl (by decide) rfl (fun v1 f1 hp => ?_)
          obtain ⟨rfl, rfl⟩ := hp
          show G g E _ _ _ [(wRules g ru kd fi se sg le de nx he ro rc re rr)] 36 [(7, .int (iI (kd x))), (0, .ref (ru 0)), (1, .int (iI t)), (2, .int (iI p)), (3, .int (iI i)), (4, .int (iI x)), (5, .int (iI q)), (6, .int (iI k))] [.int (iI (fi x))]
          refine r_istore 38 hE [(8, .int (iI (fi x))), (7, .int (iI (kd x))), (0, .ref (ru 0)), (1, .int (iI t)), (2, .int (iI p)), (3, .int (iI i)), (4, .int (iI x)), (5, .int (iI q)), (6, .int (iI k))] dX3_partAround_36 rfl (by decide) rfl ?_
          refine r_aload_n 39 hE 2 dX3_partAround_38 rfl rfl rfl ?_
          refine r_iload 41 hE 0 dX3_partAround_39 rfl rfl ?_
          refine r_callV 44 hE [0] [] [(wRules g ru kd fi se sg le de nx he ro rc re rr)] [] 0 3 ok3 [] (c_X3_lengthOf (by omega) (by omega) (by omega)) dX3_partAround_41 rfl rfl wd_861 wd_710 wd_711 wd_9 wd_712 ne_X3 np_X3_lengthOf (Nat.le_of_ble_eq_true rfl)  (by decide) (by decide) rfl (Nat.le_of_ble_eq_true rfl) rfl rfl rfl rfl (by decide) rfl (fun v1 f1 hp => ?_)
          obtain ⟨rfl, rfl⟩ := hp
          show G g E _ _ _ [(wRules g ru kd fi se sg le de nx he ro rc re rr)] 44 [(8, .int (iI (fi x))), (7, .int (iI (kd x))), (0, .ref (ru 0)), (1, .int (iI t)), (2, .int (iI p)), (3, .int (iI i)), (4, .int (iI x)), (5, .int (iI q)), (6, .int (iI k))] [.int (iI (le (fi x)))]
          refine r_istore 46 hE [(9, .int (iI (le (fi x)))), (8, .int (iI (fi x))), (7, .int (iI (kd x))), (0, .ref (ru 0)), (1, .int (iI t)), (2, .int (iI p)), (3, .int (iI i)), (4, .int (iI x)), (5, .int (iI q)), (6, .int (iI k))] dX3_partAround_44 rfl (by decide) rfl ?_
          refine r_iload 48 hE 2 dX3_partAround_46 rfl rfl ?_
          refine r_iconst 49 hE dX3_partAround_48 rfl ?_
          refine r_icmp_ne 52 66 hE dX3_partAround_49 rfl (by decide) (by omega) (fun c49 => ?_) (fun c49 => ?_)
          · skip
            have hPair := hxr.pair (by omega)
            refine r_iload 68 hE 8 dX3_partAround_66 rfl rfl ?_
            refine r_iload 70 hE 0 dX3_partAround_68 rfl rfl ?_
            refine r_icmp_ge 73 80 hE dX3_partAround_70 rfl (by decide) (by omega) (fun c70 => ?_) (fun c70 => ?_)
            · skip
              have hvp : arN i.toNat (R t) p = arN (i - (k + 1)).toNat (R (se x)) (q - le (fi x)) := by rw [hv, hPair.1, arN_pair, if_neg (by rw [← hle]; omega), hle]
              refine r_iload 82 hE 8 dX3_partAround_80 rfl rfl ?_
              refine r_iload 84 hE 0 dX3_partAround_82 rfl rfl ?_
              refine r_isub 85 hE (q - (le (fi x))) dX3_partAround_84 rfl rfl ?_
              refine r_istore 87 hE [(5, .int (iI (q - (le (fi x))))), (9, .int (iI (le (fi x)))), (8, .int (iI (fi x))), (7, .int (iI (kd x))), (0, .ref (ru 0)), (1, .int (iI t)), (2, .int (iI p)), (3, .int (iI i)), (4, .int (iI x)), (6, .int (iI k))] dX3_partAround_85 rfl (by decide) rfl ?_
              refine r_aload_n 88 hE 4 dX3_partAround_87 rfl rfl rfl ?_
              refine r_iload 90 hE 8 dX3_partAround_88 rfl rfl ?_
              refine r_callV 93 hE [0] [] [(wRules g ru kd fi se sg le de nx he ro rc re rr)] [] 0 3 ok3 [] (c_X3_secondOf (by omega) (by omega)) dX3_partAround_90 rfl rfl wd_862 wd_706 wd_707 wd_9 wd_708 ne_X3 np_X3_secondOf (Nat.le_of_ble_eq_true rfl)  (by decide) (by decide) rfl (Nat.le_of_ble_eq_true rfl) rfl rfl rfl rfl (by decide) rfl (fun v1 f1 hp => ?_)
              obtain ⟨rfl, rfl⟩ := hp
              show G g E _ _ _ [(wRules g ru kd fi se sg le de nx he ro rc re rr)] 93 [(5, .int (iI (q - (le (fi x))))), (9, .int (iI (le (fi x)))), (8, .int (iI (fi x))), (7, .int (iI (kd x))), (0, .ref (ru 0)), (1, .int (iI t)), (2, .int (iI p)), (3, .int (iI i)), (4, .int (iI x)), (6, .int (iI k))] [.int (iI (se x))]
              refine r_istore 95 hE [(4, .int (iI (se x))), (5, .int (iI (q - (le (fi x))))), (9, .int (iI (le (fi x)))), (8, .int (iI (fi x))), (7, .int (iI (kd x))), (0, .ref (ru 0)), (1, .int (iI t)), (2, .int (iI p)), (3, .int (iI i)), (6, .int (iI k))] dX3_partAround_93 rfl (by decide) rfl ?_
              refine G.to (fs' := [(wRules g ru kd fi se sg le de nx he ro rc re rr)]) (lv' := [(0, .ref (ru 0)), (1, .int (iI t)), (2, .int (iI p)), (3, .int (iI i)), (4, .int (iI (se x))), (5, .int (iI (q - (le (fi x))))), (6, .int (iI k))]) [0] [5, 6, 7, 8, 0, 1, 9] rfl rfl rfl ?_
              exact cut95 (se x) (q - (le (fi x))) (by omega) (by omega) (by first | exact hvr | exact hvp) (by omega)
            · skip
              have hvp : arN i.toNat (R t) p = arN (i - (k + 1)).toNat (R (fi x)) q := by rw [hv, hPair.1, arN_pair, if_pos (by rw [← hle]; omega)]
              refine r_iload 75 hE 1 dX3_partAround_73 rfl rfl ?_
              refine r_istore 77 hE [(4, .int (iI (fi x))), (9, .int (iI (le (fi x)))), (8, .int (iI (fi x))), (7, .int (iI (kd x))), (0, .ref (ru 0)), (1, .int (iI t)), (2, .int (iI p)), (3, .int (iI i)), (5, .int (iI q)), (6, .int (iI k))] dX3_partAround_75 rfl (by decide) rfl ?_
              refine r_goto 95 hE dX3_partAround_77 (by decide) ?_
              refine G.to (fs' := [(wRules g ru kd fi se sg le de nx he ro rc re rr)]) (lv' := [(0, .ref (ru 0)), (1, .int (iI t)), (2, .int (iI p)), (3, .int (iI i)), (4, .int (iI (fi x))), (5, .int (iI q)), (6, .int (iI k))]) [0] [4, 5, 6, 7, 0, 8, 9] rfl rfl rfl ?_
              exact cut95 (fi x) q (by omega) (by omega) (by first | exact hvr | exact hvp) (by omega)
          · skip
            have hRun := hxr.run (by omega) (by omega)
            have hmod1 := Int.emod_nonneg q (show le (fi x) ≠ 0 by omega)
            have hmod2 := Int.emod_lt_of_pos q (show 0 < le (fi x) by omega)
            have hvr : arN i.toNat (R t) p = arN (i - (k + 1)).toNat (R (fi x)) (q % le (fi x)) := by rw [hv, hRun.1, arN_run, hle]
            refine r_iload 54 hE 8 dX3_partAround_52 rfl rfl ?_
            refine r_iload 56 hE 0 dX3_partAround_54 rfl rfl ?_
            refine r_irem 57 hE dX3_partAround_56 rfl (by omega) ?_
            refine r_istore 59 hE [(5, .int (iI (q % (le (fi x))))), (9, .int (iI (le (fi x)))), (8, .int (iI (fi x))), (7, .int (iI (kd x))), (0, .ref (ru 0)), (1, .int (iI t)), (2, .int (iI p)), (3, .int (iI i)), (4, .int (iI x)), (6, .int (iI k))] dX3_partAround_57 rfl (by decide) rfl ?_
            refine r_iload 61 hE 2 dX3_partAround_59 rfl rfl ?_
            refine r_istore 63 hE [(4, .int (iI (fi x))), (5, .int (iI (q % (le (fi x))))), (9, .int (iI (le (fi x)))), (8, .int (iI (fi x))), (7, .int (iI (kd x))), (0, .ref (ru 0)), (1, .int (iI t)), (2, .int (iI p)), (3, .int (iI i)), (6, .int (iI k))] dX3_partAround_61 rfl (by decide) rfl ?_
            refine r_goto 95 hE dX3_partAround_63 (by decide) ?_
            refine G.to (fs' := [(wRules g ru kd fi se sg le de nx he ro rc re rr)]) (lv' := [(0, .ref (ru 0)), (1, .int (iI t)), (2, .int (iI p)), (3, .int (iI i)), (4, .int (iI (fi x))), (5, .int (iI (q % (le (fi x))))), (6, .int (iI k))]) [0] [5, 6, 7, 8, 0, 1, 9] rfl rfl rfl ?_
            exact cut95 (fi x) (q % (le (fi x))) (by omega) (by omega) (by first | exact hvr | exact hvp) (by omega)
        · skip
          refine r_iconst 29 hE dX3_partAround_28 rfl ?_
          refine r_ireturn hE hR [(wRules g ru kd fi se sg le de nx he ro rc re rr)] dX3_partAround_29 (Nat.le_of_ble_eq_true rfl) (Nat.le_of_ble_eq_true rfl) rfl ?_
          exact ⟨-1, rfl, rfl, Or.inl ⟨rfl, by rw [hv, (hxr.let c25).1, arN_let]⟩⟩
  refine r_iload_n 1 hE 1 dX3_partAround_0 rfl rfl rfl ?_
  refine r_istore 3 hE [(4, .int (iI t)), (0, .ref (ru 0)), (1, .int (iI t)), (2, .int (iI p)), (3, .int (iI i))] dX3_partAround_1 rfl (by decide) rfl ?_
  refine r_iload_n 4 hE 3 dX3_partAround_3 rfl rfl rfl ?_
  refine r_istore 6 hE [(5, .int (iI p)), (4, .int (iI t)), (0, .ref (ru 0)), (1, .int (iI t)), (2, .int (iI p)), (3, .int (iI i))] dX3_partAround_4 rfl (by decide) rfl ?_
  refine r_iconst 7 hE dX3_partAround_6 rfl ?_
  refine r_istore 9 hE [(6, .int (iI 0)), (5, .int (iI p)), (4, .int (iI t)), (0, .ref (ru 0)), (1, .int (iI t)), (2, .int (iI p)), (3, .int (iI i))] dX3_partAround_7 rfl (by decide) rfl ?_
  refine G.to (fs' := [(wRules g ru kd fi se sg le de nx he ro rc re rr)]) (lv' := [(0, .ref (ru 0)), (1, .int (iI t)), (2, .int (iI p)), (3, .int (iI i)), (4, .int (iI t)), (5, .int (iI p)), (6, .int (iI 0))]) [0] [3, 4, 5, 6, 2, 1, 0] rfl rfl rfl ?_
  exact cut9 _ t p 0 (by omega) (by omega) (by omega) (by first | exact hv2 | (rw [Int.sub_zero])) (Nat.lt_succ_self _)
