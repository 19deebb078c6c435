set_option maxHeartbeats 4000000 in
set_option maxRecDepth 100000 in
theorem c_X6_cut {g : Gm} {k : Nat → Nat} {tpa : Nat} {kk kp kn : Int → Int} {sz kc fg ps : Int} {tf : Int → Int} {m : Int} (hm : 0 ≤ m ∧ m ≤ 900) (hTB : BR tf) : Ct g 7 0 0 yX6_cut cX6_cut 4 none [.ref (k 0), .int (iI m)] [(wTok g k tpa kk kp kn sz kc fg ps), (wBytes g tpa 900 tf)] (fun v_ w_ => ∃ kk9 : Int → Int, ∃ kp9 : Int → Int, ∃ kn9 : Int → Int, ∃ kc9 : Int, v_ = none ∧ w_ = [(wTok g k tpa kk9 kp9 kn9 m kc9 0 (-1)), (wBytes g tpa 900 tf)] ∧ (1 ≤ kc9 ∧ kc9 ≤ 901) ∧ (TkArr tf m kk9 kp9 kn9 kc9) ∧ (tkK tf m (kc9 - 1).toNat = 0) ∧ (∀ k : Nat, (k : Int) < kc9 - 1 → tkK tf m k ≠ 0)) := by
  refine Ct.of (by decide) (Nat.le_of_ble_eq_true rfl) (lv := [(0, .ref (k 0)), (1, .int (iI m))]) rfl ?_
  intro E hE hR hnm
  have cut32 : ∀ (N : Nat) (kk9 : Int → Int) (kp9 : Int → Int) (kn9 : Int → Int) (kc9 : Int) (i : Int), (0 ≤ i ∧ i ≤ m + 1) → (0 ≤ kc9 ∧ kc9 ≤ i ∧ kc9 ≤ m) → (TkArr tf m kk9 kp9 kn9 kc9) → (skp tf m (sq tf m kc9.toNat) = skp tf m i) → (∀ k : Nat, (k : Int) < kc9 → tkK tf m k ≠ 0) → (m + 1 - i).toNat < N → G g E 4 0 0 [(wTok g k tpa kk9 kp9 kn9 m kc9 0 (-1)), (wBytes g tpa 900 tf)] 32 [(0, .ref (k 0)), (1, .int (iI m)), (2, .int (iI i))] [] := by
    intro N
    induction N with
    | zero => intro kk9 kp9 kn9 kc9 i _ _ _ _ _ hN; exact absurd hN (Nat.not_lt_zero _)
    | succ N ih32 =>
      intro kk9 kp9 kn9 kc9 i hi hk ha hs hn hN
      refine r_iload_n 33 hE 2 dX6_cut_32 rfl rfl rfl ?_
      refine r_aload_n 34 hE 0 dX6_cut_33 rfl rfl rfl ?_
      refine r_get 37 hE 0 0 ok6 4 dX6_cut_34 rfl wd_45 rfl rfl (by decide) rfl ?_
      refine r_icmp_ge 40 80 hE dX6_cut_37 rfl (by decide) (by omega) (fun c37 => ?_) (fun c37 => ?_)
      · skip
        have hst : skp tf m i = i := bl_stop (Or.inl (by omega))
        rw [hst] at hs
        have hth := tk_end hs (by omega)
        refine r_aload_n 81 hE 0 dX6_cut_80 rfl rfl rfl ?_
        refine r_iconst 82 hE dX6_cut_81 rfl ?_
        refine r_aload_n 83 hE 0 dX6_cut_82 rfl rfl rfl ?_
        refine r_get 86 hE 0 0 ok6 4 dX6_cut_83 rfl wd_45 rfl rfl (by decide) rfl ?_
        refine r_iconst 87 hE dX6_cut_86 rfl ?_
        refine r_callV 90 hE [0] [1] [(wTok g k tpa kk9 kp9 kn9 m kc9 0 (-1))] [(wBytes g tpa 900 tf)] 0 6 ok6 [] (c_X6_add (by omega)) dX6_cut_87 rfl rfl wd_436 wd_438 ws_6 wd_3 wd_439 ne_X6 np_X6_add (Nat.le_of_ble_eq_true rfl)  (by decide) (by decide) rfl (Nat.le_of_ble_eq_true rfl) rfl rfl rfl rfl (by decide) rfl (fun v1 f1 hp => ?_)
        obtain ⟨rfl, rfl⟩ := hp
        show G g E _ _ _ [(wTok g k tpa (up kk9 kc9 0) (up kp9 kc9 m) (up kn9 kc9 0) m (kc9 + 1) 0 (-1)), (wBytes g tpa 900 tf)] 90 [(0, .ref (k 0)), (1, .int (iI m)), (2, .int (iI i))] []
        refine r_return hE hR [(wTok g k tpa (up kk9 kc9 0) (up kp9 kc9 m) (up kn9 kc9 0) m (kc9 + 1) 0 (-1)), (wBytes g tpa 900 tf)] dX6_cut_90 (Nat.le_of_ble_eq_true rfl) (Nat.le_of_ble_eq_true rfl) rfl ?_
        exact ⟨_, _, _, _, rfl, rfl, by omega, ha.push hk.1 hth.1 hth.2.1 hth.2.2, by rw [show kc9 + 1 - 1 = kc9 by omega]; exact hth.1.symm, fun k z => hn k (by omega)⟩
      · skip
        refine r_aload_n 41 hE 0 dX6_cut_40 rfl rfl rfl ?_
        refine r_iload_n 42 hE 2 dX6_cut_41 rfl rfl rfl ?_
        refine r_callV 45 hE [0, 1] [] [(wTok g k tpa kk9 kp9 kn9 m kc9 0 (-1)), (wBytes g tpa 900 tf)] [] 0 6 ok6 [] (c_X6_byteAt (by omega) (by omega)) dX6_cut_42 rfl rfl wd_363 wd_364 wd_365 wd_3 wd_366 ne_X6 np_X6_byteAt (Nat.le_of_ble_eq_true rfl)  (by decide) (by decide) rfl (Nat.le_of_ble_eq_true rfl) rfl rfl rfl rfl (by decide) rfl (fun v1 f1 hp => ?_)
        obtain ⟨rfl, rfl⟩ := hp
        show G g E _ _ _ [(wTok g k tpa kk9 kp9 kn9 m kc9 0 (-1)), (wBytes g tpa 900 tf)] 45 [(0, .ref (k 0)), (1, .int (iI m)), (2, .int (iI i))] [.int (iI (bA tf m i))]
        rw [show (bA tf m i : Int) = tf i from bA_in (by omega)]
        refine r_istore_n 46 hE [(3, .int (iI (tf i))), (0, .ref (k 0)), (1, .int (iI m)), (2, .int (iI i))] dX6_cut_45 rfl rfl (by decide) rfl ?_
        refine r_iload_n 47 hE 0 dX6_cut_46 rfl rfl rfl ?_
        refine r_bipush 49 hE dX6_cut_47 rfl (by decide) ?_
        refine r_icmp_eq 52 58 hE dX6_cut_49 rfl (by decide) (by have := hTB i; omega) (fun c49 => ?_) (fun c49 => ?_)
        · skip
          have hs2 := hs.trans (bl_step (by omega) (Or.inl c49))
          refine r_iinc 61 hE 3 (i + 1) [(2, .int (iI (i + 1))), (3, .int (iI (tf i))), (0, .ref (k 0)), (1, .int (iI m))] dX6_cut_58 rfl rfl rfl (by decide) rfl ?_
          refine r_goto 77 hE dX6_cut_61 (by decide) ?_
          refine r_goto 32 hE dX6_cut_77 (by decide) ?_
          refine G.to (fs' := [(wTok g k tpa kk9 kp9 kn9 m kc9 0 (-1)), (wBytes g tpa 900 tf)]) (lv' := [(0, .ref (k 0)), (1, .int (iI m)), (2, .int (iI (i + 1)))]) [0, 1] [2, 3, 0] rfl rfl rfl ?_
          exact ih32 kk9 kp9 kn9 kc9 (i + 1) (by first | exact hi2 | omega) (by first | exact hk2 | omega) (by first | exact ha2 | exact ha | exact (fun k z => absurd z (by omega))) (by first | exact hs2 | exact hs3 | rfl) (by first | exact hn2 | exact hn | exact (fun k z => absurd z (by omega))) (by omega)
        · skip
          refine r_iload_n 53 hE 0 dX6_cut_52 rfl rfl rfl ?_
          refine r_bipush 55 hE dX6_cut_53 rfl (by decide) ?_
          refine r_icmp_ne 58 64 hE dX6_cut_55 rfl (by decide) (by have := hTB i; omega) (fun c55 => ?_) (fun c55 => ?_)
          · skip
            have hst : skp tf m i = i := bl_stop (Or.inr (by omega))
            rw [hst] at hs
            have hth := tk_here hs (by omega)
            have ha2 := ha.push hk.1 hth.1 hth.2.1 hth.2.2
            have hs3 : skp tf m (sq tf m (kc9 + 1).toNat) = skp tf m (tE tf m i) := by rw [sq_next hk.1 hs]
            have hgt := tE_gt (B := tf) (n := m) (b := i) (by omega)
            have hle := (tE_le (B := tf) (n := m) (b := i) (by omega)).1
            have hi2 : 0 ≤ tE tf m i ∧ tE tf m i ≤ m + 1 := by omega
            have hk2 : 0 ≤ kc9 + 1 ∧ kc9 + 1 ≤ tE tf m i ∧ kc9 + 1 ≤ m := by omega
            have hn2 : ∀ k : Nat, (k : Int) < kc9 + 1 → tkK tf m k ≠ 0 := fun k z => by
              by_cases e : (k : Int) = kc9
              · have h9 : kc9.toNat = k := by omega
                rw [h9] at hth
                rw [← hth.1]; exact fun q => by have := tK_0.mp q; omega
              · exact hn k (by omega)
            refine r_iload_n 65 hE 3 dX6_cut_64 rfl rfl rfl ?_
            refine r_iconst 66 hE dX6_cut_65 rfl ?_
            refine r_iadd 67 hE (i + 1) dX6_cut_66 rfl rfl ?_
            refine r_aload_n 68 hE 1 dX6_cut_67 rfl rfl rfl ?_
            refine r_iload_n 69 hE 3 dX6_cut_68 rfl rfl rfl ?_
            refine r_iload_n 70 hE 0 dX6_cut_69 rfl rfl rfl ?_
            refine r_callV 73 hE [0, 1] [] [(wTok g k tpa kk9 kp9 kn9 m kc9 0 (-1)), (wBytes g tpa 900 tf)] [] 0 6 ok6 [.int (iI (i + 1))] (c_X6_cutToken (by omega) (by omega) (hTB) (by omega)) dX6_cut_70 rfl rfl wd_367 wd_369 ws_2 wd_3 wd_370 ne_X6 np_X6_cutToken (Nat.le_of_ble_eq_true rfl)  (by decide) (by decide) rfl (Nat.le_of_ble_eq_true rfl) rfl rfl rfl rfl (by decide) rfl (fun v1 f1 hp => ?_)
            obtain ⟨rfl, rfl⟩ := hp
            show G g E _ _ _ [(wTok g k tpa (up kk9 kc9 (tK tf m i)) (up kp9 kc9 i) (up kn9 kc9 (tV tf m i)) m (kc9 + 1) 0 (-1)), (wBytes g tpa 900 tf)] 73 [(3, .int (iI (tf i))), (0, .ref (k 0)), (1, .int (iI m)), (2, .int (iI i))] [.int (iI (tE tf m i)), .int (iI (i + 1))]
            refine r_max 76 hE dX6_cut_73 rfl wd_362 wd_110 wd_6 wd_111 (Nat.le_of_ble_eq_true rfl) (by decide) (by decide) (Nat.le_of_ble_eq_true rfl) (by have h1 := tE_gt (B := tf) (n := m) (b := i) (by omega); have h2 := (tE_le (B := tf) (n := m) (b := i) (by omega)).1; omega) ?_
            rw [show (max (i + 1) (tE tf m i) : Int) = tE tf m i from by have := tE_gt (B := tf) (n := m) (b := i) (by omega); omega]
            refine r_istore_n 77 hE [(2, .int (iI (tE tf m i))), (3, .int (iI (tf i))), (0, .ref (k 0)), (1, .int (iI m))] dX6_cut_76 rfl rfl (by decide) rfl ?_
            refine r_goto 32 hE dX6_cut_77 (by decide) ?_
            refine G.to (fs' := [(wTok g k tpa (up kk9 kc9 (tK tf m i)) (up kp9 kc9 i) (up kn9 kc9 (tV tf m i)) m (kc9 + 1) 0 (-1)), (wBytes g tpa 900 tf)]) (lv' := [(0, .ref (k 0)), (1, .int (iI m)), (2, .int (iI (tE tf m i)))]) [0, 1] [2, 3, 0] rfl rfl rfl ?_
            exact ih32 (up kk9 kc9 (tK tf m i)) (up kp9 kc9 i) (up kn9 kc9 (tV tf m i)) (kc9 + 1) (tE tf m i) (by first | exact hi2 | omega) (by first | exact hk2 | omega) (by first | exact ha2 | exact ha | exact (fun k z => absurd z (by omega))) (by first | exact hs2 | exact hs3 | rfl) (by first | exact hn2 | exact hn | exact (fun k z => absurd z (by omega))) (by omega)
          · skip
            have hs2 := hs.trans (bl_step (by omega) (Or.inr c55))
            refine r_iinc 61 hE 3 (i + 1) [(2, .int (iI (i + 1))), (3, .int (iI (tf i))), (0, .ref (k 0)), (1, .int (iI m))] dX6_cut_58 rfl rfl rfl (by decide) rfl ?_
            refine r_goto 77 hE dX6_cut_61 (by decide) ?_
            refine r_goto 32 hE dX6_cut_77 (by decide) ?_
            refine G.to (fs' := [(wTok g k tpa kk9 kp9 kn9 m kc9 0 (-1)), (wBytes g tpa 900 tf)]) (lv' := [(0, .ref (k 0)), (1, .int (iI m)), (2, .int (iI (i + 1)))]) [0, 1] [2, 3, 0] rfl rfl rfl ?_
            exact ih32 kk9 kp9 kn9 kc9 (i + 1) (by first | exact hi2 | omega) (by first | exact hk2 | omega) (by first | exact ha2 | exact ha | exact (fun k z => absurd z (by omega))) (by first | exact hs2 | exact hs3 | rfl) (by first | exact hn2 | exact hn | exact (fun k z => absurd z (by omega))) (by omega)
  refine r_aload_n 1 hE 0 dX6_cut_0 rfl rfl rfl ?_
  refine r_iconst 2 hE dX6_cut_1 rfl ?_
  refine r_iload_n 3 hE 1 dX6_cut_2 rfl rfl rfl ?_
  refine r_sipush 6 hE dX6_cut_3 rfl (by decide) ?_
  refine r_min 9 hE dX6_cut_6 rfl wd_359 wd_360 wd_6 wd_361 (Nat.le_of_ble_eq_true rfl) (by decide) (by decide) (Nat.le_of_ble_eq_true rfl) (by omega) ?_
  refine r_max 12 hE dX6_cut_9 rfl wd_362 wd_110 wd_6 wd_111 (Nat.le_of_ble_eq_true rfl) (by decide) (by decide) (Nat.le_of_ble_eq_true rfl) (by omega) ?_
  rw [show (max 0 (min m 900) : Int) = m from by omega]
  refine r_put 15 hE 0 0 ok6 4 (wTok g k tpa kk kp kn m kc fg ps) [(wTok g k tpa kk kp kn m kc fg ps), (wBytes g tpa 900 tf)] dX6_cut_12 rfl wd_45 rfl rfl (by decide) rfl rfl rfl (Nat.le_of_ble_eq_true rfl) rfl rfl ?_
  refine r_aload_n 16 hE 0 dX6_cut_15 rfl rfl rfl ?_
  refine r_iconst 17 hE dX6_cut_16 rfl ?_
  refine r_put 20 hE 0 0 ok6 5 (wTok g k tpa kk kp kn m 0 fg ps) [(wTok g k tpa kk kp kn m 0 fg ps), (wBytes g tpa 900 tf)] dX6_cut_17 rfl wd_46 rfl rfl (by decide) rfl rfl rfl (Nat.le_of_ble_eq_true rfl) rfl rfl ?_
  refine r_aload_n 21 hE 0 dX6_cut_20 rfl rfl rfl ?_
  refine r_iconst 22 hE dX6_cut_21 rfl ?_
  refine r_put 25 hE 0 0 ok6 6 (wTok g k tpa kk kp kn m 0 0 ps) [(wTok g k tpa kk kp kn m 0 0 ps), (wBytes g tpa 900 tf)] dX6_cut_22 rfl wd_47 rfl rfl (by decide) rfl rfl rfl (Nat.le_of_ble_eq_true rfl) rfl rfl ?_
  refine r_aload_n 26 hE 0 dX6_cut_25 rfl rfl rfl ?_
  refine r_iconst 27 hE dX6_cut_26 rfl ?_
  refine r_put 30 hE 0 0 ok6 7 (wTok g k tpa kk kp kn m 0 0 (-1)) [(wTok g k tpa kk kp kn m 0 0 (-1)), (wBytes g tpa 900 tf)] dX6_cut_27 rfl wd_48 rfl rfl (by decide) rfl rfl rfl (Nat.le_of_ble_eq_true rfl) rfl rfl ?_
  refine r_iconst 31 hE dX6_cut_30 rfl ?_
  refine r_istore_n 32 hE [(2, .int (iI 0)), (0, .ref (k 0)), (1, .int (iI m))] dX6_cut_31 rfl rfl (by decide) rfl ?_
  refine G.to (fs' := [(wTok g k tpa kk kp kn m 0 0 (-1)), (wBytes g tpa 900 tf)]) (lv' := [(0, .ref (k 0)), (1, .int (iI m)), (2, .int (iI 0))]) [0, 1] [1, 2, 0] rfl rfl rfl ?_
  exact cut32 _ kk kp kn 0 0 (by first | exact hi2 | omega) (by first | exact hk2 | omega) (by first | exact ha2 | exact ha | exact (fun k z => absurd z (by omega))) (by first | exact hs2 | exact hs3 | rfl) (by first | exact hn2 | exact hn | exact (fun k z => absurd z (by omega))) (Nat.lt_succ_self _)
