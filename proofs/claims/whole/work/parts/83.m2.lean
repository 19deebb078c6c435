set_option maxHeartbeats 4000000 in
set_option maxRecDepth 100000 in
theorem c_X9_letter {g : Gm} {mo : Nat → Nat} {mst mac mmk mr mrd mrm mcm mtp msz mtk mbg men mls mvl mft mfp mfk mdp mto : Int} {al : Int → Int} {t p : Int} (hM : MTx al) (hr_t : -2147483648 ≤ t ∧ t ≤ 2147483647) (hr_p : -2147483648 ≤ p ∧ p ≤ 2147483647) : Ct g 2 0 0 yX9_letter cX9_letter 3 (some .int) [.ref (mo 0), .int (iI t), .int (iI p)] [(wMo g mo mst mac mmk mr mrd mrm mcm mtp msz mtk mbg men mls mvl mft mfp mfk mdp mto), (wMAll g mo al)] (fun v_ w_ => ∃ r9 : Int, ∃ s9 : Int, v_ = some (.int (iI r9)) ∧ w_ = [(wMo g mo s9 mac mmk mr mrd mrm mcm mtp msz mtk mbg men mls mvl mft mfp mfk mdp mto), (wMAll g mo al)] ∧ (QLetter (mF al) (mN al) (al 0) t p r9 s9)) := by
  refine Ct.of (by decide) (Nat.le_of_ble_eq_true rfl) (lv := [(0, .ref (mo 0)), (1, .int (iI t)), (2, .int (iI p))]) rfl ?_
  intro E hE hR hnm
  have hc := hM.1
  refine r_iload_n 1 hE 2 dX9_letter_0 rfl rfl rfl ?_
  refine r_if_ge 4 10 hE dX9_letter_1 rfl (by decide) (by omega) (fun c1 => ?_) (fun c1 => ?_)
  · skip
    refine r_aload_n 11 hE 0 dX9_letter_10 rfl rfl rfl ?_
    refine r_iload_n 12 hE 1 dX9_letter_11 rfl rfl rfl ?_
    refine r_callV 15 hE [0, 1] [] [(wMo g mo mst mac mmk mr mrd mrm mcm mtp msz mtk mbg men mls mvl mft mfp mfk mdp mto), (wMAll g mo al)] [] 0 9 ok9 [] (c_X9_isText (by omega) (by omega)) dX9_letter_12 rfl rfl wd_1346 wd_1348 ws_80 wd_12 wd_1349 ne_X9 np_X9_isText (Nat.le_of_ble_eq_true rfl)  (by decide) (by decide) rfl (Nat.le_of_ble_eq_true rfl) rfl rfl rfl rfl (by decide) rfl (fun v1 f1 hp => ?_)
    obtain ⟨rfl, rfl⟩ := hp
    show G g E _ _ _ [(wMo g mo mst mac mmk mr mrd mrm mcm mtp msz mtk mbg men mls mvl mft mfp mfk mdp mto), (wMAll g mo al)] 15 [(0, .ref (mo 0)), (1, .int (iI t)), (2, .int (iI p))] [.int (iI (bI (0 ≤ t ∧ t < al 0)))]
    refine r_if_ne 18 24 hE dX9_letter_15 rfl (by decide) (bI_rg _) (fun c15 => ?_) (fun c15 => ?_)
    · skip
      have c15 := bI1 c15
      have hl_t := hM.2 t c15.1 c15.2
      refine r_iload_n 25 hE 2 dX9_letter_24 rfl rfl rfl ?_
      refine r_aload_n 26 hE 0 dX9_letter_25 rfl rfl rfl ?_
      refine r_iload_n 27 hE 1 dX9_letter_26 rfl rfl rfl ?_
      refine r_callV 30 hE [0, 1] [] [(wMo g mo mst mac mmk mr mrd mrm mcm mtp msz mtk mbg men mls mvl mft mfp mfk mdp mto), (wMAll g mo al)] [] 0 9 ok9 [.int (iI p)] (c_X9_sizeOf (by omega)) dX9_letter_27 rfl rfl wd_1273 wd_1275 ws_65 wd_12 wd_1276 ne_X9 np_X9_sizeOf (Nat.le_of_ble_eq_true rfl)  (by decide) (by decide) rfl (Nat.le_of_ble_eq_true rfl) rfl rfl rfl rfl (by decide) rfl (fun v1 f1 hp => ?_)
      obtain ⟨rfl, rfl⟩ := hp
      show G g E _ _ _ [(wMo g mo mst mac mmk mr mrd mrm mcm mtp msz mtk mbg men mls mvl mft mfp mfk mdp mto), (wMAll g mo al)] 30 [(0, .ref (mo 0)), (1, .int (iI t)), (2, .int (iI p))] [.int (iI (mN al t)), .int (iI p)]
      refine r_icmp_ge 33 46 hE dX9_letter_30 rfl (by decide) (by omega) (fun c30 => ?_) (fun c30 => ?_)
      · skip
        refine r_aload_n 47 hE 0 dX9_letter_46 rfl rfl rfl ?_
        refine r_iconst 48 hE dX9_letter_47 rfl ?_
        refine r_callV 51 hE [0] [1] [(wMo g mo mst mac mmk mr mrd mrm mcm mtp msz mtk mbg men mls mvl mft mfp mfk mdp mto)] [(wMAll g mo al)] 0 9 ok9 [] (c_X9_refuse) dX9_letter_48 rfl rfl wd_1186 wd_1188 ws_47 wd_12 wd_1189 ne_X9 np_X9_refuse (Nat.le_of_ble_eq_true rfl)  (by decide) (by decide) rfl (Nat.le_of_ble_eq_true rfl) rfl rfl rfl rfl (by decide) rfl (fun v1 f1 hp => ?_)
        obtain ⟨rfl, rfl⟩ := hp
        show G g E _ _ _ [(wMo g mo 5 mac mmk mr mrd mrm mcm mtp msz mtk mbg men mls mvl mft mfp mfk mdp mto), (wMAll g mo al)] 51 [(0, .ref (mo 0)), (1, .int (iI t)), (2, .int (iI p))] [.int (iI (-1))]
        refine r_ireturn hE hR [(wMo g mo 5 mac mmk mr mrd mrm mcm mtp msz mtk mbg men mls mvl mft mfp mfk mdp mto), (wMAll g mo al)] dX9_letter_51 (Nat.le_of_ble_eq_true rfl) (Nat.le_of_ble_eq_true rfl) rfl ?_
        exact ⟨_, _, rfl, rfl, (by unfold wpF; (repeat (first | rw [if_pos (by omega)] | rw [if_neg (by omega)]))), by first | exact Or.inr ⟨by decide, rfl⟩ | exact Or.inl ⟨rfl, rfl⟩⟩
      · skip
        refine r_aload_n 34 hE 0 dX9_letter_33 rfl rfl rfl ?_
        refine r_aload_n 35 hE 0 dX9_letter_34 rfl rfl rfl ?_
        refine r_iload_n 36 hE 1 dX9_letter_35 rfl rfl rfl ?_
        refine r_iload_n 37 hE 2 dX9_letter_36 rfl rfl rfl ?_
        refine r_callV 40 hE [0, 1] [] [(wMo g mo mst mac mmk mr mrd mrm mcm mtp msz mtk mbg men mls mvl mft mfp mfk mdp mto), (wMAll g mo al)] [] 0 9 ok9 [.ref (mo 0)] (c_X9_at (by omega)) dX9_letter_37 rfl rfl wd_1277 wd_1279 ws_66 wd_12 wd_1280 ne_X9 np_X9_at (Nat.le_of_ble_eq_true rfl)  (by decide) (by decide) rfl (Nat.le_of_ble_eq_true rfl) rfl rfl rfl rfl (by decide) rfl (fun v1 f1 hp => ?_)
        obtain ⟨rfl, rfl⟩ := hp
        show G g E _ _ _ [(wMo g mo mst mac mmk mr mrd mrm mcm mtp msz mtk mbg men mls mvl mft mfp mfk mdp mto), (wMAll g mo al)] 40 [(0, .ref (mo 0)), (1, .int (iI t)), (2, .int (iI p))] [.int (iI (mF al t p)), .ref (mo 0)]
        refine r_callV 43 hE [0] [1] [(wMo g mo mst mac mmk mr mrd mrm mcm mtp msz mtk mbg men mls mvl mft mfp mfk mdp mto)] [(wMAll g mo al)] 0 9 ok9 [] (c_X9_gives) dX9_letter_40 rfl rfl wd_1334 wd_1336 ws_79 wd_12 wd_1337 ne_X9 np_X9_gives (Nat.le_of_ble_eq_true rfl)  (by decide) (by decide) rfl (Nat.le_of_ble_eq_true rfl) rfl rfl rfl rfl (by decide) rfl (fun v1 f1 hp => ?_)
        obtain ⟨rfl, rfl⟩ := hp
        show G g E _ _ _ [(wMo g mo 0 mac mmk mr mrd mrm mcm mtp msz mtk mbg men mls mvl mft mfp mfk mdp mto), (wMAll g mo al)] 43 [(0, .ref (mo 0)), (1, .int (iI t)), (2, .int (iI p))] [.int (iI (mF al t p))]
        refine r_goto 51 hE dX9_letter_43 (by decide) ?_
        refine r_ireturn hE hR [(wMo g mo 0 mac mmk mr mrd mrm mcm mtp msz mtk mbg men mls mvl mft mfp mfk mdp mto), (wMAll g mo al)] dX9_letter_51 (Nat.le_of_ble_eq_true rfl) (Nat.le_of_ble_eq_true rfl) rfl ?_
        exact ⟨_, _, rfl, rfl, (by unfold wpF; (repeat (first | rw [if_pos (by omega)] | rw [if_neg (by omega)]))), by first | exact Or.inr ⟨by decide, rfl⟩ | exact Or.inl ⟨rfl, rfl⟩⟩
    · skip
      have c15 := bI0 c15
      refine r_aload_n 19 hE 0 dX9_letter_18 rfl rfl rfl ?_
      refine r_iconst 20 hE dX9_letter_19 rfl ?_
      refine r_callV 23 hE [0] [1] [(wMo g mo mst mac mmk mr mrd mrm mcm mtp msz mtk mbg men mls mvl mft mfp mfk mdp mto)] [(wMAll g mo al)] 0 9 ok9 [] (c_X9_refuse) dX9_letter_20 rfl rfl wd_1186 wd_1188 ws_47 wd_12 wd_1189 ne_X9 np_X9_refuse (Nat.le_of_ble_eq_true rfl)  (by decide) (by decide) rfl (Nat.le_of_ble_eq_true rfl) rfl rfl rfl rfl (by decide) rfl (fun v1 f1 hp => ?_)
      obtain ⟨rfl, rfl⟩ := hp
      show G g E _ _ _ [(wMo g mo 2 mac mmk mr mrd mrm mcm mtp msz mtk mbg men mls mvl mft mfp mfk mdp mto), (wMAll g mo al)] 23 [(0, .ref (mo 0)), (1, .int (iI t)), (2, .int (iI p))] [.int (iI (-1))]
      refine r_ireturn hE hR [(wMo g mo 2 mac mmk mr mrd mrm mcm mtp msz mtk mbg men mls mvl mft mfp mfk mdp mto), (wMAll g mo al)] dX9_letter_23 (Nat.le_of_ble_eq_true rfl) (Nat.le_of_ble_eq_true rfl) rfl ?_
      exact ⟨_, _, rfl, rfl, (by unfold wpF; (repeat (first | rw [if_pos (by omega)] | rw [if_neg (by omega)]))), by first | exact Or.inr ⟨by decide, rfl⟩ | exact Or.inl ⟨rfl, rfl⟩⟩
  · skip
    refine r_aload_n 5 hE 0 dX9_letter_4 rfl rfl rfl ?_
    refine r_iconst 6 hE dX9_letter_5 rfl ?_
    refine r_callV 9 hE [0] [1] [(wMo g mo mst mac mmk mr mrd mrm mcm mtp msz mtk mbg men mls mvl mft mfp mfk mdp mto)] [(wMAll g mo al)] 0 9 ok9 [] (c_X9_refuse) dX9_letter_6 rfl rfl wd_1186 wd_1188 ws_47 wd_12 wd_1189 ne_X9 np_X9_refuse (Nat.le_of_ble_eq_true rfl)  (by decide) (by decide) rfl (Nat.le_of_ble_eq_true rfl) rfl rfl rfl rfl (by decide) rfl (fun v1 f1 hp => ?_)
    obtain ⟨rfl, rfl⟩ := hp
    show G g E _ _ _ [(wMo g mo 1 mac mmk mr mrd mrm mcm mtp msz mtk mbg men mls mvl mft mfp mfk mdp mto), (wMAll g mo al)] 9 [(0, .ref (mo 0)), (1, .int (iI t)), (2, .int (iI p))] [.int (iI (-1))]
    refine r_ireturn hE hR [(wMo g mo 1 mac mmk mr mrd mrm mcm mtp msz mtk mbg men mls mvl mft mfp mfk mdp mto), (wMAll g mo al)] dX9_letter_9 (Nat.le_of_ble_eq_true rfl) (Nat.le_of_ble_eq_true rfl) rfl ?_
    exact ⟨_, _, rfl, rfl, (by unfold wpF; (repeat (first | rw [if_pos (by omega)] | rw [if_neg (by omega)]))), by first | exact Or.inr ⟨by decide, rfl⟩ | exact Or.inl ⟨rfl, rfl⟩⟩
set_option maxHeartbeats 4000000 in
set_option maxRecDepth 100000 in
theorem c_X9_alike {g : Gm} {mo : Nat → Nat} {mst mac mmk mr mrd mrm mcm mtp msz mtk mbg men mls mvl mft mfp mfk mdp mto : Int} {al : Int → Int} {t p u q : Int} (hM : MTx al) (hr_t : -2147483648 ≤ t ∧ t ≤ 2147483647) (hr_p : -2147483648 ≤ p ∧ p ≤ 2147483647) (hr_u : -2147483648 ≤ u ∧ u ≤ 2147483647) (hr_q : -2147483648 ≤ q ∧ q ≤ 2147483647) : Ct g 2 0 0 yX9_alike cX9_alike 5 (some .int) [.ref (mo 0), .int (iI t), .int (iI p), .int (iI u), .int (iI q)] [(wMo g mo mst mac mmk mr mrd mrm mcm mtp msz mtk mbg men mls mvl mft mfp mfk mdp mto), (wMAll g mo al)] (fun v_ w_ => ∃ r9 : Int, ∃ s9 : Int, v_ = some (.int (iI r9)) ∧ w_ = [(wMo g mo s9 mac mmk mr mrd mrm mcm mtp msz mtk mbg men mls mvl mft mfp mfk mdp mto), (wMAll g mo al)] ∧ (QAlike (mF al) (mN al) (al 0) t p u q r9 s9)) := by
  refine Ct.of (by decide) (Nat.le_of_ble_eq_true rfl) (lv := [(0, .ref (mo 0)), (1, .int (iI t)), (2, .int (iI p)), (3, .int (iI u)), (4, .int (iI q))]) rfl ?_
  intro E hE hR hnm
  have hc := hM.1
  refine r_iload_n 1 hE 2 dX9_alike_0 rfl rfl rfl ?_
  refine r_if_lt 4 9 hE dX9_alike_1 rfl (by decide) (by omega) (fun c1 => ?_) (fun c1 => ?_)
  · skip
    refine r_aload_n 10 hE 0 dX9_alike_9 rfl rfl rfl ?_
    refine r_iconst 11 hE dX9_alike_10 rfl ?_
    refine r_callV 14 hE [0] [1] [(wMo g mo mst mac mmk mr mrd mrm mcm mtp msz mtk mbg men mls mvl mft mfp mfk mdp mto)] [(wMAll g mo al)] 0 9 ok9 [] (c_X9_refuse) dX9_alike_11 rfl rfl wd_1186 wd_1188 ws_47 wd_12 wd_1189 ne_X9 np_X9_refuse (Nat.le_of_ble_eq_true rfl)  (by decide) (by decide) rfl (Nat.le_of_ble_eq_true rfl) rfl rfl rfl rfl (by decide) rfl (fun v1 f1 hp => ?_)
    obtain ⟨rfl, rfl⟩ := hp
    show G g E _ _ _ [(wMo g mo 1 mac mmk mr mrd mrm mcm mtp msz mtk mbg men mls mvl mft mfp mfk mdp mto), (wMAll g mo al)] 14 [(0, .ref (mo 0)), (1, .int (iI t)), (2, .int (iI p)), (3, .int (iI u)), (4, .int (iI q))] [.int (iI (-1))]
    refine r_ireturn hE hR [(wMo g mo 1 mac mmk mr mrd mrm mcm mtp msz mtk mbg men mls mvl mft mfp mfk mdp mto), (wMAll g mo al)] dX9_alike_14 (Nat.le_of_ble_eq_true rfl) (Nat.le_of_ble_eq_true rfl) rfl ?_
    exact ⟨_, _, rfl, rfl, lw1 (by omega), Or.inr ⟨by decide, rfl⟩⟩
  · skip
    refine r_iload 6 hE 4 dX9_alike_4 rfl rfl ?_
    refine r_if_ge 9 15 hE dX9_alike_6 rfl (by decide) (by omega) (fun c6 => ?_) (fun c6 => ?_)
    · skip
      refine r_aload_n 16 hE 0 dX9_alike_15 rfl rfl rfl ?_
      refine r_iload_n 17 hE 1 dX9_alike_16 rfl rfl rfl ?_
      refine r_callV 20 hE [0, 1] [] [(wMo g mo mst mac mmk mr mrd mrm mcm mtp msz mtk mbg men mls mvl mft mfp mfk mdp mto), (wMAll g mo al)] [] 0 9 ok9 [] (c_X9_isText (by omega) (by omega)) dX9_alike_17 rfl rfl wd_1346 wd_1348 ws_80 wd_12 wd_1349 ne_X9 np_X9_isText (Nat.le_of_ble_eq_true rfl)  (by decide) (by decide) rfl (Nat.le_of_ble_eq_true rfl) rfl rfl rfl rfl (by decide) rfl (fun v1 f1 hp => ?_)
      obtain ⟨rfl, rfl⟩ := hp
      show G g E _ _ _ [(wMo g mo mst mac mmk mr mrd mrm mcm mtp msz mtk mbg men mls mvl mft mfp mfk mdp mto), (wMAll g mo al)] 20 [(0, .ref (mo 0)), (1, .int (iI t)), (2, .int (iI p)), (3, .int (iI u)), (4, .int (iI q))] [.int (iI (bI (0 ≤ t ∧ t < al 0)))]
      refine r_if_eq 23 31 hE dX9_alike_20 rfl (by decide) (bI_rg _) (fun c20 => ?_) (fun c20 => ?_)
      · skip
        have c20 := bI0 c20
        refine r_aload_n 32 hE 0 dX9_alike_31 rfl rfl rfl ?_
        refine r_iconst 33 hE dX9_alike_32 rfl ?_
        refine r_callV 36 hE [0] [1] [(wMo g mo mst mac mmk mr mrd mrm mcm mtp msz mtk mbg men mls mvl mft mfp mfk mdp mto)] [(wMAll g mo al)] 0 9 ok9 [] (c_X9_refuse) dX9_alike_33 rfl rfl wd_1186 wd_1188 ws_47 wd_12 wd_1189 ne_X9 np_X9_refuse (Nat.le_of_ble_eq_true rfl)  (by decide) (by decide) rfl (Nat.le_of_ble_eq_true rfl) rfl rfl rfl rfl (by decide) rfl (fun v1 f1 hp => ?_)
        obtain ⟨rfl, rfl⟩ := hp
        show G g E _ _ _ [(wMo g mo 2 mac mmk mr mrd mrm mcm mtp msz mtk mbg men mls mvl mft mfp mfk mdp mto), (wMAll g mo al)] 36 [(0, .ref (mo 0)), (1, .int (iI t)), (2, .int (iI p)), (3, .int (iI u)), (4, .int (iI q))] [.int (iI (-1))]
        refine r_ireturn hE hR [(wMo g mo 2 mac mmk mr mrd mrm mcm mtp msz mtk mbg men mls mvl mft mfp mfk mdp mto), (wMAll g mo al)] dX9_alike_36 (Nat.le_of_ble_eq_true rfl) (Nat.le_of_ble_eq_true rfl) rfl ?_
        exact ⟨_, _, rfl, rfl, lw2 (by omega) (by omega) (by unfold HasT; omega), Or.inr ⟨by decide, rfl⟩⟩
      · skip
        have c20 := bI1 c20
        have hl_t := hM.2 t c20.1 c20.2
        refine r_aload_n 24 hE 0 dX9_alike_23 rfl rfl rfl ?_
        refine r_iload_n 25 hE 3 dX9_alike_24 rfl rfl rfl ?_
        refine r_callV 28 hE [0, 1] [] [(wMo g mo mst mac mmk mr mrd mrm mcm mtp msz mtk mbg men mls mvl mft mfp mfk mdp mto), (wMAll g mo al)] [] 0 9 ok9 [] (c_X9_isText (by omega) (by omega)) dX9_alike_25 rfl rfl wd_1346 wd_1348 ws_80 wd_12 wd_1349 ne_X9 np_X9_isText (Nat.le_of_ble_eq_true rfl)  (by decide) (by decide) rfl (Nat.le_of_ble_eq_true rfl) rfl rfl rfl rfl (by decide) rfl (fun v1 f1 hp => ?_)
        obtain ⟨rfl, rfl⟩ := hp
        show G g E _ _ _ [(wMo g mo mst mac mmk mr mrd mrm mcm mtp msz mtk mbg men mls mvl mft mfp mfk mdp mto), (wMAll g mo al)] 28 [(0, .ref (mo 0)), (1, .int (iI t)), (2, .int (iI p)), (3, .int (iI u)), (4, .int (iI q))] [.int (iI (bI (0 ≤ u ∧ u < al 0)))]
        refine r_if_ne 31 37 hE dX9_alike_28 rfl (by decide) (bI_rg _) (fun c28 => ?_) (fun c28 => ?_)
        · skip
          have c28 := bI1 c28
          have hl_u := hM.2 u c28.1 c28.2
          refine r_iload_n 38 hE 2 dX9_alike_37 rfl rfl rfl ?_
          refine r_aload_n 39 hE 0 dX9_alike_38 rfl rfl rfl ?_
          refine r_iload_n 40 hE 1 dX9_alike_39 rfl rfl rfl ?_
          refine r_callV 43 hE [0, 1] [] [(wMo g mo mst mac mmk mr mrd mrm mcm mtp msz mtk mbg men mls mvl mft mfp mfk mdp mto), (wMAll g mo al)] [] 0 9 ok9 [.int (iI p)] (c_X9_sizeOf (by omega)) dX9_alike_40 rfl rfl wd_1273 wd_1275 ws_65 wd_12 wd_1276 ne_X9 np_X9_sizeOf (Nat.le_of_ble_eq_true rfl)  (by decide) (by decide) rfl (Nat.le_of_ble_eq_true rfl) rfl rfl rfl rfl (by decide) rfl (fun v1 f1 hp => ?_)
          obtain ⟨rfl, rfl⟩ := hp
          show G g E _ _ _ [(wMo g mo mst mac mmk mr mrd mrm mcm mtp msz mtk mbg men mls mvl mft mfp mfk mdp mto), (wMAll g mo al)] 43 [(0, .ref (mo 0)), (1, .int (iI t)), (2, .int (iI p)), (3, .int (iI u)), (4, .int (iI q))] [.int (iI (mN al t)), .int (iI p)]
          refine r_icmp_gt 46 56 hE dX9_alike_43 rfl (by decide) (by omega) (fun c43 => ?_) (fun c43 => ?_)
          · skip
            refine r_aload_n 57 hE 0 dX9_alike_56 rfl rfl rfl ?_
            refine r_iconst 58 hE dX9_alike_57 rfl ?_
            refine r_callV 61 hE [0] [1] [(wMo g mo mst mac mmk mr mrd mrm mcm mtp msz mtk mbg men mls mvl mft mfp mfk mdp mto)] [(wMAll g mo al)] 0 9 ok9 [] (c_X9_refuse) dX9_alike_58 rfl rfl wd_1186 wd_1188 ws_47 wd_12 wd_1189 ne_X9 np_X9_refuse (Nat.le_of_ble_eq_true rfl)  (by decide) (by decide) rfl (Nat.le_of_ble_eq_true rfl) rfl rfl rfl rfl (by decide) rfl (fun v1 f1 hp => ?_)
            obtain ⟨rfl, rfl⟩ := hp
            show G g E _ _ _ [(wMo g mo 5 mac mmk mr mrd mrm mcm mtp msz mtk mbg men mls mvl mft mfp mfk mdp mto), (wMAll g mo al)] 61 [(0, .ref (mo 0)), (1, .int (iI t)), (2, .int (iI p)), (3, .int (iI u)), (4, .int (iI q))] [.int (iI (-1))]
            refine r_goto 77 hE dX9_alike_61 (by decide) ?_
            refine r_ireturn hE hR [(wMo g mo 5 mac mmk mr mrd mrm mcm mtp msz mtk mbg men mls mvl mft mfp mfk mdp mto), (wMAll g mo al)] dX9_alike_77 (Nat.le_of_ble_eq_true rfl) (Nat.le_of_ble_eq_true rfl) rfl ?_
            first
              | exact ⟨_, _, rfl, rfl, lw5 (by omega) (by omega) ⟨c20, c28⟩ (by omega), Or.inr ⟨by decide, rfl⟩⟩
              | exact ⟨_, _, rfl, rfl, lw0 (by omega) (by omega) ⟨c20, c28⟩ (by omega), Or.inl ⟨rfl, h71_0⟩⟩
          · skip
            refine r_iload 48 hE 4 dX9_alike_46 rfl rfl ?_
            refine r_aload_n 49 hE 0 dX9_alike_48 rfl rfl rfl ?_
            refine r_iload_n 50 hE 3 dX9_alike_49 rfl rfl rfl ?_
            refine r_callV 53 hE [0, 1] [] [(wMo g mo mst mac mmk mr mrd mrm mcm mtp msz mtk mbg men mls mvl mft mfp mfk mdp mto), (wMAll g mo al)] [] 0 9 ok9 [.int (iI q)] (c_X9_sizeOf (by omega)) dX9_alike_50 rfl rfl wd_1273 wd_1275 ws_65 wd_12 wd_1276 ne_X9 np_X9_sizeOf (Nat.le_of_ble_eq_true rfl)  (by decide) (by decide) rfl (Nat.le_of_ble_eq_true rfl) rfl rfl rfl rfl (by decide) rfl (fun v1 f1 hp => ?_)
            obtain ⟨rfl, rfl⟩ := hp
            show G g E _ _ _ [(wMo g mo mst mac mmk mr mrd mrm mcm mtp msz mtk mbg men mls mvl mft mfp mfk mdp mto), (wMAll g mo al)] 53 [(0, .ref (mo 0)), (1, .int (iI t)), (2, .int (iI p)), (3, .int (iI u)), (4, .int (iI q))] [.int (iI (mN al u)), .int (iI q)]
            refine r_icmp_le 56 64 hE dX9_alike_53 rfl (by decide) (by omega) (fun c53 => ?_) (fun c53 => ?_)
            · skip
              refine r_aload_n 65 hE 0 dX9_alike_64 rfl rfl rfl ?_
              refine r_aload_n 66 hE 0 dX9_alike_65 rfl rfl rfl ?_
              refine r_iload_n 67 hE 1 dX9_alike_66 rfl rfl rfl ?_
              refine r_iload_n 68 hE 2 dX9_alike_67 rfl rfl rfl ?_
              refine r_iload_n 69 hE 3 dX9_alike_68 rfl rfl rfl ?_
              refine r_iload 71 hE 4 dX9_alike_69 rfl rfl ?_
              refine r_callV 74 hE [0, 1] [] [(wMo g mo mst mac mmk mr mrd mrm mcm mtp msz mtk mbg men mls mvl mft mfp mfk mdp mto), (wMAll g mo al)] [] 0 9 ok9 [.ref (mo 0)] (c_X9_same (hM) (by omega) (by omega) (by omega) (by omega)) dX9_alike_71 rfl rfl wd_1473 wd_1475 ws_94 wd_12 wd_1476 ne_X9 np_X9_same (Nat.le_of_ble_eq_true rfl)  (by decide) (by decide) rfl (Nat.le_of_ble_eq_true rfl) rfl rfl rfl rfl (by decide) rfl (fun v1 f1 hp => ?_)
              obtain ⟨r_71, rfl, rfl, h71_0⟩ := hp
              show G g E _ _ _ [(wMo g mo mst mac mmk mr mrd mrm mcm mtp msz mtk mbg men mls mvl mft mfp mfk mdp mto), (wMAll g mo al)] 74 [(0, .ref (mo 0)), (1, .int (iI t)), (2, .int (iI p)), (3, .int (iI u)), (4, .int (iI q))] [.int (iI r_71), .ref (mo 0)]
              refine r_callV 77 hE [0] [1] [(wMo g mo mst mac mmk mr mrd mrm mcm mtp msz mtk mbg men mls mvl mft mfp mfk mdp mto)] [(wMAll g mo al)] 0 9 ok9 [] (c_X9_gives) dX9_alike_74 rfl rfl wd_1334 wd_1336 ws_79 wd_12 wd_1337 ne_X9 np_X9_gives (Nat.le_of_ble_eq_true rfl)  (by decide) (by decide) rfl (Nat.le_of_ble_eq_true rfl) rfl rfl rfl rfl (by decide) rfl (fun v1 f1 hp => ?_)
              obtain ⟨rfl, rfl⟩ := hp
              show G g E _ _ _ [(wMo g mo 0 mac mmk mr mrd mrm mcm mtp msz mtk mbg men mls mvl mft mfp mfk mdp mto), (wMAll g mo al)] 77 [(0, .ref (mo 0)), (1, .int (iI t)), (2, .int (iI p)), (3, .int (iI u)), (4, .int (iI q))] [.int (iI r_71)]
              refine r_ireturn hE hR [(wMo g mo 0 mac mmk mr mrd mrm mcm mtp msz mtk mbg men mls mvl mft mfp mfk mdp mto), (wMAll g mo al)] dX9_alike_77 (Nat.le_of_ble_eq_true rfl) (Nat.le_of_ble_eq_true rfl) rfl ?_
              first
                | exact ⟨_, _, rfl, rfl, lw5 (by omega) (by omega) ⟨c20, c28⟩ (by omega), Or.inr ⟨by decide, rfl⟩⟩
                | exact ⟨_, _, rfl, rfl, lw0 (by omega) (by omega) ⟨c20, c28⟩ (by omega), Or.inl ⟨rfl, h71_0⟩⟩
            · skip
              refine r_aload_n 57 hE 0 dX9_alike_56 rfl rfl rfl ?_
              refine r_iconst 58 hE dX9_alike_57 rfl ?_
              refine r_callV 61 hE [0] [1] [(wMo g mo mst mac mmk mr mrd mrm mcm mtp msz mtk mbg men mls mvl mft mfp mfk mdp mto)] [(wMAll g mo al)] 0 9 ok9 [] (c_X9_refuse) dX9_alike_58 rfl rfl wd_1186 wd_1188 ws_47 wd_12 wd_1189 ne_X9 np_X9_refuse (Nat.le_of_ble_eq_true rfl)  (by decide) (by decide) rfl (Nat.le_of_ble_eq_true rfl) rfl rfl rfl rfl (by decide) rfl (fun v1 f1 hp => ?_)
              obtain ⟨rfl, rfl⟩ := hp
              show G g E _ _ _ [(wMo g mo 5 mac mmk mr mrd mrm mcm mtp msz mtk mbg men mls mvl mft mfp mfk mdp mto), (wMAll g mo al)] 61 [(0, .ref (mo 0)), (1, .int (iI t)), (2, .int (iI p)), (3, .int (iI u)), (4, .int (iI q))] [.int (iI (-1))]
              refine r_goto 77 hE dX9_alike_61 (by decide) ?_
              refine r_ireturn hE hR [(wMo g mo 5 mac mmk mr mrd mrm mcm mtp msz mtk mbg men mls mvl mft mfp mfk mdp mto), (wMAll g mo al)] dX9_alike_77 (Nat.le_of_ble_eq_true rfl) (Nat.le_of_ble_eq_true rfl) rfl ?_
              first
                | exact ⟨_, _, rfl, rfl, lw5 (by omega) (by omega) ⟨c20, c28⟩ (by omega), Or.inr ⟨by decide, rfl⟩⟩
                | exact ⟨_, _, rfl, rfl, lw0 (by omega) (by omega) ⟨c20, c28⟩ (by omega), Or.inl ⟨rfl, h71_0⟩⟩
        · skip
          have c28 := bI0 c28
          refine r_aload_n 32 hE 0 dX9_alike_31 rfl rfl rfl ?_
          refine r_iconst 33 hE dX9_alike_32 rfl ?_
          refine r_callV 36 hE [0] [1] [(wMo g mo mst mac mmk mr mrd mrm mcm mtp msz mtk mbg men mls mvl mft mfp mfk mdp mto)] [(wMAll g mo al)] 0 9 ok9 [] (c_X9_refuse) dX9_alike_33 rfl rfl wd_1186 wd_1188 ws_47 wd_12 wd_1189 ne_X9 np_X9_refuse (Nat.le_of_ble_eq_true rfl)  (by decide) (by decide) rfl (Nat.le_of_ble_eq_true rfl) rfl rfl rfl rfl (by decide) rfl (fun v1 f1 hp => ?_)
          obtain ⟨rfl, rfl⟩ := hp
          show G g E _ _ _ [(wMo g mo 2 mac mmk mr mrd mrm mcm mtp msz mtk mbg men mls mvl mft mfp mfk mdp mto), (wMAll g mo al)] 36 [(0, .ref (mo 0)), (1, .int (iI t)), (2, .int (iI p)), (3, .int (iI u)), (4, .int (iI q))] [.int (iI (-1))]
          refine r_ireturn hE hR [(wMo g mo 2 mac mmk mr mrd mrm mcm mtp msz mtk mbg men mls mvl mft mfp mfk mdp mto), (wMAll g mo al)] dX9_alike_36 (Nat.le_of_ble_eq_true rfl) (Nat.le_of_ble_eq_true rfl) rfl ?_
          exact ⟨_, _, rfl, rfl, lw2 (by omega) (by omega) (by unfold HasT; omega), Or.inr ⟨by decide, rfl⟩⟩
    · skip
      refine r_aload_n 10 hE 0 dX9_alike_9 rfl rfl rfl ?_
      refine r_iconst 11 hE dX9_alike_10 rfl ?_
      refine r_callV 14 hE [0] [1] [(wMo g mo mst mac mmk mr mrd mrm mcm mtp msz mtk mbg men mls mvl mft mfp mfk mdp mto)] [(wMAll g mo al)] 0 9 ok9 [] (c_X9_refuse) dX9_alike_11 rfl rfl wd_1186 wd_1188 ws_47 wd_12 wd_1189 ne_X9 np_X9_refuse (Nat.le_of_ble_eq_true rfl)  (by decide) (by decide) rfl (Nat.le_of_ble_eq_true rfl) rfl rfl rfl rfl (by decide) rfl (fun v1 f1 hp => ?_)
      obtain ⟨rfl, rfl⟩ := hp
      show G g E _ _ _ [(wMo g mo 1 mac mmk mr mrd mrm mcm mtp msz mtk mbg men mls mvl mft mfp mfk mdp mto), (wMAll g mo al)] 14 [(0, .ref (mo 0)), (1, .int (iI t)), (2, .int (iI p)), (3, .int (iI u)), (4, .int (iI q))] [.int (iI (-1))]
      refine r_ireturn hE hR [(wMo g mo 1 mac mmk mr mrd mrm mcm mtp msz mtk mbg men mls mvl mft mfp mfk mdp mto), (wMAll g mo al)] dX9_alike_14 (Nat.le_of_ble_eq_true rfl) (Nat.le_of_ble_eq_true rfl) rfl ?_
      exact ⟨_, _, rfl, rfl, lw1 (by omega), Or.inr ⟨by decide, rfl⟩⟩
set_option maxHeartbeats 4000000 in
set_option maxRecDepth 100000 in
theorem c_X9_rank {g : Gm} {mo : Nat → Nat} {mst mac mmk mr mrd mrm mcm mtp msz mtk mbg men mls mvl mft mfp mfk mdp mto : Int} {al : Int → Int} {t l p : Int} (hM : MTx al) (hr_t : -2147483648 ≤ t ∧ t ≤ 2147483647) (hr_l : -2147483648 ≤ l ∧ l ≤ 2147483647) (hr_p : -2147483648 ≤ p ∧ p ≤ 2147483647) : Ct g 2 0 0 yX9_rank cX9_rank 4 (some .int) [.ref (mo 0), .int (iI t), .int (iI l), .int (iI p)] [(wMo g mo mst mac mmk mr mrd mrm mcm mtp msz mtk mbg men mls mvl mft mfp mfk mdp mto), (wMAll g mo al)] (fun v_ w_ => ∃ r9 : Int, ∃ s9 : Int, v_ = some (.int (iI r9)) ∧ w_ = [(wMo g mo s9 mac mmk mr mrd mrm mcm mtp msz mtk mbg men mls mvl mft mfp mfk mdp mto), (wMAll g mo al)] ∧ (QRank (mF al) (mN al) (al 0) t l p r9 s9)) := by
  refine Ct.of (by decide) (Nat.le_of_ble_eq_true rfl) (lv := [(0, .ref (mo 0)), (1, .int (iI t)), (2, .int (iI l)), (3, .int (iI p))]) rfl ?_
  intro E hE hR hnm
  have hc := hM.1
  refine r_iload_n 1 hE 2 dX9_rank_0 rfl rfl rfl ?_
  refine r_iconst 2 hE dX9_rank_1 rfl ?_
  refine r_bipush 4 hE dX9_rank_2 rfl (by decide) ?_
  refine r_callS 7 hE [] [0, 1] [] [(wMo g mo mst mac mmk mr mrd mrm mcm mtp msz mtk mbg men mls mvl mft mfp mfk mdp mto), (wMAll g mo al)] [] (c_X9_isFrom (by omega) (by omega) (by omega)) dX9_rank_4 rfl wd_1183 wd_1184 wd_12 wd_1185 ne_X9 np_X9_isFrom (Nat.le_of_ble_eq_true rfl)  (by decide) (by decide) rfl (Nat.le_of_ble_eq_true rfl) rfl rfl rfl rfl (by decide) (fun v1 f1 hp => ?_)
  obtain ⟨rfl, rfl⟩ := hp
  show G g E _ _ _ [(wMo g mo mst mac mmk mr mrd mrm mcm mtp msz mtk mbg men mls mvl mft mfp mfk mdp mto), (wMAll g mo al)] 7 [(0, .ref (mo 0)), (1, .int (iI t)), (2, .int (iI l)), (3, .int (iI p))] [.int (iI (bI (0 ≤ l ∧ l ≤ 25)))]
  refine r_if_eq 10 14 hE dX9_rank_7 rfl (by decide) (bI_rg _) (fun c7 => ?_) (fun c7 => ?_)
  · skip
    have c7 := bI0 c7
    refine r_aload_n 15 hE 0 dX9_rank_14 rfl rfl rfl ?_
    refine r_iconst 16 hE dX9_rank_15 rfl ?_
    refine r_callV 19 hE [0] [1] [(wMo g mo mst mac mmk mr mrd mrm mcm mtp msz mtk mbg men mls mvl mft mfp mfk mdp mto)] [(wMAll g mo al)] 0 9 ok9 [] (c_X9_refuse) dX9_rank_16 rfl rfl wd_1186 wd_1188 ws_47 wd_12 wd_1189 ne_X9 np_X9_refuse (Nat.le_of_ble_eq_true rfl)  (by decide) (by decide) rfl (Nat.le_of_ble_eq_true rfl) rfl rfl rfl rfl (by decide) rfl (fun v1 f1 hp => ?_)
    obtain ⟨rfl, rfl⟩ := hp
    show G g E _ _ _ [(wMo g mo 1 mac mmk mr mrd mrm mcm mtp msz mtk mbg men mls mvl mft mfp mfk mdp mto), (wMAll g mo al)] 19 [(0, .ref (mo 0)), (1, .int (iI t)), (2, .int (iI l)), (3, .int (iI p))] [.int (iI (-1))]
    refine r_ireturn hE hR [(wMo g mo 1 mac mmk mr mrd mrm mcm mtp msz mtk mbg men mls mvl mft mfp mfk mdp mto), (wMAll g mo al)] dX9_rank_19 (Nat.le_of_ble_eq_true rfl) (Nat.le_of_ble_eq_true rfl) rfl ?_
    first
      | exact ⟨_, _, rfl, rfl, by rw [if_neg (by omega)], Or.inr ⟨by decide, rfl⟩⟩
      | exact ⟨_, _, rfl, rfl, by rw [if_pos (by omega)]; exact (by unfold wpF; (repeat (first | rw [if_pos (by omega)] | rw [if_neg (by omega)]))), Or.inr ⟨by decide, rfl⟩⟩
  · skip
    have c7 := bI1 c7
    refine r_iload_n 11 hE 3 dX9_rank_10 rfl rfl rfl ?_
    refine r_if_ge 14 20 hE dX9_rank_11 rfl (by decide) (by omega) (fun c11 => ?_) (fun c11 => ?_)
    · skip
      refine r_aload_n 21 hE 0 dX9_rank_20 rfl rfl rfl ?_
      refine r_iload_n 22 hE 1 dX9_rank_21 rfl rfl rfl ?_
      refine r_callV 25 hE [0, 1] [] [(wMo g mo mst mac mmk mr mrd mrm mcm mtp msz mtk mbg men mls mvl mft mfp mfk mdp mto), (wMAll g mo al)] [] 0 9 ok9 [] (c_X9_isText (by omega) (by omega)) dX9_rank_22 rfl rfl wd_1346 wd_1348 ws_80 wd_12 wd_1349 ne_X9 np_X9_isText (Nat.le_of_ble_eq_true rfl)  (by decide) (by decide) rfl (Nat.le_of_ble_eq_true rfl) rfl rfl rfl rfl (by decide) rfl (fun v1 f1 hp => ?_)
      obtain ⟨rfl, rfl⟩ := hp
      show G g E _ _ _ [(wMo g mo mst mac mmk mr mrd mrm mcm mtp msz mtk mbg men mls mvl mft mfp mfk mdp mto), (wMAll g mo al)] 25 [(0, .ref (mo 0)), (1, .int (iI t)), (2, .int (iI l)), (3, .int (iI p))] [.int (iI (bI (0 ≤ t ∧ t < al 0)))]
      refine r_if_ne 28 34 hE dX9_rank_25 rfl (by decide) (bI_rg _) (fun c25 => ?_) (fun c25 => ?_)
      · skip
        have c25 := bI1 c25
        have hl_t := hM.2 t c25.1 c25.2
        refine r_iload_n 35 hE 3 dX9_rank_34 rfl rfl rfl ?_
        refine r_aload_n 36 hE 0 dX9_rank_35 rfl rfl rfl ?_
        refine r_iload_n 37 hE 1 dX9_rank_36 rfl rfl rfl ?_
        refine r_callV 40 hE [0, 1] [] [(wMo g mo mst mac mmk mr mrd mrm mcm mtp msz mtk mbg men mls mvl mft mfp mfk mdp mto), (wMAll g mo al)] [] 0 9 ok9 [.int (iI p)] (c_X9_sizeOf (by omega)) dX9_rank_37 rfl rfl wd_1273 wd_1275 ws_65 wd_12 wd_1276 ne_X9 np_X9_sizeOf (Nat.le_of_ble_eq_true rfl)  (by decide) (by decide) rfl (Nat.le_of_ble_eq_true rfl) rfl rfl rfl rfl (by decide) rfl (fun v1 f1 hp => ?_)
        obtain ⟨rfl, rfl⟩ := hp
        show G g E _ _ _ [(wMo g mo mst mac mmk mr mrd mrm mcm mtp msz mtk mbg men mls mvl mft mfp mfk mdp mto), (wMAll g mo al)] 40 [(0, .ref (mo 0)), (1, .int (iI t)), (2, .int (iI l)), (3, .int (iI p))] [.int (iI (mN al t)), .int (iI p)]
        refine r_icmp_le 43 51 hE dX9_rank_40 rfl (by decide) (by omega) (fun c40 => ?_) (fun c40 => ?_)
        · skip
          refine r_aload_n 52 hE 0 dX9_rank_51 rfl rfl rfl ?_
          refine r_aload_n 53 hE 0 dX9_rank_52 rfl rfl rfl ?_
          refine r_iload_n 54 hE 1 dX9_rank_53 rfl rfl rfl ?_
          refine r_iload_n 55 hE 2 dX9_rank_54 rfl rfl rfl ?_
          refine r_iload_n 56 hE 3 dX9_rank_55 rfl rfl rfl ?_
          refine r_callV 59 hE [0, 1] [] [(wMo g mo mst mac mmk mr mrd mrm mcm mtp msz mtk mbg men mls mvl mft mfp mfk mdp mto), (wMAll g mo al)] [] 0 9 ok9 [.ref (mo 0)] (c_X9_countOf (hM) (by omega) (by omega) (by omega)) dX9_rank_56 rfl rfl wd_1394 wd_1396 ws_86 wd_12 wd_1397 ne_X9 np_X9_countOf (Nat.le_of_ble_eq_true rfl)  (by decide) (by decide) rfl (Nat.le_of_ble_eq_true rfl) rfl rfl rfl rfl (by decide) rfl (fun v1 f1 hp => ?_)
          obtain ⟨rfl, rfl⟩ := hp
          show G g E _ _ _ [(wMo g mo mst mac mmk mr mrd mrm mcm mtp msz mtk mbg men mls mvl mft mfp mfk mdp mto), (wMAll g mo al)] 59 [(0, .ref (mo 0)), (1, .int (iI t)), (2, .int (iI l)), (3, .int (iI p))] [.int (iI (cntF (mF al t) l p)), .ref (mo 0)]
          refine r_callV 62 hE [0] [1] [(wMo g mo mst mac mmk mr mrd mrm mcm mtp msz mtk mbg men mls mvl mft mfp mfk mdp mto)] [(wMAll g mo al)] 0 9 ok9 [] (c_X9_gives) dX9_rank_59 rfl rfl wd_1334 wd_1336 ws_79 wd_12 wd_1337 ne_X9 np_X9_gives (Nat.le_of_ble_eq_true rfl)  (by decide) (by decide) rfl (Nat.le_of_ble_eq_true rfl) rfl rfl rfl rfl (by decide) rfl (fun v1 f1 hp => ?_)
          obtain ⟨rfl, rfl⟩ := hp
          show G g E _ _ _ [(wMo g mo 0 mac mmk mr mrd mrm mcm mtp msz mtk mbg men mls mvl mft mfp mfk mdp mto), (wMAll g mo al)] 62 [(0, .ref (mo 0)), (1, .int (iI t)), (2, .int (iI l)), (3, .int (iI p))] [.int (iI (cntF (mF al t) l p))]
          refine r_ireturn hE hR [(wMo g mo 0 mac mmk mr mrd mrm mcm mtp msz mtk mbg men mls mvl mft mfp mfk mdp mto), (wMAll g mo al)] dX9_rank_62 (Nat.le_of_ble_eq_true rfl) (Nat.le_of_ble_eq_true rfl) rfl ?_
          exact ⟨_, _, rfl, rfl, by rw [if_pos (by omega)]; exact (by unfold wpF; (repeat (first | rw [if_pos (by omega)] | rw [if_neg (by omega)]))), by first | exact Or.inr ⟨by decide, rfl⟩ | exact Or.inl ⟨rfl, rfl⟩⟩
        · skip
          refine r_aload_n 44 hE 0 dX9_rank_43 rfl rfl rfl ?_
          refine r_iconst 45 hE dX9_rank_44 rfl ?_
          refine r_callV 48 hE [0] [1] [(wMo g mo mst mac mmk mr mrd mrm mcm mtp msz mtk mbg men mls mvl mft mfp mfk mdp mto)] [(wMAll g mo al)] 0 9 ok9 [] (c_X9_refuse) dX9_rank_45 rfl rfl wd_1186 wd_1188 ws_47 wd_12 wd_1189 ne_X9 np_X9_refuse (Nat.le_of_ble_eq_true rfl)  (by decide) (by decide) rfl (Nat.le_of_ble_eq_true rfl) rfl rfl rfl rfl (by decide) rfl (fun v1 f1 hp => ?_)
          obtain ⟨rfl, rfl⟩ := hp
          show G g E _ _ _ [(wMo g mo 5 mac mmk mr mrd mrm mcm mtp msz mtk mbg men mls mvl mft mfp mfk mdp mto), (wMAll g mo al)] 48 [(0, .ref (mo 0)), (1, .int (iI t)), (2, .int (iI l)), (3, .int (iI p))] [.int (iI (-1))]
          refine r_goto 62 hE dX9_rank_48 (by decide) ?_
          refine r_ireturn hE hR [(wMo g mo 5 mac mmk mr mrd mrm mcm mtp msz mtk mbg men mls mvl mft mfp mfk mdp mto), (wMAll g mo al)] dX9_rank_62 (Nat.le_of_ble_eq_true rfl) (Nat.le_of_ble_eq_true rfl) rfl ?_
          exact ⟨_, _, rfl, rfl, by rw [if_pos (by omega)]; exact (by unfold wpF; (repeat (first | rw [if_pos (by omega)] | rw [if_neg (by omega)]))), by first | exact Or.inr ⟨by decide, rfl⟩ | exact Or.inl ⟨rfl, rfl⟩⟩
      · skip
        have c25 := bI0 c25
        refine r_aload_n 29 hE 0 dX9_rank_28 rfl rfl rfl ?_
        refine r_iconst 30 hE dX9_rank_29 rfl ?_
        refine r_callV 33 hE [0] [1] [(wMo g mo mst mac mmk mr mrd mrm mcm mtp msz mtk mbg men mls mvl mft mfp mfk mdp mto)] [(wMAll g mo al)] 0 9 ok9 [] (c_X9_refuse) dX9_rank_30 rfl rfl wd_1186 wd_1188 ws_47 wd_12 wd_1189 ne_X9 np_X9_refuse (Nat.le_of_ble_eq_true rfl)  (by decide) (by decide) rfl (Nat.le_of_ble_eq_true rfl) rfl rfl rfl rfl (by decide) rfl (fun v1 f1 hp => ?_)
        obtain ⟨rfl, rfl⟩ := hp
        show G g E _ _ _ [(wMo g mo 2 mac mmk mr mrd mrm mcm mtp msz mtk mbg men mls mvl mft mfp mfk mdp mto), (wMAll g mo al)] 33 [(0, .ref (mo 0)), (1, .int (iI t)), (2, .int (iI l)), (3, .int (iI p))] [.int (iI (-1))]
        refine r_ireturn hE hR [(wMo g mo 2 mac mmk mr mrd mrm mcm mtp msz mtk mbg men mls mvl mft mfp mfk mdp mto), (wMAll g mo al)] dX9_rank_33 (Nat.le_of_ble_eq_true rfl) (Nat.le_of_ble_eq_true rfl) rfl ?_
        exact ⟨_, _, rfl, rfl, by rw [if_pos (by omega)]; exact (by unfold wpF; (repeat (first | rw [if_pos (by omega)] | rw [if_neg (by omega)]))), Or.inr ⟨by decide, rfl⟩⟩
    · skip
      refine r_aload_n 15 hE 0 dX9_rank_14 rfl rfl rfl ?_
      refine r_iconst 16 hE dX9_rank_15 rfl ?_
      refine r_callV 19 hE [0] [1] [(wMo g mo mst mac mmk mr mrd mrm mcm mtp msz mtk mbg men mls mvl mft mfp mfk mdp mto)] [(wMAll g mo al)] 0 9 ok9 [] (c_X9_refuse) dX9_rank_16 rfl rfl wd_1186 wd_1188 ws_47 wd_12 wd_1189 ne_X9 np_X9_refuse (Nat.le_of_ble_eq_true rfl)  (by decide) (by decide) rfl (Nat.le_of_ble_eq_true rfl) rfl rfl rfl rfl (by decide) rfl (fun v1 f1 hp => ?_)
      obtain ⟨rfl, rfl⟩ := hp
      show G g E _ _ _ [(wMo g mo 1 mac mmk mr mrd mrm mcm mtp msz mtk mbg men mls mvl mft mfp mfk mdp mto), (wMAll g mo al)] 19 [(0, .ref (mo 0)), (1, .int (iI t)), (2, .int (iI l)), (3, .int (iI p))] [.int (iI (-1))]
      refine r_ireturn hE hR [(wMo g mo 1 mac mmk mr mrd mrm mcm mtp msz mtk mbg men mls mvl mft mfp mfk mdp mto), (wMAll g mo al)] dX9_rank_19 (Nat.le_of_ble_eq_true rfl) (Nat.le_of_ble_eq_true rfl) rfl ?_
      first
        | exact ⟨_, _, rfl, rfl, by rw [if_neg (by omega)], Or.inr ⟨by decide, rfl⟩⟩
        | exact ⟨_, _, rfl, rfl, by rw [if_pos (by omega)]; exact (by unfold wpF; (repeat (first | rw [if_pos (by omega)] | rw [if_neg (by omega)]))), Or.inr ⟨by decide, rfl⟩⟩
set_option maxHeartbeats 4000000 in
set_option maxRecDepth 100000 in
theorem c_X9_select {g : Gm} {mo : Nat → Nat} {mst mac mmk mr mrd mrm mcm mtp msz mtk mbg men mls mvl mft mfp mfk mdp mto : Int} {al : Int → Int} {t l i : Int} (hM : MTx al) (hr_t : -2147483648 ≤ t ∧ t ≤ 2147483647) (hr_l : -2147483648 ≤ l ∧ l ≤ 2147483647) (hr_i : -2147483648 ≤ i ∧ i ≤ 2147483647) : Ct g 2 0 0 yX9_select cX9_select 6 (some .int) [.ref (mo 0), .int (iI t), .int (iI l), .int (iI i)] [(wMo g mo mst mac mmk mr mrd mrm mcm mtp msz mtk mbg men mls mvl mft mfp mfk mdp mto), (wMAll g mo al)] (fun v_ w_ => ∃ r9 : Int, ∃ s9 : Int, v_ = some (.int (iI r9)) ∧ w_ = [(wMo g mo s9 mac mmk mr mrd mrm mcm mtp msz mtk mbg men mls mvl mft mfp mfk mdp mto), (wMAll g mo al)] ∧ (QSelect (mF al) (mN al) (al 0) t l i r9 s9)) := by
  refine Ct.of (by decide) (Nat.le_of_ble_eq_true rfl) (lv := [(0, .ref (mo 0)), (1, .int (iI t)), (2, .int (iI l)), (3, .int (iI i))]) rfl ?_
  intro E hE hR hnm
  have hc := hM.1
  have cut40 : ∀ (N : Nat) (lf : Int) (j : Int), ((0 ≤ l ∧ l < 26) ∧ 0 ≤ i) → (0 ≤ t ∧ t < al 0) → (0 ≤ j ∧ j ≤ mN al t) → (lf = i - cntF (mF al t) l j ∧ 0 ≤ lf) → (mN al t - j).toNat < N → G g E 6 0 0 [(wMo g mo mst mac mmk mr mrd mrm mcm mtp msz mtk mbg men mls mvl mft mfp mfk mdp mto), (wMAll g mo al)] 40 [(0, .ref (mo 0)), (1, .int (iI t)), (2, .int (iI l)), (3, .int (iI i)), (4, .int (iI lf)), (5, .int (iI j))] [] := by
    intro N
    induction N with
    | zero => intro lf j _ _ _ _ hN; exact absurd hN (Nat.not_lt_zero _)
    | succ N ih40 =>
      intro lf j hll htt hj hlf hN
      have hl_t := hM.2 t htt.1 htt.2
      have hcb := cntF_bd (mF al t) l hj.1
      refine r_iload 42 hE 5 dX9_select_40 rfl rfl ?_
      refine r_aload_n 43 hE 0 dX9_select_42 rfl rfl rfl ?_
      refine r_iload_n 44 hE 1 dX9_select_43 rfl rfl rfl ?_
      refine r_callV 47 hE [0, 1] [] [(wMo g mo mst mac mmk mr mrd mrm mcm mtp msz mtk mbg men mls mvl mft mfp mfk mdp mto), (wMAll g mo al)] [] 0 9 ok9 [.int (iI j)] (c_X9_sizeOf (by omega)) dX9_select_44 rfl rfl wd_1273 wd_1275 ws_65 wd_12 wd_1276 ne_X9 np_X9_sizeOf (Nat.le_of_ble_eq_true rfl)  (by decide) (by decide) rfl (Nat.le_of_ble_eq_true rfl) rfl rfl rfl rfl (by decide) rfl (fun v1 f1 hp => ?_)
      obtain ⟨rfl, rfl⟩ := hp
      show G g E _ _ _ [(wMo g mo mst mac mmk mr mrd mrm mcm mtp msz mtk mbg men mls mvl mft mfp mfk mdp mto), (wMAll g mo al)] 47 [(0, .ref (mo 0)), (1, .int (iI t)), (2, .int (iI l)), (3, .int (iI i)), (4, .int (iI lf)), (5, .int (iI j))] [.int (iI (mN al t)), .int (iI j)]
      refine r_icmp_ge 50 85 hE dX9_select_47 rfl (by decide) (by omega) (fun c47 => ?_) (fun c47 => ?_)
      · skip
        refine r_aload_n 86 hE 0 dX9_select_85 rfl rfl rfl ?_
        refine r_iconst 87 hE dX9_select_86 rfl ?_
        refine r_callV 90 hE [0] [1] [(wMo g mo mst mac mmk mr mrd mrm mcm mtp msz mtk mbg men mls mvl mft mfp mfk mdp mto)] [(wMAll g mo al)] 0 9 ok9 [] (c_X9_refuse) dX9_select_87 rfl rfl wd_1186 wd_1188 ws_47 wd_12 wd_1189 ne_X9 np_X9_refuse (Nat.le_of_ble_eq_true rfl)  (by decide) (by decide) rfl (Nat.le_of_ble_eq_true rfl) rfl rfl rfl rfl (by decide) rfl (fun v1 f1 hp => ?_)
        obtain ⟨rfl, rfl⟩ := hp
        show G g E _ _ _ [(wMo g mo 5 mac mmk mr mrd mrm mcm mtp msz mtk mbg men mls mvl mft mfp mfk mdp mto), (wMAll g mo al)] 90 [(0, .ref (mo 0)), (1, .int (iI t)), (2, .int (iI l)), (3, .int (iI i)), (4, .int (iI lf)), (5, .int (iI j))] [.int (iI (-1))]
        refine r_ireturn hE hR [(wMo g mo 5 mac mmk mr mrd mrm mcm mtp msz mtk mbg men mls mvl mft mfp mfk mdp mto), (wMAll g mo al)] dX9_select_90 (Nat.le_of_ble_eq_true rfl) (Nat.le_of_ble_eq_true rfl) rfl ?_
        exact ⟨_, _, rfl, rfl, Or.inr (Or.inr ⟨hll, htt, Or.inl ⟨rfl, by rw [show mN al t = j by omega]; omega⟩, by rw [if_pos rfl]⟩)⟩
      · skip
        refine r_aload_n 51 hE 0 dX9_select_50 rfl rfl rfl ?_
        refine r_iload_n 52 hE 1 dX9_select_51 rfl rfl rfl ?_
        refine r_iload 54 hE 5 dX9_select_52 rfl rfl ?_
        refine r_callV 57 hE [0, 1] [] [(wMo g mo mst mac mmk mr mrd mrm mcm mtp msz mtk mbg men mls mvl mft mfp mfk mdp mto), (wMAll g mo al)] [] 0 9 ok9 [] (c_X9_at (by omega)) dX9_select_54 rfl rfl wd_1277 wd_1279 ws_66 wd_12 wd_1280 ne_X9 np_X9_at (Nat.le_of_ble_eq_true rfl)  (by decide) (by decide) rfl (Nat.le_of_ble_eq_true rfl) rfl rfl rfl rfl (by decide) rfl (fun v1 f1 hp => ?_)
        obtain ⟨rfl, rfl⟩ := hp
        show G g E _ _ _ [(wMo g mo mst mac mmk mr mrd mrm mcm mtp msz mtk mbg men mls mvl mft mfp mfk mdp mto), (wMAll g mo al)] 57 [(0, .ref (mo 0)), (1, .int (iI t)), (2, .int (iI l)), (3, .int (iI i)), (4, .int (iI lf)), (5, .int (iI j))] [.int (iI (mF al t j))]
        refine r_iload_n 58 hE 2 dX9_select_57 rfl rfl rfl ?_
        refine r_icmp_eq 61 64 hE dX9_select_58 rfl (by decide) (by have h1 := hl_t.2 j (by omega) (by omega); omega) (fun c58 => ?_) (fun c58 => ?_)
        · skip
          refine r_iload 66 hE 4 dX9_select_64 rfl rfl ?_
          refine r_if_ne 69 76 hE dX9_select_66 rfl (by decide) (by omega) (fun c66 => ?_) (fun c66 => ?_)
          · skip
            have hlf2 : lf + -1 = i - cntF (mF al t) l (j + 1) ∧ 0 ≤ lf + -1 := by rw [cntF_yes (f := mF al t) hj.1 c58]; omega
            refine r_iinc 79 hE 4 (lf + (-1)) [(4, .int (iI (lf + (-1)))), (0, .ref (mo 0)), (1, .int (iI t)), (2, .int (iI l)), (3, .int (iI i)), (5, .int (iI j))] dX9_select_76 rfl rfl rfl (by decide) rfl ?_
            refine r_iinc 82 hE 5 (j + 1) [(5, .int (iI (j + 1))), (4, .int (iI (lf + (-1)))), (0, .ref (mo 0)), (1, .int (iI t)), (2, .int (iI l)), (3, .int (iI i))] dX9_select_79 rfl rfl rfl (by decide) rfl ?_
            refine r_goto 40 hE dX9_select_82 (by decide) ?_
            refine G.to (fs' := [(wMo g mo mst mac mmk mr mrd mrm mcm mtp msz mtk mbg men mls mvl mft mfp mfk mdp mto), (wMAll g mo al)]) (lv' := [(0, .ref (mo 0)), (1, .int (iI t)), (2, .int (iI l)), (3, .int (iI i)), (4, .int (iI (lf + (-1)))), (5, .int (iI (j + 1)))]) [0, 1] [2, 3, 4, 5, 1, 0] rfl rfl rfl ?_
            exact ih40 (lf + (-1)) (j + 1) (by omega) (by first | exact c25 | exact htt) (by omega) (by first | exact hlf2 | exact ⟨by rw [cntF_0]; omega, by omega⟩) (by omega)
          · skip
            refine r_aload_n 70 hE 0 dX9_select_69 rfl rfl rfl ?_
            refine r_iload 72 hE 5 dX9_select_70 rfl rfl ?_
            refine r_callV 75 hE [0] [1] [(wMo g mo mst mac mmk mr mrd mrm mcm mtp msz mtk mbg men mls mvl mft mfp mfk mdp mto)] [(wMAll g mo al)] 0 9 ok9 [] (c_X9_gives) dX9_select_72 rfl rfl wd_1334 wd_1336 ws_79 wd_12 wd_1337 ne_X9 np_X9_gives (Nat.le_of_ble_eq_true rfl)  (by decide) (by decide) rfl (Nat.le_of_ble_eq_true rfl) rfl rfl rfl rfl (by decide) rfl (fun v1 f1 hp => ?_)
            obtain ⟨rfl, rfl⟩ := hp
            show G g E _ _ _ [(wMo g mo 0 mac mmk mr mrd mrm mcm mtp msz mtk mbg men mls mvl mft mfp mfk mdp mto), (wMAll g mo al)] 75 [(0, .ref (mo 0)), (1, .int (iI t)), (2, .int (iI l)), (3, .int (iI i)), (4, .int (iI lf)), (5, .int (iI j))] [.int (iI j)]
            refine r_ireturn hE hR [(wMo g mo 0 mac mmk mr mrd mrm mcm mtp msz mtk mbg men mls mvl mft mfp mfk mdp mto), (wMAll g mo al)] dX9_select_75 (Nat.le_of_ble_eq_true rfl) (Nat.le_of_ble_eq_true rfl) rfl ?_
            exact ⟨_, _, rfl, rfl, Or.inr (Or.inr ⟨hll, htt, Or.inr ⟨hj.1, by omega, c58, by omega⟩, by rw [if_neg (by omega)]⟩)⟩
        · skip
          have hlf2 : lf = i - cntF (mF al t) l (j + 1) ∧ 0 ≤ lf := by rw [cntF_no (f := mF al t) hj.1 c58]; exact hlf
          refine r_goto 79 hE dX9_select_61 (by decide) ?_
          refine r_iinc 82 hE 5 (j + 1) [(5, .int (iI (j + 1))), (0, .ref (mo 0)), (1, .int (iI t)), (2, .int (iI l)), (3, .int (iI i)), (4, .int (iI lf))] dX9_select_79 rfl rfl rfl (by decide) rfl ?_
          refine r_goto 40 hE dX9_select_82 (by decide) ?_
          refine G.to (fs' := [(wMo g mo mst mac mmk mr mrd mrm mcm mtp msz mtk mbg men mls mvl mft mfp mfk mdp mto), (wMAll g mo al)]) (lv' := [(0, .ref (mo 0)), (1, .int (iI t)), (2, .int (iI l)), (3, .int (iI i)), (4, .int (iI lf)), (5, .int (iI (j + 1)))]) [0, 1] [1, 2, 3, 4, 5, 0] rfl rfl rfl ?_
          exact ih40 lf (j + 1) (by omega) (by first | exact c25 | exact htt) (by omega) (by first | exact hlf2 | exact ⟨by rw [cntF_0]; omega, by omega⟩) (by omega)
  refine r_iload_n 1 hE 2 dX9_select_0 rfl rfl rfl ?_
  refine r_iconst 2 hE dX9_select_1 rfl ?_
  refine r_bipush 4 hE dX9_select_2 rfl (by decide) ?_
  refine r_callS 7 hE [] [0, 1] [] [(wMo g mo mst mac mmk mr mrd mrm mcm mtp msz mtk mbg men mls mvl mft mfp mfk mdp mto), (wMAll g mo al)] [] (c_X9_isFrom (by omega) (by omega) (by omega)) dX9_select_4 rfl wd_1183 wd_1184 wd_12 wd_1185 ne_X9 np_X9_isFrom (Nat.le_of_ble_eq_true rfl)  (by decide) (by decide) rfl (Nat.le_of_ble_eq_true rfl) rfl rfl rfl rfl (by decide) (fun v1 f1 hp => ?_)
  obtain ⟨rfl, rfl⟩ := hp
  show G g E _ _ _ [(wMo g mo mst mac mmk mr mrd mrm mcm mtp msz mtk mbg men mls mvl mft mfp mfk mdp mto), (wMAll g mo al)] 7 [(0, .ref (mo 0)), (1, .int (iI t)), (2, .int (iI l)), (3, .int (iI i))] [.int (iI (bI (0 ≤ l ∧ l ≤ 25)))]
  refine r_if_eq 10 14 hE dX9_select_7 rfl (by decide) (bI_rg _) (fun c7 => ?_) (fun c7 => ?_)
  · skip
    have c7 := bI0 c7
    refine r_aload_n 15 hE 0 dX9_select_14 rfl rfl rfl ?_
    refine r_iconst 16 hE dX9_select_15 rfl ?_
    refine r_callV 19 hE [0] [1] [(wMo g mo mst mac mmk mr mrd mrm mcm mtp msz mtk mbg men mls mvl mft mfp mfk mdp mto)] [(wMAll g mo al)] 0 9 ok9 [] (c_X9_refuse) dX9_select_16 rfl rfl wd_1186 wd_1188 ws_47 wd_12 wd_1189 ne_X9 np_X9_refuse (Nat.le_of_ble_eq_true rfl)  (by decide) (by decide) rfl (Nat.le_of_ble_eq_true rfl) rfl rfl rfl rfl (by decide) rfl (fun v1 f1 hp => ?_)
    obtain ⟨rfl, rfl⟩ := hp
    show G g E _ _ _ [(wMo g mo 1 mac mmk mr mrd mrm mcm mtp msz mtk mbg men mls mvl mft mfp mfk mdp mto), (wMAll g mo al)] 19 [(0, .ref (mo 0)), (1, .int (iI t)), (2, .int (iI l)), (3, .int (iI i))] [.int (iI (-1))]
    refine r_ireturn hE hR [(wMo g mo 1 mac mmk mr mrd mrm mcm mtp msz mtk mbg men mls mvl mft mfp mfk mdp mto), (wMAll g mo al)] dX9_select_19 (Nat.le_of_ble_eq_true rfl) (Nat.le_of_ble_eq_true rfl) rfl ?_
    exact ⟨_, _, rfl, rfl, Or.inl ⟨by omega, rfl, rfl⟩⟩
  · skip
    have c7 := bI1 c7
    refine r_iload_n 11 hE 3 dX9_select_10 rfl rfl rfl ?_
    refine r_if_ge 14 20 hE dX9_select_11 rfl (by decide) (by omega) (fun c11 => ?_) (fun c11 => ?_)
    · skip
      refine r_aload_n 21 hE 0 dX9_select_20 rfl rfl rfl ?_
      refine r_iload_n 22 hE 1 dX9_select_21 rfl rfl rfl ?_
      refine r_callV 25 hE [0, 1] [] [(wMo g mo mst mac mmk mr mrd mrm mcm mtp msz mtk mbg men mls mvl mft mfp mfk mdp mto), (wMAll g mo al)] [] 0 9 ok9 [] (c_X9_isText (by omega) (by omega)) dX9_select_22 rfl rfl wd_1346 wd_1348 ws_80 wd_12 wd_1349 ne_X9 np_X9_isText (Nat.le_of_ble_eq_true rfl)  (by decide) (by decide) rfl (Nat.le_of_ble_eq_true rfl) rfl rfl rfl rfl (by decide) rfl (fun v1 f1 hp => ?_)
      obtain ⟨rfl, rfl⟩ := hp
      show G g E _ _ _ [(wMo g mo mst mac mmk mr mrd mrm mcm mtp msz mtk mbg men mls mvl mft mfp mfk mdp mto), (wMAll g mo al)] 25 [(0, .ref (mo 0)), (1, .int (iI t)), (2, .int (iI l)), (3, .int (iI i))] [.int (iI (bI (0 ≤ t ∧ t < al 0)))]
      refine r_if_ne 28 34 hE dX9_select_25 rfl (by decide) (bI_rg _) (fun c25 => ?_) (fun c25 => ?_)
      · skip
        have c25 := bI1 c25
        have hl_t := hM.2 t c25.1 c25.2
        refine r_iload_n 35 hE 3 dX9_select_34 rfl rfl rfl ?_
        refine r_istore 37 hE [(4, .int (iI i)), (0, .ref (mo 0)), (1, .int (iI t)), (2, .int (iI l)), (3, .int (iI i))] dX9_select_35 rfl (by decide) rfl ?_
        refine r_iconst 38 hE dX9_select_37 rfl ?_
        refine r_istore 40 hE [(5, .int (iI 0)), (4, .int (iI i)), (0, .ref (mo 0)), (1, .int (iI t)), (2, .int (iI l)), (3, .int (iI i))] dX9_select_38 rfl (by decide) rfl ?_
        refine G.to (fs' := [(wMo g mo mst mac mmk mr mrd mrm mcm mtp msz mtk mbg men mls mvl mft mfp mfk mdp mto), (wMAll g mo al)]) (lv' := [(0, .ref (mo 0)), (1, .int (iI t)), (2, .int (iI l)), (3, .int (iI i)), (4, .int (iI i)), (5, .int (iI 0))]) [0, 1] [2, 3, 4, 5, 1, 0] rfl rfl rfl ?_
        exact cut40 _ i 0 (by omega) (by first | exact c25 | exact htt) (by omega) (by first | exact hlf2 | exact ⟨by rw [cntF_0]; omega, by omega⟩) (Nat.lt_succ_self _)
      · skip
        have c25 := bI0 c25
        refine r_aload_n 29 hE 0 dX9_select_28 rfl rfl rfl ?_
        refine r_iconst 30 hE dX9_select_29 rfl ?_
        refine r_callV 33 hE [0] [1] [(wMo g mo mst mac mmk mr mrd mrm mcm mtp msz mtk mbg men mls mvl mft mfp mfk mdp mto)] [(wMAll g mo al)] 0 9 ok9 [] (c_X9_refuse) dX9_select_30 rfl rfl wd_1186 wd_1188 ws_47 wd_12 wd_1189 ne_X9 np_X9_refuse (Nat.le_of_ble_eq_true rfl)  (by decide) (by decide) rfl (Nat.le_of_ble_eq_true rfl) rfl rfl rfl rfl (by decide) rfl (fun v1 f1 hp => ?_)
        obtain ⟨rfl, rfl⟩ := hp
        show G g E _ _ _ [(wMo g mo 2 mac mmk mr mrd mrm mcm mtp msz mtk mbg men mls mvl mft mfp mfk mdp mto), (wMAll g mo al)] 33 [(0, .ref (mo 0)), (1, .int (iI t)), (2, .int (iI l)), (3, .int (iI i))] [.int (iI (-1))]
        refine r_ireturn hE hR [(wMo g mo 2 mac mmk mr mrd mrm mcm mtp msz mtk mbg men mls mvl mft mfp mfk mdp mto), (wMAll g mo al)] dX9_select_33 (Nat.le_of_ble_eq_true rfl) (Nat.le_of_ble_eq_true rfl) rfl ?_
        exact ⟨_, _, rfl, rfl, Or.inr (Or.inl ⟨by omega, c25, rfl, rfl⟩)⟩
    · skip
      refine r_aload_n 15 hE 0 dX9_select_14 rfl rfl rfl ?_
      refine r_iconst 16 hE dX9_select_15 rfl ?_
      refine r_callV 19 hE [0] [1] [(wMo g mo mst mac mmk mr mrd mrm mcm mtp msz mtk mbg men mls mvl mft mfp mfk mdp mto)] [(wMAll g mo al)] 0 9 ok9 [] (c_X9_refuse) dX9_select_16 rfl rfl wd_1186 wd_1188 ws_47 wd_12 wd_1189 ne_X9 np_X9_refuse (Nat.le_of_ble_eq_true rfl)  (by decide) (by decide) rfl (Nat.le_of_ble_eq_true rfl) rfl rfl rfl rfl (by decide) rfl (fun v1 f1 hp => ?_)
      obtain ⟨rfl, rfl⟩ := hp
      show G g E _ _ _ [(wMo g mo 1 mac mmk mr mrd mrm mcm mtp msz mtk mbg men mls mvl mft mfp mfk mdp mto), (wMAll g mo al)] 19 [(0, .ref (mo 0)), (1, .int (iI t)), (2, .int (iI l)), (3, .int (iI i))] [.int (iI (-1))]
      refine r_ireturn hE hR [(wMo g mo 1 mac mmk mr mrd mrm mcm mtp msz mtk mbg men mls mvl mft mfp mfk mdp mto), (wMAll g mo al)] dX9_select_19 (Nat.le_of_ble_eq_true rfl) (Nat.le_of_ble_eq_true rfl) rfl ?_
      exact ⟨_, _, rfl, rfl, Or.inl ⟨by omega, rfl, rfl⟩⟩
set_option maxHeartbeats 4000000 in
set_option maxRecDepth 100000 in
theorem c_X9_mirror {g : Gm} {mo : Nat → Nat} {mst mac mmk mr mrd mrm mcm mtp msz mtk mbg men mls mvl mft mfp mfk mdp mto : Int} {al : Int → Int} {t p e : Int} (hM : MTx al) (hr_t : -2147483648 ≤ t ∧ t ≤ 2147483647) (hr_p : -2147483648 ≤ p ∧ p ≤ 2147483647) (he : 0 ≤ e ∧ e ≤ 1) : Ct g 2 0 0 yX9_mirror cX9_mirror 6 (some .int) [.ref (mo 0), .int (iI t), .int (iI p), .int (iI e)] [(wMo g mo mst mac mmk mr mrd mrm mcm mtp msz mtk mbg men mls mvl mft mfp mfk mdp mto), (wMAll g mo al)] (fun v_ w_ => ∃ r9 : Int, ∃ s9 : Int, v_ = some (.int (iI r9)) ∧ w_ = [(wMo g mo s9 mac mmk mr mrd mrm mcm mtp msz mtk mbg men mls mvl mft mfp mfk mdp mto), (wMAll g mo al)] ∧ (QMirror (mF al) (mN al) (al 0) t p e r9 s9)) := by
  refine Ct.of (by decide) (Nat.le_of_ble_eq_true rfl) (lv := [(0, .ref (mo 0)), (1, .int (iI t)), (2, .int (iI p)), (3, .int (iI e))]) rfl ?_
  intro E hE hR hnm
  have hc := hM.1
  obtain ⟨h0, hh0⟩ : ∃ h0 : Int, h0 = if e = 0 then p + 1 else p := ⟨_, rfl⟩
  have cut57 : ∀ (N : Nat) (lo : Int) (hi : Int), (0 ≤ t ∧ t < al 0) → (0 ≤ p ∧ p < mN al t) → (-1 ≤ lo ∧ lo ≤ p - 1) → (hi = h0 + (p - 1 - lo) ∧ hi ≤ mN al t) → (p ≤ h0 ∧ h0 ≤ p + 1) → (∀ k, 0 ≤ k → k < p - 1 - lo → 0 ≤ p - 1 - k ∧ h0 + k < mN al t ∧ mF al t (p - 1 - k) = mF al t (h0 + k)) → (lo + 1).toNat < N → G g E 6 0 0 [(wMo g mo mst mac mmk mr mrd mrm mcm mtp msz mtk mbg men mls mvl mft mfp mfk mdp mto), (wMAll g mo al)] 57 [(0, .ref (mo 0)), (1, .int (iI t)), (2, .int (iI p)), (3, .int (iI e)), (4, .int (iI lo)), (5, .int (iI hi))] [] := by
    intro N
    induction N with
    | zero => intro lo hi _ _ _ _ _ _ hN; exact absurd hN (Nat.not_lt_zero _)
    | succ N ih57 =>
      intro lo hi htt hp hlo hhi h0r hv hN
      have hl_t := hM.2 t htt.1 htt.2
      refine r_iload 59 hE 4 dX9_mirror_57 rfl rfl ?_
      refine r_if_lt 62 98 hE dX9_mirror_59 rfl (by decide) (by omega) (fun c59 => ?_) (fun c59 => ?_)
      · skip
        refine r_aload_n 99 hE 0 dX9_mirror_98 rfl rfl rfl ?_
        refine r_iload 101 hE 5 dX9_mirror_99 rfl rfl ?_
        refine r_iload 103 hE 4 dX9_mirror_101 rfl rfl ?_
        refine r_isub 104 hE (hi - lo) dX9_mirror_103 rfl rfl ?_
        refine r_iconst 105 hE dX9_mirror_104 rfl ?_
        refine r_isub 106 hE ((hi - lo) - 1) dX9_mirror_105 rfl rfl ?_
        refine r_callV 109 hE [0] [1] [(wMo g mo mst mac mmk mr mrd mrm mcm mtp msz mtk mbg men mls mvl mft mfp mfk mdp mto)] [(wMAll g mo al)] 0 9 ok9 [] (c_X9_gives) dX9_mirror_106 rfl rfl wd_1334 wd_1336 ws_79 wd_12 wd_1337 ne_X9 np_X9_gives (Nat.le_of_ble_eq_true rfl)  (by decide) (by decide) rfl (Nat.le_of_ble_eq_true rfl) rfl rfl rfl rfl (by decide) rfl (fun v1 f1 hp => ?_)
        obtain ⟨rfl, rfl⟩ := hp
        show G g E _ _ _ [(wMo g mo 0 mac mmk mr mrd mrm mcm mtp msz mtk mbg men mls mvl mft mfp mfk mdp mto), (wMAll g mo al)] 109 [(0, .ref (mo 0)), (1, .int (iI t)), (2, .int (iI p)), (3, .int (iI e)), (4, .int (iI lo)), (5, .int (iI hi))] [.int (iI ((hi - lo) - 1))]
        refine r_ireturn hE hR [(wMo g mo 0 mac mmk mr mrd mrm mcm mtp msz mtk mbg men mls mvl mft mfp mfk mdp mto), (wMAll g mo al)] dX9_mirror_109 (Nat.le_of_ble_eq_true rfl) (Nat.le_of_ble_eq_true rfl) rfl ?_
        refine ⟨_, _, rfl, rfl, (by unfold wpF; (repeat (first | rw [if_pos (by omega)] | rw [if_neg (by omega)]))), Or.inl ⟨rfl, p - 1 - lo, ?_, ?_⟩⟩
        · rw [← hh0]; refine ⟨by omega, hv, fun z => ?_⟩
          rw [show p - 1 - (p - 1 - lo) = lo by omega, ← hhi.1] at z
          first
            | omega
            | exact c86 z.2.2
        · by_cases z : e = 0
          · rw [if_pos z] at hh0 ⊢; omega
          · rw [if_neg z] at hh0 ⊢; omega
      · skip
        refine r_iload 64 hE 5 dX9_mirror_62 rfl rfl ?_
        refine r_aload_n 65 hE 0 dX9_mirror_64 rfl rfl rfl ?_
        refine r_iload_n 66 hE 1 dX9_mirror_65 rfl rfl rfl ?_
        refine r_callV 69 hE [0, 1] [] [(wMo g mo mst mac mmk mr mrd mrm mcm mtp msz mtk mbg men mls mvl mft mfp mfk mdp mto), (wMAll g mo al)] [] 0 9 ok9 [.int (iI hi)] (c_X9_sizeOf (by omega)) dX9_mirror_66 rfl rfl wd_1273 wd_1275 ws_65 wd_12 wd_1276 ne_X9 np_X9_sizeOf (Nat.le_of_ble_eq_true rfl)  (by decide) (by decide) rfl (Nat.le_of_ble_eq_true rfl) rfl rfl rfl rfl (by decide) rfl (fun v1 f1 hp => ?_)
        obtain ⟨rfl, rfl⟩ := hp
        show G g E _ _ _ [(wMo g mo mst mac mmk mr mrd mrm mcm mtp msz mtk mbg men mls mvl mft mfp mfk mdp mto), (wMAll g mo al)] 69 [(0, .ref (mo 0)), (1, .int (iI t)), (2, .int (iI p)), (3, .int (iI e)), (4, .int (iI lo)), (5, .int (iI hi))] [.int (iI (mN al t)), .int (iI hi)]
        refine r_icmp_ge 72 98 hE dX9_mirror_69 rfl (by decide) (by omega) (fun c69 => ?_) (fun c69 => ?_)
        · skip
          refine r_aload_n 99 hE 0 dX9_mirror_98 rfl rfl rfl ?_
          refine r_iload 101 hE 5 dX9_mirror_99 rfl rfl ?_
          refine r_iload 103 hE 4 dX9_mirror_101 rfl rfl ?_
          refine r_isub 104 hE (hi - lo) dX9_mirror_103 rfl rfl ?_
          refine r_iconst 105 hE dX9_mirror_104 rfl ?_
          refine r_isub 106 hE ((hi - lo) - 1) dX9_mirror_105 rfl rfl ?_
          refine r_callV 109 hE [0] [1] [(wMo g mo mst mac mmk mr mrd mrm mcm mtp msz mtk mbg men mls mvl mft mfp mfk mdp mto)] [(wMAll g mo al)] 0 9 ok9 [] (c_X9_gives) dX9_mirror_106 rfl rfl wd_1334 wd_1336 ws_79 wd_12 wd_1337 ne_X9 np_X9_gives (Nat.le_of_ble_eq_true rfl)  (by decide) (by decide) rfl (Nat.le_of_ble_eq_true rfl) rfl rfl rfl rfl (by decide) rfl (fun v1 f1 hp => ?_)
          obtain ⟨rfl, rfl⟩ := hp
          show G g E _ _ _ [(wMo g mo 0 mac mmk mr mrd mrm mcm mtp msz mtk mbg men mls mvl mft mfp mfk mdp mto), (wMAll g mo al)] 109 [(0, .ref (mo 0)), (1, .int (iI t)), (2, .int (iI p)), (3, .int (iI e)), (4, .int (iI lo)), (5, .int (iI hi))] [.int (iI ((hi - lo) - 1))]
          refine r_ireturn hE hR [(wMo g mo 0 mac mmk mr mrd mrm mcm mtp msz mtk mbg men mls mvl mft mfp mfk mdp mto), (wMAll g mo al)] dX9_mirror_109 (Nat.le_of_ble_eq_true rfl) (Nat.le_of_ble_eq_true rfl) rfl ?_
          refine ⟨_, _, rfl, rfl, (by unfold wpF; (repeat (first | rw [if_pos (by omega)] | rw [if_neg (by omega)]))), Or.inl ⟨rfl, p - 1 - lo, ?_, ?_⟩⟩
          · rw [← hh0]; refine ⟨by omega, hv, fun z => ?_⟩
            rw [show p - 1 - (p - 1 - lo) = lo by omega, ← hhi.1] at z
            first
              | omega
              | exact c86 z.2.2
          · by_cases z : e = 0
            · rw [if_pos z] at hh0 ⊢; omega
            · rw [if_neg z] at hh0 ⊢; omega
        · skip
          refine r_aload_n 73 hE 0 dX9_mirror_72 rfl rfl rfl ?_
          refine r_iload_n 74 hE 1 dX9_mirror_73 rfl rfl rfl ?_
          refine r_iload 76 hE 4 dX9_mirror_74 rfl rfl ?_
          refine r_callV 79 hE [0, 1] [] [(wMo g mo mst mac mmk mr mrd mrm mcm mtp msz mtk mbg men mls mvl mft mfp mfk mdp mto), (wMAll g mo al)] [] 0 9 ok9 [] (c_X9_at (by omega)) dX9_mirror_76 rfl rfl wd_1277 wd_1279 ws_66 wd_12 wd_1280 ne_X9 np_X9_at (Nat.le_of_ble_eq_true rfl)  (by decide) (by decide) rfl (Nat.le_of_ble_eq_true rfl) rfl rfl rfl rfl (by decide) rfl (fun v1 f1 hp => ?_)
          obtain ⟨rfl, rfl⟩ := hp
          show G g E _ _ _ [(wMo g mo mst mac mmk mr mrd mrm mcm mtp msz mtk mbg men mls mvl mft mfp mfk mdp mto), (wMAll g mo al)] 79 [(0, .ref (mo 0)), (1, .int (iI t)), (2, .int (iI p)), (3, .int (iI e)), (4, .int (iI lo)), (5, .int (iI hi))] [.int (iI (mF al t lo))]
          refine r_aload_n 80 hE 0 dX9_mirror_79 rfl rfl rfl ?_
          refine r_iload_n 81 hE 1 dX9_mirror_80 rfl rfl rfl ?_
          refine r_iload 83 hE 5 dX9_mirror_81 rfl rfl ?_
          refine r_callV 86 hE [0, 1] [] [(wMo g mo mst mac mmk mr mrd mrm mcm mtp msz mtk mbg men mls mvl mft mfp mfk mdp mto), (wMAll g mo al)] [] 0 9 ok9 [.int (iI (mF al t lo))] (c_X9_at (by omega)) dX9_mirror_83 rfl rfl wd_1277 wd_1279 ws_66 wd_12 wd_1280 ne_X9 np_X9_at (Nat.le_of_ble_eq_true rfl)  (by decide) (by decide) rfl (Nat.le_of_ble_eq_true rfl) rfl rfl rfl rfl (by decide) rfl (fun v1 f1 hp => ?_)
          obtain ⟨rfl, rfl⟩ := hp
          show G g E _ _ _ [(wMo g mo mst mac mmk mr mrd mrm mcm mtp msz mtk mbg men mls mvl mft mfp mfk mdp mto), (wMAll g mo al)] 86 [(0, .ref (mo 0)), (1, .int (iI t)), (2, .int (iI p)), (3, .int (iI e)), (4, .int (iI lo)), (5, .int (iI hi))] [.int (iI (mF al t hi)), .int (iI (mF al t lo))]
          refine r_icmp_ne 89 98 hE dX9_mirror_86 rfl (by decide) (by have h1 := hl_t.2 lo (by omega) (by omega); have h2 := hl_t.2 hi (by omega) (by omega); omega) (fun c86 => ?_) (fun c86 => ?_)
          · skip
            refine r_aload_n 99 hE 0 dX9_mirror_98 rfl rfl rfl ?_
            refine r_iload 101 hE 5 dX9_mirror_99 rfl rfl ?_
            refine r_iload 103 hE 4 dX9_mirror_101 rfl rfl ?_
            refine r_isub 104 hE (hi - lo) dX9_mirror_103 rfl rfl ?_
            refine r_iconst 105 hE dX9_mirror_104 rfl ?_
            refine r_isub 106 hE ((hi - lo) - 1) dX9_mirror_105 rfl rfl ?_
            refine r_callV 109 hE [0] [1] [(wMo g mo mst mac mmk mr mrd mrm mcm mtp msz mtk mbg men mls mvl mft mfp mfk mdp mto)] [(wMAll g mo al)] 0 9 ok9 [] (c_X9_gives) dX9_mirror_106 rfl rfl wd_1334 wd_1336 ws_79 wd_12 wd_1337 ne_X9 np_X9_gives (Nat.le_of_ble_eq_true rfl)  (by decide) (by decide) rfl (Nat.le_of_ble_eq_true rfl) rfl rfl rfl rfl (by decide) rfl (fun v1 f1 hp => ?_)
            obtain ⟨rfl, rfl⟩ := hp
            show G g E _ _ _ [(wMo g mo 0 mac mmk mr mrd mrm mcm mtp msz mtk mbg men mls mvl mft mfp mfk mdp mto), (wMAll g mo al)] 109 [(0, .ref (mo 0)), (1, .int (iI t)), (2, .int (iI p)), (3, .int (iI e)), (4, .int (iI lo)), (5, .int (iI hi))] [.int (iI ((hi - lo) - 1))]
            refine r_ireturn hE hR [(wMo g mo 0 mac mmk mr mrd mrm mcm mtp msz mtk mbg men mls mvl mft mfp mfk mdp mto), (wMAll g mo al)] dX9_mirror_109 (Nat.le_of_ble_eq_true rfl) (Nat.le_of_ble_eq_true rfl) rfl ?_
            refine ⟨_, _, rfl, rfl, (by unfold wpF; (repeat (first | rw [if_pos (by omega)] | rw [if_neg (by omega)]))), Or.inl ⟨rfl, p - 1 - lo, ?_, ?_⟩⟩
            · rw [← hh0]; refine ⟨by omega, hv, fun z => ?_⟩
              rw [show p - 1 - (p - 1 - lo) = lo by omega, ← hhi.1] at z
              first
                | omega
                | exact c86 z.2.2
            · by_cases z : e = 0
              · rw [if_pos z] at hh0 ⊢; omega
              · rw [if_neg z] at hh0 ⊢; omega
          · skip
            have hv2 : ∀ k, 0 ≤ k → k < p - 1 - (lo + -1) → 0 ≤ p - 1 - k ∧ h0 + k < mN al t ∧ mF al t (p - 1 - k) = mF al t (h0 + k) := fun k a b => by
              by_cases e9 : k = p - 1 - lo
              · subst e9; refine ⟨by omega, by omega, ?_⟩; rw [show p - 1 - (p - 1 - lo) = lo by omega, ← hhi.1]; exact c86
              · exact hv k a (by omega)
            refine r_iinc 92 hE 4 (lo + (-1)) [(4, .int (iI (lo + (-1)))), (0, .ref (mo 0)), (1, .int (iI t)), (2, .int (iI p)), (3, .int (iI e)), (5, .int (iI hi))] dX9_mirror_89 rfl rfl rfl (by decide) rfl ?_
            refine r_iinc 95 hE 5 (hi + 1) [(5, .int (iI (hi + 1))), (4, .int (iI (lo + (-1)))), (0, .ref (mo 0)), (1, .int (iI t)), (2, .int (iI p)), (3, .int (iI e))] dX9_mirror_92 rfl rfl rfl (by decide) rfl ?_
            refine r_goto 57 hE dX9_mirror_95 (by decide) ?_
            refine G.to (fs' := [(wMo g mo mst mac mmk mr mrd mrm mcm mtp msz mtk mbg men mls mvl mft mfp mfk mdp mto), (wMAll g mo al)]) (lv' := [(0, .ref (mo 0)), (1, .int (iI t)), (2, .int (iI p)), (3, .int (iI e)), (4, .int (iI (lo + (-1)))), (5, .int (iI (hi + 1)))]) [0, 1] [2, 3, 4, 5, 1, 0] rfl rfl rfl ?_
            exact ih57 (lo + (-1)) (hi + 1) (by first | exact c15 | exact htt) (by omega) (by omega) (by omega) (by omega) (by first | exact hv2 | exact (fun k a b => absurd b (by omega))) (by omega)
  refine r_iload_n 1 hE 2 dX9_mirror_0 rfl rfl rfl ?_
  refine r_if_ge 4 10 hE dX9_mirror_1 rfl (by decide) (by omega) (fun c1 => ?_) (fun c1 => ?_)
  · skip
    refine r_aload_n 11 hE 0 dX9_mirror_10 rfl rfl rfl ?_
    refine r_iload_n 12 hE 1 dX9_mirror_11 rfl rfl rfl ?_
    refine r_callV 15 hE [0, 1] [] [(wMo g mo mst mac mmk mr mrd mrm mcm mtp msz mtk mbg men mls mvl mft mfp mfk mdp mto), (wMAll g mo al)] [] 0 9 ok9 [] (c_X9_isText (by omega) (by omega)) dX9_mirror_12 rfl rfl wd_1346 wd_1348 ws_80 wd_12 wd_1349 ne_X9 np_X9_isText (Nat.le_of_ble_eq_true rfl)  (by decide) (by decide) rfl (Nat.le_of_ble_eq_true rfl) rfl rfl rfl rfl (by decide) rfl (fun v1 f1 hp => ?_)
    obtain ⟨rfl, rfl⟩ := hp
    show G g E _ _ _ [(wMo g mo mst mac mmk mr mrd mrm mcm mtp msz mtk mbg men mls mvl mft mfp mfk mdp mto), (wMAll g mo al)] 15 [(0, .ref (mo 0)), (1, .int (iI t)), (2, .int (iI p)), (3, .int (iI e))] [.int (iI (bI (0 ≤ t ∧ t < al 0)))]
    refine r_if_ne 18 24 hE dX9_mirror_15 rfl (by decide) (bI_rg _) (fun c15 => ?_) (fun c15 => ?_)
    · skip
      have c15 := bI1 c15
      have hl_t := hM.2 t c15.1 c15.2
      refine r_iload_n 25 hE 2 dX9_mirror_24 rfl rfl rfl ?_
      refine r_aload_n 26 hE 0 dX9_mirror_25 rfl rfl rfl ?_
      refine r_iload_n 27 hE 1 dX9_mirror_26 rfl rfl rfl ?_
      refine r_callV 30 hE [0, 1] [] [(wMo g mo mst mac mmk mr mrd mrm mcm mtp msz mtk mbg men mls mvl mft mfp mfk mdp mto), (wMAll g mo al)] [] 0 9 ok9 [.int (iI p)] (c_X9_sizeOf (by omega)) dX9_mirror_27 rfl rfl wd_1273 wd_1275 ws_65 wd_12 wd_1276 ne_X9 np_X9_sizeOf (Nat.le_of_ble_eq_true rfl)  (by decide) (by decide) rfl (Nat.le_of_ble_eq_true rfl) rfl rfl rfl rfl (by decide) rfl (fun v1 f1 hp => ?_)
      obtain ⟨rfl, rfl⟩ := hp
      show G g E _ _ _ [(wMo g mo mst mac mmk mr mrd mrm mcm mtp msz mtk mbg men mls mvl mft mfp mfk mdp mto), (wMAll g mo al)] 30 [(0, .ref (mo 0)), (1, .int (iI t)), (2, .int (iI p)), (3, .int (iI e))] [.int (iI (mN al t)), .int (iI p)]
      refine r_icmp_lt 33 39 hE dX9_mirror_30 rfl (by decide) (by omega) (fun c30 => ?_) (fun c30 => ?_)
      · skip
        refine r_iload_n 40 hE 2 dX9_mirror_39 rfl rfl rfl ?_
        refine r_iconst 41 hE dX9_mirror_40 rfl ?_
        refine r_isub 42 hE (p - 1) dX9_mirror_41 rfl rfl ?_
        refine r_istore 44 hE [(4, .int (iI (p - 1))), (0, .ref (mo 0)), (1, .int (iI t)), (2, .int (iI p)), (3, .int (iI e))] dX9_mirror_42 rfl (by decide) rfl ?_
        refine r_iload_n 45 hE 4 dX9_mirror_44 rfl rfl rfl ?_
        refine r_if_eq 48 52 hE dX9_mirror_45 rfl (by decide) (by omega) (fun c45 => ?_) (fun c45 => ?_)
        · skip
          rw [if_pos c45] at hh0
          refine r_iload_n 53 hE 3 dX9_mirror_52 rfl rfl rfl ?_
          refine r_iconst 54 hE dX9_mirror_53 rfl ?_
          refine r_iadd 55 hE (p + 1) dX9_mirror_54 rfl rfl ?_
          refine r_istore 57 hE [(5, .int (iI (p + 1))), (4, .int (iI (p - 1))), (0, .ref (mo 0)), (1, .int (iI t)), (2, .int (iI p)), (3, .int (iI e))] dX9_mirror_55 rfl (by decide) rfl ?_
          refine G.to (fs' := [(wMo g mo mst mac mmk mr mrd mrm mcm mtp msz mtk mbg men mls mvl mft mfp mfk mdp mto), (wMAll g mo al)]) (lv' := [(0, .ref (mo 0)), (1, .int (iI t)), (2, .int (iI p)), (3, .int (iI e)), (4, .int (iI (p - 1))), (5, .int (iI (p + 1)))]) [0, 1] [2, 3, 4, 5, 1, 0] rfl rfl rfl ?_
          exact cut57 _ (p - 1) (p + 1) (by first | exact c15 | exact htt) (by omega) (by omega) (by omega) (by omega) (by first | exact hv2 | exact (fun k a b => absurd b (by omega))) (Nat.lt_succ_self _)
        · skip
          rw [if_neg c45] at hh0
          refine r_iload_n 49 hE 3 dX9_mirror_48 rfl rfl rfl ?_
          refine r_goto 55 hE dX9_mirror_49 (by decide) ?_
          refine r_istore 57 hE [(5, .int (iI p)), (4, .int (iI (p - 1))), (0, .ref (mo 0)), (1, .int (iI t)), (2, .int (iI p)), (3, .int (iI e))] dX9_mirror_55 rfl (by decide) rfl ?_
          refine G.to (fs' := [(wMo g mo mst mac mmk mr mrd mrm mcm mtp msz mtk mbg men mls mvl mft mfp mfk mdp mto), (wMAll g mo al)]) (lv' := [(0, .ref (mo 0)), (1, .int (iI t)), (2, .int (iI p)), (3, .int (iI e)), (4, .int (iI (p - 1))), (5, .int (iI p))]) [0, 1] [2, 3, 4, 5, 1, 0] rfl rfl rfl ?_
          exact cut57 _ (p - 1) p (by first | exact c15 | exact htt) (by omega) (by omega) (by omega) (by omega) (by first | exact hv2 | exact (fun k a b => absurd b (by omega))) (Nat.lt_succ_self _)
      · skip
        refine r_aload_n 34 hE 0 dX9_mirror_33 rfl rfl rfl ?_
        refine r_iconst 35 hE dX9_mirror_34 rfl ?_
        refine r_callV 38 hE [0] [1] [(wMo g mo mst mac mmk mr mrd mrm mcm mtp msz mtk mbg men mls mvl mft mfp mfk mdp mto)] [(wMAll g mo al)] 0 9 ok9 [] (c_X9_refuse) dX9_mirror_35 rfl rfl wd_1186 wd_1188 ws_47 wd_12 wd_1189 ne_X9 np_X9_refuse (Nat.le_of_ble_eq_true rfl)  (by decide) (by decide) rfl (Nat.le_of_ble_eq_true rfl) rfl rfl rfl rfl (by decide) rfl (fun v1 f1 hp => ?_)
        obtain ⟨rfl, rfl⟩ := hp
        show G g E _ _ _ [(wMo g mo 5 mac mmk mr mrd mrm mcm mtp msz mtk mbg men mls mvl mft mfp mfk mdp mto), (wMAll g mo al)] 38 [(0, .ref (mo 0)), (1, .int (iI t)), (2, .int (iI p)), (3, .int (iI e))] [.int (iI (-1))]
        refine r_ireturn hE hR [(wMo g mo 5 mac mmk mr mrd mrm mcm mtp msz mtk mbg men mls mvl mft mfp mfk mdp mto), (wMAll g mo al)] dX9_mirror_38 (Nat.le_of_ble_eq_true rfl) (Nat.le_of_ble_eq_true rfl) rfl ?_
        exact ⟨_, _, rfl, rfl, (by unfold wpF; (repeat (first | rw [if_pos (by omega)] | rw [if_neg (by omega)]))), Or.inr ⟨by decide, rfl⟩⟩
    · skip
      have c15 := bI0 c15
      refine r_aload_n 19 hE 0 dX9_mirror_18 rfl rfl rfl ?_
      refine r_iconst 20 hE dX9_mirror_19 rfl ?_
      refine r_callV 23 hE [0] [1] [(wMo g mo mst mac mmk mr mrd mrm mcm mtp msz mtk mbg men mls mvl mft mfp mfk mdp mto)] [(wMAll g mo al)] 0 9 ok9 [] (c_X9_refuse) dX9_mirror_20 rfl rfl wd_1186 wd_1188 ws_47 wd_12 wd_1189 ne_X9 np_X9_refuse (Nat.le_of_ble_eq_true rfl)  (by decide) (by decide) rfl (Nat.le_of_ble_eq_true rfl) rfl rfl rfl rfl (by decide) rfl (fun v1 f1 hp => ?_)
      obtain ⟨rfl, rfl⟩ := hp
      show G g E _ _ _ [(wMo g mo 2 mac mmk mr mrd mrm mcm mtp msz mtk mbg men mls mvl mft mfp mfk mdp mto), (wMAll g mo al)] 23 [(0, .ref (mo 0)), (1, .int (iI t)), (2, .int (iI p)), (3, .int (iI e))] [.int (iI (-1))]
      refine r_ireturn hE hR [(wMo g mo 2 mac mmk mr mrd mrm mcm mtp msz mtk mbg men mls mvl mft mfp mfk mdp mto), (wMAll g mo al)] dX9_mirror_23 (Nat.le_of_ble_eq_true rfl) (Nat.le_of_ble_eq_true rfl) rfl ?_
      exact ⟨_, _, rfl, rfl, (by unfold wpF; (repeat (first | rw [if_pos (by omega)] | rw [if_neg (by omega)]))), Or.inr ⟨by decide, rfl⟩⟩
  · skip
    refine r_aload_n 5 hE 0 dX9_mirror_4 rfl rfl rfl ?_
    refine r_iconst 6 hE dX9_mirror_5 rfl ?_
    refine r_callV 9 hE [0] [1] [(wMo g mo mst mac mmk mr mrd mrm mcm mtp msz mtk mbg men mls mvl mft mfp mfk mdp mto)] [(wMAll g mo al)] 0 9 ok9 [] (c_X9_refuse) dX9_mirror_6 rfl rfl wd_1186 wd_1188 ws_47 wd_12 wd_1189 ne_X9 np_X9_refuse (Nat.le_of_ble_eq_true rfl)  (by decide) (by decide) rfl (Nat.le_of_ble_eq_true rfl) rfl rfl rfl rfl (by decide) rfl (fun v1 f1 hp => ?_)
    obtain ⟨rfl, rfl⟩ := hp
    show G g E _ _ _ [(wMo g mo 1 mac mmk mr mrd mrm mcm mtp msz mtk mbg men mls mvl mft mfp mfk mdp mto), (wMAll g mo al)] 9 [(0, .ref (mo 0)), (1, .int (iI t)), (2, .int (iI p)), (3, .int (iI e))] [.int (iI (-1))]
    refine r_ireturn hE hR [(wMo g mo 1 mac mmk mr mrd mrm mcm mtp msz mtk mbg men mls mvl mft mfp mfk mdp mto), (wMAll g mo al)] dX9_mirror_9 (Nat.le_of_ble_eq_true rfl) (Nat.le_of_ble_eq_true rfl) rfl ?_
    exact ⟨_, _, rfl, rfl, (by unfold wpF; (repeat (first | rw [if_pos (by omega)] | rw [if_neg (by omega)]))), Or.inr ⟨by decide, rfl⟩⟩
set_option maxHeartbeats 4000000 in
set_option maxRecDepth 100000 in
theorem c_X9_find {g : Gm} {mo : Nat → Nat} {mst mac mmk mr mrd mrm mcm mtp msz mtk mbg men mls mvl mft mfp mfk mdp mto : Int} {al : Int → Int} {t u fr : Int} (hM : MTx al) (hr_t : -2147483648 ≤ t ∧ t ≤ 2147483647) (hr_u : -2147483648 ≤ u ∧ u ≤ 2147483647) (hr_fr : -2147483648 ≤ fr ∧ fr ≤ 2147483647) : Ct g 3 0 0 yX9_find cX9_find 5 (some .int) [.ref (mo 0), .int (iI t), .int (iI u), .int (iI fr)] [(wMo g mo mst mac mmk mr mrd mrm mcm mtp msz mtk mbg men mls mvl mft mfp mfk mdp mto), (wMAll g mo al)] (fun v_ w_ => ∃ r9 : Int, ∃ s9 : Int, v_ = some (.int (iI r9)) ∧ w_ = [(wMo g mo s9 mac mmk mr mrd mrm mcm mtp msz mtk mbg men mls mvl mft mfp mfk mdp mto), (wMAll g mo al)] ∧ (QFind (mF al) (mN al) (al 0) t u fr r9 s9)) := by
  refine Ct.of (by decide) (Nat.le_of_ble_eq_true rfl) (lv := [(0, .ref (mo 0)), (1, .int (iI t)), (2, .int (iI u)), (3, .int (iI fr))]) rfl ?_
  intro E hE hR hnm
  have hc := hM.1
  refine r_iload_n 1 hE 3 dX9_find_0 rfl rfl rfl ?_
  refine r_if_ge 4 10 hE dX9_find_1 rfl (by decide) (by omega) (fun c1 => ?_) (fun c1 => ?_)
  · skip
    refine r_aload_n 11 hE 0 dX9_find_10 rfl rfl rfl ?_
    refine r_iload_n 12 hE 1 dX9_find_11 rfl rfl rfl ?_
    refine r_callV 15 hE [0, 1] [] [(wMo g mo mst mac mmk mr mrd mrm mcm mtp msz mtk mbg men mls mvl mft mfp mfk mdp mto), (wMAll g mo al)] [] 0 9 ok9 [] (c_X9_isText (by omega) (by omega)) dX9_find_12 rfl rfl wd_1346 wd_1348 ws_80 wd_12 wd_1349 ne_X9 np_X9_isText (Nat.le_of_ble_eq_true rfl)  (by decide) (by decide) rfl (Nat.le_of_ble_eq_true rfl) rfl rfl rfl rfl (by decide) rfl (fun v1 f1 hp => ?_)
    obtain ⟨rfl, rfl⟩ := hp
    show G g E _ _ _ [(wMo g mo mst mac mmk mr mrd mrm mcm mtp msz mtk mbg men mls mvl mft mfp mfk mdp mto), (wMAll g mo al)] 15 [(0, .ref (mo 0)), (1, .int (iI t)), (2, .int (iI u)), (3, .int (iI fr))] [.int (iI (bI (0 ≤ t ∧ t < al 0)))]
    refine r_if_eq 18 26 hE dX9_find_15 rfl (by decide) (bI_rg _) (fun c15 => ?_) (fun c15 => ?_)
    · skip
      have c15 := bI0 c15
      refine r_aload_n 27 hE 0 dX9_find_26 rfl rfl rfl ?_
      refine r_iconst 28 hE dX9_find_27 rfl ?_
      refine r_callV 31 hE [0] [1] [(wMo g mo mst mac mmk mr mrd mrm mcm mtp msz mtk mbg men mls mvl mft mfp mfk mdp mto)] [(wMAll g mo al)] 0 9 ok9 [] (c_X9_refuse) dX9_find_28 rfl rfl wd_1186 wd_1188 ws_47 wd_12 wd_1189 ne_X9 np_X9_refuse (Nat.le_of_ble_eq_true rfl)  (by decide) (by decide) rfl (Nat.le_of_ble_eq_true rfl) rfl rfl rfl rfl (by decide) rfl (fun v1 f1 hp => ?_)
      obtain ⟨rfl, rfl⟩ := hp
      show G g E _ _ _ [(wMo g mo 2 mac mmk mr mrd mrm mcm mtp msz mtk mbg men mls mvl mft mfp mfk mdp mto), (wMAll g mo al)] 31 [(0, .ref (mo 0)), (1, .int (iI t)), (2, .int (iI u)), (3, .int (iI fr))] [.int (iI (-1))]
      refine r_ireturn hE hR [(wMo g mo 2 mac mmk mr mrd mrm mcm mtp msz mtk mbg men mls mvl mft mfp mfk mdp mto), (wMAll g mo al)] dX9_find_31 (Nat.le_of_ble_eq_true rfl) (Nat.le_of_ble_eq_true rfl) rfl ?_
      exact ⟨_, _, rfl, rfl, Or.inr (Or.inl ⟨by omega, by unfold HasT; omega, rfl, rfl⟩)⟩
    · skip
      have c15 := bI1 c15
      have hl_t := hM.2 t c15.1 c15.2
      refine r_aload_n 19 hE 0 dX9_find_18 rfl rfl rfl ?_
      refine r_iload_n 20 hE 2 dX9_find_19 rfl rfl rfl ?_
      refine r_callV 23 hE [0, 1] [] [(wMo g mo mst mac mmk mr mrd mrm mcm mtp msz mtk mbg men mls mvl mft mfp mfk mdp mto), (wMAll g mo al)] [] 0 9 ok9 [] (c_X9_isText (by omega) (by omega)) dX9_find_20 rfl rfl wd_1346 wd_1348 ws_80 wd_12 wd_1349 ne_X9 np_X9_isText (Nat.le_of_ble_eq_true rfl)  (by decide) (by decide) rfl (Nat.le_of_ble_eq_true rfl) rfl rfl rfl rfl (by decide) rfl (fun v1 f1 hp => ?_)
      obtain ⟨rfl, rfl⟩ := hp
      show G g E _ _ _ [(wMo g mo mst mac mmk mr mrd mrm mcm mtp msz mtk mbg men mls mvl mft mfp mfk mdp mto), (wMAll g mo al)] 23 [(0, .ref (mo 0)), (1, .int (iI t)), (2, .int (iI u)), (3, .int (iI fr))] [.int (iI (bI (0 ≤ u ∧ u < al 0)))]
      refine r_if_ne 26 32 hE dX9_find_23 rfl (by decide) (bI_rg _) (fun c23 => ?_) (fun c23 => ?_)
      · skip
        have c23 := bI1 c23
        have hl_u := hM.2 u c23.1 c23.2
        refine r_iload_n 33 hE 3 dX9_find_32 rfl rfl rfl ?_
        refine r_aload_n 34 hE 0 dX9_find_33 rfl rfl rfl ?_
        refine r_iload_n 35 hE 1 dX9_find_34 rfl rfl rfl ?_
        refine r_callV 38 hE [0, 1] [] [(wMo g mo mst mac mmk mr mrd mrm mcm mtp msz mtk mbg men mls mvl mft mfp mfk mdp mto), (wMAll g mo al)] [] 0 9 ok9 [.int (iI fr)] (c_X9_sizeOf (by omega)) dX9_find_35 rfl rfl wd_1273 wd_1275 ws_65 wd_12 wd_1276 ne_X9 np_X9_sizeOf (Nat.le_of_ble_eq_true rfl)  (by decide) (by decide) rfl (Nat.le_of_ble_eq_true rfl) rfl rfl rfl rfl (by decide) rfl (fun v1 f1 hp => ?_)
        obtain ⟨rfl, rfl⟩ := hp
        show G g E _ _ _ [(wMo g mo mst mac mmk mr mrd mrm mcm mtp msz mtk mbg men mls mvl mft mfp mfk mdp mto), (wMAll g mo al)] 38 [(0, .ref (mo 0)), (1, .int (iI t)), (2, .int (iI u)), (3, .int (iI fr))] [.int (iI (mN al t)), .int (iI fr)]
        refine r_icmp_le 41 47 hE dX9_find_38 rfl (by decide) (by omega) (fun c38 => ?_) (fun c38 => ?_)
        · skip
          refine r_aload_n 48 hE 0 dX9_find_47 rfl rfl rfl ?_
          refine r_iload_n 49 hE 1 dX9_find_48 rfl rfl rfl ?_
          refine r_iload_n 50 hE 2 dX9_find_49 rfl rfl rfl ?_
          refine r_iload_n 51 hE 3 dX9_find_50 rfl rfl rfl ?_
          refine r_callV 54 hE [0, 1] [] [(wMo g mo mst mac mmk mr mrd mrm mcm mtp msz mtk mbg men mls mvl mft mfp mfk mdp mto), (wMAll g mo al)] [] 0 9 ok9 [] (c_X9_findIn (hM) (by omega) (by omega) (by omega)) dX9_find_51 rfl rfl wd_1497 wd_1499 ws_98 wd_12 wd_1500 ne_X9 np_X9_findIn (Nat.le_of_ble_eq_true rfl)  (by decide) (by decide) rfl (Nat.le_of_ble_eq_true rfl) rfl rfl rfl rfl (by decide) rfl (fun v1 f1 hp => ?_)
          obtain ⟨r_51, rfl, rfl, h51_0⟩ := hp
          show G g E _ _ _ [(wMo g mo mst mac mmk mr mrd mrm mcm mtp msz mtk mbg men mls mvl mft mfp mfk mdp mto), (wMAll g mo al)] 54 [(0, .ref (mo 0)), (1, .int (iI t)), (2, .int (iI u)), (3, .int (iI fr))] [.int (iI r_51)]
          have hsr : -1 ≤ r_51 ∧ r_51 ≤ 600 := by rcases h51_0 with z | z <;> omega
          refine r_istore 56 hE [(4, .int (iI r_51)), (0, .ref (mo 0)), (1, .int (iI t)), (2, .int (iI u)), (3, .int (iI fr))] dX9_find_54 rfl (by decide) rfl ?_
          refine r_iload 58 hE 0 dX9_find_56 rfl rfl ?_
          refine r_iconst 59 hE dX9_find_58 rfl ?_
          refine r_icmp_ne 62 70 hE dX9_find_59 rfl (by decide) (by omega) (fun c59 => ?_) (fun c59 => ?_)
          · skip
            refine r_aload_n 71 hE 1 dX9_find_70 rfl rfl rfl ?_
            refine r_iload 73 hE 0 dX9_find_71 rfl rfl ?_
            refine r_callV 76 hE [0] [1] [(wMo g mo mst mac mmk mr mrd mrm mcm mtp msz mtk mbg men mls mvl mft mfp mfk mdp mto)] [(wMAll g mo al)] 0 9 ok9 [] (c_X9_gives) dX9_find_73 rfl rfl wd_1334 wd_1336 ws_79 wd_12 wd_1337 ne_X9 np_X9_gives (Nat.le_of_ble_eq_true rfl)  (by decide) (by decide) rfl (Nat.le_of_ble_eq_true rfl) rfl rfl rfl rfl (by decide) rfl (fun v1 f1 hp => ?_)
            obtain ⟨rfl, rfl⟩ := hp
            show G g E _ _ _ [(wMo g mo 0 mac mmk mr mrd mrm mcm mtp msz mtk mbg men mls mvl mft mfp mfk mdp mto), (wMAll g mo al)] 76 [(4, .int (iI r_51)), (0, .ref (mo 0)), (1, .int (iI t)), (2, .int (iI u)), (3, .int (iI fr))] [.int (iI r_51)]
            refine r_ireturn hE hR [(wMo g mo 0 mac mmk mr mrd mrm mcm mtp msz mtk mbg men mls mvl mft mfp mfk mdp mto), (wMAll g mo al)] dX9_find_76 (Nat.le_of_ble_eq_true rfl) (Nat.le_of_ble_eq_true rfl) rfl ?_
            first
              | exact ⟨_, _, rfl, rfl, Or.inr (Or.inr ⟨by omega, ⟨c15, c23⟩, by rw [← c59]; exact h51_0, by rw [if_pos rfl]⟩)⟩
              | exact ⟨_, _, rfl, rfl, Or.inr (Or.inr ⟨by omega, ⟨c15, c23⟩, h51_0, by rw [if_neg c59]⟩)⟩
          · skip
            refine r_aload_n 63 hE 1 dX9_find_62 rfl rfl rfl ?_
            refine r_iconst 64 hE dX9_find_63 rfl ?_
            refine r_callV 67 hE [0] [1] [(wMo g mo mst mac mmk mr mrd mrm mcm mtp msz mtk mbg men mls mvl mft mfp mfk mdp mto)] [(wMAll g mo al)] 0 9 ok9 [] (c_X9_refuse) dX9_find_64 rfl rfl wd_1186 wd_1188 ws_47 wd_12 wd_1189 ne_X9 np_X9_refuse (Nat.le_of_ble_eq_true rfl)  (by decide) (by decide) rfl (Nat.le_of_ble_eq_true rfl) rfl rfl rfl rfl (by decide) rfl (fun v1 f1 hp => ?_)
            obtain ⟨rfl, rfl⟩ := hp
            show G g E _ _ _ [(wMo g mo 5 mac mmk mr mrd mrm mcm mtp msz mtk mbg men mls mvl mft mfp mfk mdp mto), (wMAll g mo al)] 67 [(4, .int (iI r_51)), (0, .ref (mo 0)), (1, .int (iI t)), (2, .int (iI u)), (3, .int (iI fr))] [.int (iI (-1))]
            refine r_goto 76 hE dX9_find_67 (by decide) ?_
            refine r_ireturn hE hR [(wMo g mo 5 mac mmk mr mrd mrm mcm mtp msz mtk mbg men mls mvl mft mfp mfk mdp mto), (wMAll g mo al)] dX9_find_76 (Nat.le_of_ble_eq_true rfl) (Nat.le_of_ble_eq_true rfl) rfl ?_
            first
              | exact ⟨_, _, rfl, rfl, Or.inr (Or.inr ⟨by omega, ⟨c15, c23⟩, by rw [← c59]; exact h51_0, by rw [if_pos rfl]⟩)⟩
              | exact ⟨_, _, rfl, rfl, Or.inr (Or.inr ⟨by omega, ⟨c15, c23⟩, h51_0, by rw [if_neg c59]⟩)⟩
        · skip
          refine r_aload_n 42 hE 0 dX9_find_41 rfl rfl rfl ?_
          refine r_iconst 43 hE dX9_find_42 rfl ?_
          refine r_callV 46 hE [0] [1] [(wMo g mo mst mac mmk mr mrd mrm mcm mtp msz mtk mbg men mls mvl mft mfp mfk mdp mto)] [(wMAll g mo al)] 0 9 ok9 [] (c_X9_refuse) dX9_find_43 rfl rfl wd_1186 wd_1188 ws_47 wd_12 wd_1189 ne_X9 np_X9_refuse (Nat.le_of_ble_eq_true rfl)  (by decide) (by decide) rfl (Nat.le_of_ble_eq_true rfl) rfl rfl rfl rfl (by decide) rfl (fun v1 f1 hp => ?_)
          obtain ⟨rfl, rfl⟩ := hp
          show G g E _ _ _ [(wMo g mo 5 mac mmk mr mrd mrm mcm mtp msz mtk mbg men mls mvl mft mfp mfk mdp mto), (wMAll g mo al)] 46 [(0, .ref (mo 0)), (1, .int (iI t)), (2, .int (iI u)), (3, .int (iI fr))] [.int (iI (-1))]
          refine r_ireturn hE hR [(wMo g mo 5 mac mmk mr mrd mrm mcm mtp msz mtk mbg men mls mvl mft mfp mfk mdp mto), (wMAll g mo al)] dX9_find_46 (Nat.le_of_ble_eq_true rfl) (Nat.le_of_ble_eq_true rfl) rfl ?_
          exact ⟨_, _, rfl, rfl, Or.inr (Or.inr ⟨by omega, ⟨c15, c23⟩, Or.inl ⟨rfl, fun k a b => by omega⟩, by rw [if_pos rfl]⟩)⟩
      · skip
        have c23 := bI0 c23
        refine r_aload_n 27 hE 0 dX9_find_26 rfl rfl rfl ?_
        refine r_iconst 28 hE dX9_find_27 rfl ?_
        refine r_callV 31 hE [0] [1] [(wMo g mo mst mac mmk mr mrd mrm mcm mtp msz mtk mbg men mls mvl mft mfp mfk mdp mto)] [(wMAll g mo al)] 0 9 ok9 [] (c_X9_refuse) dX9_find_28 rfl rfl wd_1186 wd_1188 ws_47 wd_12 wd_1189 ne_X9 np_X9_refuse (Nat.le_of_ble_eq_true rfl)  (by decide) (by decide) rfl (Nat.le_of_ble_eq_true rfl) rfl rfl rfl rfl (by decide) rfl (fun v1 f1 hp => ?_)
        obtain ⟨rfl, rfl⟩ := hp
        show G g E _ _ _ [(wMo g mo 2 mac mmk mr mrd mrm mcm mtp msz mtk mbg men mls mvl mft mfp mfk mdp mto), (wMAll g mo al)] 31 [(0, .ref (mo 0)), (1, .int (iI t)), (2, .int (iI u)), (3, .int (iI fr))] [.int (iI (-1))]
        refine r_ireturn hE hR [(wMo g mo 2 mac mmk mr mrd mrm mcm mtp msz mtk mbg men mls mvl mft mfp mfk mdp mto), (wMAll g mo al)] dX9_find_31 (Nat.le_of_ble_eq_true rfl) (Nat.le_of_ble_eq_true rfl) rfl ?_
        exact ⟨_, _, rfl, rfl, Or.inr (Or.inl ⟨by omega, by unfold HasT; omega, rfl, rfl⟩)⟩
  · skip
    refine r_aload_n 5 hE 0 dX9_find_4 rfl rfl rfl ?_
    refine r_iconst 6 hE dX9_find_5 rfl ?_
    refine r_callV 9 hE [0] [1] [(wMo g mo mst mac mmk mr mrd mrm mcm mtp msz mtk mbg men mls mvl mft mfp mfk mdp mto)] [(wMAll g mo al)] 0 9 ok9 [] (c_X9_refuse) dX9_find_6 rfl rfl wd_1186 wd_1188 ws_47 wd_12 wd_1189 ne_X9 np_X9_refuse (Nat.le_of_ble_eq_true rfl)  (by decide) (by decide) rfl (Nat.le_of_ble_eq_true rfl) rfl rfl rfl rfl (by decide) rfl (fun v1 f1 hp => ?_)
    obtain ⟨rfl, rfl⟩ := hp
    show G g E _ _ _ [(wMo g mo 1 mac mmk mr mrd mrm mcm mtp msz mtk mbg men mls mvl mft mfp mfk mdp mto), (wMAll g mo al)] 9 [(0, .ref (mo 0)), (1, .int (iI t)), (2, .int (iI u)), (3, .int (iI fr))] [.int (iI (-1))]
    refine r_ireturn hE hR [(wMo g mo 1 mac mmk mr mrd mrm mcm mtp msz mtk mbg men mls mvl mft mfp mfk mdp mto), (wMAll g mo al)] dX9_find_9 (Nat.le_of_ble_eq_true rfl) (Nat.le_of_ble_eq_true rfl) rfl ?_
    exact ⟨_, _, rfl, rfl, Or.inl ⟨by omega, rfl, rfl⟩⟩
set_option maxHeartbeats 4000000 in
set_option maxRecDepth 100000 in
theorem c_X9_finds {g : Gm} {mo : Nat → Nat} {mst mac mmk mr mrd mrm mcm mtp msz mtk mbg men mls mvl mft mfp mfk mdp mto : Int} {al : Int → Int} {t u : Int} (hM : MTx al) (hr_t : -2147483648 ≤ t ∧ t ≤ 2147483647) (hr_u : -2147483648 ≤ u ∧ u ≤ 2147483647) : Ct g 3 0 0 yX9_finds cX9_finds 5 (some .int) [.ref (mo 0), .int (iI t), .int (iI u)] [(wMo g mo mst mac mmk mr mrd mrm mcm mtp msz mtk mbg men mls mvl mft mfp mfk mdp mto), (wMAll g mo al)] (fun v_ w_ => ∃ r9 : Int, ∃ s9 : Int, v_ = some (.int (iI r9)) ∧ w_ = [(wMo g mo s9 mac mmk mr mrd mrm mcm mtp msz mtk mbg men mls mvl mft mfp mfk mdp mto), (wMAll g mo al)] ∧ (QFinds (mF al) (mN al) (al 0) t u r9 s9)) := by
  refine Ct.of (by decide) (Nat.le_of_ble_eq_true rfl) (lv := [(0, .ref (mo 0)), (1, .int (iI t)), (2, .int (iI u))]) rfl ?_
  intro E hE hR hnm
  have hc := hM.1
  have cut33 : ∀ (N : Nat) (n : Int) (k : Int), (0 ≤ t ∧ t < al 0) → (0 ≤ u ∧ u < al 0) → (-1 ≤ k ∧ k ≤ 600) → (FdS (mF al u) (mN al u) (mF al t) (mN al t) k n) → (if k = -1 then 0 else 601 - k).toNat < N → G g E 5 0 0 [(wMo g mo mst mac mmk mr mrd mrm mcm mtp msz mtk mbg men mls mvl mft mfp mfk mdp mto), (wMAll g mo al)] 33 [(0, .ref (mo 0)), (1, .int (iI t)), (2, .int (iI u)), (3, .int (iI n)), (4, .int (iI k))] [] := by
    intro N
    induction N with
    | zero => intro n k _ _ _ _ hN; exact absurd hN (Nat.not_lt_zero _)
    | succ N ih33 =>
      intro n k htt huu hk hfd hN
      have hl_t := hM.2 t htt.1 htt.2
      have hl_u := hM.2 u huu.1 huu.2
      refine r_iload 35 hE 4 dX9_finds_33 rfl rfl ?_
      refine r_iconst 36 hE dX9_finds_35 rfl ?_
      refine r_icmp_eq 39 57 hE dX9_finds_36 rfl (by decide) (by omega) (fun c36 => ?_) (fun c36 => ?_)
      · skip
        refine r_aload_n 58 hE 0 dX9_finds_57 rfl rfl rfl ?_
        refine r_iload_n 59 hE 3 dX9_finds_58 rfl rfl rfl ?_
        refine r_callV 62 hE [0] [1] [(wMo g mo mst mac mmk mr mrd mrm mcm mtp msz mtk mbg men mls mvl mft mfp mfk mdp mto)] [(wMAll g mo al)] 0 9 ok9 [] (c_X9_gives) dX9_finds_59 rfl rfl wd_1334 wd_1336 ws_79 wd_12 wd_1337 ne_X9 np_X9_gives (Nat.le_of_ble_eq_true rfl)  (by decide) (by decide) rfl (Nat.le_of_ble_eq_true rfl) rfl rfl rfl rfl (by decide) rfl (fun v1 f1 hp => ?_)
        obtain ⟨rfl, rfl⟩ := hp
        show G g E _ _ _ [(wMo g mo 0 mac mmk mr mrd mrm mcm mtp msz mtk mbg men mls mvl mft mfp mfk mdp mto), (wMAll g mo al)] 62 [(0, .ref (mo 0)), (1, .int (iI t)), (2, .int (iI u)), (3, .int (iI n)), (4, .int (iI k))] [.int (iI n)]
        refine r_ireturn hE hR [(wMo g mo 0 mac mmk mr mrd mrm mcm mtp msz mtk mbg men mls mvl mft mfp mfk mdp mto), (wMAll g mo al)] dX9_finds_62 (Nat.le_of_ble_eq_true rfl) (Nat.le_of_ble_eq_true rfl) rfl ?_
        exact ⟨_, _, rfl, rfl, Or.inr ⟨⟨htt, huu⟩, by rcases hfd with z | z; exact z.2; omega, rfl⟩⟩
      · skip
        refine r_iinc 42 hE 3 (n + 1) [(3, .int (iI (n + 1))), (0, .ref (mo 0)), (1, .int (iI t)), (2, .int (iI u)), (4, .int (iI k))] dX9_finds_39 rfl rfl rfl (by decide) rfl ?_
        refine r_aload_n 43 hE 1 dX9_finds_42 rfl rfl rfl ?_
        refine r_iload_n 44 hE 2 dX9_finds_43 rfl rfl rfl ?_
        refine r_iload_n 45 hE 3 dX9_finds_44 rfl rfl rfl ?_
        refine r_iload 47 hE 4 dX9_finds_45 rfl rfl ?_
        refine r_iconst 48 hE dX9_finds_47 rfl ?_
        refine r_iadd 49 hE (k + 1) dX9_finds_48 rfl rfl ?_
        refine r_callV 52 hE [0, 1] [] [(wMo g mo mst mac mmk mr mrd mrm mcm mtp msz mtk mbg men mls mvl mft mfp mfk mdp mto), (wMAll g mo al)] [] 0 9 ok9 [] (c_X9_findIn (hM) (by omega) (by omega) (by omega)) dX9_finds_49 rfl rfl wd_1497 wd_1499 ws_98 wd_12 wd_1500 ne_X9 np_X9_findIn (Nat.le_of_ble_eq_true rfl)  (by decide) (by decide) rfl (Nat.le_of_ble_eq_true rfl) rfl rfl rfl rfl (by decide) rfl (fun v1 f1 hp => ?_)
        obtain ⟨r_49, rfl, rfl, h49_0⟩ := hp
        show G g E _ _ _ [(wMo g mo mst mac mmk mr mrd mrm mcm mtp msz mtk mbg men mls mvl mft mfp mfk mdp mto), (wMAll g mo al)] 52 [(3, .int (iI (n + 1))), (0, .ref (mo 0)), (1, .int (iI t)), (2, .int (iI u)), (4, .int (iI k))] [.int (iI r_49)]
        have hk2 : -1 ≤ r_49 ∧ r_49 ≤ 600 := by rcases h49_0 with z | z <;> omega
        have hk3 : r_49 = -1 ∨ (k < r_49) := by rcases h49_0 with z | z <;> omega
        refine r_istore 54 hE [(4, .int (iI r_49)), (3, .int (iI (n + 1))), (0, .ref (mo 0)), (1, .int (iI t)), (2, .int (iI u))] dX9_finds_52 rfl (by decide) rfl ?_
        refine r_goto 33 hE dX9_finds_54 (by decide) ?_
        refine G.to (fs' := [(wMo g mo mst mac mmk mr mrd mrm mcm mtp msz mtk mbg men mls mvl mft mfp mfk mdp mto), (wMAll g mo al)]) (lv' := [(0, .ref (mo 0)), (1, .int (iI t)), (2, .int (iI u)), (3, .int (iI (n + 1))), (4, .int (iI r_49))]) [0, 1] [2, 3, 4, 1, 0] rfl rfl rfl ?_
        exact ih33 (n + 1) r_49 (by first | exact c5 | exact htt) (by first | exact c13 | exact huu) (by first | exact hk2) (by first | exact FdS.start (by omega) h28_0 | exact hfd.step (by omega) c36 h49_0) (hk3.elim (fun z => by rw [if_neg c36] at hN; rw [if_pos z]; omega) (fun z => by rw [if_neg c36] at hN; rw [if_neg (by omega)]; omega))
  refine r_aload_n 1 hE 0 dX9_finds_0 rfl rfl rfl ?_
  refine r_iload_n 2 hE 1 dX9_finds_1 rfl rfl rfl ?_
  refine r_callV 5 hE [0, 1] [] [(wMo g mo mst mac mmk mr mrd mrm mcm mtp msz mtk mbg men mls mvl mft mfp mfk mdp mto), (wMAll g mo al)] [] 0 9 ok9 [] (c_X9_isText (by omega) (by omega)) dX9_finds_2 rfl rfl wd_1346 wd_1348 ws_80 wd_12 wd_1349 ne_X9 np_X9_isText (Nat.le_of_ble_eq_true rfl)  (by decide) (by decide) rfl (Nat.le_of_ble_eq_true rfl) rfl rfl rfl rfl (by decide) rfl (fun v1 f1 hp => ?_)
  obtain ⟨rfl, rfl⟩ := hp
  show G g E _ _ _ [(wMo g mo mst mac mmk mr mrd mrm mcm mtp msz mtk mbg men mls mvl mft mfp mfk mdp mto), (wMAll g mo al)] 5 [(0, .ref (mo 0)), (1, .int (iI t)), (2, .int (iI u))] [.int (iI (bI (0 ≤ t ∧ t < al 0)))]
  refine r_if_eq 8 16 hE dX9_finds_5 rfl (by decide) (bI_rg _) (fun c5 => ?_) (fun c5 => ?_)
  · skip
    have c5 := bI0 c5
    refine r_aload_n 17 hE 0 dX9_finds_16 rfl rfl rfl ?_
    refine r_iconst 18 hE dX9_finds_17 rfl ?_
    refine r_callV 21 hE [0] [1] [(wMo g mo mst mac mmk mr mrd mrm mcm mtp msz mtk mbg men mls mvl mft mfp mfk mdp mto)] [(wMAll g mo al)] 0 9 ok9 [] (c_X9_refuse) dX9_finds_18 rfl rfl wd_1186 wd_1188 ws_47 wd_12 wd_1189 ne_X9 np_X9_refuse (Nat.le_of_ble_eq_true rfl)  (by decide) (by decide) rfl (Nat.le_of_ble_eq_true rfl) rfl rfl rfl rfl (by decide) rfl (fun v1 f1 hp => ?_)
    obtain ⟨rfl, rfl⟩ := hp
    show G g E _ _ _ [(wMo g mo 2 mac mmk mr mrd mrm mcm mtp msz mtk mbg men mls mvl mft mfp mfk mdp mto), (wMAll g mo al)] 21 [(0, .ref (mo 0)), (1, .int (iI t)), (2, .int (iI u))] [.int (iI (-1))]
    refine r_ireturn hE hR [(wMo g mo 2 mac mmk mr mrd mrm mcm mtp msz mtk mbg men mls mvl mft mfp mfk mdp mto), (wMAll g mo al)] dX9_finds_21 (Nat.le_of_ble_eq_true rfl) (Nat.le_of_ble_eq_true rfl) rfl ?_
    exact ⟨_, _, rfl, rfl, Or.inl ⟨by unfold HasT; omega, rfl, rfl⟩⟩
  · skip
    have c5 := bI1 c5
    have hl_t := hM.2 t c5.1 c5.2
    refine r_aload_n 9 hE 0 dX9_finds_8 rfl rfl rfl ?_
    refine r_iload_n 10 hE 2 dX9_finds_9 rfl rfl rfl ?_
    refine r_callV 13 hE [0, 1] [] [(wMo g mo mst mac mmk mr mrd mrm mcm mtp msz mtk mbg men mls mvl mft mfp mfk mdp mto), (wMAll g mo al)] [] 0 9 ok9 [] (c_X9_isText (by omega) (by omega)) dX9_finds_10 rfl rfl wd_1346 wd_1348 ws_80 wd_12 wd_1349 ne_X9 np_X9_isText (Nat.le_of_ble_eq_true rfl)  (by decide) (by decide) rfl (Nat.le_of_ble_eq_true rfl) rfl rfl rfl rfl (by decide) rfl (fun v1 f1 hp => ?_)
    obtain ⟨rfl, rfl⟩ := hp
    show G g E _ _ _ [(wMo g mo mst mac mmk mr mrd mrm mcm mtp msz mtk mbg men mls mvl mft mfp mfk mdp mto), (wMAll g mo al)] 13 [(0, .ref (mo 0)), (1, .int (iI t)), (2, .int (iI u))] [.int (iI (bI (0 ≤ u ∧ u < al 0)))]
    refine r_if_ne 16 22 hE dX9_finds_13 rfl (by decide) (bI_rg _) (fun c13 => ?_) (fun c13 => ?_)
    · skip
      have c13 := bI1 c13
      have hl_u := hM.2 u c13.1 c13.2
      refine r_iconst 23 hE dX9_finds_22 rfl ?_
      refine r_istore_n 24 hE [(3, .int (iI 0)), (0, .ref (mo 0)), (1, .int (iI t)), (2, .int (iI u))] dX9_finds_23 rfl rfl (by decide) rfl ?_
      refine r_aload_n 25 hE 1 dX9_finds_24 rfl rfl rfl ?_
      refine r_iload_n 26 hE 2 dX9_finds_25 rfl rfl rfl ?_
      refine r_iload_n 27 hE 3 dX9_finds_26 rfl rfl rfl ?_
      refine r_iconst 28 hE dX9_finds_27 rfl ?_
      refine r_callV 31 hE [0, 1] [] [(wMo g mo mst mac mmk mr mrd mrm mcm mtp msz mtk mbg men mls mvl mft mfp mfk mdp mto), (wMAll g mo al)] [] 0 9 ok9 [] (c_X9_findIn (hM) (by omega) (by omega) (by omega)) dX9_finds_28 rfl rfl wd_1497 wd_1499 ws_98 wd_12 wd_1500 ne_X9 np_X9_findIn (Nat.le_of_ble_eq_true rfl)  (by decide) (by decide) rfl (Nat.le_of_ble_eq_true rfl) rfl rfl rfl rfl (by decide) rfl (fun v1 f1 hp => ?_)
      obtain ⟨r_28, rfl, rfl, h28_0⟩ := hp
      show G g E _ _ _ [(wMo g mo mst mac mmk mr mrd mrm mcm mtp msz mtk mbg men mls mvl mft mfp mfk mdp mto), (wMAll g mo al)] 31 [(3, .int (iI 0)), (0, .ref (mo 0)), (1, .int (iI t)), (2, .int (iI u))] [.int (iI r_28)]
      have hk2 : -1 ≤ r_28 ∧ r_28 ≤ 600 := by rcases h28_0 with z | z <;> omega
      refine r_istore 33 hE [(4, .int (iI r_28)), (3, .int (iI 0)), (0, .ref (mo 0)), (1, .int (iI t)), (2, .int (iI u))] dX9_finds_31 rfl (by decide) rfl ?_
      refine G.to (fs' := [(wMo g mo mst mac mmk mr mrd mrm mcm mtp msz mtk mbg men mls mvl mft mfp mfk mdp mto), (wMAll g mo al)]) (lv' := [(0, .ref (mo 0)), (1, .int (iI t)), (2, .int (iI u)), (3, .int (iI 0)), (4, .int (iI r_28))]) [0, 1] [2, 3, 4, 1, 0] rfl rfl rfl ?_
      exact cut33 _ 0 r_28 (by first | exact c5 | exact htt) (by first | exact c13 | exact huu) (by first | exact hk2) (by first | exact FdS.start (by omega) h28_0 | exact hfd.step (by omega) c36 h49_0) (Nat.lt_succ_self _)
    · skip
      have c13 := bI0 c13
      refine r_aload_n 17 hE 0 dX9_finds_16 rfl rfl rfl ?_
      refine r_iconst 18 hE dX9_finds_17 rfl ?_
      refine r_callV 21 hE [0] [1] [(wMo g mo mst mac mmk mr mrd mrm mcm mtp msz mtk mbg men mls mvl mft mfp mfk mdp mto)] [(wMAll g mo al)] 0 9 ok9 [] (c_X9_refuse) dX9_finds_18 rfl rfl wd_1186 wd_1188 ws_47 wd_12 wd_1189 ne_X9 np_X9_refuse (Nat.le_of_ble_eq_true rfl)  (by decide) (by decide) rfl (Nat.le_of_ble_eq_true rfl) rfl rfl rfl rfl (by decide) rfl (fun v1 f1 hp => ?_)
      obtain ⟨rfl, rfl⟩ := hp
      show G g E _ _ _ [(wMo g mo 2 mac mmk mr mrd mrm mcm mtp msz mtk mbg men mls mvl mft mfp mfk mdp mto), (wMAll g mo al)] 21 [(0, .ref (mo 0)), (1, .int (iI t)), (2, .int (iI u))] [.int (iI (-1))]
      refine r_ireturn hE hR [(wMo g mo 2 mac mmk mr mrd mrm mcm mtp msz mtk mbg men mls mvl mft mfp mfk mdp mto), (wMAll g mo al)] dX9_finds_21 (Nat.le_of_ble_eq_true rfl) (Nat.le_of_ble_eq_true rfl) rfl ?_
      exact ⟨_, _, rfl, rfl, Or.inl ⟨by unfold HasT; omega, rfl, rfl⟩⟩
set_option maxHeartbeats 4000000 in
set_option maxRecDepth 100000 in
theorem c_X9_sorted {g : Gm} {mo : Nat → Nat} {mst mac mmk mr mrd mrm mcm mtp msz mtk mbg men mls mvl mft mfp mfk mdp mto : Int} {al : Int → Int} {i : Int} (hM : MTx al) (hr_i : -2147483648 ≤ i ∧ i ≤ 2147483647) : Ct g 3 0 0 yX9_sorted cX9_sorted 5 (some .int) [.ref (mo 0), .int (iI i)] [(wMo g mo mst mac mmk mr mrd mrm mcm mtp msz mtk mbg men mls mvl mft mfp mfk mdp mto), (wMAll g mo al)] (fun v_ w_ => ∃ r9 : Int, ∃ s9 : Int, v_ = some (.int (iI r9)) ∧ w_ = [(wMo g mo s9 mac mmk mr mrd mrm mcm mtp msz mtk mbg men mls mvl mft mfp mfk mdp mto), (wMAll g mo al)] ∧ (QSorted (mF al) (mN al) (al 0) i r9 s9)) := by
  refine Ct.of (by decide) (Nat.le_of_ble_eq_true rfl) (lv := [(0, .ref (mo 0)), (1, .int (iI i))]) rfl ?_
  intro E hE hR hnm
  have hc := hM.1
  have cut12 : ∀ (N : Nat) (t : Int), (0 ≤ i) → (0 ≤ t ∧ t ≤ al 0) → (∀ j, 0 ≤ j → j < t → aheadF (mF al) (mN al) (al 0) j ≠ i) → (al 0 - t).toNat < N → G g E 5 0 0 [(wMo g mo mst mac mmk mr mrd mrm mcm mtp msz mtk mbg men mls mvl mft mfp mfk mdp mto), (wMAll g mo al)] 12 [(0, .ref (mo 0)), (1, .int (iI i)), (2, .int (iI t))] [] := by
    intro N
    induction N with
    | zero => intro t _ _ _ hN; exact absurd hN (Nat.not_lt_zero _)
    | succ N ih12 =>
      intro t hi0 ht hv hN
      have cut25 : ∀ (N : Nat) (u : Int), (0 ≤ t ∧ t < al 0) → (0 ≤ u ∧ u ≤ al 0) → (al 0 - u).toNat < N → G g E 5 0 0 [(wMo g mo mst mac mmk mr mrd mrm mcm mtp msz mtk mbg men mls mvl mft mfp mfk mdp mto), (wMAll g mo al)] 25 [(0, .ref (mo 0)), (1, .int (iI i)), (2, .int (iI t)), (3, .int (iI (aheadF (mF al) (mN al) u t))), (4, .int (iI u))] [] := by
        intro N
        induction N with
        | zero => intro u _ _ hN; exact absurd hN (Nat.not_lt_zero _)
        | succ N ih25 =>
          intro u htt hu hN
          have hbd := aheadF_bd (mF al) (mN al) t hu.1
          refine r_iload 27 hE 4 dX9_sorted_25 rfl rfl ?_
          refine r_aload_n 28 hE 0 dX9_sorted_27 rfl rfl rfl ?_
          refine r_callV 31 hE [0, 1] [] [(wMo g mo mst mac mmk mr mrd mrm mcm mtp msz mtk mbg men mls mvl mft mfp mfk mdp mto), (wMAll g mo al)] [] 0 9 ok9 [.int (iI u)] (c_X9_many) dX9_sorted_28 rfl rfl wd_1217 wd_1219 ws_52 wd_12 wd_1220 ne_X9 np_X9_many (Nat.le_of_ble_eq_true rfl)  (by decide) (by decide) rfl (Nat.le_of_ble_eq_true rfl) rfl rfl rfl rfl (by decide) rfl (fun v1 f1 hp => ?_)
          obtain ⟨rfl, rfl⟩ := hp
          show G g E _ _ _ [(wMo g mo mst mac mmk mr mrd mrm mcm mtp msz mtk mbg men mls mvl mft mfp mfk mdp mto), (wMAll g mo al)] 31 [(0, .ref (mo 0)), (1, .int (iI i)), (2, .int (iI t)), (3, .int (iI (aheadF (mF al) (mN al) u t))), (4, .int (iI u))] [.int (iI (al 0)), .int (iI u)]
          refine r_icmp_ge 34 74 hE dX9_sorted_31 rfl (by decide) (by omega) (fun c31 => ?_) (fun c31 => ?_)
          · skip
            refine r_iload_n 75 hE 3 dX9_sorted_74 rfl rfl rfl ?_
            refine r_iload_n 76 hE 1 dX9_sorted_75 rfl rfl rfl ?_
            refine r_icmp_ne 79 85 hE dX9_sorted_76 rfl (by decide) (by omega) (fun c76 => ?_) (fun c76 => ?_)
            · skip
              rw [show u = al 0 by omega] at c76
              have hv2 : ∀ j, 0 ≤ j → j < t + 1 → aheadF (mF al) (mN al) (al 0) j ≠ i := fun j a b => if z : j = t then z ▸ c76 else hv j a (by omega)
              refine r_iinc 88 hE 2 (t + 1) [(2, .int (iI (t + 1))), (0, .ref (mo 0)), (1, .int (iI i)), (3, .int (iI (aheadF (mF al) (mN al) u t))), (4, .int (iI u))] dX9_sorted_85 rfl rfl rfl (by decide) rfl ?_
              refine r_goto 12 hE dX9_sorted_88 (by decide) ?_
              refine G.to (fs' := [(wMo g mo mst mac mmk mr mrd mrm mcm mtp msz mtk mbg men mls mvl mft mfp mfk mdp mto), (wMAll g mo al)]) (lv' := [(0, .ref (mo 0)), (1, .int (iI i)), (2, .int (iI (t + 1)))]) [0, 1] [1, 2, 0] rfl rfl rfl ?_
              exact ih12 (t + 1) (by omega) (by omega) (by first | exact hv2 | exact (fun j a b => absurd b (by omega))) (by omega)
            · skip
              rw [show u = al 0 by omega] at c76
              refine r_aload_n 80 hE 0 dX9_sorted_79 rfl rfl rfl ?_
              refine r_iload_n 81 hE 2 dX9_sorted_80 rfl rfl rfl ?_
              refine r_callV 84 hE [0] [1] [(wMo g mo mst mac mmk mr mrd mrm mcm mtp msz mtk mbg men mls mvl mft mfp mfk mdp mto)] [(wMAll g mo al)] 0 9 ok9 [] (c_X9_gives) dX9_sorted_81 rfl rfl wd_1334 wd_1336 ws_79 wd_12 wd_1337 ne_X9 np_X9_gives (Nat.le_of_ble_eq_true rfl)  (by decide) (by decide) rfl (Nat.le_of_ble_eq_true rfl) rfl rfl rfl rfl (by decide) rfl (fun v1 f1 hp => ?_)
              obtain ⟨rfl, rfl⟩ := hp
              show G g E _ _ _ [(wMo g mo 0 mac mmk mr mrd mrm mcm mtp msz mtk mbg men mls mvl mft mfp mfk mdp mto), (wMAll g mo al)] 84 [(0, .ref (mo 0)), (1, .int (iI i)), (2, .int (iI t)), (3, .int (iI (aheadF (mF al) (mN al) u t))), (4, .int (iI u))] [.int (iI t)]
              refine r_ireturn hE hR [(wMo g mo 0 mac mmk mr mrd mrm mcm mtp msz mtk mbg men mls mvl mft mfp mfk mdp mto), (wMAll g mo al)] dX9_sorted_84 (Nat.le_of_ble_eq_true rfl) (Nat.le_of_ble_eq_true rfl) rfl ?_
              exact ⟨_, _, rfl, rfl, Or.inr (Or.inr ⟨hi0, rfl, htt.1, htt.2, c76, hv⟩)⟩
          · skip
            refine r_iload_n 35 hE 3 dX9_sorted_34 rfl rfl rfl ?_
            refine r_aload_n 36 hE 0 dX9_sorted_35 rfl rfl rfl ?_
            refine r_iload 38 hE 4 dX9_sorted_36 rfl rfl ?_
            refine r_iload_n 39 hE 2 dX9_sorted_38 rfl rfl rfl ?_
            refine r_callV 42 hE [0, 1] [] [(wMo g mo mst mac mmk mr mrd mrm mcm mtp msz mtk mbg men mls mvl mft mfp mfk mdp mto), (wMAll g mo al)] [] 0 9 ok9 [.int (iI (aheadF (mF al) (mN al) u t))] (c_X9_isAhead (hM) (by omega) (by omega)) dX9_sorted_39 rfl rfl wd_1485 wd_1487 ws_96 wd_12 wd_1488 ne_X9 np_X9_isAhead (Nat.le_of_ble_eq_true rfl)  (by decide) (by decide) rfl (Nat.le_of_ble_eq_true rfl) rfl rfl rfl rfl (by decide) rfl (fun v1 f1 hp => ?_)
            obtain ⟨rfl, rfl⟩ := hp
            show G g E _ _ _ [(wMo g mo mst mac mmk mr mrd mrm mcm mtp msz mtk mbg men mls mvl mft mfp mfk mdp mto), (wMAll g mo al)] 42 [(0, .ref (mo 0)), (1, .int (iI i)), (2, .int (iI t)), (3, .int (iI (aheadF (mF al) (mN al) u t))), (4, .int (iI u))] [.int (iI (bI (cmpT (mF al u) (mN al u) (mF al t) (mN al t) < 0))), .int (iI (aheadF (mF al) (mN al) u t))]
            refine r_if_ne 45 61 hE dX9_sorted_42 rfl (by decide) (bI_rg _) (fun c42 => ?_) (fun c42 => ?_)
            · skip
              have c42 := bI1 c42
              refine r_iconst 62 hE dX9_sorted_61 rfl ?_
              refine r_goto 66 hE dX9_sorted_62 (by decide) ?_
              refine r_iadd 67 hE ((aheadF (mF al) (mN al) u t) + 1) dX9_sorted_66 rfl rfl ?_
              refine r_istore_n 68 hE [(3, .int (iI ((aheadF (mF al) (mN al) u t) + 1))), (0, .ref (mo 0)), (1, .int (iI i)), (2, .int (iI t)), (4, .int (iI u))] dX9_sorted_67 rfl rfl (by decide) rfl ?_
              refine r_iinc 71 hE 4 (u + 1) [(4, .int (iI (u + 1))), (3, .int (iI ((aheadF (mF al) (mN al) u t) + 1))), (0, .ref (mo 0)), (1, .int (iI i)), (2, .int (iI t))] dX9_sorted_68 rfl rfl rfl (by decide) rfl ?_
              refine r_goto 25 hE dX9_sorted_71 (by decide) ?_
              refine G.to (fs' := [(wMo g mo mst mac mmk mr mrd mrm mcm mtp msz mtk mbg men mls mvl mft mfp mfk mdp mto), (wMAll g mo al)]) (lv' := [(0, .ref (mo 0)), (1, .int (iI i)), (2, .int (iI t)), (3, .int (iI ((aheadF (mF al) (mN al) u t) + 1))), (4, .int (iI (u + 1)))]) [0, 1] [2, 3, 4, 1, 0] rfl rfl rfl ?_
              refine G.cast (fs' := [(wMo g mo mst mac mmk mr mrd mrm mcm mtp msz mtk mbg men mls mvl mft mfp mfk mdp mto), (wMAll g mo al)]) (lv' := [(0, .ref (mo 0)), (1, .int (iI i)), (2, .int (iI t)), (3, .int (iI (aheadF (mF al) (mN al) (u + 1) t))), (4, .int (iI (u + 1)))]) rfl (congrArg (fun z9 : Int => ([(0, .ref (mo 0)), (1, .int (iI i)), (2, .int (iI t)), (3, .int (iI z9)), (4, .int (iI (u + 1)))] : List (Nat × Value))) (show ((aheadF (mF al) (mN al) u t) + 1 : Int) = aheadF (mF al) (mN al) (u + 1) t from by first | rfl | (rw [aheadF_yes hu.1 (by omega)]) | (rw [aheadF_no hu.1 (by omega)]; omega))) ?_
              exact ih25 (u + 1) (by omega) (by omega) (by omega)
            · skip
              have c42 := bI0 c42
              refine r_iload 47 hE 4 dX9_sorted_45 rfl rfl ?_
              refine r_iload_n 48 hE 2 dX9_sorted_47 rfl rfl rfl ?_
              refine r_icmp_ge 51 65 hE dX9_sorted_48 rfl (by decide) (by omega) (fun c48 => ?_) (fun c48 => ?_)
              · skip
                refine r_iconst 66 hE dX9_sorted_65 rfl ?_
                refine r_iadd 67 hE ((aheadF (mF al) (mN al) u t) + 0) dX9_sorted_66 rfl rfl ?_
                refine r_istore_n 68 hE [(3, .int (iI ((aheadF (mF al) (mN al) u t) + 0))), (0, .ref (mo 0)), (1, .int (iI i)), (2, .int (iI t)), (4, .int (iI u))] dX9_sorted_67 rfl rfl (by decide) rfl ?_
                refine r_iinc 71 hE 4 (u + 1) [(4, .int (iI (u + 1))), (3, .int (iI ((aheadF (mF al) (mN al) u t) + 0))), (0, .ref (mo 0)), (1, .int (iI i)), (2, .int (iI t))] dX9_sorted_68 rfl rfl rfl (by decide) rfl ?_
                refine r_goto 25 hE dX9_sorted_71 (by decide) ?_
                refine G.to (fs' := [(wMo g mo mst mac mmk mr mrd mrm mcm mtp msz mtk mbg men mls mvl mft mfp mfk mdp mto), (wMAll g mo al)]) (lv' := [(0, .ref (mo 0)), (1, .int (iI i)), (2, .int (iI t)), (3, .int (iI ((aheadF (mF al) (mN al) u t) + 0))), (4, .int (iI (u + 1)))]) [0, 1] [2, 3, 4, 1, 0] rfl rfl rfl ?_
                refine G.cast (fs' := [(wMo g mo mst mac mmk mr mrd mrm mcm mtp msz mtk mbg men mls mvl mft mfp mfk mdp mto), (wMAll g mo al)]) (lv' := [(0, .ref (mo 0)), (1, .int (iI i)), (2, .int (iI t)), (3, .int (iI (aheadF (mF al) (mN al) (u + 1) t))), (4, .int (iI (u + 1)))]) rfl (congrArg (fun z9 : Int => ([(0, .ref (mo 0)), (1, .int (iI i)), (2, .int (iI t)), (3, .int (iI z9)), (4, .int (iI (u + 1)))] : List (Nat × Value))) (show ((aheadF (mF al) (mN al) u t) + 0 : Int) = aheadF (mF al) (mN al) (u + 1) t from by first | rfl | (rw [aheadF_yes hu.1 (by omega)]) | (rw [aheadF_no hu.1 (by omega)]; omega))) ?_
                exact ih25 (u + 1) (by omega) (by omega) (by omega)
              · skip
                refine r_aload_n 52 hE 0 dX9_sorted_51 rfl rfl rfl ?_
                refine r_iload 54 hE 4 dX9_sorted_52 rfl rfl ?_
                refine r_iload_n 55 hE 2 dX9_sorted_54 rfl rfl rfl ?_
                refine r_callV 58 hE [0, 1] [] [(wMo g mo mst mac mmk mr mrd mrm mcm mtp msz mtk mbg men mls mvl mft mfp mfk mdp mto), (wMAll g mo al)] [] 0 9 ok9 [.int (iI (aheadF (mF al) (mN al) u t))] (c_X9_isSame (hM) (by omega) (by omega)) dX9_sorted_55 rfl rfl wd_1481 wd_1483 ws_95 wd_12 wd_1484 ne_X9 np_X9_isSame (Nat.le_of_ble_eq_true rfl)  (by decide) (by decide) rfl (Nat.le_of_ble_eq_true rfl) rfl rfl rfl rfl (by decide) rfl (fun v1 f1 hp => ?_)
                obtain ⟨rfl, rfl⟩ := hp
                show G g E _ _ _ [(wMo g mo mst mac mmk mr mrd mrm mcm mtp msz mtk mbg men mls mvl mft mfp mfk mdp mto), (wMAll g mo al)] 58 [(0, .ref (mo 0)), (1, .int (iI i)), (2, .int (iI t)), (3, .int (iI (aheadF (mF al) (mN al) u t))), (4, .int (iI u))] [.int (iI (bI (cmpT (mF al u) (mN al u) (mF al t) (mN al t) = 0))), .int (iI (aheadF (mF al) (mN al) u t))]
                refine r_if_eq 61 65 hE dX9_sorted_58 rfl (by decide) (bI_rg _) (fun c58 => ?_) (fun c58 => ?_)
                · skip
                  have c58 := bI0 c58
                  refine r_iconst 66 hE dX9_sorted_65 rfl ?_
                  refine r_iadd 67 hE ((aheadF (mF al) (mN al) u t) + 0) dX9_sorted_66 rfl rfl ?_
                  refine r_istore_n 68 hE [(3, .int (iI ((aheadF (mF al) (mN al) u t) + 0))), (0, .ref (mo 0)), (1, .int (iI i)), (2, .int (iI t)), (4, .int (iI u))] dX9_sorted_67 rfl rfl (by decide) rfl ?_
                  refine r_iinc 71 hE 4 (u + 1) [(4, .int (iI (u + 1))), (3, .int (iI ((aheadF (mF al) (mN al) u t) + 0))), (0, .ref (mo 0)), (1, .int (iI i)), (2, .int (iI t))] dX9_sorted_68 rfl rfl rfl (by decide) rfl ?_
                  refine r_goto 25 hE dX9_sorted_71 (by decide) ?_
                  refine G.to (fs' := [(wMo g mo mst mac mmk mr mrd mrm mcm mtp msz mtk mbg men mls mvl mft mfp mfk mdp mto), (wMAll g mo al)]) (lv' := [(0, .ref (mo 0)), (1, .int (iI i)), (2, .int (iI t)), (3, .int (iI ((aheadF (mF al) (mN al) u t) + 0))), (4, .int (iI (u + 1)))]) [0, 1] [2, 3, 4, 1, 0] rfl rfl rfl ?_
                  refine G.cast (fs' := [(wMo g mo mst mac mmk mr mrd mrm mcm mtp msz mtk mbg men mls mvl mft mfp mfk mdp mto), (wMAll g mo al)]) (lv' := [(0, .ref (mo 0)), (1, .int (iI i)), (2, .int (iI t)), (3, .int (iI (aheadF (mF al) (mN al) (u + 1) t))), (4, .int (iI (u + 1)))]) rfl (congrArg (fun z9 : Int => ([(0, .ref (mo 0)), (1, .int (iI i)), (2, .int (iI t)), (3, .int (iI z9)), (4, .int (iI (u + 1)))] : List (Nat × Value))) (show ((aheadF (mF al) (mN al) u t) + 0 : Int) = aheadF (mF al) (mN al) (u + 1) t from by first | rfl | (rw [aheadF_yes hu.1 (by omega)]) | (rw [aheadF_no hu.1 (by omega)]; omega))) ?_
                  exact ih25 (u + 1) (by omega) (by omega) (by omega)
                · skip
                  have c58 := bI1 c58
                  refine r_iconst 62 hE dX9_sorted_61 rfl ?_
                  refine r_goto 66 hE dX9_sorted_62 (by decide) ?_
                  refine r_iadd 67 hE ((aheadF (mF al) (mN al) u t) + 1) dX9_sorted_66 rfl rfl ?_
                  refine r_istore_n 68 hE [(3, .int (iI ((aheadF (mF al) (mN al) u t) + 1))), (0, .ref (mo 0)), (1, .int (iI i)), (2, .int (iI t)), (4, .int (iI u))] dX9_sorted_67 rfl rfl (by decide) rfl ?_
                  refine r_iinc 71 hE 4 (u + 1) [(4, .int (iI (u + 1))), (3, .int (iI ((aheadF (mF al) (mN al) u t) + 1))), (0, .ref (mo 0)), (1, .int (iI i)), (2, .int (iI t))] dX9_sorted_68 rfl rfl rfl (by decide) rfl ?_
                  refine r_goto 25 hE dX9_sorted_71 (by decide) ?_
                  refine G.to (fs' := [(wMo g mo mst mac mmk mr mrd mrm mcm mtp msz mtk mbg men mls mvl mft mfp mfk mdp mto), (wMAll g mo al)]) (lv' := [(0, .ref (mo 0)), (1, .int (iI i)), (2, .int (iI t)), (3, .int (iI ((aheadF (mF al) (mN al) u t) + 1))), (4, .int (iI (u + 1)))]) [0, 1] [2, 3, 4, 1, 0] rfl rfl rfl ?_
                  refine G.cast (fs' := [(wMo g mo mst mac mmk mr mrd mrm mcm mtp msz mtk mbg men mls mvl mft mfp mfk mdp mto), (wMAll g mo al)]) (lv' := [(0, .ref (mo 0)), (1, .int (iI i)), (2, .int (iI t)), (3, .int (iI (aheadF (mF al) (mN al) (u + 1) t))), (4, .int (iI (u + 1)))]) rfl (congrArg (fun z9 : Int => ([(0, .ref (mo 0)), (1, .int (iI i)), (2, .int (iI t)), (3, .int (iI z9)), (4, .int (iI (u + 1)))] : List (Nat × Value))) (show ((aheadF (mF al) (mN al) u t) + 1 : Int) = aheadF (mF al) (mN al) (u + 1) t from by first | rfl | (rw [aheadF_yes hu.1 (by omega)]) | (rw [aheadF_no hu.1 (by omega)]; omega))) ?_
                  exact ih25 (u + 1) (by omega) (by omega) (by omega)
      refine r_iload_n 13 hE 2 dX9_sorted_12 rfl rfl rfl ?_
      refine r_aload_n 14 hE 0 dX9_sorted_13 rfl rfl rfl ?_
      refine r_callV 17 hE [0, 1] [] [(wMo g mo mst mac mmk mr mrd mrm mcm mtp msz mtk mbg men mls mvl mft mfp mfk mdp mto), (wMAll g mo al)] [] 0 9 ok9 [.int (iI t)] (c_X9_many) dX9_sorted_14 rfl rfl wd_1217 wd_1219 ws_52 wd_12 wd_1220 ne_X9 np_X9_many (Nat.le_of_ble_eq_true rfl)  (by decide) (by decide) rfl (Nat.le_of_ble_eq_true rfl) rfl rfl rfl rfl (by decide) rfl (fun v1 f1 hp => ?_)
      obtain ⟨rfl, rfl⟩ := hp
      show G g E _ _ _ [(wMo g mo mst mac mmk mr mrd mrm mcm mtp msz mtk mbg men mls mvl mft mfp mfk mdp mto), (wMAll g mo al)] 17 [(0, .ref (mo 0)), (1, .int (iI i)), (2, .int (iI t))] [.int (iI (al 0)), .int (iI t)]
      refine r_icmp_ge 20 91 hE dX9_sorted_17 rfl (by decide) (by omega) (fun c17 => ?_) (fun c17 => ?_)
      · skip
        refine r_aload_n 92 hE 0 dX9_sorted_91 rfl rfl rfl ?_
        refine r_iconst 93 hE dX9_sorted_92 rfl ?_
        refine r_callV 96 hE [0] [1] [(wMo g mo mst mac mmk mr mrd mrm mcm mtp msz mtk mbg men mls mvl mft mfp mfk mdp mto)] [(wMAll g mo al)] 0 9 ok9 [] (c_X9_refuse) dX9_sorted_93 rfl rfl wd_1186 wd_1188 ws_47 wd_12 wd_1189 ne_X9 np_X9_refuse (Nat.le_of_ble_eq_true rfl)  (by decide) (by decide) rfl (Nat.le_of_ble_eq_true rfl) rfl rfl rfl rfl (by decide) rfl (fun v1 f1 hp => ?_)
        obtain ⟨rfl, rfl⟩ := hp
        show G g E _ _ _ [(wMo g mo 5 mac mmk mr mrd mrm mcm mtp msz mtk mbg men mls mvl mft mfp mfk mdp mto), (wMAll g mo al)] 96 [(0, .ref (mo 0)), (1, .int (iI i)), (2, .int (iI t))] [.int (iI (-1))]
        refine r_ireturn hE hR [(wMo g mo 5 mac mmk mr mrd mrm mcm mtp msz mtk mbg men mls mvl mft mfp mfk mdp mto), (wMAll g mo al)] dX9_sorted_96 (Nat.le_of_ble_eq_true rfl) (Nat.le_of_ble_eq_true rfl) rfl ?_
        exact ⟨_, _, rfl, rfl, Or.inr (Or.inl ⟨hi0, rfl, rfl, fun j a b => hv j a (by omega)⟩)⟩
      · skip
        refine r_iconst 21 hE dX9_sorted_20 rfl ?_
        refine r_istore_n 22 hE [(3, .int (iI 0)), (0, .ref (mo 0)), (1, .int (iI i)), (2, .int (iI t))] dX9_sorted_21 rfl rfl (by decide) rfl ?_
        refine r_iconst 23 hE dX9_sorted_22 rfl ?_
        refine r_istore 25 hE [(4, .int (iI 0)), (3, .int (iI 0)), (0, .ref (mo 0)), (1, .int (iI i)), (2, .int (iI t))] dX9_sorted_23 rfl (by decide) rfl ?_
        refine G.to (fs' := [(wMo g mo mst mac mmk mr mrd mrm mcm mtp msz mtk mbg men mls mvl mft mfp mfk mdp mto), (wMAll g mo al)]) (lv' := [(0, .ref (mo 0)), (1, .int (iI i)), (2, .int (iI t)), (3, .int (iI 0)), (4, .int (iI 0))]) [0, 1] [2, 3, 4, 1, 0] rfl rfl rfl ?_
        refine G.cast (fs' := [(wMo g mo mst mac mmk mr mrd mrm mcm mtp msz mtk mbg men mls mvl mft mfp mfk mdp mto), (wMAll g mo al)]) (lv' := [(0, .ref (mo 0)), (1, .int (iI i)), (2, .int (iI t)), (3, .int (iI (aheadF (mF al) (mN al) 0 t))), (4, .int (iI 0))]) rfl (congrArg (fun z9 : Int => ([(0, .ref (mo 0)), (1, .int (iI i)), (2, .int (iI t)), (3, .int (iI z9)), (4, .int (iI 0))] : List (Nat × Value))) (show (0 : Int) = aheadF (mF al) (mN al) 0 t from by first | rfl | (rw [aheadF_yes hu.1 (by omega)]) | (rw [aheadF_no hu.1 (by omega)]; omega))) ?_
        exact cut25 _ 0 (by omega) (by omega) (Nat.lt_succ_self _)
  refine r_iload_n 1 hE 1 dX9_sorted_0 rfl rfl rfl ?_
  refine r_if_ge 4 10 hE dX9_sorted_1 rfl (by decide) (by omega) (fun c1 => ?_) (fun c1 => ?_)
  · skip
    refine r_iconst 11 hE dX9_sorted_10 rfl ?_
    refine r_istore_n 12 hE [(2, .int (iI 0)), (0, .ref (mo 0)), (1, .int (iI i))] dX9_sorted_11 rfl rfl (by decide) rfl ?_
    refine G.to (fs' := [(wMo g mo mst mac mmk mr mrd mrm mcm mtp msz mtk mbg men mls mvl mft mfp mfk mdp mto), (wMAll g mo al)]) (lv' := [(0, .ref (mo 0)), (1, .int (iI i)), (2, .int (iI 0))]) [0, 1] [1, 2, 0] rfl rfl rfl ?_
    exact cut12 _ 0 (by omega) (by omega) (by first | exact hv2 | exact (fun j a b => absurd b (by omega))) (Nat.lt_succ_self _)
  · skip
    refine r_aload_n 5 hE 0 dX9_sorted_4 rfl rfl rfl ?_
    refine r_iconst 6 hE dX9_sorted_5 rfl ?_
    refine r_callV 9 hE [0] [1] [(wMo g mo mst mac mmk mr mrd mrm mcm mtp msz mtk mbg men mls mvl mft mfp mfk mdp mto)] [(wMAll g mo al)] 0 9 ok9 [] (c_X9_refuse) dX9_sorted_6 rfl rfl wd_1186 wd_1188 ws_47 wd_12 wd_1189 ne_X9 np_X9_refuse (Nat.le_of_ble_eq_true rfl)  (by decide) (by decide) rfl (Nat.le_of_ble_eq_true rfl) rfl rfl rfl rfl (by decide) rfl (fun v1 f1 hp => ?_)
    obtain ⟨rfl, rfl⟩ := hp
    show G g E _ _ _ [(wMo g mo 1 mac mmk mr mrd mrm mcm mtp msz mtk mbg men mls mvl mft mfp mfk mdp mto), (wMAll g mo al)] 9 [(0, .ref (mo 0)), (1, .int (iI i))] [.int (iI (-1))]
    refine r_ireturn hE hR [(wMo g mo 1 mac mmk mr mrd mrm mcm mtp msz mtk mbg men mls mvl mft mfp mfk mdp mto), (wMAll g mo al)] dX9_sorted_9 (Nat.le_of_ble_eq_true rfl) (Nat.le_of_ble_eq_true rfl) rfl ?_
    exact ⟨_, _, rfl, rfl, Or.inl ⟨by omega, rfl, rfl⟩⟩
set_option maxHeartbeats 4000000 in
set_option maxRecDepth 100000 in
theorem c_X9_value {g : Gm} {mo : Nat → Nat} {mst mac mmk mr mrd mrm mcm mtp msz mtk mbg men mls mvl mft mfp mfk mdp mto : Int} {al : Int → Int} {t : Int} (hM : MTx al) (hr_t : -2147483648 ≤ t ∧ t ≤ 2147483647) : Ct g 2 0 0 yX9_value cX9_value 5 (some .long) [.ref (mo 0), .int (iI t)] [(wMo g mo mst mac mmk mr mrd mrm mcm mtp msz mtk mbg men mls mvl mft mfp mfk mdp mto), (wMAll g mo al)] (fun v_ w_ => ∃ r9 : Int, ∃ s9 : Int, v_ = some (.long (lI r9)) ∧ w_ = [(wMo g mo s9 mac mmk mr mrd mrm mcm mtp msz mtk mbg men mls mvl mft mfp mfk mdp mto), (wMAll g mo al)] ∧ (ValIs (mF al) (mN al) (al 0) t r9 s9)) := by
  refine Ct.of (by decide) (Nat.le_of_ble_eq_true rfl) (lv := [(0, .ref (mo 0)), (1, .int (iI t))]) rfl ?_
  intro E hE hR hnm
  have hc := hM.1
  have cut20 : ∀ (N : Nat) (v : Int) (i : Int), (0 ≤ t ∧ t < al 0) → (0 ≤ i ∧ i ≤ mN al t) → (valF (mF al t) i = some v) → (0 ≤ v ∧ v ≤ 9223372036854775807) → (mN al t - i).toNat < N → G g E 5 0 0 [(wMo g mo mst mac mmk mr mrd mrm mcm mtp msz mtk mbg men mls mvl mft mfp mfk mdp mto), (wMAll g mo al)] 20 [(0, .ref (mo 0)), (1, .int (iI t)), (2, .long (lI v)), (4, .int (iI i))] [] := by
    intro N
    induction N with
    | zero => intro v i _ _ _ _ hN; exact absurd hN (Nat.not_lt_zero _)
    | succ N ih20 =>
      intro v i htt hi hv hvr hN
      have hl_t := hM.2 t htt.1 htt.2
      refine r_iload 22 hE 3 dX9_value_20 rfl rfl ?_
      refine r_aload_n 23 hE 0 dX9_value_22 rfl rfl rfl ?_
      refine r_iload_n 24 hE 1 dX9_value_23 rfl rfl rfl ?_
      refine r_callV 27 hE [0, 1] [] [(wMo g mo mst mac mmk mr mrd mrm mcm mtp msz mtk mbg men mls mvl mft mfp mfk mdp mto), (wMAll g mo al)] [] 0 9 ok9 [.int (iI i)] (c_X9_sizeOf (by omega)) dX9_value_24 rfl rfl wd_1273 wd_1275 ws_65 wd_12 wd_1276 ne_X9 np_X9_sizeOf (Nat.le_of_ble_eq_true rfl)  (by decide) (by decide) rfl (Nat.le_of_ble_eq_true rfl) rfl rfl rfl rfl (by decide) rfl (fun v1 f1 hp => ?_)
      obtain ⟨rfl, rfl⟩ := hp
      show G g E _ _ _ [(wMo g mo mst mac mmk mr mrd mrm mcm mtp msz mtk mbg men mls mvl mft mfp mfk mdp mto), (wMAll g mo al)] 27 [(0, .ref (mo 0)), (1, .int (iI t)), (2, .long (lI v)), (4, .int (iI i))] [.int (iI (mN al t)), .int (iI i)]
      refine r_icmp_ge 30 80 hE dX9_value_27 rfl (by decide) (by omega) (fun c27 => ?_) (fun c27 => ?_)
      · skip
        refine r_aload_n 81 hE 0 dX9_value_80 rfl rfl rfl ?_
        refine r_iconst 82 hE dX9_value_81 rfl ?_
        refine r_put 85 hE 0 0 ok9 2 (wMo g mo 0 mac mmk mr mrd mrm mcm mtp msz mtk mbg men mls mvl mft mfp mfk mdp mto) [(wMo g mo 0 mac mmk mr mrd mrm mcm mtp msz mtk mbg men mls mvl mft mfp mfk mdp mto), (wMAll g mo al)] dX9_value_82 rfl wd_1054 rfl rfl (by decide) rfl rfl rfl (Nat.le_of_ble_eq_true rfl) rfl rfl ?_
        refine r_lload_n 86 hE 2 dX9_value_85 rfl rfl rfl ?_
        refine r_lreturn hE hR [(wMo g mo 0 mac mmk mr mrd mrm mcm mtp msz mtk mbg men mls mvl mft mfp mfk mdp mto), (wMAll g mo al)] dX9_value_86 (Nat.le_of_ble_eq_true rfl) (Nat.le_of_ble_eq_true rfl) rfl ?_
        exact ⟨_, _, rfl, rfl, Or.inr (Or.inr ⟨htt, by rw [show mN al t = i by omega]; exact hv, rfl⟩)⟩
      · skip
        have htx := hl_t.2 i hi.1 c27
        refine r_lload_n 31 hE 2 dX9_value_30 rfl rfl rfl ?_
        refine r_ldc2I 34 hE dX9_value_31 rfl wd_1467 (by decide : _ = lI 9223372036854775807) ?_
        refine r_aload_n 35 hE 0 dX9_value_34 rfl rfl rfl ?_
        refine r_iload_n 36 hE 1 dX9_value_35 rfl rfl rfl ?_
        refine r_iload 38 hE 3 dX9_value_36 rfl rfl ?_
        refine r_callV 41 hE [0, 1] [] [(wMo g mo mst mac mmk mr mrd mrm mcm mtp msz mtk mbg men mls mvl mft mfp mfk mdp mto), (wMAll g mo al)] [] 0 9 ok9 [.long (lI 9223372036854775807), .long (lI v)] (c_X9_at (by omega)) dX9_value_38 rfl rfl wd_1277 wd_1279 ws_66 wd_12 wd_1280 ne_X9 np_X9_at (Nat.le_of_ble_eq_true rfl)  (by decide) (by decide) rfl (Nat.le_of_ble_eq_true rfl) rfl rfl rfl rfl (by decide) rfl (fun v1 f1 hp => ?_)
        obtain ⟨rfl, rfl⟩ := hp
        show G g E _ _ _ [(wMo g mo mst mac mmk mr mrd mrm mcm mtp msz mtk mbg men mls mvl mft mfp mfk mdp mto), (wMAll g mo al)] 41 [(0, .ref (mo 0)), (1, .int (iI t)), (2, .long (lI v)), (4, .int (iI i))] [.int (iI (mF al t i)), .long (lI 9223372036854775807), .long (lI v)]
        refine r_i2l 42 hE dX9_value_41 rfl (by omega) ?_
        refine r_lsub 43 hE dX9_value_42 rfl ?_
        refine r_ldc2I 46 hE dX9_value_43 rfl wd_1468 (by decide : _ = lI 26) ?_
        refine r_ldiv 47 hE dX9_value_46 rfl (by omega) ?_
        refine r_lcmp 48 hE dX9_value_47 rfl (by omega) ?_
        refine r_if_le 51 59 hE dX9_value_48 rfl (by decide) (by have := cmpI_rg v ((9223372036854775807 - mF al t i) / 26); omega) (fun c48 => ?_) (fun c48 => ?_)
        · skip
          have hle : v ≤ (9223372036854775807 - mF al t i) / 26 := by have := cmpI_gt (x := v) (y := (9223372036854775807 - mF al t i) / 26); omega
          have hv2 : valF (mF al t) (i + 1) = some (26 * v + mF al t i) := by rw [Int.mul_comm]; exact valF_yes hi.1 hv hle
          have hvr2 : 0 ≤ 26 * v + mF al t i ∧ 26 * v + mF al t i ≤ 9223372036854775807 := by omega
          refine r_ldc2I 62 hE dX9_value_59 rfl wd_1468 (by decide : _ = lI 26) ?_
          refine r_lload_n 63 hE 2 dX9_value_62 rfl rfl rfl ?_
          refine r_lmul 64 hE dX9_value_63 rfl ?_
          refine r_aload_n 65 hE 0 dX9_value_64 rfl rfl rfl ?_
          refine r_iload_n 66 hE 1 dX9_value_65 rfl rfl rfl ?_
          refine r_iload 68 hE 3 dX9_value_66 rfl rfl ?_
          refine r_callV 71 hE [0, 1] [] [(wMo g mo mst mac mmk mr mrd mrm mcm mtp msz mtk mbg men mls mvl mft mfp mfk mdp mto), (wMAll g mo al)] [] 0 9 ok9 [.long (lI (26 * v))] (c_X9_at (by omega)) dX9_value_68 rfl rfl wd_1277 wd_1279 ws_66 wd_12 wd_1280 ne_X9 np_X9_at (Nat.le_of_ble_eq_true rfl)  (by decide) (by decide) rfl (Nat.le_of_ble_eq_true rfl) rfl rfl rfl rfl (by decide) rfl (fun v1 f1 hp => ?_)
          obtain ⟨rfl, rfl⟩ := hp
          show G g E _ _ _ [(wMo g mo mst mac mmk mr mrd mrm mcm mtp msz mtk mbg men mls mvl mft mfp mfk mdp mto), (wMAll g mo al)] 71 [(0, .ref (mo 0)), (1, .int (iI t)), (2, .long (lI v)), (4, .int (iI i))] [.int (iI (mF al t i)), .long (lI (26 * v))]
          refine r_i2l 72 hE dX9_value_71 rfl (by omega) ?_
          refine r_ladd 73 hE dX9_value_72 rfl ?_
          refine r_lstore_n 74 hE [(2, .long (lI ((26 * v) + (mF al t i)))), (0, .ref (mo 0)), (1, .int (iI t)), (4, .int (iI i))] dX9_value_73 rfl rfl (by decide) rfl ?_
          refine r_iinc 77 hE 3 (i + 1) [(4, .int (iI (i + 1))), (2, .long (lI ((26 * v) + (mF al t i)))), (0, .ref (mo 0)), (1, .int (iI t))] dX9_value_74 rfl rfl rfl (by decide) rfl ?_
          refine r_goto 20 hE dX9_value_77 (by decide) ?_
          refine G.to (fs' := [(wMo g mo mst mac mmk mr mrd mrm mcm mtp msz mtk mbg men mls mvl mft mfp mfk mdp mto), (wMAll g mo al)]) (lv' := [(0, .ref (mo 0)), (1, .int (iI t)), (2, .long (lI ((26 * v) + (mF al t i)))), (4, .int (iI (i + 1)))]) [0, 1] [2, 3, 1, 0] rfl rfl rfl ?_
          exact ih20 ((26 * v) + (mF al t i)) (i + 1) (by first | exact c5 | exact htt) (by omega) (by first | exact hv2 | rfl) (by first | exact hvr2 | omega) (by omega)
        · skip
          have hgt : (9223372036854775807 - mF al t i) / 26 < v := cmpI_gt.mp c48
          refine r_aload_n 52 hE 0 dX9_value_51 rfl rfl rfl ?_
          refine r_bipush 54 hE dX9_value_52 rfl (by decide) ?_
          refine r_callV 57 hE [0] [1] [(wMo g mo mst mac mmk mr mrd mrm mcm mtp msz mtk mbg men mls mvl mft mfp mfk mdp mto)] [(wMAll g mo al)] 0 9 ok9 [] (c_X9_refuse) dX9_value_54 rfl rfl wd_1186 wd_1188 ws_47 wd_12 wd_1189 ne_X9 np_X9_refuse (Nat.le_of_ble_eq_true rfl)  (by decide) (by decide) rfl (Nat.le_of_ble_eq_true rfl) rfl rfl rfl rfl (by decide) rfl (fun v1 f1 hp => ?_)
          obtain ⟨rfl, rfl⟩ := hp
          show G g E _ _ _ [(wMo g mo 7 mac mmk mr mrd mrm mcm mtp msz mtk mbg men mls mvl mft mfp mfk mdp mto), (wMAll g mo al)] 57 [(0, .ref (mo 0)), (1, .int (iI t)), (2, .long (lI v)), (4, .int (iI i))] [.int (iI (-1))]
          refine r_i2l 58 hE dX9_value_57 rfl (by omega) ?_
          refine r_lreturn hE hR [(wMo g mo 7 mac mmk mr mrd mrm mcm mtp msz mtk mbg men mls mvl mft mfp mfk mdp mto), (wMAll g mo al)] dX9_value_58 (Nat.le_of_ble_eq_true rfl) (Nat.le_of_ble_eq_true rfl) rfl ?_
          exact ⟨_, _, rfl, rfl, Or.inr (Or.inl ⟨htt, valF_no ⟨hi.1, c27⟩ hv hgt, rfl, rfl⟩)⟩
  refine r_aload_n 1 hE 0 dX9_value_0 rfl rfl rfl ?_
  refine r_iload_n 2 hE 1 dX9_value_1 rfl rfl rfl ?_
  refine r_callV 5 hE [0, 1] [] [(wMo g mo mst mac mmk mr mrd mrm mcm mtp msz mtk mbg men mls mvl mft mfp mfk mdp mto), (wMAll g mo al)] [] 0 9 ok9 [] (c_X9_isText (by omega) (by omega)) dX9_value_2 rfl rfl wd_1346 wd_1348 ws_80 wd_12 wd_1349 ne_X9 np_X9_isText (Nat.le_of_ble_eq_true rfl)  (by decide) (by decide) rfl (Nat.le_of_ble_eq_true rfl) rfl rfl rfl rfl (by decide) rfl (fun v1 f1 hp => ?_)
  obtain ⟨rfl, rfl⟩ := hp
  show G g E _ _ _ [(wMo g mo mst mac mmk mr mrd mrm mcm mtp msz mtk mbg men mls mvl mft mfp mfk mdp mto), (wMAll g mo al)] 5 [(0, .ref (mo 0)), (1, .int (iI t))] [.int (iI (bI (0 ≤ t ∧ t < al 0)))]
  refine r_if_ne 8 15 hE dX9_value_5 rfl (by decide) (bI_rg _) (fun c5 => ?_) (fun c5 => ?_)
  · skip
    have c5 := bI1 c5
    have hl_t := hM.2 t c5.1 c5.2
    refine r_lconst0 16 hE dX9_value_15 rfl ?_
    refine r_lstore_n 17 hE [(2, .long (lI 0)), (0, .ref (mo 0)), (1, .int (iI t))] dX9_value_16 rfl rfl (by decide) rfl ?_
    refine r_iconst 18 hE dX9_value_17 rfl ?_
    refine r_istore 20 hE [(4, .int (iI 0)), (2, .long (lI 0)), (0, .ref (mo 0)), (1, .int (iI t))] dX9_value_18 rfl (by decide) rfl ?_
    refine G.to (fs' := [(wMo g mo mst mac mmk mr mrd mrm mcm mtp msz mtk mbg men mls mvl mft mfp mfk mdp mto), (wMAll g mo al)]) (lv' := [(0, .ref (mo 0)), (1, .int (iI t)), (2, .long (lI 0)), (4, .int (iI 0))]) [0, 1] [2, 3, 1, 0] rfl rfl rfl ?_
    exact cut20 _ 0 0 (by first | exact c5 | exact htt) (by omega) (by first | exact hv2 | rfl) (by first | exact hvr2 | omega) (Nat.lt_succ_self _)
  · skip
    have c5 := bI0 c5
    refine r_aload_n 9 hE 0 dX9_value_8 rfl rfl rfl ?_
    refine r_iconst 10 hE dX9_value_9 rfl ?_
    refine r_callV 13 hE [0] [1] [(wMo g mo mst mac mmk mr mrd mrm mcm mtp msz mtk mbg men mls mvl mft mfp mfk mdp mto)] [(wMAll g mo al)] 0 9 ok9 [] (c_X9_refuse) dX9_value_10 rfl rfl wd_1186 wd_1188 ws_47 wd_12 wd_1189 ne_X9 np_X9_refuse (Nat.le_of_ble_eq_true rfl)  (by decide) (by decide) rfl (Nat.le_of_ble_eq_true rfl) rfl rfl rfl rfl (by decide) rfl (fun v1 f1 hp => ?_)
    obtain ⟨rfl, rfl⟩ := hp
    show G g E _ _ _ [(wMo g mo 2 mac mmk mr mrd mrm mcm mtp msz mtk mbg men mls mvl mft mfp mfk mdp mto), (wMAll g mo al)] 13 [(0, .ref (mo 0)), (1, .int (iI t))] [.int (iI (-1))]
    refine r_i2l 14 hE dX9_value_13 rfl (by omega) ?_
    refine r_lreturn hE hR [(wMo g mo 2 mac mmk mr mrd mrm mcm mtp msz mtk mbg men mls mvl mft mfp mfk mdp mto), (wMAll g mo al)] dX9_value_14 (Nat.le_of_ble_eq_true rfl) (Nat.le_of_ble_eq_true rfl) rfl ?_
    exact ⟨_, _, rfl, rfl, Or.inl ⟨by unfold HasT; omega, rfl, rfl⟩⟩
