set_option maxHeartbeats 4000000 in
set_option maxRecDepth 100000 in
theorem c_X8_against_0 {g : Gm} {a : Nat → Nat} {L ln tp rd : Int → Int} {cnt era nws : Int} {x tpa da pa qa rua wa sa bka : Nat} {taped told : Int} {t u v : Int} (hw : v = 0) (hsh : ShOk L ln cnt) (ht : 0 ≤ t ∧ t < cnt) (hu : 0 ≤ u ∧ u < cnt) : Ct g 6 0 0 yX8_against cX8_against 5 (some .int) [.ref x, .int (iI t), .int (iI u), .int (iI v)] [(wMain g x tpa (a 0) da pa qa rua wa sa bka taped told), (wShelf g a L ln tp rd cnt era nws)] (fun v_ w_ => ∃ r9 : Int, v_ = some (.int (iI r9)) ∧ w_ = [(wMain g x tpa (a 0) da pa qa rua wa sa bka taped 0), (wShelf g a L ln tp rd cnt era nws)] ∧ (AgIs (tx L t) (ln t) (tx L u) (ln u) 0 r9)) := by
  refine Ct.of (by decide) (Nat.le_of_ble_eq_true rfl) (lv := [(0, .ref x), (1, .int (iI t)), (2, .int (iI u)), (3, .int (iI v))]) rfl ?_
  intro E hE hR hnm
  have hc := hsh.1
  have hln := hsh.ln
  have hB := hsh.2.1
  have hcr := cmpT_rg (tx L t) (ln t) (tx L u) (ln u)
  have hl1 := hln t ht.1 ht.2
  have hl2 := hln u hu.1 hu.2
  refine r_iload_n 1 hE 3 dX8_against_0 rfl rfl rfl ?_
  refine r_if_lt 4 9 hE dX8_against_1 rfl (by decide) (by omega) (fun c1 => ?_) (fun c1 => ?_)
  · skip
    omega
  · skip
    refine r_iload_n 5 hE 3 dX8_against_4 rfl rfl rfl ?_
    refine r_iconst 6 hE dX8_against_5 rfl ?_
    refine r_icmp_le 9 15 hE dX8_against_6 rfl (by decide) (by omega) (fun c6 => ?_) (fun c6 => ?_)
    · skip
      refine r_aload_n 16 hE 0 dX8_against_15 rfl rfl rfl ?_
      refine r_get 19 hE 0 0 ok8 4 dX8_against_16 rfl wd_301 rfl rfl (by decide) rfl ?_
      refine r_iload_n 20 hE 1 dX8_against_19 rfl rfl rfl ?_
      refine r_callV 23 hE [1] [0] [(wShelf g a L ln tp rd cnt era nws)] [(wMain g x tpa (a 0) da pa qa rua wa sa bka taped told)] 0 5 ok5 [] (c_X5_has (by omega) (by omega)) dX8_against_20 rfl rfl wd_764 wd_578 wd_579 wd_4 wd_580 ne_X5 np_X5_has (Nat.le_of_ble_eq_true rfl)  (by decide) (by decide) rfl (Nat.le_of_ble_eq_true rfl) rfl rfl rfl rfl (by decide) rfl (fun v1 f1 hp => ?_)
      obtain ⟨rfl, rfl⟩ := hp
      show G g E _ _ _ [(wShelf g a L ln tp rd cnt era nws), (wMain g x tpa (a 0) da pa qa rua wa sa bka taped told)] 23 [(0, .ref x), (1, .int (iI t)), (2, .int (iI u)), (3, .int (iI v))] [.int (iI (bI (0 ≤ t ∧ t < cnt)))]
      refine r_if_eq 26 37 hE dX8_against_23 rfl (by decide) (bI_rg _) (fun c23 => ?_) (fun c23 => ?_)
      · skip
        have c23 := bI0 c23
        omega
      · skip
        have c23 := bI1 c23
        refine r_aload_n 27 hE 0 dX8_against_26 rfl rfl rfl ?_
        refine r_get 30 hE 1 0 ok8 4 dX8_against_27 rfl wd_301 rfl rfl (by decide) rfl ?_
        refine r_iload_n 31 hE 2 dX8_against_30 rfl rfl rfl ?_
        refine r_callV 34 hE [0] [1] [(wShelf g a L ln tp rd cnt era nws)] [(wMain g x tpa (a 0) da pa qa rua wa sa bka taped told)] 0 5 ok5 [] (c_X5_has (by omega) (by omega)) dX8_against_31 rfl rfl wd_764 wd_578 wd_579 wd_4 wd_580 ne_X5 np_X5_has (Nat.le_of_ble_eq_true rfl)  (by decide) (by decide) rfl (Nat.le_of_ble_eq_true rfl) rfl rfl rfl rfl (by decide) rfl (fun v1 f1 hp => ?_)
        obtain ⟨rfl, rfl⟩ := hp
        show G g E _ _ _ [(wShelf g a L ln tp rd cnt era nws), (wMain g x tpa (a 0) da pa qa rua wa sa bka taped told)] 34 [(0, .ref x), (1, .int (iI t)), (2, .int (iI u)), (3, .int (iI v))] [.int (iI (bI (0 ≤ u ∧ u < cnt)))]
        refine r_if_ne 37 43 hE dX8_against_34 rfl (by decide) (bI_rg _) (fun c34 => ?_) (fun c34 => ?_)
        · skip
          have c34 := bI1 c34
          refine r_aload_n 44 hE 0 dX8_against_43 rfl rfl rfl ?_
          refine r_get 47 hE 1 0 ok8 4 dX8_against_44 rfl wd_301 rfl rfl (by decide) rfl ?_
          refine r_iload_n 48 hE 1 dX8_against_47 rfl rfl rfl ?_
          refine r_iload_n 49 hE 2 dX8_against_48 rfl rfl rfl ?_
          refine r_callV 52 hE [0] [1] [(wShelf g a L ln tp rd cnt era nws)] [(wMain g x tpa (a 0) da pa qa rua wa sa bka taped told)] 0 5 ok5 [] (c_X5_compare (by omega) (by omega) (by omega) (hln) (hB)) dX8_against_49 rfl rfl wd_983 wd_984 wd_985 wd_4 wd_986 ne_X5 np_X5_compare (Nat.le_of_ble_eq_true rfl)  (by decide) (by decide) rfl (Nat.le_of_ble_eq_true rfl) rfl rfl rfl rfl (by decide) rfl (fun v1 f1 hp => ?_)
          obtain ⟨rfl, rfl⟩ := hp
          show G g E _ _ _ [(wShelf g a L ln tp rd cnt era nws), (wMain g x tpa (a 0) da pa qa rua wa sa bka taped told)] 52 [(0, .ref x), (1, .int (iI t)), (2, .int (iI u)), (3, .int (iI v))] [.int (iI (cmpT (tx L t) (ln t) (tx L u) (ln u)))]
          refine r_istore 54 hE [(4, .int (iI (cmpT (tx L t) (ln t) (tx L u) (ln u)))), (0, .ref x), (1, .int (iI t)), (2, .int (iI u)), (3, .int (iI v))] dX8_against_52 rfl (by decide) rfl ?_
          refine r_iload_n 55 hE 4 dX8_against_54 rfl rfl rfl ?_
          refine r_tsIn 80 hE 0 dX8_against_55 (hw) (by decide) rfl (by decide) ?_
          refine r_aload_n 81 hE 1 dX8_against_80 rfl rfl rfl ?_
          refine r_iload 83 hE 0 dX8_against_81 rfl rfl ?_
          refine r_if_ne 86 90 hE dX8_against_83 rfl (by decide) (by omega) (fun c83 => ?_) (fun c83 => ?_)
          · skip
            refine r_aload_n 91 hE 1 dX8_against_90 rfl rfl rfl ?_
            refine r_get 94 hE 1 0 ok8 4 dX8_against_91 rfl wd_301 rfl rfl (by decide) rfl ?_
            refine r_iload_n 95 hE 2 dX8_against_94 rfl rfl rfl ?_
            refine r_iconst 96 hE dX8_against_95 rfl ?_
            refine r_iload_n 97 hE 3 dX8_against_96 rfl rfl rfl ?_
            refine r_iconst 98 hE dX8_against_97 rfl ?_
            refine r_callV 101 hE [0] [1] [(wShelf g a L ln tp rd cnt era nws)] [(wMain g x tpa (a 0) da pa qa rua wa sa bka taped told)] 0 5 ok5 [.ref x] (c_X5_same (by omega) (by omega) (by omega) (hln) (hB) (by omega) (by omega)) dX8_against_98 rfl rfl wd_973 wd_974 wd_975 wd_4 wd_976 ne_X5 np_X5_same (Nat.le_of_ble_eq_true rfl)  (by decide) (by decide) rfl (Nat.le_of_ble_eq_true rfl) rfl rfl rfl rfl (by decide) rfl (fun v1 f1 hp => ?_)
            obtain ⟨r_98, rfl, rfl, h98_0⟩ := hp
            show G g E _ _ _ [(wShelf g a L ln tp rd cnt era nws), (wMain g x tpa (a 0) da pa qa rua wa sa bka taped told)] 101 [(4, .int (iI (cmpT (tx L t) (ln t) (tx L u) (ln u)))), (0, .ref x), (1, .int (iI t)), (2, .int (iI u)), (3, .int (iI v))] [.int (iI r_98), .ref x]
            have hq : r_98 = lcpF (tx L t) (tx L u) (min (ln t) (ln u)) := by
              have h9 : LcpIs (tx L t) (tx L u) (min (ln t) (ln u)) r_98 := by
                have e1 : (fun k => tx L t (0 + k)) = tx L t := by funext k; rw [Int.zero_add]
                have e2 : (fun k => tx L u (0 + k)) = tx L u := by funext k; rw [Int.zero_add]
                rw [e1, e2, Int.sub_zero, Int.sub_zero] at h98_0
                exact h98_0
              exact h9.eq
            refine r_callV 104 hE [1] [0] [(wMain g x tpa (a 0) da pa qa rua wa sa bka taped told)] [(wShelf g a L ln tp rd cnt era nws)] 0 8 ok8 [] (c_X8_answer) dX8_against_101 rfl rfl wd_739 wd_741 ws_33 wd_1 wd_742 ne_X8 np_X8_answer (Nat.le_of_ble_eq_true rfl)  (by decide) (by decide) rfl (Nat.le_of_ble_eq_true rfl) rfl rfl rfl rfl (by decide) rfl (fun v1 f1 hp => ?_)
            obtain ⟨rfl, rfl⟩ := hp
            show G g E _ _ _ [(wMain g x tpa (a 0) da pa qa rua wa sa bka taped 0), (wShelf g a L ln tp rd cnt era nws)] 104 [(4, .int (iI (cmpT (tx L t) (ln t) (tx L u) (ln u)))), (0, .ref x), (1, .int (iI t)), (2, .int (iI u)), (3, .int (iI v))] [.int (iI r_98)]
            refine r_ireturn hE hR [(wMain g x tpa (a 0) da pa qa rua wa sa bka taped 0), (wShelf g a L ln tp rd cnt era nws)] dX8_against_104 (Nat.le_of_ble_eq_true rfl) (Nat.le_of_ble_eq_true rfl) rfl ?_
            first
              | exact ⟨_, rfl, rfl, Or.inl ⟨rfl, by rw [if_pos c83]⟩⟩
              | exact ⟨_, rfl, rfl, Or.inl ⟨rfl, by rw [if_neg c83]; exact hq⟩⟩
          · skip
            refine r_iconst 87 hE dX8_against_86 rfl ?_
            refine r_goto 101 hE dX8_against_87 (by decide) ?_
            refine r_callV 104 hE [1] [0] [(wMain g x tpa (a 0) da pa qa rua wa sa bka taped told)] [(wShelf g a L ln tp rd cnt era nws)] 0 8 ok8 [] (c_X8_answer) dX8_against_101 rfl rfl wd_739 wd_741 ws_33 wd_1 wd_742 ne_X8 np_X8_answer (Nat.le_of_ble_eq_true rfl)  (by decide) (by decide) rfl (Nat.le_of_ble_eq_true rfl) rfl rfl rfl rfl (by decide) rfl (fun v1 f1 hp => ?_)
            obtain ⟨rfl, rfl⟩ := hp
            show G g E _ _ _ [(wMain g x tpa (a 0) da pa qa rua wa sa bka taped 0), (wShelf g a L ln tp rd cnt era nws)] 104 [(4, .int (iI (cmpT (tx L t) (ln t) (tx L u) (ln u)))), (0, .ref x), (1, .int (iI t)), (2, .int (iI u)), (3, .int (iI v))] [.int (iI (-1))]
            refine r_ireturn hE hR [(wMain g x tpa (a 0) da pa qa rua wa sa bka taped 0), (wShelf g a L ln tp rd cnt era nws)] dX8_against_104 (Nat.le_of_ble_eq_true rfl) (Nat.le_of_ble_eq_true rfl) rfl ?_
            first
              | exact ⟨_, rfl, rfl, Or.inl ⟨rfl, by rw [if_pos c83]⟩⟩
              | exact ⟨_, rfl, rfl, Or.inl ⟨rfl, by rw [if_neg c83]; exact hq⟩⟩
        · skip
          have c34 := bI0 c34
          omega
    · skip
      omega
set_option maxHeartbeats 4000000 in
set_option maxRecDepth 100000 in
theorem c_X8_against_1 {g : Gm} {a : Nat → Nat} {L ln tp rd : Int → Int} {cnt era nws : Int} {x tpa da pa qa rua wa sa bka : Nat} {taped told : Int} {t u v : Int} (hw : v = 1) (hsh : ShOk L ln cnt) (ht : 0 ≤ t ∧ t < cnt) (hu : 0 ≤ u ∧ u < cnt) : Ct g 6 0 0 yX8_against cX8_against 5 (some .int) [.ref x, .int (iI t), .int (iI u), .int (iI v)] [(wMain g x tpa (a 0) da pa qa rua wa sa bka taped told), (wShelf g a L ln tp rd cnt era nws)] (fun v_ w_ => ∃ r9 : Int, v_ = some (.int (iI r9)) ∧ w_ = [(wMain g x tpa (a 0) da pa qa rua wa sa bka taped 0), (wShelf g a L ln tp rd cnt era nws)] ∧ (AgIs (tx L t) (ln t) (tx L u) (ln u) 1 r9)) := by
  refine Ct.of (by decide) (Nat.le_of_ble_eq_true rfl) (lv := [(0, .ref x), (1, .int (iI t)), (2, .int (iI u)), (3, .int (iI v))]) rfl ?_
  intro E hE hR hnm
  have hc := hsh.1
  have hln := hsh.ln
  have hB := hsh.2.1
  have hcr := cmpT_rg (tx L t) (ln t) (tx L u) (ln u)
  have hl1 := hln t ht.1 ht.2
  have hl2 := hln u hu.1 hu.2
  refine r_iload_n 1 hE 3 dX8_against_0 rfl rfl rfl ?_
  refine r_if_lt 4 9 hE dX8_against_1 rfl (by decide) (by omega) (fun c1 => ?_) (fun c1 => ?_)
  · skip
    omega
  · skip
    refine r_iload_n 5 hE 3 dX8_against_4 rfl rfl rfl ?_
    refine r_iconst 6 hE dX8_against_5 rfl ?_
    refine r_icmp_le 9 15 hE dX8_against_6 rfl (by decide) (by omega) (fun c6 => ?_) (fun c6 => ?_)
    · skip
      refine r_aload_n 16 hE 0 dX8_against_15 rfl rfl rfl ?_
      refine r_get 19 hE 0 0 ok8 4 dX8_against_16 rfl wd_301 rfl rfl (by decide) rfl ?_
      refine r_iload_n 20 hE 1 dX8_against_19 rfl rfl rfl ?_
      refine r_callV 23 hE [1] [0] [(wShelf g a L ln tp rd cnt era nws)] [(wMain g x tpa (a 0) da pa qa rua wa sa bka taped told)] 0 5 ok5 [] (c_X5_has (by omega) (by omega)) dX8_against_20 rfl rfl wd_764 wd_578 wd_579 wd_4 wd_580 ne_X5 np_X5_has (Nat.le_of_ble_eq_true rfl)  (by decide) (by decide) rfl (Nat.le_of_ble_eq_true rfl) rfl rfl rfl rfl (by decide) rfl (fun v1 f1 hp => ?_)
      obtain ⟨rfl, rfl⟩ := hp
      show G g E _ _ _ [(wShelf g a L ln tp rd cnt era nws), (wMain g x tpa (a 0) da pa qa rua wa sa bka taped told)] 23 [(0, .ref x), (1, .int (iI t)), (2, .int (iI u)), (3, .int (iI v))] [.int (iI (bI (0 ≤ t ∧ t < cnt)))]
      refine r_if_eq 26 37 hE dX8_against_23 rfl (by decide) (bI_rg _) (fun c23 => ?_) (fun c23 => ?_)
      · skip
        have c23 := bI0 c23
        omega
      · skip
        have c23 := bI1 c23
        refine r_aload_n 27 hE 0 dX8_against_26 rfl rfl rfl ?_
        refine r_get 30 hE 1 0 ok8 4 dX8_against_27 rfl wd_301 rfl rfl (by decide) rfl ?_
        refine r_iload_n 31 hE 2 dX8_against_30 rfl rfl rfl ?_
        refine r_callV 34 hE [0] [1] [(wShelf g a L ln tp rd cnt era nws)] [(wMain g x tpa (a 0) da pa qa rua wa sa bka taped told)] 0 5 ok5 [] (c_X5_has (by omega) (by omega)) dX8_against_31 rfl rfl wd_764 wd_578 wd_579 wd_4 wd_580 ne_X5 np_X5_has (Nat.le_of_ble_eq_true rfl)  (by decide) (by decide) rfl (Nat.le_of_ble_eq_true rfl) rfl rfl rfl rfl (by decide) rfl (fun v1 f1 hp => ?_)
        obtain ⟨rfl, rfl⟩ := hp
        show G g E _ _ _ [(wShelf g a L ln tp rd cnt era nws), (wMain g x tpa (a 0) da pa qa rua wa sa bka taped told)] 34 [(0, .ref x), (1, .int (iI t)), (2, .int (iI u)), (3, .int (iI v))] [.int (iI (bI (0 ≤ u ∧ u < cnt)))]
        refine r_if_ne 37 43 hE dX8_against_34 rfl (by decide) (bI_rg _) (fun c34 => ?_) (fun c34 => ?_)
        · skip
          have c34 := bI1 c34
          refine r_aload_n 44 hE 0 dX8_against_43 rfl rfl rfl ?_
          refine r_get 47 hE 1 0 ok8 4 dX8_against_44 rfl wd_301 rfl rfl (by decide) rfl ?_
          refine r_iload_n 48 hE 1 dX8_against_47 rfl rfl rfl ?_
          refine r_iload_n 49 hE 2 dX8_against_48 rfl rfl rfl ?_
          refine r_callV 52 hE [0] [1] [(wShelf g a L ln tp rd cnt era nws)] [(wMain g x tpa (a 0) da pa qa rua wa sa bka taped told)] 0 5 ok5 [] (c_X5_compare (by omega) (by omega) (by omega) (hln) (hB)) dX8_against_49 rfl rfl wd_983 wd_984 wd_985 wd_4 wd_986 ne_X5 np_X5_compare (Nat.le_of_ble_eq_true rfl)  (by decide) (by decide) rfl (Nat.le_of_ble_eq_true rfl) rfl rfl rfl rfl (by decide) rfl (fun v1 f1 hp => ?_)
          obtain ⟨rfl, rfl⟩ := hp
          show G g E _ _ _ [(wShelf g a L ln tp rd cnt era nws), (wMain g x tpa (a 0) da pa qa rua wa sa bka taped told)] 52 [(0, .ref x), (1, .int (iI t)), (2, .int (iI u)), (3, .int (iI v))] [.int (iI (cmpT (tx L t) (ln t) (tx L u) (ln u)))]
          refine r_istore 54 hE [(4, .int (iI (cmpT (tx L t) (ln t) (tx L u) (ln u)))), (0, .ref x), (1, .int (iI t)), (2, .int (iI u)), (3, .int (iI v))] dX8_against_52 rfl (by decide) rfl ?_
          refine r_iload_n 55 hE 4 dX8_against_54 rfl rfl rfl ?_
          refine r_tsIn 105 hE 1 dX8_against_55 (hw) (by decide) rfl (by decide) ?_
          refine r_aload_n 106 hE 1 dX8_against_105 rfl rfl rfl ?_
          refine r_iload 108 hE 0 dX8_against_106 rfl rfl ?_
          refine r_if_ge 111 115 hE dX8_against_108 rfl (by decide) (by omega) (fun c108 => ?_) (fun c108 => ?_)
          · skip
            refine r_iload 117 hE 0 dX8_against_115 rfl rfl ?_
            refine r_if_le 120 124 hE dX8_against_117 rfl (by decide) (by omega) (fun c117 => ?_) (fun c117 => ?_)
            · skip
              refine r_iconst 125 hE dX8_against_124 rfl ?_
              refine r_callV 128 hE [1] [0] [(wMain g x tpa (a 0) da pa qa rua wa sa bka taped told)] [(wShelf g a L ln tp rd cnt era nws)] 0 8 ok8 [] (c_X8_answer) dX8_against_125 rfl rfl wd_739 wd_741 ws_33 wd_1 wd_742 ne_X8 np_X8_answer (Nat.le_of_ble_eq_true rfl)  (by decide) (by decide) rfl (Nat.le_of_ble_eq_true rfl) rfl rfl rfl rfl (by decide) rfl (fun v1 f1 hp => ?_)
              obtain ⟨rfl, rfl⟩ := hp
              show G g E _ _ _ [(wMain g x tpa (a 0) da pa qa rua wa sa bka taped 0), (wShelf g a L ln tp rd cnt era nws)] 128 [(4, .int (iI (cmpT (tx L t) (ln t) (tx L u) (ln u)))), (0, .ref x), (1, .int (iI t)), (2, .int (iI u)), (3, .int (iI v))] [.int (iI 0)]
              refine r_ireturn hE hR [(wMain g x tpa (a 0) da pa qa rua wa sa bka taped 0), (wShelf g a L ln tp rd cnt era nws)] dX8_against_128 (Nat.le_of_ble_eq_true rfl) (Nat.le_of_ble_eq_true rfl) rfl ?_
              exact ⟨_, rfl, rfl, Or.inr (Or.inl ⟨rfl, by (repeat (first | rw [if_pos (by omega)] | rw [if_neg (by omega)]))⟩)⟩
            · skip
              refine r_iconst 121 hE dX8_against_120 rfl ?_
              refine r_goto 125 hE dX8_against_121 (by decide) ?_
              refine r_callV 128 hE [1] [0] [(wMain g x tpa (a 0) da pa qa rua wa sa bka taped told)] [(wShelf g a L ln tp rd cnt era nws)] 0 8 ok8 [] (c_X8_answer) dX8_against_125 rfl rfl wd_739 wd_741 ws_33 wd_1 wd_742 ne_X8 np_X8_answer (Nat.le_of_ble_eq_true rfl)  (by decide) (by decide) rfl (Nat.le_of_ble_eq_true rfl) rfl rfl rfl rfl (by decide) rfl (fun v1 f1 hp => ?_)
              obtain ⟨rfl, rfl⟩ := hp
              show G g E _ _ _ [(wMain g x tpa (a 0) da pa qa rua wa sa bka taped 0), (wShelf g a L ln tp rd cnt era nws)] 128 [(4, .int (iI (cmpT (tx L t) (ln t) (tx L u) (ln u)))), (0, .ref x), (1, .int (iI t)), (2, .int (iI u)), (3, .int (iI v))] [.int (iI 2)]
              refine r_ireturn hE hR [(wMain g x tpa (a 0) da pa qa rua wa sa bka taped 0), (wShelf g a L ln tp rd cnt era nws)] dX8_against_128 (Nat.le_of_ble_eq_true rfl) (Nat.le_of_ble_eq_true rfl) rfl ?_
              exact ⟨_, rfl, rfl, Or.inr (Or.inl ⟨rfl, by (repeat (first | rw [if_pos (by omega)] | rw [if_neg (by omega)]))⟩)⟩
          · skip
            refine r_iconst 112 hE dX8_against_111 rfl ?_
            refine r_goto 125 hE dX8_against_112 (by decide) ?_
            refine r_callV 128 hE [1] [0] [(wMain g x tpa (a 0) da pa qa rua wa sa bka taped told)] [(wShelf g a L ln tp rd cnt era nws)] 0 8 ok8 [] (c_X8_answer) dX8_against_125 rfl rfl wd_739 wd_741 ws_33 wd_1 wd_742 ne_X8 np_X8_answer (Nat.le_of_ble_eq_true rfl)  (by decide) (by decide) rfl (Nat.le_of_ble_eq_true rfl) rfl rfl rfl rfl (by decide) rfl (fun v1 f1 hp => ?_)
            obtain ⟨rfl, rfl⟩ := hp
            show G g E _ _ _ [(wMain g x tpa (a 0) da pa qa rua wa sa bka taped 0), (wShelf g a L ln tp rd cnt era nws)] 128 [(4, .int (iI (cmpT (tx L t) (ln t) (tx L u) (ln u)))), (0, .ref x), (1, .int (iI t)), (2, .int (iI u)), (3, .int (iI v))] [.int (iI 1)]
            refine r_ireturn hE hR [(wMain g x tpa (a 0) da pa qa rua wa sa bka taped 0), (wShelf g a L ln tp rd cnt era nws)] dX8_against_128 (Nat.le_of_ble_eq_true rfl) (Nat.le_of_ble_eq_true rfl) rfl ?_
            exact ⟨_, rfl, rfl, Or.inr (Or.inl ⟨rfl, by (repeat (first | rw [if_pos (by omega)] | rw [if_neg (by omega)]))⟩)⟩
        · skip
          have c34 := bI0 c34
          omega
    · skip
      omega
set_option maxHeartbeats 4000000 in
set_option maxRecDepth 100000 in
theorem c_X8_against_2 {g : Gm} {a : Nat → Nat} {L ln tp rd : Int → Int} {cnt era nws : Int} {ru : Nat → Nat} {kd fi se sg le de nx he ro : Int → Int} {rc re rr : Int} {R : Int → Rl} {w : Nat → Nat} {sp nb mt pl op no : Int → Int} {od stm wc : Int} {x tpa da pa qa rua sa bka : Nat} {taped told : Int} {t u v : Int} (hw : v = 2) (hT : RT kd fi se sg le de nx he rc R) (hsh : ShOk L ln cnt) (hto : TopsOk R rc L ln tp rd cnt) (ht : 0 ≤ t ∧ t < cnt) (hu : 0 ≤ u ∧ u < cnt) (hWI : 0 ≤ stm ∧ ∀ i, 0 ≤ i → i < 10240 → 0 ≤ sp i ∧ sp i ≤ stm) (hs2 : stm ≤ 1500000000) : Ct g 6 0 0 yX8_against cX8_against 5 (some .int) [.ref x, .int (iI t), .int (iI u), .int (iI v)] [(wMain g x tpa (a 0) da pa qa rua (w 0) sa bka taped told), (wShelf g a L ln tp rd cnt era nws), (wWalk g w (ru 0) sp nb mt pl op no od stm wc), (wRules g ru kd fi se sg le de nx he ro rc re rr)] (fun v_ w_ => ∃ sp9 : Int → Int, ∃ nb9 : Int → Int, ∃ mt9 : Int → Int, ∃ pl9 : Int → Int, ∃ op9 : Int → Int, ∃ no9 : Int → Int, ∃ od9 : Int, ∃ wc9 : Int, ∃ r9 : Int, v_ = some (.int (iI r9)) ∧ w_ = [(wMain g x tpa (a 0) da pa qa rua (w 0) sa bka taped 0), (wShelf g a L ln tp rd cnt era nws), (wWalk g w (ru 0) sp9 nb9 mt9 pl9 op9 no9 od9 (stm + 1 + 1) wc9), (wRules g ru kd fi se sg le de nx he ro rc re rr)] ∧ (0 ≤ stm + 1 + 1 ∧ ∀ i, 0 ≤ i → i < 10240 → 0 ≤ sp9 i ∧ sp9 i ≤ stm + 1 + 1) ∧ (AgIs (tx L t) (ln t) (tx L u) (ln u) 2 r9)) := by
  refine Ct.of (by decide) (Nat.le_of_ble_eq_true rfl) (lv := [(0, .ref x), (1, .int (iI t)), (2, .int (iI u)), (3, .int (iI v))]) rfl ?_
  intro E hE hR hnm
  have hc := hsh.1
  have hln := hsh.ln
  have hB := hsh.2.1
  have hcr := cmpT_rg (tx L t) (ln t) (tx L u) (ln u)
  have hl1 := hln t ht.1 ht.2
  have hl2 := hln u hu.1 hu.2
  refine r_iload_n 1 hE 3 dX8_against_0 rfl rfl rfl ?_
  refine r_if_lt 4 9 hE dX8_against_1 rfl (by decide) (by omega) (fun c1 => ?_) (fun c1 => ?_)
  · skip
    omega
  · skip
    refine r_iload_n 5 hE 3 dX8_against_4 rfl rfl rfl ?_
    refine r_iconst 6 hE dX8_against_5 rfl ?_
    refine r_icmp_le 9 15 hE dX8_against_6 rfl (by decide) (by omega) (fun c6 => ?_) (fun c6 => ?_)
    · skip
      refine r_aload_n 16 hE 0 dX8_against_15 rfl rfl rfl ?_
      refine r_get 19 hE 0 0 ok8 4 dX8_against_16 rfl wd_301 rfl rfl (by decide) rfl ?_
      refine r_iload_n 20 hE 1 dX8_against_19 rfl rfl rfl ?_
      refine r_callV 23 hE [1] [0, 2, 3] [(wShelf g a L ln tp rd cnt era nws)] [(wMain g x tpa (a 0) da pa qa rua (w 0) sa bka taped told), (wWalk g w (ru 0) sp nb mt pl op no od stm wc), (wRules g ru kd fi se sg le de nx he ro rc re rr)] 0 5 ok5 [] (c_X5_has (by omega) (by omega)) dX8_against_20 rfl rfl wd_764 wd_578 wd_579 wd_4 wd_580 ne_X5 np_X5_has (Nat.le_of_ble_eq_true rfl)  (by decide) (by decide) rfl (Nat.le_of_ble_eq_true rfl) rfl rfl rfl rfl (by decide) rfl (fun v1 f1 hp => ?_)
      obtain ⟨rfl, rfl⟩ := hp
      show G g E _ _ _ [(wShelf g a L ln tp rd cnt era nws), (wMain g x tpa (a 0) da pa qa rua (w 0) sa bka taped told), (wWalk g w (ru 0) sp nb mt pl op no od stm wc), (wRules g ru kd fi se sg le de nx he ro rc re rr)] 23 [(0, .ref x), (1, .int (iI t)), (2, .int (iI u)), (3, .int (iI v))] [.int (iI (bI (0 ≤ t ∧ t < cnt)))]
      refine r_if_eq 26 37 hE dX8_against_23 rfl (by decide) (bI_rg _) (fun c23 => ?_) (fun c23 => ?_)
      · skip
        have c23 := bI0 c23
        omega
      · skip
        have c23 := bI1 c23
        refine r_aload_n 27 hE 0 dX8_against_26 rfl rfl rfl ?_
        refine r_get 30 hE 1 0 ok8 4 dX8_against_27 rfl wd_301 rfl rfl (by decide) rfl ?_
        refine r_iload_n 31 hE 2 dX8_against_30 rfl rfl rfl ?_
        refine r_callV 34 hE [0] [1, 2, 3] [(wShelf g a L ln tp rd cnt era nws)] [(wMain g x tpa (a 0) da pa qa rua (w 0) sa bka taped told), (wWalk g w (ru 0) sp nb mt pl op no od stm wc), (wRules g ru kd fi se sg le de nx he ro rc re rr)] 0 5 ok5 [] (c_X5_has (by omega) (by omega)) dX8_against_31 rfl rfl wd_764 wd_578 wd_579 wd_4 wd_580 ne_X5 np_X5_has (Nat.le_of_ble_eq_true rfl)  (by decide) (by decide) rfl (Nat.le_of_ble_eq_true rfl) rfl rfl rfl rfl (by decide) rfl (fun v1 f1 hp => ?_)
        obtain ⟨rfl, rfl⟩ := hp
        show G g E _ _ _ [(wShelf g a L ln tp rd cnt era nws), (wMain g x tpa (a 0) da pa qa rua (w 0) sa bka taped told), (wWalk g w (ru 0) sp nb mt pl op no od stm wc), (wRules g ru kd fi se sg le de nx he ro rc re rr)] 34 [(0, .ref x), (1, .int (iI t)), (2, .int (iI u)), (3, .int (iI v))] [.int (iI (bI (0 ≤ u ∧ u < cnt)))]
        refine r_if_ne 37 43 hE dX8_against_34 rfl (by decide) (bI_rg _) (fun c34 => ?_) (fun c34 => ?_)
        · skip
          have c34 := bI1 c34
          refine r_aload_n 44 hE 0 dX8_against_43 rfl rfl rfl ?_
          refine r_get 47 hE 1 0 ok8 4 dX8_against_44 rfl wd_301 rfl rfl (by decide) rfl ?_
          refine r_iload_n 48 hE 1 dX8_against_47 rfl rfl rfl ?_
          refine r_iload_n 49 hE 2 dX8_against_48 rfl rfl rfl ?_
          refine r_callV 52 hE [0] [1, 2, 3] [(wShelf g a L ln tp rd cnt era nws)] [(wMain g x tpa (a 0) da pa qa rua (w 0) sa bka taped told), (wWalk g w (ru 0) sp nb mt pl op no od stm wc), (wRules g ru kd fi se sg le de nx he ro rc re rr)] 0 5 ok5 [] (c_X5_compare (by omega) (by omega) (by omega) (hln) (hB)) dX8_against_49 rfl rfl wd_983 wd_984 wd_985 wd_4 wd_986 ne_X5 np_X5_compare (Nat.le_of_ble_eq_true rfl)  (by decide) (by decide) rfl (Nat.le_of_ble_eq_true rfl) rfl rfl rfl rfl (by decide) rfl (fun v1 f1 hp => ?_)
          obtain ⟨rfl, rfl⟩ := hp
          show G g E _ _ _ [(wShelf g a L ln tp rd cnt era nws), (wMain g x tpa (a 0) da pa qa rua (w 0) sa bka taped told), (wWalk g w (ru 0) sp nb mt pl op no od stm wc), (wRules g ru kd fi se sg le de nx he ro rc re rr)] 52 [(0, .ref x), (1, .int (iI t)), (2, .int (iI u)), (3, .int (iI v))] [.int (iI (cmpT (tx L t) (ln t) (tx L u) (ln u)))]
          refine r_istore 54 hE [(4, .int (iI (cmpT (tx L t) (ln t) (tx L u) (ln u)))), (0, .ref x), (1, .int (iI t)), (2, .int (iI u)), (3, .int (iI v))] dX8_against_52 rfl (by decide) rfl ?_
          refine r_iload_n 55 hE 4 dX8_against_54 rfl rfl rfl ?_
          refine r_tsIn 129 hE 2 dX8_against_55 (hw) (by decide) rfl (by decide) ?_
          refine r_aload_n 130 hE 1 dX8_against_129 rfl rfl rfl ?_
          refine r_aload_n 131 hE 1 dX8_against_130 rfl rfl rfl ?_
          refine r_iload_n 132 hE 2 dX8_against_131 rfl rfl rfl ?_
          refine r_iload_n 133 hE 3 dX8_against_132 rfl rfl rfl ?_
          refine r_callV 136 hE [1, 0, 2, 3] [] [(wMain g x tpa (a 0) da pa qa rua (w 0) sa bka taped told), (wShelf g a L ln tp rd cnt era nws), (wWalk g w (ru 0) sp nb mt pl op no od stm wc), (wRules g ru kd fi se sg le de nx he ro rc re rr)] [] 0 8 ok8 [.ref x] (c_X8_sharedRules (hT) (by omega) (by omega) (by omega) ((hto t ht.1 ht.2).1) ((hto u hu.1 hu.2).1) (hWI) (by omega)) dX8_against_133 rfl rfl wd_991 wd_993 ws_45 wd_1 wd_994 ne_X8 np_X8_sharedRules (Nat.le_of_ble_eq_true rfl)  (by decide) (by decide) rfl (Nat.le_of_ble_eq_true rfl) rfl rfl rfl rfl (by decide) rfl (fun v1 f1 hp => ?_)
          obtain ⟨sp9_133, nb9_133, mt9_133, pl9_133, op9_133, no9_133, od9_133, wc9_133, V9_133, r9_133, rfl, rfl, h133_0, h133_1⟩ := hp
          show G g E _ _ _ [(wMain g x tpa (a 0) da pa qa rua (w 0) sa bka taped told), (wShelf g a L ln tp rd cnt era nws), (wWalk g w (ru 0) sp9_133 nb9_133 mt9_133 pl9_133 op9_133 no9_133 od9_133 (stm + 1 + 1) wc9_133), (wRules g ru kd fi se sg le de nx he ro rc re rr)] 136 [(4, .int (iI (cmpT (tx L t) (ln t) (tx L u) (ln u)))), (0, .ref x), (1, .int (iI t)), (2, .int (iI u)), (3, .int (iI v))] [.int (iI r9_133), .ref x]
          refine r_callV 139 hE [0] [1, 2, 3] [(wMain g x tpa (a 0) da pa qa rua (w 0) sa bka taped told)] [(wShelf g a L ln tp rd cnt era nws), (wWalk g w (ru 0) sp9_133 nb9_133 mt9_133 pl9_133 op9_133 no9_133 od9_133 (stm + 1 + 1) wc9_133), (wRules g ru kd fi se sg le de nx he ro rc re rr)] 0 8 ok8 [] (c_X8_answer) dX8_against_136 rfl rfl wd_739 wd_741 ws_33 wd_1 wd_742 ne_X8 np_X8_answer (Nat.le_of_ble_eq_true rfl)  (by decide) (by decide) rfl (Nat.le_of_ble_eq_true rfl) rfl rfl rfl rfl (by decide) rfl (fun v1 f1 hp => ?_)
          obtain ⟨rfl, rfl⟩ := hp
          show G g E _ _ _ [(wMain g x tpa (a 0) da pa qa rua (w 0) sa bka taped 0), (wShelf g a L ln tp rd cnt era nws), (wWalk g w (ru 0) sp9_133 nb9_133 mt9_133 pl9_133 op9_133 no9_133 od9_133 (stm + 1 + 1) wc9_133), (wRules g ru kd fi se sg le de nx he ro rc re rr)] 139 [(4, .int (iI (cmpT (tx L t) (ln t) (tx L u) (ln u)))), (0, .ref x), (1, .int (iI t)), (2, .int (iI u)), (3, .int (iI v))] [.int (iI r9_133)]
          refine r_ireturn hE hR [(wMain g x tpa (a 0) da pa qa rua (w 0) sa bka taped 0), (wShelf g a L ln tp rd cnt era nws), (wWalk g w (ru 0) sp9_133 nb9_133 mt9_133 pl9_133 op9_133 no9_133 od9_133 (stm + 1 + 1) wc9_133), (wRules g ru kd fi se sg le de nx he ro rc re rr)] dX8_against_139 (Nat.le_of_ble_eq_true rfl) (Nat.le_of_ble_eq_true rfl) rfl ?_
          exact ⟨_, _, _, _, _, _, _, _, _, rfl, rfl, h133_0.2.1, Or.inr (Or.inr (Or.inl ⟨rfl, _, _, ⟨_, by rw [← lts_tx]; exact (hto t ht.1 ht.2).2⟩, ⟨_, by rw [← lts_tx]; exact (hto u hu.1 hu.2).2⟩, h133_1⟩))⟩
        · skip
          have c34 := bI0 c34
          omega
    · skip
      omega
set_option maxHeartbeats 4000000 in
set_option maxRecDepth 100000 in
theorem c_X8_against_3 {g : Gm} {a : Nat → Nat} {L ln tp rd : Int → Int} {cnt era nws : Int} {ru : Nat → Nat} {kd fi se sg le de nx he ro : Int → Int} {rc re rr : Int} {R : Int → Rl} {x tpa da pa qa wa sa bka : Nat} {taped told : Int} {t u v : Int} (hw : v = 3) (hT : RT kd fi se sg le de nx he rc R) (hsh : ShOk L ln cnt) (hto : TopsOk R rc L ln tp rd cnt) (ht : 0 ≤ t ∧ t < cnt) (hu : 0 ≤ u ∧ u < cnt) : Ct g 6 0 0 yX8_against cX8_against 5 (some .int) [.ref x, .int (iI t), .int (iI u), .int (iI v)] [(wMain g x tpa (a 0) da pa qa (ru 0) wa sa bka taped told), (wShelf g a L ln tp rd cnt era nws), (wRules g ru kd fi se sg le de nx he ro rc re rr)] (fun v_ w_ => ∃ r9 : Int, v_ = some (.int (iI r9)) ∧ w_ = [(wMain g x tpa (a 0) da pa qa (ru 0) wa sa bka taped 0), (wShelf g a L ln tp rd cnt era nws), (wRules g ru kd fi se sg le de nx he ro rc re rr)] ∧ (AgIs (tx L t) (ln t) (tx L u) (ln u) 3 r9)) := by
  refine Ct.of (by decide) (Nat.le_of_ble_eq_true rfl) (lv := [(0, .ref x), (1, .int (iI t)), (2, .int (iI u)), (3, .int (iI v))]) rfl ?_
  intro E hE hR hnm
  have hc := hsh.1
  have hln := hsh.ln
  have hB := hsh.2.1
  have hcr := cmpT_rg (tx L t) (ln t) (tx L u) (ln u)
  have hl1 := hln t ht.1 ht.2
  have hl2 := hln u hu.1 hu.2
  have hcn := hT.1
  have htt := (hto t ht.1 ht.2).1
  have htu := (hto u hu.1 hu.2).1
  have hbt := (hto t ht.1 ht.2).2
  have hbu := (hto u hu.1 hu.2).2
  rw [lts_tx] at hbt hbu
  have hz := cmpT_0 hl1.1 hl2.1 (fun k a b => ((hsh.2.2 t ht.1 ht.2).2 k a b).1) (fun k a b => ((hsh.2.2 u hu.1 hu.2).2 k a b).1)
  have hq : tp t = tp u ↔ cmpT (tx L t) (ln t) (tx L u) (ln u) = 0 := by
    rw [hz]
    constructor
    · intro e
      rw [e] at hbt
      exact top_text hl1.1 hl2.1 (fun k a b => ((hsh.2.2 t ht.1 ht.2).2 k a b).1) (fun k a b => ((hsh.2.2 u hu.1 hu.2).2 k a b).1) hbt hbu
    · rintro ⟨e1, e2⟩
      have e3 : lts (tx L t) 0 (ln t) = lts (tx L u) 0 (ln u) := by rw [← e1]; exact lts_cong (fun k a b => by rw [Int.zero_add]; exact e2 k a b)
      rw [e3] at hbt
      exact hT.2.2.1 _ _ htt.1 htt.2 htu.1 htu.2 (hbt.one hbu).1
  refine r_iload_n 1 hE 3 dX8_against_0 rfl rfl rfl ?_
  refine r_if_lt 4 9 hE dX8_against_1 rfl (by decide) (by omega) (fun c1 => ?_) (fun c1 => ?_)
  · skip
    omega
  · skip
    refine r_iload_n 5 hE 3 dX8_against_4 rfl rfl rfl ?_
    refine r_iconst 6 hE dX8_against_5 rfl ?_
    refine r_icmp_le 9 15 hE dX8_against_6 rfl (by decide) (by omega) (fun c6 => ?_) (fun c6 => ?_)
    · skip
      refine r_aload_n 16 hE 0 dX8_against_15 rfl rfl rfl ?_
      refine r_get 19 hE 0 0 ok8 4 dX8_against_16 rfl wd_301 rfl rfl (by decide) rfl ?_
      refine r_iload_n 20 hE 1 dX8_against_19 rfl rfl rfl ?_
      refine r_callV 23 hE [1] [0, 2] [(wShelf g a L ln tp rd cnt era nws)] [(wMain g x tpa (a 0) da pa qa (ru 0) wa sa bka taped told), (wRules g ru kd fi se sg le de nx he ro rc re rr)] 0 5 ok5 [] (c_X5_has (by omega) (by omega)) dX8_against_20 rfl rfl wd_764 wd_578 wd_579 wd_4 wd_580 ne_X5 np_X5_has (Nat.le_of_ble_eq_true rfl)  (by decide) (by decide) rfl (Nat.le_of_ble_eq_true rfl) rfl rfl rfl rfl (by decide) rfl (fun v1 f1 hp => ?_)
      obtain ⟨rfl, rfl⟩ := hp
      show G g E _ _ _ [(wShelf g a L ln tp rd cnt era nws), (wMain g x tpa (a 0) da pa qa (ru 0) wa sa bka taped told), (wRules g ru kd fi se sg le de nx he ro rc re rr)] 23 [(0, .ref x), (1, .int (iI t)), (2, .int (iI u)), (3, .int (iI v))] [.int (iI (bI (0 ≤ t ∧ t < cnt)))]
      refine r_if_eq 26 37 hE dX8_against_23 rfl (by decide) (bI_rg _) (fun c23 => ?_) (fun c23 => ?_)
      · skip
        have c23 := bI0 c23
        omega
      · skip
        have c23 := bI1 c23
        refine r_aload_n 27 hE 0 dX8_against_26 rfl rfl rfl ?_
        refine r_get 30 hE 1 0 ok8 4 dX8_against_27 rfl wd_301 rfl rfl (by decide) rfl ?_
        refine r_iload_n 31 hE 2 dX8_against_30 rfl rfl rfl ?_
        refine r_callV 34 hE [0] [1, 2] [(wShelf g a L ln tp rd cnt era nws)] [(wMain g x tpa (a 0) da pa qa (ru 0) wa sa bka taped told), (wRules g ru kd fi se sg le de nx he ro rc re rr)] 0 5 ok5 [] (c_X5_has (by omega) (by omega)) dX8_against_31 rfl rfl wd_764 wd_578 wd_579 wd_4 wd_580 ne_X5 np_X5_has (Nat.le_of_ble_eq_true rfl)  (by decide) (by decide) rfl (Nat.le_of_ble_eq_true rfl) rfl rfl rfl rfl (by decide) rfl (fun v1 f1 hp => ?_)
        obtain ⟨rfl, rfl⟩ := hp
        show G g E _ _ _ [(wShelf g a L ln tp rd cnt era nws), (wMain g x tpa (a 0) da pa qa (ru 0) wa sa bka taped told), (wRules g ru kd fi se sg le de nx he ro rc re rr)] 34 [(0, .ref x), (1, .int (iI t)), (2, .int (iI u)), (3, .int (iI v))] [.int (iI (bI (0 ≤ u ∧ u < cnt)))]
        refine r_if_ne 37 43 hE dX8_against_34 rfl (by decide) (bI_rg _) (fun c34 => ?_) (fun c34 => ?_)
        · skip
          have c34 := bI1 c34
          refine r_aload_n 44 hE 0 dX8_against_43 rfl rfl rfl ?_
          refine r_get 47 hE 1 0 ok8 4 dX8_against_44 rfl wd_301 rfl rfl (by decide) rfl ?_
          refine r_iload_n 48 hE 1 dX8_against_47 rfl rfl rfl ?_
          refine r_iload_n 49 hE 2 dX8_against_48 rfl rfl rfl ?_
          refine r_callV 52 hE [0] [1, 2] [(wShelf g a L ln tp rd cnt era nws)] [(wMain g x tpa (a 0) da pa qa (ru 0) wa sa bka taped told), (wRules g ru kd fi se sg le de nx he ro rc re rr)] 0 5 ok5 [] (c_X5_compare (by omega) (by omega) (by omega) (hln) (hB)) dX8_against_49 rfl rfl wd_983 wd_984 wd_985 wd_4 wd_986 ne_X5 np_X5_compare (Nat.le_of_ble_eq_true rfl)  (by decide) (by decide) rfl (Nat.le_of_ble_eq_true rfl) rfl rfl rfl rfl (by decide) rfl (fun v1 f1 hp => ?_)
          obtain ⟨rfl, rfl⟩ := hp
          show G g E _ _ _ [(wShelf g a L ln tp rd cnt era nws), (wMain g x tpa (a 0) da pa qa (ru 0) wa sa bka taped told), (wRules g ru kd fi se sg le de nx he ro rc re rr)] 52 [(0, .ref x), (1, .int (iI t)), (2, .int (iI u)), (3, .int (iI v))] [.int (iI (cmpT (tx L t) (ln t) (tx L u) (ln u)))]
          refine r_istore 54 hE [(4, .int (iI (cmpT (tx L t) (ln t) (tx L u) (ln u)))), (0, .ref x), (1, .int (iI t)), (2, .int (iI u)), (3, .int (iI v))] dX8_against_52 rfl (by decide) rfl ?_
          refine r_iload_n 55 hE 4 dX8_against_54 rfl rfl rfl ?_
          refine r_tsOut 140 hE dX8_against_55 (by omega) (by decide) ?_
          refine r_aload_n 141 hE 1 dX8_against_140 rfl rfl rfl ?_
          refine r_aload_n 142 hE 1 dX8_against_141 rfl rfl rfl ?_
          refine r_get 145 hE 1 0 ok8 4 dX8_against_142 rfl wd_301 rfl rfl (by decide) rfl ?_
          refine r_iload_n 146 hE 2 dX8_against_145 rfl rfl rfl ?_
          refine r_callV 149 hE [0] [1, 2] [(wShelf g a L ln tp rd cnt era nws)] [(wMain g x tpa (a 0) da pa qa (ru 0) wa sa bka taped told), (wRules g ru kd fi se sg le de nx he ro rc re rr)] 0 5 ok5 [.ref x] (c_X5_topOf (by omega) (by omega)) dX8_against_146 rfl rfl wd_680 wd_681 wd_682 wd_4 wd_683 ne_X5 np_X5_topOf (Nat.le_of_ble_eq_true rfl)  (by decide) (by decide) rfl (Nat.le_of_ble_eq_true rfl) rfl rfl rfl rfl (by decide) rfl (fun v1 f1 hp => ?_)
          obtain ⟨rfl, rfl⟩ := hp
          show G g E _ _ _ [(wShelf g a L ln tp rd cnt era nws), (wMain g x tpa (a 0) da pa qa (ru 0) wa sa bka taped told), (wRules g ru kd fi se sg le de nx he ro rc re rr)] 149 [(4, .int (iI (cmpT (tx L t) (ln t) (tx L u) (ln u)))), (0, .ref x), (1, .int (iI t)), (2, .int (iI u)), (3, .int (iI v))] [.int (iI (tp t)), .ref x]
          refine r_aload_n 150 hE 1 dX8_against_149 rfl rfl rfl ?_
          refine r_get 153 hE 1 0 ok8 4 dX8_against_150 rfl wd_301 rfl rfl (by decide) rfl ?_
          refine r_iload_n 154 hE 3 dX8_against_153 rfl rfl rfl ?_
          refine r_callV 157 hE [0] [1, 2] [(wShelf g a L ln tp rd cnt era nws)] [(wMain g x tpa (a 0) da pa qa (ru 0) wa sa bka taped told), (wRules g ru kd fi se sg le de nx he ro rc re rr)] 0 5 ok5 [.int (iI (tp t)), .ref x] (c_X5_topOf (by omega) (by omega)) dX8_against_154 rfl rfl wd_680 wd_681 wd_682 wd_4 wd_683 ne_X5 np_X5_topOf (Nat.le_of_ble_eq_true rfl)  (by decide) (by decide) rfl (Nat.le_of_ble_eq_true rfl) rfl rfl rfl rfl (by decide) rfl (fun v1 f1 hp => ?_)
          obtain ⟨rfl, rfl⟩ := hp
          show G g E _ _ _ [(wShelf g a L ln tp rd cnt era nws), (wMain g x tpa (a 0) da pa qa (ru 0) wa sa bka taped told), (wRules g ru kd fi se sg le de nx he ro rc re rr)] 157 [(4, .int (iI (cmpT (tx L t) (ln t) (tx L u) (ln u)))), (0, .ref x), (1, .int (iI t)), (2, .int (iI u)), (3, .int (iI v))] [.int (iI (tp u)), .int (iI (tp t)), .ref x]
          refine r_icmp_ne 160 164 hE dX8_against_157 rfl (by decide) (by omega) (fun c157 => ?_) (fun c157 => ?_)
          · skip
            refine r_iconst 165 hE dX8_against_164 rfl ?_
            refine r_callV 168 hE [1] [0, 2] [(wMain g x tpa (a 0) da pa qa (ru 0) wa sa bka taped told)] [(wShelf g a L ln tp rd cnt era nws), (wRules g ru kd fi se sg le de nx he ro rc re rr)] 0 8 ok8 [] (c_X8_answer) dX8_against_165 rfl rfl wd_739 wd_741 ws_33 wd_1 wd_742 ne_X8 np_X8_answer (Nat.le_of_ble_eq_true rfl)  (by decide) (by decide) rfl (Nat.le_of_ble_eq_true rfl) rfl rfl rfl rfl (by decide) rfl (fun v1 f1 hp => ?_)
            obtain ⟨rfl, rfl⟩ := hp
            show G g E _ _ _ [(wMain g x tpa (a 0) da pa qa (ru 0) wa sa bka taped 0), (wShelf g a L ln tp rd cnt era nws), (wRules g ru kd fi se sg le de nx he ro rc re rr)] 168 [(4, .int (iI (cmpT (tx L t) (ln t) (tx L u) (ln u)))), (0, .ref x), (1, .int (iI t)), (2, .int (iI u)), (3, .int (iI v))] [.int (iI 0)]
            refine r_ireturn hE hR [(wMain g x tpa (a 0) da pa qa (ru 0) wa sa bka taped 0), (wShelf g a L ln tp rd cnt era nws), (wRules g ru kd fi se sg le de nx he ro rc re rr)] dX8_against_168 (Nat.le_of_ble_eq_true rfl) (Nat.le_of_ble_eq_true rfl) rfl ?_
            first
              | exact ⟨_, rfl, rfl, Or.inr (Or.inr (Or.inr ⟨rfl, by rw [if_pos (hq.mp c157)]⟩))⟩
              | exact ⟨_, rfl, rfl, Or.inr (Or.inr (Or.inr ⟨rfl, by rw [if_neg (fun z => c157 (hq.mpr z))]⟩))⟩
          · skip
            refine r_iconst 161 hE dX8_against_160 rfl ?_
            refine r_goto 165 hE dX8_against_161 (by decide) ?_
            refine r_callV 168 hE [1] [0, 2] [(wMain g x tpa (a 0) da pa qa (ru 0) wa sa bka taped told)] [(wShelf g a L ln tp rd cnt era nws), (wRules g ru kd fi se sg le de nx he ro rc re rr)] 0 8 ok8 [] (c_X8_answer) dX8_against_165 rfl rfl wd_739 wd_741 ws_33 wd_1 wd_742 ne_X8 np_X8_answer (Nat.le_of_ble_eq_true rfl)  (by decide) (by decide) rfl (Nat.le_of_ble_eq_true rfl) rfl rfl rfl rfl (by decide) rfl (fun v1 f1 hp => ?_)
            obtain ⟨rfl, rfl⟩ := hp
            show G g E _ _ _ [(wMain g x tpa (a 0) da pa qa (ru 0) wa sa bka taped 0), (wShelf g a L ln tp rd cnt era nws), (wRules g ru kd fi se sg le de nx he ro rc re rr)] 168 [(4, .int (iI (cmpT (tx L t) (ln t) (tx L u) (ln u)))), (0, .ref x), (1, .int (iI t)), (2, .int (iI u)), (3, .int (iI v))] [.int (iI 1)]
            refine r_ireturn hE hR [(wMain g x tpa (a 0) da pa qa (ru 0) wa sa bka taped 0), (wShelf g a L ln tp rd cnt era nws), (wRules g ru kd fi se sg le de nx he ro rc re rr)] dX8_against_168 (Nat.le_of_ble_eq_true rfl) (Nat.le_of_ble_eq_true rfl) rfl ?_
            first
              | exact ⟨_, rfl, rfl, Or.inr (Or.inr (Or.inr ⟨rfl, by rw [if_pos (hq.mp c157)]⟩))⟩
              | exact ⟨_, rfl, rfl, Or.inr (Or.inr (Or.inr ⟨rfl, by rw [if_neg (fun z => c157 (hq.mpr z))]⟩))⟩
        · skip
          have c34 := bI0 c34
          omega
    · skip
      omega
set_option maxHeartbeats 4000000 in
set_option maxRecDepth 100000 in
theorem c_X8_against_no {g : Gm} {a : Nat → Nat} {L ln tp rd : Int → Int} {cnt era nws : Int} {x tpa da pa qa rua wa sa bka : Nat} {taped told : Int} {t u v : Int} (hsh : ShOk L ln cnt) (ht : -2147483648 ≤ t ∧ t ≤ 2147483647) (hu : -2147483648 ≤ u ∧ u ≤ 2147483647) (hv : -2147483648 ≤ v ∧ v ≤ 2147483647) (hno : ¬ (0 ≤ v ∧ v ≤ 3) ∨ ¬ ((0 ≤ t ∧ t < cnt) ∧ (0 ≤ u ∧ u < cnt))) : Ct g 6 0 0 yX8_against cX8_against 5 (some .int) [.ref x, .int (iI t), .int (iI u), .int (iI v)] [(wMain g x tpa (a 0) da pa qa rua wa sa bka taped told), (wShelf g a L ln tp rd cnt era nws)] (fun v_ w_ => v_ = some (.int (iI (-1))) ∧ w_ = [(wMain g x tpa (a 0) da pa qa rua wa sa bka taped (if ¬ (0 ≤ v ∧ v ≤ 3) then 1 else 2)), (wShelf g a L ln tp rd cnt era nws)]) := by
  refine Ct.of (by decide) (Nat.le_of_ble_eq_true rfl) (lv := [(0, .ref x), (1, .int (iI t)), (2, .int (iI u)), (3, .int (iI v))]) rfl ?_
  intro E hE hR hnm
  have hc := hsh.1
  have hln := hsh.ln
  have hB := hsh.2.1
  refine r_iload_n 1 hE 3 dX8_against_0 rfl rfl rfl ?_
  refine r_if_lt 4 9 hE dX8_against_1 rfl (by decide) (by omega) (fun c1 => ?_) (fun c1 => ?_)
  · skip
    refine r_aload_n 10 hE 0 dX8_against_9 rfl rfl rfl ?_
    refine r_iconst 11 hE dX8_against_10 rfl ?_
    refine r_callV 14 hE [0] [1] [(wMain g x tpa (a 0) da pa qa rua wa sa bka taped told)] [(wShelf g a L ln tp rd cnt era nws)] 0 8 ok8 [] (c_X8_refuse) dX8_against_11 rfl rfl wd_347 wd_349 ws_1 wd_1 wd_350 ne_X8 np_X8_refuse (Nat.le_of_ble_eq_true rfl)  (by decide) (by decide) rfl (Nat.le_of_ble_eq_true rfl) rfl rfl rfl rfl (by decide) rfl (fun v1 f1 hp => ?_)
    obtain ⟨rfl, rfl⟩ := hp
    show G g E _ _ _ [(wMain g x tpa (a 0) da pa qa rua wa sa bka taped 1), (wShelf g a L ln tp rd cnt era nws)] 14 [(0, .ref x), (1, .int (iI t)), (2, .int (iI u)), (3, .int (iI v))] [.int (iI (-1))]
    refine r_ireturn hE hR [(wMain g x tpa (a 0) da pa qa rua wa sa bka taped 1), (wShelf g a L ln tp rd cnt era nws)] dX8_against_14 (Nat.le_of_ble_eq_true rfl) (Nat.le_of_ble_eq_true rfl) rfl ?_
    exact ⟨rfl, by rw [if_pos (by omega)]⟩
  · skip
    refine r_iload_n 5 hE 3 dX8_against_4 rfl rfl rfl ?_
    refine r_iconst 6 hE dX8_against_5 rfl ?_
    refine r_icmp_le 9 15 hE dX8_against_6 rfl (by decide) (by omega) (fun c6 => ?_) (fun c6 => ?_)
    · skip
      refine r_aload_n 16 hE 0 dX8_against_15 rfl rfl rfl ?_
      refine r_get 19 hE 0 0 ok8 4 dX8_against_16 rfl wd_301 rfl rfl (by decide) rfl ?_
      refine r_iload_n 20 hE 1 dX8_against_19 rfl rfl rfl ?_
      refine r_callV 23 hE [1] [0] [(wShelf g a L ln tp rd cnt era nws)] [(wMain g x tpa (a 0) da pa qa rua wa sa bka taped told)] 0 5 ok5 [] (c_X5_has (by omega) (by omega)) dX8_against_20 rfl rfl wd_764 wd_578 wd_579 wd_4 wd_580 ne_X5 np_X5_has (Nat.le_of_ble_eq_true rfl)  (by decide) (by decide) rfl (Nat.le_of_ble_eq_true rfl) rfl rfl rfl rfl (by decide) rfl (fun v1 f1 hp => ?_)
      obtain ⟨rfl, rfl⟩ := hp
      show G g E _ _ _ [(wShelf g a L ln tp rd cnt era nws), (wMain g x tpa (a 0) da pa qa rua wa sa bka taped told)] 23 [(0, .ref x), (1, .int (iI t)), (2, .int (iI u)), (3, .int (iI v))] [.int (iI (bI (0 ≤ t ∧ t < cnt)))]
      refine r_if_eq 26 37 hE dX8_against_23 rfl (by decide) (bI_rg _) (fun c23 => ?_) (fun c23 => ?_)
      · skip
        have c23 := bI0 c23
        refine r_aload_n 38 hE 0 dX8_against_37 rfl rfl rfl ?_
        refine r_iconst 39 hE dX8_against_38 rfl ?_
        refine r_callV 42 hE [1] [0] [(wMain g x tpa (a 0) da pa qa rua wa sa bka taped told)] [(wShelf g a L ln tp rd cnt era nws)] 0 8 ok8 [] (c_X8_refuse) dX8_against_39 rfl rfl wd_347 wd_349 ws_1 wd_1 wd_350 ne_X8 np_X8_refuse (Nat.le_of_ble_eq_true rfl)  (by decide) (by decide) rfl (Nat.le_of_ble_eq_true rfl) rfl rfl rfl rfl (by decide) rfl (fun v1 f1 hp => ?_)
        obtain ⟨rfl, rfl⟩ := hp
        show G g E _ _ _ [(wMain g x tpa (a 0) da pa qa rua wa sa bka taped 2), (wShelf g a L ln tp rd cnt era nws)] 42 [(0, .ref x), (1, .int (iI t)), (2, .int (iI u)), (3, .int (iI v))] [.int (iI (-1))]
        refine r_ireturn hE hR [(wMain g x tpa (a 0) da pa qa rua wa sa bka taped 2), (wShelf g a L ln tp rd cnt era nws)] dX8_against_42 (Nat.le_of_ble_eq_true rfl) (Nat.le_of_ble_eq_true rfl) rfl ?_
        exact ⟨rfl, by rw [if_neg (by omega)]⟩
      · skip
        have c23 := bI1 c23
        refine r_aload_n 27 hE 0 dX8_against_26 rfl rfl rfl ?_
        refine r_get 30 hE 1 0 ok8 4 dX8_against_27 rfl wd_301 rfl rfl (by decide) rfl ?_
        refine r_iload_n 31 hE 2 dX8_against_30 rfl rfl rfl ?_
        refine r_callV 34 hE [0] [1] [(wShelf g a L ln tp rd cnt era nws)] [(wMain g x tpa (a 0) da pa qa rua wa sa bka taped told)] 0 5 ok5 [] (c_X5_has (by omega) (by omega)) dX8_against_31 rfl rfl wd_764 wd_578 wd_579 wd_4 wd_580 ne_X5 np_X5_has (Nat.le_of_ble_eq_true rfl)  (by decide) (by decide) rfl (Nat.le_of_ble_eq_true rfl) rfl rfl rfl rfl (by decide) rfl (fun v1 f1 hp => ?_)
        obtain ⟨rfl, rfl⟩ := hp
        show G g E _ _ _ [(wShelf g a L ln tp rd cnt era nws), (wMain g x tpa (a 0) da pa qa rua wa sa bka taped told)] 34 [(0, .ref x), (1, .int (iI t)), (2, .int (iI u)), (3, .int (iI v))] [.int (iI (bI (0 ≤ u ∧ u < cnt)))]
        refine r_if_ne 37 43 hE dX8_against_34 rfl (by decide) (bI_rg _) (fun c34 => ?_) (fun c34 => ?_)
        · skip
          have c34 := bI1 c34
          exfalso; rcases hno with z | z <;> omega
        · skip
          have c34 := bI0 c34
          refine r_aload_n 38 hE 0 dX8_against_37 rfl rfl rfl ?_
          refine r_iconst 39 hE dX8_against_38 rfl ?_
          refine r_callV 42 hE [1] [0] [(wMain g x tpa (a 0) da pa qa rua wa sa bka taped told)] [(wShelf g a L ln tp rd cnt era nws)] 0 8 ok8 [] (c_X8_refuse) dX8_against_39 rfl rfl wd_347 wd_349 ws_1 wd_1 wd_350 ne_X8 np_X8_refuse (Nat.le_of_ble_eq_true rfl)  (by decide) (by decide) rfl (Nat.le_of_ble_eq_true rfl) rfl rfl rfl rfl (by decide) rfl (fun v1 f1 hp => ?_)
          obtain ⟨rfl, rfl⟩ := hp
          show G g E _ _ _ [(wMain g x tpa (a 0) da pa qa rua wa sa bka taped 2), (wShelf g a L ln tp rd cnt era nws)] 42 [(0, .ref x), (1, .int (iI t)), (2, .int (iI u)), (3, .int (iI v))] [.int (iI (-1))]
          refine r_ireturn hE hR [(wMain g x tpa (a 0) da pa qa rua wa sa bka taped 2), (wShelf g a L ln tp rd cnt era nws)] dX8_against_42 (Nat.le_of_ble_eq_true rfl) (Nat.le_of_ble_eq_true rfl) rfl ?_
          exact ⟨rfl, by rw [if_neg (by omega)]⟩
    · skip
      refine r_aload_n 10 hE 0 dX8_against_9 rfl rfl rfl ?_
      refine r_iconst 11 hE dX8_against_10 rfl ?_
      refine r_callV 14 hE [0] [1] [(wMain g x tpa (a 0) da pa qa rua wa sa bka taped told)] [(wShelf g a L ln tp rd cnt era nws)] 0 8 ok8 [] (c_X8_refuse) dX8_against_11 rfl rfl wd_347 wd_349 ws_1 wd_1 wd_350 ne_X8 np_X8_refuse (Nat.le_of_ble_eq_true rfl)  (by decide) (by decide) rfl (Nat.le_of_ble_eq_true rfl) rfl rfl rfl rfl (by decide) rfl (fun v1 f1 hp => ?_)
      obtain ⟨rfl, rfl⟩ := hp
      show G g E _ _ _ [(wMain g x tpa (a 0) da pa qa rua wa sa bka taped 1), (wShelf g a L ln tp rd cnt era nws)] 14 [(0, .ref x), (1, .int (iI t)), (2, .int (iI u)), (3, .int (iI v))] [.int (iI (-1))]
      refine r_ireturn hE hR [(wMain g x tpa (a 0) da pa qa rua wa sa bka taped 1), (wShelf g a L ln tp rd cnt era nws)] dX8_against_14 (Nat.le_of_ble_eq_true rfl) (Nat.le_of_ble_eq_true rfl) rfl ?_
      exact ⟨rfl, by rw [if_pos (by omega)]⟩
