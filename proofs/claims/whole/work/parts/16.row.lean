def wBytes (g : Gm) (x : Nat) (n : Nat) (f : Int → Int) : va_W := [ba g x n f]
def wShelfH (g : Gm) (a : Nat → Nat) (cnt : Int) (era : Int) (nws : Int) : va_W := [ob (a 0) 5 [.ref (a 1), .ref (a 2), .ref (a 3), .ref (a 4), .int (iI cnt), .int (iI era), .int (iI nws)]]
def wShelfT (g : Gm) (a : Nat → Nat) (ln : Int → Int) (tp : Int → Int) (rd : Int → Int) : va_W := [ia g (a 2) 8 ln, ia g (a 3) 8 tp, ia g (a 4) 8 rd]
set_option maxHeartbeats 4000000 in
set_option maxRecDepth 100000 in
theorem c_X2_clear {g : Gm} {r : Nat → Nat} {m : Nat} {RL : Int → Int} {rlen : Int} : Ct g 0 0 0 yX2_clear cX2_clear 1 none [.ref (r 0)] [(wRow g r m RL rlen)] (fun v w => v = none ∧ w = [(wRow g r m RL 0)]) := by
  refine Ct.of (by decide) (Nat.le_of_ble_eq_true rfl) (lv := [(0, .ref (r 0))]) rfl ?_
  intro E hE hR hnm
  refine r_aload_n 1 hE 0 dX2_clear_0 rfl rfl rfl ?_
  refine r_iconst 2 hE dX2_clear_1 rfl ?_
  refine r_put 5 hE 0 0 ok2 1 (wRow g r m RL 0) [(wRow g r m RL 0)] dX2_clear_2 rfl wd_115 rfl rfl (by decide) rfl rfl rfl (Nat.le_of_ble_eq_true rfl) rfl rfl ?_
  refine r_return hE hR [(wRow g r m RL 0)] dX2_clear_5 (Nat.le_of_ble_eq_true rfl) (Nat.le_of_ble_eq_true rfl) rfl ?_
  exact ⟨rfl, rfl⟩
set_option maxHeartbeats 4000000 in
set_option maxRecDepth 100000 in
theorem c_X2_addLetter {g : Gm} {r : Nat → Nat} {m : Nat} {RL : Int → Int} {rlen : Int} {c : Int} (hw : 0 ≤ rlen ∧ rlen ≤ (m : Int) ∧ (m : Int) ≤ 4800) (hr : rlen < (m : Int)) (hcc : -128 ≤ c ∧ c ≤ 127) : Ct g 0 0 0 yX2_addLetter cX2_addLetter 2 none [.ref (r 0), .int (iI c)] [(wRow g r m RL rlen)] (fun v w => v = none ∧ w = [(wRow g r m (up RL rlen c) (rlen + 1))]) := by
  refine Ct.of (by decide) (Nat.le_of_ble_eq_true rfl) (lv := [(0, .ref (r 0)), (1, .int (iI c))]) rfl ?_
  intro E hE hR hnm
  refine r_aload_n 1 hE 0 dX2_addLetter_0 rfl rfl rfl ?_
  refine r_get 4 hE 0 0 ok2 1 dX2_addLetter_1 rfl wd_115 rfl rfl (by decide) rfl ?_
  refine r_aload_n 5 hE 0 dX2_addLetter_4 rfl rfl rfl ?_
  refine r_get 8 hE 0 0 ok2 0 dX2_addLetter_5 rfl wd_112 rfl rfl (by decide) rfl ?_
  refine r_alenB 9 hE 0 1 dX2_addLetter_8 rfl rfl rfl ?_
  refine r_icmp_ge 12 33 hE dX2_addLetter_9 rfl (by decide) (by omega) (fun c9 => ?_) (fun c9 => ?_)
  · skip
    omega
  · skip
    refine r_aload_n 13 hE 0 dX2_addLetter_12 rfl rfl rfl ?_
    refine r_get 16 hE 0 0 ok2 0 dX2_addLetter_13 rfl wd_112 rfl rfl (by decide) rfl ?_
    refine r_aload_n 17 hE 0 dX2_addLetter_16 rfl rfl rfl ?_
    refine r_get 20 hE 0 0 ok2 1 dX2_addLetter_17 rfl wd_115 rfl rfl (by decide) rfl ?_
    refine r_iload_n 21 hE 1 dX2_addLetter_20 rfl rfl rfl ?_
    refine r_i2b 22 hE dX2_addLetter_21 rfl ?_
    rw [show (byI c : Int) = c from byI_id hcc]
    refine r_bast 23 hE 0 1 (wRow g r m (up RL rlen c) rlen) [(wRow g r m (up RL rlen c) rlen)] dX2_addLetter_22 rfl rfl rfl (by omega) (by omega) rfl rfl ?_
    refine r_aload_n 24 hE 0 dX2_addLetter_23 rfl rfl rfl ?_
    refine r_dup 25 hE dX2_addLetter_24 rfl rfl ?_
    refine r_get 28 hE 0 0 ok2 1 dX2_addLetter_25 rfl wd_115 rfl rfl (by decide) rfl ?_
    refine r_iconst 29 hE dX2_addLetter_28 rfl ?_
    refine r_iadd 30 hE (rlen + 1) dX2_addLetter_29 rfl rfl ?_
    refine r_put 33 hE 0 0 ok2 1 (wRow g r m (up RL rlen c) (rlen + 1)) [(wRow g r m (up RL rlen c) (rlen + 1))] dX2_addLetter_30 rfl wd_115 rfl rfl (by decide) rfl rfl rfl (Nat.le_of_ble_eq_true rfl) rfl rfl ?_
    refine r_return hE hR [(wRow g r m (up RL rlen c) (rlen + 1))] dX2_addLetter_33 (Nat.le_of_ble_eq_true rfl) (Nat.le_of_ble_eq_true rfl) rfl ?_
    exact ⟨rfl, rfl⟩
set_option maxHeartbeats 4000000 in
set_option maxRecDepth 100000 in
theorem c_X2_add {g : Gm} {r : Nat → Nat} {m : Nat} {RL : Int → Int} {rlen : Int} {x n : Nat} {f : Int → Int} {p k : Int} (hw : 0 ≤ rlen ∧ rlen ≤ (m : Int) ∧ (m : Int) ≤ 4800) (hn : (n : Int) ≤ 4800) (hp : 0 ≤ p ∧ p + k ≤ (n : Int)) (hk : 0 ≤ k ∧ rlen + k ≤ (m : Int)) (hB : BR f) : Ct g 1 0 0 yX2_add cX2_add 4 none [.ref (r 0), .ref x, .int (iI p), .int (iI k)] [(wRow g r m RL rlen), (wBytes g x n f)] (fun v w => v = none ∧ w = [(wRow g r m (cpy f RL p rlen k) (rlen + k)), (wBytes g x n f)]) := by
  refine Ct.of (by decide) (Nat.le_of_ble_eq_true rfl) (lv := [(0, .ref (r 0)), (1, .ref x), (2, .int (iI p)), (3, .int (iI k))]) rfl ?_
  intro E hE hR hnm
  refine r_iload_n 1 hE 2 dX2_add_0 rfl rfl rfl ?_
  refine r_if_lt 4 30 hE dX2_add_1 rfl (by decide) (by omega) (fun c1 => ?_) (fun c1 => ?_)
  · skip
    omega
  · skip
    refine r_iload_n 5 hE 3 dX2_add_4 rfl rfl rfl ?_
    refine r_if_le 8 30 hE dX2_add_5 rfl (by decide) (by omega) (fun c5 => ?_) (fun c5 => ?_)
    · skip
      refine r_return hE hR [(wRow g r m RL rlen), (wBytes g x n f)] dX2_add_30 (Nat.le_of_ble_eq_true rfl) (Nat.le_of_ble_eq_true rfl) rfl ?_
      have e : k = 0 := by omega
      subst e
      exact ⟨rfl, by rw [cpy_0, Int.add_zero]⟩
    · skip
      refine r_iload_n 9 hE 3 dX2_add_8 rfl rfl rfl ?_
      refine r_aload_n 10 hE 1 dX2_add_9 rfl rfl rfl ?_
      refine r_alenB 11 hE 1 0 dX2_add_10 rfl rfl rfl ?_
      refine r_iload_n 12 hE 2 dX2_add_11 rfl rfl rfl ?_
      refine r_isub 13 hE ((n : Int) - p) dX2_add_12 rfl rfl ?_
      refine r_icmp_gt 16 30 hE dX2_add_13 rfl (by decide) (by omega) (fun c13 => ?_) (fun c13 => ?_)
      · skip
        omega
      · skip
        refine r_iload_n 17 hE 3 dX2_add_16 rfl rfl rfl ?_
        refine r_aload_n 18 hE 0 dX2_add_17 rfl rfl rfl ?_
        refine r_get 21 hE 0 0 ok2 0 dX2_add_18 rfl wd_112 rfl rfl (by decide) rfl ?_
        refine r_alenB 22 hE 0 1 dX2_add_21 rfl rfl rfl ?_
        refine r_aload_n 23 hE 0 dX2_add_22 rfl rfl rfl ?_
        refine r_get 26 hE 0 0 ok2 1 dX2_add_23 rfl wd_115 rfl rfl (by decide) rfl ?_
        refine r_isub 27 hE ((m : Int) - rlen) dX2_add_26 rfl rfl ?_
        refine r_icmp_le 30 31 hE dX2_add_27 rfl (by decide) (by omega) (fun c27 => ?_) (fun c27 => ?_)
        · skip
          refine r_aload_n 32 hE 1 dX2_add_31 rfl rfl rfl ?_
          refine r_iload_n 33 hE 2 dX2_add_32 rfl rfl rfl ?_
          refine r_aload_n 34 hE 0 dX2_add_33 rfl rfl rfl ?_
          refine r_get 37 hE 0 0 ok2 0 dX2_add_34 rfl wd_112 rfl rfl (by decide) rfl ?_
          refine r_aload_n 38 hE 0 dX2_add_37 rfl rfl rfl ?_
          refine r_get 41 hE 0 0 ok2 1 dX2_add_38 rfl wd_115 rfl rfl (by decide) rfl ?_
          refine r_iload_n 42 hE 3 dX2_add_41 rfl rfl rfl ?_
          refine r_copyB 45 hE 1 0 0 1 (wRow g r m (cpy f RL p rlen k) rlen) [(wRow g r m (cpy f RL p rlen k) rlen), (wBytes g x n f)] dX2_add_42 rfl wd_585 wd_587 wd_586 wd_18 (Nat.le_of_ble_eq_true rfl) (by decide) rfl rfl rfl rfl (by omega) (hB) rfl rfl ?_
          refine r_aload_n 46 hE 0 dX2_add_45 rfl rfl rfl ?_
          refine r_dup 47 hE dX2_add_46 rfl rfl ?_
          refine r_get 50 hE 0 0 ok2 1 dX2_add_47 rfl wd_115 rfl rfl (by decide) rfl ?_
          refine r_iload_n 51 hE 3 dX2_add_50 rfl rfl rfl ?_
          refine r_iadd 52 hE (rlen + k) dX2_add_51 rfl rfl ?_
          refine r_put 55 hE 0 0 ok2 1 (wRow g r m (cpy f RL p rlen k) (rlen + k)) [(wRow g r m (cpy f RL p rlen k) (rlen + k)), (wBytes g x n f)] dX2_add_52 rfl wd_115 rfl rfl (by decide) rfl rfl rfl (Nat.le_of_ble_eq_true rfl) rfl rfl ?_
          refine r_return hE hR [(wRow g r m (cpy f RL p rlen k) (rlen + k)), (wBytes g x n f)] dX2_add_55 (Nat.le_of_ble_eq_true rfl) (Nat.le_of_ble_eq_true rfl) rfl ?_
          exact ⟨rfl, rfl⟩
        · skip
          omega
set_option maxHeartbeats 4000000 in
set_option maxRecDepth 100000 in
theorem c_X2_add_self {g : Gm} {r : Nat → Nat} {m : Nat} {RL : Int → Int} {rlen : Int} {p k : Int} (hw : 0 ≤ rlen ∧ rlen ≤ (m : Int) ∧ (m : Int) ≤ 4800) (hp : 0 ≤ p ∧ p + k ≤ (m : Int)) (hk : 0 ≤ k ∧ rlen + k ≤ (m : Int)) (hB : BR RL) : Ct g 1 0 0 yX2_add cX2_add 4 none [.ref (r 0), .ref (r 1), .int (iI p), .int (iI k)] [(wRow g r m RL rlen)] (fun v w => v = none ∧ w = [(wRow g r m (cpy RL RL p rlen k) (rlen + k))]) := by
  refine Ct.of (by decide) (Nat.le_of_ble_eq_true rfl) (lv := [(0, .ref (r 0)), (1, .ref (r 1)), (2, .int (iI p)), (3, .int (iI k))]) rfl ?_
  intro E hE hR hnm
  refine r_iload_n 1 hE 2 dX2_add_0 rfl rfl rfl ?_
  refine r_if_lt 4 30 hE dX2_add_1 rfl (by decide) (by omega) (fun c1 => ?_) (fun c1 => ?_)
  · skip
    omega
  · skip
    refine r_iload_n 5 hE 3 dX2_add_4 rfl rfl rfl ?_
    refine r_if_le 8 30 hE dX2_add_5 rfl (by decide) (by omega) (fun c5 => ?_) (fun c5 => ?_)
    · skip
      refine r_return hE hR [(wRow g r m RL rlen)] dX2_add_30 (Nat.le_of_ble_eq_true rfl) (Nat.le_of_ble_eq_true rfl) rfl ?_
      have e : k = 0 := by omega
      subst e
      exact ⟨rfl, by rw [cpy_0, Int.add_zero]⟩
    · skip
      refine r_iload_n 9 hE 3 dX2_add_8 rfl rfl rfl ?_
      refine r_aload_n 10 hE 1 dX2_add_9 rfl rfl rfl ?_
      refine r_alenB 11 hE 0 1 dX2_add_10 rfl rfl rfl ?_
      refine r_iload_n 12 hE 2 dX2_add_11 rfl rfl rfl ?_
      refine r_isub 13 hE ((m : Int) - p) dX2_add_12 rfl rfl ?_
      refine r_icmp_gt 16 30 hE dX2_add_13 rfl (by decide) (by omega) (fun c13 => ?_) (fun c13 => ?_)
      · skip
        omega
      · skip
        refine r_iload_n 17 hE 3 dX2_add_16 rfl rfl rfl ?_
        refine r_aload_n 18 hE 0 dX2_add_17 rfl rfl rfl ?_
        refine r_get 21 hE 0 0 ok2 0 dX2_add_18 rfl wd_112 rfl rfl (by decide) rfl ?_
        refine r_alenB 22 hE 0 1 dX2_add_21 rfl rfl rfl ?_
        refine r_aload_n 23 hE 0 dX2_add_22 rfl rfl rfl ?_
        refine r_get 26 hE 0 0 ok2 1 dX2_add_23 rfl wd_115 rfl rfl (by decide) rfl ?_
        refine r_isub 27 hE ((m : Int) - rlen) dX2_add_26 rfl rfl ?_
        refine r_icmp_le 30 31 hE dX2_add_27 rfl (by decide) (by omega) (fun c27 => ?_) (fun c27 => ?_)
        · skip
          refine r_aload_n 32 hE 1 dX2_add_31 rfl rfl rfl ?_
          refine r_iload_n 33 hE 2 dX2_add_32 rfl rfl rfl ?_
          refine r_aload_n 34 hE 0 dX2_add_33 rfl rfl rfl ?_
          refine r_get 37 hE 0 0 ok2 0 dX2_add_34 rfl wd_112 rfl rfl (by decide) rfl ?_
          refine r_aload_n 38 hE 0 dX2_add_37 rfl rfl rfl ?_
          refine r_get 41 hE 0 0 ok2 1 dX2_add_38 rfl wd_115 rfl rfl (by decide) rfl ?_
          refine r_iload_n 42 hE 3 dX2_add_41 rfl rfl rfl ?_
          refine r_copyB 45 hE 0 1 0 1 (wRow g r m (cpy RL RL p rlen k) rlen) [(wRow g r m (cpy RL RL p rlen k) rlen)] dX2_add_42 rfl wd_585 wd_587 wd_586 wd_18 (Nat.le_of_ble_eq_true rfl) (by decide) rfl rfl rfl rfl (by omega) (hB) rfl rfl ?_
          refine r_aload_n 46 hE 0 dX2_add_45 rfl rfl rfl ?_
          refine r_dup 47 hE dX2_add_46 rfl rfl ?_
          refine r_get 50 hE 0 0 ok2 1 dX2_add_47 rfl wd_115 rfl rfl (by decide) rfl ?_
          refine r_iload_n 51 hE 3 dX2_add_50 rfl rfl rfl ?_
          refine r_iadd 52 hE (rlen + k) dX2_add_51 rfl rfl ?_
          refine r_put 55 hE 0 0 ok2 1 (wRow g r m (cpy RL RL p rlen k) (rlen + k)) [(wRow g r m (cpy RL RL p rlen k) (rlen + k))] dX2_add_52 rfl wd_115 rfl rfl (by decide) rfl rfl rfl (Nat.le_of_ble_eq_true rfl) rfl rfl ?_
          refine r_return hE hR [(wRow g r m (cpy RL RL p rlen k) (rlen + k))] dX2_add_55 (Nat.le_of_ble_eq_true rfl) (Nat.le_of_ble_eq_true rfl) rfl ?_
          exact ⟨rfl, rfl⟩
        · skip
          omega
set_option maxHeartbeats 4000000 in
set_option maxRecDepth 100000 in
theorem c_X2_addPart {g : Gm} {a : Nat → Nat} {L ln tp rd : Int → Int} {cnt era nws : Int} {r : Nat → Nat} {m : Nat} {RL : Int → Int} {rlen : Int} {t p k : Int} (ht : 0 ≤ t ∧ t < cnt) (hc : 0 ≤ cnt ∧ cnt ≤ 8) (hln : ∀ j, 0 ≤ j → j < cnt → 0 ≤ ln j ∧ ln j ≤ 600) (hB : BR L) (hw : 0 ≤ rlen ∧ rlen ≤ (m : Int) ∧ (m : Int) ≤ 4800) (hp : 0 ≤ p ∧ p + k ≤ ln t) (hk : 0 ≤ k ∧ rlen + k ≤ (m : Int)) : Ct g 2 0 0 yX2_addPart cX2_addPart 5 none [.ref (r 0), .ref (a 0), .int (iI t), .int (iI p), .int (iI k)] [(wRow g r m RL rlen), (wShelf g a L ln tp rd cnt era nws)] (fun v w => v = none ∧ w = [(wRow g r m (cpy L RL (t * 600 + p) rlen k) (rlen + k)), (wShelf g a L ln tp rd cnt era nws)]) := by
  refine Ct.of (by decide) (Nat.le_of_ble_eq_true rfl) (lv := [(0, .ref (r 0)), (1, .ref (a 0)), (2, .int (iI t)), (3, .int (iI p)), (4, .int (iI k))]) rfl ?_
  intro E hE hR hnm
  have hl1 := hln t ht.1 ht.2
  refine r_aload_n 1 hE 1 dX2_addPart_0 rfl rfl rfl ?_
  refine r_iload_n 2 hE 2 dX2_addPart_1 rfl rfl rfl ?_
  refine r_iload_n 3 hE 3 dX2_addPart_2 rfl rfl rfl ?_
  refine r_iload 5 hE 4 dX2_addPart_3 rfl rfl ?_
  refine r_callV 8 hE [1] [0] [(wShelf g a L ln tp rd cnt era nws)] [(wRow g r m RL rlen)] 0 5 ok5 [] (c_X5_reaches (by omega) (by omega) (hln) (by omega) (by omega)) dX2_addPart_5 rfl rfl wd_882 wd_874 wd_875 wd_4 wd_876 ne_X5 np_X5_reaches (Nat.le_of_ble_eq_true rfl)  (by decide) (by decide) rfl (Nat.le_of_ble_eq_true rfl) rfl rfl rfl rfl (by decide) rfl (fun v1 f1 hp => ?_)
  obtain ⟨rfl, rfl⟩ := hp
  show G g E _ _ _ [(wShelf g a L ln tp rd cnt era nws), (wRow g r m RL rlen)] 8 [(0, .ref (r 0)), (1, .ref (a 0)), (2, .int (iI t)), (3, .int (iI p)), (4, .int (iI k))] [.int (iI (bI ((0 ≤ t ∧ t < cnt) ∧ 0 ≤ p ∧ p ≤ ln t ∧ k ≤ ln t - p)))]
  refine r_if_eq 11 28 hE dX2_addPart_8 rfl (by decide) (bI_rg _) (fun c8 => ?_) (fun c8 => ?_)
  · skip
    have c8 := bI0 c8
    omega
  · skip
    have c8 := bI1 c8
    refine r_aload_n 12 hE 0 dX2_addPart_11 rfl rfl rfl ?_
    refine r_aload_n 13 hE 1 dX2_addPart_12 rfl rfl rfl ?_
    refine r_get 16 hE 0 0 ok5 0 dX2_addPart_13 rfl wd_76 rfl rfl (by decide) rfl ?_
    refine r_iload_n 17 hE 2 dX2_addPart_16 rfl rfl rfl ?_
    refine r_sipush 20 hE dX2_addPart_17 rfl (by decide) ?_
    refine r_imul 21 hE (t * 600) dX2_addPart_20 rfl rfl ?_
    refine r_iload_n 22 hE 3 dX2_addPart_21 rfl rfl rfl ?_
    refine r_iadd 23 hE ((t * 600) + p) dX2_addPart_22 rfl rfl ?_
    refine r_iload 25 hE 4 dX2_addPart_23 rfl rfl ?_
    refine G.cast (fs' := [(wShelfH g a cnt era nws), (wBytes g (a 1) 4800 L), (wShelfT g a ln tp rd), (wRow g r m RL rlen)]) (lv' := [(0, .ref (r 0)), (1, .ref (a 0)), (2, .int (iI t)), (3, .int (iI p)), (4, .int (iI k))]) rfl rfl ?_
    refine r_callV 28 hE [3, 1] [0, 2] [(wRow g r m RL rlen), (wBytes g (a 1) 4800 L)] [(wShelfH g a cnt era nws), (wShelfT g a ln tp rd)] 0 2 ok2 [] (c_X2_add (by omega) (by omega) (by omega) (by omega) (hB)) dX2_addPart_25 rfl rfl wd_581 wd_582 wd_583 wd_5 wd_584 ne_X2 np_X2_add (Nat.le_of_ble_eq_true rfl)  (by decide) (by decide) rfl (Nat.le_of_ble_eq_true rfl) rfl rfl rfl rfl (by decide) rfl (fun v1 f1 hp => ?_)
    obtain ⟨rfl, rfl⟩ := hp
    show G g E _ _ _ [(wRow g r m (cpy L RL ((t * 600) + p) rlen k) (rlen + k)), (wBytes g (a 1) 4800 L), (wShelfH g a cnt era nws), (wShelfT g a ln tp rd)] 28 [(0, .ref (r 0)), (1, .ref (a 0)), (2, .int (iI t)), (3, .int (iI p)), (4, .int (iI k))] []
    refine G.to (fs' := [(wShelfH g a cnt era nws), (wBytes g (a 1) 4800 L), (wShelfT g a ln tp rd), (wRow g r m (cpy L RL ((t * 600) + p) rlen k) (rlen + k))]) (lv' := [(0, .ref (r 0)), (1, .ref (a 0)), (2, .int (iI t)), (3, .int (iI p)), (4, .int (iI k))]) [2, 1, 3, 0] [0, 1, 2, 3, 4] rfl rfl rfl ?_
    refine G.cast (fs' := [(wShelf g a L ln tp rd cnt era nws), (wRow g r m (cpy L RL ((t * 600) + p) rlen k) (rlen + k))]) (lv' := [(0, .ref (r 0)), (1, .ref (a 0)), (2, .int (iI t)), (3, .int (iI p)), (4, .int (iI k))]) rfl rfl ?_
    refine G.to (fs' := [(wRow g r m (cpy L RL ((t * 600) + p) rlen k) (rlen + k)), (wShelf g a L ln tp rd cnt era nws)]) [1, 0] [0, 1, 2, 3, 4] rfl rfl rfl ?_
    refine r_return hE hR [(wRow g r m (cpy L RL ((t * 600) + p) rlen k) (rlen + k)), (wShelf g a L ln tp rd cnt era nws)] dX2_addPart_28 (Nat.le_of_ble_eq_true rfl) (Nat.le_of_ble_eq_true rfl) rfl ?_
    exact ⟨rfl, rfl⟩
set_option maxHeartbeats 4000000 in
set_option maxRecDepth 100000 in
theorem c_X2_addWhole {g : Gm} {a : Nat → Nat} {L ln tp rd : Int → Int} {cnt era nws : Int} {r : Nat → Nat} {m : Nat} {RL : Int → Int} {rlen : Int} {t : Int} (ht : 0 ≤ t ∧ t < cnt) (hc : 0 ≤ cnt ∧ cnt ≤ 8) (hln : ∀ j, 0 ≤ j → j < cnt → 0 ≤ ln j ∧ ln j ≤ 600) (hB : BR L) (hw : 0 ≤ rlen ∧ rlen ≤ (m : Int) ∧ (m : Int) ≤ 4800) (hk : rlen + ln t ≤ (m : Int)) : Ct g 2 0 0 yX2_addWhole cX2_addWhole 3 none [.ref (r 0), .ref (a 0), .int (iI t)] [(wRow g r m RL rlen), (wShelf g a L ln tp rd cnt era nws)] (fun v w => v = none ∧ w = [(wRow g r m (cpy L RL (t * 600) rlen (ln t)) (rlen + ln t)), (wShelf g a L ln tp rd cnt era nws)]) := by
  refine Ct.of (by decide) (Nat.le_of_ble_eq_true rfl) (lv := [(0, .ref (r 0)), (1, .ref (a 0)), (2, .int (iI t))]) rfl ?_
  intro E hE hR hnm
  have hl1 := hln t ht.1 ht.2
  refine r_aload_n 1 hE 1 dX2_addWhole_0 rfl rfl rfl ?_
  refine r_iload_n 2 hE 2 dX2_addWhole_1 rfl rfl rfl ?_
  refine r_callV 5 hE [1] [0] [(wShelf g a L ln tp rd cnt era nws)] [(wRow g r m RL rlen)] 0 5 ok5 [] (c_X5_has (by omega) (by omega)) dX2_addWhole_2 rfl rfl wd_577 wd_578 wd_579 wd_4 wd_580 ne_X5 np_X5_has (Nat.le_of_ble_eq_true rfl)  (by decide) (by decide) rfl (Nat.le_of_ble_eq_true rfl) rfl rfl rfl rfl (by decide) rfl (fun v1 f1 hp => ?_)
  obtain ⟨rfl, rfl⟩ := hp
  show G g E _ _ _ [(wShelf g a L ln tp rd cnt era nws), (wRow g r m RL rlen)] 5 [(0, .ref (r 0)), (1, .ref (a 0)), (2, .int (iI t))] [.int (iI (bI (0 ≤ t ∧ t < cnt)))]
  refine r_if_eq 8 27 hE dX2_addWhole_5 rfl (by decide) (bI_rg _) (fun c5 => ?_) (fun c5 => ?_)
  · skip
    have c5 := bI0 c5
    omega
  · skip
    have c5 := bI1 c5
    refine r_aload_n 9 hE 0 dX2_addWhole_8 rfl rfl rfl ?_
    refine r_aload_n 10 hE 1 dX2_addWhole_9 rfl rfl rfl ?_
    refine r_get 13 hE 0 0 ok5 0 dX2_addWhole_10 rfl wd_76 rfl rfl (by decide) rfl ?_
    refine r_iload_n 14 hE 2 dX2_addWhole_13 rfl rfl rfl ?_
    refine r_sipush 17 hE dX2_addWhole_14 rfl (by decide) ?_
    refine r_imul 18 hE (t * 600) dX2_addWhole_17 rfl rfl ?_
    refine r_aload_n 19 hE 1 dX2_addWhole_18 rfl rfl rfl ?_
    refine r_get 22 hE 0 0 ok5 1 dX2_addWhole_19 rfl wd_79 rfl rfl (by decide) rfl ?_
    refine r_iload_n 23 hE 2 dX2_addWhole_22 rfl rfl rfl ?_
    refine r_iald 24 hE 0 2 dX2_addWhole_23 rfl rfl rfl (by omega) ?_
    refine G.cast (fs' := [(wShelfH g a cnt era nws), (wBytes g (a 1) 4800 L), (wShelfT g a ln tp rd), (wRow g r m RL rlen)]) (lv' := [(0, .ref (r 0)), (1, .ref (a 0)), (2, .int (iI t))]) rfl rfl ?_
    refine r_callV 27 hE [3, 1] [0, 2] [(wRow g r m RL rlen), (wBytes g (a 1) 4800 L)] [(wShelfH g a cnt era nws), (wShelfT g a ln tp rd)] 0 2 ok2 [] (c_X2_add (by omega) (by omega) (by omega) (by omega) (hB)) dX2_addWhole_24 rfl rfl wd_581 wd_582 wd_583 wd_5 wd_584 ne_X2 np_X2_add (Nat.le_of_ble_eq_true rfl)  (by decide) (by decide) rfl (Nat.le_of_ble_eq_true rfl) rfl rfl rfl rfl (by decide) rfl (fun v1 f1 hp => ?_)
    obtain ⟨rfl, rfl⟩ := hp
    show G g E _ _ _ [(wRow g r m (cpy L RL (t * 600) rlen (ln t)) (rlen + (ln t))), (wBytes g (a 1) 4800 L), (wShelfH g a cnt era nws), (wShelfT g a ln tp rd)] 27 [(0, .ref (r 0)), (1, .ref (a 0)), (2, .int (iI t))] []
    refine G.to (fs' := [(wShelfH g a cnt era nws), (wBytes g (a 1) 4800 L), (wShelfT g a ln tp rd), (wRow g r m (cpy L RL (t * 600) rlen (ln t)) (rlen + (ln t)))]) (lv' := [(0, .ref (r 0)), (1, .ref (a 0)), (2, .int (iI t))]) [2, 1, 3, 0] [0, 1, 2] rfl rfl rfl ?_
    refine G.cast (fs' := [(wShelf g a L ln tp rd cnt era nws), (wRow g r m (cpy L RL (t * 600) rlen (ln t)) (rlen + (ln t)))]) (lv' := [(0, .ref (r 0)), (1, .ref (a 0)), (2, .int (iI t))]) rfl rfl ?_
    refine G.to (fs' := [(wRow g r m (cpy L RL (t * 600) rlen (ln t)) (rlen + (ln t))), (wShelf g a L ln tp rd cnt era nws)]) [1, 0] [0, 1, 2] rfl rfl rfl ?_
    refine r_return hE hR [(wRow g r m (cpy L RL (t * 600) rlen (ln t)) (rlen + (ln t))), (wShelf g a L ln tp rd cnt era nws)] dX2_addWhole_27 (Nat.le_of_ble_eq_true rfl) (Nat.le_of_ble_eq_true rfl) rfl ?_
    exact ⟨rfl, rfl⟩
set_option maxHeartbeats 4000000 in
set_option maxRecDepth 100000 in
theorem c_X2_addWhole_no {g : Gm} {a : Nat → Nat} {L ln tp rd : Int → Int} {cnt era nws : Int} {r : Nat → Nat} {m : Nat} {RL : Int → Int} {rlen : Int} {t : Int} (ht : -2147483648 ≤ t ∧ t ≤ 2147483647) (hno : ¬ (0 ≤ t ∧ t < cnt)) (hc : 0 ≤ cnt ∧ cnt ≤ 8) : Ct g 2 0 0 yX2_addWhole cX2_addWhole 3 none [.ref (r 0), .ref (a 0), .int (iI t)] [(wRow g r m RL rlen), (wShelf g a L ln tp rd cnt era nws)] (fun v w => v = none ∧ w = [(wRow g r m RL rlen), (wShelf g a L ln tp rd cnt era nws)]) := by
  refine Ct.of (by decide) (Nat.le_of_ble_eq_true rfl) (lv := [(0, .ref (r 0)), (1, .ref (a 0)), (2, .int (iI t))]) rfl ?_
  intro E hE hR hnm
  refine r_aload_n 1 hE 1 dX2_addWhole_0 rfl rfl rfl ?_
  refine r_iload_n 2 hE 2 dX2_addWhole_1 rfl rfl rfl ?_
  refine r_callV 5 hE [1] [0] [(wShelf g a L ln tp rd cnt era nws)] [(wRow g r m RL rlen)] 0 5 ok5 [] (c_X5_has (by omega) (by omega)) dX2_addWhole_2 rfl rfl wd_577 wd_578 wd_579 wd_4 wd_580 ne_X5 np_X5_has (Nat.le_of_ble_eq_true rfl)  (by decide) (by decide) rfl (Nat.le_of_ble_eq_true rfl) rfl rfl rfl rfl (by decide) rfl (fun v1 f1 hp => ?_)
  obtain ⟨rfl, rfl⟩ := hp
  show G g E _ _ _ [(wShelf g a L ln tp rd cnt era nws), (wRow g r m RL rlen)] 5 [(0, .ref (r 0)), (1, .ref (a 0)), (2, .int (iI t))] [.int (iI (bI (0 ≤ t ∧ t < cnt)))]
  refine r_if_eq 8 27 hE dX2_addWhole_5 rfl (by decide) (bI_rg _) (fun c5 => ?_) (fun c5 => ?_)
  · skip
    have c5 := bI0 c5
    refine G.to (fs' := [(wRow g r m RL rlen), (wShelf g a L ln tp rd cnt era nws)]) [1, 0] [0, 1, 2] rfl rfl rfl ?_
    refine r_return hE hR [(wRow g r m RL rlen), (wShelf g a L ln tp rd cnt era nws)] dX2_addWhole_27 (Nat.le_of_ble_eq_true rfl) (Nat.le_of_ble_eq_true rfl) rfl ?_
    exact ⟨rfl, rfl⟩
  · skip
    have c5 := bI1 c5
    omega
set_option maxHeartbeats 4000000 in
set_option maxRecDepth 100000 in
theorem c_X2_multiplyFrom {g : Gm} {r : Nat → Nat} {m : Nat} {RL : Int → Int} {rlen : Int} {s k : Int} (hw : 0 ≤ rlen ∧ rlen ≤ (m : Int) ∧ (m : Int) ≤ 4800) (hs : 0 ≤ s ∧ s < rlen) (hk : 1 ≤ k ∧ k ≤ 600) (hm : s + (rlen - s) * k ≤ (m : Int)) (hBR : BR RL) : Ct g 2 0 0 yX2_multiplyFrom cX2_multiplyFrom 5 none [.ref (r 0), .int (iI s), .int (iI k)] [(wRow g r m RL rlen)] (fun v w => ∃ RL9 : Int → Int, v = none ∧ w = [(wRow g r m RL9 (s + (rlen - s) * k))] ∧ (RepTo RL RL9 s (rlen - s) (s + (rlen - s) * k))) := by
  refine Ct.of (by decide) (Nat.le_of_ble_eq_true rfl) (lv := [(0, .ref (r 0)), (1, .int (iI s)), (2, .int (iI k))]) rfl ?_
  intro E hE hR hnm
  have cut10 : ∀ (N : Nat) (i : Int) (RL9 : Int → Int) (w9 : Int), (1 ≤ i ∧ i ≤ k) → (w9 = s + (rlen - s) * i) → (RepTo RL RL9 s (rlen - s) w9) → (k - i).toNat < N → G g E 5 0 0 [(wRow g r m RL9 w9)] 10 [(0, .ref (r 0)), (1, .int (iI s)), (2, .int (iI k)), (3, .int (iI (rlen - s))), (4, .int (iI i))] [] := by
    intro N
    induction N with
    | zero => intro i RL9 w9 _ _ _ hN; exact absurd hN (Nat.not_lt_zero _)
    | succ N ih10 =>
      intro i RL9 w9 hi hw9 hv hN
      refine r_iload 12 hE 4 dX2_multiplyFrom_10 rfl rfl ?_
      refine r_iload_n 13 hE 2 dX2_multiplyFrom_12 rfl rfl rfl ?_
      refine r_icmp_ge 16 32 hE dX2_multiplyFrom_13 rfl (by decide) (by omega) (fun c13 => ?_) (fun c13 => ?_)
      · skip
        refine r_return hE hR [(wRow g r m RL9 w9)] dX2_multiplyFrom_32 (Nat.le_of_ble_eq_true rfl) (Nat.le_of_ble_eq_true rfl) rfl ?_
        have e : i = k := by omega
        subst e
        subst hw9
        exact ⟨RL9, rfl, rfl, hv⟩
      · skip
        have hmul : rlen - s ≤ (rlen - s) * i := by have := Int.mul_le_mul_of_nonneg_left (show (1 : Int) ≤ i by omega) (show 0 ≤ rlen - s by omega); rw [Int.mul_one] at this; exact this
        refine r_aload_n 17 hE 0 dX2_multiplyFrom_16 rfl rfl rfl ?_
        refine r_aload_n 18 hE 0 dX2_multiplyFrom_17 rfl rfl rfl ?_
        refine r_get 21 hE 0 0 ok2 0 dX2_multiplyFrom_18 rfl wd_112 rfl rfl (by decide) rfl ?_
        refine r_iload_n 22 hE 1 dX2_multiplyFrom_21 rfl rfl rfl ?_
        refine r_iload_n 23 hE 3 dX2_multiplyFrom_22 rfl rfl rfl ?_
        refine r_callV 26 hE [0] [] [(wRow g r m RL9 w9)] [] 0 2 ok2 [] (c_X2_add_self (by have := mul_step (a := rlen - s) (b := i) (c := k) (by omega) (by omega); omega) (by omega) (by have := mul_step (a := rlen - s) (b := i) (c := k) (by omega) (by omega); omega) (hv.2.2)) dX2_multiplyFrom_23 rfl rfl wd_581 wd_582 wd_583 wd_5 wd_584 ne_X2 np_X2_add (Nat.le_of_ble_eq_true rfl)  (by decide) (by decide) rfl (Nat.le_of_ble_eq_true rfl) rfl rfl rfl rfl (by decide) rfl (fun v1 f1 hp => ?_)
        obtain ⟨rfl, rfl⟩ := hp
        show G g E _ _ _ [(wRow g r m (cpy RL9 RL9 s w9 (rlen - s)) (w9 + (rlen - s)))] 26 [(0, .ref (r 0)), (1, .int (iI s)), (2, .int (iI k)), (3, .int (iI (rlen - s))), (4, .int (iI i))] []
        have hv2 : RepTo RL (cpy RL9 RL9 s w9 (rlen - s)) s (rlen - s) (w9 + (rlen - s)) := by
          rw [hw9] at hv ⊢
          have := hv.step (by omega) (by omega)
          rw [Int.mul_add, Int.mul_one, ← Int.add_assoc] at this
          exact this
        refine r_iinc 29 hE 4 (i + 1) [(4, .int (iI (i + 1))), (0, .ref (r 0)), (1, .int (iI s)), (2, .int (iI k)), (3, .int (iI (rlen - s)))] dX2_multiplyFrom_26 rfl rfl rfl (by decide) rfl ?_
        refine r_goto 10 hE dX2_multiplyFrom_29 (by decide) ?_
        refine G.to (fs' := [(wRow g r m (cpy RL9 RL9 s w9 (rlen - s)) (w9 + (rlen - s)))]) (lv' := [(0, .ref (r 0)), (1, .int (iI s)), (2, .int (iI k)), (3, .int (iI (rlen - s))), (4, .int (iI (i + 1)))]) [0] [1, 2, 3, 4, 0] rfl rfl rfl ?_
        exact ih10 (i + 1) (cpy RL9 RL9 s w9 (rlen - s)) (w9 + (rlen - s)) (by omega) (by first | (rw [Int.mul_one]; omega) | (rw [Int.mul_add, Int.mul_one]; omega)) (by first | exact hv2 | (have := RepTo.start (s := s) (m := rlen - s) hs.1 hBR; rw [show s + (rlen - s) = rlen by omega] at this; exact this)) (by omega)
  refine r_aload_n 1 hE 0 dX2_multiplyFrom_0 rfl rfl rfl ?_
  refine r_get 4 hE 0 0 ok2 1 dX2_multiplyFrom_1 rfl wd_115 rfl rfl (by decide) rfl ?_
  refine r_iload_n 5 hE 1 dX2_multiplyFrom_4 rfl rfl rfl ?_
  refine r_isub 6 hE (rlen - s) dX2_multiplyFrom_5 rfl rfl ?_
  refine r_istore_n 7 hE [(3, .int (iI (rlen - s))), (0, .ref (r 0)), (1, .int (iI s)), (2, .int (iI k))] dX2_multiplyFrom_6 rfl rfl (by decide) rfl ?_
  refine r_iconst 8 hE dX2_multiplyFrom_7 rfl ?_
  refine r_istore 10 hE [(4, .int (iI 1)), (3, .int (iI (rlen - s))), (0, .ref (r 0)), (1, .int (iI s)), (2, .int (iI k))] dX2_multiplyFrom_8 rfl (by decide) rfl ?_
  refine G.to (fs' := [(wRow g r m RL rlen)]) (lv' := [(0, .ref (r 0)), (1, .int (iI s)), (2, .int (iI k)), (3, .int (iI (rlen - s))), (4, .int (iI 1))]) [0] [2, 3, 4, 1, 0] rfl rfl rfl ?_
  exact cut10 _ 1 RL rlen (by omega) (by first | (rw [Int.mul_one]; omega) | (rw [Int.mul_add, Int.mul_one]; omega)) (by first | exact hv2 | (have := RepTo.start (s := s) (m := rlen - s) hs.1 hBR; rw [show s + (rlen - s) = rlen by omega] at this; exact this)) (Nat.lt_succ_self _)
set_option maxHeartbeats 4000000 in
set_option maxRecDepth 100000 in
theorem c_X2_cutFrom {g : Gm} {r : Nat → Nat} {m : Nat} {RL : Int → Int} {rlen : Int} {s p k : Int} (hw : 0 ≤ rlen ∧ rlen ≤ (m : Int) ∧ (m : Int) ≤ 4800) (hs : 0 ≤ s ∧ 0 ≤ p ∧ 0 ≤ k ∧ s + p + k ≤ rlen) (hB : BR RL) : Ct g 1 0 0 yX2_cutFrom cX2_cutFrom 4 none [.ref (r 0), .int (iI s), .int (iI p), .int (iI k)] [(wRow g r m RL rlen)] (fun v w => v = none ∧ w = [(wRow g r m (cpy RL RL (s + p) s k) (s + k))]) := by
  refine Ct.of (by decide) (Nat.le_of_ble_eq_true rfl) (lv := [(0, .ref (r 0)), (1, .int (iI s)), (2, .int (iI p)), (3, .int (iI k))]) rfl ?_
  intro E hE hR hnm
  refine r_iload_n 1 hE 1 dX2_cutFrom_0 rfl rfl rfl ?_
  refine r_if_lt 4 24 hE dX2_cutFrom_1 rfl (by decide) (by omega) (fun c1 => ?_) (fun c1 => ?_)
  · skip
    omega
  · skip
    refine r_iload_n 5 hE 2 dX2_cutFrom_4 rfl rfl rfl ?_
    refine r_if_lt 8 24 hE dX2_cutFrom_5 rfl (by decide) (by omega) (fun c5 => ?_) (fun c5 => ?_)
    · skip
      omega
    · skip
      refine r_iload_n 9 hE 3 dX2_cutFrom_8 rfl rfl rfl ?_
      refine r_if_lt 12 24 hE dX2_cutFrom_9 rfl (by decide) (by omega) (fun c9 => ?_) (fun c9 => ?_)
      · skip
        omega
      · skip
        refine r_iload_n 13 hE 3 dX2_cutFrom_12 rfl rfl rfl ?_
        refine r_aload_n 14 hE 0 dX2_cutFrom_13 rfl rfl rfl ?_
        refine r_get 17 hE 0 0 ok2 1 dX2_cutFrom_14 rfl wd_115 rfl rfl (by decide) rfl ?_
        refine r_iload_n 18 hE 1 dX2_cutFrom_17 rfl rfl rfl ?_
        refine r_isub 19 hE (rlen - s) dX2_cutFrom_18 rfl rfl ?_
        refine r_iload_n 20 hE 2 dX2_cutFrom_19 rfl rfl rfl ?_
        refine r_isub 21 hE ((rlen - s) - p) dX2_cutFrom_20 rfl rfl ?_
        refine r_icmp_le 24 25 hE dX2_cutFrom_21 rfl (by decide) (by omega) (fun c21 => ?_) (fun c21 => ?_)
        · skip
          refine r_aload_n 26 hE 0 dX2_cutFrom_25 rfl rfl rfl ?_
          refine r_get 29 hE 0 0 ok2 0 dX2_cutFrom_26 rfl wd_112 rfl rfl (by decide) rfl ?_
          refine r_iload_n 30 hE 1 dX2_cutFrom_29 rfl rfl rfl ?_
          refine r_iload_n 31 hE 2 dX2_cutFrom_30 rfl rfl rfl ?_
          refine r_iadd 32 hE (s + p) dX2_cutFrom_31 rfl rfl ?_
          refine r_aload_n 33 hE 0 dX2_cutFrom_32 rfl rfl rfl ?_
          refine r_get 36 hE 0 0 ok2 0 dX2_cutFrom_33 rfl wd_112 rfl rfl (by decide) rfl ?_
          refine r_iload_n 37 hE 1 dX2_cutFrom_36 rfl rfl rfl ?_
          refine r_iload_n 38 hE 3 dX2_cutFrom_37 rfl rfl rfl ?_
          refine r_copyB 41 hE 0 1 0 1 (wRow g r m (cpy RL RL (s + p) s k) rlen) [(wRow g r m (cpy RL RL (s + p) s k) rlen)] dX2_cutFrom_38 rfl wd_585 wd_587 wd_586 wd_18 (Nat.le_of_ble_eq_true rfl) (by decide) rfl rfl rfl rfl (by omega) (hB) rfl rfl ?_
          refine r_aload_n 42 hE 0 dX2_cutFrom_41 rfl rfl rfl ?_
          refine r_iload_n 43 hE 1 dX2_cutFrom_42 rfl rfl rfl ?_
          refine r_iload_n 44 hE 3 dX2_cutFrom_43 rfl rfl rfl ?_
          refine r_iadd 45 hE (s + k) dX2_cutFrom_44 rfl rfl ?_
          refine r_put 48 hE 0 0 ok2 1 (wRow g r m (cpy RL RL (s + p) s k) (s + k)) [(wRow g r m (cpy RL RL (s + p) s k) (s + k))] dX2_cutFrom_45 rfl wd_115 rfl rfl (by decide) rfl rfl rfl (Nat.le_of_ble_eq_true rfl) rfl rfl ?_
          refine r_return hE hR [(wRow g r m (cpy RL RL (s + p) s k) (s + k))] dX2_cutFrom_48 (Nat.le_of_ble_eq_true rfl) (Nat.le_of_ble_eq_true rfl) rfl ?_
          exact ⟨rfl, rfl⟩
        · skip
          omega
set_option maxHeartbeats 4000000 in
set_option maxRecDepth 100000 in
theorem c_X2_reverseFrom {g : Gm} {r : Nat → Nat} {m : Nat} {RL : Int → Int} {rlen : Int} {s : Int} (hw : 0 ≤ rlen ∧ rlen ≤ (m : Int) ∧ (m : Int) ≤ 4800) (hs : 0 ≤ s ∧ s ≤ rlen) (hBR : BR RL) : Ct g 0 0 0 yX2_reverseFrom cX2_reverseFrom 5 none [.ref (r 0), .int (iI s)] [(wRow g r m RL rlen)] (fun v w => ∃ RL9 : Int → Int, v = none ∧ w = [(wRow g r m RL9 rlen)] ∧ (∀ k, 0 ≤ k → k < s → RL9 k = RL k) ∧ (∀ k, s ≤ k → k < rlen → RL9 k = RL (s + rlen - 1 - k)) ∧ (BR RL9)) := by
  refine Ct.of (by decide) (Nat.le_of_ble_eq_true rfl) (lv := [(0, .ref (r 0)), (1, .int (iI s))]) rfl ?_
  intro E hE hR hnm
  have cut9 : ∀ (N : Nat) (l : Int) (RL9 : Int → Int), (s ≤ l ∧ l ≤ rlen) → (RevTo RL RL9 s rlen l) → (rlen - l).toNat < N → G g E 5 0 0 [(wRow g r m RL9 rlen)] 9 [(0, .ref (r 0)), (1, .int (iI s)), (2, .int (iI l)), (3, .int (iI (rlen - 1 - (l - s))))] [] := by
    intro N
    induction N with
    | zero => intro l RL9 _ _ hN; exact absurd hN (Nat.not_lt_zero _)
    | succ N ih9 =>
      intro l RL9 hi hv hN
      refine r_iload_n 10 hE 2 dX2_reverseFrom_9 rfl rfl rfl ?_
      refine r_if_lt 13 55 hE dX2_reverseFrom_10 rfl (by decide) (by omega) (fun c10 => ?_) (fun c10 => ?_)
      · skip
        omega
      · skip
        refine r_iload_n 14 hE 2 dX2_reverseFrom_13 rfl rfl rfl ?_
        refine r_iload_n 15 hE 3 dX2_reverseFrom_14 rfl rfl rfl ?_
        refine r_icmp_ge 18 55 hE dX2_reverseFrom_15 rfl (by decide) (by omega) (fun c15 => ?_) (fun c15 => ?_)
        · skip
          refine r_return hE hR [(wRow g r m RL9 rlen)] dX2_reverseFrom_55 (Nat.le_of_ble_eq_true rfl) (Nat.le_of_ble_eq_true rfl) rfl ?_
          have hd := hv.done (by omega)
          exact ⟨RL9, rfl, rfl, hd.1, hd.2.1, hd.2.2⟩
        · skip
          refine r_aload_n 19 hE 0 dX2_reverseFrom_18 rfl rfl rfl ?_
          refine r_get 22 hE 0 0 ok2 0 dX2_reverseFrom_19 rfl wd_112 rfl rfl (by decide) rfl ?_
          refine r_iload_n 23 hE 2 dX2_reverseFrom_22 rfl rfl rfl ?_
          refine r_bald 24 hE 0 1 dX2_reverseFrom_23 rfl rfl rfl (by omega) ?_
          refine r_istore 26 hE [(4, .int (iI (RL9 l))), (0, .ref (r 0)), (1, .int (iI s)), (2, .int (iI l)), (3, .int (iI (rlen - 1 - (l - s))))] dX2_reverseFrom_24 rfl (by decide) rfl ?_
          refine r_aload_n 27 hE 1 dX2_reverseFrom_26 rfl rfl rfl ?_
          refine r_get 30 hE 0 0 ok2 0 dX2_reverseFrom_27 rfl wd_112 rfl rfl (by decide) rfl ?_
          refine r_iload_n 31 hE 3 dX2_reverseFrom_30 rfl rfl rfl ?_
          refine r_aload_n 32 hE 1 dX2_reverseFrom_31 rfl rfl rfl ?_
          refine r_get 35 hE 0 0 ok2 0 dX2_reverseFrom_32 rfl wd_112 rfl rfl (by decide) rfl ?_
          refine r_iload_n 36 hE 4 dX2_reverseFrom_35 rfl rfl rfl ?_
          refine r_bald 37 hE 0 1 dX2_reverseFrom_36 rfl rfl rfl (by omega) ?_
          refine r_bast 38 hE 0 1 (wRow g r m (up RL9 l (RL9 (rlen - 1 - (l - s)))) rlen) [(wRow g r m (up RL9 l (RL9 (rlen - 1 - (l - s)))) rlen)] dX2_reverseFrom_37 rfl rfl rfl (by omega) (hv.2.2 _) rfl rfl ?_
          refine r_aload_n 39 hE 1 dX2_reverseFrom_38 rfl rfl rfl ?_
          refine r_get 42 hE 0 0 ok2 0 dX2_reverseFrom_39 rfl wd_112 rfl rfl (by decide) rfl ?_
          refine r_iload_n 43 hE 4 dX2_reverseFrom_42 rfl rfl rfl ?_
          refine r_iload 45 hE 0 dX2_reverseFrom_43 rfl rfl ?_
          refine r_bast 46 hE 0 1 (wRow g r m (up (up RL9 l (RL9 (rlen - 1 - (l - s)))) (rlen - 1 - (l - s)) (RL9 l)) rlen) [(wRow g r m (up (up RL9 l (RL9 (rlen - 1 - (l - s)))) (rlen - 1 - (l - s)) (RL9 l)) rlen)] dX2_reverseFrom_45 rfl rfl rfl (by omega) (hv.2.2 _) rfl rfl ?_
          refine r_iinc 49 hE 3 (l + 1) [(2, .int (iI (l + 1))), (4, .int (iI (RL9 l))), (0, .ref (r 0)), (1, .int (iI s)), (3, .int (iI (rlen - 1 - (l - s))))] dX2_reverseFrom_46 rfl rfl rfl (by decide) rfl ?_
          refine r_iinc 52 hE 4 ((rlen - 1 - (l - s)) + (-1)) [(3, .int (iI ((rlen - 1 - (l - s)) + (-1)))), (2, .int (iI (l + 1))), (4, .int (iI (RL9 l))), (0, .ref (r 0)), (1, .int (iI s))] dX2_reverseFrom_49 rfl rfl rfl (by decide) rfl ?_
          refine r_goto 9 hE dX2_reverseFrom_52 (by decide) ?_
          refine G.to (fs' := [(wRow g r m (up (up RL9 l (RL9 (rlen - 1 - (l - s)))) (rlen - 1 - (l - s)) (RL9 l)) rlen)]) (lv' := [(0, .ref (r 0)), (1, .int (iI s)), (2, .int (iI (l + 1))), (3, .int (iI ((rlen - 1 - (l - s)) + (-1))))]) [0] [3, 4, 1, 0] rfl rfl rfl ?_
          rw [show ((rlen - 1 - (l - s)) + (-1) : Int) = rlen - 1 - ((l + 1) - s) from by omega]
          exact ih9 (l + 1) (up (up RL9 l (RL9 (rlen - 1 - (l - s)))) (rlen - 1 - (l - s)) (RL9 l)) (by omega) (by first | exact hv.step hs.1 (by omega) | exact RevTo.start hBR) (by omega)
  refine r_iload_n 1 hE 1 dX2_reverseFrom_0 rfl rfl rfl ?_
  refine r_istore_n 2 hE [(2, .int (iI s)), (0, .ref (r 0)), (1, .int (iI s))] dX2_reverseFrom_1 rfl rfl (by decide) rfl ?_
  refine r_aload_n 3 hE 1 dX2_reverseFrom_2 rfl rfl rfl ?_
  refine r_get 6 hE 0 0 ok2 1 dX2_reverseFrom_3 rfl wd_115 rfl rfl (by decide) rfl ?_
  refine r_iconst 7 hE dX2_reverseFrom_6 rfl ?_
  refine r_isub 8 hE (rlen - 1) dX2_reverseFrom_7 rfl rfl ?_
  refine r_istore_n 9 hE [(3, .int (iI (rlen - 1))), (2, .int (iI s)), (0, .ref (r 0)), (1, .int (iI s))] dX2_reverseFrom_8 rfl rfl (by decide) rfl ?_
  refine G.to (fs' := [(wRow g r m RL rlen)]) (lv' := [(0, .ref (r 0)), (1, .int (iI s)), (2, .int (iI s)), (3, .int (iI (rlen - 1)))]) [0] [2, 3, 1, 0] rfl rfl rfl ?_
  rw [show (rlen - 1 : Int) = rlen - 1 - (s - s) from by omega]
  exact cut9 _ s RL (by omega) (by first | exact hv.step hs.1 (by omega) | exact RevTo.start hBR) (Nat.lt_succ_self _)
set_option maxHeartbeats 4000000 in
set_option maxRecDepth 100000 in
theorem c_X2_exchange {g : Gm} {r : Nat → Nat} {m : Nat} {RL : Int → Int} {rlen : Int} {c o : Int} (hw : 0 ≤ rlen ∧ rlen ≤ (m : Int) ∧ (m : Int) ≤ 4800) (hcc : -2147483648 ≤ c ∧ c ≤ 2147483647) (ho : -128 ≤ o ∧ o ≤ 127) (hBR : BR RL) : Ct g 0 0 0 yX2_exchange cX2_exchange 4 none [.ref (r 0), .int (iI c), .int (iI o)] [(wRow g r m RL rlen)] (fun v w => ∃ RL9 : Int → Int, v = none ∧ w = [(wRow g r m RL9 rlen)] ∧ (∀ j, 0 ≤ j → j < rlen → RL9 j = if RL j = c then o else RL j) ∧ (BR RL9)) := by
  refine Ct.of (by decide) (Nat.le_of_ble_eq_true rfl) (lv := [(0, .ref (r 0)), (1, .int (iI c)), (2, .int (iI o))]) rfl ?_
  intro E hE hR hnm
  have cut2 : ∀ (N : Nat) (i : Int) (RL9 : Int → Int), (0 ≤ i ∧ i ≤ rlen) → (ExTo RL RL9 c o rlen i) → (rlen - i).toNat < N → G g E 4 0 0 [(wRow g r m RL9 rlen)] 2 [(0, .ref (r 0)), (1, .int (iI c)), (2, .int (iI o)), (3, .int (iI i))] [] := by
    intro N
    induction N with
    | zero => intro i RL9 _ _ hN; exact absurd hN (Nat.not_lt_zero _)
    | succ N ih2 =>
      intro i RL9 hi hv hN
      refine r_iload_n 3 hE 3 dX2_exchange_2 rfl rfl rfl ?_
      refine r_aload_n 4 hE 0 dX2_exchange_3 rfl rfl rfl ?_
      refine r_get 7 hE 0 0 ok2 1 dX2_exchange_4 rfl wd_115 rfl rfl (by decide) rfl ?_
      refine r_icmp_ge 10 34 hE dX2_exchange_7 rfl (by decide) (by omega) (fun c7 => ?_) (fun c7 => ?_)
      · skip
        refine r_return hE hR [(wRow g r m RL9 rlen)] dX2_exchange_34 (Nat.le_of_ble_eq_true rfl) (Nat.le_of_ble_eq_true rfl) rfl ?_
        exact ⟨RL9, rfl, rfl, fun j a b => hv.1 j a (by omega), hv.2.2⟩
      · skip
        refine r_aload_n 11 hE 0 dX2_exchange_10 rfl rfl rfl ?_
        refine r_get 14 hE 0 0 ok2 0 dX2_exchange_11 rfl wd_112 rfl rfl (by decide) rfl ?_
        refine r_iload_n 15 hE 3 dX2_exchange_14 rfl rfl rfl ?_
        refine r_bald 16 hE 0 1 dX2_exchange_15 rfl rfl rfl (by omega) ?_
        refine r_iload_n 17 hE 1 dX2_exchange_16 rfl rfl rfl ?_
        refine r_icmp_ne 20 28 hE dX2_exchange_17 rfl (by decide) (by have := hv.2.2 i; omega) (fun c17 => ?_) (fun c17 => ?_)
        · skip
          refine r_iinc 31 hE 3 (i + 1) [(3, .int (iI (i + 1))), (0, .ref (r 0)), (1, .int (iI c)), (2, .int (iI o))] dX2_exchange_28 rfl rfl rfl (by decide) rfl ?_
          refine r_goto 2 hE dX2_exchange_31 (by decide) ?_
          refine G.to (fs' := [(wRow g r m RL9 rlen)]) (lv' := [(0, .ref (r 0)), (1, .int (iI c)), (2, .int (iI o)), (3, .int (iI (i + 1)))]) [0] [1, 2, 3, 0] rfl rfl rfl ?_
          exact ih2 (i + 1) RL9 (by omega) (by first | exact hv.yes (by omega) c17 ho | exact hv.no (by omega) c17 | exact ExTo.start hBR) (by omega)
        · skip
          refine r_aload_n 21 hE 0 dX2_exchange_20 rfl rfl rfl ?_
          refine r_get 24 hE 0 0 ok2 0 dX2_exchange_21 rfl wd_112 rfl rfl (by decide) rfl ?_
          refine r_iload_n 25 hE 3 dX2_exchange_24 rfl rfl rfl ?_
          refine r_iload_n 26 hE 2 dX2_exchange_25 rfl rfl rfl ?_
          refine r_i2b 27 hE dX2_exchange_26 rfl ?_
          rw [show (byI o : Int) = o from byI_id ho]
          refine r_bast 28 hE 0 1 (wRow g r m (up RL9 i o) rlen) [(wRow g r m (up RL9 i o) rlen)] dX2_exchange_27 rfl rfl rfl (by omega) (by omega) rfl rfl ?_
          refine r_iinc 31 hE 3 (i + 1) [(3, .int (iI (i + 1))), (0, .ref (r 0)), (1, .int (iI c)), (2, .int (iI o))] dX2_exchange_28 rfl rfl rfl (by decide) rfl ?_
          refine r_goto 2 hE dX2_exchange_31 (by decide) ?_
          refine G.to (fs' := [(wRow g r m (up RL9 i o) rlen)]) (lv' := [(0, .ref (r 0)), (1, .int (iI c)), (2, .int (iI o)), (3, .int (iI (i + 1)))]) [0] [1, 2, 3, 0] rfl rfl rfl ?_
          exact ih2 (i + 1) (up RL9 i o) (by omega) (by first | exact hv.yes (by omega) c17 ho | exact hv.no (by omega) c17 | exact ExTo.start hBR) (by omega)
  refine r_iconst 1 hE dX2_exchange_0 rfl ?_
  refine r_istore_n 2 hE [(3, .int (iI 0)), (0, .ref (r 0)), (1, .int (iI c)), (2, .int (iI o))] dX2_exchange_1 rfl rfl (by decide) rfl ?_
  refine G.to (fs' := [(wRow g r m RL rlen)]) (lv' := [(0, .ref (r 0)), (1, .int (iI c)), (2, .int (iI o)), (3, .int (iI 0))]) [0] [1, 2, 3, 0] rfl rfl rfl ?_
  exact cut2 _ 0 RL (by omega) (by first | exact hv.yes (by omega) c17 ho | exact hv.no (by omega) c17 | exact ExTo.start hBR) (Nat.lt_succ_self _)
set_option maxHeartbeats 4000000 in
set_option maxRecDepth 100000 in
theorem c_X2_isText {g : Gm} {a : Nat → Nat} {L ln tp rd : Int → Int} {cnt era nws : Int} {r : Nat → Nat} {m : Nat} {RL : Int → Int} {rlen : Int} {t : Int} (ht : 0 ≤ t ∧ t < cnt) (hc : 0 ≤ cnt ∧ cnt ≤ 8) (hln : ∀ j, 0 ≤ j → j < cnt → 0 ≤ ln j ∧ ln j ≤ 600) (hB : BR L) (hw : 0 ≤ rlen ∧ rlen ≤ (m : Int) ∧ (m : Int) ≤ 4800) (hBR : BR RL) (he : rlen = ln t) : Ct g 2 0 0 yX2_isText cX2_isText 4 (some .boolean) [.ref (r 0), .ref (a 0), .int (iI t)] [(wRow g r m RL rlen), (wShelf g a L ln tp rd cnt era nws)] (fun v w => ∃ r9 : Int, v = some (.int (iI r9)) ∧ w = [(wRow g r m RL rlen), (wShelf g a L ln tp rd cnt era nws)] ∧ (r9 = 0 ∨ r9 = 1) ∧ (r9 = 1 ↔ ∀ k, 0 ≤ k → k < rlen → RL k = tx L t k)) := by
  refine Ct.of (by decide) (Nat.le_of_ble_eq_true rfl) (lv := [(0, .ref (r 0)), (1, .ref (a 0)), (2, .int (iI t))]) rfl ?_
  intro E hE hR hnm
  have hl1 := hln t ht.1 ht.2
  have cut2 : ∀ (N : Nat) (i : Int), (0 ≤ i ∧ i ≤ rlen) → (∀ k, 0 ≤ k → k < i → RL k = tx L t k) → (rlen - i).toNat < N → G g E 4 0 0 [(wRow g r m RL rlen), (wShelf g a L ln tp rd cnt era nws)] 2 [(0, .ref (r 0)), (1, .ref (a 0)), (2, .int (iI t)), (3, .int (iI i))] [] := by
    intro N
    induction N with
    | zero => intro i _ _ hN; exact absurd hN (Nat.not_lt_zero _)
    | succ N ih2 =>
      intro i hi hv hN
      refine r_iload_n 3 hE 3 dX2_isText_2 rfl rfl rfl ?_
      refine r_aload_n 4 hE 0 dX2_isText_3 rfl rfl rfl ?_
      refine r_get 7 hE 0 0 ok2 1 dX2_isText_4 rfl wd_115 rfl rfl (by decide) rfl ?_
      refine r_icmp_ge 10 33 hE dX2_isText_7 rfl (by decide) (by omega) (fun c7 => ?_) (fun c7 => ?_)
      · skip
        refine r_aload_n 34 hE 0 dX2_isText_33 rfl rfl rfl ?_
        refine r_get 37 hE 0 0 ok2 1 dX2_isText_34 rfl wd_115 rfl rfl (by decide) rfl ?_
        refine r_aload_n 38 hE 1 dX2_isText_37 rfl rfl rfl ?_
        refine r_iload_n 39 hE 2 dX2_isText_38 rfl rfl rfl ?_
        refine r_callV 42 hE [1] [0] [(wShelf g a L ln tp rd cnt era nws)] [(wRow g r m RL rlen)] 0 5 ok5 [.int (iI rlen)] (c_X5_lengthOf (by omega) (by omega)) dX2_isText_39 rfl rfl wd_920 wd_631 wd_632 wd_4 wd_633 ne_X5 np_X5_lengthOf (Nat.le_of_ble_eq_true rfl)  (by decide) (by decide) rfl (Nat.le_of_ble_eq_true rfl) rfl rfl rfl rfl (by decide) rfl (fun v1 f1 hp => ?_)
        obtain ⟨rfl, rfl⟩ := hp
        show G g E _ _ _ [(wShelf g a L ln tp rd cnt era nws), (wRow g r m RL rlen)] 42 [(0, .ref (r 0)), (1, .ref (a 0)), (2, .int (iI t)), (3, .int (iI i))] [.int (iI (ln t)), .int (iI rlen)]
        refine r_icmp_ne 45 49 hE dX2_isText_42 rfl (by decide) (by omega) (fun c42 => ?_) (fun c42 => ?_)
        · skip
          omega
        · skip
          refine r_iconst 46 hE dX2_isText_45 rfl ?_
          refine r_goto 50 hE dX2_isText_46 (by decide) ?_
          refine G.to (fs' := [(wRow g r m RL rlen), (wShelf g a L ln tp rd cnt era nws)]) [1, 0] [0, 1, 2, 3] rfl rfl rfl ?_
          refine r_zreturn hE hR [(wRow g r m RL rlen), (wShelf g a L ln tp rd cnt era nws)] dX2_isText_50 (Nat.le_of_ble_eq_true rfl) (Nat.le_of_ble_eq_true rfl) (by decide) rfl ?_
          exact ⟨1, rfl, rfl, Or.inr rfl, fun _ k k0 k1 => hv k k0 (by omega), fun _ => rfl⟩
      · skip
        refine r_aload_n 11 hE 0 dX2_isText_10 rfl rfl rfl ?_
        refine r_get 14 hE 0 0 ok2 0 dX2_isText_11 rfl wd_112 rfl rfl (by decide) rfl ?_
        refine r_iload_n 15 hE 3 dX2_isText_14 rfl rfl rfl ?_
        refine r_bald 16 hE 0 1 dX2_isText_15 rfl rfl rfl (by omega) ?_
        refine r_aload_n 17 hE 1 dX2_isText_16 rfl rfl rfl ?_
        refine r_iload_n 18 hE 2 dX2_isText_17 rfl rfl rfl ?_
        refine r_iload_n 19 hE 3 dX2_isText_18 rfl rfl rfl ?_
        refine r_callV 22 hE [1] [0] [(wShelf g a L ln tp rd cnt era nws)] [(wRow g r m RL rlen)] 0 5 ok5 [.int (iI (RL i))] (c_X5_at (by omega) (by omega) (hln) (by omega)) dX2_isText_19 rfl rfl wd_919 wd_792 wd_793 wd_4 wd_794 ne_X5 np_X5_at (Nat.le_of_ble_eq_true rfl)  (by decide) (by decide) rfl (Nat.le_of_ble_eq_true rfl) rfl rfl rfl rfl (by decide) rfl (fun v1 f1 hp => ?_)
        obtain ⟨rfl, rfl⟩ := hp
        show G g E _ _ _ [(wShelf g a L ln tp rd cnt era nws), (wRow g r m RL rlen)] 22 [(0, .ref (r 0)), (1, .ref (a 0)), (2, .int (iI t)), (3, .int (iI i))] [.int (iI (atF L ln t i)), .int (iI (RL i))]
        rw [atF_tx (L := L) (ln := ln) (t := t) (p := i) (by omega)]
        refine r_icmp_eq 25 27 hE dX2_isText_22 rfl (by decide) (by have h1 := hBR i; have h2 : -128 ≤ tx L t i ∧ tx L t i ≤ 127 := hB _; omega) (fun c22 => ?_) (fun c22 => ?_)
        · skip
          refine r_iinc 30 hE 3 (i + 1) [(3, .int (iI (i + 1))), (0, .ref (r 0)), (1, .ref (a 0)), (2, .int (iI t))] dX2_isText_27 rfl rfl rfl (by decide) rfl ?_
          refine r_goto 2 hE dX2_isText_30 (by decide) ?_
          refine G.to (fs' := [(wRow g r m RL rlen), (wShelf g a L ln tp rd cnt era nws)]) (lv' := [(0, .ref (r 0)), (1, .ref (a 0)), (2, .int (iI t)), (3, .int (iI (i + 1)))]) [1, 0] [1, 2, 3, 0] rfl rfl rfl ?_
          exact ih2 (i + 1) (by omega) (by first | exact (fun k k0 k1 => absurd k1 (by omega)) | exact (fun k k0 k1 => if e : k = i then e ▸ c22 else hv k k0 (by omega))) (by omega)
        · skip
          refine r_iconst 26 hE dX2_isText_25 rfl ?_
          refine G.to (fs' := [(wRow g r m RL rlen), (wShelf g a L ln tp rd cnt era nws)]) [1, 0] [0, 1, 2, 3] rfl rfl rfl ?_
          refine r_zreturn hE hR [(wRow g r m RL rlen), (wShelf g a L ln tp rd cnt era nws)] dX2_isText_26 (Nat.le_of_ble_eq_true rfl) (Nat.le_of_ble_eq_true rfl) (by decide) rfl ?_
          exact ⟨0, rfl, rfl, Or.inl rfl, fun z => absurd z (by decide), fun z => absurd (z i (by omega) (by omega)) c22⟩
  refine r_iconst 1 hE dX2_isText_0 rfl ?_
  refine r_istore_n 2 hE [(3, .int (iI 0)), (0, .ref (r 0)), (1, .ref (a 0)), (2, .int (iI t))] dX2_isText_1 rfl rfl (by decide) rfl ?_
  refine G.to (fs' := [(wRow g r m RL rlen), (wShelf g a L ln tp rd cnt era nws)]) (lv' := [(0, .ref (r 0)), (1, .ref (a 0)), (2, .int (iI t)), (3, .int (iI 0))]) [0, 1] [1, 2, 3, 0] rfl rfl rfl ?_
  exact cut2 _ 0 (by omega) (by first | exact (fun k k0 k1 => absurd k1 (by omega)) | exact (fun k k0 k1 => if e : k = i then e ▸ c22 else hv k k0 (by omega))) (Nat.lt_succ_self _)
