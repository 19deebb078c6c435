theorem perm_out {P S X : va_W} {r : List va_W} (h : P.Perm (S ++ X)) : (P :: r).flatten.Perm (S :: X :: r).flatten := by
  rw [List.flatten_cons, List.flatten_cons, List.flatten_cons, ← List.append_assoc]
  exact h.append_right _
theorem perm_in {P S X : va_W} {r : List va_W} (h : (S ++ X).Perm P) : (S :: X :: r).flatten.Perm (P :: r).flatten := (perm_out h.symm).symm
def wPileH (g : Gm) (p : Nat → Nat) (n : Nat) (sh : Nat → Option Nat) (old : Int) (cn : Int) : va_W := [ob (p 0) 1 [.ref (p 1), .int (iI old), .int (iI cn)], oa g (p 1) n sh]
set_option maxHeartbeats 4000000 in
set_option maxRecDepth 100000 in
theorem c_X1_isFull {g : Gm} {p : Nat → Nat} {n : Nat} {sh : Nat → Option Nat} {old cn : Int} (hpn : 1 ≤ (n : Int) ∧ (n : Int) ≤ 8) (hpo : 0 ≤ old ∧ old < (n : Int) ∧ 0 ≤ cn ∧ cn ≤ (n : Int)) : Ct g 0 0 0 yX1_isFull cX1_isFull 1 (some .boolean) [.ref (p 0)] [(wPileH g p n sh old cn)] (fun v_ w_ => v_ = some (.int (iI (bI ((n : Int) ≤ cn)))) ∧ w_ = [(wPileH g p n sh old cn)]) := by
  refine Ct.of (by decide) (Nat.le_of_ble_eq_true rfl) (lv := [(0, .ref (p 0))]) rfl ?_
  intro E hE hR hnm
  refine r_aload_n 1 hE 0 dX1_isFull_0 rfl rfl rfl ?_
  refine r_get 4 hE 0 0 ok1 2 dX1_isFull_1 rfl wd_185 rfl rfl (by decide) rfl ?_
  refine r_aload_n 5 hE 0 dX1_isFull_4 rfl rfl rfl ?_
  refine r_get 8 hE 0 0 ok1 0 dX1_isFull_5 rfl wd_183 rfl rfl (by decide) rfl ?_
  refine r_alenO 9 hE 0 1 dX1_isFull_8 rfl rfl rfl ?_
  refine r_icmp_lt 12 16 hE dX1_isFull_9 rfl (by decide) (by omega) (fun c9 => ?_) (fun c9 => ?_)
  · skip
    refine r_iconst 17 hE dX1_isFull_16 rfl ?_
    refine r_zreturn hE hR [(wPileH g p n sh old cn)] dX1_isFull_17 (Nat.le_of_ble_eq_true rfl) (Nat.le_of_ble_eq_true rfl) (by decide) rfl ?_
    exact ⟨ret0 (by omega), rfl⟩
  · skip
    refine r_iconst 13 hE dX1_isFull_12 rfl ?_
    refine r_goto 17 hE dX1_isFull_13 (by decide) ?_
    refine r_zreturn hE hR [(wPileH g p n sh old cn)] dX1_isFull_17 (Nat.le_of_ble_eq_true rfl) (Nat.le_of_ble_eq_true rfl) (by decide) rfl ?_
    exact ⟨ret1 (by omega), rfl⟩
set_option maxHeartbeats 4000000 in
set_option maxRecDepth 100000 in
theorem c_X1_latest {g : Gm} {p : Nat → Nat} {n : Nat} {sh : Nat → Option Nat} {old cn : Int} {ad : Nat → Nat → Nat} (hpn : 1 ≤ (n : Int) ∧ (n : Int) ≤ 8) (hpo : 0 ≤ old ∧ old < (n : Int) ∧ 0 ≤ cn ∧ cn ≤ (n : Int)) (hsh : ∀ i, i < n → sh i = some ((ad i) 0)) (hc0 : 0 < cn) : Ct g 0 0 0 yX1_latest cX1_latest 1 (some (.object "PairTexts$Shelf")) [.ref (p 0)] [(wPileH g p n sh old cn)] (fun v_ w_ => ∃ i9 : Nat, v_ = some (.ref ((ad i9) 0)) ∧ w_ = [(wPileH g p n sh old cn)] ∧ ((i9 : Int) = (old + cn - 1) % (n : Int)) ∧ (i9 < n)) := by
  refine Ct.of (by decide) (Nat.le_of_ble_eq_true rfl) (lv := [(0, .ref (p 0))]) rfl ?_
  intro E hE hR hnm
  have hm1 := Int.emod_nonneg (old + cn - 1) (show (n : Int) ≠ 0 by omega)
  have hm2 := Int.emod_lt_of_pos (old + cn - 1) (show 0 < (n : Int) by omega)
  refine r_aload_n 1 hE 0 dX1_latest_0 rfl rfl rfl ?_
  refine r_get 4 hE 0 0 ok1 2 dX1_latest_1 rfl wd_185 rfl rfl (by decide) rfl ?_
  refine r_if_le 7 32 hE dX1_latest_4 rfl (by decide) (by omega) (fun c4 => ?_) (fun c4 => ?_)
  · skip
    omega
  · skip
    refine r_aload_n 8 hE 0 dX1_latest_7 rfl rfl rfl ?_
    refine r_get 11 hE 0 0 ok1 0 dX1_latest_8 rfl wd_183 rfl rfl (by decide) rfl ?_
    refine r_aload_n 12 hE 0 dX1_latest_11 rfl rfl rfl ?_
    refine r_get 15 hE 0 0 ok1 1 dX1_latest_12 rfl wd_184 rfl rfl (by decide) rfl ?_
    refine r_aload_n 16 hE 0 dX1_latest_15 rfl rfl rfl ?_
    refine r_get 19 hE 0 0 ok1 2 dX1_latest_16 rfl wd_185 rfl rfl (by decide) rfl ?_
    refine r_iadd 20 hE (old + cn) dX1_latest_19 rfl rfl ?_
    refine r_iconst 21 hE dX1_latest_20 rfl ?_
    refine r_isub 22 hE ((old + cn) - 1) dX1_latest_21 rfl rfl ?_
    refine r_aload_n 23 hE 0 dX1_latest_22 rfl rfl rfl ?_
    refine r_get 26 hE 0 0 ok1 0 dX1_latest_23 rfl wd_183 rfl rfl (by decide) rfl ?_
    refine r_alenO 27 hE 0 1 dX1_latest_26 rfl rfl rfl ?_
    refine r_irem 28 hE dX1_latest_27 rfl (by omega) ?_
    refine r_aald 29 hE 0 1 dX1_latest_28 rfl rfl rfl (by omega) ?_
    rw [show va_rf (sh (((old + cn) - 1) % (n : Int)).toNat) = .ref ((ad ((old + cn - 1) % (n : Int)).toNat) 0) from by rw [hsh _ (by omega)]; rfl]
    refine r_goto 33 hE dX1_latest_29 (by decide) ?_
    refine r_areturn hE hR [(wPileH g p n sh old cn)] dX1_latest_33 (Nat.le_of_ble_eq_true rfl) (Nat.le_of_ble_eq_true rfl) (by first | exact Or.inl rfl | exact Or.inr ⟨_, rfl⟩) rfl ?_
    exact ⟨((old + cn - 1) % (n : Int)).toNat, rfl, rfl, by omega, by omega⟩
set_option maxHeartbeats 4000000 in
set_option maxRecDepth 100000 in
theorem c_X1_latest_no {g : Gm} {p : Nat → Nat} {n : Nat} {sh : Nat → Option Nat} {old cn : Int} (hpn : 1 ≤ (n : Int) ∧ (n : Int) ≤ 8) (hc0 : cn = 0) : Ct g 0 0 0 yX1_latest cX1_latest 1 (some (.object "PairTexts$Shelf")) [.ref (p 0)] [(wPileH g p n sh old cn)] (fun v_ w_ => v_ = some (.null) ∧ w_ = [(wPileH g p n sh old cn)]) := by
  refine Ct.of (by decide) (Nat.le_of_ble_eq_true rfl) (lv := [(0, .ref (p 0))]) rfl ?_
  intro E hE hR hnm
  refine r_aload_n 1 hE 0 dX1_latest_0 rfl rfl rfl ?_
  refine r_get 4 hE 0 0 ok1 2 dX1_latest_1 rfl wd_185 rfl rfl (by decide) rfl ?_
  refine r_if_le 7 32 hE dX1_latest_4 rfl (by decide) (by omega) (fun c4 => ?_) (fun c4 => ?_)
  · skip
    refine r_null 33 hE dX1_latest_32 rfl ?_
    refine r_areturn hE hR [(wPileH g p n sh old cn)] dX1_latest_33 (Nat.le_of_ble_eq_true rfl) (Nat.le_of_ble_eq_true rfl) (by first | exact Or.inl rfl | exact Or.inr ⟨_, rfl⟩) rfl ?_
    exact ⟨rfl, rfl⟩
  · skip
    omega
set_option maxHeartbeats 4000000 in
set_option maxRecDepth 100000 in
theorem c_X1_forgetLatest {g : Gm} {p : Nat → Nat} {n : Nat} {sh : Nat → Option Nat} {old cn : Int} (hc0 : 0 < cn ∧ cn ≤ 8) : Ct g 0 0 0 yX1_forgetLatest cX1_forgetLatest 1 none [.ref (p 0)] [(wPileH g p n sh old cn)] (fun v_ w_ => v_ = none ∧ w_ = [(wPileH g p n sh old (cn - 1))]) := by
  refine Ct.of (by decide) (Nat.le_of_ble_eq_true rfl) (lv := [(0, .ref (p 0))]) rfl ?_
  intro E hE hR hnm
  refine r_aload_n 1 hE 0 dX1_forgetLatest_0 rfl rfl rfl ?_
  refine r_get 4 hE 0 0 ok1 2 dX1_forgetLatest_1 rfl wd_185 rfl rfl (by decide) rfl ?_
  refine r_if_le 7 17 hE dX1_forgetLatest_4 rfl (by decide) (by omega) (fun c4 => ?_) (fun c4 => ?_)
  · skip
    omega
  · skip
    refine r_aload_n 8 hE 0 dX1_forgetLatest_7 rfl rfl rfl ?_
    refine r_dup 9 hE dX1_forgetLatest_8 rfl rfl ?_
    refine r_get 12 hE 0 0 ok1 2 dX1_forgetLatest_9 rfl wd_185 rfl rfl (by decide) rfl ?_
    refine r_iconst 13 hE dX1_forgetLatest_12 rfl ?_
    refine r_isub 14 hE (cn - 1) dX1_forgetLatest_13 rfl rfl ?_
    refine r_put 17 hE 0 0 ok1 2 (wPileH g p n sh old (cn - 1)) [(wPileH g p n sh old (cn - 1))] dX1_forgetLatest_14 rfl wd_185 rfl rfl (by decide) rfl rfl rfl (Nat.le_of_ble_eq_true rfl) rfl rfl ?_
    refine r_return hE hR [(wPileH g p n sh old (cn - 1))] dX1_forgetLatest_17 (Nat.le_of_ble_eq_true rfl) (Nat.le_of_ble_eq_true rfl) rfl ?_
    exact ⟨rfl, rfl⟩
set_option maxHeartbeats 4000000 in
set_option maxRecDepth 100000 in
theorem c_X1_push {g : Gm} {p : Nat → Nat} {n : Nat} {sh : Nat → Option Nat} {old cn : Int} {ad : Nat → Nat → Nat} {sg : Nat → ShS} {b : Nat → Nat} {L2 ln2 tp2 rd2 : Int → Int} {cnt2 era2 nws2 : Int} (hpn : 1 ≤ (n : Int) ∧ (n : Int) ≤ 8) (hpo : 0 ≤ old ∧ old < (n : Int) ∧ 0 ≤ cn ∧ cn ≤ (n : Int)) (hsh : ∀ i, i < n → sh i = some ((ad i) 0)) (hBs : ∀ i, i < n → BR (sg i).L) (hc2 : 0 ≤ cnt2 ∧ cnt2 ≤ 8) (hln2 : ∀ j, 0 ≤ j → j < cnt2 → 0 ≤ ln2 j ∧ ln2 j ≤ 600) (hB2 : BR L2) : Ct g 3 0 0 yX1_push cX1_push 3 none [.ref (p 0), .ref (b 0)] [(wPileH g p n sh old cn), (wPool g ad sg n), (wShelf g b L2 ln2 tp2 rd2 cnt2 era2 nws2)] (fun v_ w_ => ∃ old9 : Int, ∃ cn9 : Int, ∃ i9 : Nat, ∃ L9 : Int → Int, ∃ ln9 : Int → Int, ∃ tp9 : Int → Int, ∃ rd9 : Int → Int, v_ = none ∧ w_ = [(wPileH g p n sh old9 cn9), (wPool g ad (upS sg i9 (shs L9 ln9 tp9 rd9 cnt2 era2 (sg i9).nws)) n), (wShelf g b L2 ln2 tp2 rd2 cnt2 era2 nws2)] ∧ ((cn = (n : Int) ∧ old9 = (old + 1) % (n : Int) ∧ cn9 = cn) ∨ (cn < (n : Int) ∧ old9 = old ∧ cn9 = cn + 1)) ∧ ((i9 : Int) = (old9 + cn9 - 1) % (n : Int)) ∧ (i9 < n) ∧ (CopyTo cnt2 L2 ln2 tp2 rd2 L9 ln9 tp9 rd9) ∧ (BR L9)) := by
  refine Ct.of (by decide) (Nat.le_of_ble_eq_true rfl) (lv := [(0, .ref (p 0)), (1, .ref (b 0))]) rfl ?_
  intro E hE hR hnm
  have cut33 : ∀ (old8 : Int) (cn8 : Int), ((cn = (n : Int) ∧ old8 = (old + 1) % (n : Int) ∧ cn8 = cn - 1) ∨ (cn < (n : Int) ∧ old8 = old ∧ cn8 = cn)) → (0 ≤ old8 ∧ old8 < (n : Int) ∧ 0 ≤ cn8 ∧ cn8 < (n : Int)) → G g E 3 0 0 [(wPileH g p n sh old8 cn8), (wPool g ad sg n), (wShelf g b L2 ln2 tp2 rd2 cnt2 era2 nws2)] 33 [(0, .ref (p 0)), (1, .ref (b 0))] [] := by
    intro old8 cn8 h8 h8r
    refine r_aload_n 34 hE 0 dX1_push_33 rfl rfl rfl ?_
    refine r_dup 35 hE dX1_push_34 rfl rfl ?_
    refine r_get 38 hE 0 0 ok1 2 dX1_push_35 rfl wd_185 rfl rfl (by decide) rfl ?_
    refine r_iconst 39 hE dX1_push_38 rfl ?_
    refine r_iadd 40 hE (cn8 + 1) dX1_push_39 rfl rfl ?_
    refine r_put 43 hE 0 0 ok1 2 (wPileH g p n sh old8 (cn8 + 1)) [(wPileH g p n sh old8 (cn8 + 1)), (wPool g ad sg n), (wShelf g b L2 ln2 tp2 rd2 cnt2 era2 nws2)] dX1_push_40 rfl wd_185 rfl rfl (by decide) rfl rfl rfl (Nat.le_of_ble_eq_true rfl) rfl rfl ?_
    refine r_aload_n 44 hE 0 dX1_push_43 rfl rfl rfl ?_
    refine r_callV 47 hE [0] [1, 2] [(wPileH g p n sh old8 (cn8 + 1))] [(wPool g ad sg n), (wShelf g b L2 ln2 tp2 rd2 cnt2 era2 nws2)] 0 1 ok1 [] (c_X1_latest (by omega) (by omega) (hsh) (by omega)) dX1_push_44 rfl rfl wd_721 wd_722 wd_723 wd_7 wd_724 ne_X1 np_X1_latest (Nat.le_of_ble_eq_true rfl)  (by decide) (by decide) rfl (Nat.le_of_ble_eq_true rfl) rfl rfl rfl rfl (by decide) rfl (fun v1 f1 hp => ?_)
    obtain ⟨i9, rfl, rfl, h44_0, h44_1⟩ := hp
    show G g E _ _ _ [(wPileH g p n sh old8 (cn8 + 1)), (wPool g ad sg n), (wShelf g b L2 ln2 tp2 rd2 cnt2 era2 nws2)] 47 [(0, .ref (p 0)), (1, .ref (b 0))] [.ref ((ad i9) 0)]
    refine r_astore_n 48 hE [(2, .ref ((ad i9) 0)), (0, .ref (p 0)), (1, .ref (b 0))] dX1_push_47 rfl rfl (by decide) rfl ?_
    refine r_aload_n 49 hE 0 dX1_push_48 rfl rfl rfl ?_
    refine r_ifnull 52 hE dX1_push_49 rfl ?_
    refine r_aload_n 53 hE 0 dX1_push_52 rfl rfl rfl ?_
    refine r_aload_n 54 hE 2 dX1_push_53 rfl rfl rfl ?_
    refine G.to (fs' := [(wPool g ad sg n), (wPileH g p n sh old8 (cn8 + 1)), (wShelf g b L2 ln2 tp2 rd2 cnt2 era2 nws2)]) (lv' := [(2, .ref ((ad i9) 0)), (0, .ref (p 0)), (1, .ref (b 0))]) [1, 0, 2] [0, 1, 2] rfl rfl rfl ?_
    refine G.perm (fs' := [(wShelf g (ad i9) ((sg i9).L) ((sg i9).ln) ((sg i9).tp) ((sg i9).rd) ((sg i9).cnt) ((sg i9).era) ((sg i9).nws)), (wPoolX g ad sg n i9), (wPileH g p n sh old8 (cn8 + 1)), (wShelf g b L2 ln2 tp2 rd2 cnt2 era2 nws2)]) (perm_out (pool_out g _ _ h44_1)) ?_
    refine r_callV 57 hE [0, 3] [1, 2] [(wShelf g (ad i9) ((sg i9).L) ((sg i9).ln) ((sg i9).tp) ((sg i9).rd) ((sg i9).cnt) ((sg i9).era) ((sg i9).nws)), (wShelf g b L2 ln2 tp2 rd2 cnt2 era2 nws2)] [(wPoolX g ad sg n i9), (wPileH g p n sh old8 (cn8 + 1))] 0 5 ok5 [] (c_X5_copy (by omega) (hln2) (hBs i9 h44_1) (hB2)) dX1_push_54 rfl rfl wd_725 wd_726 wd_727 wd_4 wd_728 ne_X5 np_X5_copy (Nat.le_of_ble_eq_true rfl)  (by decide) (by decide) rfl (Nat.le_of_ble_eq_true rfl) rfl rfl rfl rfl (by decide) rfl (fun v1 f1 hp => ?_)
    obtain ⟨L9_54, ln9_54, tp9_54, rd9_54, rfl, rfl, h54_0, h54_1⟩ := hp
    show G g E _ _ _ [(wShelf g (ad i9) L9_54 ln9_54 tp9_54 rd9_54 cnt2 era2 ((sg i9).nws)), (wShelf g b L2 ln2 tp2 rd2 cnt2 era2 nws2), (wPoolX g ad sg n i9), (wPileH g p n sh old8 (cn8 + 1))] 57 [(2, .ref ((ad i9) 0)), (0, .ref (p 0)), (1, .ref (b 0))] []
    refine G.to (fs' := [(wPoolX g ad sg n i9), (wShelf g (ad i9) L9_54 ln9_54 tp9_54 rd9_54 cnt2 era2 ((sg i9).nws)), (wShelf g b L2 ln2 tp2 rd2 cnt2 era2 nws2), (wPileH g p n sh old8 (cn8 + 1))]) (lv' := [(2, .ref ((ad i9) 0)), (0, .ref (p 0)), (1, .ref (b 0))]) [2, 0, 1, 3] [0, 1, 2] rfl rfl rfl ?_
    refine G.to (fs' := [(wShelf g (ad i9) L9_54 ln9_54 tp9_54 rd9_54 cnt2 era2 ((sg i9).nws)), (wPoolX g ad sg n i9), (wShelf g b L2 ln2 tp2 rd2 cnt2 era2 nws2), (wPileH g p n sh old8 (cn8 + 1))]) (lv' := [(2, .ref ((ad i9) 0)), (0, .ref (p 0)), (1, .ref (b 0))]) [1, 0, 2, 3] [0, 1, 2] rfl rfl rfl ?_
    refine G.perm (fs' := [(wPool g ad (upS sg i9 (shs L9_54 ln9_54 tp9_54 rd9_54 cnt2 era2 ((sg i9).nws))) n), (wShelf g b L2 ln2 tp2 rd2 cnt2 era2 nws2), (wPileH g p n sh old8 (cn8 + 1))]) (perm_in (pool_in g _ _ h44_1 (shs L9_54 ln9_54 tp9_54 rd9_54 cnt2 era2 ((sg i9).nws)))) ?_
    refine G.to (fs' := [(wPileH g p n sh old8 (cn8 + 1)), (wPool g ad (upS sg i9 (shs L9_54 ln9_54 tp9_54 rd9_54 cnt2 era2 ((sg i9).nws))) n), (wShelf g b L2 ln2 tp2 rd2 cnt2 era2 nws2)]) [2, 0, 1] [0, 1, 2] rfl rfl rfl ?_
    refine r_return hE hR [(wPileH g p n sh old8 (cn8 + 1)), (wPool g ad (upS sg i9 (shs L9_54 ln9_54 tp9_54 rd9_54 cnt2 era2 ((sg i9).nws))) n), (wShelf g b L2 ln2 tp2 rd2 cnt2 era2 nws2)] dX1_push_57 (Nat.le_of_ble_eq_true rfl) (Nat.le_of_ble_eq_true rfl) rfl ?_
    exact ⟨old8, cn8 + 1, i9, _, _, _, _, rfl, rfl, by omega, h44_0, h44_1, h54_0, h54_1⟩
  refine r_aload_n 1 hE 0 dX1_push_0 rfl rfl rfl ?_
  refine r_callV 4 hE [0] [1, 2] [(wPileH g p n sh old cn)] [(wPool g ad sg n), (wShelf g b L2 ln2 tp2 rd2 cnt2 era2 nws2)] 0 1 ok1 [] (c_X1_isFull (by omega) (by omega)) dX1_push_1 rfl rfl wd_717 wd_718 wd_719 wd_7 wd_720 ne_X1 np_X1_isFull (Nat.le_of_ble_eq_true rfl)  (by decide) (by decide) rfl (Nat.le_of_ble_eq_true rfl) rfl rfl rfl rfl (by decide) rfl (fun v1 f1 hp => ?_)
  obtain ⟨rfl, rfl⟩ := hp
  show G g E _ _ _ [(wPileH g p n sh old cn), (wPool g ad sg n), (wShelf g b L2 ln2 tp2 rd2 cnt2 era2 nws2)] 4 [(0, .ref (p 0)), (1, .ref (b 0))] [.int (iI (bI ((n : Int) ≤ cn)))]
  refine r_if_eq 7 33 hE dX1_push_4 rfl (by decide) (bI_rg _) (fun c4 => ?_) (fun c4 => ?_)
  · skip
    have c4 := bI0 c4
    exact cut33 old cn (by omega) (by first | omega | (have hm1 := Int.emod_nonneg (old + 1) (show (n : Int) ≠ 0 by omega); have hm2 := Int.emod_lt_of_pos (old + 1) (show 0 < (n : Int) by omega); omega))
  · skip
    have c4 := bI1 c4
    refine r_aload_n 8 hE 0 dX1_push_7 rfl rfl rfl ?_
    refine r_aload_n 9 hE 0 dX1_push_8 rfl rfl rfl ?_
    refine r_get 12 hE 0 0 ok1 1 dX1_push_9 rfl wd_184 rfl rfl (by decide) rfl ?_
    refine r_iconst 13 hE dX1_push_12 rfl ?_
    refine r_iadd 14 hE (old + 1) dX1_push_13 rfl rfl ?_
    refine r_aload_n 15 hE 0 dX1_push_14 rfl rfl rfl ?_
    refine r_get 18 hE 0 0 ok1 0 dX1_push_15 rfl wd_183 rfl rfl (by decide) rfl ?_
    refine r_alenO 19 hE 0 1 dX1_push_18 rfl rfl rfl ?_
    refine r_irem 20 hE dX1_push_19 rfl (by omega) ?_
    refine r_put 23 hE 0 0 ok1 1 (wPileH g p n sh ((old + 1) % (n : Int)) cn) [(wPileH g p n sh ((old + 1) % (n : Int)) cn), (wPool g ad sg n), (wShelf g b L2 ln2 tp2 rd2 cnt2 era2 nws2)] dX1_push_20 rfl wd_184 rfl rfl (by decide) rfl rfl rfl (Nat.le_of_ble_eq_true rfl) rfl rfl ?_
    refine r_aload_n 24 hE 0 dX1_push_23 rfl rfl rfl ?_
    refine r_dup 25 hE dX1_push_24 rfl rfl ?_
    refine r_get 28 hE 0 0 ok1 2 dX1_push_25 rfl wd_185 rfl rfl (by decide) rfl ?_
    refine r_iconst 29 hE dX1_push_28 rfl ?_
    refine r_isub 30 hE (cn - 1) dX1_push_29 rfl rfl ?_
    refine r_put 33 hE 0 0 ok1 2 (wPileH g p n sh ((old + 1) % (n : Int)) (cn - 1)) [(wPileH g p n sh ((old + 1) % (n : Int)) (cn - 1)), (wPool g ad sg n), (wShelf g b L2 ln2 tp2 rd2 cnt2 era2 nws2)] dX1_push_30 rfl wd_185 rfl rfl (by decide) rfl rfl rfl (Nat.le_of_ble_eq_true rfl) rfl rfl ?_
    exact cut33 ((old + 1) % (n : Int)) (cn - 1) (by omega) (by first | omega | (have hm1 := Int.emod_nonneg (old + 1) (show (n : Int) ≠ 0 by omega); have hm2 := Int.emod_lt_of_pos (old + 1) (show 0 < (n : Int) by omega); omega))
