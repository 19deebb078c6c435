set_option maxHeartbeats 4000000 in
set_option maxRecDepth 100000 in
theorem c_X9_status {g : Gm} {mo : Nat → Nat} {mst mac mmk mr mrd mrm mcm mtp msz mtk mbg men mls mvl mft mfp mfk mdp mto : Int} : Ct g 0 0 0 yX9_status cX9_status 1 (some .int) [.ref (mo 0)] [(wMo g mo mst mac mmk mr mrd mrm mcm mtp msz mtk mbg men mls mvl mft mfp mfk mdp mto)] (fun v_ w_ => v_ = some (.int (iI mst)) ∧ w_ = [(wMo g mo mst mac mmk mr mrd mrm mcm mtp msz mtk mbg men mls mvl mft mfp mfk mdp mto)]) := by
  refine Ct.of (by decide) (Nat.le_of_ble_eq_true rfl) (lv := [(0, .ref (mo 0))]) rfl ?_
  intro E hE hR hnm
  refine r_aload_n 1 hE 0 dX9_status_0 rfl rfl rfl ?_
  refine r_get 4 hE 0 0 ok9 2 dX9_status_1 rfl wd_1054 rfl rfl (by decide) rfl ?_
  refine r_ireturn hE hR [(wMo g mo mst mac mmk mr mrd mrm mcm mtp msz mtk mbg men mls mvl mft mfp mfk mdp mto)] dX9_status_4 (Nat.le_of_ble_eq_true rfl) (Nat.le_of_ble_eq_true rfl) rfl ?_
  exact ⟨retI (rfl), rfl⟩
set_option maxHeartbeats 4000000 in
set_option maxRecDepth 100000 in
theorem c_X9_refuse {g : Gm} {mo : Nat → Nat} {mst mac mmk mr mrd mrm mcm mtp msz mtk mbg men mls mvl mft mfp mfk mdp mto : Int} {v : Int} : Ct g 0 0 0 yX9_refuse cX9_refuse 2 (some .int) [.ref (mo 0), .int (iI v)] [(wMo g mo mst mac mmk mr mrd mrm mcm mtp msz mtk mbg men mls mvl mft mfp mfk mdp mto)] (fun v_ w_ => v_ = some (.int (iI (-1))) ∧ w_ = [(wMo g mo v mac mmk mr mrd mrm mcm mtp msz mtk mbg men mls mvl mft mfp mfk mdp mto)]) := by
  refine Ct.of (by decide) (Nat.le_of_ble_eq_true rfl) (lv := [(0, .ref (mo 0)), (1, .int (iI v))]) rfl ?_
  intro E hE hR hnm
  refine r_aload_n 1 hE 0 dX9_refuse_0 rfl rfl rfl ?_
  refine r_iload_n 2 hE 1 dX9_refuse_1 rfl rfl rfl ?_
  refine r_put 5 hE 0 0 ok9 2 (wMo g mo v mac mmk mr mrd mrm mcm mtp msz mtk mbg men mls mvl mft mfp mfk mdp mto) [(wMo g mo v mac mmk mr mrd mrm mcm mtp msz mtk mbg men mls mvl mft mfp mfk mdp mto)] dX9_refuse_2 rfl wd_1054 rfl rfl (by decide) rfl rfl rfl (Nat.le_of_ble_eq_true rfl) rfl rfl ?_
  refine r_iconst 6 hE dX9_refuse_5 rfl ?_
  refine r_ireturn hE hR [(wMo g mo v mac mmk mr mrd mrm mcm mtp msz mtk mbg men mls mvl mft mfp mfk mdp mto)] dX9_refuse_6 (Nat.le_of_ble_eq_true rfl) (Nat.le_of_ble_eq_true rfl) rfl ?_
  exact ⟨retI (rfl), rfl⟩
set_option maxHeartbeats 4000000 in
set_option maxRecDepth 100000 in
theorem c_X9_gives {g : Gm} {mo : Nat → Nat} {mst mac mmk mr mrd mrm mcm mtp msz mtk mbg men mls mvl mft mfp mfk mdp mto : Int} {v : Int} : Ct g 0 0 0 yX9_gives cX9_gives 2 (some .int) [.ref (mo 0), .int (iI v)] [(wMo g mo mst mac mmk mr mrd mrm mcm mtp msz mtk mbg men mls mvl mft mfp mfk mdp mto)] (fun v_ w_ => v_ = some (.int (iI v)) ∧ w_ = [(wMo g mo 0 mac mmk mr mrd mrm mcm mtp msz mtk mbg men mls mvl mft mfp mfk mdp mto)]) := by
  refine Ct.of (by decide) (Nat.le_of_ble_eq_true rfl) (lv := [(0, .ref (mo 0)), (1, .int (iI v))]) rfl ?_
  intro E hE hR hnm
  refine r_aload_n 1 hE 0 dX9_gives_0 rfl rfl rfl ?_
  refine r_iconst 2 hE dX9_gives_1 rfl ?_
  refine r_put 5 hE 0 0 ok9 2 (wMo g mo 0 mac mmk mr mrd mrm mcm mtp msz mtk mbg men mls mvl mft mfp mfk mdp mto) [(wMo g mo 0 mac mmk mr mrd mrm mcm mtp msz mtk mbg men mls mvl mft mfp mfk mdp mto)] dX9_gives_2 rfl wd_1054 rfl rfl (by decide) rfl rfl rfl (Nat.le_of_ble_eq_true rfl) rfl rfl ?_
  refine r_iload_n 6 hE 1 dX9_gives_5 rfl rfl rfl ?_
  refine r_ireturn hE hR [(wMo g mo 0 mac mmk mr mrd mrm mcm mtp msz mtk mbg men mls mvl mft mfp mfk mdp mto)] dX9_gives_6 (Nat.le_of_ble_eq_true rfl) (Nat.le_of_ble_eq_true rfl) rfl ?_
  exact ⟨retI (rfl), rfl⟩
set_option maxHeartbeats 4000000 in
set_option maxRecDepth 100000 in
theorem c_X9_isFrom {g : Gm} {v lo hi : Int} (hv : -2147483648 ≤ v ∧ v ≤ 2147483647) (hlo : -2147483648 ≤ lo ∧ lo ≤ 2147483647) (hhi : -2147483648 ≤ hi ∧ hi ≤ 2147483647) : Ct g 0 0 0 yX9_isFrom cX9_isFrom 3 (some .boolean) [.int (iI v), .int (iI lo), .int (iI hi)] [] (fun v_ w_ => v_ = some (.int (iI (bI (lo ≤ v ∧ v ≤ hi)))) ∧ w_ = []) := by
  refine Ct.of (by decide) (Nat.le_of_ble_eq_true rfl) (lv := [(0, .int (iI v)), (1, .int (iI lo)), (2, .int (iI hi))]) rfl ?_
  intro E hE hR hnm
  refine r_iload_n 1 hE 0 dX9_isFrom_0 rfl rfl rfl ?_
  refine r_iload_n 2 hE 1 dX9_isFrom_1 rfl rfl rfl ?_
  refine r_icmp_lt 5 14 hE dX9_isFrom_2 rfl (by decide) (by omega) (fun c2 => ?_) (fun c2 => ?_)
  · skip
    refine r_iconst 15 hE dX9_isFrom_14 rfl ?_
    refine r_zreturn hE hR [] dX9_isFrom_15 (Nat.le_of_ble_eq_true rfl) (Nat.le_of_ble_eq_true rfl) (by decide) rfl ?_
    exact ⟨ret0 (by omega), rfl⟩
  · skip
    refine r_iload_n 6 hE 0 dX9_isFrom_5 rfl rfl rfl ?_
    refine r_iload_n 7 hE 2 dX9_isFrom_6 rfl rfl rfl ?_
    refine r_icmp_gt 10 14 hE dX9_isFrom_7 rfl (by decide) (by omega) (fun c7 => ?_) (fun c7 => ?_)
    · skip
      refine r_iconst 15 hE dX9_isFrom_14 rfl ?_
      refine r_zreturn hE hR [] dX9_isFrom_15 (Nat.le_of_ble_eq_true rfl) (Nat.le_of_ble_eq_true rfl) (by decide) rfl ?_
      exact ⟨ret0 (by omega), rfl⟩
    · skip
      refine r_iconst 11 hE dX9_isFrom_10 rfl ?_
      refine r_goto 15 hE dX9_isFrom_11 (by decide) ?_
      refine r_zreturn hE hR [] dX9_isFrom_15 (Nat.le_of_ble_eq_true rfl) (Nat.le_of_ble_eq_true rfl) (by decide) rfl ?_
      exact ⟨ret1 (by omega), rfl⟩
set_option maxHeartbeats 4000000 in
set_option maxRecDepth 100000 in
theorem c_X9_many {g : Gm} {mo : Nat → Nat} {mst mac mmk mr mrd mrm mcm mtp msz mtk mbg men mls mvl mft mfp mfk mdp mto : Int} {al : Int → Int} : Ct g 0 0 0 yX9_many cX9_many 1 (some .int) [.ref (mo 0)] [(wMo g mo mst mac mmk mr mrd mrm mcm mtp msz mtk mbg men mls mvl mft mfp mfk mdp mto), (wMAll g mo al)] (fun v_ w_ => v_ = some (.int (iI (al 0))) ∧ w_ = [(wMo g mo mst mac mmk mr mrd mrm mcm mtp msz mtk mbg men mls mvl mft mfp mfk mdp mto), (wMAll g mo al)]) := by
  refine Ct.of (by decide) (Nat.le_of_ble_eq_true rfl) (lv := [(0, .ref (mo 0))]) rfl ?_
  intro E hE hR hnm
  refine r_aload_n 1 hE 0 dX9_many_0 rfl rfl rfl ?_
  refine r_get 4 hE 0 0 ok9 0 dX9_many_1 rfl wd_1052 rfl rfl (by decide) rfl ?_
  refine r_iconst 5 hE dX9_many_4 rfl ?_
  refine r_iald 6 hE 1 0 dX9_many_5 rfl rfl rfl (by omega) ?_
  refine r_ireturn hE hR [(wMo g mo mst mac mmk mr mrd mrm mcm mtp msz mtk mbg men mls mvl mft mfp mfk mdp mto), (wMAll g mo al)] dX9_many_6 (Nat.le_of_ble_eq_true rfl) (Nat.le_of_ble_eq_true rfl) rfl ?_
  exact ⟨retI (rfl), rfl⟩
set_option maxHeartbeats 4000000 in
set_option maxRecDepth 100000 in
theorem c_X9_isText {g : Gm} {mo : Nat → Nat} {mst mac mmk mr mrd mrm mcm mtp msz mtk mbg men mls mvl mft mfp mfk mdp mto : Int} {al : Int → Int} {t : Int} (hc : 0 ≤ al 0 ∧ al 0 ≤ 8) (ht : -2147483648 ≤ t ∧ t ≤ 2147483647) : Ct g 1 0 0 yX9_isText cX9_isText 2 (some .boolean) [.ref (mo 0), .int (iI t)] [(wMo g mo mst mac mmk mr mrd mrm mcm mtp msz mtk mbg men mls mvl mft mfp mfk mdp mto), (wMAll g mo al)] (fun v_ w_ => v_ = some (.int (iI (bI (0 ≤ t ∧ t < al 0)))) ∧ w_ = [(wMo g mo mst mac mmk mr mrd mrm mcm mtp msz mtk mbg men mls mvl mft mfp mfk mdp mto), (wMAll g mo al)]) := by
  refine Ct.of (by decide) (Nat.le_of_ble_eq_true rfl) (lv := [(0, .ref (mo 0)), (1, .int (iI t))]) rfl ?_
  intro E hE hR hnm
  refine r_iload_n 1 hE 1 dX9_isText_0 rfl rfl rfl ?_
  refine r_if_lt 4 16 hE dX9_isText_1 rfl (by decide) (by omega) (fun c1 => ?_) (fun c1 => ?_)
  · skip
    refine r_iconst 17 hE dX9_isText_16 rfl ?_
    refine r_zreturn hE hR [(wMo g mo mst mac mmk mr mrd mrm mcm mtp msz mtk mbg men mls mvl mft mfp mfk mdp mto), (wMAll g mo al)] dX9_isText_17 (Nat.le_of_ble_eq_true rfl) (Nat.le_of_ble_eq_true rfl) (by decide) rfl ?_
    exact ⟨ret0 (by omega), rfl⟩
  · skip
    refine r_iload_n 5 hE 1 dX9_isText_4 rfl rfl rfl ?_
    refine r_aload_n 6 hE 0 dX9_isText_5 rfl rfl rfl ?_
    refine r_callV 9 hE [0, 1] [] [(wMo g mo mst mac mmk mr mrd mrm mcm mtp msz mtk mbg men mls mvl mft mfp mfk mdp mto), (wMAll g mo al)] [] 0 9 ok9 [.int (iI t)] (c_X9_many) dX9_isText_6 rfl rfl wd_1217 wd_1219 ws_52 wd_12 wd_1220 ne_X9 np_X9_many (Nat.le_of_ble_eq_true rfl)  (by decide) (by decide) rfl (Nat.le_of_ble_eq_true rfl) rfl rfl rfl rfl (by decide) rfl (fun v1 f1 hp => ?_)
    obtain ⟨rfl, rfl⟩ := hp
    show G g E _ _ _ [(wMo g mo mst mac mmk mr mrd mrm mcm mtp msz mtk mbg men mls mvl mft mfp mfk mdp mto), (wMAll g mo al)] 9 [(0, .ref (mo 0)), (1, .int (iI t))] [.int (iI (al 0)), .int (iI t)]
    refine r_icmp_ge 12 16 hE dX9_isText_9 rfl (by decide) (by omega) (fun c9 => ?_) (fun c9 => ?_)
    · skip
      refine r_iconst 17 hE dX9_isText_16 rfl ?_
      refine r_zreturn hE hR [(wMo g mo mst mac mmk mr mrd mrm mcm mtp msz mtk mbg men mls mvl mft mfp mfk mdp mto), (wMAll g mo al)] dX9_isText_17 (Nat.le_of_ble_eq_true rfl) (Nat.le_of_ble_eq_true rfl) (by decide) rfl ?_
      exact ⟨ret0 (by omega), rfl⟩
    · skip
      refine r_iconst 13 hE dX9_isText_12 rfl ?_
      refine r_goto 17 hE dX9_isText_13 (by decide) ?_
      refine r_zreturn hE hR [(wMo g mo mst mac mmk mr mrd mrm mcm mtp msz mtk mbg men mls mvl mft mfp mfk mdp mto), (wMAll g mo al)] dX9_isText_17 (Nat.le_of_ble_eq_true rfl) (Nat.le_of_ble_eq_true rfl) (by decide) rfl ?_
      exact ⟨ret1 (by omega), rfl⟩
set_option maxHeartbeats 4000000 in
set_option maxRecDepth 100000 in
theorem c_X9_sizeOf {g : Gm} {mo : Nat → Nat} {mst mac mmk mr mrd mrm mcm mtp msz mtk mbg men mls mvl mft mfp mfk mdp mto : Int} {al : Int → Int} {t : Int} (ht : 0 ≤ t ∧ t ≤ 60000) : Ct g 0 0 0 yX9_sizeOf cX9_sizeOf 2 (some .int) [.ref (mo 0), .int (iI t)] [(wMo g mo mst mac mmk mr mrd mrm mcm mtp msz mtk mbg men mls mvl mft mfp mfk mdp mto), (wMAll g mo al)] (fun v_ w_ => v_ = some (.int (iI (mN al t))) ∧ w_ = [(wMo g mo mst mac mmk mr mrd mrm mcm mtp msz mtk mbg men mls mvl mft mfp mfk mdp mto), (wMAll g mo al)]) := by
  refine Ct.of (by decide) (Nat.le_of_ble_eq_true rfl) (lv := [(0, .ref (mo 0)), (1, .int (iI t))]) rfl ?_
  intro E hE hR hnm
  refine r_aload_n 1 hE 0 dX9_sizeOf_0 rfl rfl rfl ?_
  refine r_get 4 hE 0 0 ok9 0 dX9_sizeOf_1 rfl wd_1052 rfl rfl (by decide) rfl ?_
  refine r_iconst 5 hE dX9_sizeOf_4 rfl ?_
  refine r_iload_n 6 hE 1 dX9_sizeOf_5 rfl rfl rfl ?_
  refine r_iadd 7 hE (1 + t) dX9_sizeOf_6 rfl rfl ?_
  refine r_iald 8 hE 1 0 dX9_sizeOf_7 rfl rfl rfl (by omega) ?_
  refine r_ireturn hE hR [(wMo g mo mst mac mmk mr mrd mrm mcm mtp msz mtk mbg men mls mvl mft mfp mfk mdp mto), (wMAll g mo al)] dX9_sizeOf_8 (Nat.le_of_ble_eq_true rfl) (Nat.le_of_ble_eq_true rfl) rfl ?_
  exact ⟨retI (rfl), rfl⟩
set_option maxHeartbeats 4000000 in
set_option maxRecDepth 100000 in
theorem c_X9_at {g : Gm} {mo : Nat → Nat} {mst mac mmk mr mrd mrm mcm mtp msz mtk mbg men mls mvl mft mfp mfk mdp mto : Int} {al : Int → Int} {t k : Int} (ht : 0 ≤ t ∧ t ≤ 100 ∧ 0 ≤ k ∧ k ≤ 2000) : Ct g 0 0 0 yX9_at cX9_at 3 (some .int) [.ref (mo 0), .int (iI t), .int (iI k)] [(wMo g mo mst mac mmk mr mrd mrm mcm mtp msz mtk mbg men mls mvl mft mfp mfk mdp mto), (wMAll g mo al)] (fun v_ w_ => v_ = some (.int (iI (mF al t k))) ∧ w_ = [(wMo g mo mst mac mmk mr mrd mrm mcm mtp msz mtk mbg men mls mvl mft mfp mfk mdp mto), (wMAll g mo al)]) := by
  refine Ct.of (by decide) (Nat.le_of_ble_eq_true rfl) (lv := [(0, .ref (mo 0)), (1, .int (iI t)), (2, .int (iI k))]) rfl ?_
  intro E hE hR hnm
  refine r_aload_n 1 hE 0 dX9_at_0 rfl rfl rfl ?_
  refine r_get 4 hE 0 0 ok9 0 dX9_at_1 rfl wd_1052 rfl rfl (by decide) rfl ?_
  refine r_bipush 6 hE dX9_at_4 rfl (by decide) ?_
  refine r_sipush 9 hE dX9_at_6 rfl (by decide) ?_
  refine r_iload_n 10 hE 1 dX9_at_9 rfl rfl rfl ?_
  refine r_imul 11 hE (600 * t) dX9_at_10 rfl rfl ?_
  refine r_iadd 12 hE (9 + (600 * t)) dX9_at_11 rfl rfl ?_
  refine r_iload_n 13 hE 2 dX9_at_12 rfl rfl rfl ?_
  refine r_iadd 14 hE ((9 + (600 * t)) + k) dX9_at_13 rfl rfl ?_
  refine r_iald 15 hE 1 0 dX9_at_14 rfl rfl rfl (by omega) ?_
  refine r_ireturn hE hR [(wMo g mo mst mac mmk mr mrd mrm mcm mtp msz mtk mbg men mls mvl mft mfp mfk mdp mto), (wMAll g mo al)] dX9_at_15 (Nat.le_of_ble_eq_true rfl) (Nat.le_of_ble_eq_true rfl) rfl ?_
  exact ⟨retI (rfl), rfl⟩
set_option maxHeartbeats 4000000 in
set_option maxRecDepth 100000 in
theorem c_X9_countOf {g : Gm} {mo : Nat → Nat} {mst mac mmk mr mrd mrm mcm mtp msz mtk mbg men mls mvl mft mfp mfk mdp mto : Int} {al : Int → Int} {t c n : Int} (hM : MTx al) (ht : 0 ≤ t ∧ t < al 0) (hcc : -2147483648 ≤ c ∧ c ≤ 2147483647) (hn : 0 ≤ n ∧ n ≤ mN al t) : Ct g 1 0 0 yX9_countOf cX9_countOf 6 (some .int) [.ref (mo 0), .int (iI t), .int (iI c), .int (iI n)] [(wMo g mo mst mac mmk mr mrd mrm mcm mtp msz mtk mbg men mls mvl mft mfp mfk mdp mto), (wMAll g mo al)] (fun v_ w_ => v_ = some (.int (iI (cntF (mF al t) c n))) ∧ w_ = [(wMo g mo mst mac mmk mr mrd mrm mcm mtp msz mtk mbg men mls mvl mft mfp mfk mdp mto), (wMAll g mo al)]) := by
  refine Ct.of (by decide) (Nat.le_of_ble_eq_true rfl) (lv := [(0, .ref (mo 0)), (1, .int (iI t)), (2, .int (iI c)), (3, .int (iI n))]) rfl ?_
  intro E hE hR hnm
  have hc := hM.1
  have hl_t := hM.2 t ht.1 ht.2
  have cut6 : ∀ (N : Nat) (i : Int), (0 ≤ i ∧ i ≤ n) → (n - i).toNat < N → G g E 6 0 0 [(wMo g mo mst mac mmk mr mrd mrm mcm mtp msz mtk mbg men mls mvl mft mfp mfk mdp mto), (wMAll g mo al)] 6 [(0, .ref (mo 0)), (1, .int (iI t)), (2, .int (iI c)), (3, .int (iI n)), (4, .int (iI (cntF (mF al t) c i))), (5, .int (iI i))] [] := by
    intro N
    induction N with
    | zero => intro i _ hN; exact absurd hN (Nat.not_lt_zero _)
    | succ N ih6 =>
      intro i hi hN
      have hs := cntF_bd (mF al t) c hi.1
      refine r_iload 8 hE 5 dX9_countOf_6 rfl rfl ?_
      refine r_iload_n 9 hE 3 dX9_countOf_8 rfl rfl rfl ?_
      refine r_icmp_ge 12 39 hE dX9_countOf_9 rfl (by decide) (by omega) (fun c9 => ?_) (fun c9 => ?_)
      · skip
        refine r_iload 41 hE 4 dX9_countOf_39 rfl rfl ?_
        refine r_ireturn hE hR [(wMo g mo mst mac mmk mr mrd mrm mcm mtp msz mtk mbg men mls mvl mft mfp mfk mdp mto), (wMAll g mo al)] dX9_countOf_41 (Nat.le_of_ble_eq_true rfl) (Nat.le_of_ble_eq_true rfl) rfl ?_
        exact ⟨retI (by rw [show i = n by omega]), rfl⟩
      · skip
        refine r_iload 14 hE 4 dX9_countOf_12 rfl rfl ?_
        refine r_aload_n 15 hE 0 dX9_countOf_14 rfl rfl rfl ?_
        refine r_iload_n 16 hE 1 dX9_countOf_15 rfl rfl rfl ?_
        refine r_iload 18 hE 5 dX9_countOf_16 rfl rfl ?_
        refine r_callV 21 hE [0, 1] [] [(wMo g mo mst mac mmk mr mrd mrm mcm mtp msz mtk mbg men mls mvl mft mfp mfk mdp mto), (wMAll g mo al)] [] 0 9 ok9 [.int (iI (cntF (mF al t) c i))] (c_X9_at (by omega)) dX9_countOf_18 rfl rfl wd_1277 wd_1279 ws_66 wd_12 wd_1280 ne_X9 np_X9_at (Nat.le_of_ble_eq_true rfl)  (by decide) (by decide) rfl (Nat.le_of_ble_eq_true rfl) rfl rfl rfl rfl (by decide) rfl (fun v1 f1 hp => ?_)
        obtain ⟨rfl, rfl⟩ := hp
        show G g E _ _ _ [(wMo g mo mst mac mmk mr mrd mrm mcm mtp msz mtk mbg men mls mvl mft mfp mfk mdp mto), (wMAll g mo al)] 21 [(0, .ref (mo 0)), (1, .int (iI t)), (2, .int (iI c)), (3, .int (iI n)), (4, .int (iI (cntF (mF al t) c i))), (5, .int (iI i))] [.int (iI (mF al t i)), .int (iI (cntF (mF al t) c i))]
        refine r_iload_n 22 hE 2 dX9_countOf_21 rfl rfl rfl ?_
        refine r_icmp_ne 25 29 hE dX9_countOf_22 rfl (by decide) (by have h9 := hl_t.2 i hi.1 (by omega); omega) (fun c22 => ?_) (fun c22 => ?_)
        · skip
          refine r_iconst 30 hE dX9_countOf_29 rfl ?_
          refine r_iadd 31 hE ((cntF (mF al t) c i) + 0) dX9_countOf_30 rfl rfl ?_
          refine r_istore 33 hE [(4, .int (iI ((cntF (mF al t) c i) + 0))), (0, .ref (mo 0)), (1, .int (iI t)), (2, .int (iI c)), (3, .int (iI n)), (5, .int (iI i))] dX9_countOf_31 rfl (by decide) rfl ?_
          refine r_iinc 36 hE 5 (i + 1) [(5, .int (iI (i + 1))), (4, .int (iI ((cntF (mF al t) c i) + 0))), (0, .ref (mo 0)), (1, .int (iI t)), (2, .int (iI c)), (3, .int (iI n))] dX9_countOf_33 rfl rfl rfl (by decide) rfl ?_
          refine r_goto 6 hE dX9_countOf_36 (by decide) ?_
          refine G.to (fs' := [(wMo g mo mst mac mmk mr mrd mrm mcm mtp msz mtk mbg men mls mvl mft mfp mfk mdp mto), (wMAll g mo al)]) (lv' := [(0, .ref (mo 0)), (1, .int (iI t)), (2, .int (iI c)), (3, .int (iI n)), (4, .int (iI ((cntF (mF al t) c i) + 0))), (5, .int (iI (i + 1)))]) [0, 1] [2, 3, 4, 5, 1, 0] rfl rfl rfl ?_
          refine G.cast (fs' := [(wMo g mo mst mac mmk mr mrd mrm mcm mtp msz mtk mbg men mls mvl mft mfp mfk mdp mto), (wMAll g mo al)]) (lv' := [(0, .ref (mo 0)), (1, .int (iI t)), (2, .int (iI c)), (3, .int (iI n)), (4, .int (iI (cntF (mF al t) c (i + 1)))), (5, .int (iI (i + 1)))]) rfl (congrArg (fun z9 : Int => ([(0, .ref (mo 0)), (1, .int (iI t)), (2, .int (iI c)), (3, .int (iI n)), (4, .int (iI z9)), (5, .int (iI (i + 1)))] : List (Nat × Value))) (show ((cntF (mF al t) c i) + 0 : Int) = cntF (mF al t) c (i + 1) from by first | rfl | (rw [cntF_yes (f := mF al t) hi.1 c22]) | (rw [cntF_no (f := mF al t) hi.1 c22]; omega))) ?_
          exact ih6 (i + 1) (by omega) (by omega)
        · skip
          refine r_iconst 26 hE dX9_countOf_25 rfl ?_
          refine r_goto 30 hE dX9_countOf_26 (by decide) ?_
          refine r_iadd 31 hE ((cntF (mF al t) c i) + 1) dX9_countOf_30 rfl rfl ?_
          refine r_istore 33 hE [(4, .int (iI ((cntF (mF al t) c i) + 1))), (0, .ref (mo 0)), (1, .int (iI t)), (2, .int (iI c)), (3, .int (iI n)), (5, .int (iI i))] dX9_countOf_31 rfl (by decide) rfl ?_
          refine r_iinc 36 hE 5 (i + 1) [(5, .int (iI (i + 1))), (4, .int (iI ((cntF (mF al t) c i) + 1))), (0, .ref (mo 0)), (1, .int (iI t)), (2, .int (iI c)), (3, .int (iI n))] dX9_countOf_33 rfl rfl rfl (by decide) rfl ?_
          refine r_goto 6 hE dX9_countOf_36 (by decide) ?_
          refine G.to (fs' := [(wMo g mo mst mac mmk mr mrd mrm mcm mtp msz mtk mbg men mls mvl mft mfp mfk mdp mto), (wMAll g mo al)]) (lv' := [(0, .ref (mo 0)), (1, .int (iI t)), (2, .int (iI c)), (3, .int (iI n)), (4, .int (iI ((cntF (mF al t) c i) + 1))), (5, .int (iI (i + 1)))]) [0, 1] [2, 3, 4, 5, 1, 0] rfl rfl rfl ?_
          refine G.cast (fs' := [(wMo g mo mst mac mmk mr mrd mrm mcm mtp msz mtk mbg men mls mvl mft mfp mfk mdp mto), (wMAll g mo al)]) (lv' := [(0, .ref (mo 0)), (1, .int (iI t)), (2, .int (iI c)), (3, .int (iI n)), (4, .int (iI (cntF (mF al t) c (i + 1)))), (5, .int (iI (i + 1)))]) rfl (congrArg (fun z9 : Int => ([(0, .ref (mo 0)), (1, .int (iI t)), (2, .int (iI c)), (3, .int (iI n)), (4, .int (iI z9)), (5, .int (iI (i + 1)))] : List (Nat × Value))) (show ((cntF (mF al t) c i) + 1 : Int) = cntF (mF al t) c (i + 1) from by first | rfl | (rw [cntF_yes (f := mF al t) hi.1 c22]) | (rw [cntF_no (f := mF al t) hi.1 c22]; omega))) ?_
          exact ih6 (i + 1) (by omega) (by omega)
  refine r_iconst 1 hE dX9_countOf_0 rfl ?_
  refine r_istore 3 hE [(4, .int (iI 0)), (0, .ref (mo 0)), (1, .int (iI t)), (2, .int (iI c)), (3, .int (iI n))] dX9_countOf_1 rfl (by decide) rfl ?_
  refine r_iconst 4 hE dX9_countOf_3 rfl ?_
  refine r_istore 6 hE [(5, .int (iI 0)), (4, .int (iI 0)), (0, .ref (mo 0)), (1, .int (iI t)), (2, .int (iI c)), (3, .int (iI n))] dX9_countOf_4 rfl (by decide) rfl ?_
  refine G.to (fs' := [(wMo g mo mst mac mmk mr mrd mrm mcm mtp msz mtk mbg men mls mvl mft mfp mfk mdp mto), (wMAll g mo al)]) (lv' := [(0, .ref (mo 0)), (1, .int (iI t)), (2, .int (iI c)), (3, .int (iI n)), (4, .int (iI 0)), (5, .int (iI 0))]) [0, 1] [2, 3, 4, 5, 1, 0] rfl rfl rfl ?_
  refine G.cast (fs' := [(wMo g mo mst mac mmk mr mrd mrm mcm mtp msz mtk mbg men mls mvl mft mfp mfk mdp mto), (wMAll g mo al)]) (lv' := [(0, .ref (mo 0)), (1, .int (iI t)), (2, .int (iI c)), (3, .int (iI n)), (4, .int (iI (cntF (mF al t) c 0))), (5, .int (iI 0))]) rfl (congrArg (fun z9 : Int => ([(0, .ref (mo 0)), (1, .int (iI t)), (2, .int (iI c)), (3, .int (iI n)), (4, .int (iI z9)), (5, .int (iI 0))] : List (Nat × Value))) (show (0 : Int) = cntF (mF al t) c 0 from by first | rfl | (rw [cntF_yes (f := mF al t) hi.1 c22]) | (rw [cntF_no (f := mF al t) hi.1 c22]; omega))) ?_
  exact cut6 _ 0 (by omega) (Nat.lt_succ_self _)
set_option maxHeartbeats 4000000 in
set_option maxRecDepth 100000 in
theorem c_X9_same {g : Gm} {mo : Nat → Nat} {mst mac mmk mr mrd mrm mcm mtp msz mtk mbg men mls mvl mft mfp mfk mdp mto : Int} {al : Int → Int} {t p u q : Int} (hM : MTx al) (ht : 0 ≤ t ∧ t < al 0) (hu : 0 ≤ u ∧ u < al 0) (hp : 0 ≤ p ∧ p ≤ mN al t) (hq : 0 ≤ q ∧ q ≤ mN al u) : Ct g 1 0 0 yX9_same cX9_same 6 (some .int) [.ref (mo 0), .int (iI t), .int (iI p), .int (iI u), .int (iI q)] [(wMo g mo mst mac mmk mr mrd mrm mcm mtp msz mtk mbg men mls mvl mft mfp mfk mdp mto), (wMAll g mo al)] (fun v_ w_ => ∃ r : Int, v_ = some (.int (iI r)) ∧ w_ = [(wMo g mo mst mac mmk mr mrd mrm mcm mtp msz mtk mbg men mls mvl mft mfp mfk mdp mto), (wMAll g mo al)] ∧ (LcpIs (fun k => mF al t (p + k)) (fun k => mF al u (q + k)) (min (mN al t - p) (mN al u - q)) r)) := by
  refine Ct.of (by decide) (Nat.le_of_ble_eq_true rfl) (lv := [(0, .ref (mo 0)), (1, .int (iI t)), (2, .int (iI p)), (3, .int (iI u)), (4, .int (iI q))]) rfl ?_
  intro E hE hR hnm
  have hc := hM.1
  have hl_t := hM.2 t ht.1 ht.2
  have hl_u := hM.2 u hu.1 hu.2
  have cut3 : ∀ (N : Nat) (z : Int), (0 ≤ z ∧ z ≤ min (mN al t - p) (mN al u - q)) → (∀ k, 0 ≤ k → k < z → mF al t (p + k) = mF al u (q + k)) → (min (mN al t - p) (mN al u - q) - z).toNat < N → G g E 6 0 0 [(wMo g mo mst mac mmk mr mrd mrm mcm mtp msz mtk mbg men mls mvl mft mfp mfk mdp mto), (wMAll g mo al)] 3 [(0, .ref (mo 0)), (1, .int (iI t)), (2, .int (iI p)), (3, .int (iI u)), (4, .int (iI q)), (5, .int (iI z))] [] := by
    intro N
    induction N with
    | zero => intro z _ _ hN; exact absurd hN (Nat.not_lt_zero _)
    | succ N ih3 =>
      intro z hz hv hN
      refine r_iload_n 4 hE 2 dX9_same_3 rfl rfl rfl ?_
      refine r_iload 6 hE 5 dX9_same_4 rfl rfl ?_
      refine r_iadd 7 hE (p + z) dX9_same_6 rfl rfl ?_
      refine r_aload_n 8 hE 0 dX9_same_7 rfl rfl rfl ?_
      refine r_iload_n 9 hE 1 dX9_same_8 rfl rfl rfl ?_
      refine r_callV 12 hE [0, 1] [] [(wMo g mo mst mac mmk mr mrd mrm mcm mtp msz mtk mbg men mls mvl mft mfp mfk mdp mto), (wMAll g mo al)] [] 0 9 ok9 [.int (iI (p + z))] (c_X9_sizeOf (by omega)) dX9_same_9 rfl rfl wd_1273 wd_1275 ws_65 wd_12 wd_1276 ne_X9 np_X9_sizeOf (Nat.le_of_ble_eq_true rfl)  (by decide) (by decide) rfl (Nat.le_of_ble_eq_true rfl) rfl rfl rfl rfl (by decide) rfl (fun v1 f1 hp => ?_)
      obtain ⟨rfl, rfl⟩ := hp
      show G g E _ _ _ [(wMo g mo mst mac mmk mr mrd mrm mcm mtp msz mtk mbg men mls mvl mft mfp mfk mdp mto), (wMAll g mo al)] 12 [(0, .ref (mo 0)), (1, .int (iI t)), (2, .int (iI p)), (3, .int (iI u)), (4, .int (iI q)), (5, .int (iI z))] [.int (iI (mN al t)), .int (iI (p + z))]
      refine r_icmp_ge 15 56 hE dX9_same_12 rfl (by decide) (by omega) (fun c12 => ?_) (fun c12 => ?_)
      · skip
        refine r_iload 58 hE 5 dX9_same_56 rfl rfl ?_
        refine r_ireturn hE hR [(wMo g mo mst mac mmk mr mrd mrm mcm mtp msz mtk mbg men mls mvl mft mfp mfk mdp mto), (wMAll g mo al)] dX9_same_58 (Nat.le_of_ble_eq_true rfl) (Nat.le_of_ble_eq_true rfl) rfl ?_
        refine ⟨z, rfl, rfl, hz.1, hz.2, hv, ?_⟩
        first
          | exact Or.inl (by omega)
          | exact Or.inr c47
      · skip
        refine r_iload 17 hE 4 dX9_same_15 rfl rfl ?_
        refine r_iload 19 hE 5 dX9_same_17 rfl rfl ?_
        refine r_iadd 20 hE (q + z) dX9_same_19 rfl rfl ?_
        refine r_aload_n 21 hE 0 dX9_same_20 rfl rfl rfl ?_
        refine r_iload_n 22 hE 3 dX9_same_21 rfl rfl rfl ?_
        refine r_callV 25 hE [0, 1] [] [(wMo g mo mst mac mmk mr mrd mrm mcm mtp msz mtk mbg men mls mvl mft mfp mfk mdp mto), (wMAll g mo al)] [] 0 9 ok9 [.int (iI (q + z))] (c_X9_sizeOf (by omega)) dX9_same_22 rfl rfl wd_1273 wd_1275 ws_65 wd_12 wd_1276 ne_X9 np_X9_sizeOf (Nat.le_of_ble_eq_true rfl)  (by decide) (by decide) rfl (Nat.le_of_ble_eq_true rfl) rfl rfl rfl rfl (by decide) rfl (fun v1 f1 hp => ?_)
        obtain ⟨rfl, rfl⟩ := hp
        show G g E _ _ _ [(wMo g mo mst mac mmk mr mrd mrm mcm mtp msz mtk mbg men mls mvl mft mfp mfk mdp mto), (wMAll g mo al)] 25 [(0, .ref (mo 0)), (1, .int (iI t)), (2, .int (iI p)), (3, .int (iI u)), (4, .int (iI q)), (5, .int (iI z))] [.int (iI (mN al u)), .int (iI (q + z))]
        refine r_icmp_ge 28 56 hE dX9_same_25 rfl (by decide) (by omega) (fun c25 => ?_) (fun c25 => ?_)
        · skip
          refine r_iload 58 hE 5 dX9_same_56 rfl rfl ?_
          refine r_ireturn hE hR [(wMo g mo mst mac mmk mr mrd mrm mcm mtp msz mtk mbg men mls mvl mft mfp mfk mdp mto), (wMAll g mo al)] dX9_same_58 (Nat.le_of_ble_eq_true rfl) (Nat.le_of_ble_eq_true rfl) rfl ?_
          refine ⟨z, rfl, rfl, hz.1, hz.2, hv, ?_⟩
          first
            | exact Or.inl (by omega)
            | exact Or.inr c47
        · skip
          refine r_aload_n 29 hE 0 dX9_same_28 rfl rfl rfl ?_
          refine r_iload_n 30 hE 1 dX9_same_29 rfl rfl rfl ?_
          refine r_iload_n 31 hE 2 dX9_same_30 rfl rfl rfl ?_
          refine r_iload 33 hE 5 dX9_same_31 rfl rfl ?_
          refine r_iadd 34 hE (p + z) dX9_same_33 rfl rfl ?_
          refine r_callV 37 hE [0, 1] [] [(wMo g mo mst mac mmk mr mrd mrm mcm mtp msz mtk mbg men mls mvl mft mfp mfk mdp mto), (wMAll g mo al)] [] 0 9 ok9 [] (c_X9_at (by omega)) dX9_same_34 rfl rfl wd_1277 wd_1279 ws_66 wd_12 wd_1280 ne_X9 np_X9_at (Nat.le_of_ble_eq_true rfl)  (by decide) (by decide) rfl (Nat.le_of_ble_eq_true rfl) rfl rfl rfl rfl (by decide) rfl (fun v1 f1 hp => ?_)
          obtain ⟨rfl, rfl⟩ := hp
          show G g E _ _ _ [(wMo g mo mst mac mmk mr mrd mrm mcm mtp msz mtk mbg men mls mvl mft mfp mfk mdp mto), (wMAll g mo al)] 37 [(0, .ref (mo 0)), (1, .int (iI t)), (2, .int (iI p)), (3, .int (iI u)), (4, .int (iI q)), (5, .int (iI z))] [.int (iI (mF al t (p + z)))]
          refine r_aload_n 38 hE 0 dX9_same_37 rfl rfl rfl ?_
          refine r_iload_n 39 hE 3 dX9_same_38 rfl rfl rfl ?_
          refine r_iload 41 hE 4 dX9_same_39 rfl rfl ?_
          refine r_iload 43 hE 5 dX9_same_41 rfl rfl ?_
          refine r_iadd 44 hE (q + z) dX9_same_43 rfl rfl ?_
          refine r_callV 47 hE [0, 1] [] [(wMo g mo mst mac mmk mr mrd mrm mcm mtp msz mtk mbg men mls mvl mft mfp mfk mdp mto), (wMAll g mo al)] [] 0 9 ok9 [.int (iI (mF al t (p + z)))] (c_X9_at (by omega)) dX9_same_44 rfl rfl wd_1277 wd_1279 ws_66 wd_12 wd_1280 ne_X9 np_X9_at (Nat.le_of_ble_eq_true rfl)  (by decide) (by decide) rfl (Nat.le_of_ble_eq_true rfl) rfl rfl rfl rfl (by decide) rfl (fun v1 f1 hp => ?_)
          obtain ⟨rfl, rfl⟩ := hp
          show G g E _ _ _ [(wMo g mo mst mac mmk mr mrd mrm mcm mtp msz mtk mbg men mls mvl mft mfp mfk mdp mto), (wMAll g mo al)] 47 [(0, .ref (mo 0)), (1, .int (iI t)), (2, .int (iI p)), (3, .int (iI u)), (4, .int (iI q)), (5, .int (iI z))] [.int (iI (mF al u (q + z))), .int (iI (mF al t (p + z)))]
          refine r_icmp_ne 50 56 hE dX9_same_47 rfl (by decide) (by have h1 := hl_t.2 (p + z) (by omega) (by omega); have h2 := hl_u.2 (q + z) (by omega) (by omega); omega) (fun c47 => ?_) (fun c47 => ?_)
          · skip
            refine r_iload 58 hE 5 dX9_same_56 rfl rfl ?_
            refine r_ireturn hE hR [(wMo g mo mst mac mmk mr mrd mrm mcm mtp msz mtk mbg men mls mvl mft mfp mfk mdp mto), (wMAll g mo al)] dX9_same_58 (Nat.le_of_ble_eq_true rfl) (Nat.le_of_ble_eq_true rfl) rfl ?_
            refine ⟨z, rfl, rfl, hz.1, hz.2, hv, ?_⟩
            first
              | exact Or.inl (by omega)
              | exact Or.inr c47
          · skip
            have hv2 : ∀ k, 0 ≤ k → k < z + 1 → mF al t (p + k) = mF al u (q + k) := fun k k0 k1 => if e : k = z then e ▸ c47 else hv k k0 (by omega)
            refine r_iinc 53 hE 5 (z + 1) [(5, .int (iI (z + 1))), (0, .ref (mo 0)), (1, .int (iI t)), (2, .int (iI p)), (3, .int (iI u)), (4, .int (iI q))] dX9_same_50 rfl rfl rfl (by decide) rfl ?_
            refine r_goto 3 hE dX9_same_53 (by decide) ?_
            refine G.to (fs' := [(wMo g mo mst mac mmk mr mrd mrm mcm mtp msz mtk mbg men mls mvl mft mfp mfk mdp mto), (wMAll g mo al)]) (lv' := [(0, .ref (mo 0)), (1, .int (iI t)), (2, .int (iI p)), (3, .int (iI u)), (4, .int (iI q)), (5, .int (iI (z + 1)))]) [0, 1] [1, 2, 3, 4, 5, 0] rfl rfl rfl ?_
            exact ih3 (z + 1) (by omega) (by first | exact (fun k k0 k1 => absurd k1 (by omega)) | exact hv2) (by omega)
  refine r_iconst 1 hE dX9_same_0 rfl ?_
  refine r_istore 3 hE [(5, .int (iI 0)), (0, .ref (mo 0)), (1, .int (iI t)), (2, .int (iI p)), (3, .int (iI u)), (4, .int (iI q))] dX9_same_1 rfl (by decide) rfl ?_
  refine G.to (fs' := [(wMo g mo mst mac mmk mr mrd mrm mcm mtp msz mtk mbg men mls mvl mft mfp mfk mdp mto), (wMAll g mo al)]) (lv' := [(0, .ref (mo 0)), (1, .int (iI t)), (2, .int (iI p)), (3, .int (iI u)), (4, .int (iI q)), (5, .int (iI 0))]) [0, 1] [1, 2, 3, 4, 5, 0] rfl rfl rfl ?_
  exact cut3 _ 0 (by omega) (by first | exact (fun k k0 k1 => absurd k1 (by omega)) | exact hv2) (Nat.lt_succ_self _)
set_option maxHeartbeats 4000000 in
set_option maxRecDepth 100000 in
theorem c_X9_isSame {g : Gm} {mo : Nat → Nat} {mst mac mmk mr mrd mrm mcm mtp msz mtk mbg men mls mvl mft mfp mfk mdp mto : Int} {al : Int → Int} {t u : Int} (hM : MTx al) (ht : 0 ≤ t ∧ t < al 0) (hu : 0 ≤ u ∧ u < al 0) : Ct g 2 0 0 yX9_isSame cX9_isSame 3 (some .boolean) [.ref (mo 0), .int (iI t), .int (iI u)] [(wMo g mo mst mac mmk mr mrd mrm mcm mtp msz mtk mbg men mls mvl mft mfp mfk mdp mto), (wMAll g mo al)] (fun v_ w_ => v_ = some (.int (iI (bI (cmpT (mF al t) (mN al t) (mF al u) (mN al u) = 0)))) ∧ w_ = [(wMo g mo mst mac mmk mr mrd mrm mcm mtp msz mtk mbg men mls mvl mft mfp mfk mdp mto), (wMAll g mo al)]) := by
  refine Ct.of (by decide) (Nat.le_of_ble_eq_true rfl) (lv := [(0, .ref (mo 0)), (1, .int (iI t)), (2, .int (iI u))]) rfl ?_
  intro E hE hR hnm
  have hc := hM.1
  have hl_t := hM.2 t ht.1 ht.2
  have hl_u := hM.2 u hu.1 hu.2
  refine r_aload_n 1 hE 0 dX9_isSame_0 rfl rfl rfl ?_
  refine r_iload_n 2 hE 1 dX9_isSame_1 rfl rfl rfl ?_
  refine r_callV 5 hE [0, 1] [] [(wMo g mo mst mac mmk mr mrd mrm mcm mtp msz mtk mbg men mls mvl mft mfp mfk mdp mto), (wMAll g mo al)] [] 0 9 ok9 [] (c_X9_sizeOf (by omega)) dX9_isSame_2 rfl rfl wd_1273 wd_1275 ws_65 wd_12 wd_1276 ne_X9 np_X9_sizeOf (Nat.le_of_ble_eq_true rfl)  (by decide) (by decide) rfl (Nat.le_of_ble_eq_true rfl) rfl rfl rfl rfl (by decide) rfl (fun v1 f1 hp => ?_)
  obtain ⟨rfl, rfl⟩ := hp
  show G g E _ _ _ [(wMo g mo mst mac mmk mr mrd mrm mcm mtp msz mtk mbg men mls mvl mft mfp mfk mdp mto), (wMAll g mo al)] 5 [(0, .ref (mo 0)), (1, .int (iI t)), (2, .int (iI u))] [.int (iI (mN al t))]
  refine r_aload_n 6 hE 0 dX9_isSame_5 rfl rfl rfl ?_
  refine r_iload_n 7 hE 2 dX9_isSame_6 rfl rfl rfl ?_
  refine r_callV 10 hE [0, 1] [] [(wMo g mo mst mac mmk mr mrd mrm mcm mtp msz mtk mbg men mls mvl mft mfp mfk mdp mto), (wMAll g mo al)] [] 0 9 ok9 [.int (iI (mN al t))] (c_X9_sizeOf (by omega)) dX9_isSame_7 rfl rfl wd_1273 wd_1275 ws_65 wd_12 wd_1276 ne_X9 np_X9_sizeOf (Nat.le_of_ble_eq_true rfl)  (by decide) (by decide) rfl (Nat.le_of_ble_eq_true rfl) rfl rfl rfl rfl (by decide) rfl (fun v1 f1 hp => ?_)
  obtain ⟨rfl, rfl⟩ := hp
  show G g E _ _ _ [(wMo g mo mst mac mmk mr mrd mrm mcm mtp msz mtk mbg men mls mvl mft mfp mfk mdp mto), (wMAll g mo al)] 10 [(0, .ref (mo 0)), (1, .int (iI t)), (2, .int (iI u))] [.int (iI (mN al u)), .int (iI (mN al t))]
  refine r_icmp_ne 13 33 hE dX9_isSame_10 rfl (by decide) (by omega) (fun c10 => ?_) (fun c10 => ?_)
  · skip
    refine r_iconst 34 hE dX9_isSame_33 rfl ?_
    refine r_zreturn hE hR [(wMo g mo mst mac mmk mr mrd mrm mcm mtp msz mtk mbg men mls mvl mft mfp mfk mdp mto), (wMAll g mo al)] dX9_isSame_34 (Nat.le_of_ble_eq_true rfl) (Nat.le_of_ble_eq_true rfl) (by decide) rfl ?_
    first
      | exact ⟨ret0 (fun z => c10 ((cmpT_0 (by omega) (by omega) (hM.nn ht) (hM.nn hu)).mp z).1), rfl⟩
      | exact ⟨ret1 (hls.mpr ⟨c10, c26⟩), rfl⟩
      | exact ⟨ret0 (fun z => c26 (hls.mp z).2), rfl⟩
  · skip
    refine r_aload_n 14 hE 0 dX9_isSame_13 rfl rfl rfl ?_
    refine r_iload_n 15 hE 1 dX9_isSame_14 rfl rfl rfl ?_
    refine r_iconst 16 hE dX9_isSame_15 rfl ?_
    refine r_iload_n 17 hE 2 dX9_isSame_16 rfl rfl rfl ?_
    refine r_iconst 18 hE dX9_isSame_17 rfl ?_
    refine r_callV 21 hE [0, 1] [] [(wMo g mo mst mac mmk mr mrd mrm mcm mtp msz mtk mbg men mls mvl mft mfp mfk mdp mto), (wMAll g mo al)] [] 0 9 ok9 [] (c_X9_same (hM) (by omega) (by omega) (by omega) (by omega)) dX9_isSame_18 rfl rfl wd_1473 wd_1475 ws_94 wd_12 wd_1476 ne_X9 np_X9_same (Nat.le_of_ble_eq_true rfl)  (by decide) (by decide) rfl (Nat.le_of_ble_eq_true rfl) rfl rfl rfl rfl (by decide) rfl (fun v1 f1 hp => ?_)
    obtain ⟨r_18, rfl, rfl, h18_0⟩ := hp
    show G g E _ _ _ [(wMo g mo mst mac mmk mr mrd mrm mcm mtp msz mtk mbg men mls mvl mft mfp mfk mdp mto), (wMAll g mo al)] 21 [(0, .ref (mo 0)), (1, .int (iI t)), (2, .int (iI u))] [.int (iI r_18)]
    have hls := (lcp_same (hM.nn ht) (hM.nn hu) (lcp0 h18_0)).1
    have hlr := h18_0.1
    have hlr2 := h18_0.2.1
    refine r_aload_n 22 hE 0 dX9_isSame_21 rfl rfl rfl ?_
    refine r_iload_n 23 hE 1 dX9_isSame_22 rfl rfl rfl ?_
    refine r_callV 26 hE [0, 1] [] [(wMo g mo mst mac mmk mr mrd mrm mcm mtp msz mtk mbg men mls mvl mft mfp mfk mdp mto), (wMAll g mo al)] [] 0 9 ok9 [.int (iI r_18)] (c_X9_sizeOf (by omega)) dX9_isSame_23 rfl rfl wd_1273 wd_1275 ws_65 wd_12 wd_1276 ne_X9 np_X9_sizeOf (Nat.le_of_ble_eq_true rfl)  (by decide) (by decide) rfl (Nat.le_of_ble_eq_true rfl) rfl rfl rfl rfl (by decide) rfl (fun v1 f1 hp => ?_)
    obtain ⟨rfl, rfl⟩ := hp
    show G g E _ _ _ [(wMo g mo mst mac mmk mr mrd mrm mcm mtp msz mtk mbg men mls mvl mft mfp mfk mdp mto), (wMAll g mo al)] 26 [(0, .ref (mo 0)), (1, .int (iI t)), (2, .int (iI u))] [.int (iI (mN al t)), .int (iI r_18)]
    refine r_icmp_ne 29 33 hE dX9_isSame_26 rfl (by decide) (by omega) (fun c26 => ?_) (fun c26 => ?_)
    · skip
      refine r_iconst 34 hE dX9_isSame_33 rfl ?_
      refine r_zreturn hE hR [(wMo g mo mst mac mmk mr mrd mrm mcm mtp msz mtk mbg men mls mvl mft mfp mfk mdp mto), (wMAll g mo al)] dX9_isSame_34 (Nat.le_of_ble_eq_true rfl) (Nat.le_of_ble_eq_true rfl) (by decide) rfl ?_
      first
        | exact ⟨ret0 (fun z => c10 ((cmpT_0 (by omega) (by omega) (hM.nn ht) (hM.nn hu)).mp z).1), rfl⟩
        | exact ⟨ret1 (hls.mpr ⟨c10, c26⟩), rfl⟩
        | exact ⟨ret0 (fun z => c26 (hls.mp z).2), rfl⟩
    · skip
      refine r_iconst 30 hE dX9_isSame_29 rfl ?_
      refine r_goto 34 hE dX9_isSame_30 (by decide) ?_
      refine r_zreturn hE hR [(wMo g mo mst mac mmk mr mrd mrm mcm mtp msz mtk mbg men mls mvl mft mfp mfk mdp mto), (wMAll g mo al)] dX9_isSame_34 (Nat.le_of_ble_eq_true rfl) (Nat.le_of_ble_eq_true rfl) (by decide) rfl ?_
      first
        | exact ⟨ret0 (fun z => c10 ((cmpT_0 (by omega) (by omega) (hM.nn ht) (hM.nn hu)).mp z).1), rfl⟩
        | exact ⟨ret1 (hls.mpr ⟨c10, c26⟩), rfl⟩
        | exact ⟨ret0 (fun z => c26 (hls.mp z).2), rfl⟩
set_option maxHeartbeats 4000000 in
set_option maxRecDepth 100000 in
theorem c_X9_isAhead {g : Gm} {mo : Nat → Nat} {mst mac mmk mr mrd mrm mcm mtp msz mtk mbg men mls mvl mft mfp mfk mdp mto : Int} {al : Int → Int} {t u : Int} (hM : MTx al) (ht : 0 ≤ t ∧ t < al 0) (hu : 0 ≤ u ∧ u < al 0) : Ct g 2 0 0 yX9_isAhead cX9_isAhead 4 (some .boolean) [.ref (mo 0), .int (iI t), .int (iI u)] [(wMo g mo mst mac mmk mr mrd mrm mcm mtp msz mtk mbg men mls mvl mft mfp mfk mdp mto), (wMAll g mo al)] (fun v_ w_ => v_ = some (.int (iI (bI (cmpT (mF al t) (mN al t) (mF al u) (mN al u) < 0)))) ∧ w_ = [(wMo g mo mst mac mmk mr mrd mrm mcm mtp msz mtk mbg men mls mvl mft mfp mfk mdp mto), (wMAll g mo al)]) := by
  refine Ct.of (by decide) (Nat.le_of_ble_eq_true rfl) (lv := [(0, .ref (mo 0)), (1, .int (iI t)), (2, .int (iI u))]) rfl ?_
  intro E hE hR hnm
  have hc := hM.1
  have hl_t := hM.2 t ht.1 ht.2
  have hl_u := hM.2 u hu.1 hu.2
  refine r_aload_n 1 hE 0 dX9_isAhead_0 rfl rfl rfl ?_
  refine r_iload_n 2 hE 1 dX9_isAhead_1 rfl rfl rfl ?_
  refine r_iconst 3 hE dX9_isAhead_2 rfl ?_
  refine r_iload_n 4 hE 2 dX9_isAhead_3 rfl rfl rfl ?_
  refine r_iconst 5 hE dX9_isAhead_4 rfl ?_
  refine r_callV 8 hE [0, 1] [] [(wMo g mo mst mac mmk mr mrd mrm mcm mtp msz mtk mbg men mls mvl mft mfp mfk mdp mto), (wMAll g mo al)] [] 0 9 ok9 [] (c_X9_same (hM) (by omega) (by omega) (by omega) (by omega)) dX9_isAhead_5 rfl rfl wd_1473 wd_1475 ws_94 wd_12 wd_1476 ne_X9 np_X9_same (Nat.le_of_ble_eq_true rfl)  (by decide) (by decide) rfl (Nat.le_of_ble_eq_true rfl) rfl rfl rfl rfl (by decide) rfl (fun v1 f1 hp => ?_)
  obtain ⟨r_5, rfl, rfl, h5_0⟩ := hp
  show G g E _ _ _ [(wMo g mo mst mac mmk mr mrd mrm mcm mtp msz mtk mbg men mls mvl mft mfp mfk mdp mto), (wMAll g mo al)] 8 [(0, .ref (mo 0)), (1, .int (iI t)), (2, .int (iI u))] [.int (iI r_5)]
  have hls := (lcp_same (hM.nn ht) (hM.nn hu) (lcp0 h5_0)).2
  have hlr := h5_0.1
  have hlr2 := h5_0.2.1
  refine r_istore_n 9 hE [(3, .int (iI r_5)), (0, .ref (mo 0)), (1, .int (iI t)), (2, .int (iI u))] dX9_isAhead_8 rfl rfl (by decide) rfl ?_
  refine r_iload_n 10 hE 0 dX9_isAhead_9 rfl rfl rfl ?_
  refine r_aload_n 11 hE 1 dX9_isAhead_10 rfl rfl rfl ?_
  refine r_iload_n 12 hE 2 dX9_isAhead_11 rfl rfl rfl ?_
  refine r_callV 15 hE [0, 1] [] [(wMo g mo mst mac mmk mr mrd mrm mcm mtp msz mtk mbg men mls mvl mft mfp mfk mdp mto), (wMAll g mo al)] [] 0 9 ok9 [.int (iI r_5)] (c_X9_sizeOf (by omega)) dX9_isAhead_12 rfl rfl wd_1273 wd_1275 ws_65 wd_12 wd_1276 ne_X9 np_X9_sizeOf (Nat.le_of_ble_eq_true rfl)  (by decide) (by decide) rfl (Nat.le_of_ble_eq_true rfl) rfl rfl rfl rfl (by decide) rfl (fun v1 f1 hp => ?_)
  obtain ⟨rfl, rfl⟩ := hp
  show G g E _ _ _ [(wMo g mo mst mac mmk mr mrd mrm mcm mtp msz mtk mbg men mls mvl mft mfp mfk mdp mto), (wMAll g mo al)] 15 [(3, .int (iI r_5)), (0, .ref (mo 0)), (1, .int (iI t)), (2, .int (iI u))] [.int (iI (mN al t)), .int (iI r_5)]
  refine r_icmp_ne 18 35 hE dX9_isAhead_15 rfl (by decide) (by omega) (fun c15 => ?_) (fun c15 => ?_)
  · skip
    refine r_iload_n 36 hE 0 dX9_isAhead_35 rfl rfl rfl ?_
    refine r_aload_n 37 hE 1 dX9_isAhead_36 rfl rfl rfl ?_
    refine r_iload_n 38 hE 3 dX9_isAhead_37 rfl rfl rfl ?_
    refine r_callV 41 hE [0, 1] [] [(wMo g mo mst mac mmk mr mrd mrm mcm mtp msz mtk mbg men mls mvl mft mfp mfk mdp mto), (wMAll g mo al)] [] 0 9 ok9 [.int (iI r_5)] (c_X9_sizeOf (by omega)) dX9_isAhead_38 rfl rfl wd_1273 wd_1275 ws_65 wd_12 wd_1276 ne_X9 np_X9_sizeOf (Nat.le_of_ble_eq_true rfl)  (by decide) (by decide) rfl (Nat.le_of_ble_eq_true rfl) rfl rfl rfl rfl (by decide) rfl (fun v1 f1 hp => ?_)
    obtain ⟨rfl, rfl⟩ := hp
    show G g E _ _ _ [(wMo g mo mst mac mmk mr mrd mrm mcm mtp msz mtk mbg men mls mvl mft mfp mfk mdp mto), (wMAll g mo al)] 41 [(3, .int (iI r_5)), (0, .ref (mo 0)), (1, .int (iI t)), (2, .int (iI u))] [.int (iI (mN al u)), .int (iI r_5)]
    refine r_icmp_ge 44 63 hE dX9_isAhead_41 rfl (by decide) (by omega) (fun c41 => ?_) (fun c41 => ?_)
    · skip
      refine r_iconst 64 hE dX9_isAhead_63 rfl ?_
      refine r_zreturn hE hR [(wMo g mo mst mac mmk mr mrd mrm mcm mtp msz mtk mbg men mls mvl mft mfp mfk mdp mto), (wMAll g mo al)] dX9_isAhead_64 (Nat.le_of_ble_eq_true rfl) (Nat.le_of_ble_eq_true rfl) (by decide) rfl ?_
      first
        | exact ⟨ret1 (hls.mpr (by omega)), rfl⟩
        | exact ⟨ret0 (fun z => by have := hls.mp z; omega), rfl⟩
    · skip
      refine r_aload_n 45 hE 1 dX9_isAhead_44 rfl rfl rfl ?_
      refine r_iload_n 46 hE 2 dX9_isAhead_45 rfl rfl rfl ?_
      refine r_iload_n 47 hE 0 dX9_isAhead_46 rfl rfl rfl ?_
      refine r_callV 50 hE [0, 1] [] [(wMo g mo mst mac mmk mr mrd mrm mcm mtp msz mtk mbg men mls mvl mft mfp mfk mdp mto), (wMAll g mo al)] [] 0 9 ok9 [] (c_X9_at (by omega)) dX9_isAhead_47 rfl rfl wd_1277 wd_1279 ws_66 wd_12 wd_1280 ne_X9 np_X9_at (Nat.le_of_ble_eq_true rfl)  (by decide) (by decide) rfl (Nat.le_of_ble_eq_true rfl) rfl rfl rfl rfl (by decide) rfl (fun v1 f1 hp => ?_)
      obtain ⟨rfl, rfl⟩ := hp
      show G g E _ _ _ [(wMo g mo mst mac mmk mr mrd mrm mcm mtp msz mtk mbg men mls mvl mft mfp mfk mdp mto), (wMAll g mo al)] 50 [(3, .int (iI r_5)), (0, .ref (mo 0)), (1, .int (iI t)), (2, .int (iI u))] [.int (iI (mF al t r_5))]
      refine r_aload_n 51 hE 1 dX9_isAhead_50 rfl rfl rfl ?_
      refine r_iload_n 52 hE 3 dX9_isAhead_51 rfl rfl rfl ?_
      refine r_iload_n 53 hE 0 dX9_isAhead_52 rfl rfl rfl ?_
      refine r_callV 56 hE [0, 1] [] [(wMo g mo mst mac mmk mr mrd mrm mcm mtp msz mtk mbg men mls mvl mft mfp mfk mdp mto), (wMAll g mo al)] [] 0 9 ok9 [.int (iI (mF al t r_5))] (c_X9_at (by omega)) dX9_isAhead_53 rfl rfl wd_1277 wd_1279 ws_66 wd_12 wd_1280 ne_X9 np_X9_at (Nat.le_of_ble_eq_true rfl)  (by decide) (by decide) rfl (Nat.le_of_ble_eq_true rfl) rfl rfl rfl rfl (by decide) rfl (fun v1 f1 hp => ?_)
      obtain ⟨rfl, rfl⟩ := hp
      show G g E _ _ _ [(wMo g mo mst mac mmk mr mrd mrm mcm mtp msz mtk mbg men mls mvl mft mfp mfk mdp mto), (wMAll g mo al)] 56 [(3, .int (iI r_5)), (0, .ref (mo 0)), (1, .int (iI t)), (2, .int (iI u))] [.int (iI (mF al u r_5)), .int (iI (mF al t r_5))]
      refine r_icmp_ge 59 63 hE dX9_isAhead_56 rfl (by decide) (by have h1 := hl_t.2 r_5 (by omega) (by omega); have h2 := hl_u.2 r_5 (by omega) (by omega); omega) (fun c56 => ?_) (fun c56 => ?_)
      · skip
        refine r_iconst 64 hE dX9_isAhead_63 rfl ?_
        refine r_zreturn hE hR [(wMo g mo mst mac mmk mr mrd mrm mcm mtp msz mtk mbg men mls mvl mft mfp mfk mdp mto), (wMAll g mo al)] dX9_isAhead_64 (Nat.le_of_ble_eq_true rfl) (Nat.le_of_ble_eq_true rfl) (by decide) rfl ?_
        first
          | exact ⟨ret1 (hls.mpr (by omega)), rfl⟩
          | exact ⟨ret0 (fun z => by have := hls.mp z; omega), rfl⟩
      · skip
        refine r_iconst 60 hE dX9_isAhead_59 rfl ?_
        refine r_goto 64 hE dX9_isAhead_60 (by decide) ?_
        refine r_zreturn hE hR [(wMo g mo mst mac mmk mr mrd mrm mcm mtp msz mtk mbg men mls mvl mft mfp mfk mdp mto), (wMAll g mo al)] dX9_isAhead_64 (Nat.le_of_ble_eq_true rfl) (Nat.le_of_ble_eq_true rfl) (by decide) rfl ?_
        first
          | exact ⟨ret1 (hls.mpr (by omega)), rfl⟩
          | exact ⟨ret0 (fun z => by have := hls.mp z; omega), rfl⟩
  · skip
    refine r_iload_n 19 hE 0 dX9_isAhead_18 rfl rfl rfl ?_
    refine r_aload_n 20 hE 1 dX9_isAhead_19 rfl rfl rfl ?_
    refine r_iload_n 21 hE 3 dX9_isAhead_20 rfl rfl rfl ?_
    refine r_callV 24 hE [0, 1] [] [(wMo g mo mst mac mmk mr mrd mrm mcm mtp msz mtk mbg men mls mvl mft mfp mfk mdp mto), (wMAll g mo al)] [] 0 9 ok9 [.int (iI r_5)] (c_X9_sizeOf (by omega)) dX9_isAhead_21 rfl rfl wd_1273 wd_1275 ws_65 wd_12 wd_1276 ne_X9 np_X9_sizeOf (Nat.le_of_ble_eq_true rfl)  (by decide) (by decide) rfl (Nat.le_of_ble_eq_true rfl) rfl rfl rfl rfl (by decide) rfl (fun v1 f1 hp => ?_)
    obtain ⟨rfl, rfl⟩ := hp
    show G g E _ _ _ [(wMo g mo mst mac mmk mr mrd mrm mcm mtp msz mtk mbg men mls mvl mft mfp mfk mdp mto), (wMAll g mo al)] 24 [(3, .int (iI r_5)), (0, .ref (mo 0)), (1, .int (iI t)), (2, .int (iI u))] [.int (iI (mN al u)), .int (iI r_5)]
    refine r_icmp_ge 27 31 hE dX9_isAhead_24 rfl (by decide) (by omega) (fun c24 => ?_) (fun c24 => ?_)
    · skip
      refine r_iconst 32 hE dX9_isAhead_31 rfl ?_
      refine r_goto 64 hE dX9_isAhead_32 (by decide) ?_
      refine r_zreturn hE hR [(wMo g mo mst mac mmk mr mrd mrm mcm mtp msz mtk mbg men mls mvl mft mfp mfk mdp mto), (wMAll g mo al)] dX9_isAhead_64 (Nat.le_of_ble_eq_true rfl) (Nat.le_of_ble_eq_true rfl) (by decide) rfl ?_
      first
        | exact ⟨ret1 (hls.mpr (by omega)), rfl⟩
        | exact ⟨ret0 (fun z => by have := hls.mp z; omega), rfl⟩
    · skip
      refine r_iconst 28 hE dX9_isAhead_27 rfl ?_
      refine r_goto 64 hE dX9_isAhead_28 (by decide) ?_
      refine r_zreturn hE hR [(wMo g mo mst mac mmk mr mrd mrm mcm mtp msz mtk mbg men mls mvl mft mfp mfk mdp mto), (wMAll g mo al)] dX9_isAhead_64 (Nat.le_of_ble_eq_true rfl) (Nat.le_of_ble_eq_true rfl) (by decide) rfl ?_
      first
        | exact ⟨ret1 (hls.mpr (by omega)), rfl⟩
        | exact ⟨ret0 (fun z => by have := hls.mp z; omega), rfl⟩
set_option maxHeartbeats 4000000 in
set_option maxRecDepth 100000 in
theorem c_X9_findIn {g : Gm} {mo : Nat → Nat} {mst mac mmk mr mrd mrm mcm mtp msz mtk mbg men mls mvl mft mfp mfk mdp mto : Int} {al : Int → Int} {t u fr : Int} (hM : MTx al) (ht : 0 ≤ t ∧ t < al 0) (hu : 0 ≤ u ∧ u < al 0) (hf : 0 ≤ fr ∧ fr ≤ 2000) : Ct g 2 0 0 yX9_findIn cX9_findIn 5 (some .int) [.ref (mo 0), .int (iI t), .int (iI u), .int (iI fr)] [(wMo g mo mst mac mmk mr mrd mrm mcm mtp msz mtk mbg men mls mvl mft mfp mfk mdp mto), (wMAll g mo al)] (fun v_ w_ => ∃ r : Int, v_ = some (.int (iI r)) ∧ w_ = [(wMo g mo mst mac mmk mr mrd mrm mcm mtp msz mtk mbg men mls mvl mft mfp mfk mdp mto), (wMAll g mo al)] ∧ (FindIs (mF al u) (mN al u) (mF al t) (mN al t) fr r)) := by
  refine Ct.of (by decide) (Nat.le_of_ble_eq_true rfl) (lv := [(0, .ref (mo 0)), (1, .int (iI t)), (2, .int (iI u)), (3, .int (iI fr))]) rfl ?_
  intro E hE hR hnm
  have hc := hM.1
  have hl_t := hM.2 t ht.1 ht.2
  have hl_u := hM.2 u hu.1 hu.2
  have cut3 : ∀ (N : Nat) (k : Int), (fr ≤ k ∧ k ≤ 2000) → (∀ j, fr ≤ j → j < k → ¬ Mch (mF al u) (mN al u) (mF al t) j) → (2001 - k).toNat < N → G g E 5 0 0 [(wMo g mo mst mac mmk mr mrd mrm mcm mtp msz mtk mbg men mls mvl mft mfp mfk mdp mto), (wMAll g mo al)] 3 [(0, .ref (mo 0)), (1, .int (iI t)), (2, .int (iI u)), (3, .int (iI fr)), (4, .int (iI k))] [] := by
    intro N
    induction N with
    | zero => intro k _ _ hN; exact absurd hN (Nat.not_lt_zero _)
    | succ N ih3 =>
      intro k hk hv hN
      refine r_iload 5 hE 4 dX9_findIn_3 rfl rfl ?_
      refine r_aload_n 6 hE 0 dX9_findIn_5 rfl rfl rfl ?_
      refine r_iload_n 7 hE 2 dX9_findIn_6 rfl rfl rfl ?_
      refine r_callV 10 hE [0, 1] [] [(wMo g mo mst mac mmk mr mrd mrm mcm mtp msz mtk mbg men mls mvl mft mfp mfk mdp mto), (wMAll g mo al)] [] 0 9 ok9 [.int (iI k)] (c_X9_sizeOf (by omega)) dX9_findIn_7 rfl rfl wd_1273 wd_1275 ws_65 wd_12 wd_1276 ne_X9 np_X9_sizeOf (Nat.le_of_ble_eq_true rfl)  (by decide) (by decide) rfl (Nat.le_of_ble_eq_true rfl) rfl rfl rfl rfl (by decide) rfl (fun v1 f1 hp => ?_)
      obtain ⟨rfl, rfl⟩ := hp
      show G g E _ _ _ [(wMo g mo mst mac mmk mr mrd mrm mcm mtp msz mtk mbg men mls mvl mft mfp mfk mdp mto), (wMAll g mo al)] 10 [(0, .ref (mo 0)), (1, .int (iI t)), (2, .int (iI u)), (3, .int (iI fr)), (4, .int (iI k))] [.int (iI (mN al u)), .int (iI k)]
      refine r_iadd 11 hE (k + (mN al u)) dX9_findIn_10 rfl rfl ?_
      refine r_aload_n 12 hE 0 dX9_findIn_11 rfl rfl rfl ?_
      refine r_iload_n 13 hE 1 dX9_findIn_12 rfl rfl rfl ?_
      refine r_callV 16 hE [0, 1] [] [(wMo g mo mst mac mmk mr mrd mrm mcm mtp msz mtk mbg men mls mvl mft mfp mfk mdp mto), (wMAll g mo al)] [] 0 9 ok9 [.int (iI (k + (mN al u)))] (c_X9_sizeOf (by omega)) dX9_findIn_13 rfl rfl wd_1273 wd_1275 ws_65 wd_12 wd_1276 ne_X9 np_X9_sizeOf (Nat.le_of_ble_eq_true rfl)  (by decide) (by decide) rfl (Nat.le_of_ble_eq_true rfl) rfl rfl rfl rfl (by decide) rfl (fun v1 f1 hp => ?_)
      obtain ⟨rfl, rfl⟩ := hp
      show G g E _ _ _ [(wMo g mo mst mac mmk mr mrd mrm mcm mtp msz mtk mbg men mls mvl mft mfp mfk mdp mto), (wMAll g mo al)] 16 [(0, .ref (mo 0)), (1, .int (iI t)), (2, .int (iI u)), (3, .int (iI fr)), (4, .int (iI k))] [.int (iI (mN al t)), .int (iI (k + (mN al u)))]
      refine r_icmp_gt 19 45 hE dX9_findIn_16 rfl (by decide) (by omega) (fun c16 => ?_) (fun c16 => ?_)
      · skip
        refine r_iconst 46 hE dX9_findIn_45 rfl ?_
        refine r_ireturn hE hR [(wMo g mo mst mac mmk mr mrd mrm mcm mtp msz mtk mbg men mls mvl mft mfp mfk mdp mto), (wMAll g mo al)] dX9_findIn_46 (Nat.le_of_ble_eq_true rfl) (Nat.le_of_ble_eq_true rfl) rfl ?_
        exact ⟨-1, rfl, rfl, Or.inl ⟨rfl, fun j a b => hv j a (by omega)⟩⟩
      · skip
        refine r_aload_n 20 hE 0 dX9_findIn_19 rfl rfl rfl ?_
        refine r_iload_n 21 hE 1 dX9_findIn_20 rfl rfl rfl ?_
        refine r_iload 23 hE 4 dX9_findIn_21 rfl rfl ?_
        refine r_iload_n 24 hE 2 dX9_findIn_23 rfl rfl rfl ?_
        refine r_iconst 25 hE dX9_findIn_24 rfl ?_
        refine r_callV 28 hE [0, 1] [] [(wMo g mo mst mac mmk mr mrd mrm mcm mtp msz mtk mbg men mls mvl mft mfp mfk mdp mto), (wMAll g mo al)] [] 0 9 ok9 [] (c_X9_same (hM) (by omega) (by omega) (by omega) (by omega)) dX9_findIn_25 rfl rfl wd_1473 wd_1475 ws_94 wd_12 wd_1476 ne_X9 np_X9_same (Nat.le_of_ble_eq_true rfl)  (by decide) (by decide) rfl (Nat.le_of_ble_eq_true rfl) rfl rfl rfl rfl (by decide) rfl (fun v1 f1 hp => ?_)
        obtain ⟨r_25, rfl, rfl, h25_0⟩ := hp
        show G g E _ _ _ [(wMo g mo mst mac mmk mr mrd mrm mcm mtp msz mtk mbg men mls mvl mft mfp mfk mdp mto), (wMAll g mo al)] 28 [(0, .ref (mo 0)), (1, .int (iI t)), (2, .int (iI u)), (3, .int (iI fr)), (4, .int (iI k))] [.int (iI r_25)]
        have hmc := Mch_lcp ⟨by omega, by omega⟩ h25_0
        have hlr := h25_0.1
        have hlr2 := h25_0.2.1
        refine r_aload_n 29 hE 0 dX9_findIn_28 rfl rfl rfl ?_
        refine r_iload_n 30 hE 2 dX9_findIn_29 rfl rfl rfl ?_
        refine r_callV 33 hE [0, 1] [] [(wMo g mo mst mac mmk mr mrd mrm mcm mtp msz mtk mbg men mls mvl mft mfp mfk mdp mto), (wMAll g mo al)] [] 0 9 ok9 [.int (iI r_25)] (c_X9_sizeOf (by omega)) dX9_findIn_30 rfl rfl wd_1273 wd_1275 ws_65 wd_12 wd_1276 ne_X9 np_X9_sizeOf (Nat.le_of_ble_eq_true rfl)  (by decide) (by decide) rfl (Nat.le_of_ble_eq_true rfl) rfl rfl rfl rfl (by decide) rfl (fun v1 f1 hp => ?_)
        obtain ⟨rfl, rfl⟩ := hp
        show G g E _ _ _ [(wMo g mo mst mac mmk mr mrd mrm mcm mtp msz mtk mbg men mls mvl mft mfp mfk mdp mto), (wMAll g mo al)] 33 [(0, .ref (mo 0)), (1, .int (iI t)), (2, .int (iI u)), (3, .int (iI fr)), (4, .int (iI k))] [.int (iI (mN al u)), .int (iI r_25)]
        refine r_icmp_ne 36 39 hE dX9_findIn_33 rfl (by decide) (by omega) (fun c33 => ?_) (fun c33 => ?_)
        · skip
          have hv2 : ∀ j, fr ≤ j → j < k + 1 → ¬ Mch (mF al u) (mN al u) (mF al t) j := fun j a b => if e : j = k then e ▸ (fun z => c33 (hmc.mp z)) else hv j a (by omega)
          refine r_iinc 42 hE 4 (k + 1) [(4, .int (iI (k + 1))), (0, .ref (mo 0)), (1, .int (iI t)), (2, .int (iI u)), (3, .int (iI fr))] dX9_findIn_39 rfl rfl rfl (by decide) rfl ?_
          refine r_goto 3 hE dX9_findIn_42 (by decide) ?_
          refine G.to (fs' := [(wMo g mo mst mac mmk mr mrd mrm mcm mtp msz mtk mbg men mls mvl mft mfp mfk mdp mto), (wMAll g mo al)]) (lv' := [(0, .ref (mo 0)), (1, .int (iI t)), (2, .int (iI u)), (3, .int (iI fr)), (4, .int (iI (k + 1)))]) [0, 1] [1, 2, 3, 4, 0] rfl rfl rfl ?_
          exact ih3 (k + 1) (by omega) (by first | exact (fun j a b => absurd b (by omega)) | exact hv2) (by omega)
        · skip
          refine r_iload 38 hE 4 dX9_findIn_36 rfl rfl ?_
          refine r_ireturn hE hR [(wMo g mo mst mac mmk mr mrd mrm mcm mtp msz mtk mbg men mls mvl mft mfp mfk mdp mto), (wMAll g mo al)] dX9_findIn_38 (Nat.le_of_ble_eq_true rfl) (Nat.le_of_ble_eq_true rfl) rfl ?_
          exact ⟨k, rfl, rfl, Or.inr ⟨hk.1, by omega, hmc.mpr c33, hv⟩⟩
  refine r_iload_n 1 hE 3 dX9_findIn_0 rfl rfl rfl ?_
  refine r_istore 3 hE [(4, .int (iI fr)), (0, .ref (mo 0)), (1, .int (iI t)), (2, .int (iI u)), (3, .int (iI fr))] dX9_findIn_1 rfl (by decide) rfl ?_
  refine G.to (fs' := [(wMo g mo mst mac mmk mr mrd mrm mcm mtp msz mtk mbg men mls mvl mft mfp mfk mdp mto), (wMAll g mo al)]) (lv' := [(0, .ref (mo 0)), (1, .int (iI t)), (2, .int (iI u)), (3, .int (iI fr)), (4, .int (iI fr))]) [0, 1] [1, 2, 3, 4, 0] rfl rfl rfl ?_
  exact cut3 _ fr (by omega) (by first | exact (fun j a b => absurd b (by omega)) | exact hv2) (Nat.lt_succ_self _)
set_option maxHeartbeats 4000000 in
set_option maxRecDepth 100000 in
theorem c_X9_letters {g : Gm} {mo : Nat → Nat} {mst mac mmk mr mrd mrm mcm mtp msz mtk mbg men mls mvl mft mfp mfk mdp mto : Int} {al : Int → Int} (hM : MTx al) : Ct g 1 0 0 yX9_letters cX9_letters 3 (some .int) [.ref (mo 0)] [(wMo g mo mst mac mmk mr mrd mrm mcm mtp msz mtk mbg men mls mvl mft mfp mfk mdp mto), (wMAll g mo al)] (fun v_ w_ => v_ = some (.int (iI (sumF (mN al) (al 0)))) ∧ w_ = [(wMo g mo mst mac mmk mr mrd mrm mcm mtp msz mtk mbg men mls mvl mft mfp mfk mdp mto), (wMAll g mo al)]) := by
  refine Ct.of (by decide) (Nat.le_of_ble_eq_true rfl) (lv := [(0, .ref (mo 0))]) rfl ?_
  intro E hE hR hnm
  have hc := hM.1
  have cut4 : ∀ (N : Nat) (i : Int), (0 ≤ i ∧ i ≤ al 0) → (al 0 - i).toNat < N → G g E 3 0 0 [(wMo g mo mst mac mmk mr mrd mrm mcm mtp msz mtk mbg men mls mvl mft mfp mfk mdp mto), (wMAll g mo al)] 4 [(0, .ref (mo 0)), (1, .int (iI (sumF (mN al) i))), (2, .int (iI i))] [] := by
    intro N
    induction N with
    | zero => intro i _ hN; exact absurd hN (Nat.not_lt_zero _)
    | succ N ih4 =>
      intro i hi hN
      refine r_iload_n 5 hE 2 dX9_letters_4 rfl rfl rfl ?_
      refine r_aload_n 6 hE 0 dX9_letters_5 rfl rfl rfl ?_
      refine r_callV 9 hE [0, 1] [] [(wMo g mo mst mac mmk mr mrd mrm mcm mtp msz mtk mbg men mls mvl mft mfp mfk mdp mto), (wMAll g mo al)] [] 0 9 ok9 [.int (iI i)] (c_X9_many) dX9_letters_6 rfl rfl wd_1217 wd_1219 ws_52 wd_12 wd_1220 ne_X9 np_X9_many (Nat.le_of_ble_eq_true rfl)  (by decide) (by decide) rfl (Nat.le_of_ble_eq_true rfl) rfl rfl rfl rfl (by decide) rfl (fun v1 f1 hp => ?_)
      obtain ⟨rfl, rfl⟩ := hp
      show G g E _ _ _ [(wMo g mo mst mac mmk mr mrd mrm mcm mtp msz mtk mbg men mls mvl mft mfp mfk mdp mto), (wMAll g mo al)] 9 [(0, .ref (mo 0)), (1, .int (iI (sumF (mN al) i))), (2, .int (iI i))] [.int (iI (al 0)), .int (iI i)]
      refine r_icmp_ge 12 26 hE dX9_letters_9 rfl (by decide) (by omega) (fun c9 => ?_) (fun c9 => ?_)
      · skip
        refine r_iload_n 27 hE 1 dX9_letters_26 rfl rfl rfl ?_
        refine r_ireturn hE hR [(wMo g mo mst mac mmk mr mrd mrm mcm mtp msz mtk mbg men mls mvl mft mfp mfk mdp mto), (wMAll g mo al)] dX9_letters_27 (Nat.le_of_ble_eq_true rfl) (Nat.le_of_ble_eq_true rfl) rfl ?_
        exact ⟨retI (by rw [show i = al 0 by omega]), rfl⟩
      · skip
        refine r_iload_n 13 hE 1 dX9_letters_12 rfl rfl rfl ?_
        refine r_aload_n 14 hE 0 dX9_letters_13 rfl rfl rfl ?_
        refine r_iload_n 15 hE 2 dX9_letters_14 rfl rfl rfl ?_
        refine r_callV 18 hE [0, 1] [] [(wMo g mo mst mac mmk mr mrd mrm mcm mtp msz mtk mbg men mls mvl mft mfp mfk mdp mto), (wMAll g mo al)] [] 0 9 ok9 [.int (iI (sumF (mN al) i))] (c_X9_sizeOf (by omega)) dX9_letters_15 rfl rfl wd_1273 wd_1275 ws_65 wd_12 wd_1276 ne_X9 np_X9_sizeOf (Nat.le_of_ble_eq_true rfl)  (by decide) (by decide) rfl (Nat.le_of_ble_eq_true rfl) rfl rfl rfl rfl (by decide) rfl (fun v1 f1 hp => ?_)
        obtain ⟨rfl, rfl⟩ := hp
        show G g E _ _ _ [(wMo g mo mst mac mmk mr mrd mrm mcm mtp msz mtk mbg men mls mvl mft mfp mfk mdp mto), (wMAll g mo al)] 18 [(0, .ref (mo 0)), (1, .int (iI (sumF (mN al) i))), (2, .int (iI i))] [.int (iI (mN al i)), .int (iI (sumF (mN al) i))]
        refine r_iadd 19 hE ((sumF (mN al) i) + (mN al i)) dX9_letters_18 rfl rfl ?_
        refine r_istore_n 20 hE [(1, .int (iI ((sumF (mN al) i) + (mN al i)))), (0, .ref (mo 0)), (2, .int (iI i))] dX9_letters_19 rfl rfl (by decide) rfl ?_
        refine r_iinc 23 hE 2 (i + 1) [(2, .int (iI (i + 1))), (1, .int (iI ((sumF (mN al) i) + (mN al i)))), (0, .ref (mo 0))] dX9_letters_20 rfl rfl rfl (by decide) rfl ?_
        refine r_goto 4 hE dX9_letters_23 (by decide) ?_
        refine G.to (fs' := [(wMo g mo mst mac mmk mr mrd mrm mcm mtp msz mtk mbg men mls mvl mft mfp mfk mdp mto), (wMAll g mo al)]) (lv' := [(0, .ref (mo 0)), (1, .int (iI ((sumF (mN al) i) + (mN al i)))), (2, .int (iI (i + 1)))]) [0, 1] [2, 1, 0] rfl rfl rfl ?_
        refine G.cast (fs' := [(wMo g mo mst mac mmk mr mrd mrm mcm mtp msz mtk mbg men mls mvl mft mfp mfk mdp mto), (wMAll g mo al)]) (lv' := [(0, .ref (mo 0)), (1, .int (iI (sumF (mN al) (i + 1)))), (2, .int (iI (i + 1)))]) rfl (congrArg (fun z9 : Int => ([(0, .ref (mo 0)), (1, .int (iI z9)), (2, .int (iI (i + 1)))] : List (Nat × Value))) (show ((sumF (mN al) i) + (mN al i) : Int) = sumF (mN al) (i + 1) from by first | exact (sumF_succ (mN al) hi.1).symm | rfl)) ?_
        exact ih4 (i + 1) (by omega) (by omega)
  refine r_iconst 1 hE dX9_letters_0 rfl ?_
  refine r_istore_n 2 hE [(1, .int (iI 0)), (0, .ref (mo 0))] dX9_letters_1 rfl rfl (by decide) rfl ?_
  refine r_iconst 3 hE dX9_letters_2 rfl ?_
  refine r_istore_n 4 hE [(2, .int (iI 0)), (1, .int (iI 0)), (0, .ref (mo 0))] dX9_letters_3 rfl rfl (by decide) rfl ?_
  refine G.to (fs' := [(wMo g mo mst mac mmk mr mrd mrm mcm mtp msz mtk mbg men mls mvl mft mfp mfk mdp mto), (wMAll g mo al)]) (lv' := [(0, .ref (mo 0)), (1, .int (iI 0)), (2, .int (iI 0))]) [0, 1] [2, 1, 0] rfl rfl rfl ?_
  refine G.cast (fs' := [(wMo g mo mst mac mmk mr mrd mrm mcm mtp msz mtk mbg men mls mvl mft mfp mfk mdp mto), (wMAll g mo al)]) (lv' := [(0, .ref (mo 0)), (1, .int (iI (sumF (mN al) 0))), (2, .int (iI 0))]) rfl (congrArg (fun z9 : Int => ([(0, .ref (mo 0)), (1, .int (iI z9)), (2, .int (iI 0))] : List (Nat × Value))) (show (0 : Int) = sumF (mN al) 0 from by first | exact (sumF_succ (mN al) hi.1).symm | rfl)) ?_
  exact cut4 _ 0 (by omega) (Nat.lt_succ_self _)
set_option maxHeartbeats 4000000 in
set_option maxRecDepth 100000 in
theorem c_X9_period {g : Gm} {mo : Nat → Nat} {mst mac mmk mr mrd mrm mcm mtp msz mtk mbg men mls mvl mft mfp mfk mdp mto : Int} {al : Int → Int} {t : Int} (hM : MTx al) (ht : 0 ≤ t ∧ t < al 0) : Ct g 1 0 0 yX9_period cX9_period 5 (some .int) [.ref (mo 0), .int (iI t)] [(wMo g mo mst mac mmk mr mrd mrm mcm mtp msz mtk mbg men mls mvl mft mfp mfk mdp mto), (wMAll g mo al)] (fun v_ w_ => ∃ p9 : Int, v_ = some (.int (iI p9)) ∧ w_ = [(wMo g mo mst mac mmk mr mrd mrm mcm mtp msz mtk mbg men mls mvl mft mfp mfk mdp mto), (wMAll g mo al)] ∧ (PerIs (mF al t) (mN al t) p9)) := by
  refine Ct.of (by decide) (Nat.le_of_ble_eq_true rfl) (lv := [(0, .ref (mo 0)), (1, .int (iI t))]) rfl ?_
  intro E hE hR hnm
  have hc := hM.1
  have hl_t := hM.2 t ht.1 ht.2
  have cut4 : ∀ (N : Nat) (p : Int) (b : Int), (1 ≤ p ∧ p ≤ mN al t) → ((b = 0 ∧ ∀ j, 1 ≤ j → j < p → ¬ ∀ k, 0 ≤ k → k + j < mN al t → mF al t k = mF al t (k + j)) ∨ (b = 1 ∧ PerIs (mF al t) (mN al t) p)) → (2 * (602 - p) - b).toNat < N → G g E 5 0 0 [(wMo g mo mst mac mmk mr mrd mrm mcm mtp msz mtk mbg men mls mvl mft mfp mfk mdp mto), (wMAll g mo al)] 4 [(0, .ref (mo 0)), (1, .int (iI t)), (2, .int (iI p)), (3, .int (iI b))] [] := by
    intro N
    induction N with
    | zero => intro p b _ _ hN; exact absurd hN (Nat.not_lt_zero _)
    | succ N ih4 =>
      intro p b hp hb hN
      have cut13 : ∀ (N : Nat) (k : Int) (b2 : Int), (0 ≤ k ∧ k ≤ mN al t) → (b = 0) → (PeU (mF al t) (mN al t) p k b2) → (mN al t - k).toNat < N → G g E 5 0 0 [(wMo g mo mst mac mmk mr mrd mrm mcm mtp msz mtk mbg men mls mvl mft mfp mfk mdp mto), (wMAll g mo al)] 13 [(0, .ref (mo 0)), (1, .int (iI t)), (2, .int (iI p)), (3, .int (iI b2)), (4, .int (iI k))] [] := by
        intro N
        induction N with
        | zero => intro k b2 _ _ _ hN; exact absurd hN (Nat.not_lt_zero _)
        | succ N ih13 =>
          intro k b2 hk hb0 hu hN
          have hb2r : 0 ≤ b2 ∧ b2 ≤ 1 := by rcases hu with z | z <;> omega
          refine r_iload 15 hE 4 dX9_period_13 rfl rfl ?_
          refine r_iload_n 16 hE 2 dX9_period_15 rfl rfl rfl ?_
          refine r_iadd 17 hE (k + p) dX9_period_16 rfl rfl ?_
          refine r_aload_n 18 hE 0 dX9_period_17 rfl rfl rfl ?_
          refine r_iload_n 19 hE 1 dX9_period_18 rfl rfl rfl ?_
          refine r_callV 22 hE [0, 1] [] [(wMo g mo mst mac mmk mr mrd mrm mcm mtp msz mtk mbg men mls mvl mft mfp mfk mdp mto), (wMAll g mo al)] [] 0 9 ok9 [.int (iI (k + p))] (c_X9_sizeOf (by omega)) dX9_period_19 rfl rfl wd_1273 wd_1275 ws_65 wd_12 wd_1276 ne_X9 np_X9_sizeOf (Nat.le_of_ble_eq_true rfl)  (by decide) (by decide) rfl (Nat.le_of_ble_eq_true rfl) rfl rfl rfl rfl (by decide) rfl (fun v1 f1 hp => ?_)
          obtain ⟨rfl, rfl⟩ := hp
          show G g E _ _ _ [(wMo g mo mst mac mmk mr mrd mrm mcm mtp msz mtk mbg men mls mvl mft mfp mfk mdp mto), (wMAll g mo al)] 22 [(0, .ref (mo 0)), (1, .int (iI t)), (2, .int (iI p)), (3, .int (iI b2)), (4, .int (iI k))] [.int (iI (mN al t)), .int (iI (k + p))]
          refine r_icmp_ge 25 60 hE dX9_period_22 rfl (by decide) (by omega) (fun c22 => ?_) (fun c22 => ?_)
          · skip
            refine r_iload_n 61 hE 2 dX9_period_60 rfl rfl rfl ?_
            refine r_iload_n 62 hE 3 dX9_period_61 rfl rfl rfl ?_
            refine r_if_eq 65 69 hE dX9_period_62 rfl (by decide) (by omega) (fun c62 => ?_) (fun c62 => ?_)
            · skip
              have hne : ∃ j, 0 ≤ j ∧ j + p < mN al t ∧ mF al t j ≠ mF al t (j + p) := by rcases hu with z | z; omega; exact z.2
              have hp2 : 1 ≤ p + 1 ∧ p + 1 ≤ mN al t := by obtain ⟨j, z1, z2, -⟩ := hne; omega
              have hb2 : (b2 = 0 ∧ ∀ j, 1 ≤ j → j < p + 1 → ¬ ∀ k, 0 ≤ k → k + j < mN al t → mF al t k = mF al t (k + j)) ∨ (b2 = 1 ∧ PerIs (mF al t) (mN al t) (p + 1)) := Or.inl ⟨c62, fun j x y => by
                by_cases e : j = p
                · subst e; obtain ⟨i, z1, z2, z3⟩ := hne; exact fun q => z3 (q i z1 z2)
                · rcases hb with z | z
                  · exact z.2 j x (by omega)
                  · omega⟩
              refine r_iconst 70 hE dX9_period_69 rfl ?_
              refine r_iadd 71 hE (p + 1) dX9_period_70 rfl rfl ?_
              refine r_istore_n 72 hE [(2, .int (iI (p + 1))), (0, .ref (mo 0)), (1, .int (iI t)), (3, .int (iI b2)), (4, .int (iI k))] dX9_period_71 rfl rfl (by decide) rfl ?_
              refine r_goto 4 hE dX9_period_72 (by decide) ?_
              refine G.to (fs' := [(wMo g mo mst mac mmk mr mrd mrm mcm mtp msz mtk mbg men mls mvl mft mfp mfk mdp mto), (wMAll g mo al)]) (lv' := [(0, .ref (mo 0)), (1, .int (iI t)), (2, .int (iI (p + 1))), (3, .int (iI b2))]) [0, 1] [1, 2, 0, 3] rfl rfl rfl ?_
              exact ih4 (p + 1) b2 (by first | exact hp2 | omega) (by first | exact hb2 | exact hb3 | exact Or.inl ⟨rfl, fun j a b => absurd b (by omega)⟩) (by omega)
            · skip
              have hb2 : (b2 = 0 ∧ ∀ j, 1 ≤ j → j < p → ¬ ∀ k, 0 ≤ k → k + j < mN al t → mF al t k = mF al t (k + j)) ∨ (b2 = 1 ∧ PerIs (mF al t) (mN al t) p) := Or.inr ⟨by omega, hp.1, fun j x y => by rcases hu with z | z; exact z.2 j x (by omega); omega, by rcases hb with z | z; exact z.2; omega⟩
              have hb3 : (b2 = 0 ∧ ∀ j, 1 ≤ j → j < p + 0 → ¬ ∀ k, 0 ≤ k → k + j < mN al t → mF al t k = mF al t (k + j)) ∨ (b2 = 1 ∧ PerIs (mF al t) (mN al t) (p + 0)) := by rw [Int.add_zero]; exact hb2
              refine r_iconst 66 hE dX9_period_65 rfl ?_
              refine r_goto 70 hE dX9_period_66 (by decide) ?_
              refine r_iadd 71 hE (p + 0) dX9_period_70 rfl rfl ?_
              refine r_istore_n 72 hE [(2, .int (iI (p + 0))), (0, .ref (mo 0)), (1, .int (iI t)), (3, .int (iI b2)), (4, .int (iI k))] dX9_period_71 rfl rfl (by decide) rfl ?_
              refine r_goto 4 hE dX9_period_72 (by decide) ?_
              refine G.to (fs' := [(wMo g mo mst mac mmk mr mrd mrm mcm mtp msz mtk mbg men mls mvl mft mfp mfk mdp mto), (wMAll g mo al)]) (lv' := [(0, .ref (mo 0)), (1, .int (iI t)), (2, .int (iI (p + 0))), (3, .int (iI b2))]) [0, 1] [1, 2, 0, 3] rfl rfl rfl ?_
              exact ih4 (p + 0) b2 (by first | exact hp2 | omega) (by first | exact hb2 | exact hb3 | exact Or.inl ⟨rfl, fun j a b => absurd b (by omega)⟩) (by omega)
          · skip
            refine r_iload_n 26 hE 3 dX9_period_25 rfl rfl rfl ?_
            refine r_if_eq 29 52 hE dX9_period_26 rfl (by decide) (by omega) (fun c26 => ?_) (fun c26 => ?_)
            · skip
              have hu2 : PeU (mF al t) (mN al t) p (k + 1) 0 := Or.inr ⟨rfl, by rcases hu with z | z; omega; exact z.2⟩
              refine r_iconst 53 hE dX9_period_52 rfl ?_
              refine r_istore_n 54 hE [(3, .int (iI 0)), (0, .ref (mo 0)), (1, .int (iI t)), (2, .int (iI p)), (4, .int (iI k))] dX9_period_53 rfl rfl (by decide) rfl ?_
              refine r_iinc 57 hE 4 (k + 1) [(4, .int (iI (k + 1))), (3, .int (iI 0)), (0, .ref (mo 0)), (1, .int (iI t)), (2, .int (iI p))] dX9_period_54 rfl rfl rfl (by decide) rfl ?_
              refine r_goto 13 hE dX9_period_57 (by decide) ?_
              refine G.to (fs' := [(wMo g mo mst mac mmk mr mrd mrm mcm mtp msz mtk mbg men mls mvl mft mfp mfk mdp mto), (wMAll g mo al)]) (lv' := [(0, .ref (mo 0)), (1, .int (iI t)), (2, .int (iI p)), (3, .int (iI 0)), (4, .int (iI (k + 1)))]) [0, 1] [2, 3, 4, 1, 0] rfl rfl rfl ?_
              exact ih13 (k + 1) 0 (by omega) (by omega) (by first | exact hu2 | exact Or.inl ⟨rfl, fun j x y => absurd y (by omega)⟩) (by omega)
            · skip
              refine r_aload_n 30 hE 0 dX9_period_29 rfl rfl rfl ?_
              refine r_iload_n 31 hE 1 dX9_period_30 rfl rfl rfl ?_
              refine r_iload 33 hE 4 dX9_period_31 rfl rfl ?_
              refine r_callV 36 hE [0, 1] [] [(wMo g mo mst mac mmk mr mrd mrm mcm mtp msz mtk mbg men mls mvl mft mfp mfk mdp mto), (wMAll g mo al)] [] 0 9 ok9 [] (c_X9_at (by omega)) dX9_period_33 rfl rfl wd_1277 wd_1279 ws_66 wd_12 wd_1280 ne_X9 np_X9_at (Nat.le_of_ble_eq_true rfl)  (by decide) (by decide) rfl (Nat.le_of_ble_eq_true rfl) rfl rfl rfl rfl (by decide) rfl (fun v1 f1 hp => ?_)
              obtain ⟨rfl, rfl⟩ := hp
              show G g E _ _ _ [(wMo g mo mst mac mmk mr mrd mrm mcm mtp msz mtk mbg men mls mvl mft mfp mfk mdp mto), (wMAll g mo al)] 36 [(0, .ref (mo 0)), (1, .int (iI t)), (2, .int (iI p)), (3, .int (iI b2)), (4, .int (iI k))] [.int (iI (mF al t k))]
              refine r_aload_n 37 hE 0 dX9_period_36 rfl rfl rfl ?_
              refine r_iload_n 38 hE 1 dX9_period_37 rfl rfl rfl ?_
              refine r_iload 40 hE 4 dX9_period_38 rfl rfl ?_
              refine r_iload_n 41 hE 2 dX9_period_40 rfl rfl rfl ?_
              refine r_iadd 42 hE (k + p) dX9_period_41 rfl rfl ?_
              refine r_callV 45 hE [0, 1] [] [(wMo g mo mst mac mmk mr mrd mrm mcm mtp msz mtk mbg men mls mvl mft mfp mfk mdp mto), (wMAll g mo al)] [] 0 9 ok9 [.int (iI (mF al t k))] (c_X9_at (by omega)) dX9_period_42 rfl rfl wd_1277 wd_1279 ws_66 wd_12 wd_1280 ne_X9 np_X9_at (Nat.le_of_ble_eq_true rfl)  (by decide) (by decide) rfl (Nat.le_of_ble_eq_true rfl) rfl rfl rfl rfl (by decide) rfl (fun v1 f1 hp => ?_)
              obtain ⟨rfl, rfl⟩ := hp
              show G g E _ _ _ [(wMo g mo mst mac mmk mr mrd mrm mcm mtp msz mtk mbg men mls mvl mft mfp mfk mdp mto), (wMAll g mo al)] 45 [(0, .ref (mo 0)), (1, .int (iI t)), (2, .int (iI p)), (3, .int (iI b2)), (4, .int (iI k))] [.int (iI (mF al t (k + p))), .int (iI (mF al t k))]
              refine r_icmp_ne 48 52 hE dX9_period_45 rfl (by decide) (by have h1 := hl_t.2 k (by omega) (by omega); have h2 := hl_t.2 (k + p) (by omega) (by omega); omega) (fun c45 => ?_) (fun c45 => ?_)
              · skip
                have hu2 : PeU (mF al t) (mN al t) p (k + 1) 0 := Or.inr ⟨rfl, k, hk.1, by omega, c45⟩
                refine r_iconst 53 hE dX9_period_52 rfl ?_
                refine r_istore_n 54 hE [(3, .int (iI 0)), (0, .ref (mo 0)), (1, .int (iI t)), (2, .int (iI p)), (4, .int (iI k))] dX9_period_53 rfl rfl (by decide) rfl ?_
                refine r_iinc 57 hE 4 (k + 1) [(4, .int (iI (k + 1))), (3, .int (iI 0)), (0, .ref (mo 0)), (1, .int (iI t)), (2, .int (iI p))] dX9_period_54 rfl rfl rfl (by decide) rfl ?_
                refine r_goto 13 hE dX9_period_57 (by decide) ?_
                refine G.to (fs' := [(wMo g mo mst mac mmk mr mrd mrm mcm mtp msz mtk mbg men mls mvl mft mfp mfk mdp mto), (wMAll g mo al)]) (lv' := [(0, .ref (mo 0)), (1, .int (iI t)), (2, .int (iI p)), (3, .int (iI 0)), (4, .int (iI (k + 1)))]) [0, 1] [2, 3, 4, 1, 0] rfl rfl rfl ?_
                exact ih13 (k + 1) 0 (by omega) (by omega) (by first | exact hu2 | exact Or.inl ⟨rfl, fun j x y => absurd y (by omega)⟩) (by omega)
              · skip
                have hu2 : PeU (mF al t) (mN al t) p (k + 1) 1 := Or.inl ⟨rfl, fun j x y => if e : j = k then e ▸ c45 else by rcases hu with z | z; exact z.2 j x (by omega); omega⟩
                refine r_iconst 49 hE dX9_period_48 rfl ?_
                refine r_goto 53 hE dX9_period_49 (by decide) ?_
                refine r_istore_n 54 hE [(3, .int (iI 1)), (0, .ref (mo 0)), (1, .int (iI t)), (2, .int (iI p)), (4, .int (iI k))] dX9_period_53 rfl rfl (by decide) rfl ?_
                refine r_iinc 57 hE 4 (k + 1) [(4, .int (iI (k + 1))), (3, .int (iI 1)), (0, .ref (mo 0)), (1, .int (iI t)), (2, .int (iI p))] dX9_period_54 rfl rfl rfl (by decide) rfl ?_
                refine r_goto 13 hE dX9_period_57 (by decide) ?_
                refine G.to (fs' := [(wMo g mo mst mac mmk mr mrd mrm mcm mtp msz mtk mbg men mls mvl mft mfp mfk mdp mto), (wMAll g mo al)]) (lv' := [(0, .ref (mo 0)), (1, .int (iI t)), (2, .int (iI p)), (3, .int (iI 1)), (4, .int (iI (k + 1)))]) [0, 1] [2, 3, 4, 1, 0] rfl rfl rfl ?_
                exact ih13 (k + 1) 1 (by omega) (by omega) (by first | exact hu2 | exact Or.inl ⟨rfl, fun j x y => absurd y (by omega)⟩) (by omega)
      refine r_iload_n 5 hE 3 dX9_period_4 rfl rfl rfl ?_
      refine r_if_ne 8 75 hE dX9_period_5 rfl (by decide) (by rcases hb with z | z <;> omega) (fun c5 => ?_) (fun c5 => ?_)
      · skip
        refine r_iload_n 76 hE 2 dX9_period_75 rfl rfl rfl ?_
        refine r_ireturn hE hR [(wMo g mo mst mac mmk mr mrd mrm mcm mtp msz mtk mbg men mls mvl mft mfp mfk mdp mto), (wMAll g mo al)] dX9_period_76 (Nat.le_of_ble_eq_true rfl) (Nat.le_of_ble_eq_true rfl) rfl ?_
        exact ⟨p, rfl, rfl, by rcases hb with z | z; omega; exact z.2⟩
      · skip
        refine r_iconst 9 hE dX9_period_8 rfl ?_
        refine r_istore_n 10 hE [(3, .int (iI 1)), (0, .ref (mo 0)), (1, .int (iI t)), (2, .int (iI p))] dX9_period_9 rfl rfl (by decide) rfl ?_
        refine r_iconst 11 hE dX9_period_10 rfl ?_
        refine r_istore 13 hE [(4, .int (iI 0)), (3, .int (iI 1)), (0, .ref (mo 0)), (1, .int (iI t)), (2, .int (iI p))] dX9_period_11 rfl (by decide) rfl ?_
        refine G.to (fs' := [(wMo g mo mst mac mmk mr mrd mrm mcm mtp msz mtk mbg men mls mvl mft mfp mfk mdp mto), (wMAll g mo al)]) (lv' := [(0, .ref (mo 0)), (1, .int (iI t)), (2, .int (iI p)), (3, .int (iI 1)), (4, .int (iI 0))]) [0, 1] [2, 3, 4, 1, 0] rfl rfl rfl ?_
        exact cut13 _ 0 1 (by omega) (by omega) (by first | exact hu2 | exact Or.inl ⟨rfl, fun j x y => absurd y (by omega)⟩) (Nat.lt_succ_self _)
  refine r_iconst 1 hE dX9_period_0 rfl ?_
  refine r_istore_n 2 hE [(2, .int (iI 1)), (0, .ref (mo 0)), (1, .int (iI t))] dX9_period_1 rfl rfl (by decide) rfl ?_
  refine r_iconst 3 hE dX9_period_2 rfl ?_
  refine r_istore_n 4 hE [(3, .int (iI 0)), (2, .int (iI 1)), (0, .ref (mo 0)), (1, .int (iI t))] dX9_period_3 rfl rfl (by decide) rfl ?_
  refine G.to (fs' := [(wMo g mo mst mac mmk mr mrd mrm mcm mtp msz mtk mbg men mls mvl mft mfp mfk mdp mto), (wMAll g mo al)]) (lv' := [(0, .ref (mo 0)), (1, .int (iI t)), (2, .int (iI 1)), (3, .int (iI 0))]) [0, 1] [2, 3, 1, 0] rfl rfl rfl ?_
  exact cut4 _ 1 0 (by first | exact hp2 | omega) (by first | exact hb2 | exact hb3 | exact Or.inl ⟨rfl, fun j a b => absurd b (by omega)⟩) (Nat.lt_succ_self _)
set_option maxHeartbeats 4000000 in
set_option maxRecDepth 100000 in
theorem c_X9_unlike {g : Gm} {mo : Nat → Nat} {mst mac mmk mr mrd mrm mcm mtp msz mtk mbg men mls mvl mft mfp mfk mdp mto : Int} {al : Int → Int} {t : Int} (hM : MTx al) (ht : 0 ≤ t ∧ t < al 0) : Ct g 2 0 0 yX9_unlike cX9_unlike 4 (some .int) [.ref (mo 0), .int (iI t)] [(wMo g mo mst mac mmk mr mrd mrm mcm mtp msz mtk mbg men mls mvl mft mfp mfk mdp mto), (wMAll g mo al)] (fun v_ w_ => v_ = some (.int (iI (unlF (mF al t) (mN al t)))) ∧ w_ = [(wMo g mo mst mac mmk mr mrd mrm mcm mtp msz mtk mbg men mls mvl mft mfp mfk mdp mto), (wMAll g mo al)]) := by
  refine Ct.of (by decide) (Nat.le_of_ble_eq_true rfl) (lv := [(0, .ref (mo 0)), (1, .int (iI t))]) rfl ?_
  intro E hE hR hnm
  have hc := hM.1
  have hl_t := hM.2 t ht.1 ht.2
  have cut4 : ∀ (N : Nat) (c : Int), (0 ≤ c ∧ c ≤ 26) → (26 - c).toNat < N → G g E 4 0 0 [(wMo g mo mst mac mmk mr mrd mrm mcm mtp msz mtk mbg men mls mvl mft mfp mfk mdp mto), (wMAll g mo al)] 4 [(0, .ref (mo 0)), (1, .int (iI t)), (2, .int (iI (unlN (mF al t) (mN al t) c))), (3, .int (iI c))] [] := by
    intro N
    induction N with
    | zero => intro c _ hN; exact absurd hN (Nat.not_lt_zero _)
    | succ N ih4 =>
      intro c hcc hN
      refine r_iload_n 5 hE 3 dX9_unlike_4 rfl rfl rfl ?_
      refine r_bipush 7 hE dX9_unlike_5 rfl (by decide) ?_
      refine r_icmp_ge 10 38 hE dX9_unlike_7 rfl (by decide) (by omega) (fun c7 => ?_) (fun c7 => ?_)
      · skip
        refine r_iload_n 39 hE 2 dX9_unlike_38 rfl rfl rfl ?_
        refine r_ireturn hE hR [(wMo g mo mst mac mmk mr mrd mrm mcm mtp msz mtk mbg men mls mvl mft mfp mfk mdp mto), (wMAll g mo al)] dX9_unlike_39 (Nat.le_of_ble_eq_true rfl) (Nat.le_of_ble_eq_true rfl) rfl ?_
        exact ⟨retI (by rw [show c = 26 by omega]; rfl), rfl⟩
      · skip
        refine r_iload_n 11 hE 2 dX9_unlike_10 rfl rfl rfl ?_
        refine r_aload_n 12 hE 0 dX9_unlike_11 rfl rfl rfl ?_
        refine r_iload_n 13 hE 1 dX9_unlike_12 rfl rfl rfl ?_
        refine r_iload_n 14 hE 3 dX9_unlike_13 rfl rfl rfl ?_
        refine r_aload_n 15 hE 0 dX9_unlike_14 rfl rfl rfl ?_
        refine r_iload_n 16 hE 1 dX9_unlike_15 rfl rfl rfl ?_
        refine r_callV 19 hE [0, 1] [] [(wMo g mo mst mac mmk mr mrd mrm mcm mtp msz mtk mbg men mls mvl mft mfp mfk mdp mto), (wMAll g mo al)] [] 0 9 ok9 [.int (iI c), .int (iI t), .ref (mo 0), .int (iI (unlN (mF al t) (mN al t) c))] (c_X9_sizeOf (by omega)) dX9_unlike_16 rfl rfl wd_1273 wd_1275 ws_65 wd_12 wd_1276 ne_X9 np_X9_sizeOf (Nat.le_of_ble_eq_true rfl)  (by decide) (by decide) rfl (Nat.le_of_ble_eq_true rfl) rfl rfl rfl rfl (by decide) rfl (fun v1 f1 hp => ?_)
        obtain ⟨rfl, rfl⟩ := hp
        show G g E _ _ _ [(wMo g mo mst mac mmk mr mrd mrm mcm mtp msz mtk mbg men mls mvl mft mfp mfk mdp mto), (wMAll g mo al)] 19 [(0, .ref (mo 0)), (1, .int (iI t)), (2, .int (iI (unlN (mF al t) (mN al t) c))), (3, .int (iI c))] [.int (iI (mN al t)), .int (iI c), .int (iI t), .ref (mo 0), .int (iI (unlN (mF al t) (mN al t) c))]
        refine r_callV 22 hE [0, 1] [] [(wMo g mo mst mac mmk mr mrd mrm mcm mtp msz mtk mbg men mls mvl mft mfp mfk mdp mto), (wMAll g mo al)] [] 0 9 ok9 [.int (iI (unlN (mF al t) (mN al t) c))] (c_X9_countOf (hM) (by omega) (by omega) (by omega)) dX9_unlike_19 rfl rfl wd_1394 wd_1396 ws_86 wd_12 wd_1397 ne_X9 np_X9_countOf (Nat.le_of_ble_eq_true rfl)  (by decide) (by decide) rfl (Nat.le_of_ble_eq_true rfl) rfl rfl rfl rfl (by decide) rfl (fun v1 f1 hp => ?_)
        obtain ⟨rfl, rfl⟩ := hp
        show G g E _ _ _ [(wMo g mo mst mac mmk mr mrd mrm mcm mtp msz mtk mbg men mls mvl mft mfp mfk mdp mto), (wMAll g mo al)] 22 [(0, .ref (mo 0)), (1, .int (iI t)), (2, .int (iI (unlN (mF al t) (mN al t) c))), (3, .int (iI c))] [.int (iI (cntF (mF al t) c (mN al t))), .int (iI (unlN (mF al t) (mN al t) c))]
        refine r_if_le 25 29 hE dX9_unlike_22 rfl (by decide) (by have := cntF_bd (mF al t) c (n := mN al t) (by omega); omega) (fun c22 => ?_) (fun c22 => ?_)
        · skip
          refine r_iconst 30 hE dX9_unlike_29 rfl ?_
          refine r_iadd 31 hE ((unlN (mF al t) (mN al t) c) + 0) dX9_unlike_30 rfl rfl ?_
          refine r_istore_n 32 hE [(2, .int (iI ((unlN (mF al t) (mN al t) c) + 0))), (0, .ref (mo 0)), (1, .int (iI t)), (3, .int (iI c))] dX9_unlike_31 rfl rfl (by decide) rfl ?_
          refine r_iinc 35 hE 3 (c + 1) [(3, .int (iI (c + 1))), (2, .int (iI ((unlN (mF al t) (mN al t) c) + 0))), (0, .ref (mo 0)), (1, .int (iI t))] dX9_unlike_32 rfl rfl rfl (by decide) rfl ?_
          refine r_goto 4 hE dX9_unlike_35 (by decide) ?_
          refine G.to (fs' := [(wMo g mo mst mac mmk mr mrd mrm mcm mtp msz mtk mbg men mls mvl mft mfp mfk mdp mto), (wMAll g mo al)]) (lv' := [(0, .ref (mo 0)), (1, .int (iI t)), (2, .int (iI ((unlN (mF al t) (mN al t) c) + 0))), (3, .int (iI (c + 1)))]) [0, 1] [2, 3, 1, 0] rfl rfl rfl ?_
          refine G.cast (fs' := [(wMo g mo mst mac mmk mr mrd mrm mcm mtp msz mtk mbg men mls mvl mft mfp mfk mdp mto), (wMAll g mo al)]) (lv' := [(0, .ref (mo 0)), (1, .int (iI t)), (2, .int (iI (unlN (mF al t) (mN al t) (c + 1)))), (3, .int (iI (c + 1)))]) rfl (congrArg (fun z9 : Int => ([(0, .ref (mo 0)), (1, .int (iI t)), (2, .int (iI z9)), (3, .int (iI (c + 1)))] : List (Nat × Value))) (show ((unlN (mF al t) (mN al t) c) + 0 : Int) = unlN (mF al t) (mN al t) (c + 1) from by first | rfl | (rw [unlN_yes hcc.1 c22]) | (rw [unlN_no hcc.1 (by omega)]; omega))) ?_
          exact ih4 (c + 1) (by omega) (by omega)
        · skip
          refine r_iconst 26 hE dX9_unlike_25 rfl ?_
          refine r_goto 30 hE dX9_unlike_26 (by decide) ?_
          refine r_iadd 31 hE ((unlN (mF al t) (mN al t) c) + 1) dX9_unlike_30 rfl rfl ?_
          refine r_istore_n 32 hE [(2, .int (iI ((unlN (mF al t) (mN al t) c) + 1))), (0, .ref (mo 0)), (1, .int (iI t)), (3, .int (iI c))] dX9_unlike_31 rfl rfl (by decide) rfl ?_
          refine r_iinc 35 hE 3 (c + 1) [(3, .int (iI (c + 1))), (2, .int (iI ((unlN (mF al t) (mN al t) c) + 1))), (0, .ref (mo 0)), (1, .int (iI t))] dX9_unlike_32 rfl rfl rfl (by decide) rfl ?_
          refine r_goto 4 hE dX9_unlike_35 (by decide) ?_
          refine G.to (fs' := [(wMo g mo mst mac mmk mr mrd mrm mcm mtp msz mtk mbg men mls mvl mft mfp mfk mdp mto), (wMAll g mo al)]) (lv' := [(0, .ref (mo 0)), (1, .int (iI t)), (2, .int (iI ((unlN (mF al t) (mN al t) c) + 1))), (3, .int (iI (c + 1)))]) [0, 1] [2, 3, 1, 0] rfl rfl rfl ?_
          refine G.cast (fs' := [(wMo g mo mst mac mmk mr mrd mrm mcm mtp msz mtk mbg men mls mvl mft mfp mfk mdp mto), (wMAll g mo al)]) (lv' := [(0, .ref (mo 0)), (1, .int (iI t)), (2, .int (iI (unlN (mF al t) (mN al t) (c + 1)))), (3, .int (iI (c + 1)))]) rfl (congrArg (fun z9 : Int => ([(0, .ref (mo 0)), (1, .int (iI t)), (2, .int (iI z9)), (3, .int (iI (c + 1)))] : List (Nat × Value))) (show ((unlN (mF al t) (mN al t) c) + 1 : Int) = unlN (mF al t) (mN al t) (c + 1) from by first | rfl | (rw [unlN_yes hcc.1 c22]) | (rw [unlN_no hcc.1 (by omega)]; omega))) ?_
          exact ih4 (c + 1) (by omega) (by omega)
  refine r_iconst 1 hE dX9_unlike_0 rfl ?_
  refine r_istore_n 2 hE [(2, .int (iI 0)), (0, .ref (mo 0)), (1, .int (iI t))] dX9_unlike_1 rfl rfl (by decide) rfl ?_
  refine r_iconst 3 hE dX9_unlike_2 rfl ?_
  refine r_istore_n 4 hE [(3, .int (iI 0)), (2, .int (iI 0)), (0, .ref (mo 0)), (1, .int (iI t))] dX9_unlike_3 rfl rfl (by decide) rfl ?_
  refine G.to (fs' := [(wMo g mo mst mac mmk mr mrd mrm mcm mtp msz mtk mbg men mls mvl mft mfp mfk mdp mto), (wMAll g mo al)]) (lv' := [(0, .ref (mo 0)), (1, .int (iI t)), (2, .int (iI 0)), (3, .int (iI 0))]) [0, 1] [2, 3, 1, 0] rfl rfl rfl ?_
  refine G.cast (fs' := [(wMo g mo mst mac mmk mr mrd mrm mcm mtp msz mtk mbg men mls mvl mft mfp mfk mdp mto), (wMAll g mo al)]) (lv' := [(0, .ref (mo 0)), (1, .int (iI t)), (2, .int (iI (unlN (mF al t) (mN al t) 0))), (3, .int (iI 0))]) rfl (congrArg (fun z9 : Int => ([(0, .ref (mo 0)), (1, .int (iI t)), (2, .int (iI z9)), (3, .int (iI 0))] : List (Nat × Value))) (show (0 : Int) = unlN (mF al t) (mN al t) 0 from by first | rfl | (rw [unlN_yes hcc.1 c22]) | (rw [unlN_no hcc.1 (by omega)]; omega))) ?_
  exact cut4 _ 0 (by omega) (Nat.lt_succ_self _)
