set_option maxHeartbeats 4000000 in
set_option maxRecDepth 100000 in
theorem c_X8_repeat {g : Gm} {a : Nat → Nat} {L ln tp rd : Int → Int} {cnt era nws : Int} {r : Nat → Nat} {m : Nat} {RL : Int → Int} {rlen : Int} {ru : Nat → Nat} {kd fi se sg le de nx he ro : Int → Int} {rc re rr : Int} {R : Int → Rl} {w : Nat → Nat} {sp nb mt pl op no : Int → Int} {od stm wc : Int} {p : Nat → Nat} {n : Nat} {sh : Nat → Option Nat} {old cn : Int} {ad : Nat → Nat → Nat} {ss : Nat → ShS} {x tpa qa sa bka : Nat} {taped told : Int} {t k_ : Int} (hT : RT kd fi se sg le de nx he rc R) (hsh : ShOk L ln cnt) (hre : 0 ≤ re ∧ re ≤ 900000 ∧ -1 ≤ era ∧ era ≤ re) (hto : era = re → TopsOk R rc L ln tp rd cnt) (hce : 0 < cnt → era = re) (hWI : 0 ≤ stm ∧ ∀ i, 0 ≤ i → i < 10240 → 0 ≤ sp i ∧ sp i ≤ stm) (hs2 : stm ≤ 1500000000) (hpn : 1 ≤ (n : Int) ∧ (n : Int) ≤ 8) (hpo : 0 ≤ old ∧ old < (n : Int) ∧ 0 ≤ cn ∧ cn ≤ (n : Int)) (hsa : ∀ i, i < n → sh i = some ((ad i) 0)) (hBs : ∀ i, i < n → BR (ss i).L) (hm6 : (m : Int) = 600) (hBR : BR RL) (ht : 0 ≤ t ∧ t < cnt) (hk : 2 ≤ k_ ∧ k_ ≤ 600) (h6 : ln t * k_ ≤ 600) : Ct g 6 0 0 yX8_repeat cX8_repeat 3 (some .int) [.ref x, .int (iI t), .int (iI k_)] [(wMain g x tpa (a 0) (r 0) (p 0) qa (ru 0) (w 0) sa bka taped told), (wShelf g a L ln tp rd cnt era nws), (wRow g r m RL rlen), (wRules g ru kd fi se sg le de nx he ro rc re rr), (wWalk g w (ru 0) sp nb mt pl op no od stm wc), (wPileH g p n sh old cn), (wPool g ad ss n)] (fun v_ w_ => ∃ kd9 : Int → Int, ∃ fi9 : Int → Int, ∃ se9 : Int → Int, ∃ sg9 : Int → Int, ∃ le9 : Int → Int, ∃ de9 : Int → Int, ∃ nx9 : Int → Int, ∃ he9 : Int → Int, ∃ rc9 : Int, ∃ R9 : Int → Rl, ∃ ro9 : Int → Int, ∃ re9 : Int, ∃ rr9 : Int, ∃ tp9 : Int → Int, ∃ rd9 : Int → Int, ∃ sp9 : Int → Int, ∃ nb9 : Int → Int, ∃ mt9 : Int → Int, ∃ pl9 : Int → Int, ∃ op9 : Int → Int, ∃ no9 : Int → Int, ∃ od9 : Int, ∃ wc9 : Int, ∃ old9 : Int, ∃ cn9 : Int, ∃ i9 : Nat, ∃ Lp : Int → Int, ∃ lnp : Int → Int, ∃ tpp : Int → Int, ∃ rdp : Int → Int, ∃ news9 : Int, ∃ L9 : Int → Int, ∃ ln9 : Int → Int, ∃ cnt9 : Int, ∃ RL9 : Int → Int, ∃ rl9 : Int, ∃ r9 : Int, v_ = some (.int (iI r9)) ∧ w_ = [(wMain g x tpa (a 0) (r 0) (p 0) qa (ru 0) (w 0) sa bka taped 0), (wShelf g a L9 ln9 tp9 rd9 cnt9 re9 nws), (wRow g r m RL9 rl9), (wRules g ru kd9 fi9 se9 sg9 le9 de9 nx9 he9 ro9 rc9 re9 rr9), (wWalk g w (ru 0) sp9 nb9 mt9 pl9 op9 no9 od9 (stm + 1) wc9), (wPileH g p n sh old9 cn9), (wPool g ad (upS ss i9 (shs Lp lnp tpp rdp cnt re9 news9)) n)] ∧ (RT kd9 fi9 se9 sg9 le9 de9 nx9 he9 rc9 R9) ∧ ((re9 = re ∧ rc ≤ rc9 ∧ (∀ i, 0 ≤ i → i < rc → R9 i = R i)) ∨ re9 = re + 1) ∧ (0 ≤ stm + 1 ∧ ∀ i, 0 ≤ i → i < 10240 → 0 ≤ sp9 i ∧ sp9 i ≤ stm + 1) ∧ (PushIs n old cn old9 cn9 i9) ∧ (∀ t, 0 ≤ t → t < cnt → lnp t = ln t ∧ ∀ k, 0 ≤ k → k < ln t → Lp (600 * t + k) = L (600 * t + k)) ∧ (KeptOk R9 rc9 re9 (shs Lp lnp tpp rdp cnt re9 news9)) ∧ (TopsOk R9 rc9 L9 ln9 tp9 rd9 cnt9) ∧ (ShOk L9 ln9 cnt9) ∧ (NewsF (tx L) ln cnt (tx L9) ln9 cnt9 news9) ∧ (BR RL9) ∧ (TextSet (tx L) ln cnt t (fun k => tx L t (k % ln t)) (ln t * k_) (tx L9) ln9 cnt9) ∧ (r9 = ln t * k_)) := by
  refine Ct.of (by decide) (Nat.le_of_ble_eq_true rfl) (lv := [(0, .ref x), (1, .int (iI t)), (2, .int (iI k_))]) rfl ?_
  intro E hE hR hnm
  have hc := hsh.1
  have hln := hsh.ln
  have hB := hsh.2.1
  have hl1 := hsh.2.2 t ht.1 ht.2
  have hmul := mul_step (a := ln t) (b := 1) (c := k_) (by omega) (by omega)
  rw [Int.mul_one] at hmul
  have e0 : 0 + (0 + ln t - 0) * k_ = ln t * k_ := by rw [show (0 : Int) + ln t - 0 = ln t by omega, Int.zero_add]
  refine r_iload_n 1 hE 2 dX8_repeat_0 rfl rfl rfl ?_
  refine r_iconst 2 hE dX8_repeat_1 rfl ?_
  refine r_icmp_lt 5 12 hE dX8_repeat_2 rfl (by decide) (by omega) (fun c2 => ?_) (fun c2 => ?_)
  · skip
    omega
  · skip
    refine r_iload_n 6 hE 2 dX8_repeat_5 rfl rfl rfl ?_
    refine r_sipush 9 hE dX8_repeat_6 rfl (by decide) ?_
    refine r_icmp_le 12 18 hE dX8_repeat_9 rfl (by decide) (by omega) (fun c9 => ?_) (fun c9 => ?_)
    · skip
      refine r_aload_n 19 hE 0 dX8_repeat_18 rfl rfl rfl ?_
      refine r_get 22 hE 0 0 ok8 4 dX8_repeat_19 rfl wd_301 rfl rfl (by decide) rfl ?_
      refine r_iload_n 23 hE 1 dX8_repeat_22 rfl rfl rfl ?_
      refine r_callV 26 hE [1] [0, 2, 3, 4, 5, 6] [(wShelf g a L ln tp rd cnt era nws)] [(wMain g x tpa (a 0) (r 0) (p 0) qa (ru 0) (w 0) sa bka taped told), (wRow g r m RL rlen), (wRules g ru kd fi se sg le de nx he ro rc re rr), (wWalk g w (ru 0) sp nb mt pl op no od stm wc), (wPileH g p n sh old cn), (wPool g ad ss n)] 0 5 ok5 [] (c_X5_has (by omega) (by omega)) dX8_repeat_23 rfl rfl wd_764 wd_578 wd_579 wd_4 wd_580 ne_X5 np_X5_has (Nat.le_of_ble_eq_true rfl)  (by decide) (by decide) rfl (Nat.le_of_ble_eq_true rfl) rfl rfl rfl rfl (by decide) rfl (fun v1 f1 hp => ?_)
      obtain ⟨rfl, rfl⟩ := hp
      show G g E _ _ _ [(wShelf g a L ln tp rd cnt era nws), (wMain g x tpa (a 0) (r 0) (p 0) qa (ru 0) (w 0) sa bka taped told), (wRow g r m RL rlen), (wRules g ru kd fi se sg le de nx he ro rc re rr), (wWalk g w (ru 0) sp nb mt pl op no od stm wc), (wPileH g p n sh old cn), (wPool g ad ss n)] 26 [(0, .ref x), (1, .int (iI t)), (2, .int (iI k_))] [.int (iI (bI (0 ≤ t ∧ t < cnt)))]
      refine r_if_ne 29 35 hE dX8_repeat_26 rfl (by decide) (bI_rg _) (fun c26 => ?_) (fun c26 => ?_)
      · skip
        have c26 := bI1 c26
        refine r_aload_n 36 hE 0 dX8_repeat_35 rfl rfl rfl ?_
        refine r_get 39 hE 1 0 ok8 4 dX8_repeat_36 rfl wd_301 rfl rfl (by decide) rfl ?_
        refine r_iload_n 40 hE 1 dX8_repeat_39 rfl rfl rfl ?_
        refine r_callV 43 hE [0] [1, 2, 3, 4, 5, 6] [(wShelf g a L ln tp rd cnt era nws)] [(wMain g x tpa (a 0) (r 0) (p 0) qa (ru 0) (w 0) sa bka taped told), (wRow g r m RL rlen), (wRules g ru kd fi se sg le de nx he ro rc re rr), (wWalk g w (ru 0) sp nb mt pl op no od stm wc), (wPileH g p n sh old cn), (wPool g ad ss n)] 0 5 ok5 [] (c_X5_lengthOf (by omega) (by omega)) dX8_repeat_40 rfl rfl wd_630 wd_631 wd_632 wd_4 wd_633 ne_X5 np_X5_lengthOf (Nat.le_of_ble_eq_true rfl)  (by decide) (by decide) rfl (Nat.le_of_ble_eq_true rfl) rfl rfl rfl rfl (by decide) rfl (fun v1 f1 hp => ?_)
        obtain ⟨rfl, rfl⟩ := hp
        show G g E _ _ _ [(wShelf g a L ln tp rd cnt era nws), (wMain g x tpa (a 0) (r 0) (p 0) qa (ru 0) (w 0) sa bka taped told), (wRow g r m RL rlen), (wRules g ru kd fi se sg le de nx he ro rc re rr), (wWalk g w (ru 0) sp nb mt pl op no od stm wc), (wPileH g p n sh old cn), (wPool g ad ss n)] 43 [(0, .ref x), (1, .int (iI t)), (2, .int (iI k_))] [.int (iI (ln t))]
        refine r_iload_n 44 hE 2 dX8_repeat_43 rfl rfl rfl ?_
        refine r_imul 45 hE ((ln t) * k_) dX8_repeat_44 rfl rfl ?_
        refine r_sipush 48 hE dX8_repeat_45 rfl (by decide) ?_
        refine r_icmp_le 51 58 hE dX8_repeat_48 rfl (by decide) (by omega) (fun c48 => ?_) (fun c48 => ?_)
        · skip
          refine r_aload_n 59 hE 0 dX8_repeat_58 rfl rfl rfl ?_
          refine r_get 62 hE 1 0 ok8 5 dX8_repeat_59 rfl wd_302 rfl rfl (by decide) rfl ?_
          refine r_callV 65 hE [2] [0, 1, 3, 4, 5, 6] [(wRow g r m RL rlen)] [(wShelf g a L ln tp rd cnt era nws), (wMain g x tpa (a 0) (r 0) (p 0) qa (ru 0) (w 0) sa bka taped told), (wRules g ru kd fi se sg le de nx he ro rc re rr), (wWalk g w (ru 0) sp nb mt pl op no od stm wc), (wPileH g p n sh old cn), (wPool g ad ss n)] 0 2 ok2 [] (c_X2_clear) dX8_repeat_62 rfl rfl wd_877 wd_549 wd_550 wd_5 wd_551 ne_X2 np_X2_clear (Nat.le_of_ble_eq_true rfl)  (by decide) (by decide) rfl (Nat.le_of_ble_eq_true rfl) rfl rfl rfl rfl (by decide) rfl (fun v1 f1 hp => ?_)
          obtain ⟨rfl, rfl⟩ := hp
          show G g E _ _ _ [(wRow g r m RL 0), (wShelf g a L ln tp rd cnt era nws), (wMain g x tpa (a 0) (r 0) (p 0) qa (ru 0) (w 0) sa bka taped told), (wRules g ru kd fi se sg le de nx he ro rc re rr), (wWalk g w (ru 0) sp nb mt pl op no od stm wc), (wPileH g p n sh old cn), (wPool g ad ss n)] 65 [(0, .ref x), (1, .int (iI t)), (2, .int (iI k_))] []
          refine r_aload_n 66 hE 0 dX8_repeat_65 rfl rfl rfl ?_
          refine r_get 69 hE 2 0 ok8 5 dX8_repeat_66 rfl wd_302 rfl rfl (by decide) rfl ?_
          refine r_aload_n 70 hE 0 dX8_repeat_69 rfl rfl rfl ?_
          refine r_get 73 hE 2 0 ok8 4 dX8_repeat_70 rfl wd_301 rfl rfl (by decide) rfl ?_
          refine r_iload_n 74 hE 1 dX8_repeat_73 rfl rfl rfl ?_
          refine r_callV 77 hE [0, 1] [2, 3, 4, 5, 6] [(wRow g r m RL 0), (wShelf g a L ln tp rd cnt era nws)] [(wMain g x tpa (a 0) (r 0) (p 0) qa (ru 0) (w 0) sa bka taped told), (wRules g ru kd fi se sg le de nx he ro rc re rr), (wWalk g w (ru 0) sp nb mt pl op no od stm wc), (wPileH g p n sh old cn), (wPool g ad ss n)] 0 2 ok2 [] (c_X2_addWhole (by omega) (by omega) (hln) (hB) (by omega) (by omega)) dX8_repeat_74 rfl rfl wd_900 wd_574 wd_575 wd_5 wd_576 ne_X2 np_X2_addWhole (Nat.le_of_ble_eq_true rfl)  (by decide) (by decide) rfl (Nat.le_of_ble_eq_true rfl) rfl rfl rfl rfl (by decide) rfl (fun v1 f1 hp => ?_)
          obtain ⟨rfl, rfl⟩ := hp
          show G g E _ _ _ [(wRow g r m (cpy L RL (t * 600) 0 (ln t)) (0 + ln t)), (wShelf g a L ln tp rd cnt era nws), (wMain g x tpa (a 0) (r 0) (p 0) qa (ru 0) (w 0) sa bka taped told), (wRules g ru kd fi se sg le de nx he ro rc re rr), (wWalk g w (ru 0) sp nb mt pl op no od stm wc), (wPileH g p n sh old cn), (wPool g ad ss n)] 77 [(0, .ref x), (1, .int (iI t)), (2, .int (iI k_))] []
          refine r_aload_n 78 hE 0 dX8_repeat_77 rfl rfl rfl ?_
          refine r_get 81 hE 2 0 ok8 5 dX8_repeat_78 rfl wd_302 rfl rfl (by decide) rfl ?_
          refine r_iconst 82 hE dX8_repeat_81 rfl ?_
          refine r_iload_n 83 hE 2 dX8_repeat_82 rfl rfl rfl ?_
          refine r_callV 86 hE [0] [1, 2, 3, 4, 5, 6] [(wRow g r m (cpy L RL (t * 600) 0 (ln t)) (0 + ln t))] [(wShelf g a L ln tp rd cnt era nws), (wMain g x tpa (a 0) (r 0) (p 0) qa (ru 0) (w 0) sa bka taped told), (wRules g ru kd fi se sg le de nx he ro rc re rr), (wWalk g w (ru 0) sp nb mt pl op no od stm wc), (wPileH g p n sh old cn), (wPool g ad ss n)] 0 2 ok2 [] (c_X2_multiplyFrom (by omega) (by omega) (by omega) (by rw [e0]; omega) (BR_cpy hB hBR _ _ _)) dX8_repeat_83 rfl rfl wd_909 wd_597 wd_598 wd_5 wd_599 ne_X2 np_X2_multiplyFrom (Nat.le_of_ble_eq_true rfl)  (by decide) (by decide) rfl (Nat.le_of_ble_eq_true rfl) rfl rfl rfl rfl (by decide) rfl (fun v1 f1 hp => ?_)
          obtain ⟨RL9_83, rfl, rfl, h83_0⟩ := hp
          show G g E _ _ _ [(wRow g r m RL9_83 (0 + ((0 + ln t) - 0) * k_)), (wShelf g a L ln tp rd cnt era nws), (wMain g x tpa (a 0) (r 0) (p 0) qa (ru 0) (w 0) sa bka taped told), (wRules g ru kd fi se sg le de nx he ro rc re rr), (wWalk g w (ru 0) sp nb mt pl op no od stm wc), (wPileH g p n sh old cn), (wPool g ad ss n)] 86 [(0, .ref x), (1, .int (iI t)), (2, .int (iI k_))] []
          have hat : ∀ k, 0 ≤ k → k < 0 + (0 + ln t - 0) * k_ → RL9_83 k = tx L t (k % ln t) := by
            intro k a b
            rw [h83_0.2.1 k (by omega) b, show (0 : Int) + ln t - 0 = ln t by omega, Int.sub_zero, Int.zero_add]
            exact whole_at ⟨Int.emod_nonneg _ (by omega), Int.emod_lt_of_pos _ (by omega)⟩
          refine r_aload_n 87 hE 0 dX8_repeat_86 rfl rfl rfl ?_
          refine r_iload_n 88 hE 1 dX8_repeat_87 rfl rfl rfl ?_
          refine r_callV 91 hE [2, 1, 0, 3, 4, 5, 6] [] [(wMain g x tpa (a 0) (r 0) (p 0) qa (ru 0) (w 0) sa bka taped told), (wShelf g a L ln tp rd cnt era nws), (wRow g r m RL9_83 (0 + ((0 + ln t) - 0) * k_)), (wRules g ru kd fi se sg le de nx he ro rc re rr), (wWalk g w (ru 0) sp nb mt pl op no od stm wc), (wPileH g p n sh old cn), (wPool g ad ss n)] [] 0 8 ok8 [] (c_X8_actOn (hT) (hsh) (by omega) (hto) (hce) (hWI) (by omega) (by omega) (by omega) (hsa) (hBs) (by omega) (by rw [e0]; omega) (h83_0.2.2) (fun k a b => by rw [hat k a b]; exact hl1.2 _ (Int.emod_nonneg _ (by omega)) (Int.emod_lt_of_pos _ (by omega)))) dX8_repeat_88 rfl rfl wd_883 wd_885 ws_41 wd_1 wd_886 ne_X8 np_X8_actOn (Nat.le_of_ble_eq_true rfl)  (by decide) (by decide) rfl (Nat.le_of_ble_eq_true rfl) rfl rfl rfl rfl (by decide) rfl (fun v1 f1 hp => ?_)
          obtain ⟨kd9_88, fi9_88, se9_88, sg9_88, le9_88, de9_88, nx9_88, he9_88, rc9_88, R9_88, ro9_88, re9_88, rr9_88, tp9_88, rd9_88, sp9_88, nb9_88, mt9_88, pl9_88, op9_88, no9_88, od9_88, wc9_88, old9_88, cn9_88, i9_88, Lp_88, lnp_88, tpp_88, rdp_88, news9_88, rfl, rfl, h88_0, h88_1, h88_2, h88_3, h88_4, h88_5, h88_6, h88_7, h88_8⟩ := hp
          show G g E _ _ _ [(wMain g x tpa (a 0) (r 0) (p 0) qa (ru 0) (w 0) sa bka taped told), (wShelf g a (cpy RL9_83 L 0 (t * 600) (0 + ((0 + ln t) - 0) * k_)) (up ln t (0 + ((0 + ln t) - 0) * k_)) tp9_88 rd9_88 (max cnt (t + 1)) re9_88 nws), (wRow g r m RL9_83 (0 + ((0 + ln t) - 0) * k_)), (wRules g ru kd9_88 fi9_88 se9_88 sg9_88 le9_88 de9_88 nx9_88 he9_88 ro9_88 rc9_88 re9_88 rr9_88), (wWalk g w (ru 0) sp9_88 nb9_88 mt9_88 pl9_88 op9_88 no9_88 od9_88 (stm + 1) wc9_88), (wPileH g p n sh old9_88 cn9_88), (wPool g ad (upS ss i9_88 (shs Lp_88 lnp_88 tpp_88 rdp_88 cnt re9_88 news9_88)) n)] 91 [(0, .ref x), (1, .int (iI t)), (2, .int (iI k_))] []
          refine r_aload_n 92 hE 0 dX8_repeat_91 rfl rfl rfl ?_
          refine r_aload_n 93 hE 0 dX8_repeat_92 rfl rfl rfl ?_
          refine r_get 96 hE 0 0 ok8 4 dX8_repeat_93 rfl wd_301 rfl rfl (by decide) rfl ?_
          refine r_iload_n 97 hE 1 dX8_repeat_96 rfl rfl rfl ?_
          refine r_callV 100 hE [1] [0, 2, 3, 4, 5, 6] [(wShelf g a (cpy RL9_83 L 0 (t * 600) (0 + ((0 + ln t) - 0) * k_)) (up ln t (0 + ((0 + ln t) - 0) * k_)) tp9_88 rd9_88 (max cnt (t + 1)) re9_88 nws)] [(wMain g x tpa (a 0) (r 0) (p 0) qa (ru 0) (w 0) sa bka taped told), (wRow g r m RL9_83 (0 + ((0 + ln t) - 0) * k_)), (wRules g ru kd9_88 fi9_88 se9_88 sg9_88 le9_88 de9_88 nx9_88 he9_88 ro9_88 rc9_88 re9_88 rr9_88), (wWalk g w (ru 0) sp9_88 nb9_88 mt9_88 pl9_88 op9_88 no9_88 od9_88 (stm + 1) wc9_88), (wPileH g p n sh old9_88 cn9_88), (wPool g ad (upS ss i9_88 (shs Lp_88 lnp_88 tpp_88 rdp_88 cnt re9_88 news9_88)) n)] 0 5 ok5 [.ref x] (c_X5_lengthOf (by have := h88_7.1; omega) (h88_7.1)) dX8_repeat_97 rfl rfl wd_630 wd_631 wd_632 wd_4 wd_633 ne_X5 np_X5_lengthOf (Nat.le_of_ble_eq_true rfl)  (by decide) (by decide) rfl (Nat.le_of_ble_eq_true rfl) rfl rfl rfl rfl (by decide) rfl (fun v1 f1 hp => ?_)
          obtain ⟨rfl, rfl⟩ := hp
          show G g E _ _ _ [(wShelf g a (cpy RL9_83 L 0 (t * 600) (0 + ((0 + ln t) - 0) * k_)) (up ln t (0 + ((0 + ln t) - 0) * k_)) tp9_88 rd9_88 (max cnt (t + 1)) re9_88 nws), (wMain g x tpa (a 0) (r 0) (p 0) qa (ru 0) (w 0) sa bka taped told), (wRow g r m RL9_83 (0 + ((0 + ln t) - 0) * k_)), (wRules g ru kd9_88 fi9_88 se9_88 sg9_88 le9_88 de9_88 nx9_88 he9_88 ro9_88 rc9_88 re9_88 rr9_88), (wWalk g w (ru 0) sp9_88 nb9_88 mt9_88 pl9_88 op9_88 no9_88 od9_88 (stm + 1) wc9_88), (wPileH g p n sh old9_88 cn9_88), (wPool g ad (upS ss i9_88 (shs Lp_88 lnp_88 tpp_88 rdp_88 cnt re9_88 news9_88)) n)] 100 [(0, .ref x), (1, .int (iI t)), (2, .int (iI k_))] [.int (iI ((up ln t (0 + ((0 + ln t) - 0) * k_)) t)), .ref x]
          refine r_callV 103 hE [1] [0, 2, 3, 4, 5, 6] [(wMain g x tpa (a 0) (r 0) (p 0) qa (ru 0) (w 0) sa bka taped told)] [(wShelf g a (cpy RL9_83 L 0 (t * 600) (0 + ((0 + ln t) - 0) * k_)) (up ln t (0 + ((0 + ln t) - 0) * k_)) tp9_88 rd9_88 (max cnt (t + 1)) re9_88 nws), (wRow g r m RL9_83 (0 + ((0 + ln t) - 0) * k_)), (wRules g ru kd9_88 fi9_88 se9_88 sg9_88 le9_88 de9_88 nx9_88 he9_88 ro9_88 rc9_88 re9_88 rr9_88), (wWalk g w (ru 0) sp9_88 nb9_88 mt9_88 pl9_88 op9_88 no9_88 od9_88 (stm + 1) wc9_88), (wPileH g p n sh old9_88 cn9_88), (wPool g ad (upS ss i9_88 (shs Lp_88 lnp_88 tpp_88 rdp_88 cnt re9_88 news9_88)) n)] 0 8 ok8 [] (c_X8_answer) dX8_repeat_100 rfl rfl wd_739 wd_741 ws_33 wd_1 wd_742 ne_X8 np_X8_answer (Nat.le_of_ble_eq_true rfl)  (by decide) (by decide) rfl (Nat.le_of_ble_eq_true rfl) rfl rfl rfl rfl (by decide) rfl (fun v1 f1 hp => ?_)
          obtain ⟨rfl, rfl⟩ := hp
          show G g E _ _ _ [(wMain g x tpa (a 0) (r 0) (p 0) qa (ru 0) (w 0) sa bka taped 0), (wShelf g a (cpy RL9_83 L 0 (t * 600) (0 + ((0 + ln t) - 0) * k_)) (up ln t (0 + ((0 + ln t) - 0) * k_)) tp9_88 rd9_88 (max cnt (t + 1)) re9_88 nws), (wRow g r m RL9_83 (0 + ((0 + ln t) - 0) * k_)), (wRules g ru kd9_88 fi9_88 se9_88 sg9_88 le9_88 de9_88 nx9_88 he9_88 ro9_88 rc9_88 re9_88 rr9_88), (wWalk g w (ru 0) sp9_88 nb9_88 mt9_88 pl9_88 op9_88 no9_88 od9_88 (stm + 1) wc9_88), (wPileH g p n sh old9_88 cn9_88), (wPool g ad (upS ss i9_88 (shs Lp_88 lnp_88 tpp_88 rdp_88 cnt re9_88 news9_88)) n)] 103 [(0, .ref x), (1, .int (iI t)), (2, .int (iI k_))] [.int (iI ((up ln t (0 + ((0 + ln t) - 0) * k_)) t))]
          refine r_ireturn hE hR [(wMain g x tpa (a 0) (r 0) (p 0) qa (ru 0) (w 0) sa bka taped 0), (wShelf g a (cpy RL9_83 L 0 (t * 600) (0 + ((0 + ln t) - 0) * k_)) (up ln t (0 + ((0 + ln t) - 0) * k_)) tp9_88 rd9_88 (max cnt (t + 1)) re9_88 nws), (wRow g r m RL9_83 (0 + ((0 + ln t) - 0) * k_)), (wRules g ru kd9_88 fi9_88 se9_88 sg9_88 le9_88 de9_88 nx9_88 he9_88 ro9_88 rc9_88 re9_88 rr9_88), (wWalk g w (ru 0) sp9_88 nb9_88 mt9_88 pl9_88 op9_88 no9_88 od9_88 (stm + 1) wc9_88), (wPileH g p n sh old9_88 cn9_88), (wPool g ad (upS ss i9_88 (shs Lp_88 lnp_88 tpp_88 rdp_88 cnt re9_88 news9_88)) n)] dX8_repeat_103 (Nat.le_of_ble_eq_true rfl) (Nat.le_of_ble_eq_true rfl) rfl ?_
          rw [e0] at hat
          rw [e0] at h88_6 h88_7 h88_8
          exact ⟨kd9_88, fi9_88, se9_88, sg9_88, le9_88, de9_88, nx9_88, he9_88, rc9_88, R9_88, ro9_88, re9_88, rr9_88, tp9_88, rd9_88, sp9_88, nb9_88, mt9_88, pl9_88, op9_88, no9_88, od9_88, wc9_88, old9_88, cn9_88, i9_88, Lp_88, lnp_88, tpp_88, rdp_88, news9_88, _, _, _, _, _, _, rfl, by rw [e0], h88_0, h88_1, h88_2, h88_3, h88_4, h88_5, h88_6, h88_7, h88_8.F, h83_0.2.2, TextSet.of hln (by omega) (by omega) hat, by rw [up_same, e0]⟩
        · skip
          omega
      · skip
        have c26 := bI0 c26
        omega
    · skip
      omega
set_option maxHeartbeats 4000000 in
set_option maxRecDepth 100000 in
theorem c_X8_repeat_no {g : Gm} {a : Nat → Nat} {L ln tp rd : Int → Int} {cnt era nws : Int} {x tpa da pa qa rua wa sa bka : Nat} {taped told : Int} {t k_ : Int} (hsh : ShOk L ln cnt) (ht : -2147483648 ≤ t ∧ t ≤ 2147483647) (hk : -2147483648 ≤ k_ ∧ k_ ≤ 2147483647) (hno : rpF ln cnt t k_ ≠ 0) : Ct g 6 0 0 yX8_repeat cX8_repeat 3 (some .int) [.ref x, .int (iI t), .int (iI k_)] [(wMain g x tpa (a 0) da pa qa rua wa sa bka taped told), (wShelf g a L ln tp rd cnt era nws)] (fun v_ w_ => v_ = some (.int (iI (-1))) ∧ w_ = [(wMain g x tpa (a 0) da pa qa rua wa sa bka taped (rpF ln cnt t k_)), (wShelf g a L ln tp rd cnt era nws)]) := by
  refine Ct.of (by decide) (Nat.le_of_ble_eq_true rfl) (lv := [(0, .ref x), (1, .int (iI t)), (2, .int (iI k_))]) rfl ?_
  intro E hE hR hnm
  have hc := hsh.1
  have hln := hsh.ln
  have hB := hsh.2.1
  refine r_iload_n 1 hE 2 dX8_repeat_0 rfl rfl rfl ?_
  refine r_iconst 2 hE dX8_repeat_1 rfl ?_
  refine r_icmp_lt 5 12 hE dX8_repeat_2 rfl (by decide) (by omega) (fun c2 => ?_) (fun c2 => ?_)
  · skip
    refine r_aload_n 13 hE 0 dX8_repeat_12 rfl rfl rfl ?_
    refine r_iconst 14 hE dX8_repeat_13 rfl ?_
    refine r_callV 17 hE [0] [1] [(wMain g x tpa (a 0) da pa qa rua wa sa bka taped told)] [(wShelf g a L ln tp rd cnt era nws)] 0 8 ok8 [] (c_X8_refuse) dX8_repeat_14 rfl rfl wd_347 wd_349 ws_1 wd_1 wd_350 ne_X8 np_X8_refuse (Nat.le_of_ble_eq_true rfl)  (by decide) (by decide) rfl (Nat.le_of_ble_eq_true rfl) rfl rfl rfl rfl (by decide) rfl (fun v1 f1 hp => ?_)
    obtain ⟨rfl, rfl⟩ := hp
    show G g E _ _ _ [(wMain g x tpa (a 0) da pa qa rua wa sa bka taped 1), (wShelf g a L ln tp rd cnt era nws)] 17 [(0, .ref x), (1, .int (iI t)), (2, .int (iI k_))] [.int (iI (-1))]
    refine r_ireturn hE hR [(wMain g x tpa (a 0) da pa qa rua wa sa bka taped 1), (wShelf g a L ln tp rd cnt era nws)] dX8_repeat_17 (Nat.le_of_ble_eq_true rfl) (Nat.le_of_ble_eq_true rfl) rfl ?_
    exact ⟨rfl, by unfold rpF; (repeat (first | rw [if_pos (by omega)] | rw [if_neg (by omega)]))⟩
  · skip
    refine r_iload_n 6 hE 2 dX8_repeat_5 rfl rfl rfl ?_
    refine r_sipush 9 hE dX8_repeat_6 rfl (by decide) ?_
    refine r_icmp_le 12 18 hE dX8_repeat_9 rfl (by decide) (by omega) (fun c9 => ?_) (fun c9 => ?_)
    · skip
      refine r_aload_n 19 hE 0 dX8_repeat_18 rfl rfl rfl ?_
      refine r_get 22 hE 0 0 ok8 4 dX8_repeat_19 rfl wd_301 rfl rfl (by decide) rfl ?_
      refine r_iload_n 23 hE 1 dX8_repeat_22 rfl rfl rfl ?_
      refine r_callV 26 hE [1] [0] [(wShelf g a L ln tp rd cnt era nws)] [(wMain g x tpa (a 0) da pa qa rua wa sa bka taped told)] 0 5 ok5 [] (c_X5_has (by omega) (by omega)) dX8_repeat_23 rfl rfl wd_764 wd_578 wd_579 wd_4 wd_580 ne_X5 np_X5_has (Nat.le_of_ble_eq_true rfl)  (by decide) (by decide) rfl (Nat.le_of_ble_eq_true rfl) rfl rfl rfl rfl (by decide) rfl (fun v1 f1 hp => ?_)
      obtain ⟨rfl, rfl⟩ := hp
      show G g E _ _ _ [(wShelf g a L ln tp rd cnt era nws), (wMain g x tpa (a 0) da pa qa rua wa sa bka taped told)] 26 [(0, .ref x), (1, .int (iI t)), (2, .int (iI k_))] [.int (iI (bI (0 ≤ t ∧ t < cnt)))]
      refine r_if_ne 29 35 hE dX8_repeat_26 rfl (by decide) (bI_rg _) (fun c26 => ?_) (fun c26 => ?_)
      · skip
        have c26 := bI1 c26
        have hl1 := hln t c26.1 c26.2
        have hml : 0 ≤ ln t * k_ ∧ ln t * k_ ≤ 600 * 600 := ⟨Int.mul_nonneg hl1.1 (by omega), Int.mul_le_mul hl1.2 (by omega) (by omega) (by omega)⟩
        refine r_aload_n 36 hE 0 dX8_repeat_35 rfl rfl rfl ?_
        refine r_get 39 hE 1 0 ok8 4 dX8_repeat_36 rfl wd_301 rfl rfl (by decide) rfl ?_
        refine r_iload_n 40 hE 1 dX8_repeat_39 rfl rfl rfl ?_
        refine r_callV 43 hE [0] [1] [(wShelf g a L ln tp rd cnt era nws)] [(wMain g x tpa (a 0) da pa qa rua wa sa bka taped told)] 0 5 ok5 [] (c_X5_lengthOf (by omega) (by omega)) dX8_repeat_40 rfl rfl wd_630 wd_631 wd_632 wd_4 wd_633 ne_X5 np_X5_lengthOf (Nat.le_of_ble_eq_true rfl)  (by decide) (by decide) rfl (Nat.le_of_ble_eq_true rfl) rfl rfl rfl rfl (by decide) rfl (fun v1 f1 hp => ?_)
        obtain ⟨rfl, rfl⟩ := hp
        show G g E _ _ _ [(wShelf g a L ln tp rd cnt era nws), (wMain g x tpa (a 0) da pa qa rua wa sa bka taped told)] 43 [(0, .ref x), (1, .int (iI t)), (2, .int (iI k_))] [.int (iI (ln t))]
        refine r_iload_n 44 hE 2 dX8_repeat_43 rfl rfl rfl ?_
        refine r_imul 45 hE ((ln t) * k_) dX8_repeat_44 rfl rfl ?_
        refine r_sipush 48 hE dX8_repeat_45 rfl (by decide) ?_
        refine r_icmp_le 51 58 hE dX8_repeat_48 rfl (by decide) (by omega) (fun c48 => ?_) (fun c48 => ?_)
        · skip
          exact absurd (by unfold rpF; (repeat (first | rw [if_pos (by omega)] | rw [if_neg (by omega)]))) hno
        · skip
          refine r_aload_n 52 hE 0 dX8_repeat_51 rfl rfl rfl ?_
          refine r_bipush 54 hE dX8_repeat_52 rfl (by decide) ?_
          refine r_callV 57 hE [1] [0] [(wMain g x tpa (a 0) da pa qa rua wa sa bka taped told)] [(wShelf g a L ln tp rd cnt era nws)] 0 8 ok8 [] (c_X8_refuse) dX8_repeat_54 rfl rfl wd_347 wd_349 ws_1 wd_1 wd_350 ne_X8 np_X8_refuse (Nat.le_of_ble_eq_true rfl)  (by decide) (by decide) rfl (Nat.le_of_ble_eq_true rfl) rfl rfl rfl rfl (by decide) rfl (fun v1 f1 hp => ?_)
          obtain ⟨rfl, rfl⟩ := hp
          show G g E _ _ _ [(wMain g x tpa (a 0) da pa qa rua wa sa bka taped 6), (wShelf g a L ln tp rd cnt era nws)] 57 [(0, .ref x), (1, .int (iI t)), (2, .int (iI k_))] [.int (iI (-1))]
          refine r_ireturn hE hR [(wMain g x tpa (a 0) da pa qa rua wa sa bka taped 6), (wShelf g a L ln tp rd cnt era nws)] dX8_repeat_57 (Nat.le_of_ble_eq_true rfl) (Nat.le_of_ble_eq_true rfl) rfl ?_
          exact ⟨rfl, by unfold rpF; (repeat (first | rw [if_pos (by omega)] | rw [if_neg (by omega)]))⟩
      · skip
        have c26 := bI0 c26
        refine r_aload_n 30 hE 0 dX8_repeat_29 rfl rfl rfl ?_
        refine r_iconst 31 hE dX8_repeat_30 rfl ?_
        refine r_callV 34 hE [1] [0] [(wMain g x tpa (a 0) da pa qa rua wa sa bka taped told)] [(wShelf g a L ln tp rd cnt era nws)] 0 8 ok8 [] (c_X8_refuse) dX8_repeat_31 rfl rfl wd_347 wd_349 ws_1 wd_1 wd_350 ne_X8 np_X8_refuse (Nat.le_of_ble_eq_true rfl)  (by decide) (by decide) rfl (Nat.le_of_ble_eq_true rfl) rfl rfl rfl rfl (by decide) rfl (fun v1 f1 hp => ?_)
        obtain ⟨rfl, rfl⟩ := hp
        show G g E _ _ _ [(wMain g x tpa (a 0) da pa qa rua wa sa bka taped 2), (wShelf g a L ln tp rd cnt era nws)] 34 [(0, .ref x), (1, .int (iI t)), (2, .int (iI k_))] [.int (iI (-1))]
        refine r_ireturn hE hR [(wMain g x tpa (a 0) da pa qa rua wa sa bka taped 2), (wShelf g a L ln tp rd cnt era nws)] dX8_repeat_34 (Nat.le_of_ble_eq_true rfl) (Nat.le_of_ble_eq_true rfl) rfl ?_
        exact ⟨rfl, by unfold rpF; (repeat (first | rw [if_pos (by omega)] | rw [if_neg (by omega)]))⟩
    · skip
      refine r_aload_n 13 hE 0 dX8_repeat_12 rfl rfl rfl ?_
      refine r_iconst 14 hE dX8_repeat_13 rfl ?_
      refine r_callV 17 hE [0] [1] [(wMain g x tpa (a 0) da pa qa rua wa sa bka taped told)] [(wShelf g a L ln tp rd cnt era nws)] 0 8 ok8 [] (c_X8_refuse) dX8_repeat_14 rfl rfl wd_347 wd_349 ws_1 wd_1 wd_350 ne_X8 np_X8_refuse (Nat.le_of_ble_eq_true rfl)  (by decide) (by decide) rfl (Nat.le_of_ble_eq_true rfl) rfl rfl rfl rfl (by decide) rfl (fun v1 f1 hp => ?_)
      obtain ⟨rfl, rfl⟩ := hp
      show G g E _ _ _ [(wMain g x tpa (a 0) da pa qa rua wa sa bka taped 1), (wShelf g a L ln tp rd cnt era nws)] 17 [(0, .ref x), (1, .int (iI t)), (2, .int (iI k_))] [.int (iI (-1))]
      refine r_ireturn hE hR [(wMain g x tpa (a 0) da pa qa rua wa sa bka taped 1), (wShelf g a L ln tp rd cnt era nws)] dX8_repeat_17 (Nat.le_of_ble_eq_true rfl) (Nat.le_of_ble_eq_true rfl) rfl ?_
      exact ⟨rfl, by unfold rpF; (repeat (first | rw [if_pos (by omega)] | rw [if_neg (by omega)]))⟩
set_option maxHeartbeats 4000000 in
set_option maxRecDepth 100000 in
theorem c_X8_turn {g : Gm} {a : Nat → Nat} {L ln tp rd : Int → Int} {cnt era nws : Int} {r : Nat → Nat} {m : Nat} {RL : Int → Int} {rlen : Int} {ru : Nat → Nat} {kd fi se sg le de nx he ro : Int → Int} {rc re rr : Int} {R : Int → Rl} {w : Nat → Nat} {sp nb mt pl op no : Int → Int} {od stm wc : Int} {p : Nat → Nat} {n : Nat} {sh : Nat → Option Nat} {old cn : Int} {ad : Nat → Nat → Nat} {ss : Nat → ShS} {x tpa qa sa bka : Nat} {taped told : Int} {t : Int} (hT : RT kd fi se sg le de nx he rc R) (hsh : ShOk L ln cnt) (hre : 0 ≤ re ∧ re ≤ 900000 ∧ -1 ≤ era ∧ era ≤ re) (hto : era = re → TopsOk R rc L ln tp rd cnt) (hce : 0 < cnt → era = re) (hWI : 0 ≤ stm ∧ ∀ i, 0 ≤ i → i < 10240 → 0 ≤ sp i ∧ sp i ≤ stm) (hs2 : stm ≤ 1500000000) (hpn : 1 ≤ (n : Int) ∧ (n : Int) ≤ 8) (hpo : 0 ≤ old ∧ old < (n : Int) ∧ 0 ≤ cn ∧ cn ≤ (n : Int)) (hsa : ∀ i, i < n → sh i = some ((ad i) 0)) (hBs : ∀ i, i < n → BR (ss i).L) (hm6 : (m : Int) = 600) (hBR : BR RL) (ht : 0 ≤ t ∧ t < cnt) : Ct g 6 0 0 yX8_turn cX8_turn 3 (some .int) [.ref x, .int (iI t)] [(wMain g x tpa (a 0) (r 0) (p 0) qa (ru 0) (w 0) sa bka taped told), (wShelf g a L ln tp rd cnt era nws), (wRow g r m RL rlen), (wRules g ru kd fi se sg le de nx he ro rc re rr), (wWalk g w (ru 0) sp nb mt pl op no od stm wc), (wPileH g p n sh old cn), (wPool g ad ss n)] (fun v_ w_ => ∃ kd9 : Int → Int, ∃ fi9 : Int → Int, ∃ se9 : Int → Int, ∃ sg9 : Int → Int, ∃ le9 : Int → Int, ∃ de9 : Int → Int, ∃ nx9 : Int → Int, ∃ he9 : Int → Int, ∃ rc9 : Int, ∃ R9 : Int → Rl, ∃ ro9 : Int → Int, ∃ re9 : Int, ∃ rr9 : Int, ∃ tp9 : Int → Int, ∃ rd9 : Int → Int, ∃ sp9 : Int → Int, ∃ nb9 : Int → Int, ∃ mt9 : Int → Int, ∃ pl9 : Int → Int, ∃ op9 : Int → Int, ∃ no9 : Int → Int, ∃ od9 : Int, ∃ wc9 : Int, ∃ old9 : Int, ∃ cn9 : Int, ∃ i9 : Nat, ∃ Lp : Int → Int, ∃ lnp : Int → Int, ∃ tpp : Int → Int, ∃ rdp : Int → Int, ∃ news9 : Int, ∃ L9 : Int → Int, ∃ ln9 : Int → Int, ∃ cnt9 : Int, ∃ RL9 : Int → Int, ∃ rl9 : Int, ∃ r9 : Int, v_ = some (.int (iI r9)) ∧ w_ = [(wMain g x tpa (a 0) (r 0) (p 0) qa (ru 0) (w 0) sa bka taped 0), (wShelf g a L9 ln9 tp9 rd9 cnt9 re9 nws), (wRow g r m RL9 rl9), (wRules g ru kd9 fi9 se9 sg9 le9 de9 nx9 he9 ro9 rc9 re9 rr9), (wWalk g w (ru 0) sp9 nb9 mt9 pl9 op9 no9 od9 (stm + 1) wc9), (wPileH g p n sh old9 cn9), (wPool g ad (upS ss i9 (shs Lp lnp tpp rdp cnt re9 news9)) n)] ∧ (RT kd9 fi9 se9 sg9 le9 de9 nx9 he9 rc9 R9) ∧ ((re9 = re ∧ rc ≤ rc9 ∧ (∀ i, 0 ≤ i → i < rc → R9 i = R i)) ∨ re9 = re + 1) ∧ (0 ≤ stm + 1 ∧ ∀ i, 0 ≤ i → i < 10240 → 0 ≤ sp9 i ∧ sp9 i ≤ stm + 1) ∧ (PushIs n old cn old9 cn9 i9) ∧ (∀ t, 0 ≤ t → t < cnt → lnp t = ln t ∧ ∀ k, 0 ≤ k → k < ln t → Lp (600 * t + k) = L (600 * t + k)) ∧ (KeptOk R9 rc9 re9 (shs Lp lnp tpp rdp cnt re9 news9)) ∧ (TopsOk R9 rc9 L9 ln9 tp9 rd9 cnt9) ∧ (ShOk L9 ln9 cnt9) ∧ (NewsF (tx L) ln cnt (tx L9) ln9 cnt9 news9) ∧ (BR RL9) ∧ (TextSet (tx L) ln cnt t (fun k => tx L t (ln t - 1 - k)) (ln t) (tx L9) ln9 cnt9) ∧ (r9 = 0 ∨ r9 = 1) ∧ (r9 = 1 ↔ ∀ k, 0 ≤ k → k < ln t → tx L t (ln t - 1 - k) = tx L t k)) := by
  refine Ct.of (by decide) (Nat.le_of_ble_eq_true rfl) (lv := [(0, .ref x), (1, .int (iI t))]) rfl ?_
  intro E hE hR hnm
  have hc := hsh.1
  have hln := hsh.ln
  have hB := hsh.2.1
  have hl1 := hsh.2.2 t ht.1 ht.2
  have e0 : 0 + ln t = ln t := by omega
  refine r_aload_n 1 hE 0 dX8_turn_0 rfl rfl rfl ?_
  refine r_get 4 hE 0 0 ok8 4 dX8_turn_1 rfl wd_301 rfl rfl (by decide) rfl ?_
  refine r_iload_n 5 hE 1 dX8_turn_4 rfl rfl rfl ?_
  refine r_callV 8 hE [1] [0, 2, 3, 4, 5, 6] [(wShelf g a L ln tp rd cnt era nws)] [(wMain g x tpa (a 0) (r 0) (p 0) qa (ru 0) (w 0) sa bka taped told), (wRow g r m RL rlen), (wRules g ru kd fi se sg le de nx he ro rc re rr), (wWalk g w (ru 0) sp nb mt pl op no od stm wc), (wPileH g p n sh old cn), (wPool g ad ss n)] 0 5 ok5 [] (c_X5_has (by omega) (by omega)) dX8_turn_5 rfl rfl wd_764 wd_578 wd_579 wd_4 wd_580 ne_X5 np_X5_has (Nat.le_of_ble_eq_true rfl)  (by decide) (by decide) rfl (Nat.le_of_ble_eq_true rfl) rfl rfl rfl rfl (by decide) rfl (fun v1 f1 hp => ?_)
  obtain ⟨rfl, rfl⟩ := hp
  show G g E _ _ _ [(wShelf g a L ln tp rd cnt era nws), (wMain g x tpa (a 0) (r 0) (p 0) qa (ru 0) (w 0) sa bka taped told), (wRow g r m RL rlen), (wRules g ru kd fi se sg le de nx he ro rc re rr), (wWalk g w (ru 0) sp nb mt pl op no od stm wc), (wPileH g p n sh old cn), (wPool g ad ss n)] 8 [(0, .ref x), (1, .int (iI t))] [.int (iI (bI (0 ≤ t ∧ t < cnt)))]
  refine r_if_ne 11 17 hE dX8_turn_8 rfl (by decide) (bI_rg _) (fun c8 => ?_) (fun c8 => ?_)
  · skip
    have c8 := bI1 c8
    refine r_aload_n 18 hE 0 dX8_turn_17 rfl rfl rfl ?_
    refine r_get 21 hE 1 0 ok8 5 dX8_turn_18 rfl wd_302 rfl rfl (by decide) rfl ?_
    refine r_callV 24 hE [2] [0, 1, 3, 4, 5, 6] [(wRow g r m RL rlen)] [(wShelf g a L ln tp rd cnt era nws), (wMain g x tpa (a 0) (r 0) (p 0) qa (ru 0) (w 0) sa bka taped told), (wRules g ru kd fi se sg le de nx he ro rc re rr), (wWalk g w (ru 0) sp nb mt pl op no od stm wc), (wPileH g p n sh old cn), (wPool g ad ss n)] 0 2 ok2 [] (c_X2_clear) dX8_turn_21 rfl rfl wd_877 wd_549 wd_550 wd_5 wd_551 ne_X2 np_X2_clear (Nat.le_of_ble_eq_true rfl)  (by decide) (by decide) rfl (Nat.le_of_ble_eq_true rfl) rfl rfl rfl rfl (by decide) rfl (fun v1 f1 hp => ?_)
    obtain ⟨rfl, rfl⟩ := hp
    show G g E _ _ _ [(wRow g r m RL 0), (wShelf g a L ln tp rd cnt era nws), (wMain g x tpa (a 0) (r 0) (p 0) qa (ru 0) (w 0) sa bka taped told), (wRules g ru kd fi se sg le de nx he ro rc re rr), (wWalk g w (ru 0) sp nb mt pl op no od stm wc), (wPileH g p n sh old cn), (wPool g ad ss n)] 24 [(0, .ref x), (1, .int (iI t))] []
    refine r_aload_n 25 hE 0 dX8_turn_24 rfl rfl rfl ?_
    refine r_get 28 hE 2 0 ok8 5 dX8_turn_25 rfl wd_302 rfl rfl (by decide) rfl ?_
    refine r_aload_n 29 hE 0 dX8_turn_28 rfl rfl rfl ?_
    refine r_get 32 hE 2 0 ok8 4 dX8_turn_29 rfl wd_301 rfl rfl (by decide) rfl ?_
    refine r_iload_n 33 hE 1 dX8_turn_32 rfl rfl rfl ?_
    refine r_callV 36 hE [0, 1] [2, 3, 4, 5, 6] [(wRow g r m RL 0), (wShelf g a L ln tp rd cnt era nws)] [(wMain g x tpa (a 0) (r 0) (p 0) qa (ru 0) (w 0) sa bka taped told), (wRules g ru kd fi se sg le de nx he ro rc re rr), (wWalk g w (ru 0) sp nb mt pl op no od stm wc), (wPileH g p n sh old cn), (wPool g ad ss n)] 0 2 ok2 [] (c_X2_addWhole (by omega) (by omega) (hln) (hB) (by omega) (by omega)) dX8_turn_33 rfl rfl wd_900 wd_574 wd_575 wd_5 wd_576 ne_X2 np_X2_addWhole (Nat.le_of_ble_eq_true rfl)  (by decide) (by decide) rfl (Nat.le_of_ble_eq_true rfl) rfl rfl rfl rfl (by decide) rfl (fun v1 f1 hp => ?_)
    obtain ⟨rfl, rfl⟩ := hp
    show G g E _ _ _ [(wRow g r m (cpy L RL (t * 600) 0 (ln t)) (0 + ln t)), (wShelf g a L ln tp rd cnt era nws), (wMain g x tpa (a 0) (r 0) (p 0) qa (ru 0) (w 0) sa bka taped told), (wRules g ru kd fi se sg le de nx he ro rc re rr), (wWalk g w (ru 0) sp nb mt pl op no od stm wc), (wPileH g p n sh old cn), (wPool g ad ss n)] 36 [(0, .ref x), (1, .int (iI t))] []
    refine r_aload_n 37 hE 0 dX8_turn_36 rfl rfl rfl ?_
    refine r_get 40 hE 2 0 ok8 5 dX8_turn_37 rfl wd_302 rfl rfl (by decide) rfl ?_
    refine r_iconst 41 hE dX8_turn_40 rfl ?_
    refine r_callV 44 hE [0] [1, 2, 3, 4, 5, 6] [(wRow g r m (cpy L RL (t * 600) 0 (ln t)) (0 + ln t))] [(wShelf g a L ln tp rd cnt era nws), (wMain g x tpa (a 0) (r 0) (p 0) qa (ru 0) (w 0) sa bka taped told), (wRules g ru kd fi se sg le de nx he ro rc re rr), (wWalk g w (ru 0) sp nb mt pl op no od stm wc), (wPileH g p n sh old cn), (wPool g ad ss n)] 0 2 ok2 [] (c_X2_reverseFrom (by omega) (by omega) (BR_cpy hB hBR _ _ _)) dX8_turn_41 rfl rfl wd_914 wd_570 wd_571 wd_5 wd_572 ne_X2 np_X2_reverseFrom (Nat.le_of_ble_eq_true rfl)  (by decide) (by decide) rfl (Nat.le_of_ble_eq_true rfl) rfl rfl rfl rfl (by decide) rfl (fun v1 f1 hp => ?_)
    obtain ⟨RL9_41, rfl, rfl, h41_0, h41_1, h41_2⟩ := hp
    show G g E _ _ _ [(wRow g r m RL9_41 (0 + ln t)), (wShelf g a L ln tp rd cnt era nws), (wMain g x tpa (a 0) (r 0) (p 0) qa (ru 0) (w 0) sa bka taped told), (wRules g ru kd fi se sg le de nx he ro rc re rr), (wWalk g w (ru 0) sp nb mt pl op no od stm wc), (wPileH g p n sh old cn), (wPool g ad ss n)] 44 [(0, .ref x), (1, .int (iI t))] []
    have hat : ∀ k, 0 ≤ k → k < 0 + ln t → RL9_41 k = tx L t (ln t - 1 - k) := by
      intro k a b
      rw [h41_1 k a b, show 0 + (0 + ln t) - 1 - k = ln t - 1 - k by omega]
      exact whole_at (by omega)
    refine r_aload_n 45 hE 0 dX8_turn_44 rfl rfl rfl ?_
    refine r_get 48 hE 2 0 ok8 5 dX8_turn_45 rfl wd_302 rfl rfl (by decide) rfl ?_
    refine r_aload_n 49 hE 0 dX8_turn_48 rfl rfl rfl ?_
    refine r_get 52 hE 2 0 ok8 4 dX8_turn_49 rfl wd_301 rfl rfl (by decide) rfl ?_
    refine r_iload_n 53 hE 1 dX8_turn_52 rfl rfl rfl ?_
    refine r_callV 56 hE [0, 1] [2, 3, 4, 5, 6] [(wRow g r m RL9_41 (0 + ln t)), (wShelf g a L ln tp rd cnt era nws)] [(wMain g x tpa (a 0) (r 0) (p 0) qa (ru 0) (w 0) sa bka taped told), (wRules g ru kd fi se sg le de nx he ro rc re rr), (wWalk g w (ru 0) sp nb mt pl op no od stm wc), (wPileH g p n sh old cn), (wPool g ad ss n)] 0 2 ok2 [] (c_X2_isText (by omega) (by omega) (hln) (hB) (by omega) (h41_2) (by omega)) dX8_turn_53 rfl rfl wd_915 wd_916 wd_917 wd_5 wd_918 ne_X2 np_X2_isText (Nat.le_of_ble_eq_true rfl)  (by decide) (by decide) rfl (Nat.le_of_ble_eq_true rfl) rfl rfl rfl rfl (by decide) rfl (fun v1 f1 hp => ?_)
    obtain ⟨r9_53, rfl, rfl, h53_0, h53_1⟩ := hp
    show G g E _ _ _ [(wRow g r m RL9_41 (0 + ln t)), (wShelf g a L ln tp rd cnt era nws), (wMain g x tpa (a 0) (r 0) (p 0) qa (ru 0) (w 0) sa bka taped told), (wRules g ru kd fi se sg le de nx he ro rc re rr), (wWalk g w (ru 0) sp nb mt pl op no od stm wc), (wPileH g p n sh old cn), (wPool g ad ss n)] 56 [(0, .ref x), (1, .int (iI t))] [.int (iI r9_53)]
    refine r_istore_n 57 hE [(2, .int (iI r9_53)), (0, .ref x), (1, .int (iI t))] dX8_turn_56 rfl rfl (by decide) rfl ?_
    refine r_aload_n 58 hE 1 dX8_turn_57 rfl rfl rfl ?_
    refine r_iload_n 59 hE 2 dX8_turn_58 rfl rfl rfl ?_
    refine r_callV 62 hE [2, 1, 0, 3, 4, 5, 6] [] [(wMain g x tpa (a 0) (r 0) (p 0) qa (ru 0) (w 0) sa bka taped told), (wShelf g a L ln tp rd cnt era nws), (wRow g r m RL9_41 (0 + ln t)), (wRules g ru kd fi se sg le de nx he ro rc re rr), (wWalk g w (ru 0) sp nb mt pl op no od stm wc), (wPileH g p n sh old cn), (wPool g ad ss n)] [] 0 8 ok8 [] (c_X8_actOn (hT) (hsh) (by omega) (hto) (hce) (hWI) (by omega) (by omega) (by omega) (hsa) (hBs) (by omega) (by omega) (h41_2) (fun k a b => by rw [hat k a b]; exact hl1.2 _ (by omega) (by omega))) dX8_turn_59 rfl rfl wd_883 wd_885 ws_41 wd_1 wd_886 ne_X8 np_X8_actOn (Nat.le_of_ble_eq_true rfl)  (by decide) (by decide) rfl (Nat.le_of_ble_eq_true rfl) rfl rfl rfl rfl (by decide) rfl (fun v1 f1 hp => ?_)
    obtain ⟨kd9_59, fi9_59, se9_59, sg9_59, le9_59, de9_59, nx9_59, he9_59, rc9_59, R9_59, ro9_59, re9_59, rr9_59, tp9_59, rd9_59, sp9_59, nb9_59, mt9_59, pl9_59, op9_59, no9_59, od9_59, wc9_59, old9_59, cn9_59, i9_59, Lp_59, lnp_59, tpp_59, rdp_59, news9_59, rfl, rfl, h59_0, h59_1, h59_2, h59_3, h59_4, h59_5, h59_6, h59_7, h59_8⟩ := hp
    show G g E _ _ _ [(wMain g x tpa (a 0) (r 0) (p 0) qa (ru 0) (w 0) sa bka taped told), (wShelf g a (cpy RL9_41 L 0 (t * 600) (0 + ln t)) (up ln t (0 + ln t)) tp9_59 rd9_59 (max cnt (t + 1)) re9_59 nws), (wRow g r m RL9_41 (0 + ln t)), (wRules g ru kd9_59 fi9_59 se9_59 sg9_59 le9_59 de9_59 nx9_59 he9_59 ro9_59 rc9_59 re9_59 rr9_59), (wWalk g w (ru 0) sp9_59 nb9_59 mt9_59 pl9_59 op9_59 no9_59 od9_59 (stm + 1) wc9_59), (wPileH g p n sh old9_59 cn9_59), (wPool g ad (upS ss i9_59 (shs Lp_59 lnp_59 tpp_59 rdp_59 cnt re9_59 news9_59)) n)] 62 [(2, .int (iI r9_53)), (0, .ref x), (1, .int (iI t))] []
    refine r_aload_n 63 hE 1 dX8_turn_62 rfl rfl rfl ?_
    refine r_iload_n 64 hE 0 dX8_turn_63 rfl rfl rfl ?_
    refine r_if_eq 67 71 hE dX8_turn_64 rfl (by decide) (by omega) (fun c64 => ?_) (fun c64 => ?_)
    · skip
      refine r_iconst 72 hE dX8_turn_71 rfl ?_
      refine r_callV 75 hE [0] [1, 2, 3, 4, 5, 6] [(wMain g x tpa (a 0) (r 0) (p 0) qa (ru 0) (w 0) sa bka taped told)] [(wShelf g a (cpy RL9_41 L 0 (t * 600) (0 + ln t)) (up ln t (0 + ln t)) tp9_59 rd9_59 (max cnt (t + 1)) re9_59 nws), (wRow g r m RL9_41 (0 + ln t)), (wRules g ru kd9_59 fi9_59 se9_59 sg9_59 le9_59 de9_59 nx9_59 he9_59 ro9_59 rc9_59 re9_59 rr9_59), (wWalk g w (ru 0) sp9_59 nb9_59 mt9_59 pl9_59 op9_59 no9_59 od9_59 (stm + 1) wc9_59), (wPileH g p n sh old9_59 cn9_59), (wPool g ad (upS ss i9_59 (shs Lp_59 lnp_59 tpp_59 rdp_59 cnt re9_59 news9_59)) n)] 0 8 ok8 [] (c_X8_answer) dX8_turn_72 rfl rfl wd_739 wd_741 ws_33 wd_1 wd_742 ne_X8 np_X8_answer (Nat.le_of_ble_eq_true rfl)  (by decide) (by decide) rfl (Nat.le_of_ble_eq_true rfl) rfl rfl rfl rfl (by decide) rfl (fun v1 f1 hp => ?_)
      obtain ⟨rfl, rfl⟩ := hp
      show G g E _ _ _ [(wMain g x tpa (a 0) (r 0) (p 0) qa (ru 0) (w 0) sa bka taped 0), (wShelf g a (cpy RL9_41 L 0 (t * 600) (0 + ln t)) (up ln t (0 + ln t)) tp9_59 rd9_59 (max cnt (t + 1)) re9_59 nws), (wRow g r m RL9_41 (0 + ln t)), (wRules g ru kd9_59 fi9_59 se9_59 sg9_59 le9_59 de9_59 nx9_59 he9_59 ro9_59 rc9_59 re9_59 rr9_59), (wWalk g w (ru 0) sp9_59 nb9_59 mt9_59 pl9_59 op9_59 no9_59 od9_59 (stm + 1) wc9_59), (wPileH g p n sh old9_59 cn9_59), (wPool g ad (upS ss i9_59 (shs Lp_59 lnp_59 tpp_59 rdp_59 cnt re9_59 news9_59)) n)] 75 [(2, .int (iI r9_53)), (0, .ref x), (1, .int (iI t))] [.int (iI 0)]
      refine r_ireturn hE hR [(wMain g x tpa (a 0) (r 0) (p 0) qa (ru 0) (w 0) sa bka taped 0), (wShelf g a (cpy RL9_41 L 0 (t * 600) (0 + ln t)) (up ln t (0 + ln t)) tp9_59 rd9_59 (max cnt (t + 1)) re9_59 nws), (wRow g r m RL9_41 (0 + ln t)), (wRules g ru kd9_59 fi9_59 se9_59 sg9_59 le9_59 de9_59 nx9_59 he9_59 ro9_59 rc9_59 re9_59 rr9_59), (wWalk g w (ru 0) sp9_59 nb9_59 mt9_59 pl9_59 op9_59 no9_59 od9_59 (stm + 1) wc9_59), (wPileH g p n sh old9_59 cn9_59), (wPool g ad (upS ss i9_59 (shs Lp_59 lnp_59 tpp_59 rdp_59 cnt re9_59 news9_59)) n)] dX8_turn_75 (Nat.le_of_ble_eq_true rfl) (Nat.le_of_ble_eq_true rfl) rfl ?_
      rw [e0] at hat h53_1
      rw [e0] at h59_6 h59_7 h59_8
      have hiff : r9_53 = 1 ↔ ∀ k, 0 ≤ k → k < ln t → tx L t (ln t - 1 - k) = tx L t k := by
        rw [h53_1]
        exact ⟨fun z k a b => by rw [← hat k a b]; exact z k a b, fun z k a b => by rw [hat k a b]; exact z k a b⟩
      first
        | (have h0 : r9_53 = 0 := by omega); (exact ⟨kd9_59, fi9_59, se9_59, sg9_59, le9_59, de9_59, nx9_59, he9_59, rc9_59, R9_59, ro9_59, re9_59, rr9_59, tp9_59, rd9_59, sp9_59, nb9_59, mt9_59, pl9_59, op9_59, no9_59, od9_59, wc9_59, old9_59, cn9_59, i9_59, Lp_59, lnp_59, tpp_59, rdp_59, news9_59, _, _, _, _, _, 0, rfl, by rw [e0], h59_0, h59_1, h59_2, h59_3, h59_4, h59_5, h59_6, h59_7, h59_8.F, h41_2, TextSet.of hln (by omega) (by omega) hat, Or.inl rfl, by rw [← hiff, h0]⟩)
        | (have h0 : r9_53 = 1 := by omega); (exact ⟨kd9_59, fi9_59, se9_59, sg9_59, le9_59, de9_59, nx9_59, he9_59, rc9_59, R9_59, ro9_59, re9_59, rr9_59, tp9_59, rd9_59, sp9_59, nb9_59, mt9_59, pl9_59, op9_59, no9_59, od9_59, wc9_59, old9_59, cn9_59, i9_59, Lp_59, lnp_59, tpp_59, rdp_59, news9_59, _, _, _, _, _, 1, rfl, by rw [e0], h59_0, h59_1, h59_2, h59_3, h59_4, h59_5, h59_6, h59_7, h59_8.F, h41_2, TextSet.of hln (by omega) (by omega) hat, Or.inr rfl, by rw [← hiff, h0]⟩)
    · skip
      refine r_iconst 68 hE dX8_turn_67 rfl ?_
      refine r_goto 72 hE dX8_turn_68 (by decide) ?_
      refine r_callV 75 hE [0] [1, 2, 3, 4, 5, 6] [(wMain g x tpa (a 0) (r 0) (p 0) qa (ru 0) (w 0) sa bka taped told)] [(wShelf g a (cpy RL9_41 L 0 (t * 600) (0 + ln t)) (up ln t (0 + ln t)) tp9_59 rd9_59 (max cnt (t + 1)) re9_59 nws), (wRow g r m RL9_41 (0 + ln t)), (wRules g ru kd9_59 fi9_59 se9_59 sg9_59 le9_59 de9_59 nx9_59 he9_59 ro9_59 rc9_59 re9_59 rr9_59), (wWalk g w (ru 0) sp9_59 nb9_59 mt9_59 pl9_59 op9_59 no9_59 od9_59 (stm + 1) wc9_59), (wPileH g p n sh old9_59 cn9_59), (wPool g ad (upS ss i9_59 (shs Lp_59 lnp_59 tpp_59 rdp_59 cnt re9_59 news9_59)) n)] 0 8 ok8 [] (c_X8_answer) dX8_turn_72 rfl rfl wd_739 wd_741 ws_33 wd_1 wd_742 ne_X8 np_X8_answer (Nat.le_of_ble_eq_true rfl)  (by decide) (by decide) rfl (Nat.le_of_ble_eq_true rfl) rfl rfl rfl rfl (by decide) rfl (fun v1 f1 hp => ?_)
      obtain ⟨rfl, rfl⟩ := hp
      show G g E _ _ _ [(wMain g x tpa (a 0) (r 0) (p 0) qa (ru 0) (w 0) sa bka taped 0), (wShelf g a (cpy RL9_41 L 0 (t * 600) (0 + ln t)) (up ln t (0 + ln t)) tp9_59 rd9_59 (max cnt (t + 1)) re9_59 nws), (wRow g r m RL9_41 (0 + ln t)), (wRules g ru kd9_59 fi9_59 se9_59 sg9_59 le9_59 de9_59 nx9_59 he9_59 ro9_59 rc9_59 re9_59 rr9_59), (wWalk g w (ru 0) sp9_59 nb9_59 mt9_59 pl9_59 op9_59 no9_59 od9_59 (stm + 1) wc9_59), (wPileH g p n sh old9_59 cn9_59), (wPool g ad (upS ss i9_59 (shs Lp_59 lnp_59 tpp_59 rdp_59 cnt re9_59 news9_59)) n)] 75 [(2, .int (iI r9_53)), (0, .ref x), (1, .int (iI t))] [.int (iI 1)]
      refine r_ireturn hE hR [(wMain g x tpa (a 0) (r 0) (p 0) qa (ru 0) (w 0) sa bka taped 0), (wShelf g a (cpy RL9_41 L 0 (t * 600) (0 + ln t)) (up ln t (0 + ln t)) tp9_59 rd9_59 (max cnt (t + 1)) re9_59 nws), (wRow g r m RL9_41 (0 + ln t)), (wRules g ru kd9_59 fi9_59 se9_59 sg9_59 le9_59 de9_59 nx9_59 he9_59 ro9_59 rc9_59 re9_59 rr9_59), (wWalk g w (ru 0) sp9_59 nb9_59 mt9_59 pl9_59 op9_59 no9_59 od9_59 (stm + 1) wc9_59), (wPileH g p n sh old9_59 cn9_59), (wPool g ad (upS ss i9_59 (shs Lp_59 lnp_59 tpp_59 rdp_59 cnt re9_59 news9_59)) n)] dX8_turn_75 (Nat.le_of_ble_eq_true rfl) (Nat.le_of_ble_eq_true rfl) rfl ?_
      rw [e0] at hat h53_1
      rw [e0] at h59_6 h59_7 h59_8
      have hiff : r9_53 = 1 ↔ ∀ k, 0 ≤ k → k < ln t → tx L t (ln t - 1 - k) = tx L t k := by
        rw [h53_1]
        exact ⟨fun z k a b => by rw [← hat k a b]; exact z k a b, fun z k a b => by rw [hat k a b]; exact z k a b⟩
      first
        | (have h0 : r9_53 = 0 := by omega); (exact ⟨kd9_59, fi9_59, se9_59, sg9_59, le9_59, de9_59, nx9_59, he9_59, rc9_59, R9_59, ro9_59, re9_59, rr9_59, tp9_59, rd9_59, sp9_59, nb9_59, mt9_59, pl9_59, op9_59, no9_59, od9_59, wc9_59, old9_59, cn9_59, i9_59, Lp_59, lnp_59, tpp_59, rdp_59, news9_59, _, _, _, _, _, 0, rfl, by rw [e0], h59_0, h59_1, h59_2, h59_3, h59_4, h59_5, h59_6, h59_7, h59_8.F, h41_2, TextSet.of hln (by omega) (by omega) hat, Or.inl rfl, by rw [← hiff, h0]⟩)
        | (have h0 : r9_53 = 1 := by omega); (exact ⟨kd9_59, fi9_59, se9_59, sg9_59, le9_59, de9_59, nx9_59, he9_59, rc9_59, R9_59, ro9_59, re9_59, rr9_59, tp9_59, rd9_59, sp9_59, nb9_59, mt9_59, pl9_59, op9_59, no9_59, od9_59, wc9_59, old9_59, cn9_59, i9_59, Lp_59, lnp_59, tpp_59, rdp_59, news9_59, _, _, _, _, _, 1, rfl, by rw [e0], h59_0, h59_1, h59_2, h59_3, h59_4, h59_5, h59_6, h59_7, h59_8.F, h41_2, TextSet.of hln (by omega) (by omega) hat, Or.inr rfl, by rw [← hiff, h0]⟩)
  · skip
    have c8 := bI0 c8
    omega
set_option maxHeartbeats 4000000 in
set_option maxRecDepth 100000 in
theorem c_X8_turn_no {g : Gm} {a : Nat → Nat} {L ln tp rd : Int → Int} {cnt era nws : Int} {x tpa da pa qa rua wa sa bka : Nat} {taped told : Int} {t : Int} (hsh : ShOk L ln cnt) (ht : -2147483648 ≤ t ∧ t ≤ 2147483647) (hno : ¬ (0 ≤ t ∧ t < cnt)) : Ct g 6 0 0 yX8_turn cX8_turn 3 (some .int) [.ref x, .int (iI t)] [(wMain g x tpa (a 0) da pa qa rua wa sa bka taped told), (wShelf g a L ln tp rd cnt era nws)] (fun v_ w_ => v_ = some (.int (iI (-1))) ∧ w_ = [(wMain g x tpa (a 0) da pa qa rua wa sa bka taped 2), (wShelf g a L ln tp rd cnt era nws)]) := by
  refine Ct.of (by decide) (Nat.le_of_ble_eq_true rfl) (lv := [(0, .ref x), (1, .int (iI t))]) rfl ?_
  intro E hE hR hnm
  have hc := hsh.1
  have hln := hsh.ln
  have hB := hsh.2.1
  refine r_aload_n 1 hE 0 dX8_turn_0 rfl rfl rfl ?_
  refine r_get 4 hE 0 0 ok8 4 dX8_turn_1 rfl wd_301 rfl rfl (by decide) rfl ?_
  refine r_iload_n 5 hE 1 dX8_turn_4 rfl rfl rfl ?_
  refine r_callV 8 hE [1] [0] [(wShelf g a L ln tp rd cnt era nws)] [(wMain g x tpa (a 0) da pa qa rua wa sa bka taped told)] 0 5 ok5 [] (c_X5_has (by omega) (by omega)) dX8_turn_5 rfl rfl wd_764 wd_578 wd_579 wd_4 wd_580 ne_X5 np_X5_has (Nat.le_of_ble_eq_true rfl)  (by decide) (by decide) rfl (Nat.le_of_ble_eq_true rfl) rfl rfl rfl rfl (by decide) rfl (fun v1 f1 hp => ?_)
  obtain ⟨rfl, rfl⟩ := hp
  show G g E _ _ _ [(wShelf g a L ln tp rd cnt era nws), (wMain g x tpa (a 0) da pa qa rua wa sa bka taped told)] 8 [(0, .ref x), (1, .int (iI t))] [.int (iI (bI (0 ≤ t ∧ t < cnt)))]
  refine r_if_ne 11 17 hE dX8_turn_8 rfl (by decide) (bI_rg _) (fun c8 => ?_) (fun c8 => ?_)
  · skip
    have c8 := bI1 c8
    exact absurd c8 hno
  · skip
    have c8 := bI0 c8
    refine r_aload_n 12 hE 0 dX8_turn_11 rfl rfl rfl ?_
    refine r_iconst 13 hE dX8_turn_12 rfl ?_
    refine r_callV 16 hE [1] [0] [(wMain g x tpa (a 0) da pa qa rua wa sa bka taped told)] [(wShelf g a L ln tp rd cnt era nws)] 0 8 ok8 [] (c_X8_refuse) dX8_turn_13 rfl rfl wd_347 wd_349 ws_1 wd_1 wd_350 ne_X8 np_X8_refuse (Nat.le_of_ble_eq_true rfl)  (by decide) (by decide) rfl (Nat.le_of_ble_eq_true rfl) rfl rfl rfl rfl (by decide) rfl (fun v1 f1 hp => ?_)
    obtain ⟨rfl, rfl⟩ := hp
    show G g E _ _ _ [(wMain g x tpa (a 0) da pa qa rua wa sa bka taped 2), (wShelf g a L ln tp rd cnt era nws)] 16 [(0, .ref x), (1, .int (iI t))] [.int (iI (-1))]
    refine r_ireturn hE hR [(wMain g x tpa (a 0) da pa qa rua wa sa bka taped 2), (wShelf g a L ln tp rd cnt era nws)] dX8_turn_16 (Nat.le_of_ble_eq_true rfl) (Nat.le_of_ble_eq_true rfl) rfl ?_
    exact ⟨retI (rfl), rfl⟩
set_option maxHeartbeats 4000000 in
set_option maxRecDepth 100000 in
theorem c_X8_rename {g : Gm} {a : Nat → Nat} {L ln tp rd : Int → Int} {cnt era nws : Int} {r : Nat → Nat} {m : Nat} {RL : Int → Int} {rlen : Int} {ru : Nat → Nat} {kd fi se sg le de nx he ro : Int → Int} {rc re rr : Int} {R : Int → Rl} {w : Nat → Nat} {sp nb mt pl op no : Int → Int} {od stm wc : Int} {p : Nat → Nat} {n : Nat} {sh : Nat → Option Nat} {old cn : Int} {ad : Nat → Nat → Nat} {ss : Nat → ShS} {x tpa qa sa bka : Nat} {taped told : Int} {t l_ o_ : Int} (hT : RT kd fi se sg le de nx he rc R) (hsh : ShOk L ln cnt) (hre : 0 ≤ re ∧ re ≤ 900000 ∧ -1 ≤ era ∧ era ≤ re) (hto : era = re → TopsOk R rc L ln tp rd cnt) (hce : 0 < cnt → era = re) (hWI : 0 ≤ stm ∧ ∀ i, 0 ≤ i → i < 10240 → 0 ≤ sp i ∧ sp i ≤ stm) (hs2 : stm ≤ 1500000000) (hpn : 1 ≤ (n : Int) ∧ (n : Int) ≤ 8) (hpo : 0 ≤ old ∧ old < (n : Int) ∧ 0 ≤ cn ∧ cn ≤ (n : Int)) (hsa : ∀ i, i < n → sh i = some ((ad i) 0)) (hBs : ∀ i, i < n → BR (ss i).L) (hm6 : (m : Int) = 600) (hBR : BR RL) (ht : 0 ≤ t ∧ t < cnt) (hlo : (0 ≤ l_ ∧ l_ < 26) ∧ (0 ≤ o_ ∧ o_ < 26) ∧ l_ ≠ o_) (hcc : cntF (tx L t) l_ (ln t) ≠ 0) : Ct g 6 0 0 yX8_rename cX8_rename 5 (some .int) [.ref x, .int (iI t), .int (iI l_), .int (iI o_)] [(wMain g x tpa (a 0) (r 0) (p 0) qa (ru 0) (w 0) sa bka taped told), (wShelf g a L ln tp rd cnt era nws), (wRow g r m RL rlen), (wRules g ru kd fi se sg le de nx he ro rc re rr), (wWalk g w (ru 0) sp nb mt pl op no od stm wc), (wPileH g p n sh old cn), (wPool g ad ss n)] (fun v_ w_ => ∃ kd9 : Int → Int, ∃ fi9 : Int → Int, ∃ se9 : Int → Int, ∃ sg9 : Int → Int, ∃ le9 : Int → Int, ∃ de9 : Int → Int, ∃ nx9 : Int → Int, ∃ he9 : Int → Int, ∃ rc9 : Int, ∃ R9 : Int → Rl, ∃ ro9 : Int → Int, ∃ re9 : Int, ∃ rr9 : Int, ∃ tp9 : Int → Int, ∃ rd9 : Int → Int, ∃ sp9 : Int → Int, ∃ nb9 : Int → Int, ∃ mt9 : Int → Int, ∃ pl9 : Int → Int, ∃ op9 : Int → Int, ∃ no9 : Int → Int, ∃ od9 : Int, ∃ wc9 : Int, ∃ old9 : Int, ∃ cn9 : Int, ∃ i9 : Nat, ∃ Lp : Int → Int, ∃ lnp : Int → Int, ∃ tpp : Int → Int, ∃ rdp : Int → Int, ∃ news9 : Int, ∃ L9 : Int → Int, ∃ ln9 : Int → Int, ∃ cnt9 : Int, ∃ RL9 : Int → Int, ∃ rl9 : Int, v_ = some (.int (iI (cntF (tx L t) l_ (ln t)))) ∧ w_ = [(wMain g x tpa (a 0) (r 0) (p 0) qa (ru 0) (w 0) sa bka taped 0), (wShelf g a L9 ln9 tp9 rd9 cnt9 re9 nws), (wRow g r m RL9 rl9), (wRules g ru kd9 fi9 se9 sg9 le9 de9 nx9 he9 ro9 rc9 re9 rr9), (wWalk g w (ru 0) sp9 nb9 mt9 pl9 op9 no9 od9 (stm + 1) wc9), (wPileH g p n sh old9 cn9), (wPool g ad (upS ss i9 (shs Lp lnp tpp rdp cnt re9 news9)) n)] ∧ (RT kd9 fi9 se9 sg9 le9 de9 nx9 he9 rc9 R9) ∧ ((re9 = re ∧ rc ≤ rc9 ∧ (∀ i, 0 ≤ i → i < rc → R9 i = R i)) ∨ re9 = re + 1) ∧ (0 ≤ stm + 1 ∧ ∀ i, 0 ≤ i → i < 10240 → 0 ≤ sp9 i ∧ sp9 i ≤ stm + 1) ∧ (PushIs n old cn old9 cn9 i9) ∧ (∀ t, 0 ≤ t → t < cnt → lnp t = ln t ∧ ∀ k, 0 ≤ k → k < ln t → Lp (600 * t + k) = L (600 * t + k)) ∧ (KeptOk R9 rc9 re9 (shs Lp lnp tpp rdp cnt re9 news9)) ∧ (TopsOk R9 rc9 L9 ln9 tp9 rd9 cnt9) ∧ (ShOk L9 ln9 cnt9) ∧ (NewsF (tx L) ln cnt (tx L9) ln9 cnt9 news9) ∧ (BR RL9) ∧ (TextSet (tx L) ln cnt t (fun k => if tx L t k = l_ then o_ else tx L t k) (ln t) (tx L9) ln9 cnt9)) := by
  refine Ct.of (by decide) (Nat.le_of_ble_eq_true rfl) (lv := [(0, .ref x), (1, .int (iI t)), (2, .int (iI l_)), (3, .int (iI o_))]) rfl ?_
  intro E hE hR hnm
  have hc := hsh.1
  have hln := hsh.ln
  have hB := hsh.2.1
  have hl1 := hsh.2.2 t ht.1 ht.2
  have e0 : 0 + ln t = ln t := by omega
  have hcb := cntF_bd (tx L t) l_ (n := ln t) (by omega)
  refine r_iload_n 1 hE 2 dX8_rename_0 rfl rfl rfl ?_
  refine r_callS 4 hE [] [0, 1, 2, 3, 4, 5, 6] [] [(wMain g x tpa (a 0) (r 0) (p 0) qa (ru 0) (w 0) sa bka taped told), (wShelf g a L ln tp rd cnt era nws), (wRow g r m RL rlen), (wRules g ru kd fi se sg le de nx he ro rc re rr), (wWalk g w (ru 0) sp nb mt pl op no od stm wc), (wPileH g p n sh old cn), (wPool g ad ss n)] [] (c_X8_isLetter (by omega)) dX8_rename_1 rfl wd_925 wd_926 wd_1 wd_927 ne_X8 np_X8_isLetter (Nat.le_of_ble_eq_true rfl)  (by decide) (by decide) rfl (Nat.le_of_ble_eq_true rfl) rfl rfl rfl rfl (by decide) (fun v1 f1 hp => ?_)
  obtain ⟨rfl, rfl⟩ := hp
  show G g E _ _ _ [(wMain g x tpa (a 0) (r 0) (p 0) qa (ru 0) (w 0) sa bka taped told), (wShelf g a L ln tp rd cnt era nws), (wRow g r m RL rlen), (wRules g ru kd fi se sg le de nx he ro rc re rr), (wWalk g w (ru 0) sp nb mt pl op no od stm wc), (wPileH g p n sh old cn), (wPool g ad ss n)] 4 [(0, .ref x), (1, .int (iI t)), (2, .int (iI l_)), (3, .int (iI o_))] [.int (iI (bI (0 ≤ l_ ∧ l_ < 26)))]
  refine r_if_eq 7 14 hE dX8_rename_4 rfl (by decide) (bI_rg _) (fun c4 => ?_) (fun c4 => ?_)
  · skip
    have c4 := bI0 c4
    omega
  · skip
    have c4 := bI1 c4
    refine r_iload_n 8 hE 3 dX8_rename_7 rfl rfl rfl ?_
    refine r_callS 11 hE [] [0, 1, 2, 3, 4, 5, 6] [] [(wMain g x tpa (a 0) (r 0) (p 0) qa (ru 0) (w 0) sa bka taped told), (wShelf g a L ln tp rd cnt era nws), (wRow g r m RL rlen), (wRules g ru kd fi se sg le de nx he ro rc re rr), (wWalk g w (ru 0) sp nb mt pl op no od stm wc), (wPileH g p n sh old cn), (wPool g ad ss n)] [] (c_X8_isLetter (by omega)) dX8_rename_8 rfl wd_925 wd_926 wd_1 wd_927 ne_X8 np_X8_isLetter (Nat.le_of_ble_eq_true rfl)  (by decide) (by decide) rfl (Nat.le_of_ble_eq_true rfl) rfl rfl rfl rfl (by decide) (fun v1 f1 hp => ?_)
    obtain ⟨rfl, rfl⟩ := hp
    show G g E _ _ _ [(wMain g x tpa (a 0) (r 0) (p 0) qa (ru 0) (w 0) sa bka taped told), (wShelf g a L ln tp rd cnt era nws), (wRow g r m RL rlen), (wRules g ru kd fi se sg le de nx he ro rc re rr), (wWalk g w (ru 0) sp nb mt pl op no od stm wc), (wPileH g p n sh old cn), (wPool g ad ss n)] 11 [(0, .ref x), (1, .int (iI t)), (2, .int (iI l_)), (3, .int (iI o_))] [.int (iI (bI (0 ≤ o_ ∧ o_ < 26)))]
    refine r_if_ne 14 20 hE dX8_rename_11 rfl (by decide) (bI_rg _) (fun c11 => ?_) (fun c11 => ?_)
    · skip
      have c11 := bI1 c11
      refine r_aload_n 21 hE 0 dX8_rename_20 rfl rfl rfl ?_
      refine r_get 24 hE 0 0 ok8 4 dX8_rename_21 rfl wd_301 rfl rfl (by decide) rfl ?_
      refine r_iload_n 25 hE 1 dX8_rename_24 rfl rfl rfl ?_
      refine r_callV 28 hE [1] [0, 2, 3, 4, 5, 6] [(wShelf g a L ln tp rd cnt era nws)] [(wMain g x tpa (a 0) (r 0) (p 0) qa (ru 0) (w 0) sa bka taped told), (wRow g r m RL rlen), (wRules g ru kd fi se sg le de nx he ro rc re rr), (wWalk g w (ru 0) sp nb mt pl op no od stm wc), (wPileH g p n sh old cn), (wPool g ad ss n)] 0 5 ok5 [] (c_X5_has (by omega) (by omega)) dX8_rename_25 rfl rfl wd_764 wd_578 wd_579 wd_4 wd_580 ne_X5 np_X5_has (Nat.le_of_ble_eq_true rfl)  (by decide) (by decide) rfl (Nat.le_of_ble_eq_true rfl) rfl rfl rfl rfl (by decide) rfl (fun v1 f1 hp => ?_)
      obtain ⟨rfl, rfl⟩ := hp
      show G g E _ _ _ [(wShelf g a L ln tp rd cnt era nws), (wMain g x tpa (a 0) (r 0) (p 0) qa (ru 0) (w 0) sa bka taped told), (wRow g r m RL rlen), (wRules g ru kd fi se sg le de nx he ro rc re rr), (wWalk g w (ru 0) sp nb mt pl op no od stm wc), (wPileH g p n sh old cn), (wPool g ad ss n)] 28 [(0, .ref x), (1, .int (iI t)), (2, .int (iI l_)), (3, .int (iI o_))] [.int (iI (bI (0 ≤ t ∧ t < cnt)))]
      refine r_if_ne 31 37 hE dX8_rename_28 rfl (by decide) (bI_rg _) (fun c28 => ?_) (fun c28 => ?_)
      · skip
        have c28 := bI1 c28
        refine r_iload_n 38 hE 2 dX8_rename_37 rfl rfl rfl ?_
        refine r_iload_n 39 hE 3 dX8_rename_38 rfl rfl rfl ?_
        refine r_icmp_ne 42 48 hE dX8_rename_39 rfl (by decide) (by omega) (fun c39 => ?_) (fun c39 => ?_)
        · skip
          refine r_aload_n 49 hE 0 dX8_rename_48 rfl rfl rfl ?_
          refine r_get 52 hE 1 0 ok8 4 dX8_rename_49 rfl wd_301 rfl rfl (by decide) rfl ?_
          refine r_iload_n 53 hE 1 dX8_rename_52 rfl rfl rfl ?_
          refine r_iload_n 54 hE 2 dX8_rename_53 rfl rfl rfl ?_
          refine r_aload_n 55 hE 0 dX8_rename_54 rfl rfl rfl ?_
          refine r_get 58 hE 1 0 ok8 4 dX8_rename_55 rfl wd_301 rfl rfl (by decide) rfl ?_
          refine r_iload_n 59 hE 1 dX8_rename_58 rfl rfl rfl ?_
          refine r_callV 62 hE [0] [1, 2, 3, 4, 5, 6] [(wShelf g a L ln tp rd cnt era nws)] [(wMain g x tpa (a 0) (r 0) (p 0) qa (ru 0) (w 0) sa bka taped told), (wRow g r m RL rlen), (wRules g ru kd fi se sg le de nx he ro rc re rr), (wWalk g w (ru 0) sp nb mt pl op no od stm wc), (wPileH g p n sh old cn), (wPool g ad ss n)] 0 5 ok5 [.int (iI l_), .int (iI t), .ref (a 0)] (c_X5_lengthOf (by omega) (by omega)) dX8_rename_59 rfl rfl wd_630 wd_631 wd_632 wd_4 wd_633 ne_X5 np_X5_lengthOf (Nat.le_of_ble_eq_true rfl)  (by decide) (by decide) rfl (Nat.le_of_ble_eq_true rfl) rfl rfl rfl rfl (by decide) rfl (fun v1 f1 hp => ?_)
          obtain ⟨rfl, rfl⟩ := hp
          show G g E _ _ _ [(wShelf g a L ln tp rd cnt era nws), (wMain g x tpa (a 0) (r 0) (p 0) qa (ru 0) (w 0) sa bka taped told), (wRow g r m RL rlen), (wRules g ru kd fi se sg le de nx he ro rc re rr), (wWalk g w (ru 0) sp nb mt pl op no od stm wc), (wPileH g p n sh old cn), (wPool g ad ss n)] 62 [(0, .ref x), (1, .int (iI t)), (2, .int (iI l_)), (3, .int (iI o_))] [.int (iI (ln t)), .int (iI l_), .int (iI t), .ref (a 0)]
          refine r_callV 65 hE [0] [1, 2, 3, 4, 5, 6] [(wShelf g a L ln tp rd cnt era nws)] [(wMain g x tpa (a 0) (r 0) (p 0) qa (ru 0) (w 0) sa bka taped told), (wRow g r m RL rlen), (wRules g ru kd fi se sg le de nx he ro rc re rr), (wWalk g w (ru 0) sp nb mt pl op no od stm wc), (wPileH g p n sh old cn), (wPool g ad ss n)] 0 5 ok5 [] (c_X5_countAhead (by omega) (by omega) (hln) (hB) (by omega) (by omega)) dX8_rename_62 rfl rfl wd_928 wd_929 wd_930 wd_4 wd_931 ne_X5 np_X5_countAhead (Nat.le_of_ble_eq_true rfl)  (by decide) (by decide) rfl (Nat.le_of_ble_eq_true rfl) rfl rfl rfl rfl (by decide) rfl (fun v1 f1 hp => ?_)
          obtain ⟨rfl, rfl⟩ := hp
          show G g E _ _ _ [(wShelf g a L ln tp rd cnt era nws), (wMain g x tpa (a 0) (r 0) (p 0) qa (ru 0) (w 0) sa bka taped told), (wRow g r m RL rlen), (wRules g ru kd fi se sg le de nx he ro rc re rr), (wWalk g w (ru 0) sp nb mt pl op no od stm wc), (wPileH g p n sh old cn), (wPool g ad ss n)] 65 [(0, .ref x), (1, .int (iI t)), (2, .int (iI l_)), (3, .int (iI o_))] [.int (iI (cntF (tx L t) l_ (ln t)))]
          refine r_istore 67 hE [(4, .int (iI (cntF (tx L t) l_ (ln t)))), (0, .ref x), (1, .int (iI t)), (2, .int (iI l_)), (3, .int (iI o_))] dX8_rename_65 rfl (by decide) rfl ?_
          refine r_iload 69 hE 0 dX8_rename_67 rfl rfl ?_
          refine r_if_ne 72 78 hE dX8_rename_69 rfl (by decide) (by omega) (fun c69 => ?_) (fun c69 => ?_)
          · skip
            refine r_aload_n 79 hE 1 dX8_rename_78 rfl rfl rfl ?_
            refine r_get 82 hE 1 0 ok8 5 dX8_rename_79 rfl wd_302 rfl rfl (by decide) rfl ?_
            refine r_callV 85 hE [2] [0, 1, 3, 4, 5, 6] [(wRow g r m RL rlen)] [(wShelf g a L ln tp rd cnt era nws), (wMain g x tpa (a 0) (r 0) (p 0) qa (ru 0) (w 0) sa bka taped told), (wRules g ru kd fi se sg le de nx he ro rc re rr), (wWalk g w (ru 0) sp nb mt pl op no od stm wc), (wPileH g p n sh old cn), (wPool g ad ss n)] 0 2 ok2 [] (c_X2_clear) dX8_rename_82 rfl rfl wd_877 wd_549 wd_550 wd_5 wd_551 ne_X2 np_X2_clear (Nat.le_of_ble_eq_true rfl)  (by decide) (by decide) rfl (Nat.le_of_ble_eq_true rfl) rfl rfl rfl rfl (by decide) rfl (fun v1 f1 hp => ?_)
            obtain ⟨rfl, rfl⟩ := hp
            show G g E _ _ _ [(wRow g r m RL 0), (wShelf g a L ln tp rd cnt era nws), (wMain g x tpa (a 0) (r 0) (p 0) qa (ru 0) (w 0) sa bka taped told), (wRules g ru kd fi se sg le de nx he ro rc re rr), (wWalk g w (ru 0) sp nb mt pl op no od stm wc), (wPileH g p n sh old cn), (wPool g ad ss n)] 85 [(4, .int (iI (cntF (tx L t) l_ (ln t)))), (0, .ref x), (1, .int (iI t)), (2, .int (iI l_)), (3, .int (iI o_))] []
            refine r_aload_n 86 hE 1 dX8_rename_85 rfl rfl rfl ?_
            refine r_get 89 hE 2 0 ok8 5 dX8_rename_86 rfl wd_302 rfl rfl (by decide) rfl ?_
            refine r_aload_n 90 hE 1 dX8_rename_89 rfl rfl rfl ?_
            refine r_get 93 hE 2 0 ok8 4 dX8_rename_90 rfl wd_301 rfl rfl (by decide) rfl ?_
            refine r_iload_n 94 hE 2 dX8_rename_93 rfl rfl rfl ?_
            refine r_callV 97 hE [0, 1] [2, 3, 4, 5, 6] [(wRow g r m RL 0), (wShelf g a L ln tp rd cnt era nws)] [(wMain g x tpa (a 0) (r 0) (p 0) qa (ru 0) (w 0) sa bka taped told), (wRules g ru kd fi se sg le de nx he ro rc re rr), (wWalk g w (ru 0) sp nb mt pl op no od stm wc), (wPileH g p n sh old cn), (wPool g ad ss n)] 0 2 ok2 [] (c_X2_addWhole (by omega) (by omega) (hln) (hB) (by omega) (by omega)) dX8_rename_94 rfl rfl wd_900 wd_574 wd_575 wd_5 wd_576 ne_X2 np_X2_addWhole (Nat.le_of_ble_eq_true rfl)  (by decide) (by decide) rfl (Nat.le_of_ble_eq_true rfl) rfl rfl rfl rfl (by decide) rfl (fun v1 f1 hp => ?_)
            obtain ⟨rfl, rfl⟩ := hp
            show G g E _ _ _ [(wRow g r m (cpy L RL (t * 600) 0 (ln t)) (0 + ln t)), (wShelf g a L ln tp rd cnt era nws), (wMain g x tpa (a 0) (r 0) (p 0) qa (ru 0) (w 0) sa bka taped told), (wRules g ru kd fi se sg le de nx he ro rc re rr), (wWalk g w (ru 0) sp nb mt pl op no od stm wc), (wPileH g p n sh old cn), (wPool g ad ss n)] 97 [(4, .int (iI (cntF (tx L t) l_ (ln t)))), (0, .ref x), (1, .int (iI t)), (2, .int (iI l_)), (3, .int (iI o_))] []
            refine r_aload_n 98 hE 1 dX8_rename_97 rfl rfl rfl ?_
            refine r_get 101 hE 2 0 ok8 5 dX8_rename_98 rfl wd_302 rfl rfl (by decide) rfl ?_
            refine r_iload_n 102 hE 3 dX8_rename_101 rfl rfl rfl ?_
            refine r_iload_n 103 hE 4 dX8_rename_102 rfl rfl rfl ?_
            refine r_callV 106 hE [0] [1, 2, 3, 4, 5, 6] [(wRow g r m (cpy L RL (t * 600) 0 (ln t)) (0 + ln t))] [(wShelf g a L ln tp rd cnt era nws), (wMain g x tpa (a 0) (r 0) (p 0) qa (ru 0) (w 0) sa bka taped told), (wRules g ru kd fi se sg le de nx he ro rc re rr), (wWalk g w (ru 0) sp nb mt pl op no od stm wc), (wPileH g p n sh old cn), (wPool g ad ss n)] 0 2 ok2 [] (c_X2_exchange (by omega) (by omega) (by omega) (BR_cpy hB hBR _ _ _)) dX8_rename_103 rfl rfl wd_932 wd_933 wd_934 wd_5 wd_935 ne_X2 np_X2_exchange (Nat.le_of_ble_eq_true rfl)  (by decide) (by decide) rfl (Nat.le_of_ble_eq_true rfl) rfl rfl rfl rfl (by decide) rfl (fun v1 f1 hp => ?_)
            obtain ⟨RL9_103, rfl, rfl, h103_0, h103_1⟩ := hp
            show G g E _ _ _ [(wRow g r m RL9_103 (0 + ln t)), (wShelf g a L ln tp rd cnt era nws), (wMain g x tpa (a 0) (r 0) (p 0) qa (ru 0) (w 0) sa bka taped told), (wRules g ru kd fi se sg le de nx he ro rc re rr), (wWalk g w (ru 0) sp nb mt pl op no od stm wc), (wPileH g p n sh old cn), (wPool g ad ss n)] 106 [(4, .int (iI (cntF (tx L t) l_ (ln t)))), (0, .ref x), (1, .int (iI t)), (2, .int (iI l_)), (3, .int (iI o_))] []
            have hat : ∀ k, 0 ≤ k → k < 0 + ln t → RL9_103 k = if tx L t k = l_ then o_ else tx L t k := by
              intro k a b
              rw [h103_0 k a b, whole_at (by omega)]
            refine r_aload_n 107 hE 1 dX8_rename_106 rfl rfl rfl ?_
            refine r_iload_n 108 hE 2 dX8_rename_107 rfl rfl rfl ?_
            refine r_callV 111 hE [2, 1, 0, 3, 4, 5, 6] [] [(wMain g x tpa (a 0) (r 0) (p 0) qa (ru 0) (w 0) sa bka taped told), (wShelf g a L ln tp rd cnt era nws), (wRow g r m RL9_103 (0 + ln t)), (wRules g ru kd fi se sg le de nx he ro rc re rr), (wWalk g w (ru 0) sp nb mt pl op no od stm wc), (wPileH g p n sh old cn), (wPool g ad ss n)] [] 0 8 ok8 [] (c_X8_actOn (hT) (hsh) (by omega) (hto) (hce) (hWI) (by omega) (by omega) (by omega) (hsa) (hBs) (by omega) (by omega) (h103_1) (fun k a b => by rw [hat k a b]; have := hl1.2 k a (by omega); split <;> omega)) dX8_rename_108 rfl rfl wd_883 wd_885 ws_41 wd_1 wd_886 ne_X8 np_X8_actOn (Nat.le_of_ble_eq_true rfl)  (by decide) (by decide) rfl (Nat.le_of_ble_eq_true rfl) rfl rfl rfl rfl (by decide) rfl (fun v1 f1 hp => ?_)
            obtain ⟨kd9_108, fi9_108, se9_108, sg9_108, le9_108, de9_108, nx9_108, he9_108, rc9_108, R9_108, ro9_108, re9_108, rr9_108, tp9_108, rd9_108, sp9_108, nb9_108, mt9_108, pl9_108, op9_108, no9_108, od9_108, wc9_108, old9_108, cn9_108, i9_108, Lp_108, lnp_108, tpp_108, rdp_108, news9_108, rfl, rfl, h108_0, h108_1, h108_2, h108_3, h108_4, h108_5, h108_6, h108_7, h108_8⟩ := hp
            show G g E _ _ _ [(wMain g x tpa (a 0) (r 0) (p 0) qa (ru 0) (w 0) sa bka taped told), (wShelf g a (cpy RL9_103 L 0 (t * 600) (0 + ln t)) (up ln t (0 + ln t)) tp9_108 rd9_108 (max cnt (t + 1)) re9_108 nws), (wRow g r m RL9_103 (0 + ln t)), (wRules g ru kd9_108 fi9_108 se9_108 sg9_108 le9_108 de9_108 nx9_108 he9_108 ro9_108 rc9_108 re9_108 rr9_108), (wWalk g w (ru 0) sp9_108 nb9_108 mt9_108 pl9_108 op9_108 no9_108 od9_108 (stm + 1) wc9_108), (wPileH g p n sh old9_108 cn9_108), (wPool g ad (upS ss i9_108 (shs Lp_108 lnp_108 tpp_108 rdp_108 cnt re9_108 news9_108)) n)] 111 [(4, .int (iI (cntF (tx L t) l_ (ln t)))), (0, .ref x), (1, .int (iI t)), (2, .int (iI l_)), (3, .int (iI o_))] []
            refine r_aload_n 112 hE 1 dX8_rename_111 rfl rfl rfl ?_
            refine r_iload 114 hE 0 dX8_rename_112 rfl rfl ?_
            refine r_callV 117 hE [0] [1, 2, 3, 4, 5, 6] [(wMain g x tpa (a 0) (r 0) (p 0) qa (ru 0) (w 0) sa bka taped told)] [(wShelf g a (cpy RL9_103 L 0 (t * 600) (0 + ln t)) (up ln t (0 + ln t)) tp9_108 rd9_108 (max cnt (t + 1)) re9_108 nws), (wRow g r m RL9_103 (0 + ln t)), (wRules g ru kd9_108 fi9_108 se9_108 sg9_108 le9_108 de9_108 nx9_108 he9_108 ro9_108 rc9_108 re9_108 rr9_108), (wWalk g w (ru 0) sp9_108 nb9_108 mt9_108 pl9_108 op9_108 no9_108 od9_108 (stm + 1) wc9_108), (wPileH g p n sh old9_108 cn9_108), (wPool g ad (upS ss i9_108 (shs Lp_108 lnp_108 tpp_108 rdp_108 cnt re9_108 news9_108)) n)] 0 8 ok8 [] (c_X8_answer) dX8_rename_114 rfl rfl wd_739 wd_741 ws_33 wd_1 wd_742 ne_X8 np_X8_answer (Nat.le_of_ble_eq_true rfl)  (by decide) (by decide) rfl (Nat.le_of_ble_eq_true rfl) rfl rfl rfl rfl (by decide) rfl (fun v1 f1 hp => ?_)
            obtain ⟨rfl, rfl⟩ := hp
            show G g E _ _ _ [(wMain g x tpa (a 0) (r 0) (p 0) qa (ru 0) (w 0) sa bka taped 0), (wShelf g a (cpy RL9_103 L 0 (t * 600) (0 + ln t)) (up ln t (0 + ln t)) tp9_108 rd9_108 (max cnt (t + 1)) re9_108 nws), (wRow g r m RL9_103 (0 + ln t)), (wRules g ru kd9_108 fi9_108 se9_108 sg9_108 le9_108 de9_108 nx9_108 he9_108 ro9_108 rc9_108 re9_108 rr9_108), (wWalk g w (ru 0) sp9_108 nb9_108 mt9_108 pl9_108 op9_108 no9_108 od9_108 (stm + 1) wc9_108), (wPileH g p n sh old9_108 cn9_108), (wPool g ad (upS ss i9_108 (shs Lp_108 lnp_108 tpp_108 rdp_108 cnt re9_108 news9_108)) n)] 117 [(4, .int (iI (cntF (tx L t) l_ (ln t)))), (0, .ref x), (1, .int (iI t)), (2, .int (iI l_)), (3, .int (iI o_))] [.int (iI (cntF (tx L t) l_ (ln t)))]
            refine r_ireturn hE hR [(wMain g x tpa (a 0) (r 0) (p 0) qa (ru 0) (w 0) sa bka taped 0), (wShelf g a (cpy RL9_103 L 0 (t * 600) (0 + ln t)) (up ln t (0 + ln t)) tp9_108 rd9_108 (max cnt (t + 1)) re9_108 nws), (wRow g r m RL9_103 (0 + ln t)), (wRules g ru kd9_108 fi9_108 se9_108 sg9_108 le9_108 de9_108 nx9_108 he9_108 ro9_108 rc9_108 re9_108 rr9_108), (wWalk g w (ru 0) sp9_108 nb9_108 mt9_108 pl9_108 op9_108 no9_108 od9_108 (stm + 1) wc9_108), (wPileH g p n sh old9_108 cn9_108), (wPool g ad (upS ss i9_108 (shs Lp_108 lnp_108 tpp_108 rdp_108 cnt re9_108 news9_108)) n)] dX8_rename_117 (Nat.le_of_ble_eq_true rfl) (Nat.le_of_ble_eq_true rfl) rfl ?_
            rw [e0] at hat
            rw [e0] at h108_6 h108_7 h108_8
            exact ⟨kd9_108, fi9_108, se9_108, sg9_108, le9_108, de9_108, nx9_108, he9_108, rc9_108, R9_108, ro9_108, re9_108, rr9_108, tp9_108, rd9_108, sp9_108, nb9_108, mt9_108, pl9_108, op9_108, no9_108, od9_108, wc9_108, old9_108, cn9_108, i9_108, Lp_108, lnp_108, tpp_108, rdp_108, news9_108, _, _, _, _, _, rfl, by rw [e0], h108_0, h108_1, h108_2, h108_3, h108_4, h108_5, h108_6, h108_7, h108_8.F, h103_1, TextSet.of hln (by omega) (by omega) hat⟩
          · skip
            omega
        · skip
          omega
      · skip
        have c28 := bI0 c28
        omega
    · skip
      have c11 := bI0 c11
      omega
set_option maxHeartbeats 4000000 in
set_option maxRecDepth 100000 in
theorem c_X8_rename_no {g : Gm} {a : Nat → Nat} {L ln tp rd : Int → Int} {cnt era nws : Int} {x tpa da pa qa rua wa sa bka : Nat} {taped told : Int} {t l_ o_ : Int} (hsh : ShOk L ln cnt) (ht : -2147483648 ≤ t ∧ t ≤ 2147483647) (hl : -2147483648 ≤ l_ ∧ l_ ≤ 2147483647) (ho : -2147483648 ≤ o_ ∧ o_ ≤ 2147483647) (hno : rnF (tx L) ln cnt t l_ o_ ≠ 0) : Ct g 6 0 0 yX8_rename cX8_rename 5 (some .int) [.ref x, .int (iI t), .int (iI l_), .int (iI o_)] [(wMain g x tpa (a 0) da pa qa rua wa sa bka taped told), (wShelf g a L ln tp rd cnt era nws)] (fun v_ w_ => v_ = some (.int (iI (-1))) ∧ w_ = [(wMain g x tpa (a 0) da pa qa rua wa sa bka taped (rnF (tx L) ln cnt t l_ o_)), (wShelf g a L ln tp rd cnt era nws)]) := by
  refine Ct.of (by decide) (Nat.le_of_ble_eq_true rfl) (lv := [(0, .ref x), (1, .int (iI t)), (2, .int (iI l_)), (3, .int (iI o_))]) rfl ?_
  intro E hE hR hnm
  have hc := hsh.1
  have hln := hsh.ln
  have hB := hsh.2.1
  refine r_iload_n 1 hE 2 dX8_rename_0 rfl rfl rfl ?_
  refine r_callS 4 hE [] [0, 1] [] [(wMain g x tpa (a 0) da pa qa rua wa sa bka taped told), (wShelf g a L ln tp rd cnt era nws)] [] (c_X8_isLetter (by omega)) dX8_rename_1 rfl wd_925 wd_926 wd_1 wd_927 ne_X8 np_X8_isLetter (Nat.le_of_ble_eq_true rfl)  (by decide) (by decide) rfl (Nat.le_of_ble_eq_true rfl) rfl rfl rfl rfl (by decide) (fun v1 f1 hp => ?_)
  obtain ⟨rfl, rfl⟩ := hp
  show G g E _ _ _ [(wMain g x tpa (a 0) da pa qa rua wa sa bka taped told), (wShelf g a L ln tp rd cnt era nws)] 4 [(0, .ref x), (1, .int (iI t)), (2, .int (iI l_)), (3, .int (iI o_))] [.int (iI (bI (0 ≤ l_ ∧ l_ < 26)))]
  refine r_if_eq 7 14 hE dX8_rename_4 rfl (by decide) (bI_rg _) (fun c4 => ?_) (fun c4 => ?_)
  · skip
    have c4 := bI0 c4
    refine r_aload_n 15 hE 0 dX8_rename_14 rfl rfl rfl ?_
    refine r_iconst 16 hE dX8_rename_15 rfl ?_
    refine r_callV 19 hE [0] [1] [(wMain g x tpa (a 0) da pa qa rua wa sa bka taped told)] [(wShelf g a L ln tp rd cnt era nws)] 0 8 ok8 [] (c_X8_refuse) dX8_rename_16 rfl rfl wd_347 wd_349 ws_1 wd_1 wd_350 ne_X8 np_X8_refuse (Nat.le_of_ble_eq_true rfl)  (by decide) (by decide) rfl (Nat.le_of_ble_eq_true rfl) rfl rfl rfl rfl (by decide) rfl (fun v1 f1 hp => ?_)
    obtain ⟨rfl, rfl⟩ := hp
    show G g E _ _ _ [(wMain g x tpa (a 0) da pa qa rua wa sa bka taped 1), (wShelf g a L ln tp rd cnt era nws)] 19 [(0, .ref x), (1, .int (iI t)), (2, .int (iI l_)), (3, .int (iI o_))] [.int (iI (-1))]
    refine r_ireturn hE hR [(wMain g x tpa (a 0) da pa qa rua wa sa bka taped 1), (wShelf g a L ln tp rd cnt era nws)] dX8_rename_19 (Nat.le_of_ble_eq_true rfl) (Nat.le_of_ble_eq_true rfl) rfl ?_
    exact ⟨rfl, by unfold rnF; (repeat (first | rw [if_pos (by omega)] | rw [if_neg (by omega)]))⟩
  · skip
    have c4 := bI1 c4
    refine r_iload_n 8 hE 3 dX8_rename_7 rfl rfl rfl ?_
    refine r_callS 11 hE [] [0, 1] [] [(wMain g x tpa (a 0) da pa qa rua wa sa bka taped told), (wShelf g a L ln tp rd cnt era nws)] [] (c_X8_isLetter (by omega)) dX8_rename_8 rfl wd_925 wd_926 wd_1 wd_927 ne_X8 np_X8_isLetter (Nat.le_of_ble_eq_true rfl)  (by decide) (by decide) rfl (Nat.le_of_ble_eq_true rfl) rfl rfl rfl rfl (by decide) (fun v1 f1 hp => ?_)
    obtain ⟨rfl, rfl⟩ := hp
    show G g E _ _ _ [(wMain g x tpa (a 0) da pa qa rua wa sa bka taped told), (wShelf g a L ln tp rd cnt era nws)] 11 [(0, .ref x), (1, .int (iI t)), (2, .int (iI l_)), (3, .int (iI o_))] [.int (iI (bI (0 ≤ o_ ∧ o_ < 26)))]
    refine r_if_ne 14 20 hE dX8_rename_11 rfl (by decide) (bI_rg _) (fun c11 => ?_) (fun c11 => ?_)
    · skip
      have c11 := bI1 c11
      refine r_aload_n 21 hE 0 dX8_rename_20 rfl rfl rfl ?_
      refine r_get 24 hE 0 0 ok8 4 dX8_rename_21 rfl wd_301 rfl rfl (by decide) rfl ?_
      refine r_iload_n 25 hE 1 dX8_rename_24 rfl rfl rfl ?_
      refine r_callV 28 hE [1] [0] [(wShelf g a L ln tp rd cnt era nws)] [(wMain g x tpa (a 0) da pa qa rua wa sa bka taped told)] 0 5 ok5 [] (c_X5_has (by omega) (by omega)) dX8_rename_25 rfl rfl wd_764 wd_578 wd_579 wd_4 wd_580 ne_X5 np_X5_has (Nat.le_of_ble_eq_true rfl)  (by decide) (by decide) rfl (Nat.le_of_ble_eq_true rfl) rfl rfl rfl rfl (by decide) rfl (fun v1 f1 hp => ?_)
      obtain ⟨rfl, rfl⟩ := hp
      show G g E _ _ _ [(wShelf g a L ln tp rd cnt era nws), (wMain g x tpa (a 0) da pa qa rua wa sa bka taped told)] 28 [(0, .ref x), (1, .int (iI t)), (2, .int (iI l_)), (3, .int (iI o_))] [.int (iI (bI (0 ≤ t ∧ t < cnt)))]
      refine r_if_ne 31 37 hE dX8_rename_28 rfl (by decide) (bI_rg _) (fun c28 => ?_) (fun c28 => ?_)
      · skip
        have c28 := bI1 c28
        have hl1 := hln t c28.1 c28.2
        have hcb := cntF_bd (tx L t) l_ (n := ln t) (by omega)
        refine r_iload_n 38 hE 2 dX8_rename_37 rfl rfl rfl ?_
        refine r_iload_n 39 hE 3 dX8_rename_38 rfl rfl rfl ?_
        refine r_icmp_ne 42 48 hE dX8_rename_39 rfl (by decide) (by omega) (fun c39 => ?_) (fun c39 => ?_)
        · skip
          refine r_aload_n 49 hE 0 dX8_rename_48 rfl rfl rfl ?_
          refine r_get 52 hE 1 0 ok8 4 dX8_rename_49 rfl wd_301 rfl rfl (by decide) rfl ?_
          refine r_iload_n 53 hE 1 dX8_rename_52 rfl rfl rfl ?_
          refine r_iload_n 54 hE 2 dX8_rename_53 rfl rfl rfl ?_
          refine r_aload_n 55 hE 0 dX8_rename_54 rfl rfl rfl ?_
          refine r_get 58 hE 1 0 ok8 4 dX8_rename_55 rfl wd_301 rfl rfl (by decide) rfl ?_
          refine r_iload_n 59 hE 1 dX8_rename_58 rfl rfl rfl ?_
          refine r_callV 62 hE [0] [1] [(wShelf g a L ln tp rd cnt era nws)] [(wMain g x tpa (a 0) da pa qa rua wa sa bka taped told)] 0 5 ok5 [.int (iI l_), .int (iI t), .ref (a 0)] (c_X5_lengthOf (by omega) (by omega)) dX8_rename_59 rfl rfl wd_630 wd_631 wd_632 wd_4 wd_633 ne_X5 np_X5_lengthOf (Nat.le_of_ble_eq_true rfl)  (by decide) (by decide) rfl (Nat.le_of_ble_eq_true rfl) rfl rfl rfl rfl (by decide) rfl (fun v1 f1 hp => ?_)
          obtain ⟨rfl, rfl⟩ := hp
          show G g E _ _ _ [(wShelf g a L ln tp rd cnt era nws), (wMain g x tpa (a 0) da pa qa rua wa sa bka taped told)] 62 [(0, .ref x), (1, .int (iI t)), (2, .int (iI l_)), (3, .int (iI o_))] [.int (iI (ln t)), .int (iI l_), .int (iI t), .ref (a 0)]
          refine r_callV 65 hE [0] [1] [(wShelf g a L ln tp rd cnt era nws)] [(wMain g x tpa (a 0) da pa qa rua wa sa bka taped told)] 0 5 ok5 [] (c_X5_countAhead (by omega) (by omega) (hln) (hB) (by omega) (by omega)) dX8_rename_62 rfl rfl wd_928 wd_929 wd_930 wd_4 wd_931 ne_X5 np_X5_countAhead (Nat.le_of_ble_eq_true rfl)  (by decide) (by decide) rfl (Nat.le_of_ble_eq_true rfl) rfl rfl rfl rfl (by decide) rfl (fun v1 f1 hp => ?_)
          obtain ⟨rfl, rfl⟩ := hp
          show G g E _ _ _ [(wShelf g a L ln tp rd cnt era nws), (wMain g x tpa (a 0) da pa qa rua wa sa bka taped told)] 65 [(0, .ref x), (1, .int (iI t)), (2, .int (iI l_)), (3, .int (iI o_))] [.int (iI (cntF (tx L t) l_ (ln t)))]
          refine r_istore 67 hE [(4, .int (iI (cntF (tx L t) l_ (ln t)))), (0, .ref x), (1, .int (iI t)), (2, .int (iI l_)), (3, .int (iI o_))] dX8_rename_65 rfl (by decide) rfl ?_
          refine r_iload 69 hE 0 dX8_rename_67 rfl rfl ?_
          refine r_if_ne 72 78 hE dX8_rename_69 rfl (by decide) (by omega) (fun c69 => ?_) (fun c69 => ?_)
          · skip
            exact absurd (by unfold rnF; (repeat (first | rw [if_pos (by omega)] | rw [if_neg (by omega)]))) hno
          · skip
            refine r_aload_n 73 hE 1 dX8_rename_72 rfl rfl rfl ?_
            refine r_iconst 74 hE dX8_rename_73 rfl ?_
            refine r_callV 77 hE [1] [0] [(wMain g x tpa (a 0) da pa qa rua wa sa bka taped told)] [(wShelf g a L ln tp rd cnt era nws)] 0 8 ok8 [] (c_X8_refuse) dX8_rename_74 rfl rfl wd_347 wd_349 ws_1 wd_1 wd_350 ne_X8 np_X8_refuse (Nat.le_of_ble_eq_true rfl)  (by decide) (by decide) rfl (Nat.le_of_ble_eq_true rfl) rfl rfl rfl rfl (by decide) rfl (fun v1 f1 hp => ?_)
            obtain ⟨rfl, rfl⟩ := hp
            show G g E _ _ _ [(wMain g x tpa (a 0) da pa qa rua wa sa bka taped 5), (wShelf g a L ln tp rd cnt era nws)] 77 [(4, .int (iI (cntF (tx L t) l_ (ln t)))), (0, .ref x), (1, .int (iI t)), (2, .int (iI l_)), (3, .int (iI o_))] [.int (iI (-1))]
            refine r_ireturn hE hR [(wMain g x tpa (a 0) da pa qa rua wa sa bka taped 5), (wShelf g a L ln tp rd cnt era nws)] dX8_rename_77 (Nat.le_of_ble_eq_true rfl) (Nat.le_of_ble_eq_true rfl) rfl ?_
            exact ⟨rfl, by unfold rnF; (repeat (first | rw [if_pos (by omega)] | rw [if_neg (by omega)]))⟩
        · skip
          refine r_aload_n 43 hE 0 dX8_rename_42 rfl rfl rfl ?_
          refine r_iconst 44 hE dX8_rename_43 rfl ?_
          refine r_callV 47 hE [1] [0] [(wMain g x tpa (a 0) da pa qa rua wa sa bka taped told)] [(wShelf g a L ln tp rd cnt era nws)] 0 8 ok8 [] (c_X8_refuse) dX8_rename_44 rfl rfl wd_347 wd_349 ws_1 wd_1 wd_350 ne_X8 np_X8_refuse (Nat.le_of_ble_eq_true rfl)  (by decide) (by decide) rfl (Nat.le_of_ble_eq_true rfl) rfl rfl rfl rfl (by decide) rfl (fun v1 f1 hp => ?_)
          obtain ⟨rfl, rfl⟩ := hp
          show G g E _ _ _ [(wMain g x tpa (a 0) da pa qa rua wa sa bka taped 4), (wShelf g a L ln tp rd cnt era nws)] 47 [(0, .ref x), (1, .int (iI t)), (2, .int (iI l_)), (3, .int (iI o_))] [.int (iI (-1))]
          refine r_ireturn hE hR [(wMain g x tpa (a 0) da pa qa rua wa sa bka taped 4), (wShelf g a L ln tp rd cnt era nws)] dX8_rename_47 (Nat.le_of_ble_eq_true rfl) (Nat.le_of_ble_eq_true rfl) rfl ?_
          exact ⟨rfl, by unfold rnF; (repeat (first | rw [if_pos (by omega)] | rw [if_neg (by omega)]))⟩
      · skip
        have c28 := bI0 c28
        refine r_aload_n 32 hE 0 dX8_rename_31 rfl rfl rfl ?_
        refine r_iconst 33 hE dX8_rename_32 rfl ?_
        refine r_callV 36 hE [1] [0] [(wMain g x tpa (a 0) da pa qa rua wa sa bka taped told)] [(wShelf g a L ln tp rd cnt era nws)] 0 8 ok8 [] (c_X8_refuse) dX8_rename_33 rfl rfl wd_347 wd_349 ws_1 wd_1 wd_350 ne_X8 np_X8_refuse (Nat.le_of_ble_eq_true rfl)  (by decide) (by decide) rfl (Nat.le_of_ble_eq_true rfl) rfl rfl rfl rfl (by decide) rfl (fun v1 f1 hp => ?_)
        obtain ⟨rfl, rfl⟩ := hp
        show G g E _ _ _ [(wMain g x tpa (a 0) da pa qa rua wa sa bka taped 2), (wShelf g a L ln tp rd cnt era nws)] 36 [(0, .ref x), (1, .int (iI t)), (2, .int (iI l_)), (3, .int (iI o_))] [.int (iI (-1))]
        refine r_ireturn hE hR [(wMain g x tpa (a 0) da pa qa rua wa sa bka taped 2), (wShelf g a L ln tp rd cnt era nws)] dX8_rename_36 (Nat.le_of_ble_eq_true rfl) (Nat.le_of_ble_eq_true rfl) rfl ?_
        exact ⟨rfl, by unfold rnF; (repeat (first | rw [if_pos (by omega)] | rw [if_neg (by omega)]))⟩
    · skip
      have c11 := bI0 c11
      refine r_aload_n 15 hE 0 dX8_rename_14 rfl rfl rfl ?_
      refine r_iconst 16 hE dX8_rename_15 rfl ?_
      refine r_callV 19 hE [0] [1] [(wMain g x tpa (a 0) da pa qa rua wa sa bka taped told)] [(wShelf g a L ln tp rd cnt era nws)] 0 8 ok8 [] (c_X8_refuse) dX8_rename_16 rfl rfl wd_347 wd_349 ws_1 wd_1 wd_350 ne_X8 np_X8_refuse (Nat.le_of_ble_eq_true rfl)  (by decide) (by decide) rfl (Nat.le_of_ble_eq_true rfl) rfl rfl rfl rfl (by decide) rfl (fun v1 f1 hp => ?_)
      obtain ⟨rfl, rfl⟩ := hp
      show G g E _ _ _ [(wMain g x tpa (a 0) da pa qa rua wa sa bka taped 1), (wShelf g a L ln tp rd cnt era nws)] 19 [(0, .ref x), (1, .int (iI t)), (2, .int (iI l_)), (3, .int (iI o_))] [.int (iI (-1))]
      refine r_ireturn hE hR [(wMain g x tpa (a 0) da pa qa rua wa sa bka taped 1), (wShelf g a L ln tp rd cnt era nws)] dX8_rename_19 (Nat.le_of_ble_eq_true rfl) (Nat.le_of_ble_eq_true rfl) rfl ?_
      exact ⟨rfl, by unfold rnF; (repeat (first | rw [if_pos (by omega)] | rw [if_neg (by omega)]))⟩
