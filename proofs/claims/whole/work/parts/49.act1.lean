set_option maxHeartbeats 4000000 in
set_option maxRecDepth 100000 in
theorem c_X8_take {g : Gm} {a : Nat → Nat} {L ln tp rd : Int → Int} {cnt era nws : Int} {r : Nat → Nat} {m : Nat} {RL : Int → Int} {rlen : Int} {ru : Nat → Nat} {kd fi se sg le de nx he ro : Int → Int} {rc re rr : Int} {R : Int → Rl} {w : Nat → Nat} {sp nb mt pl op no : Int → Int} {od stm wc : Int} {p : Nat → Nat} {n : Nat} {sh : Nat → Option Nat} {old cn : Int} {ad : Nat → Nat → Nat} {ss : Nat → ShS} {x tpa qa sa bka : Nat} {taped told : Int} {t p_ m_ : Int} (hT : RT kd fi se sg le de nx he rc R) (hsh : ShOk L ln cnt) (hre : 0 ≤ re ∧ re ≤ 900000 ∧ -1 ≤ era ∧ era ≤ re) (hto : era = re → TopsOk R rc L ln tp rd cnt) (hce : 0 < cnt → era = re) (hWI : 0 ≤ stm ∧ ∀ i, 0 ≤ i → i < 10240 → 0 ≤ sp i ∧ sp i ≤ stm) (hs2 : stm ≤ 1500000000) (hpn : 1 ≤ (n : Int) ∧ (n : Int) ≤ 8) (hpo : 0 ≤ old ∧ old < (n : Int) ∧ 0 ≤ cn ∧ cn ≤ (n : Int)) (hsa : ∀ i, i < n → sh i = some ((ad i) 0)) (hBs : ∀ i, i < n → BR (ss i).L) (hm6 : (m : Int) = 600) (hBR : BR RL) (ht : 0 ≤ t ∧ t < cnt) (hp : 0 ≤ p_ ∧ 1 ≤ m_ ∧ p_ + m_ ≤ ln t) (h8 : cnt < 8) : Ct g 6 0 0 yX8_take cX8_take 5 (some .int) [.ref x, .int (iI t), .int (iI p_), .int (iI m_)] [(wMain g x tpa (a 0) (r 0) (p 0) qa (ru 0) (w 0) sa bka taped told), (wShelf g a L ln tp rd cnt era nws), (wRow g r m RL rlen), (wRules g ru kd fi se sg le de nx he ro rc re rr), (wWalk g w (ru 0) sp nb mt pl op no od stm wc), (wPileH g p n sh old cn), (wPool g ad ss n)] (fun v_ w_ => ∃ kd9 : Int → Int, ∃ fi9 : Int → Int, ∃ se9 : Int → Int, ∃ sg9 : Int → Int, ∃ le9 : Int → Int, ∃ de9 : Int → Int, ∃ nx9 : Int → Int, ∃ he9 : Int → Int, ∃ rc9 : Int, ∃ R9 : Int → Rl, ∃ ro9 : Int → Int, ∃ re9 : Int, ∃ rr9 : Int, ∃ tp9 : Int → Int, ∃ rd9 : Int → Int, ∃ sp9 : Int → Int, ∃ nb9 : Int → Int, ∃ mt9 : Int → Int, ∃ pl9 : Int → Int, ∃ op9 : Int → Int, ∃ no9 : Int → Int, ∃ od9 : Int, ∃ wc9 : Int, ∃ old9 : Int, ∃ cn9 : Int, ∃ i9 : Nat, ∃ Lp : Int → Int, ∃ lnp : Int → Int, ∃ tpp : Int → Int, ∃ rdp : Int → Int, ∃ news9 : Int, ∃ L9 : Int → Int, ∃ ln9 : Int → Int, ∃ cnt9 : Int, ∃ RL9 : Int → Int, ∃ rl9 : Int, v_ = some (.int (iI cnt)) ∧ w_ = [(wMain g x tpa (a 0) (r 0) (p 0) qa (ru 0) (w 0) sa bka taped 0), (wShelf g a L9 ln9 tp9 rd9 cnt9 re9 nws), (wRow g r m RL9 rl9), (wRules g ru kd9 fi9 se9 sg9 le9 de9 nx9 he9 ro9 rc9 re9 rr9), (wWalk g w (ru 0) sp9 nb9 mt9 pl9 op9 no9 od9 (stm + 1) wc9), (wPileH g p n sh old9 cn9), (wPool g ad (upS ss i9 (shs Lp lnp tpp rdp cnt re9 news9)) n)] ∧ (RT kd9 fi9 se9 sg9 le9 de9 nx9 he9 rc9 R9) ∧ ((re9 = re ∧ rc ≤ rc9 ∧ (∀ i, 0 ≤ i → i < rc → R9 i = R i)) ∨ re9 = re + 1) ∧ (0 ≤ stm + 1 ∧ ∀ i, 0 ≤ i → i < 10240 → 0 ≤ sp9 i ∧ sp9 i ≤ stm + 1) ∧ (PushIs n old cn old9 cn9 i9) ∧ (∀ t, 0 ≤ t → t < cnt → lnp t = ln t ∧ ∀ k, 0 ≤ k → k < ln t → Lp (600 * t + k) = L (600 * t + k)) ∧ (KeptOk R9 rc9 re9 (shs Lp lnp tpp rdp cnt re9 news9)) ∧ (TopsOk R9 rc9 L9 ln9 tp9 rd9 cnt9) ∧ (ShOk L9 ln9 cnt9) ∧ (NewsF (tx L) ln cnt (tx L9) ln9 cnt9 news9) ∧ (BR RL9) ∧ (TextSet (tx L) ln cnt cnt (fun k => tx L t (p_ + k)) m_ (tx L9) ln9 cnt9)) := by
  refine Ct.of (by decide) (Nat.le_of_ble_eq_true rfl) (lv := [(0, .ref x), (1, .int (iI t)), (2, .int (iI p_)), (3, .int (iI m_))]) rfl ?_
  intro E hE hR hnm
  have hc := hsh.1
  have hln := hsh.ln
  have hB := hsh.2.1
  have hl1 := hln t ht.1 ht.2
  refine r_iload_n 1 hE 2 dX8_take_0 rfl rfl rfl ?_
  refine r_if_lt 4 8 hE dX8_take_1 rfl (by decide) (by omega) (fun c1 => ?_) (fun c1 => ?_)
  · skip
    omega
  · skip
    refine r_iload_n 5 hE 3 dX8_take_4 rfl rfl rfl ?_
    refine r_if_gt 8 14 hE dX8_take_5 rfl (by decide) (by omega) (fun c5 => ?_) (fun c5 => ?_)
    · skip
      refine r_aload_n 15 hE 0 dX8_take_14 rfl rfl rfl ?_
      refine r_get 18 hE 0 0 ok8 4 dX8_take_15 rfl wd_301 rfl rfl (by decide) rfl ?_
      refine r_iload_n 19 hE 1 dX8_take_18 rfl rfl rfl ?_
      refine r_callV 22 hE [1] [0, 2, 3, 4, 5, 6] [(wShelf g a L ln tp rd cnt era nws)] [(wMain g x tpa (a 0) (r 0) (p 0) qa (ru 0) (w 0) sa bka taped told), (wRow g r m RL rlen), (wRules g ru kd fi se sg le de nx he ro rc re rr), (wWalk g w (ru 0) sp nb mt pl op no od stm wc), (wPileH g p n sh old cn), (wPool g ad ss n)] 0 5 ok5 [] (c_X5_has (by omega) (by omega)) dX8_take_19 rfl rfl wd_764 wd_578 wd_579 wd_4 wd_580 ne_X5 np_X5_has (Nat.le_of_ble_eq_true rfl)  (by decide) (by decide) rfl (Nat.le_of_ble_eq_true rfl) rfl rfl rfl rfl (by decide) rfl (fun v1 f1 hp => ?_)
      obtain ⟨rfl, rfl⟩ := hp
      show G g E _ _ _ [(wShelf g a L ln tp rd cnt era nws), (wMain g x tpa (a 0) (r 0) (p 0) qa (ru 0) (w 0) sa bka taped told), (wRow g r m RL rlen), (wRules g ru kd fi se sg le de nx he ro rc re rr), (wWalk g w (ru 0) sp nb mt pl op no od stm wc), (wPileH g p n sh old cn), (wPool g ad ss n)] 22 [(0, .ref x), (1, .int (iI t)), (2, .int (iI p_)), (3, .int (iI m_))] [.int (iI (bI (0 ≤ t ∧ t < cnt)))]
      refine r_if_ne 25 31 hE dX8_take_22 rfl (by decide) (bI_rg _) (fun c22 => ?_) (fun c22 => ?_)
      · skip
        have c22 := bI1 c22
        refine r_aload_n 32 hE 0 dX8_take_31 rfl rfl rfl ?_
        refine r_get 35 hE 1 0 ok8 4 dX8_take_32 rfl wd_301 rfl rfl (by decide) rfl ?_
        refine r_get 38 hE 0 0 ok5 4 dX8_take_35 rfl wd_84 rfl rfl (by decide) rfl ?_
        refine r_bipush 40 hE dX8_take_38 rfl (by decide) ?_
        refine r_icmp_lt 43 49 hE dX8_take_40 rfl (by decide) (by omega) (fun c40 => ?_) (fun c40 => ?_)
        · skip
          refine r_aload_n 50 hE 0 dX8_take_49 rfl rfl rfl ?_
          refine r_get 53 hE 1 0 ok8 4 dX8_take_50 rfl wd_301 rfl rfl (by decide) rfl ?_
          refine r_iload_n 54 hE 1 dX8_take_53 rfl rfl rfl ?_
          refine r_iload_n 55 hE 2 dX8_take_54 rfl rfl rfl ?_
          refine r_iload_n 56 hE 3 dX8_take_55 rfl rfl rfl ?_
          refine r_callV 59 hE [0] [1, 2, 3, 4, 5, 6] [(wShelf g a L ln tp rd cnt era nws)] [(wMain g x tpa (a 0) (r 0) (p 0) qa (ru 0) (w 0) sa bka taped told), (wRow g r m RL rlen), (wRules g ru kd fi se sg le de nx he ro rc re rr), (wWalk g w (ru 0) sp nb mt pl op no od stm wc), (wPileH g p n sh old cn), (wPool g ad ss n)] 0 5 ok5 [] (c_X5_reaches (by omega) (by omega) (hln) (by omega) (by omega)) dX8_take_56 rfl rfl wd_873 wd_874 wd_875 wd_4 wd_876 ne_X5 np_X5_reaches (Nat.le_of_ble_eq_true rfl)  (by decide) (by decide) rfl (Nat.le_of_ble_eq_true rfl) rfl rfl rfl rfl (by decide) rfl (fun v1 f1 hp => ?_)
          obtain ⟨rfl, rfl⟩ := hp
          show G g E _ _ _ [(wShelf g a L ln tp rd cnt era nws), (wMain g x tpa (a 0) (r 0) (p 0) qa (ru 0) (w 0) sa bka taped told), (wRow g r m RL rlen), (wRules g ru kd fi se sg le de nx he ro rc re rr), (wWalk g w (ru 0) sp nb mt pl op no od stm wc), (wPileH g p n sh old cn), (wPool g ad ss n)] 59 [(0, .ref x), (1, .int (iI t)), (2, .int (iI p_)), (3, .int (iI m_))] [.int (iI (bI ((0 ≤ t ∧ t < cnt) ∧ 0 ≤ p_ ∧ p_ ≤ ln t ∧ m_ ≤ ln t - p_)))]
          refine r_if_ne 62 68 hE dX8_take_59 rfl (by decide) (bI_rg _) (fun c59 => ?_) (fun c59 => ?_)
          · skip
            have c59 := bI1 c59
            refine r_aload_n 69 hE 0 dX8_take_68 rfl rfl rfl ?_
            refine r_get 72 hE 1 0 ok8 5 dX8_take_69 rfl wd_302 rfl rfl (by decide) rfl ?_
            refine r_callV 75 hE [2] [0, 1, 3, 4, 5, 6] [(wRow g r m RL rlen)] [(wShelf g a L ln tp rd cnt era nws), (wMain g x tpa (a 0) (r 0) (p 0) qa (ru 0) (w 0) sa bka taped told), (wRules g ru kd fi se sg le de nx he ro rc re rr), (wWalk g w (ru 0) sp nb mt pl op no od stm wc), (wPileH g p n sh old cn), (wPool g ad ss n)] 0 2 ok2 [] (c_X2_clear) dX8_take_72 rfl rfl wd_877 wd_549 wd_550 wd_5 wd_551 ne_X2 np_X2_clear (Nat.le_of_ble_eq_true rfl)  (by decide) (by decide) rfl (Nat.le_of_ble_eq_true rfl) rfl rfl rfl rfl (by decide) rfl (fun v1 f1 hp => ?_)
            obtain ⟨rfl, rfl⟩ := hp
            show G g E _ _ _ [(wRow g r m RL 0), (wShelf g a L ln tp rd cnt era nws), (wMain g x tpa (a 0) (r 0) (p 0) qa (ru 0) (w 0) sa bka taped told), (wRules g ru kd fi se sg le de nx he ro rc re rr), (wWalk g w (ru 0) sp nb mt pl op no od stm wc), (wPileH g p n sh old cn), (wPool g ad ss n)] 75 [(0, .ref x), (1, .int (iI t)), (2, .int (iI p_)), (3, .int (iI m_))] []
            refine r_aload_n 76 hE 0 dX8_take_75 rfl rfl rfl ?_
            refine r_get 79 hE 2 0 ok8 5 dX8_take_76 rfl wd_302 rfl rfl (by decide) rfl ?_
            refine r_aload_n 80 hE 0 dX8_take_79 rfl rfl rfl ?_
            refine r_get 83 hE 2 0 ok8 4 dX8_take_80 rfl wd_301 rfl rfl (by decide) rfl ?_
            refine r_iload_n 84 hE 1 dX8_take_83 rfl rfl rfl ?_
            refine r_iload_n 85 hE 2 dX8_take_84 rfl rfl rfl ?_
            refine r_iload_n 86 hE 3 dX8_take_85 rfl rfl rfl ?_
            refine r_callV 89 hE [0, 1] [2, 3, 4, 5, 6] [(wRow g r m RL 0), (wShelf g a L ln tp rd cnt era nws)] [(wMain g x tpa (a 0) (r 0) (p 0) qa (ru 0) (w 0) sa bka taped told), (wRules g ru kd fi se sg le de nx he ro rc re rr), (wWalk g w (ru 0) sp nb mt pl op no od stm wc), (wPileH g p n sh old cn), (wPool g ad ss n)] 0 2 ok2 [] (c_X2_addPart (by omega) (by omega) (hln) (hB) (by omega) (by omega) (by omega)) dX8_take_86 rfl rfl wd_878 wd_879 wd_880 wd_5 wd_881 ne_X2 np_X2_addPart (Nat.le_of_ble_eq_true rfl)  (by decide) (by decide) rfl (Nat.le_of_ble_eq_true rfl) rfl rfl rfl rfl (by decide) rfl (fun v1 f1 hp => ?_)
            obtain ⟨rfl, rfl⟩ := hp
            show G g E _ _ _ [(wRow g r m (cpy L RL (t * 600 + p_) 0 m_) (0 + m_)), (wShelf g a L ln tp rd cnt era nws), (wMain g x tpa (a 0) (r 0) (p 0) qa (ru 0) (w 0) sa bka taped told), (wRules g ru kd fi se sg le de nx he ro rc re rr), (wWalk g w (ru 0) sp nb mt pl op no od stm wc), (wPileH g p n sh old cn), (wPool g ad ss n)] 89 [(0, .ref x), (1, .int (iI t)), (2, .int (iI p_)), (3, .int (iI m_))] []
            refine r_aload_n 90 hE 0 dX8_take_89 rfl rfl rfl ?_
            refine r_get 93 hE 2 0 ok8 4 dX8_take_90 rfl wd_301 rfl rfl (by decide) rfl ?_
            refine r_get 96 hE 1 0 ok5 4 dX8_take_93 rfl wd_84 rfl rfl (by decide) rfl ?_
            refine r_istore 98 hE [(4, .int (iI cnt)), (0, .ref x), (1, .int (iI t)), (2, .int (iI p_)), (3, .int (iI m_))] dX8_take_96 rfl (by decide) rfl ?_
            refine r_aload_n 99 hE 1 dX8_take_98 rfl rfl rfl ?_
            refine r_iload 101 hE 0 dX8_take_99 rfl rfl ?_
            refine r_callV 104 hE [2, 1, 0, 3, 4, 5, 6] [] [(wMain g x tpa (a 0) (r 0) (p 0) qa (ru 0) (w 0) sa bka taped told), (wShelf g a L ln tp rd cnt era nws), (wRow g r m (cpy L RL (t * 600 + p_) 0 m_) (0 + m_)), (wRules g ru kd fi se sg le de nx he ro rc re rr), (wWalk g w (ru 0) sp nb mt pl op no od stm wc), (wPileH g p n sh old cn), (wPool g ad ss n)] [] 0 8 ok8 [] (c_X8_actOn (hT) (hsh) (by omega) (hto) (hce) (hWI) (by omega) (by omega) (by omega) (hsa) (hBs) (by omega) (by omega) (BR_cpy hB hBR _ _ _) (fun k a b => by rw [part_at (by omega)]; exact (hsh.2.2 t ht.1 ht.2).2 _ (by omega) (by omega))) dX8_take_101 rfl rfl wd_883 wd_885 ws_41 wd_1 wd_886 ne_X8 np_X8_actOn (Nat.le_of_ble_eq_true rfl)  (by decide) (by decide) rfl (Nat.le_of_ble_eq_true rfl) rfl rfl rfl rfl (by decide) rfl (fun v1 f1 hp => ?_)
            obtain ⟨kd9_101, fi9_101, se9_101, sg9_101, le9_101, de9_101, nx9_101, he9_101, rc9_101, R9_101, ro9_101, re9_101, rr9_101, tp9_101, rd9_101, sp9_101, nb9_101, mt9_101, pl9_101, op9_101, no9_101, od9_101, wc9_101, old9_101, cn9_101, i9_101, Lp_101, lnp_101, tpp_101, rdp_101, news9_101, rfl, rfl, h101_0, h101_1, h101_2, h101_3, h101_4, h101_5, h101_6, h101_7, h101_8⟩ := hp
            show G g E _ _ _ [(wMain g x tpa (a 0) (r 0) (p 0) qa (ru 0) (w 0) sa bka taped told), (wShelf g a (cpy (cpy L RL (t * 600 + p_) 0 m_) L 0 (cnt * 600) (0 + m_)) (up ln cnt (0 + m_)) tp9_101 rd9_101 (max cnt (cnt + 1)) re9_101 nws), (wRow g r m (cpy L RL (t * 600 + p_) 0 m_) (0 + m_)), (wRules g ru kd9_101 fi9_101 se9_101 sg9_101 le9_101 de9_101 nx9_101 he9_101 ro9_101 rc9_101 re9_101 rr9_101), (wWalk g w (ru 0) sp9_101 nb9_101 mt9_101 pl9_101 op9_101 no9_101 od9_101 (stm + 1) wc9_101), (wPileH g p n sh old9_101 cn9_101), (wPool g ad (upS ss i9_101 (shs Lp_101 lnp_101 tpp_101 rdp_101 cnt re9_101 news9_101)) n)] 104 [(4, .int (iI cnt)), (0, .ref x), (1, .int (iI t)), (2, .int (iI p_)), (3, .int (iI m_))] []
            refine r_aload_n 105 hE 1 dX8_take_104 rfl rfl rfl ?_
            refine r_iload 107 hE 0 dX8_take_105 rfl rfl ?_
            refine r_callV 110 hE [0] [1, 2, 3, 4, 5, 6] [(wMain g x tpa (a 0) (r 0) (p 0) qa (ru 0) (w 0) sa bka taped told)] [(wShelf g a (cpy (cpy L RL (t * 600 + p_) 0 m_) L 0 (cnt * 600) (0 + m_)) (up ln cnt (0 + m_)) tp9_101 rd9_101 (max cnt (cnt + 1)) re9_101 nws), (wRow g r m (cpy L RL (t * 600 + p_) 0 m_) (0 + m_)), (wRules g ru kd9_101 fi9_101 se9_101 sg9_101 le9_101 de9_101 nx9_101 he9_101 ro9_101 rc9_101 re9_101 rr9_101), (wWalk g w (ru 0) sp9_101 nb9_101 mt9_101 pl9_101 op9_101 no9_101 od9_101 (stm + 1) wc9_101), (wPileH g p n sh old9_101 cn9_101), (wPool g ad (upS ss i9_101 (shs Lp_101 lnp_101 tpp_101 rdp_101 cnt re9_101 news9_101)) n)] 0 8 ok8 [] (c_X8_answer) dX8_take_107 rfl rfl wd_739 wd_741 ws_33 wd_1 wd_742 ne_X8 np_X8_answer (Nat.le_of_ble_eq_true rfl)  (by decide) (by decide) rfl (Nat.le_of_ble_eq_true rfl) rfl rfl rfl rfl (by decide) rfl (fun v1 f1 hp => ?_)
            obtain ⟨rfl, rfl⟩ := hp
            show G g E _ _ _ [(wMain g x tpa (a 0) (r 0) (p 0) qa (ru 0) (w 0) sa bka taped 0), (wShelf g a (cpy (cpy L RL (t * 600 + p_) 0 m_) L 0 (cnt * 600) (0 + m_)) (up ln cnt (0 + m_)) tp9_101 rd9_101 (max cnt (cnt + 1)) re9_101 nws), (wRow g r m (cpy L RL (t * 600 + p_) 0 m_) (0 + m_)), (wRules g ru kd9_101 fi9_101 se9_101 sg9_101 le9_101 de9_101 nx9_101 he9_101 ro9_101 rc9_101 re9_101 rr9_101), (wWalk g w (ru 0) sp9_101 nb9_101 mt9_101 pl9_101 op9_101 no9_101 od9_101 (stm + 1) wc9_101), (wPileH g p n sh old9_101 cn9_101), (wPool g ad (upS ss i9_101 (shs Lp_101 lnp_101 tpp_101 rdp_101 cnt re9_101 news9_101)) n)] 110 [(4, .int (iI cnt)), (0, .ref x), (1, .int (iI t)), (2, .int (iI p_)), (3, .int (iI m_))] [.int (iI cnt)]
            refine r_ireturn hE hR [(wMain g x tpa (a 0) (r 0) (p 0) qa (ru 0) (w 0) sa bka taped 0), (wShelf g a (cpy (cpy L RL (t * 600 + p_) 0 m_) L 0 (cnt * 600) (0 + m_)) (up ln cnt (0 + m_)) tp9_101 rd9_101 (max cnt (cnt + 1)) re9_101 nws), (wRow g r m (cpy L RL (t * 600 + p_) 0 m_) (0 + m_)), (wRules g ru kd9_101 fi9_101 se9_101 sg9_101 le9_101 de9_101 nx9_101 he9_101 ro9_101 rc9_101 re9_101 rr9_101), (wWalk g w (ru 0) sp9_101 nb9_101 mt9_101 pl9_101 op9_101 no9_101 od9_101 (stm + 1) wc9_101), (wPileH g p n sh old9_101 cn9_101), (wPool g ad (upS ss i9_101 (shs Lp_101 lnp_101 tpp_101 rdp_101 cnt re9_101 news9_101)) n)] dX8_take_110 (Nat.le_of_ble_eq_true rfl) (Nat.le_of_ble_eq_true rfl) rfl ?_
            have e0 : 0 + m_ = m_ := by omega
            rw [e0] at h101_6 h101_7 h101_8
            exact ⟨kd9_101, fi9_101, se9_101, sg9_101, le9_101, de9_101, nx9_101, he9_101, rc9_101, R9_101, ro9_101, re9_101, rr9_101, tp9_101, rd9_101, sp9_101, nb9_101, mt9_101, pl9_101, op9_101, no9_101, od9_101, wc9_101, old9_101, cn9_101, i9_101, Lp_101, lnp_101, tpp_101, rdp_101, news9_101, _, _, _, _, _, rfl, by rw [e0], h101_0, h101_1, h101_2, h101_3, h101_4, h101_5, h101_6, h101_7, h101_8.F, BR_cpy hB hBR _ _ _, TextSet.of hln (by omega) (by omega) (fun k a b => part_at (by omega))⟩
          · skip
            have c59 := bI0 c59
            omega
        · skip
          omega
      · skip
        have c22 := bI0 c22
        omega
    · skip
      omega
set_option maxHeartbeats 4000000 in
set_option maxRecDepth 100000 in
theorem c_X8_take_no {g : Gm} {a : Nat → Nat} {L ln tp rd : Int → Int} {cnt era nws : Int} {x tpa da pa qa rua wa sa bka : Nat} {taped told : Int} {t p_ m_ : Int} (hsh : ShOk L ln cnt) (ht : -2147483648 ≤ t ∧ t ≤ 2147483647) (hp : -2147483648 ≤ p_ ∧ p_ ≤ 2147483647) (hm : -2147483648 ≤ m_ ∧ m_ ≤ 2147483647) (hno : tkF ln cnt t p_ m_ ≠ 0) : Ct g 6 0 0 yX8_take cX8_take 5 (some .int) [.ref x, .int (iI t), .int (iI p_), .int (iI m_)] [(wMain g x tpa (a 0) da pa qa rua wa sa bka taped told), (wShelf g a L ln tp rd cnt era nws)] (fun v_ w_ => v_ = some (.int (iI (-1))) ∧ w_ = [(wMain g x tpa (a 0) da pa qa rua wa sa bka taped (tkF ln cnt t p_ m_)), (wShelf g a L ln tp rd cnt era nws)]) := by
  refine Ct.of (by decide) (Nat.le_of_ble_eq_true rfl) (lv := [(0, .ref x), (1, .int (iI t)), (2, .int (iI p_)), (3, .int (iI m_))]) rfl ?_
  intro E hE hR hnm
  have hc := hsh.1
  have hln := hsh.ln
  have hB := hsh.2.1
  refine r_iload_n 1 hE 2 dX8_take_0 rfl rfl rfl ?_
  refine r_if_lt 4 8 hE dX8_take_1 rfl (by decide) (by omega) (fun c1 => ?_) (fun c1 => ?_)
  · skip
    refine r_aload_n 9 hE 0 dX8_take_8 rfl rfl rfl ?_
    refine r_iconst 10 hE dX8_take_9 rfl ?_
    refine r_callV 13 hE [0] [1] [(wMain g x tpa (a 0) da pa qa rua wa sa bka taped told)] [(wShelf g a L ln tp rd cnt era nws)] 0 8 ok8 [] (c_X8_refuse) dX8_take_10 rfl rfl wd_347 wd_349 ws_1 wd_1 wd_350 ne_X8 np_X8_refuse (Nat.le_of_ble_eq_true rfl)  (by decide) (by decide) rfl (Nat.le_of_ble_eq_true rfl) rfl rfl rfl rfl (by decide) rfl (fun v1 f1 hp => ?_)
    obtain ⟨rfl, rfl⟩ := hp
    show G g E _ _ _ [(wMain g x tpa (a 0) da pa qa rua wa sa bka taped 1), (wShelf g a L ln tp rd cnt era nws)] 13 [(0, .ref x), (1, .int (iI t)), (2, .int (iI p_)), (3, .int (iI m_))] [.int (iI (-1))]
    refine r_ireturn hE hR [(wMain g x tpa (a 0) da pa qa rua wa sa bka taped 1), (wShelf g a L ln tp rd cnt era nws)] dX8_take_13 (Nat.le_of_ble_eq_true rfl) (Nat.le_of_ble_eq_true rfl) rfl ?_
    exact ⟨rfl, by unfold tkF; (repeat (first | rw [if_pos (by omega)] | rw [if_neg (by omega)]))⟩
  · skip
    refine r_iload_n 5 hE 3 dX8_take_4 rfl rfl rfl ?_
    refine r_if_gt 8 14 hE dX8_take_5 rfl (by decide) (by omega) (fun c5 => ?_) (fun c5 => ?_)
    · skip
      refine r_aload_n 15 hE 0 dX8_take_14 rfl rfl rfl ?_
      refine r_get 18 hE 0 0 ok8 4 dX8_take_15 rfl wd_301 rfl rfl (by decide) rfl ?_
      refine r_iload_n 19 hE 1 dX8_take_18 rfl rfl rfl ?_
      refine r_callV 22 hE [1] [0] [(wShelf g a L ln tp rd cnt era nws)] [(wMain g x tpa (a 0) da pa qa rua wa sa bka taped told)] 0 5 ok5 [] (c_X5_has (by omega) (by omega)) dX8_take_19 rfl rfl wd_764 wd_578 wd_579 wd_4 wd_580 ne_X5 np_X5_has (Nat.le_of_ble_eq_true rfl)  (by decide) (by decide) rfl (Nat.le_of_ble_eq_true rfl) rfl rfl rfl rfl (by decide) rfl (fun v1 f1 hp => ?_)
      obtain ⟨rfl, rfl⟩ := hp
      show G g E _ _ _ [(wShelf g a L ln tp rd cnt era nws), (wMain g x tpa (a 0) da pa qa rua wa sa bka taped told)] 22 [(0, .ref x), (1, .int (iI t)), (2, .int (iI p_)), (3, .int (iI m_))] [.int (iI (bI (0 ≤ t ∧ t < cnt)))]
      refine r_if_ne 25 31 hE dX8_take_22 rfl (by decide) (bI_rg _) (fun c22 => ?_) (fun c22 => ?_)
      · skip
        have c22 := bI1 c22
        refine r_aload_n 32 hE 0 dX8_take_31 rfl rfl rfl ?_
        refine r_get 35 hE 1 0 ok8 4 dX8_take_32 rfl wd_301 rfl rfl (by decide) rfl ?_
        refine r_get 38 hE 0 0 ok5 4 dX8_take_35 rfl wd_84 rfl rfl (by decide) rfl ?_
        refine r_bipush 40 hE dX8_take_38 rfl (by decide) ?_
        refine r_icmp_lt 43 49 hE dX8_take_40 rfl (by decide) (by omega) (fun c40 => ?_) (fun c40 => ?_)
        · skip
          refine r_aload_n 50 hE 0 dX8_take_49 rfl rfl rfl ?_
          refine r_get 53 hE 1 0 ok8 4 dX8_take_50 rfl wd_301 rfl rfl (by decide) rfl ?_
          refine r_iload_n 54 hE 1 dX8_take_53 rfl rfl rfl ?_
          refine r_iload_n 55 hE 2 dX8_take_54 rfl rfl rfl ?_
          refine r_iload_n 56 hE 3 dX8_take_55 rfl rfl rfl ?_
          refine r_callV 59 hE [0] [1] [(wShelf g a L ln tp rd cnt era nws)] [(wMain g x tpa (a 0) da pa qa rua wa sa bka taped told)] 0 5 ok5 [] (c_X5_reaches (by omega) (by omega) (hln) (by omega) (by omega)) dX8_take_56 rfl rfl wd_873 wd_874 wd_875 wd_4 wd_876 ne_X5 np_X5_reaches (Nat.le_of_ble_eq_true rfl)  (by decide) (by decide) rfl (Nat.le_of_ble_eq_true rfl) rfl rfl rfl rfl (by decide) rfl (fun v1 f1 hp => ?_)
          obtain ⟨rfl, rfl⟩ := hp
          show G g E _ _ _ [(wShelf g a L ln tp rd cnt era nws), (wMain g x tpa (a 0) da pa qa rua wa sa bka taped told)] 59 [(0, .ref x), (1, .int (iI t)), (2, .int (iI p_)), (3, .int (iI m_))] [.int (iI (bI ((0 ≤ t ∧ t < cnt) ∧ 0 ≤ p_ ∧ p_ ≤ ln t ∧ m_ ≤ ln t - p_)))]
          refine r_if_ne 62 68 hE dX8_take_59 rfl (by decide) (bI_rg _) (fun c59 => ?_) (fun c59 => ?_)
          · skip
            have c59 := bI1 c59
            exact absurd (by unfold tkF; (repeat (first | rw [if_pos (by omega)] | rw [if_neg (by omega)]))) hno
          · skip
            have c59 := bI0 c59
            refine r_aload_n 63 hE 0 dX8_take_62 rfl rfl rfl ?_
            refine r_iconst 64 hE dX8_take_63 rfl ?_
            refine r_callV 67 hE [1] [0] [(wMain g x tpa (a 0) da pa qa rua wa sa bka taped told)] [(wShelf g a L ln tp rd cnt era nws)] 0 8 ok8 [] (c_X8_refuse) dX8_take_64 rfl rfl wd_347 wd_349 ws_1 wd_1 wd_350 ne_X8 np_X8_refuse (Nat.le_of_ble_eq_true rfl)  (by decide) (by decide) rfl (Nat.le_of_ble_eq_true rfl) rfl rfl rfl rfl (by decide) rfl (fun v1 f1 hp => ?_)
            obtain ⟨rfl, rfl⟩ := hp
            show G g E _ _ _ [(wMain g x tpa (a 0) da pa qa rua wa sa bka taped 5), (wShelf g a L ln tp rd cnt era nws)] 67 [(0, .ref x), (1, .int (iI t)), (2, .int (iI p_)), (3, .int (iI m_))] [.int (iI (-1))]
            refine r_ireturn hE hR [(wMain g x tpa (a 0) da pa qa rua wa sa bka taped 5), (wShelf g a L ln tp rd cnt era nws)] dX8_take_67 (Nat.le_of_ble_eq_true rfl) (Nat.le_of_ble_eq_true rfl) rfl ?_
            exact ⟨rfl, by unfold tkF; (repeat (first | rw [if_pos (by omega)] | rw [if_neg (by omega)]))⟩
        · skip
          refine r_aload_n 44 hE 0 dX8_take_43 rfl rfl rfl ?_
          refine r_iconst 45 hE dX8_take_44 rfl ?_
          refine r_callV 48 hE [1] [0] [(wMain g x tpa (a 0) da pa qa rua wa sa bka taped told)] [(wShelf g a L ln tp rd cnt era nws)] 0 8 ok8 [] (c_X8_refuse) dX8_take_45 rfl rfl wd_347 wd_349 ws_1 wd_1 wd_350 ne_X8 np_X8_refuse (Nat.le_of_ble_eq_true rfl)  (by decide) (by decide) rfl (Nat.le_of_ble_eq_true rfl) rfl rfl rfl rfl (by decide) rfl (fun v1 f1 hp => ?_)
          obtain ⟨rfl, rfl⟩ := hp
          show G g E _ _ _ [(wMain g x tpa (a 0) da pa qa rua wa sa bka taped 3), (wShelf g a L ln tp rd cnt era nws)] 48 [(0, .ref x), (1, .int (iI t)), (2, .int (iI p_)), (3, .int (iI m_))] [.int (iI (-1))]
          refine r_ireturn hE hR [(wMain g x tpa (a 0) da pa qa rua wa sa bka taped 3), (wShelf g a L ln tp rd cnt era nws)] dX8_take_48 (Nat.le_of_ble_eq_true rfl) (Nat.le_of_ble_eq_true rfl) rfl ?_
          exact ⟨rfl, by unfold tkF; (repeat (first | rw [if_pos (by omega)] | rw [if_neg (by omega)]))⟩
      · skip
        have c22 := bI0 c22
        refine r_aload_n 26 hE 0 dX8_take_25 rfl rfl rfl ?_
        refine r_iconst 27 hE dX8_take_26 rfl ?_
        refine r_callV 30 hE [1] [0] [(wMain g x tpa (a 0) da pa qa rua wa sa bka taped told)] [(wShelf g a L ln tp rd cnt era nws)] 0 8 ok8 [] (c_X8_refuse) dX8_take_27 rfl rfl wd_347 wd_349 ws_1 wd_1 wd_350 ne_X8 np_X8_refuse (Nat.le_of_ble_eq_true rfl)  (by decide) (by decide) rfl (Nat.le_of_ble_eq_true rfl) rfl rfl rfl rfl (by decide) rfl (fun v1 f1 hp => ?_)
        obtain ⟨rfl, rfl⟩ := hp
        show G g E _ _ _ [(wMain g x tpa (a 0) da pa qa rua wa sa bka taped 2), (wShelf g a L ln tp rd cnt era nws)] 30 [(0, .ref x), (1, .int (iI t)), (2, .int (iI p_)), (3, .int (iI m_))] [.int (iI (-1))]
        refine r_ireturn hE hR [(wMain g x tpa (a 0) da pa qa rua wa sa bka taped 2), (wShelf g a L ln tp rd cnt era nws)] dX8_take_30 (Nat.le_of_ble_eq_true rfl) (Nat.le_of_ble_eq_true rfl) rfl ?_
        exact ⟨rfl, by unfold tkF; (repeat (first | rw [if_pos (by omega)] | rw [if_neg (by omega)]))⟩
    · skip
      refine r_aload_n 9 hE 0 dX8_take_8 rfl rfl rfl ?_
      refine r_iconst 10 hE dX8_take_9 rfl ?_
      refine r_callV 13 hE [0] [1] [(wMain g x tpa (a 0) da pa qa rua wa sa bka taped told)] [(wShelf g a L ln tp rd cnt era nws)] 0 8 ok8 [] (c_X8_refuse) dX8_take_10 rfl rfl wd_347 wd_349 ws_1 wd_1 wd_350 ne_X8 np_X8_refuse (Nat.le_of_ble_eq_true rfl)  (by decide) (by decide) rfl (Nat.le_of_ble_eq_true rfl) rfl rfl rfl rfl (by decide) rfl (fun v1 f1 hp => ?_)
      obtain ⟨rfl, rfl⟩ := hp
      show G g E _ _ _ [(wMain g x tpa (a 0) da pa qa rua wa sa bka taped 1), (wShelf g a L ln tp rd cnt era nws)] 13 [(0, .ref x), (1, .int (iI t)), (2, .int (iI p_)), (3, .int (iI m_))] [.int (iI (-1))]
      refine r_ireturn hE hR [(wMain g x tpa (a 0) da pa qa rua wa sa bka taped 1), (wShelf g a L ln tp rd cnt era nws)] dX8_take_13 (Nat.le_of_ble_eq_true rfl) (Nat.le_of_ble_eq_true rfl) rfl ?_
      exact ⟨rfl, by unfold tkF; (repeat (first | rw [if_pos (by omega)] | rw [if_neg (by omega)]))⟩
set_option maxHeartbeats 4000000 in
set_option maxRecDepth 100000 in
theorem c_X8_splice {g : Gm} {a : Nat → Nat} {L ln tp rd : Int → Int} {cnt era nws : Int} {r : Nat → Nat} {m : Nat} {RL : Int → Int} {rlen : Int} {ru : Nat → Nat} {kd fi se sg le de nx he ro : Int → Int} {rc re rr : Int} {R : Int → Rl} {w : Nat → Nat} {sp nb mt pl op no : Int → Int} {od stm wc : Int} {p : Nat → Nat} {n : Nat} {sh : Nat → Option Nat} {old cn : Int} {ad : Nat → Nat → Nat} {ss : Nat → ShS} {x tpa qa sa bka : Nat} {taped told : Int} {t p_ m_ u : Int} (hT : RT kd fi se sg le de nx he rc R) (hsh : ShOk L ln cnt) (hre : 0 ≤ re ∧ re ≤ 900000 ∧ -1 ≤ era ∧ era ≤ re) (hto : era = re → TopsOk R rc L ln tp rd cnt) (hce : 0 < cnt → era = re) (hWI : 0 ≤ stm ∧ ∀ i, 0 ≤ i → i < 10240 → 0 ≤ sp i ∧ sp i ≤ stm) (hs2 : stm ≤ 1500000000) (hpn : 1 ≤ (n : Int) ∧ (n : Int) ≤ 8) (hpo : 0 ≤ old ∧ old < (n : Int) ∧ 0 ≤ cn ∧ cn ≤ (n : Int)) (hsa : ∀ i, i < n → sh i = some ((ad i) 0)) (hBs : ∀ i, i < n → BR (ss i).L) (hm6 : (m : Int) = 600) (hBR : BR RL) (ht : 0 ≤ t ∧ t < cnt) (hu : 0 ≤ u ∧ u < cnt) (hp : 0 ≤ p_ ∧ 0 ≤ m_ ∧ p_ + m_ ≤ ln t) (h6 : ln t - m_ + ln u ≤ 600) : Ct g 6 0 0 yX8_splice cX8_splice 6 (some .int) [.ref x, .int (iI t), .int (iI p_), .int (iI m_), .int (iI u)] [(wMain g x tpa (a 0) (r 0) (p 0) qa (ru 0) (w 0) sa bka taped told), (wShelf g a L ln tp rd cnt era nws), (wRow g r m RL rlen), (wRules g ru kd fi se sg le de nx he ro rc re rr), (wWalk g w (ru 0) sp nb mt pl op no od stm wc), (wPileH g p n sh old cn), (wPool g ad ss n)] (fun v_ w_ => ∃ kd9 : Int → Int, ∃ fi9 : Int → Int, ∃ se9 : Int → Int, ∃ sg9 : Int → Int, ∃ le9 : Int → Int, ∃ de9 : Int → Int, ∃ nx9 : Int → Int, ∃ he9 : Int → Int, ∃ rc9 : Int, ∃ R9 : Int → Rl, ∃ ro9 : Int → Int, ∃ re9 : Int, ∃ rr9 : Int, ∃ tp9 : Int → Int, ∃ rd9 : Int → Int, ∃ sp9 : Int → Int, ∃ nb9 : Int → Int, ∃ mt9 : Int → Int, ∃ pl9 : Int → Int, ∃ op9 : Int → Int, ∃ no9 : Int → Int, ∃ od9 : Int, ∃ wc9 : Int, ∃ old9 : Int, ∃ cn9 : Int, ∃ i9 : Nat, ∃ Lp : Int → Int, ∃ lnp : Int → Int, ∃ tpp : Int → Int, ∃ rdp : Int → Int, ∃ news9 : Int, ∃ L9 : Int → Int, ∃ ln9 : Int → Int, ∃ cnt9 : Int, ∃ RL9 : Int → Int, ∃ rl9 : Int, ∃ r9 : Int, v_ = some (.int (iI r9)) ∧ w_ = [(wMain g x tpa (a 0) (r 0) (p 0) qa (ru 0) (w 0) sa bka taped 0), (wShelf g a L9 ln9 tp9 rd9 cnt9 re9 nws), (wRow g r m RL9 rl9), (wRules g ru kd9 fi9 se9 sg9 le9 de9 nx9 he9 ro9 rc9 re9 rr9), (wWalk g w (ru 0) sp9 nb9 mt9 pl9 op9 no9 od9 (stm + 1) wc9), (wPileH g p n sh old9 cn9), (wPool g ad (upS ss i9 (shs Lp lnp tpp rdp cnt re9 news9)) n)] ∧ (RT kd9 fi9 se9 sg9 le9 de9 nx9 he9 rc9 R9) ∧ ((re9 = re ∧ rc ≤ rc9 ∧ (∀ i, 0 ≤ i → i < rc → R9 i = R i)) ∨ re9 = re + 1) ∧ (0 ≤ stm + 1 ∧ ∀ i, 0 ≤ i → i < 10240 → 0 ≤ sp9 i ∧ sp9 i ≤ stm + 1) ∧ (PushIs n old cn old9 cn9 i9) ∧ (∀ t, 0 ≤ t → t < cnt → lnp t = ln t ∧ ∀ k, 0 ≤ k → k < ln t → Lp (600 * t + k) = L (600 * t + k)) ∧ (KeptOk R9 rc9 re9 (shs Lp lnp tpp rdp cnt re9 news9)) ∧ (TopsOk R9 rc9 L9 ln9 tp9 rd9 cnt9) ∧ (ShOk L9 ln9 cnt9) ∧ (NewsF (tx L) ln cnt (tx L9) ln9 cnt9 news9) ∧ (BR RL9) ∧ (TextSet (tx L) ln cnt t (splF (tx L t) p_ m_ (tx L u) (ln u)) (ln t - m_ + ln u) (tx L9) ln9 cnt9) ∧ (r9 = ln t - m_ + ln u)) := by
  refine Ct.of (by decide) (Nat.le_of_ble_eq_true rfl) (lv := [(0, .ref x), (1, .int (iI t)), (2, .int (iI p_)), (3, .int (iI m_)), (4, .int (iI u))]) rfl ?_
  intro E hE hR hnm
  have hc := hsh.1
  have hln := hsh.ln
  have hB := hsh.2.1
  have hl1 := hln t ht.1 ht.2
  have hl2 := hsh.2.2 u hu.1 hu.2
  have hws : wsF ln cnt t p_ m_ u = 0 := by unfold wsF; (repeat (first | rw [if_pos (by omega)] | rw [if_neg (by omega)]))
  refine r_aload_n 1 hE 0 dX8_splice_0 rfl rfl rfl ?_
  refine r_iload_n 2 hE 1 dX8_splice_1 rfl rfl rfl ?_
  refine r_iload_n 3 hE 2 dX8_splice_2 rfl rfl rfl ?_
  refine r_iload_n 4 hE 3 dX8_splice_3 rfl rfl rfl ?_
  refine r_iload 6 hE 4 dX8_splice_4 rfl rfl ?_
  refine r_callV 9 hE [0, 1] [2, 3, 4, 5, 6] [(wMain g x tpa (a 0) (r 0) (p 0) qa (ru 0) (w 0) sa bka taped told), (wShelf g a L ln tp rd cnt era nws)] [(wRow g r m RL rlen), (wRules g ru kd fi se sg le de nx he ro rc re rr), (wWalk g w (ru 0) sp nb mt pl op no od stm wc), (wPileH g p n sh old cn), (wPool g ad ss n)] 0 8 ok8 [] (c_X8_wrongSplice (by omega) (hln) (by omega) (by omega) (by omega) (by omega)) dX8_splice_6 rfl rfl wd_892 wd_894 ws_42 wd_1 wd_895 ne_X8 np_X8_wrongSplice (Nat.le_of_ble_eq_true rfl)  (by decide) (by decide) rfl (Nat.le_of_ble_eq_true rfl) rfl rfl rfl rfl (by decide) rfl (fun v1 f1 hp => ?_)
  obtain ⟨rfl, rfl⟩ := hp
  show G g E _ _ _ [(wMain g x tpa (a 0) (r 0) (p 0) qa (ru 0) (w 0) sa bka taped told), (wShelf g a L ln tp rd cnt era nws), (wRow g r m RL rlen), (wRules g ru kd fi se sg le de nx he ro rc re rr), (wWalk g w (ru 0) sp nb mt pl op no od stm wc), (wPileH g p n sh old cn), (wPool g ad ss n)] 9 [(0, .ref x), (1, .int (iI t)), (2, .int (iI p_)), (3, .int (iI m_)), (4, .int (iI u))] [.int (iI (wsF ln cnt t p_ m_ u))]
  refine r_istore 11 hE [(5, .int (iI (wsF ln cnt t p_ m_ u))), (0, .ref x), (1, .int (iI t)), (2, .int (iI p_)), (3, .int (iI m_)), (4, .int (iI u))] dX8_splice_9 rfl (by decide) rfl ?_
  refine r_iload 13 hE 0 dX8_splice_11 rfl rfl ?_
  refine r_if_eq 16 23 hE dX8_splice_13 rfl (by decide) (by rw [hws]; omega) (fun c13 => ?_) (fun c13 => ?_)
  · skip
    refine r_aload_n 24 hE 1 dX8_splice_23 rfl rfl rfl ?_
    refine r_iload_n 25 hE 2 dX8_splice_24 rfl rfl rfl ?_
    refine r_iload_n 26 hE 3 dX8_splice_25 rfl rfl rfl ?_
    refine r_iload_n 27 hE 4 dX8_splice_26 rfl rfl rfl ?_
    refine r_iload 29 hE 5 dX8_splice_27 rfl rfl ?_
    refine r_callV 32 hE [0, 1, 2] [3, 4, 5, 6] [(wMain g x tpa (a 0) (r 0) (p 0) qa (ru 0) (w 0) sa bka taped told), (wShelf g a L ln tp rd cnt era nws), (wRow g r m RL rlen)] [(wRules g ru kd fi se sg le de nx he ro rc re rr), (wWalk g w (ru 0) sp nb mt pl op no od stm wc), (wPileH g p n sh old cn), (wPool g ad ss n)] 0 8 ok8 [] (c_X8_draftSplice (by omega) (hln) (hB) (hBR) (by omega) (by omega) (by omega) (by omega) (hm6)) dX8_splice_29 rfl rfl wd_896 wd_898 ws_43 wd_1 wd_899 ne_X8 np_X8_draftSplice (Nat.le_of_ble_eq_true rfl)  (by decide) (by decide) rfl (Nat.le_of_ble_eq_true rfl) rfl rfl rfl rfl (by decide) rfl (fun v1 f1 hp => ?_)
    obtain ⟨RL9_29, rfl, rfl, h29_0, h29_1⟩ := hp
    show G g E _ _ _ [(wMain g x tpa (a 0) (r 0) (p 0) qa (ru 0) (w 0) sa bka taped told), (wShelf g a L ln tp rd cnt era nws), (wRow g r m RL9_29 (ln t - m_ + ln u)), (wRules g ru kd fi se sg le de nx he ro rc re rr), (wWalk g w (ru 0) sp nb mt pl op no od stm wc), (wPileH g p n sh old cn), (wPool g ad ss n)] 32 [(5, .int (iI (wsF ln cnt t p_ m_ u))), (0, .ref x), (1, .int (iI t)), (2, .int (iI p_)), (3, .int (iI m_)), (4, .int (iI u))] []
    refine r_aload_n 33 hE 1 dX8_splice_32 rfl rfl rfl ?_
    refine r_iload_n 34 hE 2 dX8_splice_33 rfl rfl rfl ?_
    refine r_callV 37 hE [0, 1, 2, 3, 4, 5, 6] [] [(wMain g x tpa (a 0) (r 0) (p 0) qa (ru 0) (w 0) sa bka taped told), (wShelf g a L ln tp rd cnt era nws), (wRow g r m RL9_29 (ln t - m_ + ln u)), (wRules g ru kd fi se sg le de nx he ro rc re rr), (wWalk g w (ru 0) sp nb mt pl op no od stm wc), (wPileH g p n sh old cn), (wPool g ad ss n)] [] 0 8 ok8 [] (c_X8_actOn (hT) (hsh) (by omega) (hto) (hce) (hWI) (by omega) (by omega) (by omega) (hsa) (hBs) (by omega) (by omega) (h29_1) (fun k a b => by rw [h29_0 k a b]; exact splF_rg hsh ht hu hp a b)) dX8_splice_34 rfl rfl wd_883 wd_885 ws_41 wd_1 wd_886 ne_X8 np_X8_actOn (Nat.le_of_ble_eq_true rfl)  (by decide) (by decide) rfl (Nat.le_of_ble_eq_true rfl) rfl rfl rfl rfl (by decide) rfl (fun v1 f1 hp => ?_)
    obtain ⟨kd9_34, fi9_34, se9_34, sg9_34, le9_34, de9_34, nx9_34, he9_34, rc9_34, R9_34, ro9_34, re9_34, rr9_34, tp9_34, rd9_34, sp9_34, nb9_34, mt9_34, pl9_34, op9_34, no9_34, od9_34, wc9_34, old9_34, cn9_34, i9_34, Lp_34, lnp_34, tpp_34, rdp_34, news9_34, rfl, rfl, h34_0, h34_1, h34_2, h34_3, h34_4, h34_5, h34_6, h34_7, h34_8⟩ := hp
    show G g E _ _ _ [(wMain g x tpa (a 0) (r 0) (p 0) qa (ru 0) (w 0) sa bka taped told), (wShelf g a (cpy RL9_29 L 0 (t * 600) (ln t - m_ + ln u)) (up ln t (ln t - m_ + ln u)) tp9_34 rd9_34 (max cnt (t + 1)) re9_34 nws), (wRow g r m RL9_29 (ln t - m_ + ln u)), (wRules g ru kd9_34 fi9_34 se9_34 sg9_34 le9_34 de9_34 nx9_34 he9_34 ro9_34 rc9_34 re9_34 rr9_34), (wWalk g w (ru 0) sp9_34 nb9_34 mt9_34 pl9_34 op9_34 no9_34 od9_34 (stm + 1) wc9_34), (wPileH g p n sh old9_34 cn9_34), (wPool g ad (upS ss i9_34 (shs Lp_34 lnp_34 tpp_34 rdp_34 cnt re9_34 news9_34)) n)] 37 [(5, .int (iI (wsF ln cnt t p_ m_ u))), (0, .ref x), (1, .int (iI t)), (2, .int (iI p_)), (3, .int (iI m_)), (4, .int (iI u))] []
    refine r_aload_n 38 hE 1 dX8_splice_37 rfl rfl rfl ?_
    refine r_aload_n 39 hE 1 dX8_splice_38 rfl rfl rfl ?_
    refine r_get 42 hE 0 0 ok8 4 dX8_splice_39 rfl wd_301 rfl rfl (by decide) rfl ?_
    refine r_iload_n 43 hE 2 dX8_splice_42 rfl rfl rfl ?_
    refine r_callV 46 hE [1] [0, 2, 3, 4, 5, 6] [(wShelf g a (cpy RL9_29 L 0 (t * 600) (ln t - m_ + ln u)) (up ln t (ln t - m_ + ln u)) tp9_34 rd9_34 (max cnt (t + 1)) re9_34 nws)] [(wMain g x tpa (a 0) (r 0) (p 0) qa (ru 0) (w 0) sa bka taped told), (wRow g r m RL9_29 (ln t - m_ + ln u)), (wRules g ru kd9_34 fi9_34 se9_34 sg9_34 le9_34 de9_34 nx9_34 he9_34 ro9_34 rc9_34 re9_34 rr9_34), (wWalk g w (ru 0) sp9_34 nb9_34 mt9_34 pl9_34 op9_34 no9_34 od9_34 (stm + 1) wc9_34), (wPileH g p n sh old9_34 cn9_34), (wPool g ad (upS ss i9_34 (shs Lp_34 lnp_34 tpp_34 rdp_34 cnt re9_34 news9_34)) n)] 0 5 ok5 [.ref x] (c_X5_lengthOf (by have := h34_7.1; omega) (h34_7.1)) dX8_splice_43 rfl rfl wd_630 wd_631 wd_632 wd_4 wd_633 ne_X5 np_X5_lengthOf (Nat.le_of_ble_eq_true rfl)  (by decide) (by decide) rfl (Nat.le_of_ble_eq_true rfl) rfl rfl rfl rfl (by decide) rfl (fun v1 f1 hp => ?_)
    obtain ⟨rfl, rfl⟩ := hp
    show G g E _ _ _ [(wShelf g a (cpy RL9_29 L 0 (t * 600) (ln t - m_ + ln u)) (up ln t (ln t - m_ + ln u)) tp9_34 rd9_34 (max cnt (t + 1)) re9_34 nws), (wMain g x tpa (a 0) (r 0) (p 0) qa (ru 0) (w 0) sa bka taped told), (wRow g r m RL9_29 (ln t - m_ + ln u)), (wRules g ru kd9_34 fi9_34 se9_34 sg9_34 le9_34 de9_34 nx9_34 he9_34 ro9_34 rc9_34 re9_34 rr9_34), (wWalk g w (ru 0) sp9_34 nb9_34 mt9_34 pl9_34 op9_34 no9_34 od9_34 (stm + 1) wc9_34), (wPileH g p n sh old9_34 cn9_34), (wPool g ad (upS ss i9_34 (shs Lp_34 lnp_34 tpp_34 rdp_34 cnt re9_34 news9_34)) n)] 46 [(5, .int (iI (wsF ln cnt t p_ m_ u))), (0, .ref x), (1, .int (iI t)), (2, .int (iI p_)), (3, .int (iI m_)), (4, .int (iI u))] [.int (iI ((up ln t (ln t - m_ + ln u)) t)), .ref x]
    refine r_callV 49 hE [1] [0, 2, 3, 4, 5, 6] [(wMain g x tpa (a 0) (r 0) (p 0) qa (ru 0) (w 0) sa bka taped told)] [(wShelf g a (cpy RL9_29 L 0 (t * 600) (ln t - m_ + ln u)) (up ln t (ln t - m_ + ln u)) tp9_34 rd9_34 (max cnt (t + 1)) re9_34 nws), (wRow g r m RL9_29 (ln t - m_ + ln u)), (wRules g ru kd9_34 fi9_34 se9_34 sg9_34 le9_34 de9_34 nx9_34 he9_34 ro9_34 rc9_34 re9_34 rr9_34), (wWalk g w (ru 0) sp9_34 nb9_34 mt9_34 pl9_34 op9_34 no9_34 od9_34 (stm + 1) wc9_34), (wPileH g p n sh old9_34 cn9_34), (wPool g ad (upS ss i9_34 (shs Lp_34 lnp_34 tpp_34 rdp_34 cnt re9_34 news9_34)) n)] 0 8 ok8 [] (c_X8_answer) dX8_splice_46 rfl rfl wd_739 wd_741 ws_33 wd_1 wd_742 ne_X8 np_X8_answer (Nat.le_of_ble_eq_true rfl)  (by decide) (by decide) rfl (Nat.le_of_ble_eq_true rfl) rfl rfl rfl rfl (by decide) rfl (fun v1 f1 hp => ?_)
    obtain ⟨rfl, rfl⟩ := hp
    show G g E _ _ _ [(wMain g x tpa (a 0) (r 0) (p 0) qa (ru 0) (w 0) sa bka taped 0), (wShelf g a (cpy RL9_29 L 0 (t * 600) (ln t - m_ + ln u)) (up ln t (ln t - m_ + ln u)) tp9_34 rd9_34 (max cnt (t + 1)) re9_34 nws), (wRow g r m RL9_29 (ln t - m_ + ln u)), (wRules g ru kd9_34 fi9_34 se9_34 sg9_34 le9_34 de9_34 nx9_34 he9_34 ro9_34 rc9_34 re9_34 rr9_34), (wWalk g w (ru 0) sp9_34 nb9_34 mt9_34 pl9_34 op9_34 no9_34 od9_34 (stm + 1) wc9_34), (wPileH g p n sh old9_34 cn9_34), (wPool g ad (upS ss i9_34 (shs Lp_34 lnp_34 tpp_34 rdp_34 cnt re9_34 news9_34)) n)] 49 [(5, .int (iI (wsF ln cnt t p_ m_ u))), (0, .ref x), (1, .int (iI t)), (2, .int (iI p_)), (3, .int (iI m_)), (4, .int (iI u))] [.int (iI ((up ln t (ln t - m_ + ln u)) t))]
    refine r_ireturn hE hR [(wMain g x tpa (a 0) (r 0) (p 0) qa (ru 0) (w 0) sa bka taped 0), (wShelf g a (cpy RL9_29 L 0 (t * 600) (ln t - m_ + ln u)) (up ln t (ln t - m_ + ln u)) tp9_34 rd9_34 (max cnt (t + 1)) re9_34 nws), (wRow g r m RL9_29 (ln t - m_ + ln u)), (wRules g ru kd9_34 fi9_34 se9_34 sg9_34 le9_34 de9_34 nx9_34 he9_34 ro9_34 rc9_34 re9_34 rr9_34), (wWalk g w (ru 0) sp9_34 nb9_34 mt9_34 pl9_34 op9_34 no9_34 od9_34 (stm + 1) wc9_34), (wPileH g p n sh old9_34 cn9_34), (wPool g ad (upS ss i9_34 (shs Lp_34 lnp_34 tpp_34 rdp_34 cnt re9_34 news9_34)) n)] dX8_splice_49 (Nat.le_of_ble_eq_true rfl) (Nat.le_of_ble_eq_true rfl) rfl ?_
    exact ⟨kd9_34, fi9_34, se9_34, sg9_34, le9_34, de9_34, nx9_34, he9_34, rc9_34, R9_34, ro9_34, re9_34, rr9_34, tp9_34, rd9_34, sp9_34, nb9_34, mt9_34, pl9_34, op9_34, no9_34, od9_34, wc9_34, old9_34, cn9_34, i9_34, Lp_34, lnp_34, tpp_34, rdp_34, news9_34, _, _, _, _, _, _, rfl, rfl, h34_0, h34_1, h34_2, h34_3, h34_4, h34_5, h34_6, h34_7, h34_8.F, h29_1, TextSet.of hln (by omega) (by omega) (fun k a b => h29_0 k a b), up_same _ _ _⟩
  · skip
    exact absurd hws c13
set_option maxHeartbeats 4000000 in
set_option maxRecDepth 100000 in
theorem c_X8_splice_no {g : Gm} {a : Nat → Nat} {L ln tp rd : Int → Int} {cnt era nws : Int} {x tpa da pa qa rua wa sa bka : Nat} {taped told : Int} {t p_ m_ u : Int} (hsh : ShOk L ln cnt) (ht : -2147483648 ≤ t ∧ t ≤ 2147483647) (hp : -2147483648 ≤ p_ ∧ p_ ≤ 2147483647) (hm : -2147483648 ≤ m_ ∧ m_ ≤ 2147483647) (hu : -2147483648 ≤ u ∧ u ≤ 2147483647) (hno : wsF ln cnt t p_ m_ u ≠ 0) (hnr : 0 ≤ wsF ln cnt t p_ m_ u ∧ wsF ln cnt t p_ m_ u ≤ 9) : Ct g 6 0 0 yX8_splice cX8_splice 6 (some .int) [.ref x, .int (iI t), .int (iI p_), .int (iI m_), .int (iI u)] [(wMain g x tpa (a 0) da pa qa rua wa sa bka taped told), (wShelf g a L ln tp rd cnt era nws)] (fun v_ w_ => v_ = some (.int (iI (-1))) ∧ w_ = [(wMain g x tpa (a 0) da pa qa rua wa sa bka taped (wsF ln cnt t p_ m_ u)), (wShelf g a L ln tp rd cnt era nws)]) := by
  refine Ct.of (by decide) (Nat.le_of_ble_eq_true rfl) (lv := [(0, .ref x), (1, .int (iI t)), (2, .int (iI p_)), (3, .int (iI m_)), (4, .int (iI u))]) rfl ?_
  intro E hE hR hnm
  have hc := hsh.1
  have hln := hsh.ln
  have hB := hsh.2.1
  refine r_aload_n 1 hE 0 dX8_splice_0 rfl rfl rfl ?_
  refine r_iload_n 2 hE 1 dX8_splice_1 rfl rfl rfl ?_
  refine r_iload_n 3 hE 2 dX8_splice_2 rfl rfl rfl ?_
  refine r_iload_n 4 hE 3 dX8_splice_3 rfl rfl rfl ?_
  refine r_iload 6 hE 4 dX8_splice_4 rfl rfl ?_
  refine r_callV 9 hE [0, 1] [] [(wMain g x tpa (a 0) da pa qa rua wa sa bka taped told), (wShelf g a L ln tp rd cnt era nws)] [] 0 8 ok8 [] (c_X8_wrongSplice (by omega) (hln) (by omega) (by omega) (by omega) (by omega)) dX8_splice_6 rfl rfl wd_892 wd_894 ws_42 wd_1 wd_895 ne_X8 np_X8_wrongSplice (Nat.le_of_ble_eq_true rfl)  (by decide) (by decide) rfl (Nat.le_of_ble_eq_true rfl) rfl rfl rfl rfl (by decide) rfl (fun v1 f1 hp => ?_)
  obtain ⟨rfl, rfl⟩ := hp
  show G g E _ _ _ [(wMain g x tpa (a 0) da pa qa rua wa sa bka taped told), (wShelf g a L ln tp rd cnt era nws)] 9 [(0, .ref x), (1, .int (iI t)), (2, .int (iI p_)), (3, .int (iI m_)), (4, .int (iI u))] [.int (iI (wsF ln cnt t p_ m_ u))]
  refine r_istore 11 hE [(5, .int (iI (wsF ln cnt t p_ m_ u))), (0, .ref x), (1, .int (iI t)), (2, .int (iI p_)), (3, .int (iI m_)), (4, .int (iI u))] dX8_splice_9 rfl (by decide) rfl ?_
  refine r_iload 13 hE 0 dX8_splice_11 rfl rfl ?_
  refine r_if_eq 16 23 hE dX8_splice_13 rfl (by decide) (by omega) (fun c13 => ?_) (fun c13 => ?_)
  · skip
    exact absurd c13 hno
  · skip
    refine r_aload_n 17 hE 1 dX8_splice_16 rfl rfl rfl ?_
    refine r_iload 19 hE 0 dX8_splice_17 rfl rfl ?_
    refine r_callV 22 hE [0] [1] [(wMain g x tpa (a 0) da pa qa rua wa sa bka taped told)] [(wShelf g a L ln tp rd cnt era nws)] 0 8 ok8 [] (c_X8_refuse) dX8_splice_19 rfl rfl wd_347 wd_349 ws_1 wd_1 wd_350 ne_X8 np_X8_refuse (Nat.le_of_ble_eq_true rfl)  (by decide) (by decide) rfl (Nat.le_of_ble_eq_true rfl) rfl rfl rfl rfl (by decide) rfl (fun v1 f1 hp => ?_)
    obtain ⟨rfl, rfl⟩ := hp
    show G g E _ _ _ [(wMain g x tpa (a 0) da pa qa rua wa sa bka taped (wsF ln cnt t p_ m_ u)), (wShelf g a L ln tp rd cnt era nws)] 22 [(5, .int (iI (wsF ln cnt t p_ m_ u))), (0, .ref x), (1, .int (iI t)), (2, .int (iI p_)), (3, .int (iI m_)), (4, .int (iI u))] [.int (iI (-1))]
    refine r_ireturn hE hR [(wMain g x tpa (a 0) da pa qa rua wa sa bka taped (wsF ln cnt t p_ m_ u)), (wShelf g a L ln tp rd cnt era nws)] dX8_splice_22 (Nat.le_of_ble_eq_true rfl) (Nat.le_of_ble_eq_true rfl) rfl ?_
    exact ⟨retI (rfl), rfl⟩
set_option maxHeartbeats 4000000 in
set_option maxRecDepth 100000 in
theorem c_X8_join {g : Gm} {a : Nat → Nat} {L ln tp rd : Int → Int} {cnt era nws : Int} {r : Nat → Nat} {m : Nat} {RL : Int → Int} {rlen : Int} {ru : Nat → Nat} {kd fi se sg le de nx he ro : Int → Int} {rc re rr : Int} {R : Int → Rl} {w : Nat → Nat} {sp nb mt pl op no : Int → Int} {od stm wc : Int} {p : Nat → Nat} {n : Nat} {sh : Nat → Option Nat} {old cn : Int} {ad : Nat → Nat → Nat} {ss : Nat → ShS} {x tpa qa sa bka : Nat} {taped told : Int} {t u : Int} (hT : RT kd fi se sg le de nx he rc R) (hsh : ShOk L ln cnt) (hre : 0 ≤ re ∧ re ≤ 900000 ∧ -1 ≤ era ∧ era ≤ re) (hto : era = re → TopsOk R rc L ln tp rd cnt) (hce : 0 < cnt → era = re) (hWI : 0 ≤ stm ∧ ∀ i, 0 ≤ i → i < 10240 → 0 ≤ sp i ∧ sp i ≤ stm) (hs2 : stm ≤ 1500000000) (hpn : 1 ≤ (n : Int) ∧ (n : Int) ≤ 8) (hpo : 0 ≤ old ∧ old < (n : Int) ∧ 0 ≤ cn ∧ cn ≤ (n : Int)) (hsa : ∀ i, i < n → sh i = some ((ad i) 0)) (hBs : ∀ i, i < n → BR (ss i).L) (hm6 : (m : Int) = 600) (hBR : BR RL) (ht : 0 ≤ t ∧ t < cnt) (hu : 0 ≤ u ∧ u < cnt) (h6 : ln t + ln u ≤ 600) (h8 : cnt < 8) : Ct g 6 0 0 yX8_join cX8_join 4 (some .int) [.ref x, .int (iI t), .int (iI u)] [(wMain g x tpa (a 0) (r 0) (p 0) qa (ru 0) (w 0) sa bka taped told), (wShelf g a L ln tp rd cnt era nws), (wRow g r m RL rlen), (wRules g ru kd fi se sg le de nx he ro rc re rr), (wWalk g w (ru 0) sp nb mt pl op no od stm wc), (wPileH g p n sh old cn), (wPool g ad ss n)] (fun v_ w_ => ∃ kd9 : Int → Int, ∃ fi9 : Int → Int, ∃ se9 : Int → Int, ∃ sg9 : Int → Int, ∃ le9 : Int → Int, ∃ de9 : Int → Int, ∃ nx9 : Int → Int, ∃ he9 : Int → Int, ∃ rc9 : Int, ∃ R9 : Int → Rl, ∃ ro9 : Int → Int, ∃ re9 : Int, ∃ rr9 : Int, ∃ tp9 : Int → Int, ∃ rd9 : Int → Int, ∃ sp9 : Int → Int, ∃ nb9 : Int → Int, ∃ mt9 : Int → Int, ∃ pl9 : Int → Int, ∃ op9 : Int → Int, ∃ no9 : Int → Int, ∃ od9 : Int, ∃ wc9 : Int, ∃ old9 : Int, ∃ cn9 : Int, ∃ i9 : Nat, ∃ Lp : Int → Int, ∃ lnp : Int → Int, ∃ tpp : Int → Int, ∃ rdp : Int → Int, ∃ news9 : Int, ∃ L9 : Int → Int, ∃ ln9 : Int → Int, ∃ cnt9 : Int, ∃ RL9 : Int → Int, ∃ rl9 : Int, v_ = some (.int (iI cnt)) ∧ w_ = [(wMain g x tpa (a 0) (r 0) (p 0) qa (ru 0) (w 0) sa bka taped 0), (wShelf g a L9 ln9 tp9 rd9 cnt9 re9 nws), (wRow g r m RL9 rl9), (wRules g ru kd9 fi9 se9 sg9 le9 de9 nx9 he9 ro9 rc9 re9 rr9), (wWalk g w (ru 0) sp9 nb9 mt9 pl9 op9 no9 od9 (stm + 1) wc9), (wPileH g p n sh old9 cn9), (wPool g ad (upS ss i9 (shs Lp lnp tpp rdp cnt re9 news9)) n)] ∧ (RT kd9 fi9 se9 sg9 le9 de9 nx9 he9 rc9 R9) ∧ ((re9 = re ∧ rc ≤ rc9 ∧ (∀ i, 0 ≤ i → i < rc → R9 i = R i)) ∨ re9 = re + 1) ∧ (0 ≤ stm + 1 ∧ ∀ i, 0 ≤ i → i < 10240 → 0 ≤ sp9 i ∧ sp9 i ≤ stm + 1) ∧ (PushIs n old cn old9 cn9 i9) ∧ (∀ t, 0 ≤ t → t < cnt → lnp t = ln t ∧ ∀ k, 0 ≤ k → k < ln t → Lp (600 * t + k) = L (600 * t + k)) ∧ (KeptOk R9 rc9 re9 (shs Lp lnp tpp rdp cnt re9 news9)) ∧ (TopsOk R9 rc9 L9 ln9 tp9 rd9 cnt9) ∧ (ShOk L9 ln9 cnt9) ∧ (NewsF (tx L) ln cnt (tx L9) ln9 cnt9 news9) ∧ (BR RL9) ∧ (TextSet (tx L) ln cnt cnt (joinF (tx L t) (ln t) (tx L u)) (ln t + ln u) (tx L9) ln9 cnt9)) := by
  refine Ct.of (by decide) (Nat.le_of_ble_eq_true rfl) (lv := [(0, .ref x), (1, .int (iI t)), (2, .int (iI u))]) rfl ?_
  intro E hE hR hnm
  have hc := hsh.1
  have hln := hsh.ln
  have hB := hsh.2.1
  have hl1 := hsh.2.2 t ht.1 ht.2
  have hl2 := hsh.2.2 u hu.1 hu.2
  refine r_aload_n 1 hE 0 dX8_join_0 rfl rfl rfl ?_
  refine r_get 4 hE 0 0 ok8 4 dX8_join_1 rfl wd_301 rfl rfl (by decide) rfl ?_
  refine r_iload_n 5 hE 1 dX8_join_4 rfl rfl rfl ?_
  refine r_callV 8 hE [1] [0, 2, 3, 4, 5, 6] [(wShelf g a L ln tp rd cnt era nws)] [(wMain g x tpa (a 0) (r 0) (p 0) qa (ru 0) (w 0) sa bka taped told), (wRow g r m RL rlen), (wRules g ru kd fi se sg le de nx he ro rc re rr), (wWalk g w (ru 0) sp nb mt pl op no od stm wc), (wPileH g p n sh old cn), (wPool g ad ss n)] 0 5 ok5 [] (c_X5_has (by omega) (by omega)) dX8_join_5 rfl rfl wd_764 wd_578 wd_579 wd_4 wd_580 ne_X5 np_X5_has (Nat.le_of_ble_eq_true rfl)  (by decide) (by decide) rfl (Nat.le_of_ble_eq_true rfl) rfl rfl rfl rfl (by decide) rfl (fun v1 f1 hp => ?_)
  obtain ⟨rfl, rfl⟩ := hp
  show G g E _ _ _ [(wShelf g a L ln tp rd cnt era nws), (wMain g x tpa (a 0) (r 0) (p 0) qa (ru 0) (w 0) sa bka taped told), (wRow g r m RL rlen), (wRules g ru kd fi se sg le de nx he ro rc re rr), (wWalk g w (ru 0) sp nb mt pl op no od stm wc), (wPileH g p n sh old cn), (wPool g ad ss n)] 8 [(0, .ref x), (1, .int (iI t)), (2, .int (iI u))] [.int (iI (bI (0 ≤ t ∧ t < cnt)))]
  refine r_if_eq 11 22 hE dX8_join_8 rfl (by decide) (bI_rg _) (fun c8 => ?_) (fun c8 => ?_)
  · skip
    have c8 := bI0 c8
    omega
  · skip
    have c8 := bI1 c8
    refine r_aload_n 12 hE 0 dX8_join_11 rfl rfl rfl ?_
    refine r_get 15 hE 1 0 ok8 4 dX8_join_12 rfl wd_301 rfl rfl (by decide) rfl ?_
    refine r_iload_n 16 hE 2 dX8_join_15 rfl rfl rfl ?_
    refine r_callV 19 hE [0] [1, 2, 3, 4, 5, 6] [(wShelf g a L ln tp rd cnt era nws)] [(wMain g x tpa (a 0) (r 0) (p 0) qa (ru 0) (w 0) sa bka taped told), (wRow g r m RL rlen), (wRules g ru kd fi se sg le de nx he ro rc re rr), (wWalk g w (ru 0) sp nb mt pl op no od stm wc), (wPileH g p n sh old cn), (wPool g ad ss n)] 0 5 ok5 [] (c_X5_has (by omega) (by omega)) dX8_join_16 rfl rfl wd_764 wd_578 wd_579 wd_4 wd_580 ne_X5 np_X5_has (Nat.le_of_ble_eq_true rfl)  (by decide) (by decide) rfl (Nat.le_of_ble_eq_true rfl) rfl rfl rfl rfl (by decide) rfl (fun v1 f1 hp => ?_)
    obtain ⟨rfl, rfl⟩ := hp
    show G g E _ _ _ [(wShelf g a L ln tp rd cnt era nws), (wMain g x tpa (a 0) (r 0) (p 0) qa (ru 0) (w 0) sa bka taped told), (wRow g r m RL rlen), (wRules g ru kd fi se sg le de nx he ro rc re rr), (wWalk g w (ru 0) sp nb mt pl op no od stm wc), (wPileH g p n sh old cn), (wPool g ad ss n)] 19 [(0, .ref x), (1, .int (iI t)), (2, .int (iI u))] [.int (iI (bI (0 ≤ u ∧ u < cnt)))]
    refine r_if_ne 22 28 hE dX8_join_19 rfl (by decide) (bI_rg _) (fun c19 => ?_) (fun c19 => ?_)
    · skip
      have c19 := bI1 c19
      refine r_aload_n 29 hE 0 dX8_join_28 rfl rfl rfl ?_
      refine r_get 32 hE 1 0 ok8 4 dX8_join_29 rfl wd_301 rfl rfl (by decide) rfl ?_
      refine r_get 35 hE 0 0 ok5 4 dX8_join_32 rfl wd_84 rfl rfl (by decide) rfl ?_
      refine r_bipush 37 hE dX8_join_35 rfl (by decide) ?_
      refine r_icmp_lt 40 46 hE dX8_join_37 rfl (by decide) (by omega) (fun c37 => ?_) (fun c37 => ?_)
      · skip
        refine r_aload_n 47 hE 0 dX8_join_46 rfl rfl rfl ?_
        refine r_get 50 hE 1 0 ok8 4 dX8_join_47 rfl wd_301 rfl rfl (by decide) rfl ?_
        refine r_iload_n 51 hE 1 dX8_join_50 rfl rfl rfl ?_
        refine r_callV 54 hE [0] [1, 2, 3, 4, 5, 6] [(wShelf g a L ln tp rd cnt era nws)] [(wMain g x tpa (a 0) (r 0) (p 0) qa (ru 0) (w 0) sa bka taped told), (wRow g r m RL rlen), (wRules g ru kd fi se sg le de nx he ro rc re rr), (wWalk g w (ru 0) sp nb mt pl op no od stm wc), (wPileH g p n sh old cn), (wPool g ad ss n)] 0 5 ok5 [] (c_X5_lengthOf (by omega) (by omega)) dX8_join_51 rfl rfl wd_630 wd_631 wd_632 wd_4 wd_633 ne_X5 np_X5_lengthOf (Nat.le_of_ble_eq_true rfl)  (by decide) (by decide) rfl (Nat.le_of_ble_eq_true rfl) rfl rfl rfl rfl (by decide) rfl (fun v1 f1 hp => ?_)
        obtain ⟨rfl, rfl⟩ := hp
        show G g E _ _ _ [(wShelf g a L ln tp rd cnt era nws), (wMain g x tpa (a 0) (r 0) (p 0) qa (ru 0) (w 0) sa bka taped told), (wRow g r m RL rlen), (wRules g ru kd fi se sg le de nx he ro rc re rr), (wWalk g w (ru 0) sp nb mt pl op no od stm wc), (wPileH g p n sh old cn), (wPool g ad ss n)] 54 [(0, .ref x), (1, .int (iI t)), (2, .int (iI u))] [.int (iI (ln t))]
        refine r_aload_n 55 hE 0 dX8_join_54 rfl rfl rfl ?_
        refine r_get 58 hE 1 0 ok8 4 dX8_join_55 rfl wd_301 rfl rfl (by decide) rfl ?_
        refine r_iload_n 59 hE 2 dX8_join_58 rfl rfl rfl ?_
        refine r_callV 62 hE [0] [1, 2, 3, 4, 5, 6] [(wShelf g a L ln tp rd cnt era nws)] [(wMain g x tpa (a 0) (r 0) (p 0) qa (ru 0) (w 0) sa bka taped told), (wRow g r m RL rlen), (wRules g ru kd fi se sg le de nx he ro rc re rr), (wWalk g w (ru 0) sp nb mt pl op no od stm wc), (wPileH g p n sh old cn), (wPool g ad ss n)] 0 5 ok5 [.int (iI (ln t))] (c_X5_lengthOf (by omega) (by omega)) dX8_join_59 rfl rfl wd_630 wd_631 wd_632 wd_4 wd_633 ne_X5 np_X5_lengthOf (Nat.le_of_ble_eq_true rfl)  (by decide) (by decide) rfl (Nat.le_of_ble_eq_true rfl) rfl rfl rfl rfl (by decide) rfl (fun v1 f1 hp => ?_)
        obtain ⟨rfl, rfl⟩ := hp
        show G g E _ _ _ [(wShelf g a L ln tp rd cnt era nws), (wMain g x tpa (a 0) (r 0) (p 0) qa (ru 0) (w 0) sa bka taped told), (wRow g r m RL rlen), (wRules g ru kd fi se sg le de nx he ro rc re rr), (wWalk g w (ru 0) sp nb mt pl op no od stm wc), (wPileH g p n sh old cn), (wPool g ad ss n)] 62 [(0, .ref x), (1, .int (iI t)), (2, .int (iI u))] [.int (iI (ln u)), .int (iI (ln t))]
        refine r_iadd 63 hE ((ln t) + (ln u)) dX8_join_62 rfl rfl ?_
        refine r_sipush 66 hE dX8_join_63 rfl (by decide) ?_
        refine r_icmp_le 69 76 hE dX8_join_66 rfl (by decide) (by omega) (fun c66 => ?_) (fun c66 => ?_)
        · skip
          refine r_aload_n 77 hE 0 dX8_join_76 rfl rfl rfl ?_
          refine r_get 80 hE 1 0 ok8 5 dX8_join_77 rfl wd_302 rfl rfl (by decide) rfl ?_
          refine r_callV 83 hE [2] [0, 1, 3, 4, 5, 6] [(wRow g r m RL rlen)] [(wShelf g a L ln tp rd cnt era nws), (wMain g x tpa (a 0) (r 0) (p 0) qa (ru 0) (w 0) sa bka taped told), (wRules g ru kd fi se sg le de nx he ro rc re rr), (wWalk g w (ru 0) sp nb mt pl op no od stm wc), (wPileH g p n sh old cn), (wPool g ad ss n)] 0 2 ok2 [] (c_X2_clear) dX8_join_80 rfl rfl wd_877 wd_549 wd_550 wd_5 wd_551 ne_X2 np_X2_clear (Nat.le_of_ble_eq_true rfl)  (by decide) (by decide) rfl (Nat.le_of_ble_eq_true rfl) rfl rfl rfl rfl (by decide) rfl (fun v1 f1 hp => ?_)
          obtain ⟨rfl, rfl⟩ := hp
          show G g E _ _ _ [(wRow g r m RL 0), (wShelf g a L ln tp rd cnt era nws), (wMain g x tpa (a 0) (r 0) (p 0) qa (ru 0) (w 0) sa bka taped told), (wRules g ru kd fi se sg le de nx he ro rc re rr), (wWalk g w (ru 0) sp nb mt pl op no od stm wc), (wPileH g p n sh old cn), (wPool g ad ss n)] 83 [(0, .ref x), (1, .int (iI t)), (2, .int (iI u))] []
          refine r_aload_n 84 hE 0 dX8_join_83 rfl rfl rfl ?_
          refine r_get 87 hE 2 0 ok8 5 dX8_join_84 rfl wd_302 rfl rfl (by decide) rfl ?_
          refine r_aload_n 88 hE 0 dX8_join_87 rfl rfl rfl ?_
          refine r_get 91 hE 2 0 ok8 4 dX8_join_88 rfl wd_301 rfl rfl (by decide) rfl ?_
          refine r_iload_n 92 hE 1 dX8_join_91 rfl rfl rfl ?_
          refine r_callV 95 hE [0, 1] [2, 3, 4, 5, 6] [(wRow g r m RL 0), (wShelf g a L ln tp rd cnt era nws)] [(wMain g x tpa (a 0) (r 0) (p 0) qa (ru 0) (w 0) sa bka taped told), (wRules g ru kd fi se sg le de nx he ro rc re rr), (wWalk g w (ru 0) sp nb mt pl op no od stm wc), (wPileH g p n sh old cn), (wPool g ad ss n)] 0 2 ok2 [] (c_X2_addWhole (by omega) (by omega) (hln) (hB) (by omega) (by omega)) dX8_join_92 rfl rfl wd_900 wd_574 wd_575 wd_5 wd_576 ne_X2 np_X2_addWhole (Nat.le_of_ble_eq_true rfl)  (by decide) (by decide) rfl (Nat.le_of_ble_eq_true rfl) rfl rfl rfl rfl (by decide) rfl (fun v1 f1 hp => ?_)
          obtain ⟨rfl, rfl⟩ := hp
          show G g E _ _ _ [(wRow g r m (cpy L RL (t * 600) 0 (ln t)) (0 + ln t)), (wShelf g a L ln tp rd cnt era nws), (wMain g x tpa (a 0) (r 0) (p 0) qa (ru 0) (w 0) sa bka taped told), (wRules g ru kd fi se sg le de nx he ro rc re rr), (wWalk g w (ru 0) sp nb mt pl op no od stm wc), (wPileH g p n sh old cn), (wPool g ad ss n)] 95 [(0, .ref x), (1, .int (iI t)), (2, .int (iI u))] []
          refine r_aload_n 96 hE 0 dX8_join_95 rfl rfl rfl ?_
          refine r_get 99 hE 2 0 ok8 5 dX8_join_96 rfl wd_302 rfl rfl (by decide) rfl ?_
          refine r_aload_n 100 hE 0 dX8_join_99 rfl rfl rfl ?_
          refine r_get 103 hE 2 0 ok8 4 dX8_join_100 rfl wd_301 rfl rfl (by decide) rfl ?_
          refine r_iload_n 104 hE 2 dX8_join_103 rfl rfl rfl ?_
          refine r_callV 107 hE [0, 1] [2, 3, 4, 5, 6] [(wRow g r m (cpy L RL (t * 600) 0 (ln t)) (0 + ln t)), (wShelf g a L ln tp rd cnt era nws)] [(wMain g x tpa (a 0) (r 0) (p 0) qa (ru 0) (w 0) sa bka taped told), (wRules g ru kd fi se sg le de nx he ro rc re rr), (wWalk g w (ru 0) sp nb mt pl op no od stm wc), (wPileH g p n sh old cn), (wPool g ad ss n)] 0 2 ok2 [] (c_X2_addWhole (by omega) (by omega) (hln) (hB) (by omega) (by omega)) dX8_join_104 rfl rfl wd_900 wd_574 wd_575 wd_5 wd_576 ne_X2 np_X2_addWhole (Nat.le_of_ble_eq_true rfl)  (by decide) (by decide) rfl (Nat.le_of_ble_eq_true rfl) rfl rfl rfl rfl (by decide) rfl (fun v1 f1 hp => ?_)
          obtain ⟨rfl, rfl⟩ := hp
          show G g E _ _ _ [(wRow g r m (cpy L (cpy L RL (t * 600) 0 (ln t)) (u * 600) (0 + ln t) (ln u)) ((0 + ln t) + ln u)), (wShelf g a L ln tp rd cnt era nws), (wMain g x tpa (a 0) (r 0) (p 0) qa (ru 0) (w 0) sa bka taped told), (wRules g ru kd fi se sg le de nx he ro rc re rr), (wWalk g w (ru 0) sp nb mt pl op no od stm wc), (wPileH g p n sh old cn), (wPool g ad ss n)] 107 [(0, .ref x), (1, .int (iI t)), (2, .int (iI u))] []
          refine r_aload_n 108 hE 0 dX8_join_107 rfl rfl rfl ?_
          refine r_get 111 hE 2 0 ok8 4 dX8_join_108 rfl wd_301 rfl rfl (by decide) rfl ?_
          refine r_get 114 hE 1 0 ok5 4 dX8_join_111 rfl wd_84 rfl rfl (by decide) rfl ?_
          refine r_istore_n 115 hE [(3, .int (iI cnt)), (0, .ref x), (1, .int (iI t)), (2, .int (iI u))] dX8_join_114 rfl rfl (by decide) rfl ?_
          refine r_aload_n 116 hE 1 dX8_join_115 rfl rfl rfl ?_
          refine r_iload_n 117 hE 0 dX8_join_116 rfl rfl rfl ?_
          refine r_callV 120 hE [2, 1, 0, 3, 4, 5, 6] [] [(wMain g x tpa (a 0) (r 0) (p 0) qa (ru 0) (w 0) sa bka taped told), (wShelf g a L ln tp rd cnt era nws), (wRow g r m (cpy L (cpy L RL (t * 600) 0 (ln t)) (u * 600) (0 + ln t) (ln u)) ((0 + ln t) + ln u)), (wRules g ru kd fi se sg le de nx he ro rc re rr), (wWalk g w (ru 0) sp nb mt pl op no od stm wc), (wPileH g p n sh old cn), (wPool g ad ss n)] [] 0 8 ok8 [] (c_X8_actOn (hT) (hsh) (by omega) (hto) (hce) (hWI) (by omega) (by omega) (by omega) (hsa) (hBs) (by omega) (by omega) (BR_cpy hB (BR_cpy hB hBR _ _ _) _ _ _) (fun k a b => by rw [join_at (by omega) (by omega)]; unfold joinF; split; exact hl1.2 _ (by omega) (by omega); exact hl2.2 _ (by omega) (by omega))) dX8_join_117 rfl rfl wd_883 wd_885 ws_41 wd_1 wd_886 ne_X8 np_X8_actOn (Nat.le_of_ble_eq_true rfl)  (by decide) (by decide) rfl (Nat.le_of_ble_eq_true rfl) rfl rfl rfl rfl (by decide) rfl (fun v1 f1 hp => ?_)
          obtain ⟨kd9_117, fi9_117, se9_117, sg9_117, le9_117, de9_117, nx9_117, he9_117, rc9_117, R9_117, ro9_117, re9_117, rr9_117, tp9_117, rd9_117, sp9_117, nb9_117, mt9_117, pl9_117, op9_117, no9_117, od9_117, wc9_117, old9_117, cn9_117, i9_117, Lp_117, lnp_117, tpp_117, rdp_117, news9_117, rfl, rfl, h117_0, h117_1, h117_2, h117_3, h117_4, h117_5, h117_6, h117_7, h117_8⟩ := hp
          show G g E _ _ _ [(wMain g x tpa (a 0) (r 0) (p 0) qa (ru 0) (w 0) sa bka taped told), (wShelf g a (cpy (cpy L (cpy L RL (t * 600) 0 (ln t)) (u * 600) (0 + ln t) (ln u)) L 0 (cnt * 600) ((0 + ln t) + ln u)) (up ln cnt ((0 + ln t) + ln u)) tp9_117 rd9_117 (max cnt (cnt + 1)) re9_117 nws), (wRow g r m (cpy L (cpy L RL (t * 600) 0 (ln t)) (u * 600) (0 + ln t) (ln u)) ((0 + ln t) + ln u)), (wRules g ru kd9_117 fi9_117 se9_117 sg9_117 le9_117 de9_117 nx9_117 he9_117 ro9_117 rc9_117 re9_117 rr9_117), (wWalk g w (ru 0) sp9_117 nb9_117 mt9_117 pl9_117 op9_117 no9_117 od9_117 (stm + 1) wc9_117), (wPileH g p n sh old9_117 cn9_117), (wPool g ad (upS ss i9_117 (shs Lp_117 lnp_117 tpp_117 rdp_117 cnt re9_117 news9_117)) n)] 120 [(3, .int (iI cnt)), (0, .ref x), (1, .int (iI t)), (2, .int (iI u))] []
          refine r_aload_n 121 hE 1 dX8_join_120 rfl rfl rfl ?_
          refine r_iload_n 122 hE 0 dX8_join_121 rfl rfl rfl ?_
          refine r_callV 125 hE [0] [1, 2, 3, 4, 5, 6] [(wMain g x tpa (a 0) (r 0) (p 0) qa (ru 0) (w 0) sa bka taped told)] [(wShelf g a (cpy (cpy L (cpy L RL (t * 600) 0 (ln t)) (u * 600) (0 + ln t) (ln u)) L 0 (cnt * 600) ((0 + ln t) + ln u)) (up ln cnt ((0 + ln t) + ln u)) tp9_117 rd9_117 (max cnt (cnt + 1)) re9_117 nws), (wRow g r m (cpy L (cpy L RL (t * 600) 0 (ln t)) (u * 600) (0 + ln t) (ln u)) ((0 + ln t) + ln u)), (wRules g ru kd9_117 fi9_117 se9_117 sg9_117 le9_117 de9_117 nx9_117 he9_117 ro9_117 rc9_117 re9_117 rr9_117), (wWalk g w (ru 0) sp9_117 nb9_117 mt9_117 pl9_117 op9_117 no9_117 od9_117 (stm + 1) wc9_117), (wPileH g p n sh old9_117 cn9_117), (wPool g ad (upS ss i9_117 (shs Lp_117 lnp_117 tpp_117 rdp_117 cnt re9_117 news9_117)) n)] 0 8 ok8 [] (c_X8_answer) dX8_join_122 rfl rfl wd_739 wd_741 ws_33 wd_1 wd_742 ne_X8 np_X8_answer (Nat.le_of_ble_eq_true rfl)  (by decide) (by decide) rfl (Nat.le_of_ble_eq_true rfl) rfl rfl rfl rfl (by decide) rfl (fun v1 f1 hp => ?_)
          obtain ⟨rfl, rfl⟩ := hp
          show G g E _ _ _ [(wMain g x tpa (a 0) (r 0) (p 0) qa (ru 0) (w 0) sa bka taped 0), (wShelf g a (cpy (cpy L (cpy L RL (t * 600) 0 (ln t)) (u * 600) (0 + ln t) (ln u)) L 0 (cnt * 600) ((0 + ln t) + ln u)) (up ln cnt ((0 + ln t) + ln u)) tp9_117 rd9_117 (max cnt (cnt + 1)) re9_117 nws), (wRow g r m (cpy L (cpy L RL (t * 600) 0 (ln t)) (u * 600) (0 + ln t) (ln u)) ((0 + ln t) + ln u)), (wRules g ru kd9_117 fi9_117 se9_117 sg9_117 le9_117 de9_117 nx9_117 he9_117 ro9_117 rc9_117 re9_117 rr9_117), (wWalk g w (ru 0) sp9_117 nb9_117 mt9_117 pl9_117 op9_117 no9_117 od9_117 (stm + 1) wc9_117), (wPileH g p n sh old9_117 cn9_117), (wPool g ad (upS ss i9_117 (shs Lp_117 lnp_117 tpp_117 rdp_117 cnt re9_117 news9_117)) n)] 125 [(3, .int (iI cnt)), (0, .ref x), (1, .int (iI t)), (2, .int (iI u))] [.int (iI cnt)]
          refine r_ireturn hE hR [(wMain g x tpa (a 0) (r 0) (p 0) qa (ru 0) (w 0) sa bka taped 0), (wShelf g a (cpy (cpy L (cpy L RL (t * 600) 0 (ln t)) (u * 600) (0 + ln t) (ln u)) L 0 (cnt * 600) ((0 + ln t) + ln u)) (up ln cnt ((0 + ln t) + ln u)) tp9_117 rd9_117 (max cnt (cnt + 1)) re9_117 nws), (wRow g r m (cpy L (cpy L RL (t * 600) 0 (ln t)) (u * 600) (0 + ln t) (ln u)) ((0 + ln t) + ln u)), (wRules g ru kd9_117 fi9_117 se9_117 sg9_117 le9_117 de9_117 nx9_117 he9_117 ro9_117 rc9_117 re9_117 rr9_117), (wWalk g w (ru 0) sp9_117 nb9_117 mt9_117 pl9_117 op9_117 no9_117 od9_117 (stm + 1) wc9_117), (wPileH g p n sh old9_117 cn9_117), (wPool g ad (upS ss i9_117 (shs Lp_117 lnp_117 tpp_117 rdp_117 cnt re9_117 news9_117)) n)] dX8_join_125 (Nat.le_of_ble_eq_true rfl) (Nat.le_of_ble_eq_true rfl) rfl ?_
          have e0 : 0 + ln t + ln u = ln t + ln u := by omega
          rw [e0] at h117_6 h117_7 h117_8
          exact ⟨kd9_117, fi9_117, se9_117, sg9_117, le9_117, de9_117, nx9_117, he9_117, rc9_117, R9_117, ro9_117, re9_117, rr9_117, tp9_117, rd9_117, sp9_117, nb9_117, mt9_117, pl9_117, op9_117, no9_117, od9_117, wc9_117, old9_117, cn9_117, i9_117, Lp_117, lnp_117, tpp_117, rdp_117, news9_117, _, _, _, _, _, rfl, by rw [e0], h117_0, h117_1, h117_2, h117_3, h117_4, h117_5, h117_6, h117_7, h117_8.F, BR_cpy hB (BR_cpy hB hBR _ _ _) _ _ _, TextSet.of hln (by omega) (by omega) (fun k a b => join_at (by omega) (by omega))⟩
        · skip
          omega
      · skip
        omega
    · skip
      have c19 := bI0 c19
      omega
set_option maxHeartbeats 4000000 in
set_option maxRecDepth 100000 in
theorem c_X8_join_no {g : Gm} {a : Nat → Nat} {L ln tp rd : Int → Int} {cnt era nws : Int} {x tpa da pa qa rua wa sa bka : Nat} {taped told : Int} {t u : Int} (hsh : ShOk L ln cnt) (ht : -2147483648 ≤ t ∧ t ≤ 2147483647) (hu : -2147483648 ≤ u ∧ u ≤ 2147483647) (hno : jnF ln cnt t u ≠ 0) : Ct g 6 0 0 yX8_join cX8_join 4 (some .int) [.ref x, .int (iI t), .int (iI u)] [(wMain g x tpa (a 0) da pa qa rua wa sa bka taped told), (wShelf g a L ln tp rd cnt era nws)] (fun v_ w_ => v_ = some (.int (iI (-1))) ∧ w_ = [(wMain g x tpa (a 0) da pa qa rua wa sa bka taped (jnF ln cnt t u)), (wShelf g a L ln tp rd cnt era nws)]) := by
  refine Ct.of (by decide) (Nat.le_of_ble_eq_true rfl) (lv := [(0, .ref x), (1, .int (iI t)), (2, .int (iI u))]) rfl ?_
  intro E hE hR hnm
  have hc := hsh.1
  have hln := hsh.ln
  have hB := hsh.2.1
  refine r_aload_n 1 hE 0 dX8_join_0 rfl rfl rfl ?_
  refine r_get 4 hE 0 0 ok8 4 dX8_join_1 rfl wd_301 rfl rfl (by decide) rfl ?_
  refine r_iload_n 5 hE 1 dX8_join_4 rfl rfl rfl ?_
  refine r_callV 8 hE [1] [0] [(wShelf g a L ln tp rd cnt era nws)] [(wMain g x tpa (a 0) da pa qa rua wa sa bka taped told)] 0 5 ok5 [] (c_X5_has (by omega) (by omega)) dX8_join_5 rfl rfl wd_764 wd_578 wd_579 wd_4 wd_580 ne_X5 np_X5_has (Nat.le_of_ble_eq_true rfl)  (by decide) (by decide) rfl (Nat.le_of_ble_eq_true rfl) rfl rfl rfl rfl (by decide) rfl (fun v1 f1 hp => ?_)
  obtain ⟨rfl, rfl⟩ := hp
  show G g E _ _ _ [(wShelf g a L ln tp rd cnt era nws), (wMain g x tpa (a 0) da pa qa rua wa sa bka taped told)] 8 [(0, .ref x), (1, .int (iI t)), (2, .int (iI u))] [.int (iI (bI (0 ≤ t ∧ t < cnt)))]
  refine r_if_eq 11 22 hE dX8_join_8 rfl (by decide) (bI_rg _) (fun c8 => ?_) (fun c8 => ?_)
  · skip
    have c8 := bI0 c8
    refine r_aload_n 23 hE 0 dX8_join_22 rfl rfl rfl ?_
    refine r_iconst 24 hE dX8_join_23 rfl ?_
    refine r_callV 27 hE [1] [0] [(wMain g x tpa (a 0) da pa qa rua wa sa bka taped told)] [(wShelf g a L ln tp rd cnt era nws)] 0 8 ok8 [] (c_X8_refuse) dX8_join_24 rfl rfl wd_347 wd_349 ws_1 wd_1 wd_350 ne_X8 np_X8_refuse (Nat.le_of_ble_eq_true rfl)  (by decide) (by decide) rfl (Nat.le_of_ble_eq_true rfl) rfl rfl rfl rfl (by decide) rfl (fun v1 f1 hp => ?_)
    obtain ⟨rfl, rfl⟩ := hp
    show G g E _ _ _ [(wMain g x tpa (a 0) da pa qa rua wa sa bka taped 2), (wShelf g a L ln tp rd cnt era nws)] 27 [(0, .ref x), (1, .int (iI t)), (2, .int (iI u))] [.int (iI (-1))]
    refine r_ireturn hE hR [(wMain g x tpa (a 0) da pa qa rua wa sa bka taped 2), (wShelf g a L ln tp rd cnt era nws)] dX8_join_27 (Nat.le_of_ble_eq_true rfl) (Nat.le_of_ble_eq_true rfl) rfl ?_
    exact ⟨rfl, by unfold jnF; (repeat (first | rw [if_pos (by omega)] | rw [if_neg (by omega)]))⟩
  · skip
    have c8 := bI1 c8
    have hl1 := hln t c8.1 c8.2
    refine r_aload_n 12 hE 0 dX8_join_11 rfl rfl rfl ?_
    refine r_get 15 hE 1 0 ok8 4 dX8_join_12 rfl wd_301 rfl rfl (by decide) rfl ?_
    refine r_iload_n 16 hE 2 dX8_join_15 rfl rfl rfl ?_
    refine r_callV 19 hE [0] [1] [(wShelf g a L ln tp rd cnt era nws)] [(wMain g x tpa (a 0) da pa qa rua wa sa bka taped told)] 0 5 ok5 [] (c_X5_has (by omega) (by omega)) dX8_join_16 rfl rfl wd_764 wd_578 wd_579 wd_4 wd_580 ne_X5 np_X5_has (Nat.le_of_ble_eq_true rfl)  (by decide) (by decide) rfl (Nat.le_of_ble_eq_true rfl) rfl rfl rfl rfl (by decide) rfl (fun v1 f1 hp => ?_)
    obtain ⟨rfl, rfl⟩ := hp
    show G g E _ _ _ [(wShelf g a L ln tp rd cnt era nws), (wMain g x tpa (a 0) da pa qa rua wa sa bka taped told)] 19 [(0, .ref x), (1, .int (iI t)), (2, .int (iI u))] [.int (iI (bI (0 ≤ u ∧ u < cnt)))]
    refine r_if_ne 22 28 hE dX8_join_19 rfl (by decide) (bI_rg _) (fun c19 => ?_) (fun c19 => ?_)
    · skip
      have c19 := bI1 c19
      have hl2 := hln u c19.1 c19.2
      refine r_aload_n 29 hE 0 dX8_join_28 rfl rfl rfl ?_
      refine r_get 32 hE 1 0 ok8 4 dX8_join_29 rfl wd_301 rfl rfl (by decide) rfl ?_
      refine r_get 35 hE 0 0 ok5 4 dX8_join_32 rfl wd_84 rfl rfl (by decide) rfl ?_
      refine r_bipush 37 hE dX8_join_35 rfl (by decide) ?_
      refine r_icmp_lt 40 46 hE dX8_join_37 rfl (by decide) (by omega) (fun c37 => ?_) (fun c37 => ?_)
      · skip
        refine r_aload_n 47 hE 0 dX8_join_46 rfl rfl rfl ?_
        refine r_get 50 hE 1 0 ok8 4 dX8_join_47 rfl wd_301 rfl rfl (by decide) rfl ?_
        refine r_iload_n 51 hE 1 dX8_join_50 rfl rfl rfl ?_
        refine r_callV 54 hE [0] [1] [(wShelf g a L ln tp rd cnt era nws)] [(wMain g x tpa (a 0) da pa qa rua wa sa bka taped told)] 0 5 ok5 [] (c_X5_lengthOf (by omega) (by omega)) dX8_join_51 rfl rfl wd_630 wd_631 wd_632 wd_4 wd_633 ne_X5 np_X5_lengthOf (Nat.le_of_ble_eq_true rfl)  (by decide) (by decide) rfl (Nat.le_of_ble_eq_true rfl) rfl rfl rfl rfl (by decide) rfl (fun v1 f1 hp => ?_)
        obtain ⟨rfl, rfl⟩ := hp
        show G g E _ _ _ [(wShelf g a L ln tp rd cnt era nws), (wMain g x tpa (a 0) da pa qa rua wa sa bka taped told)] 54 [(0, .ref x), (1, .int (iI t)), (2, .int (iI u))] [.int (iI (ln t))]
        refine r_aload_n 55 hE 0 dX8_join_54 rfl rfl rfl ?_
        refine r_get 58 hE 1 0 ok8 4 dX8_join_55 rfl wd_301 rfl rfl (by decide) rfl ?_
        refine r_iload_n 59 hE 2 dX8_join_58 rfl rfl rfl ?_
        refine r_callV 62 hE [0] [1] [(wShelf g a L ln tp rd cnt era nws)] [(wMain g x tpa (a 0) da pa qa rua wa sa bka taped told)] 0 5 ok5 [.int (iI (ln t))] (c_X5_lengthOf (by omega) (by omega)) dX8_join_59 rfl rfl wd_630 wd_631 wd_632 wd_4 wd_633 ne_X5 np_X5_lengthOf (Nat.le_of_ble_eq_true rfl)  (by decide) (by decide) rfl (Nat.le_of_ble_eq_true rfl) rfl rfl rfl rfl (by decide) rfl (fun v1 f1 hp => ?_)
        obtain ⟨rfl, rfl⟩ := hp
        show G g E _ _ _ [(wShelf g a L ln tp rd cnt era nws), (wMain g x tpa (a 0) da pa qa rua wa sa bka taped told)] 62 [(0, .ref x), (1, .int (iI t)), (2, .int (iI u))] [.int (iI (ln u)), .int (iI (ln t))]
        refine r_iadd 63 hE ((ln t) + (ln u)) dX8_join_62 rfl rfl ?_
        refine r_sipush 66 hE dX8_join_63 rfl (by decide) ?_
        refine r_icmp_le 69 76 hE dX8_join_66 rfl (by decide) (by omega) (fun c66 => ?_) (fun c66 => ?_)
        · skip
          exact absurd (by unfold jnF; (repeat (first | rw [if_pos (by omega)] | rw [if_neg (by omega)]))) hno
        · skip
          refine r_aload_n 70 hE 0 dX8_join_69 rfl rfl rfl ?_
          refine r_bipush 72 hE dX8_join_70 rfl (by decide) ?_
          refine r_callV 75 hE [1] [0] [(wMain g x tpa (a 0) da pa qa rua wa sa bka taped told)] [(wShelf g a L ln tp rd cnt era nws)] 0 8 ok8 [] (c_X8_refuse) dX8_join_72 rfl rfl wd_347 wd_349 ws_1 wd_1 wd_350 ne_X8 np_X8_refuse (Nat.le_of_ble_eq_true rfl)  (by decide) (by decide) rfl (Nat.le_of_ble_eq_true rfl) rfl rfl rfl rfl (by decide) rfl (fun v1 f1 hp => ?_)
          obtain ⟨rfl, rfl⟩ := hp
          show G g E _ _ _ [(wMain g x tpa (a 0) da pa qa rua wa sa bka taped 6), (wShelf g a L ln tp rd cnt era nws)] 75 [(0, .ref x), (1, .int (iI t)), (2, .int (iI u))] [.int (iI (-1))]
          refine r_ireturn hE hR [(wMain g x tpa (a 0) da pa qa rua wa sa bka taped 6), (wShelf g a L ln tp rd cnt era nws)] dX8_join_75 (Nat.le_of_ble_eq_true rfl) (Nat.le_of_ble_eq_true rfl) rfl ?_
          exact ⟨rfl, by unfold jnF; (repeat (first | rw [if_pos (by omega)] | rw [if_neg (by omega)]))⟩
      · skip
        refine r_aload_n 41 hE 0 dX8_join_40 rfl rfl rfl ?_
        refine r_iconst 42 hE dX8_join_41 rfl ?_
        refine r_callV 45 hE [1] [0] [(wMain g x tpa (a 0) da pa qa rua wa sa bka taped told)] [(wShelf g a L ln tp rd cnt era nws)] 0 8 ok8 [] (c_X8_refuse) dX8_join_42 rfl rfl wd_347 wd_349 ws_1 wd_1 wd_350 ne_X8 np_X8_refuse (Nat.le_of_ble_eq_true rfl)  (by decide) (by decide) rfl (Nat.le_of_ble_eq_true rfl) rfl rfl rfl rfl (by decide) rfl (fun v1 f1 hp => ?_)
        obtain ⟨rfl, rfl⟩ := hp
        show G g E _ _ _ [(wMain g x tpa (a 0) da pa qa rua wa sa bka taped 3), (wShelf g a L ln tp rd cnt era nws)] 45 [(0, .ref x), (1, .int (iI t)), (2, .int (iI u))] [.int (iI (-1))]
        refine r_ireturn hE hR [(wMain g x tpa (a 0) da pa qa rua wa sa bka taped 3), (wShelf g a L ln tp rd cnt era nws)] dX8_join_45 (Nat.le_of_ble_eq_true rfl) (Nat.le_of_ble_eq_true rfl) rfl ?_
        exact ⟨rfl, by unfold jnF; (repeat (first | rw [if_pos (by omega)] | rw [if_neg (by omega)]))⟩
    · skip
      have c19 := bI0 c19
      refine r_aload_n 23 hE 0 dX8_join_22 rfl rfl rfl ?_
      refine r_iconst 24 hE dX8_join_23 rfl ?_
      refine r_callV 27 hE [1] [0] [(wMain g x tpa (a 0) da pa qa rua wa sa bka taped told)] [(wShelf g a L ln tp rd cnt era nws)] 0 8 ok8 [] (c_X8_refuse) dX8_join_24 rfl rfl wd_347 wd_349 ws_1 wd_1 wd_350 ne_X8 np_X8_refuse (Nat.le_of_ble_eq_true rfl)  (by decide) (by decide) rfl (Nat.le_of_ble_eq_true rfl) rfl rfl rfl rfl (by decide) rfl (fun v1 f1 hp => ?_)
      obtain ⟨rfl, rfl⟩ := hp
      show G g E _ _ _ [(wMain g x tpa (a 0) da pa qa rua wa sa bka taped 2), (wShelf g a L ln tp rd cnt era nws)] 27 [(0, .ref x), (1, .int (iI t)), (2, .int (iI u))] [.int (iI (-1))]
      refine r_ireturn hE hR [(wMain g x tpa (a 0) da pa qa rua wa sa bka taped 2), (wShelf g a L ln tp rd cnt era nws)] dX8_join_27 (Nat.le_of_ble_eq_true rfl) (Nat.le_of_ble_eq_true rfl) rfl ?_
      exact ⟨rfl, by unfold jnF; (repeat (first | rw [if_pos (by omega)] | rw [if_neg (by omega)]))⟩
