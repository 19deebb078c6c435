theorem RT0 {fi se sg le he : Int → Int} (h : ∀ t, 0 ≤ t → t < 26 → fi t = t ∧ se t = -1 ∧ sg t = mixI 7 (t + 1) ∧ le t = 1) (hh : ∀ j, 0 ≤ j → j < ((4096 : Nat) : Int) → he j = -1) : RT (fun _ => 0) fi se sg le (fun _ => 0) (fun _ => 0) he 26 rLet := by
  refine ⟨by omega, fun i a b => ?_, fun i j a _ c _ e => rLet_inj a c e, fun j a b => ⟨Or.inl (hh j a (by omega)), fun i p q _ => by omega⟩, fun j a b => by omega⟩
  obtain ⟨h1, h2, h3, h4⟩ := h i a b
  refine ⟨Or.inl ⟨b, rfl, rfl, h1, h2⟩, ?_, h4, rfl, ?_, ?_⟩
  · rw [h3]
    show _ = mixI 7 (((i.toNat : Nat) : Int) + 1)
    rw [Int.toNat_of_nonneg a]
  · show i.toNat < 26
    omega
  · show (1 : Int) ≤ 600
    omega
theorem lets_up {fi se sg le : Int → Int} {i : Int} (h : ∀ t, 0 ≤ t → t < i → fi t = t ∧ se t = -1 ∧ sg t = mixI 7 (t + 1) ∧ le t = 1) : ∀ t, 0 ≤ t → t < i + 1 → up fi i i t = t ∧ up se i (-1) t = -1 ∧ up sg i (mixI 7 (i + 1)) t = mixI 7 (t + 1) ∧ up le i 1 t = 1 := fun t a b => by
  by_cases z : t = i
  · subst z
    rw [up_same, up_same, up_same, up_same]
    exact ⟨rfl, rfl, rfl, rfl⟩
  · rw [up_ne _ _ z, up_ne _ _ z, up_ne _ _ z, up_ne _ _ z]
    exact h t a (by omega)
set_option maxHeartbeats 4000000 in
set_option maxRecDepth 100000 in
theorem c_X3_init (g : Gm) (x : Nat) : Ct g 5 9 76376 yX3_init cX3_init 2 none [.ref x] [[ob x 3 dv3]] (fun v_ w_ => ∃ (ru : Nat → Nat) (fi se sg le he : Int → Int), ru 0 = x ∧ v_ = none ∧ w_ = [wRules g ru (fun _ => 0) fi se sg le (fun _ => 0) (fun _ => 0) he (fun _ => 0) 26 0 0] ∧ RT (fun _ => 0) fi se sg le (fun _ => 0) (fun _ => 0) he 26 rLet) := by
  refine Ct.of (by decide) (Nat.le_of_ble_eq_true rfl) (lv := [(0, .ref x)]) rfl ?_
  intro E hE hR hnm
  have cut87 : ∀ (N : Nat) (ru : Nat → Nat) (i : Int) (fi : Int → Int) (se : Int → Int) (sg : Int → Int) (le : Int → Int), (ru 0 = x) → (0 ≤ i ∧ i ≤ 26) → (∀ t, 0 ≤ t → t < i → fi t = t ∧ se t = -1 ∧ sg t = mixI 7 (t + 1) ∧ le t = 1) → (26 - i).toNat < N → G g E 2 9 76376 [(wRules g ru (fun _ => 0) fi se sg le (fun _ => 0) (fun _ => 0) (fun _ => 0) (fun _ => 0) 0 0 0)] 87 [(0, .ref (ru 0)), (1, .int (iI i))] [] := by
    intro N
    induction N with
    | zero => intro ru i fi se sg le _ _ _ hN; exact absurd hN (Nat.not_lt_zero _)
    | succ N ih87 =>
      intro ru i fi se sg le hru hi hv hN
      refine r_iload_n 88 hE 1 dX3_init_87 rfl rfl rfl ?_
      refine r_bipush 90 hE dX3_init_88 rfl (by decide) ?_
      refine r_icmp_ge 93 134 hE dX3_init_90 rfl (by decide) (by omega) (fun c90 => ?_) (fun c90 => ?_)
      · skip
        refine r_aload_n 135 hE 0 dX3_init_134 rfl rfl rfl ?_
        refine r_get 138 hE 0 0 ok3 7 dX3_init_135 rfl wd_220 rfl rfl (by decide) rfl ?_
        refine r_iconst 139 hE dX3_init_138 rfl ?_
        refine G.cast (fs' := [(wRulesA g ru (fun _ => 0) fi se sg le (fun _ => 0) (fun _ => 0) 0 0 0), (wInts g (ru 8) 4096 (fun _ => 0)), (wInts g (ru 9) 600 (fun _ => 0))]) (lv' := [(0, .ref (ru 0)), (1, .int (iI i))]) rfl rfl ?_
        refine r_callS 142 hE [1] [0, 2] [(wInts g (ru 8) 4096 (fun _ => 0))] [(wRulesA g ru (fun _ => 0) fi se sg le (fun _ => 0) (fun _ => 0) 0 0 0), (wInts g (ru 9) 600 (fun _ => 0))] [] (c_J7_fill_53178 (by decide)) dX3_init_139 rfl wd_210 wd_211 wd_10 wd_212 ne_J7 np_J7_fill_53178 (Nat.le_of_ble_eq_true rfl)  (by decide) (by decide) rfl (Nat.le_of_ble_eq_true rfl) rfl rfl rfl rfl (by decide) (fun v1 f1 hp => ?_)
        obtain ⟨f9_139, rfl, rfl, h139_0⟩ := hp
        show G g E _ _ _ [(wInts g (ru 8) 4096 f9_139), (wRulesA g ru (fun _ => 0) fi se sg le (fun _ => 0) (fun _ => 0) 0 0 0), (wInts g (ru 9) 600 (fun _ => 0))] 142 [(0, .ref (ru 0)), (1, .int (iI i))] []
        refine G.to (fs' := [(wRulesA g ru (fun _ => 0) fi se sg le (fun _ => 0) (fun _ => 0) 0 0 0), (wInts g (ru 8) 4096 f9_139), (wInts g (ru 9) 600 (fun _ => 0))]) (lv' := [(0, .ref (ru 0)), (1, .int (iI i))]) [1, 0, 2] [0, 1] rfl rfl rfl ?_
        refine G.cast (fs' := [(wRules g ru (fun _ => 0) fi se sg le (fun _ => 0) (fun _ => 0) f9_139 (fun _ => 0) 0 0 0)]) (lv' := [(0, .ref (ru 0)), (1, .int (iI i))]) rfl rfl ?_
        refine r_aload_n 143 hE 0 dX3_init_142 rfl rfl rfl ?_
        refine r_bipush 145 hE dX3_init_143 rfl (by decide) ?_
        refine r_put 148 hE 0 0 ok3 9 (wRules g ru (fun _ => 0) fi se sg le (fun _ => 0) (fun _ => 0) f9_139 (fun _ => 0) 26 0 0) [(wRules g ru (fun _ => 0) fi se sg le (fun _ => 0) (fun _ => 0) f9_139 (fun _ => 0) 26 0 0)] dX3_init_145 rfl wd_222 rfl rfl (by decide) rfl rfl rfl (Nat.le_of_ble_eq_true rfl) rfl rfl ?_
        refine r_return hE hR [(wRules g ru (fun _ => 0) fi se sg le (fun _ => 0) (fun _ => 0) f9_139 (fun _ => 0) 26 0 0)] dX3_init_148 (Nat.le_of_ble_eq_true rfl) (Nat.le_of_ble_eq_true rfl) rfl ?_
        exact ⟨ru, fi, se, sg, le, f9_139, hru, rfl, rfl, RT0 (fun t a b => hv t a (by omega)) h139_0⟩
      · skip
        refine r_aload_n 94 hE 0 dX3_init_93 rfl rfl rfl ?_
        refine r_get 97 hE 0 0 ok3 1 dX3_init_94 rfl wd_214 rfl rfl (by decide) rfl ?_
        refine r_iload_n 98 hE 1 dX3_init_97 rfl rfl rfl ?_
        refine r_iload_n 99 hE 1 dX3_init_98 rfl rfl rfl ?_
        refine r_iast 100 hE 0 2 (wRules g ru (fun _ => 0) (up fi i i) se sg le (fun _ => 0) (fun _ => 0) (fun _ => 0) (fun _ => 0) 0 0 0) [(wRules g ru (fun _ => 0) (up fi i i) se sg le (fun _ => 0) (fun _ => 0) (fun _ => 0) (fun _ => 0) 0 0 0)] dX3_init_99 rfl rfl rfl (by omega) rfl rfl ?_
        refine r_aload_n 101 hE 0 dX3_init_100 rfl rfl rfl ?_
        refine r_get 104 hE 0 0 ok3 2 dX3_init_101 rfl wd_215 rfl rfl (by decide) rfl ?_
        refine r_iload_n 105 hE 1 dX3_init_104 rfl rfl rfl ?_
        refine r_iconst 106 hE dX3_init_105 rfl ?_
        refine r_iast 107 hE 0 3 (wRules g ru (fun _ => 0) (up fi i i) (up se i (-1)) sg le (fun _ => 0) (fun _ => 0) (fun _ => 0) (fun _ => 0) 0 0 0) [(wRules g ru (fun _ => 0) (up fi i i) (up se i (-1)) sg le (fun _ => 0) (fun _ => 0) (fun _ => 0) (fun _ => 0) 0 0 0)] dX3_init_106 rfl rfl rfl (by omega) rfl rfl ?_
        refine r_aload_n 108 hE 0 dX3_init_107 rfl rfl rfl ?_
        refine r_get 111 hE 0 0 ok3 3 dX3_init_108 rfl wd_216 rfl rfl (by decide) rfl ?_
        refine r_iload_n 112 hE 1 dX3_init_111 rfl rfl rfl ?_
        refine r_bipush 114 hE dX3_init_112 rfl (by decide) ?_
        refine r_iload_n 115 hE 1 dX3_init_114 rfl rfl rfl ?_
        refine r_iconst 116 hE dX3_init_115 rfl ?_
        refine r_iadd 117 hE (i + 1) dX3_init_116 rfl rfl ?_
        refine r_callS 120 hE [] [0] [] [(wRules g ru (fun _ => 0) (up fi i i) (up se i (-1)) sg le (fun _ => 0) (fun _ => 0) (fun _ => 0) (fun _ => 0) 0 0 0)] [.int (iI i), .ref (ru 4)] (c_X3_mix) dX3_init_117 rfl wd_206 wd_207 wd_9 wd_208 ne_X3 np_X3_mix (Nat.le_of_ble_eq_true rfl)  (by decide) (by decide) rfl (Nat.le_of_ble_eq_true rfl) rfl rfl rfl rfl (by decide) (fun v1 f1 hp => ?_)
        obtain ⟨rfl, rfl⟩ := hp
        show G g E _ _ _ [(wRules g ru (fun _ => 0) (up fi i i) (up se i (-1)) sg le (fun _ => 0) (fun _ => 0) (fun _ => 0) (fun _ => 0) 0 0 0)] 120 [(0, .ref (ru 0)), (1, .int (iI i))] [.int (iI (mixI 7 (i + 1))), .int (iI i), .ref (ru 4)]
        refine r_iast 121 hE 0 4 (wRules g ru (fun _ => 0) (up fi i i) (up se i (-1)) (up sg i (mixI 7 (i + 1))) le (fun _ => 0) (fun _ => 0) (fun _ => 0) (fun _ => 0) 0 0 0) [(wRules g ru (fun _ => 0) (up fi i i) (up se i (-1)) (up sg i (mixI 7 (i + 1))) le (fun _ => 0) (fun _ => 0) (fun _ => 0) (fun _ => 0) 0 0 0)] dX3_init_120 rfl rfl rfl (by omega) rfl rfl ?_
        refine r_aload_n 122 hE 0 dX3_init_121 rfl rfl rfl ?_
        refine r_get 125 hE 0 0 ok3 4 dX3_init_122 rfl wd_217 rfl rfl (by decide) rfl ?_
        refine r_iload_n 126 hE 1 dX3_init_125 rfl rfl rfl ?_
        refine r_iconst 127 hE dX3_init_126 rfl ?_
        refine r_iast 128 hE 0 5 (wRules g ru (fun _ => 0) (up fi i i) (up se i (-1)) (up sg i (mixI 7 (i + 1))) (up le i 1) (fun _ => 0) (fun _ => 0) (fun _ => 0) (fun _ => 0) 0 0 0) [(wRules g ru (fun _ => 0) (up fi i i) (up se i (-1)) (up sg i (mixI 7 (i + 1))) (up le i 1) (fun _ => 0) (fun _ => 0) (fun _ => 0) (fun _ => 0) 0 0 0)] dX3_init_127 rfl rfl rfl (by omega) rfl rfl ?_
        refine r_iinc 131 hE 1 (i + 1) [(1, .int (iI (i + 1))), (0, .ref (ru 0))] dX3_init_128 rfl rfl rfl (by decide) rfl ?_
        refine r_goto 87 hE dX3_init_131 (by decide) ?_
        refine G.to (fs' := [(wRules g ru (fun _ => 0) (up fi i i) (up se i (-1)) (up sg i (mixI 7 (i + 1))) (up le i 1) (fun _ => 0) (fun _ => 0) (fun _ => 0) (fun _ => 0) 0 0 0)]) (lv' := [(0, .ref (ru 0)), (1, .int (iI (i + 1)))]) [0] [1, 0] rfl rfl rfl ?_
        exact ih87 ru (i + 1) (up fi i i) (up se i (-1)) (up sg i (mixI 7 (i + 1))) (up le i 1) (hru) (by omega) (lets_up hv) (by omega)
  show G g E _ _ _ [[ob x 3 [.null, .null, .null, .null, .null, .null, .null, .null, .null, .int (iI 0), .int (iI 0), .int (iI 0)]]] 0 [(0, .ref x)] []
  refine r_aload_n 1 hE 0 dX3_init_0 rfl rfl rfl ?_
  refine r_objInit 4 hE dX3_init_1 rfl wd_205 wd_26 wd_27 (Nat.le_of_ble_eq_true rfl) (Nat.le_of_ble_eq_true rfl) ?_
  refine r_aload_n 5 hE 0 dX3_init_4 rfl rfl rfl ?_
  refine r_sipush 8 hE dX3_init_5 rfl (by decide) ?_
  refine r_newb 10 10240 hE ⟨rfl, by decide⟩ dX3_init_8 rfl (by decide) (fun a8_5 => ?_)
  show G g E _ _ _ [[ob x 3 [.null, .null, .null, .null, .null, .null, .null, .null, .null, .int (iI 0), .int (iI 0), .int (iI 0)]], [ba g a8_5 10240 (fun _ => 0)]] 10 [(0, .ref x)] [.ref a8_5, .ref x]
  refine r_putF 13 hE hnm 0 0 ok3 0 [ob x 3 [.ref a8_5, .null, .null, .null, .null, .null, .null, .null, .null, .int (iI 0), .int (iI 0), .int (iI 0)]] [[ob x 3 [.ref a8_5, .null, .null, .null, .null, .null, .null, .null, .null, .int (iI 0), .int (iI 0), .int (iI 0)]], [ba g a8_5 10240 (fun _ => 0)]] dX3_init_10 rfl wd_213 rfl rfl (by decide) rfl rfl rfl rfl (Nat.le_of_ble_eq_true rfl) rfl rfl ?_
  refine r_aload_n 14 hE 0 dX3_init_13 rfl rfl rfl ?_
  refine r_sipush 17 hE dX3_init_14 rfl (by decide) ?_
  refine r_newi 19 10240 hE ⟨rfl, by decide⟩ dX3_init_17 rfl (by decide) (fun a17_9 => ?_)
  show G g E _ _ _ [[ob x 3 [.ref a8_5, .null, .null, .null, .null, .null, .null, .null, .null, .int (iI 0), .int (iI 0), .int (iI 0)]], [ba g a8_5 10240 (fun _ => 0)], [ia g a17_9 10240 (fun _ => 0)]] 19 [(0, .ref x)] [.ref a17_9, .ref x]
  refine r_putF 22 hE hnm 0 0 ok3 1 [ob x 3 [.ref a8_5, .ref a17_9, .null, .null, .null, .null, .null, .null, .null, .int (iI 0), .int (iI 0), .int (iI 0)]] [[ob x 3 [.ref a8_5, .ref a17_9, .null, .null, .null, .null, .null, .null, .null, .int (iI 0), .int (iI 0), .int (iI 0)]], [ba g a8_5 10240 (fun _ => 0)], [ia g a17_9 10240 (fun _ => 0)]] dX3_init_19 rfl wd_214 rfl rfl (by decide) rfl rfl rfl rfl (Nat.le_of_ble_eq_true rfl) rfl rfl ?_
  refine r_aload_n 23 hE 0 dX3_init_22 rfl rfl rfl ?_
  refine r_sipush 26 hE dX3_init_23 rfl (by decide) ?_
  refine r_newi 28 10240 hE ⟨rfl, by decide⟩ dX3_init_26 rfl (by decide) (fun a26_13 => ?_)
  show G g E _ _ _ [[ob x 3 [.ref a8_5, .ref a17_9, .null, .null, .null, .null, .null, .null, .null, .int (iI 0), .int (iI 0), .int (iI 0)]], [ba g a8_5 10240 (fun _ => 0)], [ia g a17_9 10240 (fun _ => 0)], [ia g a26_13 10240 (fun _ => 0)]] 28 [(0, .ref x)] [.ref a26_13, .ref x]
  refine r_putF 31 hE hnm 0 0 ok3 2 [ob x 3 [.ref a8_5, .ref a17_9, .ref a26_13, .null, .null, .null, .null, .null, .null, .int (iI 0), .int (iI 0), .int (iI 0)]] [[ob x 3 [.ref a8_5, .ref a17_9, .ref a26_13, .null, .null, .null, .null, .null, .null, .int (iI 0), .int (iI 0), .int (iI 0)]], [ba g a8_5 10240 (fun _ => 0)], [ia g a17_9 10240 (fun _ => 0)], [ia g a26_13 10240 (fun _ => 0)]] dX3_init_28 rfl wd_215 rfl rfl (by decide) rfl rfl rfl rfl (Nat.le_of_ble_eq_true rfl) rfl rfl ?_
  refine r_aload_n 32 hE 0 dX3_init_31 rfl rfl rfl ?_
  refine r_sipush 35 hE dX3_init_32 rfl (by decide) ?_
  refine r_newi 37 10240 hE ⟨rfl, by decide⟩ dX3_init_35 rfl (by decide) (fun a35_17 => ?_)
  show G g E _ _ _ [[ob x 3 [.ref a8_5, .ref a17_9, .ref a26_13, .null, .null, .null, .null, .null, .null, .int (iI 0), .int (iI 0), .int (iI 0)]], [ba g a8_5 10240 (fun _ => 0)], [ia g a17_9 10240 (fun _ => 0)], [ia g a26_13 10240 (fun _ => 0)], [ia g a35_17 10240 (fun _ => 0)]] 37 [(0, .ref x)] [.ref a35_17, .ref x]
  refine r_putF 40 hE hnm 0 0 ok3 3 [ob x 3 [.ref a8_5, .ref a17_9, .ref a26_13, .ref a35_17, .null, .null, .null, .null, .null, .int (iI 0), .int (iI 0), .int (iI 0)]] [[ob x 3 [.ref a8_5, .ref a17_9, .ref a26_13, .ref a35_17, .null, .null, .null, .null, .null, .int (iI 0), .int (iI 0), .int (iI 0)]], [ba g a8_5 10240 (fun _ => 0)], [ia g a17_9 10240 (fun _ => 0)], [ia g a26_13 10240 (fun _ => 0)], [ia g a35_17 10240 (fun _ => 0)]] dX3_init_37 rfl wd_216 rfl rfl (by decide) rfl rfl rfl rfl (Nat.le_of_ble_eq_true rfl) rfl rfl ?_
  refine r_aload_n 41 hE 0 dX3_init_40 rfl rfl rfl ?_
  refine r_sipush 44 hE dX3_init_41 rfl (by decide) ?_
  refine r_newi 46 10240 hE ⟨rfl, by decide⟩ dX3_init_44 rfl (by decide) (fun a44_21 => ?_)
  show G g E _ _ _ [[ob x 3 [.ref a8_5, .ref a17_9, .ref a26_13, .ref a35_17, .null, .null, .null, .null, .null, .int (iI 0), .int (iI 0), .int (iI 0)]], [ba g a8_5 10240 (fun _ => 0)], [ia g a17_9 10240 (fun _ => 0)], [ia g a26_13 10240 (fun _ => 0)], [ia g a35_17 10240 (fun _ => 0)], [ia g a44_21 10240 (fun _ => 0)]] 46 [(0, .ref x)] [.ref a44_21, .ref x]
  refine r_putF 49 hE hnm 0 0 ok3 4 [ob x 3 [.ref a8_5, .ref a17_9, .ref a26_13, .ref a35_17, .ref a44_21, .null, .null, .null, .null, .int (iI 0), .int (iI 0), .int (iI 0)]] [[ob x 3 [.ref a8_5, .ref a17_9, .ref a26_13, .ref a35_17, .ref a44_21, .null, .null, .null, .null, .int (iI 0), .int (iI 0), .int (iI 0)]], [ba g a8_5 10240 (fun _ => 0)], [ia g a17_9 10240 (fun _ => 0)], [ia g a26_13 10240 (fun _ => 0)], [ia g a35_17 10240 (fun _ => 0)], [ia g a44_21 10240 (fun _ => 0)]] dX3_init_46 rfl wd_217 rfl rfl (by decide) rfl rfl rfl rfl (Nat.le_of_ble_eq_true rfl) rfl rfl ?_
  refine r_aload_n 50 hE 0 dX3_init_49 rfl rfl rfl ?_
  refine r_sipush 53 hE dX3_init_50 rfl (by decide) ?_
  refine r_newi 55 10240 hE ⟨rfl, by decide⟩ dX3_init_53 rfl (by decide) (fun a53_25 => ?_)
  show G g E _ _ _ [[ob x 3 [.ref a8_5, .ref a17_9, .ref a26_13, .ref a35_17, .ref a44_21, .null, .null, .null, .null, .int (iI 0), .int (iI 0), .int (iI 0)]], [ba g a8_5 10240 (fun _ => 0)], [ia g a17_9 10240 (fun _ => 0)], [ia g a26_13 10240 (fun _ => 0)], [ia g a35_17 10240 (fun _ => 0)], [ia g a44_21 10240 (fun _ => 0)], [ia g a53_25 10240 (fun _ => 0)]] 55 [(0, .ref x)] [.ref a53_25, .ref x]
  refine r_putF 58 hE hnm 0 0 ok3 5 [ob x 3 [.ref a8_5, .ref a17_9, .ref a26_13, .ref a35_17, .ref a44_21, .ref a53_25, .null, .null, .null, .int (iI 0), .int (iI 0), .int (iI 0)]] [[ob x 3 [.ref a8_5, .ref a17_9, .ref a26_13, .ref a35_17, .ref a44_21, .ref a53_25, .null, .null, .null, .int (iI 0), .int (iI 0), .int (iI 0)]], [ba g a8_5 10240 (fun _ => 0)], [ia g a17_9 10240 (fun _ => 0)], [ia g a26_13 10240 (fun _ => 0)], [ia g a35_17 10240 (fun _ => 0)], [ia g a44_21 10240 (fun _ => 0)], [ia g a53_25 10240 (fun _ => 0)]] dX3_init_55 rfl wd_218 rfl rfl (by decide) rfl rfl rfl rfl (Nat.le_of_ble_eq_true rfl) rfl rfl ?_
  refine r_aload_n 59 hE 0 dX3_init_58 rfl rfl rfl ?_
  refine r_sipush 62 hE dX3_init_59 rfl (by decide) ?_
  refine r_newi 64 10240 hE ⟨rfl, by decide⟩ dX3_init_62 rfl (by decide) (fun a62_29 => ?_)
  show G g E _ _ _ [[ob x 3 [.ref a8_5, .ref a17_9, .ref a26_13, .ref a35_17, .ref a44_21, .ref a53_25, .null, .null, .null, .int (iI 0), .int (iI 0), .int (iI 0)]], [ba g a8_5 10240 (fun _ => 0)], [ia g a17_9 10240 (fun _ => 0)], [ia g a26_13 10240 (fun _ => 0)], [ia g a35_17 10240 (fun _ => 0)], [ia g a44_21 10240 (fun _ => 0)], [ia g a53_25 10240 (fun _ => 0)], [ia g a62_29 10240 (fun _ => 0)]] 64 [(0, .ref x)] [.ref a62_29, .ref x]
  refine r_putF 67 hE hnm 0 0 ok3 6 [ob x 3 [.ref a8_5, .ref a17_9, .ref a26_13, .ref a35_17, .ref a44_21, .ref a53_25, .ref a62_29, .null, .null, .int (iI 0), .int (iI 0), .int (iI 0)]] [[ob x 3 [.ref a8_5, .ref a17_9, .ref a26_13, .ref a35_17, .ref a44_21, .ref a53_25, .ref a62_29, .null, .null, .int (iI 0), .int (iI 0), .int (iI 0)]], [ba g a8_5 10240 (fun _ => 0)], [ia g a17_9 10240 (fun _ => 0)], [ia g a26_13 10240 (fun _ => 0)], [ia g a35_17 10240 (fun _ => 0)], [ia g a44_21 10240 (fun _ => 0)], [ia g a53_25 10240 (fun _ => 0)], [ia g a62_29 10240 (fun _ => 0)]] dX3_init_64 rfl wd_219 rfl rfl (by decide) rfl rfl rfl rfl (Nat.le_of_ble_eq_true rfl) rfl rfl ?_
  refine r_aload_n 68 hE 0 dX3_init_67 rfl rfl rfl ?_
  refine r_sipush 71 hE dX3_init_68 rfl (by decide) ?_
  refine r_newi 73 4096 hE ⟨rfl, by decide⟩ dX3_init_71 rfl (by decide) (fun a71_33 => ?_)
  show G g E _ _ _ [[ob x 3 [.ref a8_5, .ref a17_9, .ref a26_13, .ref a35_17, .ref a44_21, .ref a53_25, .ref a62_29, .null, .null, .int (iI 0), .int (iI 0), .int (iI 0)]], [ba g a8_5 10240 (fun _ => 0)], [ia g a17_9 10240 (fun _ => 0)], [ia g a26_13 10240 (fun _ => 0)], [ia g a35_17 10240 (fun _ => 0)], [ia g a44_21 10240 (fun _ => 0)], [ia g a53_25 10240 (fun _ => 0)], [ia g a62_29 10240 (fun _ => 0)], [ia g a71_33 4096 (fun _ => 0)]] 73 [(0, .ref x)] [.ref a71_33, .ref x]
  refine r_putF 76 hE hnm 0 0 ok3 7 [ob x 3 [.ref a8_5, .ref a17_9, .ref a26_13, .ref a35_17, .ref a44_21, .ref a53_25, .ref a62_29, .ref a71_33, .null, .int (iI 0), .int (iI 0), .int (iI 0)]] [[ob x 3 [.ref a8_5, .ref a17_9, .ref a26_13, .ref a35_17, .ref a44_21, .ref a53_25, .ref a62_29, .ref a71_33, .null, .int (iI 0), .int (iI 0), .int (iI 0)]], [ba g a8_5 10240 (fun _ => 0)], [ia g a17_9 10240 (fun _ => 0)], [ia g a26_13 10240 (fun _ => 0)], [ia g a35_17 10240 (fun _ => 0)], [ia g a44_21 10240 (fun _ => 0)], [ia g a53_25 10240 (fun _ => 0)], [ia g a62_29 10240 (fun _ => 0)], [ia g a71_33 4096 (fun _ => 0)]] dX3_init_73 rfl wd_220 rfl rfl (by decide) rfl rfl rfl rfl (Nat.le_of_ble_eq_true rfl) rfl rfl ?_
  refine r_aload_n 77 hE 0 dX3_init_76 rfl rfl rfl ?_
  refine r_sipush 80 hE dX3_init_77 rfl (by decide) ?_
  refine r_newi 82 600 hE ⟨rfl, by decide⟩ dX3_init_80 rfl (by decide) (fun a80_37 => ?_)
  show G g E _ _ _ [[ob x 3 [.ref a8_5, .ref a17_9, .ref a26_13, .ref a35_17, .ref a44_21, .ref a53_25, .ref a62_29, .ref a71_33, .null, .int (iI 0), .int (iI 0), .int (iI 0)]], [ba g a8_5 10240 (fun _ => 0)], [ia g a17_9 10240 (fun _ => 0)], [ia g a26_13 10240 (fun _ => 0)], [ia g a35_17 10240 (fun _ => 0)], [ia g a44_21 10240 (fun _ => 0)], [ia g a53_25 10240 (fun _ => 0)], [ia g a62_29 10240 (fun _ => 0)], [ia g a71_33 4096 (fun _ => 0)], [ia g a80_37 600 (fun _ => 0)]] 82 [(0, .ref x)] [.ref a80_37, .ref x]
  refine r_putF 85 hE hnm 0 0 ok3 8 [ob x 3 [.ref a8_5, .ref a17_9, .ref a26_13, .ref a35_17, .ref a44_21, .ref a53_25, .ref a62_29, .ref a71_33, .ref a80_37, .int (iI 0), .int (iI 0), .int (iI 0)]] [[ob x 3 [.ref a8_5, .ref a17_9, .ref a26_13, .ref a35_17, .ref a44_21, .ref a53_25, .ref a62_29, .ref a71_33, .ref a80_37, .int (iI 0), .int (iI 0), .int (iI 0)]], [ba g a8_5 10240 (fun _ => 0)], [ia g a17_9 10240 (fun _ => 0)], [ia g a26_13 10240 (fun _ => 0)], [ia g a35_17 10240 (fun _ => 0)], [ia g a44_21 10240 (fun _ => 0)], [ia g a53_25 10240 (fun _ => 0)], [ia g a62_29 10240 (fun _ => 0)], [ia g a71_33 4096 (fun _ => 0)], [ia g a80_37 600 (fun _ => 0)]] dX3_init_82 rfl wd_221 rfl rfl (by decide) rfl rfl rfl rfl (Nat.le_of_ble_eq_true rfl) rfl rfl ?_
  refine r_iconst 86 hE dX3_init_85 rfl ?_
  refine r_istore_n 87 hE [(1, .int (iI 0)), (0, .ref x)] dX3_init_86 rfl rfl (by decide) rfl ?_
  refine G.cast (fs' := [(wRules g (af [x, a8_5, a17_9, a26_13, a35_17, a44_21, a53_25, a62_29, a71_33, a80_37]) (fun _ => 0) (fun _ => 0) (fun _ => 0) (fun _ => 0) (fun _ => 0) (fun _ => 0) (fun _ => 0) (fun _ => 0) (fun _ => 0) 0 0 0)]) (lv' := [(1, .int (iI 0)), (0, .ref ((af [x, a8_5, a17_9, a26_13, a35_17, a44_21, a53_25, a62_29, a71_33, a80_37]) 0))]) rfl rfl ?_
  refine G.to (fs' := [(wRules g (af [x, a8_5, a17_9, a26_13, a35_17, a44_21, a53_25, a62_29, a71_33, a80_37]) (fun _ => 0) (fun _ => 0) (fun _ => 0) (fun _ => 0) (fun _ => 0) (fun _ => 0) (fun _ => 0) (fun _ => 0) (fun _ => 0) 0 0 0)]) (lv' := [(0, .ref ((af [x, a8_5, a17_9, a26_13, a35_17, a44_21, a53_25, a62_29, a71_33, a80_37]) 0)), (1, .int (iI 0))]) [0] [1, 0] rfl rfl rfl ?_
  exact cut87 _ (af [x, a8_5, a17_9, a26_13, a35_17, a44_21, a53_25, a62_29, a71_33, a80_37]) 0 (fun _ => 0) (fun _ => 0) (fun _ => 0) (fun _ => 0) rfl (by omega) (fun t a b => absurd b (by omega)) (Nat.lt_succ_self _)
set_option maxHeartbeats 4000000 in
set_option maxRecDepth 100000 in
theorem c_X7_init (g : Gm) (x : Nat) : Ct g 7 16 102920 yX7_init cX7_init 1 none [.ref x] [[ob x 7 dv7]] (fun v_ w_ => ∃ (w ru : Nat → Nat) (fi se sg le he : Int → Int), w 0 = x ∧ v_ = none ∧ w_ = [wWalk g w (ru 0) (fun _ => 0) (fun _ => 0) (fun _ => 0) (fun _ => 0) (fun _ => 0) (fun _ => 0) 0 0 0, wRules g ru (fun _ => 0) fi se sg le (fun _ => 0) (fun _ => 0) he (fun _ => 0) 26 0 0] ∧ RT (fun _ => 0) fi se sg le (fun _ => 0) (fun _ => 0) he 26 rLet) := by
  refine Ct.of (by decide) (Nat.le_of_ble_eq_true rfl) (lv := [(0, .ref x)]) rfl ?_
  intro E hE hR hnm
  show G g E _ _ _ [[ob x 7 [.null, .null, .null, .null, .null, .null, .null, .int (iI 0), .int (iI 0), .int (iI 0)]]] 0 [(0, .ref x)] []
  refine r_aload_n 1 hE 0 dX7_init_0 rfl rfl rfl ?_
  refine r_objInit 4 hE dX7_init_1 rfl wd_199 wd_26 wd_27 (Nat.le_of_ble_eq_true rfl) (Nat.le_of_ble_eq_true rfl) ?_
  refine r_aload_n 5 hE 0 dX7_init_4 rfl rfl rfl ?_
  refine r_new 8 hE ok3 dv3 dX7_init_5 rfl wd_200 wd_201 wd_9 df3 (by decide) (fun a5_4 => ?_)
  show G g E _ _ _ [[ob x 7 [.null, .null, .null, .null, .null, .null, .null, .int (iI 0), .int (iI 0), .int (iI 0)]], [ob a5_4 3 [.null, .null, .null, .null, .null, .null, .null, .null, .null, .int (iI 0), .int (iI 0), .int (iI 0)]]] 8 [(0, .ref x)] [.ref a5_4, .ref x]
  refine r_dup 9 hE dX7_init_8 rfl rfl ?_
  refine r_callI 12 hE [1] [0] [[ob a5_4 3 [.null, .null, .null, .null, .null, .null, .null, .null, .null, .int (iI 0), .int (iI 0), .int (iI 0)]]] [[ob x 7 [.null, .null, .null, .null, .null, .null, .null, .int (iI 0), .int (iI 0), .int (iI 0)]]] [.ref a5_4, .ref x] (c_X3_init g a5_4) dX7_init_9 rfl rfl wd_202 wd_203 wd_9 wd_204 ne_X3 np_X3_init (Nat.le_of_ble_eq_true rfl) (by decide) (by decide) rfl (Nat.le_of_ble_eq_true rfl) rfl rfl rfl rfl (by decide) (fun v1 f1 hp => ?_)
  obtain ⟨b6, fi6, se6, sg6, le6, he6, ha, rfl, rfl, hf6⟩ := hp
  subst ha
  show G g E _ _ _ [(wRules g b6 (fun _ => 0) fi6 se6 sg6 le6 (fun _ => 0) (fun _ => 0) he6 (fun _ => 0) 26 0 0), [ob x 7 [.null, .null, .null, .null, .null, .null, .null, .int (iI 0), .int (iI 0), .int (iI 0)]]] 12 [(0, .ref x)] [.ref (b6 0), .ref x]
  refine r_putF 15 hE hnm 1 0 ok7 0 [ob x 7 [.ref (b6 0), .null, .null, .null, .null, .null, .null, .int (iI 0), .int (iI 0), .int (iI 0)]] [(wRules g b6 (fun _ => 0) fi6 se6 sg6 le6 (fun _ => 0) (fun _ => 0) he6 (fun _ => 0) 26 0 0), [ob x 7 [.ref (b6 0), .null, .null, .null, .null, .null, .null, .int (iI 0), .int (iI 0), .int (iI 0)]]] dX7_init_12 rfl wd_252 rfl rfl (by decide) rfl rfl rfl rfl (Nat.le_of_ble_eq_true rfl) rfl rfl ?_
  refine r_aload_n 16 hE 0 dX7_init_15 rfl rfl rfl ?_
  refine r_sipush 19 hE dX7_init_16 rfl (by decide) ?_
  refine r_newi 21 10240 hE ⟨rfl, by decide⟩ dX7_init_19 rfl (by decide) (fun a19_10 => ?_)
  show G g E _ _ _ [(wRules g b6 (fun _ => 0) fi6 se6 sg6 le6 (fun _ => 0) (fun _ => 0) he6 (fun _ => 0) 26 0 0), [ob x 7 [.ref (b6 0), .null, .null, .null, .null, .null, .null, .int (iI 0), .int (iI 0), .int (iI 0)]], [ia g a19_10 10240 (fun _ => 0)]] 21 [(0, .ref x)] [.ref a19_10, .ref x]
  refine r_putF 24 hE hnm 1 0 ok7 1 [ob x 7 [.ref (b6 0), .ref a19_10, .null, .null, .null, .null, .null, .int (iI 0), .int (iI 0), .int (iI 0)]] [(wRules g b6 (fun _ => 0) fi6 se6 sg6 le6 (fun _ => 0) (fun _ => 0) he6 (fun _ => 0) 26 0 0), [ob x 7 [.ref (b6 0), .ref a19_10, .null, .null, .null, .null, .null, .int (iI 0), .int (iI 0), .int (iI 0)]], [ia g a19_10 10240 (fun _ => 0)]] dX7_init_21 rfl wd_254 rfl rfl (by decide) rfl rfl rfl rfl (Nat.le_of_ble_eq_true rfl) rfl rfl ?_
  refine r_aload_n 25 hE 0 dX7_init_24 rfl rfl rfl ?_
  refine r_sipush 28 hE dX7_init_25 rfl (by decide) ?_
  refine r_newi 30 10240 hE ⟨rfl, by decide⟩ dX7_init_28 rfl (by decide) (fun a28_14 => ?_)
  show G g E _ _ _ [(wRules g b6 (fun _ => 0) fi6 se6 sg6 le6 (fun _ => 0) (fun _ => 0) he6 (fun _ => 0) 26 0 0), [ob x 7 [.ref (b6 0), .ref a19_10, .null, .null, .null, .null, .null, .int (iI 0), .int (iI 0), .int (iI 0)]], [ia g a19_10 10240 (fun _ => 0)], [ia g a28_14 10240 (fun _ => 0)]] 30 [(0, .ref x)] [.ref a28_14, .ref x]
  refine r_putF 33 hE hnm 1 0 ok7 2 [ob x 7 [.ref (b6 0), .ref a19_10, .ref a28_14, .null, .null, .null, .null, .int (iI 0), .int (iI 0), .int (iI 0)]] [(wRules g b6 (fun _ => 0) fi6 se6 sg6 le6 (fun _ => 0) (fun _ => 0) he6 (fun _ => 0) 26 0 0), [ob x 7 [.ref (b6 0), .ref a19_10, .ref a28_14, .null, .null, .null, .null, .int (iI 0), .int (iI 0), .int (iI 0)]], [ia g a19_10 10240 (fun _ => 0)], [ia g a28_14 10240 (fun _ => 0)]] dX7_init_30 rfl wd_255 rfl rfl (by decide) rfl rfl rfl rfl (Nat.le_of_ble_eq_true rfl) rfl rfl ?_
  refine r_aload_n 34 hE 0 dX7_init_33 rfl rfl rfl ?_
  refine r_sipush 37 hE dX7_init_34 rfl (by decide) ?_
  refine r_newi 39 626 hE ⟨rfl, by decide⟩ dX7_init_37 rfl (by decide) (fun a37_18 => ?_)
  show G g E _ _ _ [(wRules g b6 (fun _ => 0) fi6 se6 sg6 le6 (fun _ => 0) (fun _ => 0) he6 (fun _ => 0) 26 0 0), [ob x 7 [.ref (b6 0), .ref a19_10, .ref a28_14, .null, .null, .null, .null, .int (iI 0), .int (iI 0), .int (iI 0)]], [ia g a19_10 10240 (fun _ => 0)], [ia g a28_14 10240 (fun _ => 0)], [ia g a37_18 626 (fun _ => 0)]] 39 [(0, .ref x)] [.ref a37_18, .ref x]
  refine r_putF 42 hE hnm 1 0 ok7 3 [ob x 7 [.ref (b6 0), .ref a19_10, .ref a28_14, .ref a37_18, .null, .null, .null, .int (iI 0), .int (iI 0), .int (iI 0)]] [(wRules g b6 (fun _ => 0) fi6 se6 sg6 le6 (fun _ => 0) (fun _ => 0) he6 (fun _ => 0) 26 0 0), [ob x 7 [.ref (b6 0), .ref a19_10, .ref a28_14, .ref a37_18, .null, .null, .null, .int (iI 0), .int (iI 0), .int (iI 0)]], [ia g a19_10 10240 (fun _ => 0)], [ia g a28_14 10240 (fun _ => 0)], [ia g a37_18 626 (fun _ => 0)]] dX7_init_39 rfl wd_256 rfl rfl (by decide) rfl rfl rfl rfl (Nat.le_of_ble_eq_true rfl) rfl rfl ?_
  refine r_aload_n 43 hE 0 dX7_init_42 rfl rfl rfl ?_
  refine r_sipush 46 hE dX7_init_43 rfl (by decide) ?_
  refine r_newi 48 626 hE ⟨rfl, by decide⟩ dX7_init_46 rfl (by decide) (fun a46_22 => ?_)
  show G g E _ _ _ [(wRules g b6 (fun _ => 0) fi6 se6 sg6 le6 (fun _ => 0) (fun _ => 0) he6 (fun _ => 0) 26 0 0), [ob x 7 [.ref (b6 0), .ref a19_10, .ref a28_14, .ref a37_18, .null, .null, .null, .int (iI 0), .int (iI 0), .int (iI 0)]], [ia g a19_10 10240 (fun _ => 0)], [ia g a28_14 10240 (fun _ => 0)], [ia g a37_18 626 (fun _ => 0)], [ia g a46_22 626 (fun _ => 0)]] 48 [(0, .ref x)] [.ref a46_22, .ref x]
  refine r_putF 51 hE hnm 1 0 ok7 4 [ob x 7 [.ref (b6 0), .ref a19_10, .ref a28_14, .ref a37_18, .ref a46_22, .null, .null, .int (iI 0), .int (iI 0), .int (iI 0)]] [(wRules g b6 (fun _ => 0) fi6 se6 sg6 le6 (fun _ => 0) (fun _ => 0) he6 (fun _ => 0) 26 0 0), [ob x 7 [.ref (b6 0), .ref a19_10, .ref a28_14, .ref a37_18, .ref a46_22, .null, .null, .int (iI 0), .int (iI 0), .int (iI 0)]], [ia g a19_10 10240 (fun _ => 0)], [ia g a28_14 10240 (fun _ => 0)], [ia g a37_18 626 (fun _ => 0)], [ia g a46_22 626 (fun _ => 0)]] dX7_init_48 rfl wd_257 rfl rfl (by decide) rfl rfl rfl rfl (Nat.le_of_ble_eq_true rfl) rfl rfl ?_
  refine r_aload_n 52 hE 0 dX7_init_51 rfl rfl rfl ?_
  refine r_sipush 55 hE dX7_init_52 rfl (by decide) ?_
  refine r_newi 57 2400 hE ⟨rfl, by decide⟩ dX7_init_55 rfl (by decide) (fun a55_26 => ?_)
  show G g E _ _ _ [(wRules g b6 (fun _ => 0) fi6 se6 sg6 le6 (fun _ => 0) (fun _ => 0) he6 (fun _ => 0) 26 0 0), [ob x 7 [.ref (b6 0), .ref a19_10, .ref a28_14, .ref a37_18, .ref a46_22, .null, .null, .int (iI 0), .int (iI 0), .int (iI 0)]], [ia g a19_10 10240 (fun _ => 0)], [ia g a28_14 10240 (fun _ => 0)], [ia g a37_18 626 (fun _ => 0)], [ia g a46_22 626 (fun _ => 0)], [ia g a55_26 2400 (fun _ => 0)]] 57 [(0, .ref x)] [.ref a55_26, .ref x]
  refine r_putF 60 hE hnm 1 0 ok7 5 [ob x 7 [.ref (b6 0), .ref a19_10, .ref a28_14, .ref a37_18, .ref a46_22, .ref a55_26, .null, .int (iI 0), .int (iI 0), .int (iI 0)]] [(wRules g b6 (fun _ => 0) fi6 se6 sg6 le6 (fun _ => 0) (fun _ => 0) he6 (fun _ => 0) 26 0 0), [ob x 7 [.ref (b6 0), .ref a19_10, .ref a28_14, .ref a37_18, .ref a46_22, .ref a55_26, .null, .int (iI 0), .int (iI 0), .int (iI 0)]], [ia g a19_10 10240 (fun _ => 0)], [ia g a28_14 10240 (fun _ => 0)], [ia g a37_18 626 (fun _ => 0)], [ia g a46_22 626 (fun _ => 0)], [ia g a55_26 2400 (fun _ => 0)]] dX7_init_57 rfl wd_258 rfl rfl (by decide) rfl rfl rfl rfl (Nat.le_of_ble_eq_true rfl) rfl rfl ?_
  refine r_aload_n 61 hE 0 dX7_init_60 rfl rfl rfl ?_
  refine r_sipush 64 hE dX7_init_61 rfl (by decide) ?_
  refine r_newi 66 2400 hE ⟨rfl, by decide⟩ dX7_init_64 rfl (by decide) (fun a64_30 => ?_)
  show G g E _ _ _ [(wRules g b6 (fun _ => 0) fi6 se6 sg6 le6 (fun _ => 0) (fun _ => 0) he6 (fun _ => 0) 26 0 0), [ob x 7 [.ref (b6 0), .ref a19_10, .ref a28_14, .ref a37_18, .ref a46_22, .ref a55_26, .null, .int (iI 0), .int (iI 0), .int (iI 0)]], [ia g a19_10 10240 (fun _ => 0)], [ia g a28_14 10240 (fun _ => 0)], [ia g a37_18 626 (fun _ => 0)], [ia g a46_22 626 (fun _ => 0)], [ia g a55_26 2400 (fun _ => 0)], [ia g a64_30 2400 (fun _ => 0)]] 66 [(0, .ref x)] [.ref a64_30, .ref x]
  refine r_putF 69 hE hnm 1 0 ok7 6 [ob x 7 [.ref (b6 0), .ref a19_10, .ref a28_14, .ref a37_18, .ref a46_22, .ref a55_26, .ref a64_30, .int (iI 0), .int (iI 0), .int (iI 0)]] [(wRules g b6 (fun _ => 0) fi6 se6 sg6 le6 (fun _ => 0) (fun _ => 0) he6 (fun _ => 0) 26 0 0), [ob x 7 [.ref (b6 0), .ref a19_10, .ref a28_14, .ref a37_18, .ref a46_22, .ref a55_26, .ref a64_30, .int (iI 0), .int (iI 0), .int (iI 0)]], [ia g a19_10 10240 (fun _ => 0)], [ia g a28_14 10240 (fun _ => 0)], [ia g a37_18 626 (fun _ => 0)], [ia g a46_22 626 (fun _ => 0)], [ia g a55_26 2400 (fun _ => 0)], [ia g a64_30 2400 (fun _ => 0)]] dX7_init_66 rfl wd_259 rfl rfl (by decide) rfl rfl rfl rfl (Nat.le_of_ble_eq_true rfl) rfl rfl ?_
  refine G.to (fs' := [[ob x 7 [.ref (b6 0), .ref a19_10, .ref a28_14, .ref a37_18, .ref a46_22, .ref a55_26, .ref a64_30, .int (iI 0), .int (iI 0), .int (iI 0)]], [ia g a19_10 10240 (fun _ => 0)], [ia g a28_14 10240 (fun _ => 0)], [ia g a37_18 626 (fun _ => 0)], [ia g a46_22 626 (fun _ => 0)], [ia g a55_26 2400 (fun _ => 0)], [ia g a64_30 2400 (fun _ => 0)], (wRules g b6 (fun _ => 0) fi6 se6 sg6 le6 (fun _ => 0) (fun _ => 0) he6 (fun _ => 0) 26 0 0)]) (lv' := [(0, .ref x)]) [1, 2, 3, 4, 5, 6, 7, 0] [0] rfl rfl rfl ?_
  refine r_return hE hR [wWalk g (af [x, a19_10, a28_14, a37_18, a46_22, a55_26, a64_30]) (b6 0) (fun _ => 0) (fun _ => 0) (fun _ => 0) (fun _ => 0) (fun _ => 0) (fun _ => 0) 0 0 0, wRules g b6 (fun _ => 0) fi6 se6 sg6 le6 (fun _ => 0) (fun _ => 0) he6 (fun _ => 0) 26 0 0] dX7_init_69 (Nat.le_of_ble_eq_true rfl) (Nat.le_of_ble_eq_true rfl) rfl ?_
  exact ⟨(af [x, a19_10, a28_14, a37_18, a46_22, a55_26, a64_30]), b6, fi6, se6, sg6, le6, he6, rfl, rfl, rfl, hf6⟩
