set_option maxHeartbeats 4000000 in
set_option maxRecDepth 100000 in
theorem c_X9_ahead {g : Gm} {mo : Nat → Nat} {mst mac mmk mr mrd mrm mcm mtp msz mtk mbg men mls mvl mft mfp mfk mdp mto : Int} {tt : Int → Int} (hB : BR tt) (hn : 0 ≤ msz ∧ msz ≤ 900) (he : 0 ≤ men ∧ men ≤ msz) : Ct g 1 0 0 yX9_ahead cX9_ahead 2 none [.ref (mo 0)] [(wMo g mo mst mac mmk mr mrd mrm mcm mtp msz mtk mbg men mls mvl mft mfp mfk mdp mto), (wMTxt g mo tt)] (fun v_ w_ => ∃ tk9 : Int, ∃ bg9 : Int, ∃ en9 : Int, ∃ vl9 : Int, v_ = none ∧ w_ = [(wMo g mo mst mac mmk mr mrd mrm mcm mtp msz tk9 bg9 en9 mbg vl9 mft mfp mfk mdp mto), (wMTxt g mo tt)] ∧ (AhIs tt msz men tk9 bg9 en9 vl9)) := by
  refine Ct.of (by decide) (Nat.le_of_ble_eq_true rfl) (lv := [(0, .ref (mo 0))]) rfl ?_
  intro E hE hR hnm
  have hv : True := trivial
  have cut227 : ∀ (N : Nat) (b : Int) (e : Int), (b = skp tt msz men ∧ 0 ≤ b ∧ b < msz ∧ tt b = 34) → (b + 1 ≤ e ∧ e ≤ msz) → (smE tt msz (b + 1) = smE tt msz e) → (msz - e).toNat < N → G g E 2 0 0 [(wMo g mo mst mac mmk mr mrd mrm mcm mtp msz mtk b e mbg mvl mft mfp mfk mdp mto), (wMTxt g mo tt)] 227 [(0, .ref (mo 0))] [] := by
    intro N
    induction N with
    | zero => intro b e _ _ _ hN; exact absurd hN (Nat.not_lt_zero _)
    | succ N ih227 =>
      intro b e hb hee hs hN
      have hb9 := mbA_rg hB msz e
      refine r_aload_n 228 hE 0 dX9_ahead_227 rfl rfl rfl ?_
      refine r_aload_n 229 hE 0 dX9_ahead_228 rfl rfl rfl ?_
      refine r_get 232 hE 0 0 ok9 29 dX9_ahead_229 rfl wd_1081 rfl rfl (by decide) rfl ?_
      refine r_callV 235 hE [0, 1] [] [(wMo g mo mst mac mmk mr mrd mrm mcm mtp msz mtk b e mbg mvl mft mfp mfk mdp mto), (wMTxt g mo tt)] [] 0 9 ok9 [] (c_X9_byteAt (hB) (by omega) (by omega)) dX9_ahead_232 rfl rfl wd_1198 wd_1200 ws_50 wd_12 wd_1201 ne_X9 np_X9_byteAt (Nat.le_of_ble_eq_true rfl)  (by decide) (by decide) rfl (Nat.le_of_ble_eq_true rfl) rfl rfl rfl rfl (by decide) rfl (fun v1 f1 hp => ?_)
      obtain ⟨rfl, rfl⟩ := hp
      show G g E _ _ _ [(wMo g mo mst mac mmk mr mrd mrm mcm mtp msz mtk b e mbg mvl mft mfp mfk mdp mto), (wMTxt g mo tt)] 235 [(0, .ref (mo 0))] [.int (iI (mbA tt msz e))]
      refine r_callS 238 hE [] [0, 1] [] [(wMo g mo mst mac mmk mr mrd mrm mcm mtp msz mtk b e mbg mvl mft mfp mfk mdp mto), (wMTxt g mo tt)] [] (c_X9_isSmall (by omega)) dX9_ahead_235 rfl wd_1202 wd_1203 wd_12 wd_1204 ne_X9 np_X9_isSmall (Nat.le_of_ble_eq_true rfl)  (by decide) (by decide) rfl (Nat.le_of_ble_eq_true rfl) rfl rfl rfl rfl (by decide) (fun v1 f1 hp => ?_)
      obtain ⟨rfl, rfl⟩ := hp
      show G g E _ _ _ [(wMo g mo mst mac mmk mr mrd mrm mcm mtp msz mtk b e mbg mvl mft mfp mfk mdp mto), (wMTxt g mo tt)] 238 [(0, .ref (mo 0))] [.int (iI (bI (97 ≤ (mbA tt msz e) ∧ (mbA tt msz e) ≤ 122)))]
      refine r_if_eq 241 254 hE dX9_ahead_238 rfl (by decide) (bI_rg _) (fun c238 => ?_) (fun c238 => ?_)
      · skip
        have c238 := bI0 c238
        have hst : smE tt msz (b + 1) = e := by
          rw [hs]
          refine sm_stop ?_
          by_cases z : e < msz
          · exact Or.inr (fun w => c238 ((mbA_iff hB (by omega)).mpr ⟨z, w⟩))
          · exact Or.inl (by omega)
        refine r_aload_n 255 hE 0 dX9_ahead_254 rfl rfl rfl ?_
        refine r_aload_n 256 hE 0 dX9_ahead_255 rfl rfl rfl ?_
        refine r_aload_n 257 hE 0 dX9_ahead_256 rfl rfl rfl ?_
        refine r_get 260 hE 0 0 ok9 29 dX9_ahead_257 rfl wd_1081 rfl rfl (by decide) rfl ?_
        refine r_callV 263 hE [0, 1] [] [(wMo g mo mst mac mmk mr mrd mrm mcm mtp msz mtk b e mbg mvl mft mfp mfk mdp mto), (wMTxt g mo tt)] [] 0 9 ok9 [.ref (mo 0)] (c_X9_byteAt (hB) (by omega) (by omega)) dX9_ahead_260 rfl rfl wd_1198 wd_1200 ws_50 wd_12 wd_1201 ne_X9 np_X9_byteAt (Nat.le_of_ble_eq_true rfl)  (by decide) (by decide) rfl (Nat.le_of_ble_eq_true rfl) rfl rfl rfl rfl (by decide) rfl (fun v1 f1 hp => ?_)
        obtain ⟨rfl, rfl⟩ := hp
        show G g E _ _ _ [(wMo g mo mst mac mmk mr mrd mrm mcm mtp msz mtk b e mbg mvl mft mfp mfk mdp mto), (wMTxt g mo tt)] 263 [(0, .ref (mo 0))] [.int (iI (mbA tt msz e)), .ref (mo 0)]
        refine r_bipush 265 hE dX9_ahead_263 rfl (by decide) ?_
        refine r_icmp_ne 268 285 hE dX9_ahead_265 rfl (by decide) (by omega) (fun c265 => ?_) (fun c265 => ?_)
        · skip
          have hfin := ah_qt (v := mvl) (tk := 1) hB hb.1 hb.2.1 hb.2.2.1 hb.2.2.2 hst hv (Or.inr ⟨fun z => c265 z.1, rfl⟩)
          refine r_iconst 286 hE dX9_ahead_285 rfl ?_
          refine r_put 289 hE 0 0 ok9 27 (wMo g mo mst mac mmk mr mrd mrm mcm mtp msz 1 b e mbg mvl mft mfp mfk mdp mto) [(wMo g mo mst mac mmk mr mrd mrm mcm mtp msz 1 b e mbg mvl mft mfp mfk mdp mto), (wMTxt g mo tt)] dX9_ahead_286 rfl wd_1079 rfl rfl (by decide) rfl rfl rfl (Nat.le_of_ble_eq_true rfl) rfl rfl ?_
          refine r_aload_n 290 hE 0 dX9_ahead_289 rfl rfl rfl ?_
          refine r_dup 291 hE dX9_ahead_290 rfl rfl ?_
          refine r_get 294 hE 0 0 ok9 29 dX9_ahead_291 rfl wd_1081 rfl rfl (by decide) rfl ?_
          refine r_iconst 295 hE dX9_ahead_294 rfl ?_
          refine r_iadd 296 hE (e + 1) dX9_ahead_295 rfl rfl ?_
          refine r_put 299 hE 0 0 ok9 29 (wMo g mo mst mac mmk mr mrd mrm mcm mtp msz 1 b (e + 1) mbg mvl mft mfp mfk mdp mto) [(wMo g mo mst mac mmk mr mrd mrm mcm mtp msz 1 b (e + 1) mbg mvl mft mfp mfk mdp mto), (wMTxt g mo tt)] dX9_ahead_296 rfl wd_1081 rfl rfl (by decide) rfl rfl rfl (Nat.le_of_ble_eq_true rfl) rfl rfl ?_
          refine r_goto 328 hE dX9_ahead_299 (by decide) ?_
          refine r_return hE hR [(wMo g mo mst mac mmk mr mrd mrm mcm mtp msz 1 b (e + 1) mbg mvl mft mfp mfk mdp mto), (wMTxt g mo tt)] dX9_ahead_328 (Nat.le_of_ble_eq_true rfl) (Nat.le_of_ble_eq_true rfl) rfl ?_
          exact ⟨_, _, _, _, rfl, rfl, hfin⟩
        · skip
          refine r_aload_n 269 hE 0 dX9_ahead_268 rfl rfl rfl ?_
          refine r_get 272 hE 0 0 ok9 29 dX9_ahead_269 rfl wd_1081 rfl rfl (by decide) rfl ?_
          refine r_aload_n 273 hE 0 dX9_ahead_272 rfl rfl rfl ?_
          refine r_get 276 hE 0 0 ok9 28 dX9_ahead_273 rfl wd_1080 rfl rfl (by decide) rfl ?_
          refine r_iconst 277 hE dX9_ahead_276 rfl ?_
          refine r_iadd 278 hE (b + 1) dX9_ahead_277 rfl rfl ?_
          refine r_icmp_le 281 285 hE dX9_ahead_278 rfl (by decide) (by omega) (fun c278 => ?_) (fun c278 => ?_)
          · skip
            have hfin := ah_qt (v := mvl) (tk := 1) hB hb.1 hb.2.1 hb.2.2.1 hb.2.2.2 hst hv (Or.inr ⟨fun z => by omega, rfl⟩)
            refine r_iconst 286 hE dX9_ahead_285 rfl ?_
            refine r_put 289 hE 0 0 ok9 27 (wMo g mo mst mac mmk mr mrd mrm mcm mtp msz 1 b e mbg mvl mft mfp mfk mdp mto) [(wMo g mo mst mac mmk mr mrd mrm mcm mtp msz 1 b e mbg mvl mft mfp mfk mdp mto), (wMTxt g mo tt)] dX9_ahead_286 rfl wd_1079 rfl rfl (by decide) rfl rfl rfl (Nat.le_of_ble_eq_true rfl) rfl rfl ?_
            refine r_aload_n 290 hE 0 dX9_ahead_289 rfl rfl rfl ?_
            refine r_dup 291 hE dX9_ahead_290 rfl rfl ?_
            refine r_get 294 hE 0 0 ok9 29 dX9_ahead_291 rfl wd_1081 rfl rfl (by decide) rfl ?_
            refine r_iconst 295 hE dX9_ahead_294 rfl ?_
            refine r_iadd 296 hE (e + 1) dX9_ahead_295 rfl rfl ?_
            refine r_put 299 hE 0 0 ok9 29 (wMo g mo mst mac mmk mr mrd mrm mcm mtp msz 1 b (e + 1) mbg mvl mft mfp mfk mdp mto) [(wMo g mo mst mac mmk mr mrd mrm mcm mtp msz 1 b (e + 1) mbg mvl mft mfp mfk mdp mto), (wMTxt g mo tt)] dX9_ahead_296 rfl wd_1081 rfl rfl (by decide) rfl rfl rfl (Nat.le_of_ble_eq_true rfl) rfl rfl ?_
            refine r_goto 328 hE dX9_ahead_299 (by decide) ?_
            refine r_return hE hR [(wMo g mo mst mac mmk mr mrd mrm mcm mtp msz 1 b (e + 1) mbg mvl mft mfp mfk mdp mto), (wMTxt g mo tt)] dX9_ahead_328 (Nat.le_of_ble_eq_true rfl) (Nat.le_of_ble_eq_true rfl) rfl ?_
            exact ⟨_, _, _, _, rfl, rfl, hfin⟩
          · skip
            have hfin := ah_qt (v := mvl) (tk := 4) hB hb.1 hb.2.1 hb.2.2.1 hb.2.2.2 hst hv (Or.inl ⟨⟨c265, by omega⟩, rfl⟩)
            refine r_iconst 282 hE dX9_ahead_281 rfl ?_
            refine r_goto 286 hE dX9_ahead_282 (by decide) ?_
            refine r_put 289 hE 0 0 ok9 27 (wMo g mo mst mac mmk mr mrd mrm mcm mtp msz 4 b e mbg mvl mft mfp mfk mdp mto) [(wMo g mo mst mac mmk mr mrd mrm mcm mtp msz 4 b e mbg mvl mft mfp mfk mdp mto), (wMTxt g mo tt)] dX9_ahead_286 rfl wd_1079 rfl rfl (by decide) rfl rfl rfl (Nat.le_of_ble_eq_true rfl) rfl rfl ?_
            refine r_aload_n 290 hE 0 dX9_ahead_289 rfl rfl rfl ?_
            refine r_dup 291 hE dX9_ahead_290 rfl rfl ?_
            refine r_get 294 hE 0 0 ok9 29 dX9_ahead_291 rfl wd_1081 rfl rfl (by decide) rfl ?_
            refine r_iconst 295 hE dX9_ahead_294 rfl ?_
            refine r_iadd 296 hE (e + 1) dX9_ahead_295 rfl rfl ?_
            refine r_put 299 hE 0 0 ok9 29 (wMo g mo mst mac mmk mr mrd mrm mcm mtp msz 4 b (e + 1) mbg mvl mft mfp mfk mdp mto) [(wMo g mo mst mac mmk mr mrd mrm mcm mtp msz 4 b (e + 1) mbg mvl mft mfp mfk mdp mto), (wMTxt g mo tt)] dX9_ahead_296 rfl wd_1081 rfl rfl (by decide) rfl rfl rfl (Nat.le_of_ble_eq_true rfl) rfl rfl ?_
            refine r_goto 328 hE dX9_ahead_299 (by decide) ?_
            refine r_return hE hR [(wMo g mo mst mac mmk mr mrd mrm mcm mtp msz 4 b (e + 1) mbg mvl mft mfp mfk mdp mto), (wMTxt g mo tt)] dX9_ahead_328 (Nat.le_of_ble_eq_true rfl) (Nat.le_of_ble_eq_true rfl) rfl ?_
            exact ⟨_, _, _, _, rfl, rfl, hfin⟩
      · skip
        have c238 := bI1 c238
        have hx := (mbA_iff hB (by omega)).mp c238
        have hs2 : smE tt msz (b + 1) = smE tt msz (e + 1) := by rw [hs]; exact sm_step hx.1 hx.2
        refine r_aload_n 242 hE 0 dX9_ahead_241 rfl rfl rfl ?_
        refine r_dup 243 hE dX9_ahead_242 rfl rfl ?_
        refine r_get 246 hE 0 0 ok9 29 dX9_ahead_243 rfl wd_1081 rfl rfl (by decide) rfl ?_
        refine r_iconst 247 hE dX9_ahead_246 rfl ?_
        refine r_iadd 248 hE (e + 1) dX9_ahead_247 rfl rfl ?_
        refine r_put 251 hE 0 0 ok9 29 (wMo g mo mst mac mmk mr mrd mrm mcm mtp msz mtk b (e + 1) mbg mvl mft mfp mfk mdp mto) [(wMo g mo mst mac mmk mr mrd mrm mcm mtp msz mtk b (e + 1) mbg mvl mft mfp mfk mdp mto), (wMTxt g mo tt)] dX9_ahead_248 rfl wd_1081 rfl rfl (by decide) rfl rfl rfl (Nat.le_of_ble_eq_true rfl) rfl rfl ?_
        refine r_goto 227 hE dX9_ahead_251 (by decide) ?_
        exact ih227 b (e + 1) (by first | exact hb | exact ⟨hbe, by omega, hin, hqt1⟩) (by omega) (by first | exact hs2 | rfl) (by omega)
  have cut131 : ∀ (N : Nat) (b : Int) (e : Int) (v : Int), (b = skp tt msz men ∧ 0 ≤ b ∧ b < msz ∧ 48 ≤ tt b ∧ tt b ≤ 57) → (b ≤ e ∧ e ≤ msz) → (dgE tt msz b = dgE tt msz e) → (0 ≤ v ∧ v ≤ 99999) → ((e - b = 0 → v = 0) ∧ (e - b = 1 → v ≤ 9) ∧ (e - b = 2 → v ≤ 99) ∧ (e - b = 3 → v ≤ 999)) → (e - b ≤ 4 → v = dcN tt b (e - b).toNat) → (msz - e).toNat < N → G g E 2 0 0 [(wMo g mo mst mac mmk mr mrd mrm mcm mtp msz mtk b e mbg v mft mfp mfk mdp mto), (wMTxt g mo tt)] 131 [(0, .ref (mo 0))] [] := by
    intro N
    induction N with
    | zero => intro b e v _ _ _ _ _ _ hN; exact absurd hN (Nat.not_lt_zero _)
    | succ N ih131 =>
      intro b e v hb hee hs hvv hd hdc hN
      have hb9 := mbA_rg hB msz e
      refine r_aload_n 132 hE 0 dX9_ahead_131 rfl rfl rfl ?_
      refine r_aload_n 133 hE 0 dX9_ahead_132 rfl rfl rfl ?_
      refine r_get 136 hE 0 0 ok9 29 dX9_ahead_133 rfl wd_1081 rfl rfl (by decide) rfl ?_
      refine r_callV 139 hE [0, 1] [] [(wMo g mo mst mac mmk mr mrd mrm mcm mtp msz mtk b e mbg v mft mfp mfk mdp mto), (wMTxt g mo tt)] [] 0 9 ok9 [] (c_X9_byteAt (hB) (by omega) (by omega)) dX9_ahead_136 rfl rfl wd_1198 wd_1200 ws_50 wd_12 wd_1201 ne_X9 np_X9_byteAt (Nat.le_of_ble_eq_true rfl)  (by decide) (by decide) rfl (Nat.le_of_ble_eq_true rfl) rfl rfl rfl rfl (by decide) rfl (fun v1 f1 hp => ?_)
      obtain ⟨rfl, rfl⟩ := hp
      show G g E _ _ _ [(wMo g mo mst mac mmk mr mrd mrm mcm mtp msz mtk b e mbg v mft mfp mfk mdp mto), (wMTxt g mo tt)] 139 [(0, .ref (mo 0))] [.int (iI (mbA tt msz e))]
      refine r_callS 142 hE [] [0, 1] [] [(wMo g mo mst mac mmk mr mrd mrm mcm mtp msz mtk b e mbg v mft mfp mfk mdp mto), (wMTxt g mo tt)] [] (c_X9_isDigit (by omega)) dX9_ahead_139 rfl wd_1205 wd_1206 wd_12 wd_1207 ne_X9 np_X9_isDigit (Nat.le_of_ble_eq_true rfl)  (by decide) (by decide) rfl (Nat.le_of_ble_eq_true rfl) rfl rfl rfl rfl (by decide) (fun v1 f1 hp => ?_)
      obtain ⟨rfl, rfl⟩ := hp
      show G g E _ _ _ [(wMo g mo mst mac mmk mr mrd mrm mcm mtp msz mtk b e mbg v mft mfp mfk mdp mto), (wMTxt g mo tt)] 142 [(0, .ref (mo 0))] [.int (iI (bI (48 ≤ (mbA tt msz e) ∧ (mbA tt msz e) ≤ 57)))]
      refine r_if_eq 145 186 hE dX9_ahead_142 rfl (by decide) (bI_rg _) (fun c142 => ?_) (fun c142 => ?_)
      · skip
        have c142 := bI0 c142
        have hst : dgE tt msz b = e := by
          rw [hs]
          refine dg_stop ?_
          by_cases z : e < msz
          · exact Or.inr (fun w => c142 ((mbA_iff hB (by omega)).mpr ⟨z, w⟩))
          · exact Or.inl (by omega)
        refine r_aload_n 187 hE 0 dX9_ahead_186 rfl rfl rfl ?_
        refine r_aload_n 188 hE 0 dX9_ahead_187 rfl rfl rfl ?_
        refine r_get 191 hE 0 0 ok9 29 dX9_ahead_188 rfl wd_1081 rfl rfl (by decide) rfl ?_
        refine r_aload_n 192 hE 0 dX9_ahead_191 rfl rfl rfl ?_
        refine r_get 195 hE 0 0 ok9 28 dX9_ahead_192 rfl wd_1080 rfl rfl (by decide) rfl ?_
        refine r_isub 196 hE (e - b) dX9_ahead_195 rfl rfl ?_
        refine r_iconst 197 hE dX9_ahead_196 rfl ?_
        refine r_icmp_le 200 204 hE dX9_ahead_197 rfl (by decide) (by omega) (fun c197 => ?_) (fun c197 => ?_)
        · skip
          have hfin := ah_dg (tk := 3) hb.1 hb.2.2.1 hb.2.2.2 hst hv hdc (Or.inl ⟨c197, rfl⟩)
          refine r_iconst 205 hE dX9_ahead_204 rfl ?_
          refine r_put 208 hE 0 0 ok9 27 (wMo g mo mst mac mmk mr mrd mrm mcm mtp msz 3 b e mbg v mft mfp mfk mdp mto) [(wMo g mo mst mac mmk mr mrd mrm mcm mtp msz 3 b e mbg v mft mfp mfk mdp mto), (wMTxt g mo tt)] dX9_ahead_205 rfl wd_1079 rfl rfl (by decide) rfl rfl rfl (Nat.le_of_ble_eq_true rfl) rfl rfl ?_
          refine r_goto 328 hE dX9_ahead_208 (by decide) ?_
          refine r_return hE hR [(wMo g mo mst mac mmk mr mrd mrm mcm mtp msz 3 b e mbg v mft mfp mfk mdp mto), (wMTxt g mo tt)] dX9_ahead_328 (Nat.le_of_ble_eq_true rfl) (Nat.le_of_ble_eq_true rfl) rfl ?_
          exact ⟨_, _, _, _, rfl, rfl, hfin⟩
        · skip
          have hfin := ah_dg (tk := 1) hb.1 hb.2.2.1 hb.2.2.2 hst hv hdc (Or.inr ⟨by omega, rfl⟩)
          refine r_iconst 201 hE dX9_ahead_200 rfl ?_
          refine r_goto 205 hE dX9_ahead_201 (by decide) ?_
          refine r_put 208 hE 0 0 ok9 27 (wMo g mo mst mac mmk mr mrd mrm mcm mtp msz 1 b e mbg v mft mfp mfk mdp mto) [(wMo g mo mst mac mmk mr mrd mrm mcm mtp msz 1 b e mbg v mft mfp mfk mdp mto), (wMTxt g mo tt)] dX9_ahead_205 rfl wd_1079 rfl rfl (by decide) rfl rfl rfl (Nat.le_of_ble_eq_true rfl) rfl rfl ?_
          refine r_goto 328 hE dX9_ahead_208 (by decide) ?_
          refine r_return hE hR [(wMo g mo mst mac mmk mr mrd mrm mcm mtp msz 1 b e mbg v mft mfp mfk mdp mto), (wMTxt g mo tt)] dX9_ahead_328 (Nat.le_of_ble_eq_true rfl) (Nat.le_of_ble_eq_true rfl) rfl ?_
          exact ⟨_, _, _, _, rfl, rfl, hfin⟩
      · skip
        have c142 := bI1 c142
        have hx := (mbA_iff hB (by omega)).mp c142
        have hm9 : mbA tt msz e = tt e := (mbA_eq hB (c := tt e) (by omega)).mpr ⟨hx.1, rfl⟩
        have hs2 : dgE tt msz b = dgE tt msz (e + 1) := by rw [hs]; exact dg_step hx.1 hx.2
        have hdc2 : e + 1 - b ≤ 4 → min 99999 (10 * v + mbA tt msz e - 48) = dcN tt b (e + 1 - b).toNat := fun z => by rw [dcN_next hee.1, ← hdc (by omega), hm9]; omega
        refine r_aload_n 146 hE 0 dX9_ahead_145 rfl rfl rfl ?_
        refine r_ldc 148 hE dX9_ahead_146 rfl wd_1208 (by decide : _ = iI 99999) ?_
        refine r_bipush 150 hE dX9_ahead_148 rfl (by decide) ?_
        refine r_aload_n 151 hE 0 dX9_ahead_150 rfl rfl rfl ?_
        refine r_get 154 hE 0 0 ok9 31 dX9_ahead_151 rfl wd_1083 rfl rfl (by decide) rfl ?_
        refine r_imul 155 hE (10 * v) dX9_ahead_154 rfl rfl ?_
        refine r_aload_n 156 hE 0 dX9_ahead_155 rfl rfl rfl ?_
        refine r_aload_n 157 hE 0 dX9_ahead_156 rfl rfl rfl ?_
        refine r_get 160 hE 0 0 ok9 29 dX9_ahead_157 rfl wd_1081 rfl rfl (by decide) rfl ?_
        refine r_callV 163 hE [0, 1] [] [(wMo g mo mst mac mmk mr mrd mrm mcm mtp msz mtk b e mbg v mft mfp mfk mdp mto), (wMTxt g mo tt)] [] 0 9 ok9 [.int (iI (10 * v)), .int (iI 99999), .ref (mo 0)] (c_X9_byteAt (hB) (by omega) (by omega)) dX9_ahead_160 rfl rfl wd_1198 wd_1200 ws_50 wd_12 wd_1201 ne_X9 np_X9_byteAt (Nat.le_of_ble_eq_true rfl)  (by decide) (by decide) rfl (Nat.le_of_ble_eq_true rfl) rfl rfl rfl rfl (by decide) rfl (fun v1 f1 hp => ?_)
        obtain ⟨rfl, rfl⟩ := hp
        show G g E _ _ _ [(wMo g mo mst mac mmk mr mrd mrm mcm mtp msz mtk b e mbg v mft mfp mfk mdp mto), (wMTxt g mo tt)] 163 [(0, .ref (mo 0))] [.int (iI (mbA tt msz e)), .int (iI (10 * v)), .int (iI 99999), .ref (mo 0)]
        refine r_iadd 164 hE ((10 * v) + (mbA tt msz e)) dX9_ahead_163 rfl rfl ?_
        refine r_bipush 166 hE dX9_ahead_164 rfl (by decide) ?_
        refine r_isub 167 hE (((10 * v) + (mbA tt msz e)) - 48) dX9_ahead_166 rfl rfl ?_
        refine r_min 170 hE dX9_ahead_167 rfl wd_1209 wd_360 wd_6 wd_361 (Nat.le_of_ble_eq_true rfl) (by decide) (by decide) (Nat.le_of_ble_eq_true rfl) (by omega) ?_
        refine r_put 173 hE 0 0 ok9 31 (wMo g mo mst mac mmk mr mrd mrm mcm mtp msz mtk b e mbg (min 99999 (((10 * v) + (mbA tt msz e)) - 48)) mft mfp mfk mdp mto) [(wMo g mo mst mac mmk mr mrd mrm mcm mtp msz mtk b e mbg (min 99999 (((10 * v) + (mbA tt msz e)) - 48)) mft mfp mfk mdp mto), (wMTxt g mo tt)] dX9_ahead_170 rfl wd_1083 rfl rfl (by decide) rfl rfl rfl (Nat.le_of_ble_eq_true rfl) rfl rfl ?_
        refine r_aload_n 174 hE 0 dX9_ahead_173 rfl rfl rfl ?_
        refine r_dup 175 hE dX9_ahead_174 rfl rfl ?_
        refine r_get 178 hE 0 0 ok9 29 dX9_ahead_175 rfl wd_1081 rfl rfl (by decide) rfl ?_
        refine r_iconst 179 hE dX9_ahead_178 rfl ?_
        refine r_iadd 180 hE (e + 1) dX9_ahead_179 rfl rfl ?_
        refine r_put 183 hE 0 0 ok9 29 (wMo g mo mst mac mmk mr mrd mrm mcm mtp msz mtk b (e + 1) mbg (min 99999 (((10 * v) + (mbA tt msz e)) - 48)) mft mfp mfk mdp mto) [(wMo g mo mst mac mmk mr mrd mrm mcm mtp msz mtk b (e + 1) mbg (min 99999 (((10 * v) + (mbA tt msz e)) - 48)) mft mfp mfk mdp mto), (wMTxt g mo tt)] dX9_ahead_180 rfl wd_1081 rfl rfl (by decide) rfl rfl rfl (Nat.le_of_ble_eq_true rfl) rfl rfl ?_
        refine r_goto 131 hE dX9_ahead_183 (by decide) ?_
        exact ih131 b (e + 1) (min 99999 (((10 * v) + (mbA tt msz e)) - 48)) (by first | exact hb | exact ⟨hbe, by omega, hin, hdg1⟩) (by omega) (by first | exact hs2 | rfl) (by omega) (by omega) (by first | exact hdc2 | (intro _; rw [Int.sub_self]; rfl)) (by omega)
  have cut84 : ∀ (N : Nat) (b : Int) (e : Int), (b = skp tt msz men ∧ 0 ≤ b ∧ b < msz ∧ 97 ≤ tt b ∧ tt b ≤ 122) → (b ≤ e ∧ e ≤ msz) → (smE tt msz b = smE tt msz e) → (msz - e).toNat < N → G g E 2 0 0 [(wMo g mo mst mac mmk mr mrd mrm mcm mtp msz mtk b e mbg mvl mft mfp mfk mdp mto), (wMTxt g mo tt)] 84 [(0, .ref (mo 0))] [] := by
    intro N
    induction N with
    | zero => intro b e _ _ _ hN; exact absurd hN (Nat.not_lt_zero _)
    | succ N ih84 =>
      intro b e hb hee hs hN
      have hb9 := mbA_rg hB msz e
      refine r_aload_n 85 hE 0 dX9_ahead_84 rfl rfl rfl ?_
      refine r_aload_n 86 hE 0 dX9_ahead_85 rfl rfl rfl ?_
      refine r_get 89 hE 0 0 ok9 29 dX9_ahead_86 rfl wd_1081 rfl rfl (by decide) rfl ?_
      refine r_callV 92 hE [0, 1] [] [(wMo g mo mst mac mmk mr mrd mrm mcm mtp msz mtk b e mbg mvl mft mfp mfk mdp mto), (wMTxt g mo tt)] [] 0 9 ok9 [] (c_X9_byteAt (hB) (by omega) (by omega)) dX9_ahead_89 rfl rfl wd_1198 wd_1200 ws_50 wd_12 wd_1201 ne_X9 np_X9_byteAt (Nat.le_of_ble_eq_true rfl)  (by decide) (by decide) rfl (Nat.le_of_ble_eq_true rfl) rfl rfl rfl rfl (by decide) rfl (fun v1 f1 hp => ?_)
      obtain ⟨rfl, rfl⟩ := hp
      show G g E _ _ _ [(wMo g mo mst mac mmk mr mrd mrm mcm mtp msz mtk b e mbg mvl mft mfp mfk mdp mto), (wMTxt g mo tt)] 92 [(0, .ref (mo 0))] [.int (iI (mbA tt msz e))]
      refine r_callS 95 hE [] [0, 1] [] [(wMo g mo mst mac mmk mr mrd mrm mcm mtp msz mtk b e mbg mvl mft mfp mfk mdp mto), (wMTxt g mo tt)] [] (c_X9_isSmall (by omega)) dX9_ahead_92 rfl wd_1202 wd_1203 wd_12 wd_1204 ne_X9 np_X9_isSmall (Nat.le_of_ble_eq_true rfl)  (by decide) (by decide) rfl (Nat.le_of_ble_eq_true rfl) rfl rfl rfl rfl (by decide) (fun v1 f1 hp => ?_)
      obtain ⟨rfl, rfl⟩ := hp
      show G g E _ _ _ [(wMo g mo mst mac mmk mr mrd mrm mcm mtp msz mtk b e mbg mvl mft mfp mfk mdp mto), (wMTxt g mo tt)] 95 [(0, .ref (mo 0))] [.int (iI (bI (97 ≤ (mbA tt msz e) ∧ (mbA tt msz e) ≤ 122)))]
      refine r_if_eq 98 111 hE dX9_ahead_95 rfl (by decide) (bI_rg _) (fun c95 => ?_) (fun c95 => ?_)
      · skip
        have c95 := bI0 c95
        have hst : smE tt msz b = e := by
          rw [hs]
          refine sm_stop ?_
          by_cases z : e < msz
          · exact Or.inr (fun w => c95 ((mbA_iff hB (by omega)).mpr ⟨z, w⟩))
          · exact Or.inl (by omega)
        have hfin := ah_sm (v := mvl) hb.1 hb.2.2.1 hb.2.2.2 hst hv
        refine r_aload_n 112 hE 0 dX9_ahead_111 rfl rfl rfl ?_
        refine r_iconst 113 hE dX9_ahead_112 rfl ?_
        refine r_put 116 hE 0 0 ok9 27 (wMo g mo mst mac mmk mr mrd mrm mcm mtp msz 2 b e mbg mvl mft mfp mfk mdp mto) [(wMo g mo mst mac mmk mr mrd mrm mcm mtp msz 2 b e mbg mvl mft mfp mfk mdp mto), (wMTxt g mo tt)] dX9_ahead_113 rfl wd_1079 rfl rfl (by decide) rfl rfl rfl (Nat.le_of_ble_eq_true rfl) rfl rfl ?_
        refine r_goto 328 hE dX9_ahead_116 (by decide) ?_
        refine r_return hE hR [(wMo g mo mst mac mmk mr mrd mrm mcm mtp msz 2 b e mbg mvl mft mfp mfk mdp mto), (wMTxt g mo tt)] dX9_ahead_328 (Nat.le_of_ble_eq_true rfl) (Nat.le_of_ble_eq_true rfl) rfl ?_
        exact ⟨_, _, _, _, rfl, rfl, hfin⟩
      · skip
        have c95 := bI1 c95
        have hx := (mbA_iff hB (by omega)).mp c95
        have hs2 : smE tt msz b = smE tt msz (e + 1) := by rw [hs]; exact sm_step hx.1 hx.2
        refine r_aload_n 99 hE 0 dX9_ahead_98 rfl rfl rfl ?_
        refine r_dup 100 hE dX9_ahead_99 rfl rfl ?_
        refine r_get 103 hE 0 0 ok9 29 dX9_ahead_100 rfl wd_1081 rfl rfl (by decide) rfl ?_
        refine r_iconst 104 hE dX9_ahead_103 rfl ?_
        refine r_iadd 105 hE (e + 1) dX9_ahead_104 rfl rfl ?_
        refine r_put 108 hE 0 0 ok9 29 (wMo g mo mst mac mmk mr mrd mrm mcm mtp msz mtk b (e + 1) mbg mvl mft mfp mfk mdp mto) [(wMo g mo mst mac mmk mr mrd mrm mcm mtp msz mtk b (e + 1) mbg mvl mft mfp mfk mdp mto), (wMTxt g mo tt)] dX9_ahead_105 rfl wd_1081 rfl rfl (by decide) rfl rfl rfl (Nat.le_of_ble_eq_true rfl) rfl rfl ?_
        refine r_goto 84 hE dX9_ahead_108 (by decide) ?_
        exact ih84 b (e + 1) (by first | exact hb | exact ⟨hbe, by omega, hin, hsm1⟩) (by omega) (by first | exact hs2 | rfl) (by omega)
  have cut8 : ∀ (N : Nat) (e : Int), (men ≤ e ∧ e ≤ msz) → (skp tt msz men = skp tt msz e) → (msz - e).toNat < N → G g E 2 0 0 [(wMo g mo mst mac mmk mr mrd mrm mcm mtp msz mtk mbg e mbg mvl mft mfp mfk mdp mto), (wMTxt g mo tt)] 8 [(0, .ref (mo 0))] [] := by
    intro N
    induction N with
    | zero => intro e _ _ hN; exact absurd hN (Nat.not_lt_zero _)
    | succ N ih8 =>
      intro e hee hs hN
      have hb9 := mbA_rg hB msz e
      refine r_aload_n 9 hE 0 dX9_ahead_8 rfl rfl rfl ?_
      refine r_aload_n 10 hE 0 dX9_ahead_9 rfl rfl rfl ?_
      refine r_get 13 hE 0 0 ok9 29 dX9_ahead_10 rfl wd_1081 rfl rfl (by decide) rfl ?_
      refine r_callV 16 hE [0, 1] [] [(wMo g mo mst mac mmk mr mrd mrm mcm mtp msz mtk mbg e mbg mvl mft mfp mfk mdp mto), (wMTxt g mo tt)] [] 0 9 ok9 [] (c_X9_byteAt (hB) (by omega) (by omega)) dX9_ahead_13 rfl rfl wd_1198 wd_1200 ws_50 wd_12 wd_1201 ne_X9 np_X9_byteAt (Nat.le_of_ble_eq_true rfl)  (by decide) (by decide) rfl (Nat.le_of_ble_eq_true rfl) rfl rfl rfl rfl (by decide) rfl (fun v1 f1 hp => ?_)
      obtain ⟨rfl, rfl⟩ := hp
      show G g E _ _ _ [(wMo g mo mst mac mmk mr mrd mrm mcm mtp msz mtk mbg e mbg mvl mft mfp mfk mdp mto), (wMTxt g mo tt)] 16 [(0, .ref (mo 0))] [.int (iI (mbA tt msz e))]
      refine r_bipush 18 hE dX9_ahead_16 rfl (by decide) ?_
      refine r_icmp_eq 21 34 hE dX9_ahead_18 rfl (by decide) (by omega) (fun c18 => ?_) (fun c18 => ?_)
      · skip
        have hx := (mbA_eq hB (by omega)).mp c18
        have hs2 : skp tt msz men = skp tt msz (e + 1) := by rw [hs]; exact bl_step hx.1 (Or.inl hx.2)
        refine r_aload_n 35 hE 0 dX9_ahead_34 rfl rfl rfl ?_
        refine r_dup 36 hE dX9_ahead_35 rfl rfl ?_
        refine r_get 39 hE 0 0 ok9 29 dX9_ahead_36 rfl wd_1081 rfl rfl (by decide) rfl ?_
        refine r_iconst 40 hE dX9_ahead_39 rfl ?_
        refine r_iadd 41 hE (e + 1) dX9_ahead_40 rfl rfl ?_
        refine r_put 44 hE 0 0 ok9 29 (wMo g mo mst mac mmk mr mrd mrm mcm mtp msz mtk mbg (e + 1) mbg mvl mft mfp mfk mdp mto) [(wMo g mo mst mac mmk mr mrd mrm mcm mtp msz mtk mbg (e + 1) mbg mvl mft mfp mfk mdp mto), (wMTxt g mo tt)] dX9_ahead_41 rfl wd_1081 rfl rfl (by decide) rfl rfl rfl (Nat.le_of_ble_eq_true rfl) rfl rfl ?_
        refine r_goto 8 hE dX9_ahead_44 (by decide) ?_
        exact ih8 (e + 1) (by omega) (by first | exact hs2 | rfl) (by omega)
      · skip
        refine r_aload_n 22 hE 0 dX9_ahead_21 rfl rfl rfl ?_
        refine r_aload_n 23 hE 0 dX9_ahead_22 rfl rfl rfl ?_
        refine r_get 26 hE 0 0 ok9 29 dX9_ahead_23 rfl wd_1081 rfl rfl (by decide) rfl ?_
        refine r_callV 29 hE [0, 1] [] [(wMo g mo mst mac mmk mr mrd mrm mcm mtp msz mtk mbg e mbg mvl mft mfp mfk mdp mto), (wMTxt g mo tt)] [] 0 9 ok9 [] (c_X9_byteAt (hB) (by omega) (by omega)) dX9_ahead_26 rfl rfl wd_1198 wd_1200 ws_50 wd_12 wd_1201 ne_X9 np_X9_byteAt (Nat.le_of_ble_eq_true rfl)  (by decide) (by decide) rfl (Nat.le_of_ble_eq_true rfl) rfl rfl rfl rfl (by decide) rfl (fun v1 f1 hp => ?_)
        obtain ⟨rfl, rfl⟩ := hp
        show G g E _ _ _ [(wMo g mo mst mac mmk mr mrd mrm mcm mtp msz mtk mbg e mbg mvl mft mfp mfk mdp mto), (wMTxt g mo tt)] 29 [(0, .ref (mo 0))] [.int (iI (mbA tt msz e))]
        refine r_bipush 31 hE dX9_ahead_29 rfl (by decide) ?_
        refine r_icmp_ne 34 47 hE dX9_ahead_31 rfl (by decide) (by omega) (fun c31 => ?_) (fun c31 => ?_)
        · skip
          have hbe : e = skp tt msz men := by
            rw [hs]
            refine (bl_stop ?_).symm
            by_cases z : e < msz
            · exact Or.inr (fun w => w.elim (fun y => c18 ((mbA_eq hB (by omega)).mpr ⟨z, y⟩)) (fun y => c31 ((mbA_eq hB (by omega)).mpr ⟨z, y⟩)))
            · exact Or.inl (by omega)
          refine r_aload_n 48 hE 0 dX9_ahead_47 rfl rfl rfl ?_
          refine r_aload_n 49 hE 0 dX9_ahead_48 rfl rfl rfl ?_
          refine r_get 52 hE 0 0 ok9 29 dX9_ahead_49 rfl wd_1081 rfl rfl (by decide) rfl ?_
          refine r_put 55 hE 0 0 ok9 28 (wMo g mo mst mac mmk mr mrd mrm mcm mtp msz mtk e e mbg mvl mft mfp mfk mdp mto) [(wMo g mo mst mac mmk mr mrd mrm mcm mtp msz mtk e e mbg mvl mft mfp mfk mdp mto), (wMTxt g mo tt)] dX9_ahead_52 rfl wd_1080 rfl rfl (by decide) rfl rfl rfl (Nat.le_of_ble_eq_true rfl) rfl rfl ?_
          refine r_aload_n 56 hE 0 dX9_ahead_55 rfl rfl rfl ?_
          refine r_aload_n 57 hE 0 dX9_ahead_56 rfl rfl rfl ?_
          refine r_get 60 hE 0 0 ok9 29 dX9_ahead_57 rfl wd_1081 rfl rfl (by decide) rfl ?_
          refine r_callV 63 hE [0, 1] [] [(wMo g mo mst mac mmk mr mrd mrm mcm mtp msz mtk e e mbg mvl mft mfp mfk mdp mto), (wMTxt g mo tt)] [] 0 9 ok9 [] (c_X9_byteAt (hB) (by omega) (by omega)) dX9_ahead_60 rfl rfl wd_1198 wd_1200 ws_50 wd_12 wd_1201 ne_X9 np_X9_byteAt (Nat.le_of_ble_eq_true rfl)  (by decide) (by decide) rfl (Nat.le_of_ble_eq_true rfl) rfl rfl rfl rfl (by decide) rfl (fun v1 f1 hp => ?_)
          obtain ⟨rfl, rfl⟩ := hp
          show G g E _ _ _ [(wMo g mo mst mac mmk mr mrd mrm mcm mtp msz mtk e e mbg mvl mft mfp mfk mdp mto), (wMTxt g mo tt)] 63 [(0, .ref (mo 0))] [.int (iI (mbA tt msz e))]
          refine r_istore_n 64 hE [(1, .int (iI (mbA tt msz e))), (0, .ref (mo 0))] dX9_ahead_63 rfl rfl (by decide) rfl ?_
          refine r_iload_n 65 hE 0 dX9_ahead_64 rfl rfl rfl ?_
          refine r_iconst 66 hE dX9_ahead_65 rfl ?_
          refine r_icmp_ne 69 77 hE dX9_ahead_66 rfl (by decide) (by omega) (fun c66 => ?_) (fun c66 => ?_)
          · skip
            have hin := mbA_in hB c66
            refine r_iload_n 78 hE 0 dX9_ahead_77 rfl rfl rfl ?_
            refine r_callS 81 hE [] [0, 1] [] [(wMo g mo mst mac mmk mr mrd mrm mcm mtp msz mtk e e mbg mvl mft mfp mfk mdp mto), (wMTxt g mo tt)] [] (c_X9_isSmall (by omega)) dX9_ahead_78 rfl wd_1202 wd_1203 wd_12 wd_1204 ne_X9 np_X9_isSmall (Nat.le_of_ble_eq_true rfl)  (by decide) (by decide) rfl (Nat.le_of_ble_eq_true rfl) rfl rfl rfl rfl (by decide) (fun v1 f1 hp => ?_)
            obtain ⟨rfl, rfl⟩ := hp
            show G g E _ _ _ [(wMo g mo mst mac mmk mr mrd mrm mcm mtp msz mtk e e mbg mvl mft mfp mfk mdp mto), (wMTxt g mo tt)] 81 [(1, .int (iI (mbA tt msz e))), (0, .ref (mo 0))] [.int (iI (bI (97 ≤ (mbA tt msz e) ∧ (mbA tt msz e) ≤ 122)))]
            refine r_if_eq 84 119 hE dX9_ahead_81 rfl (by decide) (bI_rg _) (fun c81 => ?_) (fun c81 => ?_)
            · skip
              have c81 := bI0 c81
              have hsn : ¬ (97 ≤ tt e ∧ tt e ≤ 122) := fun z => c81 ((mbA_iff hB (by omega)).mpr ⟨hin, z⟩)
              refine r_iload_n 120 hE 0 dX9_ahead_119 rfl rfl rfl ?_
              refine r_callS 123 hE [] [0, 1] [] [(wMo g mo mst mac mmk mr mrd mrm mcm mtp msz mtk e e mbg mvl mft mfp mfk mdp mto), (wMTxt g mo tt)] [] (c_X9_isDigit (by omega)) dX9_ahead_120 rfl wd_1205 wd_1206 wd_12 wd_1207 ne_X9 np_X9_isDigit (Nat.le_of_ble_eq_true rfl)  (by decide) (by decide) rfl (Nat.le_of_ble_eq_true rfl) rfl rfl rfl rfl (by decide) (fun v1 f1 hp => ?_)
              obtain ⟨rfl, rfl⟩ := hp
              show G g E _ _ _ [(wMo g mo mst mac mmk mr mrd mrm mcm mtp msz mtk e e mbg mvl mft mfp mfk mdp mto), (wMTxt g mo tt)] 123 [(1, .int (iI (mbA tt msz e))), (0, .ref (mo 0))] [.int (iI (bI (48 ≤ (mbA tt msz e) ∧ (mbA tt msz e) ≤ 57)))]
              refine r_if_eq 126 211 hE dX9_ahead_123 rfl (by decide) (bI_rg _) (fun c123 => ?_) (fun c123 => ?_)
              · skip
                have c123 := bI0 c123
                have hdn : ¬ (48 ≤ tt e ∧ tt e ≤ 57) := fun z => c123 ((mbA_iff hB (by omega)).mpr ⟨hin, z⟩)
                refine r_iload_n 212 hE 0 dX9_ahead_211 rfl rfl rfl ?_
                refine r_bipush 214 hE dX9_ahead_212 rfl (by decide) ?_
                refine r_icmp_ne 217 302 hE dX9_ahead_214 rfl (by decide) (by omega) (fun c214 => ?_) (fun c214 => ?_)
                · skip
                  have hqn : tt e ≠ 34 := fun z => c214 ((mbA_eq hB (by omega)).mpr ⟨hin, z⟩)
                  refine r_aload_n 303 hE 1 dX9_ahead_302 rfl rfl rfl ?_
                  refine r_dup 304 hE dX9_ahead_303 rfl rfl ?_
                  refine r_get 307 hE 0 0 ok9 29 dX9_ahead_304 rfl wd_1081 rfl rfl (by decide) rfl ?_
                  refine r_iconst 308 hE dX9_ahead_307 rfl ?_
                  refine r_iadd 309 hE (e + 1) dX9_ahead_308 rfl rfl ?_
                  refine r_put 312 hE 0 0 ok9 29 (wMo g mo mst mac mmk mr mrd mrm mcm mtp msz mtk e (e + 1) mbg mvl mft mfp mfk mdp mto) [(wMo g mo mst mac mmk mr mrd mrm mcm mtp msz mtk e (e + 1) mbg mvl mft mfp mfk mdp mto), (wMTxt g mo tt)] dX9_ahead_309 rfl wd_1081 rfl rfl (by decide) rfl rfl rfl (Nat.le_of_ble_eq_true rfl) rfl rfl ?_
                  refine r_aload_n 313 hE 1 dX9_ahead_312 rfl rfl rfl ?_
                  refine r_iload_n 314 hE 0 dX9_ahead_313 rfl rfl rfl ?_
                  refine r_callS 317 hE [] [0, 1] [] [(wMo g mo mst mac mmk mr mrd mrm mcm mtp msz mtk e (e + 1) mbg mvl mft mfp mfk mdp mto), (wMTxt g mo tt)] [.ref (mo 0)] (c_X9_isSignOf (by omega)) dX9_ahead_314 rfl wd_1210 wd_1211 wd_12 wd_1212 ne_X9 np_X9_isSignOf (Nat.le_of_ble_eq_true rfl)  (by decide) (by decide) rfl (Nat.le_of_ble_eq_true rfl) rfl rfl rfl rfl (by decide) (fun v1 f1 hp => ?_)
                  obtain ⟨rfl, rfl⟩ := hp
                  show G g E _ _ _ [(wMo g mo mst mac mmk mr mrd mrm mcm mtp msz mtk e (e + 1) mbg mvl mft mfp mfk mdp mto), (wMTxt g mo tt)] 317 [(1, .int (iI (mbA tt msz e))), (0, .ref (mo 0))] [.int (iI (bI (isSg (mbA tt msz e)))), .ref (mo 0)]
                  refine r_if_eq 320 324 hE dX9_ahead_317 rfl (by decide) (bI_rg _) (fun c317 => ?_) (fun c317 => ?_)
                  · skip
                    have c317 := bI0 c317
                    have hfin := ah_sg (v := mvl) (tk := 1) hB hbe hin hsn hdn hqn hv (Or.inr ⟨c317, rfl⟩)
                    refine r_iconst 325 hE dX9_ahead_324 rfl ?_
                    refine r_put 328 hE 0 0 ok9 27 (wMo g mo mst mac mmk mr mrd mrm mcm mtp msz 1 e (e + 1) mbg mvl mft mfp mfk mdp mto) [(wMo g mo mst mac mmk mr mrd mrm mcm mtp msz 1 e (e + 1) mbg mvl mft mfp mfk mdp mto), (wMTxt g mo tt)] dX9_ahead_325 rfl wd_1079 rfl rfl (by decide) rfl rfl rfl (Nat.le_of_ble_eq_true rfl) rfl rfl ?_
                    refine r_return hE hR [(wMo g mo mst mac mmk mr mrd mrm mcm mtp msz 1 e (e + 1) mbg mvl mft mfp mfk mdp mto), (wMTxt g mo tt)] dX9_ahead_328 (Nat.le_of_ble_eq_true rfl) (Nat.le_of_ble_eq_true rfl) rfl ?_
                    exact ⟨_, _, _, _, rfl, rfl, hfin⟩
                  · skip
                    have c317 := bI1 c317
                    have hfin := ah_sg (v := mvl) (tk := 5) hB hbe hin hsn hdn hqn hv (Or.inl ⟨c317, rfl⟩)
                    refine r_iconst 321 hE dX9_ahead_320 rfl ?_
                    refine r_goto 325 hE dX9_ahead_321 (by decide) ?_
                    refine r_put 328 hE 0 0 ok9 27 (wMo g mo mst mac mmk mr mrd mrm mcm mtp msz 5 e (e + 1) mbg mvl mft mfp mfk mdp mto) [(wMo g mo mst mac mmk mr mrd mrm mcm mtp msz 5 e (e + 1) mbg mvl mft mfp mfk mdp mto), (wMTxt g mo tt)] dX9_ahead_325 rfl wd_1079 rfl rfl (by decide) rfl rfl rfl (Nat.le_of_ble_eq_true rfl) rfl rfl ?_
                    refine r_return hE hR [(wMo g mo mst mac mmk mr mrd mrm mcm mtp msz 5 e (e + 1) mbg mvl mft mfp mfk mdp mto), (wMTxt g mo tt)] dX9_ahead_328 (Nat.le_of_ble_eq_true rfl) (Nat.le_of_ble_eq_true rfl) rfl ?_
                    exact ⟨_, _, _, _, rfl, rfl, hfin⟩
                · skip
                  have hqt1 := ((mbA_eq hB (by omega)).mp c214).2
                  refine r_aload_n 218 hE 1 dX9_ahead_217 rfl rfl rfl ?_
                  refine r_dup 219 hE dX9_ahead_218 rfl rfl ?_
                  refine r_get 222 hE 0 0 ok9 29 dX9_ahead_219 rfl wd_1081 rfl rfl (by decide) rfl ?_
                  refine r_iconst 223 hE dX9_ahead_222 rfl ?_
                  refine r_iadd 224 hE (e + 1) dX9_ahead_223 rfl rfl ?_
                  refine r_put 227 hE 0 0 ok9 29 (wMo g mo mst mac mmk mr mrd mrm mcm mtp msz mtk e (e + 1) mbg mvl mft mfp mfk mdp mto) [(wMo g mo mst mac mmk mr mrd mrm mcm mtp msz mtk e (e + 1) mbg mvl mft mfp mfk mdp mto), (wMTxt g mo tt)] dX9_ahead_224 rfl wd_1081 rfl rfl (by decide) rfl rfl rfl (Nat.le_of_ble_eq_true rfl) rfl rfl ?_
                  refine G.to (fs' := [(wMo g mo mst mac mmk mr mrd mrm mcm mtp msz mtk e (e + 1) mbg mvl mft mfp mfk mdp mto), (wMTxt g mo tt)]) (lv' := [(0, .ref (mo 0))]) [0, 1] [1] rfl rfl rfl ?_
                  exact cut227 _ e (e + 1) (by first | exact hb | exact ⟨hbe, by omega, hin, hqt1⟩) (by omega) (by first | exact hs2 | rfl) (Nat.lt_succ_self _)
              · skip
                have c123 := bI1 c123
                have hdg1 := ((mbA_iff hB (by omega)).mp c123).2
                refine r_aload_n 127 hE 1 dX9_ahead_126 rfl rfl rfl ?_
                refine r_iconst 128 hE dX9_ahead_127 rfl ?_
                refine r_put 131 hE 0 0 ok9 31 (wMo g mo mst mac mmk mr mrd mrm mcm mtp msz mtk e e mbg 0 mft mfp mfk mdp mto) [(wMo g mo mst mac mmk mr mrd mrm mcm mtp msz mtk e e mbg 0 mft mfp mfk mdp mto), (wMTxt g mo tt)] dX9_ahead_128 rfl wd_1083 rfl rfl (by decide) rfl rfl rfl (Nat.le_of_ble_eq_true rfl) rfl rfl ?_
                refine G.to (fs' := [(wMo g mo mst mac mmk mr mrd mrm mcm mtp msz mtk e e mbg 0 mft mfp mfk mdp mto), (wMTxt g mo tt)]) (lv' := [(0, .ref (mo 0))]) [0, 1] [1] rfl rfl rfl ?_
                exact cut131 _ e e 0 (by first | exact hb | exact ⟨hbe, by omega, hin, hdg1⟩) (by omega) (by first | exact hs2 | rfl) (by omega) (by omega) (by first | exact hdc2 | (intro _; rw [Int.sub_self]; rfl)) (Nat.lt_succ_self _)
            · skip
              have c81 := bI1 c81
              have hsm1 := ((mbA_iff hB (by omega)).mp c81).2
              refine G.to (fs' := [(wMo g mo mst mac mmk mr mrd mrm mcm mtp msz mtk e e mbg mvl mft mfp mfk mdp mto), (wMTxt g mo tt)]) (lv' := [(0, .ref (mo 0))]) [0, 1] [1] rfl rfl rfl ?_
              exact cut84 _ e e (by first | exact hb | exact ⟨hbe, by omega, hin, hsm1⟩) (by omega) (by first | exact hs2 | rfl) (Nat.lt_succ_self _)
          · skip
            have hout := mbA_no hB c66
            have hfin := ah_end (B := tt) (v := mvl) hbe (by omega) hout hv
            refine r_aload_n 70 hE 1 dX9_ahead_69 rfl rfl rfl ?_
            refine r_iconst 71 hE dX9_ahead_70 rfl ?_
            refine r_put 74 hE 0 0 ok9 27 (wMo g mo mst mac mmk mr mrd mrm mcm mtp msz 0 e e mbg mvl mft mfp mfk mdp mto) [(wMo g mo mst mac mmk mr mrd mrm mcm mtp msz 0 e e mbg mvl mft mfp mfk mdp mto), (wMTxt g mo tt)] dX9_ahead_71 rfl wd_1079 rfl rfl (by decide) rfl rfl rfl (Nat.le_of_ble_eq_true rfl) rfl rfl ?_
            refine r_goto 328 hE dX9_ahead_74 (by decide) ?_
            refine r_return hE hR [(wMo g mo mst mac mmk mr mrd mrm mcm mtp msz 0 e e mbg mvl mft mfp mfk mdp mto), (wMTxt g mo tt)] dX9_ahead_328 (Nat.le_of_ble_eq_true rfl) (Nat.le_of_ble_eq_true rfl) rfl ?_
            exact ⟨_, _, _, _, rfl, rfl, hfin⟩
        · skip
          have hx := (mbA_eq hB (by omega)).mp c31
          have hs2 : skp tt msz men = skp tt msz (e + 1) := by rw [hs]; exact bl_step hx.1 (Or.inr hx.2)
          refine r_aload_n 35 hE 0 dX9_ahead_34 rfl rfl rfl ?_
          refine r_dup 36 hE dX9_ahead_35 rfl rfl ?_
          refine r_get 39 hE 0 0 ok9 29 dX9_ahead_36 rfl wd_1081 rfl rfl (by decide) rfl ?_
          refine r_iconst 40 hE dX9_ahead_39 rfl ?_
          refine r_iadd 41 hE (e + 1) dX9_ahead_40 rfl rfl ?_
          refine r_put 44 hE 0 0 ok9 29 (wMo g mo mst mac mmk mr mrd mrm mcm mtp msz mtk mbg (e + 1) mbg mvl mft mfp mfk mdp mto) [(wMo g mo mst mac mmk mr mrd mrm mcm mtp msz mtk mbg (e + 1) mbg mvl mft mfp mfk mdp mto), (wMTxt g mo tt)] dX9_ahead_41 rfl wd_1081 rfl rfl (by decide) rfl rfl rfl (Nat.le_of_ble_eq_true rfl) rfl rfl ?_
          refine r_goto 8 hE dX9_ahead_44 (by decide) ?_
          exact ih8 (e + 1) (by omega) (by first | exact hs2 | rfl) (by omega)
  refine r_aload_n 1 hE 0 dX9_ahead_0 rfl rfl rfl ?_
  refine r_aload_n 2 hE 0 dX9_ahead_1 rfl rfl rfl ?_
  refine r_get 5 hE 0 0 ok9 28 dX9_ahead_2 rfl wd_1080 rfl rfl (by decide) rfl ?_
  refine r_put 8 hE 0 0 ok9 30 (wMo g mo mst mac mmk mr mrd mrm mcm mtp msz mtk mbg men mbg mvl mft mfp mfk mdp mto) [(wMo g mo mst mac mmk mr mrd mrm mcm mtp msz mtk mbg men mbg mvl mft mfp mfk mdp mto), (wMTxt g mo tt)] dX9_ahead_5 rfl wd_1082 rfl rfl (by decide) rfl rfl rfl (Nat.le_of_ble_eq_true rfl) rfl rfl ?_
  exact cut8 _ men (by omega) (by first | exact hs2 | rfl) (Nat.lt_succ_self _)
set_option maxHeartbeats 4000000 in
set_option maxRecDepth 100000 in
theorem c_X9_failsAt {g : Gm} {mo : Nat → Nat} {mst mac mmk mr mrd mrm mcm mtp msz mtk mbg men mls mvl mft mfp mfk mdp mto : Int} {q p : Int} (hf0 : mft = 0) : Ct g 0 0 0 yX9_failsAt cX9_failsAt 3 (some .boolean) [.ref (mo 0), .int (iI q), .int (iI p)] [(wMo g mo mst mac mmk mr mrd mrm mcm mtp msz mtk mbg men mls mvl mft mfp mfk mdp mto)] (fun v_ w_ => v_ = some (.int (iI 0)) ∧ w_ = [(wMo g mo mst mac mmk mr mrd mrm mcm mtp msz mtk mbg men mls mvl q p mfk mdp mto)]) := by
  refine Ct.of (by decide) (Nat.le_of_ble_eq_true rfl) (lv := [(0, .ref (mo 0)), (1, .int (iI q)), (2, .int (iI p))]) rfl ?_
  intro E hE hR hnm
  refine r_aload_n 1 hE 0 dX9_failsAt_0 rfl rfl rfl ?_
  refine r_get 4 hE 0 0 ok9 32 dX9_failsAt_1 rfl wd_1084 rfl rfl (by decide) rfl ?_
  refine r_if_ne 7 17 hE dX9_failsAt_4 rfl (by decide) (by omega) (fun c4 => ?_) (fun c4 => ?_)
  · skip
    exact absurd hf0 c4
  · skip
    refine r_aload_n 8 hE 0 dX9_failsAt_7 rfl rfl rfl ?_
    refine r_iload_n 9 hE 1 dX9_failsAt_8 rfl rfl rfl ?_
    refine r_put 12 hE 0 0 ok9 32 (wMo g mo mst mac mmk mr mrd mrm mcm mtp msz mtk mbg men mls mvl q mfp mfk mdp mto) [(wMo g mo mst mac mmk mr mrd mrm mcm mtp msz mtk mbg men mls mvl q mfp mfk mdp mto)] dX9_failsAt_9 rfl wd_1084 rfl rfl (by decide) rfl rfl rfl (Nat.le_of_ble_eq_true rfl) rfl rfl ?_
    refine r_aload_n 13 hE 0 dX9_failsAt_12 rfl rfl rfl ?_
    refine r_iload_n 14 hE 2 dX9_failsAt_13 rfl rfl rfl ?_
    refine r_put 17 hE 0 0 ok9 33 (wMo g mo mst mac mmk mr mrd mrm mcm mtp msz mtk mbg men mls mvl q p mfk mdp mto) [(wMo g mo mst mac mmk mr mrd mrm mcm mtp msz mtk mbg men mls mvl q p mfk mdp mto)] dX9_failsAt_14 rfl wd_1085 rfl rfl (by decide) rfl rfl rfl (Nat.le_of_ble_eq_true rfl) rfl rfl ?_
    refine r_iconst 18 hE dX9_failsAt_17 rfl ?_
    refine r_zreturn hE hR [(wMo g mo mst mac mmk mr mrd mrm mcm mtp msz mtk mbg men mls mvl q p mfk mdp mto)] dX9_failsAt_18 (Nat.le_of_ble_eq_true rfl) (Nat.le_of_ble_eq_true rfl) (by decide) rfl ?_
    exact ⟨rfl, rfl⟩
set_option maxHeartbeats 4000000 in
set_option maxRecDepth 100000 in
theorem c_X9_fails {g : Gm} {mo : Nat → Nat} {mst mac mmk mr mrd mrm mcm mtp msz mtk mbg men mls mvl mft mfp mfk mdp mto : Int} {q : Int} (hf0 : mft = 0) (htk : 0 ≤ mtk ∧ mtk ≤ 5) : Ct g 1 0 0 yX9_fails cX9_fails 2 (some .boolean) [.ref (mo 0), .int (iI q)] [(wMo g mo mst mac mmk mr mrd mrm mcm mtp msz mtk mbg men mls mvl mft mfp mfk mdp mto)] (fun v_ w_ => v_ = some (.int (iI 0)) ∧ w_ = [(wMo g mo mst mac mmk mr mrd mrm mcm mtp msz mtk mbg men mls mvl (if mtk = 1 then 1 else q) mbg mfk mdp mto)]) := by
  refine Ct.of (by decide) (Nat.le_of_ble_eq_true rfl) (lv := [(0, .ref (mo 0)), (1, .int (iI q))]) rfl ?_
  intro E hE hR hnm
  refine r_aload_n 1 hE 0 dX9_fails_0 rfl rfl rfl ?_
  refine r_aload_n 2 hE 0 dX9_fails_1 rfl rfl rfl ?_
  refine r_get 5 hE 0 0 ok9 27 dX9_fails_2 rfl wd_1079 rfl rfl (by decide) rfl ?_
  refine r_iconst 6 hE dX9_fails_5 rfl ?_
  refine r_icmp_ne 9 13 hE dX9_fails_6 rfl (by decide) (by omega) (fun c6 => ?_) (fun c6 => ?_)
  · skip
    refine r_iload_n 14 hE 1 dX9_fails_13 rfl rfl rfl ?_
    refine r_aload_n 15 hE 0 dX9_fails_14 rfl rfl rfl ?_
    refine r_get 18 hE 0 0 ok9 28 dX9_fails_15 rfl wd_1080 rfl rfl (by decide) rfl ?_
    refine r_callV 21 hE [0] [] [(wMo g mo mst mac mmk mr mrd mrm mcm mtp msz mtk mbg men mls mvl mft mfp mfk mdp mto)] [] 0 9 ok9 [] (c_X9_failsAt (hf0)) dX9_fails_18 rfl rfl wd_1232 wd_1234 ws_55 wd_12 wd_1235 ne_X9 np_X9_failsAt (Nat.le_of_ble_eq_true rfl)  (by decide) (by decide) rfl (Nat.le_of_ble_eq_true rfl) rfl rfl rfl rfl (by decide) rfl (fun v1 f1 hp => ?_)
    obtain ⟨rfl, rfl⟩ := hp
    show G g E _ _ _ [(wMo g mo mst mac mmk mr mrd mrm mcm mtp msz mtk mbg men mls mvl q mbg mfk mdp mto)] 21 [(0, .ref (mo 0)), (1, .int (iI q))] [.int (iI 0)]
    refine r_zreturn hE hR [(wMo g mo mst mac mmk mr mrd mrm mcm mtp msz mtk mbg men mls mvl q mbg mfk mdp mto)] dX9_fails_21 (Nat.le_of_ble_eq_true rfl) (Nat.le_of_ble_eq_true rfl) (by decide) rfl ?_
    first
      | exact ⟨rfl, by rw [if_pos c6]⟩
      | exact ⟨rfl, by rw [if_neg c6]⟩
  · skip
    refine r_iconst 10 hE dX9_fails_9 rfl ?_
    refine r_goto 14 hE dX9_fails_10 (by decide) ?_
    refine r_aload_n 15 hE 0 dX9_fails_14 rfl rfl rfl ?_
    refine r_get 18 hE 0 0 ok9 28 dX9_fails_15 rfl wd_1080 rfl rfl (by decide) rfl ?_
    refine r_callV 21 hE [0] [] [(wMo g mo mst mac mmk mr mrd mrm mcm mtp msz mtk mbg men mls mvl mft mfp mfk mdp mto)] [] 0 9 ok9 [] (c_X9_failsAt (hf0)) dX9_fails_18 rfl rfl wd_1232 wd_1234 ws_55 wd_12 wd_1235 ne_X9 np_X9_failsAt (Nat.le_of_ble_eq_true rfl)  (by decide) (by decide) rfl (Nat.le_of_ble_eq_true rfl) rfl rfl rfl rfl (by decide) rfl (fun v1 f1 hp => ?_)
    obtain ⟨rfl, rfl⟩ := hp
    show G g E _ _ _ [(wMo g mo mst mac mmk mr mrd mrm mcm mtp msz mtk mbg men mls mvl 1 mbg mfk mdp mto)] 21 [(0, .ref (mo 0)), (1, .int (iI q))] [.int (iI 0)]
    refine r_zreturn hE hR [(wMo g mo mst mac mmk mr mrd mrm mcm mtp msz mtk mbg men mls mvl 1 mbg mfk mdp mto)] dX9_fails_21 (Nat.le_of_ble_eq_true rfl) (Nat.le_of_ble_eq_true rfl) (by decide) rfl ?_
    first
      | exact ⟨rfl, by rw [if_pos c6]⟩
      | exact ⟨rfl, by rw [if_neg c6]⟩
set_option maxHeartbeats 4000000 in
set_option maxRecDepth 100000 in
theorem c_X9_takes {g : Gm} {mo : Nat → Nat} {mst mac mmk mr mrd mrm mcm mtp msz mtk mbg men mls mvl mft mfp mfk mdp mto : Int} {tt : Int → Int} (hB : BR tt) (hn : 0 ≤ msz ∧ msz ≤ 900) (he : 0 ≤ men ∧ men ≤ msz) : Ct g 2 0 0 yX9_takes cX9_takes 1 (some .boolean) [.ref (mo 0)] [(wMo g mo mst mac mmk mr mrd mrm mcm mtp msz mtk mbg men mls mvl mft mfp mfk mdp mto), (wMTxt g mo tt)] (fun v_ w_ => ∃ tk9 : Int, ∃ bg9 : Int, ∃ en9 : Int, ∃ vl9 : Int, v_ = some (.int (iI 1)) ∧ w_ = [(wMo g mo mst mac mmk mr mrd mrm mcm mtp msz tk9 bg9 en9 mbg vl9 mft mfp mfk mdp mto), (wMTxt g mo tt)] ∧ (AhIs tt msz men tk9 bg9 en9 vl9)) := by
  refine Ct.of (by decide) (Nat.le_of_ble_eq_true rfl) (lv := [(0, .ref (mo 0))]) rfl ?_
  intro E hE hR hnm
  refine r_aload_n 1 hE 0 dX9_takes_0 rfl rfl rfl ?_
  refine r_callV 4 hE [0, 1] [] [(wMo g mo mst mac mmk mr mrd mrm mcm mtp msz mtk mbg men mls mvl mft mfp mfk mdp mto), (wMTxt g mo tt)] [] 0 9 ok9 [] (c_X9_ahead (hB) (hn) (he)) dX9_takes_1 rfl rfl wd_1194 wd_1196 ws_49 wd_12 wd_1197 ne_X9 np_X9_ahead (Nat.le_of_ble_eq_true rfl)  (by decide) (by decide) rfl (Nat.le_of_ble_eq_true rfl) rfl rfl rfl rfl (by decide) rfl (fun v1 f1 hp => ?_)
  obtain ⟨tk9_1, bg9_1, en9_1, vl9_1, rfl, rfl, h1_0⟩ := hp
  show G g E _ _ _ [(wMo g mo mst mac mmk mr mrd mrm mcm mtp msz tk9_1 bg9_1 en9_1 mbg vl9_1 mft mfp mfk mdp mto), (wMTxt g mo tt)] 4 [(0, .ref (mo 0))] []
  refine r_iconst 5 hE dX9_takes_4 rfl ?_
  refine r_zreturn hE hR [(wMo g mo mst mac mmk mr mrd mrm mcm mtp msz tk9_1 bg9_1 en9_1 mbg vl9_1 mft mfp mfk mdp mto), (wMTxt g mo tt)] dX9_takes_5 (Nat.le_of_ble_eq_true rfl) (Nat.le_of_ble_eq_true rfl) (by decide) rfl ?_
  exact ⟨_, _, _, _, rfl, rfl, h1_0⟩
set_option maxHeartbeats 4000000 in
set_option maxRecDepth 100000 in
theorem c_X9_isSign {g : Gm} {mo : Nat → Nat} {mst mac mmk mr mrd mrm mcm mtp msz mtk mbg men mls mvl mft mfp mfk mdp mto : Int} {tt : Int → Int} {c : Int} (hB : BR tt) (hn : 0 ≤ msz ∧ msz ≤ 900) (hbg : 0 ≤ mbg ∧ mbg ≤ 2000) (htk : 0 ≤ mtk ∧ mtk ≤ 5) (hc : -2147483648 ≤ c ∧ c ≤ 2147483647) : Ct g 1 0 0 yX9_isSign cX9_isSign 2 (some .boolean) [.ref (mo 0), .int (iI c)] [(wMo g mo mst mac mmk mr mrd mrm mcm mtp msz mtk mbg men mls mvl mft mfp mfk mdp mto), (wMTxt g mo tt)] (fun v_ w_ => v_ = some (.int (iI (bI (mtk = 5 ∧ mbA tt msz mbg = c)))) ∧ w_ = [(wMo g mo mst mac mmk mr mrd mrm mcm mtp msz mtk mbg men mls mvl mft mfp mfk mdp mto), (wMTxt g mo tt)]) := by
  refine Ct.of (by decide) (Nat.le_of_ble_eq_true rfl) (lv := [(0, .ref (mo 0)), (1, .int (iI c))]) rfl ?_
  intro E hE hR hnm
  refine r_aload_n 1 hE 0 dX9_isSign_0 rfl rfl rfl ?_
  refine r_get 4 hE 0 0 ok9 27 dX9_isSign_1 rfl wd_1079 rfl rfl (by decide) rfl ?_
  refine r_iconst 5 hE dX9_isSign_4 rfl ?_
  refine r_icmp_ne 8 24 hE dX9_isSign_5 rfl (by decide) (by omega) (fun c5 => ?_) (fun c5 => ?_)
  · skip
    refine r_iconst 25 hE dX9_isSign_24 rfl ?_
    refine r_zreturn hE hR [(wMo g mo mst mac mmk mr mrd mrm mcm mtp msz mtk mbg men mls mvl mft mfp mfk mdp mto), (wMTxt g mo tt)] dX9_isSign_25 (Nat.le_of_ble_eq_true rfl) (Nat.le_of_ble_eq_true rfl) (by decide) rfl ?_
    first
      | exact ⟨ret1 ⟨c5, c17⟩, rfl⟩
      | exact ⟨ret0 (fun z => c5 z.1), rfl⟩
      | exact ⟨ret0 (fun z => c17 z.2), rfl⟩
  · skip
    refine r_aload_n 9 hE 0 dX9_isSign_8 rfl rfl rfl ?_
    refine r_aload_n 10 hE 0 dX9_isSign_9 rfl rfl rfl ?_
    refine r_get 13 hE 0 0 ok9 28 dX9_isSign_10 rfl wd_1080 rfl rfl (by decide) rfl ?_
    refine r_callV 16 hE [0, 1] [] [(wMo g mo mst mac mmk mr mrd mrm mcm mtp msz mtk mbg men mls mvl mft mfp mfk mdp mto), (wMTxt g mo tt)] [] 0 9 ok9 [] (c_X9_byteAt (hB) (hn) (by omega)) dX9_isSign_13 rfl rfl wd_1198 wd_1200 ws_50 wd_12 wd_1201 ne_X9 np_X9_byteAt (Nat.le_of_ble_eq_true rfl)  (by decide) (by decide) rfl (Nat.le_of_ble_eq_true rfl) rfl rfl rfl rfl (by decide) rfl (fun v1 f1 hp => ?_)
    obtain ⟨rfl, rfl⟩ := hp
    show G g E _ _ _ [(wMo g mo mst mac mmk mr mrd mrm mcm mtp msz mtk mbg men mls mvl mft mfp mfk mdp mto), (wMTxt g mo tt)] 16 [(0, .ref (mo 0)), (1, .int (iI c))] [.int (iI (mbA tt msz mbg))]
    refine r_iload_n 17 hE 1 dX9_isSign_16 rfl rfl rfl ?_
    refine r_icmp_ne 20 24 hE dX9_isSign_17 rfl (by decide) (by have h9 := mbA_rg hB msz mbg; omega) (fun c17 => ?_) (fun c17 => ?_)
    · skip
      refine r_iconst 25 hE dX9_isSign_24 rfl ?_
      refine r_zreturn hE hR [(wMo g mo mst mac mmk mr mrd mrm mcm mtp msz mtk mbg men mls mvl mft mfp mfk mdp mto), (wMTxt g mo tt)] dX9_isSign_25 (Nat.le_of_ble_eq_true rfl) (Nat.le_of_ble_eq_true rfl) (by decide) rfl ?_
      first
        | exact ⟨ret1 ⟨c5, c17⟩, rfl⟩
        | exact ⟨ret0 (fun z => c5 z.1), rfl⟩
        | exact ⟨ret0 (fun z => c17 z.2), rfl⟩
    · skip
      refine r_iconst 21 hE dX9_isSign_20 rfl ?_
      refine r_goto 25 hE dX9_isSign_21 (by decide) ?_
      refine r_zreturn hE hR [(wMo g mo mst mac mmk mr mrd mrm mcm mtp msz mtk mbg men mls mvl mft mfp mfk mdp mto), (wMTxt g mo tt)] dX9_isSign_25 (Nat.le_of_ble_eq_true rfl) (Nat.le_of_ble_eq_true rfl) (by decide) rfl ?_
      first
        | exact ⟨ret1 ⟨c5, c17⟩, rfl⟩
        | exact ⟨ret0 (fun z => c5 z.1), rfl⟩
        | exact ⟨ret0 (fun z => c17 z.2), rfl⟩
