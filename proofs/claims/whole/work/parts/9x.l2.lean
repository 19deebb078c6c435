theorem ClS.rc {g : Gm} {x : Nat} {i : Int} {V : Vw} {C : va_W} (h : ClS g x i V C) : ∃ vs, ([C] : List va_W).flatten[0]? = some (ob x 8 vs) := ClS.el (P := fun V C => ∃ vs, ([C] : List va_W).flatten[0]? = some (ob x 8 vs)) h (fun _ _ _ _ _ _ _ _ _ _ _ _ _ _ _ _ _ _ _ _ _ _ _ _ _ _ _ _ _ _ _ _ _ _ _ _ _ _ _ _ _ _ _ _ _ _ _ _ _ _ _ _ _ _ _ _ _ _ _ _ _ _ _ _ _ _ _ _ _ _ _ _ _ _ _ _ _ _ _ _ _ _ _ _ _ => ⟨_, rfl⟩)
theorem ClS.vok {g : Gm} {x : Nat} {i : Int} {V : Vw} {C : va_W} (h : ClS g x i V C) : VOk V := ClS.el (P := fun V _ => VOk V) h (fun _ _ _ _ _ _ _ _ _ _ _ _ _ _ _ _ _ _ _ _ _ _ _ _ _ _ _ _ _ _ _ _ _ _ _ _ _ _ _ _ _ _ _ _ _ _ _ _ _ _ _ _ _ _ _ _ _ _ _ _ _ _ _ _ _ _ _ _ _ _ _ _ _ _ _ _ _ _ _ _ _ _ _ _ hI => hI.vok)
theorem MoS.rc {g : Gm} {mo : Nat → Nat} {V : Vw} {C : va_W} (h : MoS g mo V C) : ∃ vs, ([C] : List va_W).flatten[0]? = some (ob (mo 0) 9 vs) := MoS.el (P := fun V C => ∃ vs, ([C] : List va_W).flatten[0]? = some (ob (mo 0) 9 vs)) h (fun _ _ _ _ _ _ _ _ _ _ _ _ _ _ _ _ _ _ _ _ _ _ _ _ _ _ _ _ _ _ _ _ _ _ _ _ _ _ _ => ⟨_, rfl⟩)
theorem ClS.up {g : Gm} {x : Nat} {i : Int} {V : Vw} {C : va_W} (h : ClS g x i V C) : ClS g x (i + 6) V C := ClS.el (P := fun V C => ClS g x (i + 6) V C) h (fun tpa a r p q ru w sb bk k b r2 sh sh2 ad ad2 taped told tf L ln tp rd cnt era nws RL rlen old cn ss old2 cn2 ss2 kd fi se sg le de nx he ro rc re rr R sp nb mt pl op no od stm wc bo sl eo es ep dp bss pp bsg us fk fp kk kp kn sz kc fg ps L2 ln2 tp2 rd2 cnt2 era2 nws2 RL2 rlen2 hI => ⟨tpa, a, r, p, q, ru, w, sb, bk, k, b, r2, sh, sh2, ad, ad2, taped, told, tf, L, ln, tp, rd, cnt, era, nws, RL, rlen, old, cn, ss, old2, cn2, ss2, kd, fi, se, sg, le, de, nx, he, ro, rc, re, rr, R, sp, nb, mt, pl, op, no, od, stm, wc, bo, sl, eo, es, ep, dp, bss, pp, bsg, us, fk, fp, kk, kp, kn, sz, kc, fg, ps, L2, ln2, tp2, rd2, cnt2, era2, nws2, RL2, rlen2, rfl, rfl, hI.same hI.1.2.2.2.2.2.1 (by have h9 := hI.1.2.2.2.2.2.2; omega)⟩)
set_option maxHeartbeats 4000000 in
set_option maxRecDepth 100000 in
theorem lc_status {g : Gm} {E : Cx} {x b L k n : Nat} {mo : Nat → Nat} {xs : Nat → Int32} {i : Int} {V V2 : Vw} {C M : va_W} (hE : Ok g E 4 RL cL_law 2048 600000 7302250) (hkn : k ≤ 600000 ∧ n ≤ 7302250) (hX : ScrOk E b L xs) (hi : 0 ≤ i ∧ i + 6 ≤ (L : Int)) (hC : ClS g x i V C) (hM : MoS g mo V2 M) (e : VEq V V2) (next : ∀ (V9 W9 : Vw) (C9 M9 : va_W), ClS g x (i + 6) V9 C9 → MoS g mo W9 M9 → VEq V9 W9 → G g E 4 k n [C9, M9] 1168 [(0, .ref b), (1, .ref x), (2, .ref (mo 0)), (3, .int (iI i))] []) : G g E 4 k n [C, M] 164 [(0, .ref b), (1, .ref x), (2, .ref (mo 0)), (3, .int (iI i))] [] := by
  have hL := hX.2.2.2
  obtain ⟨vs, hrc⟩ := hC.rc
  obtain ⟨vs2, hrm⟩ := hM.rc
  refine r_aload_n 165 hE 1 dL_law_164 rfl rfl rfl ?_
  refine r_callV 168 hE [0] [1] [C] [M] 0 8 ok8 [] (P8_status (by omega) hC) dL_law_165 rfl rfl wd_331 wd_332 wd_333 wd_1 wd_334 ne_X8 np_X8_status (Nat.le_of_ble_eq_true rfl) (by decide) hkn rfl (Nat.le_of_ble_eq_true rfl) rfl rfl rfl rfl (by decide) hrc (fun v1 f1 hp => ?_)
  obtain ⟨r1, V9, C9, rfl, rfl, hC9, hA⟩ := hp
  show G g E 4 k n [C9, M] 168 [(0, .ref b), (1, .ref x), (2, .ref (mo 0)), (3, .int (iI i))] [.int (iI r1)]
  refine r_aload_n 169 hE 2 dL_law_168 rfl rfl rfl ?_
  refine r_callV 172 hE [1] [0] [M] [C9] 0 9 ok9 [.int (iI r1)] (P9_status hM) dL_law_169 rfl rfl wd_1167 wd_1168 wd_1169 wd_12 wd_1170 ne_X9 np_X9_status (Nat.le_of_ble_eq_true rfl) (by decide) hkn rfl (Nat.le_of_ble_eq_true rfl) rfl rfl rfl rfl (by decide) hrm (fun v1 f1 hp => ?_)
  obtain ⟨r2, W9, M9, rfl, rfl, hM9, hB⟩ := hp
  show G g E 4 k n [M9, C9] 172 [(0, .ref b), (1, .ref x), (2, .ref (mo 0)), (3, .int (iI i))] [.int (iI r2), .int (iI r1)]
  obtain ⟨hr, e9⟩ := TR_status.one hC.vok e hA hB
  subst hr
  refine r_icmp_same 1168 hE dL_law_172 (by decide) ?_
  refine G.to (fs' := [C9, M9]) (lv' := [(0, .ref b), (1, .ref x), (2, .ref (mo 0)), (3, .int (iI i))]) [1, 0] [0, 1, 2, 3] rfl rfl rfl ?_
  exact next _ _ _ _ hC9 hM9 e9
set_option maxHeartbeats 4000000 in
set_option maxRecDepth 100000 in
theorem lc_feed {g : Gm} {E : Cx} {x b L k n : Nat} {mo : Nat → Nat} {xs : Nat → Int32} {i : Int} {V V2 : Vw} {C M : va_W} (hE : Ok g E 4 RL cL_law 2048 600000 7302250) (hkn : k ≤ 600000 ∧ n ≤ 7302250) (hX : ScrOk E b L xs) (hi : 0 ≤ i ∧ i + 6 ≤ (L : Int)) (hC : ClS g x i V C) (hM : MoS g mo V2 M) (e : VEq V V2) (next : ∀ (V9 W9 : Vw) (C9 M9 : va_W), ClS g x (i + 6) V9 C9 → MoS g mo W9 M9 → VEq V9 W9 → G g E 4 k n [C9, M9] 1168 [(0, .ref b), (1, .ref x), (2, .ref (mo 0)), (3, .int (iI i))] []) : G g E 4 k n [C, M] 177 [(0, .ref b), (1, .ref x), (2, .ref (mo 0)), (3, .int (iI i))] [] := by
  have hL := hX.2.2.2
  obtain ⟨vs, hrc⟩ := hC.rc
  obtain ⟨vs2, hrm⟩ := hM.rc
  refine r_aload_n 178 hE 1 dL_law_177 rfl rfl rfl ?_
  refine r_aload_n 179 hE 0 dL_law_178 rfl rfl rfl ?_
  refine r_iload_n 180 hE 3 dL_law_179 rfl rfl rfl ?_
  refine r_iconst 181 hE dL_law_180 rfl ?_
  refine r_iadd 182 hE (i + 1) dL_law_181 rfl rfl ?_
  refine r_sld 183 hE hX (by omega) dL_law_182 rfl ?_
  refine r_aload_n 184 hE 0 dL_law_183 rfl rfl rfl ?_
  refine r_iload_n 185 hE 3 dL_law_184 rfl rfl rfl ?_
  refine r_iconst 186 hE dL_law_185 rfl ?_
  refine r_iadd 187 hE (i + 2) dL_law_186 rfl rfl ?_
  refine r_sld 188 hE hX (by omega) dL_law_187 rfl ?_
  refine r_aload_n 189 hE 0 dL_law_188 rfl rfl rfl ?_
  refine r_iload_n 190 hE 3 dL_law_189 rfl rfl rfl ?_
  refine r_iconst 191 hE dL_law_190 rfl ?_
  refine r_iadd 192 hE (i + 3) dL_law_191 rfl rfl ?_
  refine r_sld 193 hE hX (by omega) dL_law_192 rfl ?_
  refine r_aload_n 194 hE 0 dL_law_193 rfl rfl rfl ?_
  refine r_iload_n 195 hE 3 dL_law_194 rfl rfl rfl ?_
  refine r_iconst 196 hE dL_law_195 rfl ?_
  refine r_iadd 197 hE (i + 4) dL_law_196 rfl rfl ?_
  refine r_sld 198 hE hX (by omega) dL_law_197 rfl ?_
  refine r_aload_n 199 hE 0 dL_law_198 rfl rfl rfl ?_
  refine r_iload_n 200 hE 3 dL_law_199 rfl rfl rfl ?_
  refine r_iconst 201 hE dL_law_200 rfl ?_
  refine r_iadd 202 hE (i + 5) dL_law_201 rfl rfl ?_
  refine r_sld 203 hE hX (by omega) dL_law_202 rfl ?_
  refine r_callV 206 hE [0] [1] [C] [M] 0 8 ok8 [] (P8_feed (u1 := sx xs (i + 1)) (u2 := sx xs (i + 2)) (u3 := sx xs (i + 3)) (u4 := sx xs (i + 4)) (u5 := sx xs (i + 5)) (by omega) (sx_rg _ _) (sx_rg _ _) (sx_rg _ _) (sx_rg _ _) (sx_rg _ _) hC) dL_law_203 rfl rfl wd_335 wd_336 wd_337 wd_1 wd_338 ne_X8 np_X8_feed (Nat.le_of_ble_eq_true rfl) (by decide) hkn rfl (Nat.le_of_ble_eq_true rfl) rfl rfl rfl rfl (by decide) hrc (fun v1 f1 hp => ?_)
  obtain ⟨r1, V9, C9, rfl, rfl, hC9, hA⟩ := hp
  show G g E 4 k n [C9, M] 206 [(0, .ref b), (1, .ref x), (2, .ref (mo 0)), (3, .int (iI i))] [.int (iI r1)]
  refine r_aload_n 207 hE 2 dL_law_206 rfl rfl rfl ?_
  refine r_aload_n 208 hE 0 dL_law_207 rfl rfl rfl ?_
  refine r_iload_n 209 hE 3 dL_law_208 rfl rfl rfl ?_
  refine r_iconst 210 hE dL_law_209 rfl ?_
  refine r_iadd 211 hE (i + 1) dL_law_210 rfl rfl ?_
  refine r_sld 212 hE hX (by omega) dL_law_211 rfl ?_
  refine r_aload_n 213 hE 0 dL_law_212 rfl rfl rfl ?_
  refine r_iload_n 214 hE 3 dL_law_213 rfl rfl rfl ?_
  refine r_iconst 215 hE dL_law_214 rfl ?_
  refine r_iadd 216 hE (i + 2) dL_law_215 rfl rfl ?_
  refine r_sld 217 hE hX (by omega) dL_law_216 rfl ?_
  refine r_aload_n 218 hE 0 dL_law_217 rfl rfl rfl ?_
  refine r_iload_n 219 hE 3 dL_law_218 rfl rfl rfl ?_
  refine r_iconst 220 hE dL_law_219 rfl ?_
  refine r_iadd 221 hE (i + 3) dL_law_220 rfl rfl ?_
  refine r_sld 222 hE hX (by omega) dL_law_221 rfl ?_
  refine r_aload_n 223 hE 0 dL_law_222 rfl rfl rfl ?_
  refine r_iload_n 224 hE 3 dL_law_223 rfl rfl rfl ?_
  refine r_iconst 225 hE dL_law_224 rfl ?_
  refine r_iadd 226 hE (i + 4) dL_law_225 rfl rfl ?_
  refine r_sld 227 hE hX (by omega) dL_law_226 rfl ?_
  refine r_aload_n 228 hE 0 dL_law_227 rfl rfl rfl ?_
  refine r_iload_n 229 hE 3 dL_law_228 rfl rfl rfl ?_
  refine r_iconst 230 hE dL_law_229 rfl ?_
  refine r_iadd 231 hE (i + 5) dL_law_230 rfl rfl ?_
  refine r_sld 232 hE hX (by omega) dL_law_231 rfl ?_
  refine r_callV 235 hE [1] [0] [M] [C9] 0 9 ok9 [.int (iI r1)] (P9_feed (u1 := sx xs (i + 1)) (u2 := sx xs (i + 2)) (u3 := sx xs (i + 3)) (u4 := sx xs (i + 4)) (u5 := sx xs (i + 5)) (sx_rg _ _) (sx_rg _ _) (sx_rg _ _) (sx_rg _ _) (sx_rg _ _) hM) dL_law_232 rfl rfl wd_1171 wd_1172 wd_1173 wd_12 wd_1174 ne_X9 np_X9_feed (Nat.le_of_ble_eq_true rfl) (by decide) hkn rfl (Nat.le_of_ble_eq_true rfl) rfl rfl rfl rfl (by decide) hrm (fun v1 f1 hp => ?_)
  obtain ⟨r2, W9, M9, rfl, rfl, hM9, hB⟩ := hp
  show G g E 4 k n [M9, C9] 235 [(0, .ref b), (1, .ref x), (2, .ref (mo 0)), (3, .int (iI i))] [.int (iI r2), .int (iI r1)]
  obtain ⟨hr, e9⟩ := TR_feed.one hC.vok e hA hB
  subst hr
  refine r_icmp_same 1168 hE dL_law_235 (by decide) ?_
  refine G.to (fs' := [C9, M9]) (lv' := [(0, .ref b), (1, .ref x), (2, .ref (mo 0)), (3, .int (iI i))]) [1, 0] [0, 1, 2, 3] rfl rfl rfl ?_
  exact next _ _ _ _ hC9 hM9 e9
set_option maxHeartbeats 4000000 in
set_option maxRecDepth 100000 in
theorem lc_load {g : Gm} {E : Cx} {x b L k n : Nat} {mo : Nat → Nat} {xs : Nat → Int32} {i : Int} {V V2 : Vw} {C M : va_W} (hE : Ok g E 4 RL cL_law 2048 600000 7302250) (hkn : k ≤ 600000 ∧ n ≤ 7302250) (hX : ScrOk E b L xs) (hi : 0 ≤ i ∧ i + 6 ≤ (L : Int)) (hC : ClS g x i V C) (hM : MoS g mo V2 M) (e : VEq V V2) (next : ∀ (V9 W9 : Vw) (C9 M9 : va_W), ClS g x (i + 6) V9 C9 → MoS g mo W9 M9 → VEq V9 W9 → G g E 4 k n [C9, M9] 1168 [(0, .ref b), (1, .ref x), (2, .ref (mo 0)), (3, .int (iI i))] []) : G g E 4 k n [C, M] 240 [(0, .ref b), (1, .ref x), (2, .ref (mo 0)), (3, .int (iI i))] [] := by
  have hL := hX.2.2.2
  obtain ⟨vs, hrc⟩ := hC.rc
  obtain ⟨vs2, hrm⟩ := hM.rc
  refine r_aload_n 241 hE 1 dL_law_240 rfl rfl rfl ?_
  refine r_aload_n 242 hE 0 dL_law_241 rfl rfl rfl ?_
  refine r_iload_n 243 hE 3 dL_law_242 rfl rfl rfl ?_
  refine r_iconst 244 hE dL_law_243 rfl ?_
  refine r_iadd 245 hE (i + 1) dL_law_244 rfl rfl ?_
  refine r_sld 246 hE hX (by omega) dL_law_245 rfl ?_
  refine r_callV 249 hE [0] [1] [C] [M] 0 8 ok8 [] (P8_load (u1 := sx xs (i + 1)) (by omega) (sx_rg _ _) hC) dL_law_246 rfl rfl wd_343 wd_344 wd_345 wd_1 wd_346 ne_X8 np_X8_load (Nat.le_of_ble_eq_true rfl) (by decide) hkn rfl (Nat.le_of_ble_eq_true rfl) rfl rfl rfl rfl (by decide) hrc (fun v1 f1 hp => ?_)
  obtain ⟨r1, V9, C9, rfl, rfl, hC9, hA⟩ := hp
  show G g E 4 k n [C9, M] 249 [(0, .ref b), (1, .ref x), (2, .ref (mo 0)), (3, .int (iI i))] [.int (iI r1)]
  refine r_aload_n 250 hE 2 dL_law_249 rfl rfl rfl ?_
  refine r_aload_n 251 hE 0 dL_law_250 rfl rfl rfl ?_
  refine r_iload_n 252 hE 3 dL_law_251 rfl rfl rfl ?_
  refine r_iconst 253 hE dL_law_252 rfl ?_
  refine r_iadd 254 hE (i + 1) dL_law_253 rfl rfl ?_
  refine r_sld 255 hE hX (by omega) dL_law_254 rfl ?_
  refine r_callV 258 hE [1] [0] [M] [C9] 0 9 ok9 [.int (iI r1)] (P9_load (u1 := sx xs (i + 1)) (sx_rg _ _) hM) dL_law_255 rfl rfl wd_1179 wd_1180 wd_1181 wd_12 wd_1182 ne_X9 np_X9_load (Nat.le_of_ble_eq_true rfl) (by decide) hkn rfl (Nat.le_of_ble_eq_true rfl) rfl rfl rfl rfl (by decide) hrm (fun v1 f1 hp => ?_)
  obtain ⟨r2, W9, M9, rfl, rfl, hM9, hB⟩ := hp
  show G g E 4 k n [M9, C9] 258 [(0, .ref b), (1, .ref x), (2, .ref (mo 0)), (3, .int (iI i))] [.int (iI r2), .int (iI r1)]
  obtain ⟨hr, e9⟩ := TR_load.one hC.vok e hA hB
  subst hr
  refine r_icmp_same 1168 hE dL_law_258 (by decide) ?_
  refine G.to (fs' := [C9, M9]) (lv' := [(0, .ref b), (1, .ref x), (2, .ref (mo 0)), (3, .int (iI i))]) [1, 0] [0, 1, 2, 3] rfl rfl rfl ?_
  exact next _ _ _ _ hC9 hM9 e9
set_option maxHeartbeats 4000000 in
set_option maxRecDepth 100000 in
theorem lc_fault {g : Gm} {E : Cx} {x b L k n : Nat} {mo : Nat → Nat} {xs : Nat → Int32} {i : Int} {V V2 : Vw} {C M : va_W} (hE : Ok g E 4 RL cL_law 2048 600000 7302250) (hkn : k ≤ 600000 ∧ n ≤ 7302250) (hX : ScrOk E b L xs) (hi : 0 ≤ i ∧ i + 6 ≤ (L : Int)) (hC : ClS g x i V C) (hM : MoS g mo V2 M) (e : VEq V V2) (next : ∀ (V9 W9 : Vw) (C9 M9 : va_W), ClS g x (i + 6) V9 C9 → MoS g mo W9 M9 → VEq V9 W9 → G g E 4 k n [C9, M9] 1168 [(0, .ref b), (1, .ref x), (2, .ref (mo 0)), (3, .int (iI i))] []) : G g E 4 k n [C, M] 263 [(0, .ref b), (1, .ref x), (2, .ref (mo 0)), (3, .int (iI i))] [] := by
  have hL := hX.2.2.2
  obtain ⟨vs, hrc⟩ := hC.rc
  obtain ⟨vs2, hrm⟩ := hM.rc
  refine r_aload_n 264 hE 1 dL_law_263 rfl rfl rfl ?_
  refine r_aload_n 265 hE 0 dL_law_264 rfl rfl rfl ?_
  refine r_iload_n 266 hE 3 dL_law_265 rfl rfl rfl ?_
  refine r_iconst 267 hE dL_law_266 rfl ?_
  refine r_iadd 268 hE (i + 1) dL_law_267 rfl rfl ?_
  refine r_sld 269 hE hX (by omega) dL_law_268 rfl ?_
  refine r_callV 272 hE [0] [1] [C] [M] 0 8 ok8 [] (P8_fault (u1 := sx xs (i + 1)) (by omega) (sx_rg _ _) hC) dL_law_269 rfl rfl wd_743 wd_744 wd_745 wd_1 wd_746 ne_X8 np_X8_fault (Nat.le_of_ble_eq_true rfl) (by decide) hkn rfl (Nat.le_of_ble_eq_true rfl) rfl rfl rfl rfl (by decide) hrc (fun v1 f1 hp => ?_)
  obtain ⟨r1, V9, C9, rfl, rfl, hC9, hA⟩ := hp
  show G g E 4 k n [C9, M] 272 [(0, .ref b), (1, .ref x), (2, .ref (mo 0)), (3, .int (iI i))] [.int (iI r1)]
  refine r_aload_n 273 hE 2 dL_law_272 rfl rfl rfl ?_
  refine r_aload_n 274 hE 0 dL_law_273 rfl rfl rfl ?_
  refine r_iload_n 275 hE 3 dL_law_274 rfl rfl rfl ?_
  refine r_iconst 276 hE dL_law_275 rfl ?_
  refine r_iadd 277 hE (i + 1) dL_law_276 rfl rfl ?_
  refine r_sld 278 hE hX (by omega) dL_law_277 rfl ?_
  refine r_callV 281 hE [1] [0] [M] [C9] 0 9 ok9 [.int (iI r1)] (P9_fault (u1 := sx xs (i + 1)) (sx_rg _ _) hM) dL_law_278 rfl rfl wd_1338 wd_1339 wd_1340 wd_12 wd_1341 ne_X9 np_X9_fault (Nat.le_of_ble_eq_true rfl) (by decide) hkn rfl (Nat.le_of_ble_eq_true rfl) rfl rfl rfl rfl (by decide) hrm (fun v1 f1 hp => ?_)
  obtain ⟨r2, W9, M9, rfl, rfl, hM9, hB⟩ := hp
  show G g E 4 k n [M9, C9] 281 [(0, .ref b), (1, .ref x), (2, .ref (mo 0)), (3, .int (iI i))] [.int (iI r2), .int (iI r1)]
  obtain ⟨hr, e9⟩ := TR_fault.one hC.vok e hA hB
  subst hr
  refine r_icmp_same 1168 hE dL_law_281 (by decide) ?_
  refine G.to (fs' := [C9, M9]) (lv' := [(0, .ref b), (1, .ref x), (2, .ref (mo 0)), (3, .int (iI i))]) [1, 0] [0, 1, 2, 3] rfl rfl rfl ?_
  exact next _ _ _ _ hC9 hM9 e9
set_option maxHeartbeats 4000000 in
set_option maxRecDepth 100000 in
theorem lc_many {g : Gm} {E : Cx} {x b L k n : Nat} {mo : Nat → Nat} {xs : Nat → Int32} {i : Int} {V V2 : Vw} {C M : va_W} (hE : Ok g E 4 RL cL_law 2048 600000 7302250) (hkn : k ≤ 600000 ∧ n ≤ 7302250) (hX : ScrOk E b L xs) (hi : 0 ≤ i ∧ i + 6 ≤ (L : Int)) (hC : ClS g x i V C) (hM : MoS g mo V2 M) (e : VEq V V2) (next : ∀ (V9 W9 : Vw) (C9 M9 : va_W), ClS g x (i + 6) V9 C9 → MoS g mo W9 M9 → VEq V9 W9 → G g E 4 k n [C9, M9] 1168 [(0, .ref b), (1, .ref x), (2, .ref (mo 0)), (3, .int (iI i))] []) : G g E 4 k n [C, M] 286 [(0, .ref b), (1, .ref x), (2, .ref (mo 0)), (3, .int (iI i))] [] := by
  have hL := hX.2.2.2
  obtain ⟨vs, hrc⟩ := hC.rc
  obtain ⟨vs2, hrm⟩ := hM.rc
  refine r_aload_n 287 hE 1 dL_law_286 rfl rfl rfl ?_
  refine r_aload_n 288 hE 0 dL_law_287 rfl rfl rfl ?_
  refine r_iload_n 289 hE 3 dL_law_288 rfl rfl rfl ?_
  refine r_iconst 290 hE dL_law_289 rfl ?_
  refine r_iadd 291 hE (i + 1) dL_law_290 rfl rfl ?_
  refine r_sld 292 hE hX (by omega) dL_law_291 rfl ?_
  refine r_callV 295 hE [0] [1] [C] [M] 0 8 ok8 [] (P8_many (u1 := sx xs (i + 1)) (by omega) (sx_rg _ _) hC) dL_law_292 rfl rfl wd_747 wd_748 wd_749 wd_1 wd_750 ne_X8 np_X8_many (Nat.le_of_ble_eq_true rfl) (by decide) hkn rfl (Nat.le_of_ble_eq_true rfl) rfl rfl rfl rfl (by decide) hrc (fun v1 f1 hp => ?_)
  obtain ⟨r1, V9, C9, rfl, rfl, hC9, hA⟩ := hp
  show G g E 4 k n [C9, M] 295 [(0, .ref b), (1, .ref x), (2, .ref (mo 0)), (3, .int (iI i))] [.int (iI r1)]
  refine r_aload_n 296 hE 2 dL_law_295 rfl rfl rfl ?_
  refine r_aload_n 297 hE 0 dL_law_296 rfl rfl rfl ?_
  refine r_iload_n 298 hE 3 dL_law_297 rfl rfl rfl ?_
  refine r_iconst 299 hE dL_law_298 rfl ?_
  refine r_iadd 300 hE (i + 1) dL_law_299 rfl rfl ?_
  refine r_sld 301 hE hX (by omega) dL_law_300 rfl ?_
  refine r_callV 304 hE [1] [0] [M] [C9] 0 9 ok9 [.int (iI r1)] (P9_many (u1 := sx xs (i + 1)) (sx_rg _ _) hM) dL_law_301 rfl rfl wd_1415 wd_1416 wd_1417 wd_12 wd_1418 ne_X9 np_X9_many_ (Nat.le_of_ble_eq_true rfl) (by decide) hkn rfl (Nat.le_of_ble_eq_true rfl) rfl rfl rfl rfl (by decide) hrm (fun v1 f1 hp => ?_)
  obtain ⟨r2, W9, M9, rfl, rfl, hM9, hB⟩ := hp
  show G g E 4 k n [M9, C9] 304 [(0, .ref b), (1, .ref x), (2, .ref (mo 0)), (3, .int (iI i))] [.int (iI r2), .int (iI r1)]
  obtain ⟨hr, e9⟩ := TR_many.one hC.vok e hA hB
  subst hr
  refine r_icmp_same 1168 hE dL_law_304 (by decide) ?_
  refine G.to (fs' := [C9, M9]) (lv' := [(0, .ref b), (1, .ref x), (2, .ref (mo 0)), (3, .int (iI i))]) [1, 0] [0, 1, 2, 3] rfl rfl rfl ?_
  exact next _ _ _ _ hC9 hM9 e9
set_option maxHeartbeats 4000000 in
set_option maxRecDepth 100000 in
theorem lc_of {g : Gm} {E : Cx} {x b L k n : Nat} {mo : Nat → Nat} {xs : Nat → Int32} {i : Int} {V V2 : Vw} {C M : va_W} (hE : Ok g E 4 RL cL_law 2048 600000 7302250) (hkn : k ≤ 600000 ∧ n ≤ 7302250) (hX : ScrOk E b L xs) (hi : 0 ≤ i ∧ i + 6 ≤ (L : Int)) (hC : ClS g x i V C) (hM : MoS g mo V2 M) (e : VEq V V2) (next : ∀ (V9 W9 : Vw) (C9 M9 : va_W), ClS g x (i + 6) V9 C9 → MoS g mo W9 M9 → VEq V9 W9 → G g E 4 k n [C9, M9] 1168 [(0, .ref b), (1, .ref x), (2, .ref (mo 0)), (3, .int (iI i))] []) : G g E 4 k n [C, M] 309 [(0, .ref b), (1, .ref x), (2, .ref (mo 0)), (3, .int (iI i))] [] := by
  have hL := hX.2.2.2
  obtain ⟨vs, hrc⟩ := hC.rc
  obtain ⟨vs2, hrm⟩ := hM.rc
  refine r_aload_n 310 hE 1 dL_law_309 rfl rfl rfl ?_
  refine r_aload_n 311 hE 0 dL_law_310 rfl rfl rfl ?_
  refine r_iload_n 312 hE 3 dL_law_311 rfl rfl rfl ?_
  refine r_iconst 313 hE dL_law_312 rfl ?_
  refine r_iadd 314 hE (i + 1) dL_law_313 rfl rfl ?_
  refine r_sld 315 hE hX (by omega) dL_law_314 rfl ?_
  refine r_aload_n 316 hE 0 dL_law_315 rfl rfl rfl ?_
  refine r_iload_n 317 hE 3 dL_law_316 rfl rfl rfl ?_
  refine r_iconst 318 hE dL_law_317 rfl ?_
  refine r_iadd 319 hE (i + 2) dL_law_318 rfl rfl ?_
  refine r_sld 320 hE hX (by omega) dL_law_319 rfl ?_
  refine r_callV 323 hE [0] [1] [C] [M] 0 8 ok8 [] (P8_of (u1 := sx xs (i + 1)) (u2 := sx xs (i + 2)) (by omega) (sx_rg _ _) (sx_rg _ _) hC) dL_law_320 rfl rfl wd_760 wd_761 wd_762 wd_1 wd_763 ne_X8 np_X8_of (Nat.le_of_ble_eq_true rfl) (by decide) hkn rfl (Nat.le_of_ble_eq_true rfl) rfl rfl rfl rfl (by decide) hrc (fun v1 f1 hp => ?_)
  obtain ⟨r1, V9, C9, rfl, rfl, hC9, hA⟩ := hp
  show G g E 4 k n [C9, M] 323 [(0, .ref b), (1, .ref x), (2, .ref (mo 0)), (3, .int (iI i))] [.int (iI r1)]
  refine r_aload_n 324 hE 2 dL_law_323 rfl rfl rfl ?_
  refine r_aload_n 325 hE 0 dL_law_324 rfl rfl rfl ?_
  refine r_iload_n 326 hE 3 dL_law_325 rfl rfl rfl ?_
  refine r_iconst 327 hE dL_law_326 rfl ?_
  refine r_iadd 328 hE (i + 1) dL_law_327 rfl rfl ?_
  refine r_sld 329 hE hX (by omega) dL_law_328 rfl ?_
  refine r_aload_n 330 hE 0 dL_law_329 rfl rfl rfl ?_
  refine r_iload_n 331 hE 3 dL_law_330 rfl rfl rfl ?_
  refine r_iconst 332 hE dL_law_331 rfl ?_
  refine r_iadd 333 hE (i + 2) dL_law_332 rfl rfl ?_
  refine r_sld 334 hE hX (by omega) dL_law_333 rfl ?_
  refine r_callV 337 hE [1] [0] [M] [C9] 0 9 ok9 [.int (iI r1)] (P9_of (u1 := sx xs (i + 1)) (u2 := sx xs (i + 2)) (sx_rg _ _) (sx_rg _ _) hM) dL_law_334 rfl rfl wd_1427 wd_1428 wd_1429 wd_12 wd_1430 ne_X9 np_X9_of (Nat.le_of_ble_eq_true rfl) (by decide) hkn rfl (Nat.le_of_ble_eq_true rfl) rfl rfl rfl rfl (by decide) hrm (fun v1 f1 hp => ?_)
  obtain ⟨r2, W9, M9, rfl, rfl, hM9, hB⟩ := hp
  show G g E 4 k n [M9, C9] 337 [(0, .ref b), (1, .ref x), (2, .ref (mo 0)), (3, .int (iI i))] [.int (iI r2), .int (iI r1)]
  obtain ⟨hr, e9⟩ := TR_of.one hC.vok e hA hB
  subst hr
  refine r_icmp_same 1168 hE dL_law_337 (by decide) ?_
  refine G.to (fs' := [C9, M9]) (lv' := [(0, .ref b), (1, .ref x), (2, .ref (mo 0)), (3, .int (iI i))]) [1, 0] [0, 1, 2, 3] rfl rfl rfl ?_
  exact next _ _ _ _ hC9 hM9 e9
set_option maxHeartbeats 4000000 in
set_option maxRecDepth 100000 in
theorem lc_letter {g : Gm} {E : Cx} {x b L k n : Nat} {mo : Nat → Nat} {xs : Nat → Int32} {i : Int} {V V2 : Vw} {C M : va_W} (hE : Ok g E 4 RL cL_law 2048 600000 7302250) (hkn : k ≤ 600000 ∧ n ≤ 7302250) (hX : ScrOk E b L xs) (hi : 0 ≤ i ∧ i + 6 ≤ (L : Int)) (hC : ClS g x i V C) (hM : MoS g mo V2 M) (e : VEq V V2) (next : ∀ (V9 W9 : Vw) (C9 M9 : va_W), ClS g x (i + 6) V9 C9 → MoS g mo W9 M9 → VEq V9 W9 → G g E 4 k n [C9, M9] 1168 [(0, .ref b), (1, .ref x), (2, .ref (mo 0)), (3, .int (iI i))] []) : G g E 4 k n [C, M] 342 [(0, .ref b), (1, .ref x), (2, .ref (mo 0)), (3, .int (iI i))] [] := by
  have hL := hX.2.2.2
  obtain ⟨vs, hrc⟩ := hC.rc
  obtain ⟨vs2, hrm⟩ := hM.rc
  refine r_aload_n 343 hE 1 dL_law_342 rfl rfl rfl ?_
  refine r_aload_n 344 hE 0 dL_law_343 rfl rfl rfl ?_
  refine r_iload_n 345 hE 3 dL_law_344 rfl rfl rfl ?_
  refine r_iconst 346 hE dL_law_345 rfl ?_
  refine r_iadd 347 hE (i + 1) dL_law_346 rfl rfl ?_
  refine r_sld 348 hE hX (by omega) dL_law_347 rfl ?_
  refine r_aload_n 349 hE 0 dL_law_348 rfl rfl rfl ?_
  refine r_iload_n 350 hE 3 dL_law_349 rfl rfl rfl ?_
  refine r_iconst 351 hE dL_law_350 rfl ?_
  refine r_iadd 352 hE (i + 2) dL_law_351 rfl rfl ?_
  refine r_sld 353 hE hX (by omega) dL_law_352 rfl ?_
  refine r_callV 356 hE [0] [1] [C] [M] 0 8 ok8 [] (P8_letter (u1 := sx xs (i + 1)) (u2 := sx xs (i + 2)) (by omega) (sx_rg _ _) (sx_rg _ _) hC) dL_law_353 rfl rfl wd_810 wd_811 wd_812 wd_1 wd_813 ne_X8 np_X8_letter (Nat.le_of_ble_eq_true rfl) (by decide) hkn rfl (Nat.le_of_ble_eq_true rfl) rfl rfl rfl rfl (by decide) hrc (fun v1 f1 hp => ?_)
  obtain ⟨r1, V9, C9, rfl, rfl, hC9, hA⟩ := hp
  show G g E 4 k n [C9, M] 356 [(0, .ref b), (1, .ref x), (2, .ref (mo 0)), (3, .int (iI i))] [.int (iI r1)]
  refine r_aload_n 357 hE 2 dL_law_356 rfl rfl rfl ?_
  refine r_aload_n 358 hE 0 dL_law_357 rfl rfl rfl ?_
  refine r_iload_n 359 hE 3 dL_law_358 rfl rfl rfl ?_
  refine r_iconst 360 hE dL_law_359 rfl ?_
  refine r_iadd 361 hE (i + 1) dL_law_360 rfl rfl ?_
  refine r_sld 362 hE hX (by omega) dL_law_361 rfl ?_
  refine r_aload_n 363 hE 0 dL_law_362 rfl rfl rfl ?_
  refine r_iload_n 364 hE 3 dL_law_363 rfl rfl rfl ?_
  refine r_iconst 365 hE dL_law_364 rfl ?_
  refine r_iadd 366 hE (i + 2) dL_law_365 rfl rfl ?_
  refine r_sld 367 hE hX (by omega) dL_law_366 rfl ?_
  refine r_callV 370 hE [1] [0] [M] [C9] 0 9 ok9 [.int (iI r1)] (P9_letter (u1 := sx xs (i + 1)) (u2 := sx xs (i + 2)) (sx_rg _ _) (sx_rg _ _) hM) dL_law_367 rfl rfl wd_1447 wd_1448 wd_1449 wd_12 wd_1450 ne_X9 np_X9_letter (Nat.le_of_ble_eq_true rfl) (by decide) hkn rfl (Nat.le_of_ble_eq_true rfl) rfl rfl rfl rfl (by decide) hrm (fun v1 f1 hp => ?_)
  obtain ⟨r2, W9, M9, rfl, rfl, hM9, hB⟩ := hp
  show G g E 4 k n [M9, C9] 370 [(0, .ref b), (1, .ref x), (2, .ref (mo 0)), (3, .int (iI i))] [.int (iI r2), .int (iI r1)]
  obtain ⟨hr, e9⟩ := TR_letter.one hC.vok e hA hB
  subst hr
  refine r_icmp_same 1168 hE dL_law_370 (by decide) ?_
  refine G.to (fs' := [C9, M9]) (lv' := [(0, .ref b), (1, .ref x), (2, .ref (mo 0)), (3, .int (iI i))]) [1, 0] [0, 1, 2, 3] rfl rfl rfl ?_
  exact next _ _ _ _ hC9 hM9 e9
set_option maxHeartbeats 4000000 in
set_option maxRecDepth 100000 in
theorem lc_rule {g : Gm} {E : Cx} {x b L k n : Nat} {mo : Nat → Nat} {xs : Nat → Int32} {i : Int} {V V2 : Vw} {C M : va_W} (hE : Ok g E 4 RL cL_law 2048 600000 7302250) (hkn : k ≤ 600000 ∧ n ≤ 7302250) (hX : ScrOk E b L xs) (hi : 0 ≤ i ∧ i + 6 ≤ (L : Int)) (hC : ClS g x i V C) (hM : MoS g mo V2 M) (e : VEq V V2) (next : ∀ (V9 W9 : Vw) (C9 M9 : va_W), ClS g x (i + 6) V9 C9 → MoS g mo W9 M9 → VEq V9 W9 → G g E 4 k n [C9, M9] 1168 [(0, .ref b), (1, .ref x), (2, .ref (mo 0)), (3, .int (iI i))] []) : G g E 4 k n [C, M] 375 [(0, .ref b), (1, .ref x), (2, .ref (mo 0)), (3, .int (iI i))] [] := by
  have hL := hX.2.2.2
  obtain ⟨vs, hrc⟩ := hC.rc
  obtain ⟨vs2, hrm⟩ := hM.rc
  refine r_aload_n 376 hE 1 dL_law_375 rfl rfl rfl ?_
  refine r_aload_n 377 hE 0 dL_law_376 rfl rfl rfl ?_
  refine r_iload_n 378 hE 3 dL_law_377 rfl rfl rfl ?_
  refine r_iconst 379 hE dL_law_378 rfl ?_
  refine r_iadd 380 hE (i + 1) dL_law_379 rfl rfl ?_
  refine r_sld 381 hE hX (by omega) dL_law_380 rfl ?_
  refine r_aload_n 382 hE 0 dL_law_381 rfl rfl rfl ?_
  refine r_iload_n 383 hE 3 dL_law_382 rfl rfl rfl ?_
  refine r_iconst 384 hE dL_law_383 rfl ?_
  refine r_iadd 385 hE (i + 2) dL_law_384 rfl rfl ?_
  refine r_sld 386 hE hX (by omega) dL_law_385 rfl ?_
  refine r_aload_n 387 hE 0 dL_law_386 rfl rfl rfl ?_
  refine r_iload_n 388 hE 3 dL_law_387 rfl rfl rfl ?_
  refine r_iconst 389 hE dL_law_388 rfl ?_
  refine r_iadd 390 hE (i + 3) dL_law_389 rfl rfl ?_
  refine r_sld 391 hE hX (by omega) dL_law_390 rfl ?_
  refine r_callV 394 hE [0] [1] [C] [M] 0 8 ok8 [] (P8_rule (u1 := sx xs (i + 1)) (u2 := sx xs (i + 2)) (u3 := sx xs (i + 3)) (by omega) (sx_rg _ _) (sx_rg _ _) (sx_rg _ _) hC) dL_law_391 rfl rfl wd_819 wd_820 wd_821 wd_1 wd_822 ne_X8 np_X8_rule (Nat.le_of_ble_eq_true rfl) (by decide) hkn rfl (Nat.le_of_ble_eq_true rfl) rfl rfl rfl rfl (by decide) hrc (fun v1 f1 hp => ?_)
  obtain ⟨r1, V9, C9, rfl, rfl, hC9, hA⟩ := hp
  show G g E 4 k n [C9, M] 394 [(0, .ref b), (1, .ref x), (2, .ref (mo 0)), (3, .int (iI i))] [.int (iI r1)]
  refine r_aload_n 395 hE 2 dL_law_394 rfl rfl rfl ?_
  refine r_aload_n 396 hE 0 dL_law_395 rfl rfl rfl ?_
  refine r_iload_n 397 hE 3 dL_law_396 rfl rfl rfl ?_
  refine r_iconst 398 hE dL_law_397 rfl ?_
  refine r_iadd 399 hE (i + 1) dL_law_398 rfl rfl ?_
  refine r_sld 400 hE hX (by omega) dL_law_399 rfl ?_
  refine r_aload_n 401 hE 0 dL_law_400 rfl rfl rfl ?_
  refine r_iload_n 402 hE 3 dL_law_401 rfl rfl rfl ?_
  refine r_iconst 403 hE dL_law_402 rfl ?_
  refine r_iadd 404 hE (i + 2) dL_law_403 rfl rfl ?_
  refine r_sld 405 hE hX (by omega) dL_law_404 rfl ?_
  refine r_aload_n 406 hE 0 dL_law_405 rfl rfl rfl ?_
  refine r_iload_n 407 hE 3 dL_law_406 rfl rfl rfl ?_
  refine r_iconst 408 hE dL_law_407 rfl ?_
  refine r_iadd 409 hE (i + 3) dL_law_408 rfl rfl ?_
  refine r_sld 410 hE hX (by omega) dL_law_409 rfl ?_
  refine r_callV 413 hE [1] [0] [M] [C9] 0 9 ok9 [.int (iI r1)] (P9_rule (u1 := sx xs (i + 1)) (u2 := sx xs (i + 2)) (u3 := sx xs (i + 3)) (sx_rg _ _) (sx_rg _ _) (sx_rg _ _) hM) dL_law_410 rfl rfl wd_1451 wd_1452 wd_1453 wd_12 wd_1454 ne_X9 np_X9_rule (Nat.le_of_ble_eq_true rfl) (by decide) hkn rfl (Nat.le_of_ble_eq_true rfl) rfl rfl rfl rfl (by decide) hrm (fun v1 f1 hp => ?_)
  obtain ⟨r2, W9, M9, rfl, rfl, hM9, hB⟩ := hp
  show G g E 4 k n [M9, C9] 413 [(0, .ref b), (1, .ref x), (2, .ref (mo 0)), (3, .int (iI i))] [.int (iI r2), .int (iI r1)]
  obtain ⟨hr, e9⟩ := TR_rule.one hC.vok e hA hB
  subst hr
  refine r_icmp_same 1168 hE dL_law_413 (by decide) ?_
  refine G.to (fs' := [C9, M9]) (lv' := [(0, .ref b), (1, .ref x), (2, .ref (mo 0)), (3, .int (iI i))]) [1, 0] [0, 1, 2, 3] rfl rfl rfl ?_
  exact next _ _ _ _ hC9 hM9 e9
set_option maxHeartbeats 4000000 in
set_option maxRecDepth 100000 in
theorem lc_around {g : Gm} {E : Cx} {x b L k n : Nat} {mo : Nat → Nat} {xs : Nat → Int32} {i : Int} {V V2 : Vw} {C M : va_W} (hE : Ok g E 4 RL cL_law 2048 600000 7302250) (hkn : k ≤ 600000 ∧ n ≤ 7302250) (hX : ScrOk E b L xs) (hi : 0 ≤ i ∧ i + 6 ≤ (L : Int)) (hC : ClS g x i V C) (hM : MoS g mo V2 M) (e : VEq V V2) (next : ∀ (V9 W9 : Vw) (C9 M9 : va_W), ClS g x (i + 6) V9 C9 → MoS g mo W9 M9 → VEq V9 W9 → G g E 4 k n [C9, M9] 1168 [(0, .ref b), (1, .ref x), (2, .ref (mo 0)), (3, .int (iI i))] []) : G g E 4 k n [C, M] 418 [(0, .ref b), (1, .ref x), (2, .ref (mo 0)), (3, .int (iI i))] [] := by
  have hL := hX.2.2.2
  obtain ⟨vs, hrc⟩ := hC.rc
  obtain ⟨vs2, hrm⟩ := hM.rc
  refine r_aload_n 419 hE 1 dL_law_418 rfl rfl rfl ?_
  refine r_aload_n 420 hE 0 dL_law_419 rfl rfl rfl ?_
  refine r_iload_n 421 hE 3 dL_law_420 rfl rfl rfl ?_
  refine r_iconst 422 hE dL_law_421 rfl ?_
  refine r_iadd 423 hE (i + 1) dL_law_422 rfl rfl ?_
  refine r_sld 424 hE hX (by omega) dL_law_423 rfl ?_
  refine r_aload_n 425 hE 0 dL_law_424 rfl rfl rfl ?_
  refine r_iload_n 426 hE 3 dL_law_425 rfl rfl rfl ?_
  refine r_iconst 427 hE dL_law_426 rfl ?_
  refine r_iadd 428 hE (i + 2) dL_law_427 rfl rfl ?_
  refine r_sld 429 hE hX (by omega) dL_law_428 rfl ?_
  refine r_aload_n 430 hE 0 dL_law_429 rfl rfl rfl ?_
  refine r_iload_n 431 hE 3 dL_law_430 rfl rfl rfl ?_
  refine r_iconst 432 hE dL_law_431 rfl ?_
  refine r_iadd 433 hE (i + 3) dL_law_432 rfl rfl ?_
  refine r_sld 434 hE hX (by omega) dL_law_433 rfl ?_
  refine r_callV 437 hE [0] [1] [C] [M] 0 8 ok8 [] (P8_around (u1 := sx xs (i + 1)) (u2 := sx xs (i + 2)) (u3 := sx xs (i + 3)) (by omega) (sx_rg _ _) (sx_rg _ _) (sx_rg _ _) hC) dL_law_434 rfl rfl wd_851 wd_852 wd_853 wd_1 wd_854 ne_X8 np_X8_around (Nat.le_of_ble_eq_true rfl) (by decide) hkn rfl (Nat.le_of_ble_eq_true rfl) rfl rfl rfl rfl (by decide) hrc (fun v1 f1 hp => ?_)
  obtain ⟨r1, V9, C9, rfl, rfl, hC9, hA⟩ := hp
  show G g E 4 k n [C9, M] 437 [(0, .ref b), (1, .ref x), (2, .ref (mo 0)), (3, .int (iI i))] [.int (iI r1)]
  refine r_aload_n 438 hE 2 dL_law_437 rfl rfl rfl ?_
  refine r_aload_n 439 hE 0 dL_law_438 rfl rfl rfl ?_
  refine r_iload_n 440 hE 3 dL_law_439 rfl rfl rfl ?_
  refine r_iconst 441 hE dL_law_440 rfl ?_
  refine r_iadd 442 hE (i + 1) dL_law_441 rfl rfl ?_
  refine r_sld 443 hE hX (by omega) dL_law_442 rfl ?_
  refine r_aload_n 444 hE 0 dL_law_443 rfl rfl rfl ?_
  refine r_iload_n 445 hE 3 dL_law_444 rfl rfl rfl ?_
  refine r_iconst 446 hE dL_law_445 rfl ?_
  refine r_iadd 447 hE (i + 2) dL_law_446 rfl rfl ?_
  refine r_sld 448 hE hX (by omega) dL_law_447 rfl ?_
  refine r_aload_n 449 hE 0 dL_law_448 rfl rfl rfl ?_
  refine r_iload_n 450 hE 3 dL_law_449 rfl rfl rfl ?_
  refine r_iconst 451 hE dL_law_450 rfl ?_
  refine r_iadd 452 hE (i + 3) dL_law_451 rfl rfl ?_
  refine r_sld 453 hE hX (by omega) dL_law_452 rfl ?_
  refine r_callV 456 hE [1] [0] [M] [C9] 0 9 ok9 [.int (iI r1)] (P9_around (u1 := sx xs (i + 1)) (u2 := sx xs (i + 2)) (u3 := sx xs (i + 3)) (sx_rg _ _) (sx_rg _ _) (sx_rg _ _) hM) dL_law_453 rfl rfl wd_1459 wd_1460 wd_1461 wd_12 wd_1462 ne_X9 np_X9_around (Nat.le_of_ble_eq_true rfl) (by decide) hkn rfl (Nat.le_of_ble_eq_true rfl) rfl rfl rfl rfl (by decide) hrm (fun v1 f1 hp => ?_)
  obtain ⟨r2, W9, M9, rfl, rfl, hM9, hB⟩ := hp
  show G g E 4 k n [M9, C9] 456 [(0, .ref b), (1, .ref x), (2, .ref (mo 0)), (3, .int (iI i))] [.int (iI r2), .int (iI r1)]
  obtain ⟨hr, e9⟩ := TR_around.one hC.vok e hA hB
  subst hr
  refine r_icmp_same 1168 hE dL_law_456 (by decide) ?_
  refine G.to (fs' := [C9, M9]) (lv' := [(0, .ref b), (1, .ref x), (2, .ref (mo 0)), (3, .int (iI i))]) [1, 0] [0, 1, 2, 3] rfl rfl rfl ?_
  exact next _ _ _ _ hC9 hM9 e9
set_option maxHeartbeats 4000000 in
set_option maxRecDepth 100000 in
theorem lc_value {g : Gm} {E : Cx} {x b L k n : Nat} {mo : Nat → Nat} {xs : Nat → Int32} {i : Int} {V V2 : Vw} {C M : va_W} (hE : Ok g E 4 RL cL_law 2048 600000 7302250) (hkn : k ≤ 600000 ∧ n ≤ 7302250) (hX : ScrOk E b L xs) (hi : 0 ≤ i ∧ i + 6 ≤ (L : Int)) (hC : ClS g x i V C) (hM : MoS g mo V2 M) (e : VEq V V2) (next : ∀ (V9 W9 : Vw) (C9 M9 : va_W), ClS g x (i + 6) V9 C9 → MoS g mo W9 M9 → VEq V9 W9 → G g E 4 k n [C9, M9] 1168 [(0, .ref b), (1, .ref x), (2, .ref (mo 0)), (3, .int (iI i))] []) : G g E 4 k n [C, M] 461 [(0, .ref b), (1, .ref x), (2, .ref (mo 0)), (3, .int (iI i))] [] := by
  have hL := hX.2.2.2
  obtain ⟨vs, hrc⟩ := hC.rc
  obtain ⟨vs2, hrm⟩ := hM.rc
  refine r_aload_n 462 hE 1 dL_law_461 rfl rfl rfl ?_
  refine r_aload_n 463 hE 0 dL_law_462 rfl rfl rfl ?_
  refine r_iload_n 464 hE 3 dL_law_463 rfl rfl rfl ?_
  refine r_iconst 465 hE dL_law_464 rfl ?_
  refine r_iadd 466 hE (i + 1) dL_law_465 rfl rfl ?_
  refine r_sld 467 hE hX (by omega) dL_law_466 rfl ?_
  refine r_callV 470 hE [0] [1] [C] [M] 0 8 ok8 [] (P8_value (u1 := sx xs (i + 1)) (by omega) (sx_rg _ _) hC) dL_law_467 rfl rfl wd_863 wd_864 wd_865 wd_1 wd_866 ne_X8 np_X8_value (Nat.le_of_ble_eq_true rfl) (by decide) hkn rfl (Nat.le_of_ble_eq_true rfl) rfl rfl rfl rfl (by decide) hrc (fun v1 f1 hp => ?_)
  obtain ⟨r1, V9, C9, rfl, rfl, hC9, hA⟩ := hp
  show G g E 4 k n [C9, M] 470 [(0, .ref b), (1, .ref x), (2, .ref (mo 0)), (3, .int (iI i))] [.long (lI r1)]
  refine r_aload_n 471 hE 2 dL_law_470 rfl rfl rfl ?_
  refine r_aload_n 472 hE 0 dL_law_471 rfl rfl rfl ?_
  refine r_iload_n 473 hE 3 dL_law_472 rfl rfl rfl ?_
  refine r_iconst 474 hE dL_law_473 rfl ?_
  refine r_iadd 475 hE (i + 1) dL_law_474 rfl rfl ?_
  refine r_sld 476 hE hX (by omega) dL_law_475 rfl ?_
  refine r_callV 479 hE [1] [0] [M] [C9] 0 9 ok9 [.long (lI r1)] (P9_value (u1 := sx xs (i + 1)) (sx_rg _ _) hM) dL_law_476 rfl rfl wd_1463 wd_1464 wd_1465 wd_12 wd_1466 ne_X9 np_X9_value (Nat.le_of_ble_eq_true rfl) (by decide) hkn rfl (Nat.le_of_ble_eq_true rfl) rfl rfl rfl rfl (by decide) hrm (fun v1 f1 hp => ?_)
  obtain ⟨r2, W9, M9, rfl, rfl, hM9, hB⟩ := hp
  show G g E 4 k n [M9, C9] 479 [(0, .ref b), (1, .ref x), (2, .ref (mo 0)), (3, .int (iI i))] [.long (lI r2), .long (lI r1)]
  obtain ⟨hr, e9⟩ := TR_value.one hC.vok e hA hB
  subst hr
  refine r_lcmp_same 480 1168 hE (off := 0) dL_law_479 rfl ?_
  refine r_if_eq 483 1168 hE dL_law_480 rfl (by decide) (by decide) (fun _ => ?_) (fun c9 => absurd rfl c9)
  refine G.to (fs' := [C9, M9]) (lv' := [(0, .ref b), (1, .ref x), (2, .ref (mo 0)), (3, .int (iI i))]) [1, 0] [0, 1, 2, 3] rfl rfl rfl ?_
  exact next _ _ _ _ hC9 hM9 e9
set_option maxHeartbeats 4000000 in
set_option maxRecDepth 100000 in
theorem lc_take {g : Gm} {E : Cx} {x b L k n : Nat} {mo : Nat → Nat} {xs : Nat → Int32} {i : Int} {V V2 : Vw} {C M : va_W} (hE : Ok g E 4 RL cL_law 2048 600000 7302250) (hkn : k ≤ 600000 ∧ n ≤ 7302250) (hX : ScrOk E b L xs) (hi : 0 ≤ i ∧ i + 6 ≤ (L : Int)) (hC : ClS g x i V C) (hM : MoS g mo V2 M) (e : VEq V V2) (next : ∀ (V9 W9 : Vw) (C9 M9 : va_W), ClS g x (i + 6) V9 C9 → MoS g mo W9 M9 → VEq V9 W9 → G g E 4 k n [C9, M9] 1168 [(0, .ref b), (1, .ref x), (2, .ref (mo 0)), (3, .int (iI i))] []) : G g E 4 k n [C, M] 485 [(0, .ref b), (1, .ref x), (2, .ref (mo 0)), (3, .int (iI i))] [] := by
  have hL := hX.2.2.2
  obtain ⟨vs, hrc⟩ := hC.rc
  obtain ⟨vs2, hrm⟩ := hM.rc
  refine r_aload_n 486 hE 1 dL_law_485 rfl rfl rfl ?_
  refine r_aload_n 487 hE 0 dL_law_486 rfl rfl rfl ?_
  refine r_iload_n 488 hE 3 dL_law_487 rfl rfl rfl ?_
  refine r_iconst 489 hE dL_law_488 rfl ?_
  refine r_iadd 490 hE (i + 1) dL_law_489 rfl rfl ?_
  refine r_sld 491 hE hX (by omega) dL_law_490 rfl ?_
  refine r_aload_n 492 hE 0 dL_law_491 rfl rfl rfl ?_
  refine r_iload_n 493 hE 3 dL_law_492 rfl rfl rfl ?_
  refine r_iconst 494 hE dL_law_493 rfl ?_
  refine r_iadd 495 hE (i + 2) dL_law_494 rfl rfl ?_
  refine r_sld 496 hE hX (by omega) dL_law_495 rfl ?_
  refine r_aload_n 497 hE 0 dL_law_496 rfl rfl rfl ?_
  refine r_iload_n 498 hE 3 dL_law_497 rfl rfl rfl ?_
  refine r_iconst 499 hE dL_law_498 rfl ?_
  refine r_iadd 500 hE (i + 3) dL_law_499 rfl rfl ?_
  refine r_sld 501 hE hX (by omega) dL_law_500 rfl ?_
  refine r_callV 504 hE [0] [1] [C] [M] 0 8 ok8 [] (P8_take (u1 := sx xs (i + 1)) (u2 := sx xs (i + 2)) (u3 := sx xs (i + 3)) (by omega) (sx_rg _ _) (sx_rg _ _) (sx_rg _ _) hC) dL_law_501 rfl rfl wd_869 wd_870 wd_871 wd_1 wd_872 ne_X8 np_X8_take (Nat.le_of_ble_eq_true rfl) (by decide) hkn rfl (Nat.le_of_ble_eq_true rfl) rfl rfl rfl rfl (by decide) hrc (fun v1 f1 hp => ?_)
  obtain ⟨r1, V9, C9, rfl, rfl, hC9, hA⟩ := hp
  show G g E 4 k n [C9, M] 504 [(0, .ref b), (1, .ref x), (2, .ref (mo 0)), (3, .int (iI i))] [.int (iI r1)]
  refine r_aload_n 505 hE 2 dL_law_504 rfl rfl rfl ?_
  refine r_aload_n 506 hE 0 dL_law_505 rfl rfl rfl ?_
  refine r_iload_n 507 hE 3 dL_law_506 rfl rfl rfl ?_
  refine r_iconst 508 hE dL_law_507 rfl ?_
  refine r_iadd 509 hE (i + 1) dL_law_508 rfl rfl ?_
  refine r_sld 510 hE hX (by omega) dL_law_509 rfl ?_
  refine r_aload_n 511 hE 0 dL_law_510 rfl rfl rfl ?_
  refine r_iload_n 512 hE 3 dL_law_511 rfl rfl rfl ?_
  refine r_iconst 513 hE dL_law_512 rfl ?_
  refine r_iadd 514 hE (i + 2) dL_law_513 rfl rfl ?_
  refine r_sld 515 hE hX (by omega) dL_law_514 rfl ?_
  refine r_aload_n 516 hE 0 dL_law_515 rfl rfl rfl ?_
  refine r_iload_n 517 hE 3 dL_law_516 rfl rfl rfl ?_
  refine r_iconst 518 hE dL_law_517 rfl ?_
  refine r_iadd 519 hE (i + 3) dL_law_518 rfl rfl ?_
  refine r_sld 520 hE hX (by omega) dL_law_519 rfl ?_
  refine r_callV 523 hE [1] [0] [M] [C9] 0 9 ok9 [.int (iI r1)] (P9_take (u1 := sx xs (i + 1)) (u2 := sx xs (i + 2)) (u3 := sx xs (i + 3)) (sx_rg _ _) (sx_rg _ _) (sx_rg _ _) hM) dL_law_520 rfl rfl wd_1342 wd_1343 wd_1344 wd_12 wd_1345 ne_X9 np_X9_take (Nat.le_of_ble_eq_true rfl) (by decide) hkn rfl (Nat.le_of_ble_eq_true rfl) rfl rfl rfl rfl (by decide) hrm (fun v1 f1 hp => ?_)
  obtain ⟨r2, W9, M9, rfl, rfl, hM9, hB⟩ := hp
  show G g E 4 k n [M9, C9] 523 [(0, .ref b), (1, .ref x), (2, .ref (mo 0)), (3, .int (iI i))] [.int (iI r2), .int (iI r1)]
  obtain ⟨hr, e9⟩ := TR_take.one hC.vok e hA hB
  subst hr
  refine r_icmp_same 1168 hE dL_law_523 (by decide) ?_
  refine G.to (fs' := [C9, M9]) (lv' := [(0, .ref b), (1, .ref x), (2, .ref (mo 0)), (3, .int (iI i))]) [1, 0] [0, 1, 2, 3] rfl rfl rfl ?_
  exact next _ _ _ _ hC9 hM9 e9
set_option maxHeartbeats 4000000 in
set_option maxRecDepth 100000 in
theorem lc_splice {g : Gm} {E : Cx} {x b L k n : Nat} {mo : Nat → Nat} {xs : Nat → Int32} {i : Int} {V V2 : Vw} {C M : va_W} (hE : Ok g E 4 RL cL_law 2048 600000 7302250) (hkn : k ≤ 600000 ∧ n ≤ 7302250) (hX : ScrOk E b L xs) (hi : 0 ≤ i ∧ i + 6 ≤ (L : Int)) (hC : ClS g x i V C) (hM : MoS g mo V2 M) (e : VEq V V2) (next : ∀ (V9 W9 : Vw) (C9 M9 : va_W), ClS g x (i + 6) V9 C9 → MoS g mo W9 M9 → VEq V9 W9 → G g E 4 k n [C9, M9] 1168 [(0, .ref b), (1, .ref x), (2, .ref (mo 0)), (3, .int (iI i))] []) : G g E 4 k n [C, M] 528 [(0, .ref b), (1, .ref x), (2, .ref (mo 0)), (3, .int (iI i))] [] := by
  have hL := hX.2.2.2
  obtain ⟨vs, hrc⟩ := hC.rc
  obtain ⟨vs2, hrm⟩ := hM.rc
  refine r_aload_n 529 hE 1 dL_law_528 rfl rfl rfl ?_
  refine r_aload_n 530 hE 0 dL_law_529 rfl rfl rfl ?_
  refine r_iload_n 531 hE 3 dL_law_530 rfl rfl rfl ?_
  refine r_iconst 532 hE dL_law_531 rfl ?_
  refine r_iadd 533 hE (i + 1) dL_law_532 rfl rfl ?_
  refine r_sld 534 hE hX (by omega) dL_law_533 rfl ?_
  refine r_aload_n 535 hE 0 dL_law_534 rfl rfl rfl ?_
  refine r_iload_n 536 hE 3 dL_law_535 rfl rfl rfl ?_
  refine r_iconst 537 hE dL_law_536 rfl ?_
  refine r_iadd 538 hE (i + 2) dL_law_537 rfl rfl ?_
  refine r_sld 539 hE hX (by omega) dL_law_538 rfl ?_
  refine r_aload_n 540 hE 0 dL_law_539 rfl rfl rfl ?_
  refine r_iload_n 541 hE 3 dL_law_540 rfl rfl rfl ?_
  refine r_iconst 542 hE dL_law_541 rfl ?_
  refine r_iadd 543 hE (i + 3) dL_law_542 rfl rfl ?_
  refine r_sld 544 hE hX (by omega) dL_law_543 rfl ?_
  refine r_aload_n 545 hE 0 dL_law_544 rfl rfl rfl ?_
  refine r_iload_n 546 hE 3 dL_law_545 rfl rfl rfl ?_
  refine r_iconst 547 hE dL_law_546 rfl ?_
  refine r_iadd 548 hE (i + 4) dL_law_547 rfl rfl ?_
  refine r_sld 549 hE hX (by omega) dL_law_548 rfl ?_
  refine r_callV 552 hE [0] [1] [C] [M] 0 8 ok8 [] (P8_splice (u1 := sx xs (i + 1)) (u2 := sx xs (i + 2)) (u3 := sx xs (i + 3)) (u4 := sx xs (i + 4)) (by omega) (sx_rg _ _) (sx_rg _ _) (sx_rg _ _) (sx_rg _ _) hC) dL_law_549 rfl rfl wd_888 wd_889 wd_890 wd_1 wd_891 ne_X8 np_X8_splice (Nat.le_of_ble_eq_true rfl) (by decide) hkn rfl (Nat.le_of_ble_eq_true rfl) rfl rfl rfl rfl (by decide) hrc (fun v1 f1 hp => ?_)
  obtain ⟨r1, V9, C9, rfl, rfl, hC9, hA⟩ := hp
  show G g E 4 k n [C9, M] 552 [(0, .ref b), (1, .ref x), (2, .ref (mo 0)), (3, .int (iI i))] [.int (iI r1)]
  refine r_aload_n 553 hE 2 dL_law_552 rfl rfl rfl ?_
  refine r_aload_n 554 hE 0 dL_law_553 rfl rfl rfl ?_
  refine r_iload_n 555 hE 3 dL_law_554 rfl rfl rfl ?_
  refine r_iconst 556 hE dL_law_555 rfl ?_
  refine r_iadd 557 hE (i + 1) dL_law_556 rfl rfl ?_
  refine r_sld 558 hE hX (by omega) dL_law_557 rfl ?_
  refine r_aload_n 559 hE 0 dL_law_558 rfl rfl rfl ?_
  refine r_iload_n 560 hE 3 dL_law_559 rfl rfl rfl ?_
  refine r_iconst 561 hE dL_law_560 rfl ?_
  refine r_iadd 562 hE (i + 2) dL_law_561 rfl rfl ?_
  refine r_sld 563 hE hX (by omega) dL_law_562 rfl ?_
  refine r_aload_n 564 hE 0 dL_law_563 rfl rfl rfl ?_
  refine r_iload_n 565 hE 3 dL_law_564 rfl rfl rfl ?_
  refine r_iconst 566 hE dL_law_565 rfl ?_
  refine r_iadd 567 hE (i + 3) dL_law_566 rfl rfl ?_
  refine r_sld 568 hE hX (by omega) dL_law_567 rfl ?_
  refine r_aload_n 569 hE 0 dL_law_568 rfl rfl rfl ?_
  refine r_iload_n 570 hE 3 dL_law_569 rfl rfl rfl ?_
  refine r_iconst 571 hE dL_law_570 rfl ?_
  refine r_iadd 572 hE (i + 4) dL_law_571 rfl rfl ?_
  refine r_sld 573 hE hX (by omega) dL_law_572 rfl ?_
  refine r_callV 576 hE [1] [0] [M] [C9] 0 9 ok9 [.int (iI r1)] (P9_splice (u1 := sx xs (i + 1)) (u2 := sx xs (i + 2)) (u3 := sx xs (i + 3)) (u4 := sx xs (i + 4)) (sx_rg _ _) (sx_rg _ _) (sx_rg _ _) (sx_rg _ _) hM) dL_law_573 rfl rfl wd_1362 wd_1363 wd_1364 wd_12 wd_1365 ne_X9 np_X9_splice (Nat.le_of_ble_eq_true rfl) (by decide) hkn rfl (Nat.le_of_ble_eq_true rfl) rfl rfl rfl rfl (by decide) hrm (fun v1 f1 hp => ?_)
  obtain ⟨r2, W9, M9, rfl, rfl, hM9, hB⟩ := hp
  show G g E 4 k n [M9, C9] 576 [(0, .ref b), (1, .ref x), (2, .ref (mo 0)), (3, .int (iI i))] [.int (iI r2), .int (iI r1)]
  obtain ⟨hr, e9⟩ := TR_splice.one hC.vok e hA hB
  subst hr
  refine r_icmp_same 1168 hE dL_law_576 (by decide) ?_
  refine G.to (fs' := [C9, M9]) (lv' := [(0, .ref b), (1, .ref x), (2, .ref (mo 0)), (3, .int (iI i))]) [1, 0] [0, 1, 2, 3] rfl rfl rfl ?_
  exact next _ _ _ _ hC9 hM9 e9
set_option maxHeartbeats 4000000 in
set_option maxRecDepth 100000 in
theorem lc_join {g : Gm} {E : Cx} {x b L k n : Nat} {mo : Nat → Nat} {xs : Nat → Int32} {i : Int} {V V2 : Vw} {C M : va_W} (hE : Ok g E 4 RL cL_law 2048 600000 7302250) (hkn : k ≤ 600000 ∧ n ≤ 7302250) (hX : ScrOk E b L xs) (hi : 0 ≤ i ∧ i + 6 ≤ (L : Int)) (hC : ClS g x i V C) (hM : MoS g mo V2 M) (e : VEq V V2) (next : ∀ (V9 W9 : Vw) (C9 M9 : va_W), ClS g x (i + 6) V9 C9 → MoS g mo W9 M9 → VEq V9 W9 → G g E 4 k n [C9, M9] 1168 [(0, .ref b), (1, .ref x), (2, .ref (mo 0)), (3, .int (iI i))] []) : G g E 4 k n [C, M] 581 [(0, .ref b), (1, .ref x), (2, .ref (mo 0)), (3, .int (iI i))] [] := by
  have hL := hX.2.2.2
  obtain ⟨vs, hrc⟩ := hC.rc
  obtain ⟨vs2, hrm⟩ := hM.rc
  refine r_aload_n 582 hE 1 dL_law_581 rfl rfl rfl ?_
  refine r_aload_n 583 hE 0 dL_law_582 rfl rfl rfl ?_
  refine r_iload_n 584 hE 3 dL_law_583 rfl rfl rfl ?_
  refine r_iconst 585 hE dL_law_584 rfl ?_
  refine r_iadd 586 hE (i + 1) dL_law_585 rfl rfl ?_
  refine r_sld 587 hE hX (by omega) dL_law_586 rfl ?_
  refine r_aload_n 588 hE 0 dL_law_587 rfl rfl rfl ?_
  refine r_iload_n 589 hE 3 dL_law_588 rfl rfl rfl ?_
  refine r_iconst 590 hE dL_law_589 rfl ?_
  refine r_iadd 591 hE (i + 2) dL_law_590 rfl rfl ?_
  refine r_sld 592 hE hX (by omega) dL_law_591 rfl ?_
  refine r_callV 595 hE [0] [1] [C] [M] 0 8 ok8 [] (P8_join (u1 := sx xs (i + 1)) (u2 := sx xs (i + 2)) (by omega) (sx_rg _ _) (sx_rg _ _) hC) dL_law_592 rfl rfl wd_901 wd_902 wd_903 wd_1 wd_904 ne_X8 np_X8_join (Nat.le_of_ble_eq_true rfl) (by decide) hkn rfl (Nat.le_of_ble_eq_true rfl) rfl rfl rfl rfl (by decide) hrc (fun v1 f1 hp => ?_)
  obtain ⟨r1, V9, C9, rfl, rfl, hC9, hA⟩ := hp
  show G g E 4 k n [C9, M] 595 [(0, .ref b), (1, .ref x), (2, .ref (mo 0)), (3, .int (iI i))] [.int (iI r1)]
  refine r_aload_n 596 hE 2 dL_law_595 rfl rfl rfl ?_
  refine r_aload_n 597 hE 0 dL_law_596 rfl rfl rfl ?_
  refine r_iload_n 598 hE 3 dL_law_597 rfl rfl rfl ?_
  refine r_iconst 599 hE dL_law_598 rfl ?_
  refine r_iadd 600 hE (i + 1) dL_law_599 rfl rfl ?_
  refine r_sld 601 hE hX (by omega) dL_law_600 rfl ?_
  refine r_aload_n 602 hE 0 dL_law_601 rfl rfl rfl ?_
  refine r_iload_n 603 hE 3 dL_law_602 rfl rfl rfl ?_
  refine r_iconst 604 hE dL_law_603 rfl ?_
  refine r_iadd 605 hE (i + 2) dL_law_604 rfl rfl ?_
  refine r_sld 606 hE hX (by omega) dL_law_605 rfl ?_
  refine r_callV 609 hE [1] [0] [M] [C9] 0 9 ok9 [.int (iI r1)] (P9_join (u1 := sx xs (i + 1)) (u2 := sx xs (i + 2)) (sx_rg _ _) (sx_rg _ _) hM) dL_law_606 rfl rfl wd_1378 wd_1379 wd_1380 wd_12 wd_1381 ne_X9 np_X9_join (Nat.le_of_ble_eq_true rfl) (by decide) hkn rfl (Nat.le_of_ble_eq_true rfl) rfl rfl rfl rfl (by decide) hrm (fun v1 f1 hp => ?_)
  obtain ⟨r2, W9, M9, rfl, rfl, hM9, hB⟩ := hp
  show G g E 4 k n [M9, C9] 609 [(0, .ref b), (1, .ref x), (2, .ref (mo 0)), (3, .int (iI i))] [.int (iI r2), .int (iI r1)]
  obtain ⟨hr, e9⟩ := TR_join.one hC.vok e hA hB
  subst hr
  refine r_icmp_same 1168 hE dL_law_609 (by decide) ?_
  refine G.to (fs' := [C9, M9]) (lv' := [(0, .ref b), (1, .ref x), (2, .ref (mo 0)), (3, .int (iI i))]) [1, 0] [0, 1, 2, 3] rfl rfl rfl ?_
  exact next _ _ _ _ hC9 hM9 e9
set_option maxHeartbeats 4000000 in
set_option maxRecDepth 100000 in
theorem lc_repeat {g : Gm} {E : Cx} {x b L k n : Nat} {mo : Nat → Nat} {xs : Nat → Int32} {i : Int} {V V2 : Vw} {C M : va_W} (hE : Ok g E 4 RL cL_law 2048 600000 7302250) (hkn : k ≤ 600000 ∧ n ≤ 7302250) (hX : ScrOk E b L xs) (hi : 0 ≤ i ∧ i + 6 ≤ (L : Int)) (hC : ClS g x i V C) (hM : MoS g mo V2 M) (e : VEq V V2) (next : ∀ (V9 W9 : Vw) (C9 M9 : va_W), ClS g x (i + 6) V9 C9 → MoS g mo W9 M9 → VEq V9 W9 → G g E 4 k n [C9, M9] 1168 [(0, .ref b), (1, .ref x), (2, .ref (mo 0)), (3, .int (iI i))] []) : G g E 4 k n [C, M] 614 [(0, .ref b), (1, .ref x), (2, .ref (mo 0)), (3, .int (iI i))] [] := by
  have hL := hX.2.2.2
  obtain ⟨vs, hrc⟩ := hC.rc
  obtain ⟨vs2, hrm⟩ := hM.rc
  refine r_aload_n 615 hE 1 dL_law_614 rfl rfl rfl ?_
  refine r_aload_n 616 hE 0 dL_law_615 rfl rfl rfl ?_
  refine r_iload_n 617 hE 3 dL_law_616 rfl rfl rfl ?_
  refine r_iconst 618 hE dL_law_617 rfl ?_
  refine r_iadd 619 hE (i + 1) dL_law_618 rfl rfl ?_
  refine r_sld 620 hE hX (by omega) dL_law_619 rfl ?_
  refine r_aload_n 621 hE 0 dL_law_620 rfl rfl rfl ?_
  refine r_iload_n 622 hE 3 dL_law_621 rfl rfl rfl ?_
  refine r_iconst 623 hE dL_law_622 rfl ?_
  refine r_iadd 624 hE (i + 2) dL_law_623 rfl rfl ?_
  refine r_sld 625 hE hX (by omega) dL_law_624 rfl ?_
  refine r_callV 628 hE [0] [1] [C] [M] 0 8 ok8 [] (P8_repeat (u1 := sx xs (i + 1)) (u2 := sx xs (i + 2)) (by omega) (sx_rg _ _) (sx_rg _ _) hC) dL_law_625 rfl rfl wd_905 wd_906 wd_907 wd_1 wd_908 ne_X8 np_X8_repeat (Nat.le_of_ble_eq_true rfl) (by decide) hkn rfl (Nat.le_of_ble_eq_true rfl) rfl rfl rfl rfl (by decide) hrc (fun v1 f1 hp => ?_)
  obtain ⟨r1, V9, C9, rfl, rfl, hC9, hA⟩ := hp
  show G g E 4 k n [C9, M] 628 [(0, .ref b), (1, .ref x), (2, .ref (mo 0)), (3, .int (iI i))] [.int (iI r1)]
  refine r_aload_n 629 hE 2 dL_law_628 rfl rfl rfl ?_
  refine r_aload_n 630 hE 0 dL_law_629 rfl rfl rfl ?_
  refine r_iload_n 631 hE 3 dL_law_630 rfl rfl rfl ?_
  refine r_iconst 632 hE dL_law_631 rfl ?_
  refine r_iadd 633 hE (i + 1) dL_law_632 rfl rfl ?_
  refine r_sld 634 hE hX (by omega) dL_law_633 rfl ?_
  refine r_aload_n 635 hE 0 dL_law_634 rfl rfl rfl ?_
  refine r_iload_n 636 hE 3 dL_law_635 rfl rfl rfl ?_
  refine r_iconst 637 hE dL_law_636 rfl ?_
  refine r_iadd 638 hE (i + 2) dL_law_637 rfl rfl ?_
  refine r_sld 639 hE hX (by omega) dL_law_638 rfl ?_
  refine r_callV 642 hE [1] [0] [M] [C9] 0 9 ok9 [.int (iI r1)] (P9_repeat (u1 := sx xs (i + 1)) (u2 := sx xs (i + 2)) (sx_rg _ _) (sx_rg _ _) hM) dL_law_639 rfl rfl wd_1382 wd_1383 wd_1384 wd_12 wd_1385 ne_X9 np_X9_repeat (Nat.le_of_ble_eq_true rfl) (by decide) hkn rfl (Nat.le_of_ble_eq_true rfl) rfl rfl rfl rfl (by decide) hrm (fun v1 f1 hp => ?_)
  obtain ⟨r2, W9, M9, rfl, rfl, hM9, hB⟩ := hp
  show G g E 4 k n [M9, C9] 642 [(0, .ref b), (1, .ref x), (2, .ref (mo 0)), (3, .int (iI i))] [.int (iI r2), .int (iI r1)]
  obtain ⟨hr, e9⟩ := TR_repeat.one hC.vok e hA hB
  subst hr
  refine r_icmp_same 1168 hE dL_law_642 (by decide) ?_
  refine G.to (fs' := [C9, M9]) (lv' := [(0, .ref b), (1, .ref x), (2, .ref (mo 0)), (3, .int (iI i))]) [1, 0] [0, 1, 2, 3] rfl rfl rfl ?_
  exact next _ _ _ _ hC9 hM9 e9
set_option maxHeartbeats 4000000 in
set_option maxRecDepth 100000 in
theorem lc_turn {g : Gm} {E : Cx} {x b L k n : Nat} {mo : Nat → Nat} {xs : Nat → Int32} {i : Int} {V V2 : Vw} {C M : va_W} (hE : Ok g E 4 RL cL_law 2048 600000 7302250) (hkn : k ≤ 600000 ∧ n ≤ 7302250) (hX : ScrOk E b L xs) (hi : 0 ≤ i ∧ i + 6 ≤ (L : Int)) (hC : ClS g x i V C) (hM : MoS g mo V2 M) (e : VEq V V2) (next : ∀ (V9 W9 : Vw) (C9 M9 : va_W), ClS g x (i + 6) V9 C9 → MoS g mo W9 M9 → VEq V9 W9 → G g E 4 k n [C9, M9] 1168 [(0, .ref b), (1, .ref x), (2, .ref (mo 0)), (3, .int (iI i))] []) : G g E 4 k n [C, M] 647 [(0, .ref b), (1, .ref x), (2, .ref (mo 0)), (3, .int (iI i))] [] := by
  have hL := hX.2.2.2
  obtain ⟨vs, hrc⟩ := hC.rc
  obtain ⟨vs2, hrm⟩ := hM.rc
  refine r_aload_n 648 hE 1 dL_law_647 rfl rfl rfl ?_
  refine r_aload_n 649 hE 0 dL_law_648 rfl rfl rfl ?_
  refine r_iload_n 650 hE 3 dL_law_649 rfl rfl rfl ?_
  refine r_iconst 651 hE dL_law_650 rfl ?_
  refine r_iadd 652 hE (i + 1) dL_law_651 rfl rfl ?_
  refine r_sld 653 hE hX (by omega) dL_law_652 rfl ?_
  refine r_callV 656 hE [0] [1] [C] [M] 0 8 ok8 [] (P8_turn (u1 := sx xs (i + 1)) (by omega) (sx_rg _ _) hC) dL_law_653 rfl rfl wd_910 wd_911 wd_912 wd_1 wd_913 ne_X8 np_X8_turn (Nat.le_of_ble_eq_true rfl) (by decide) hkn rfl (Nat.le_of_ble_eq_true rfl) rfl rfl rfl rfl (by decide) hrc (fun v1 f1 hp => ?_)
  obtain ⟨r1, V9, C9, rfl, rfl, hC9, hA⟩ := hp
  show G g E 4 k n [C9, M] 656 [(0, .ref b), (1, .ref x), (2, .ref (mo 0)), (3, .int (iI i))] [.int (iI r1)]
  refine r_aload_n 657 hE 2 dL_law_656 rfl rfl rfl ?_
  refine r_aload_n 658 hE 0 dL_law_657 rfl rfl rfl ?_
  refine r_iload_n 659 hE 3 dL_law_658 rfl rfl rfl ?_
  refine r_iconst 660 hE dL_law_659 rfl ?_
  refine r_iadd 661 hE (i + 1) dL_law_660 rfl rfl ?_
  refine r_sld 662 hE hX (by omega) dL_law_661 rfl ?_
  refine r_callV 665 hE [1] [0] [M] [C9] 0 9 ok9 [.int (iI r1)] (P9_turn (u1 := sx xs (i + 1)) (sx_rg _ _) hM) dL_law_662 rfl rfl wd_1386 wd_1387 wd_1388 wd_12 wd_1389 ne_X9 np_X9_turn (Nat.le_of_ble_eq_true rfl) (by decide) hkn rfl (Nat.le_of_ble_eq_true rfl) rfl rfl rfl rfl (by decide) hrm (fun v1 f1 hp => ?_)
  obtain ⟨r2, W9, M9, rfl, rfl, hM9, hB⟩ := hp
  show G g E 4 k n [M9, C9] 665 [(0, .ref b), (1, .ref x), (2, .ref (mo 0)), (3, .int (iI i))] [.int (iI r2), .int (iI r1)]
  obtain ⟨hr, e9⟩ := TR_turn.one hC.vok e hA hB
  subst hr
  refine r_icmp_same 1168 hE dL_law_665 (by decide) ?_
  refine G.to (fs' := [C9, M9]) (lv' := [(0, .ref b), (1, .ref x), (2, .ref (mo 0)), (3, .int (iI i))]) [1, 0] [0, 1, 2, 3] rfl rfl rfl ?_
  exact next _ _ _ _ hC9 hM9 e9
