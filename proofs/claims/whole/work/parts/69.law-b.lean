theorem lw_cmp {L i : Nat} (hL : L < 100000) (hi : i < 100000) : nI L - nI 6 < nI i ↔ L < i + 6 := by
  rw [Int32.lt_iff_toInt_lt, Int32.toInt_sub, nI_toInt (by omega), nI_toInt (by omega), nI_toInt (by omega)]
  rw [Int.bmod_eq_of_le (by omega) (by omega)]
  omega
set_option maxRecDepth 8000 in
set_option maxHeartbeats 4000000 in
theorem law_step {l : Launch} {G0 : zG} {τ : Nat → Nat} {Kp : Method → Prop} {b Ls : Nat} {xs : Nat → Int32} {sh : Nat → Nat × Nat} {L : List Nat} {cells slots : Nat} {Bs : Nat → Nat → Nat} {O A : Nat → Nat} (hL5 : Ls < 90000) (hfc : cells ≤ 600000) (hfs : slots ≤ 7302250) (hA : zAp Bs O A) (hO : O 0 ∈ L ∧ sh (O 0) = (6, 5)) (hAL : A 0 ∈ L ∧ sh (A 0) = (7, 15)) : ∀ (i : Nat) (mm : zM), i ≤ Ls + 6 → (∀ (i2 : Nat) (mm2 : zM), i < i2 ∧ i2 ≤ Ls + 6 → zTw (gx G0 sh L) Bs O A mm2 → zX l G0 τ (yL_law, cL_law, 4, ret) room_1 Kp (lwF G0 b Ls xs) lwA 18 [some (.ref b), some (.ref (O 0)), some (.ref (A 0)), some (.int (nI i2))] [] sh L mm2 cells slots) → zTw (gx G0 sh L) Bs O A mm → zX l G0 τ (yL_law, cL_law, 4, ret) room_1 Kp (lwF G0 b Ls xs) lwA 18 [some (.ref b), some (.ref (O 0)), some (.ref (A 0)), some (.int (nI i))] [] sh L mm cells slots := by
  intro i mm hi ih hT
  have back : ∀ mm, zTw (gx G0 sh L) Bs O A mm → i + 6 ≤ Ls → zX l G0 τ (yL_law, cL_law, 4, ret) room_1 Kp (lwF G0 b Ls xs) lwA 919 [some (.ref b), some (.ref (O 0)), some (.ref (A 0)), some (.int (nI i))] [] sh L mm cells slots := fun mm hT h6 => by
    refine x_iinc (v := nI (i + 6)) 3 rfl (by rw [show Int32.ofInt 6 = nI 6 from rfl, nI_add]) rfl dL_law_919 ?_
    refine x_goto 18 dL_law_922 rfl ?_
    exact ih (i + 6) mm ⟨by omega, by omega⟩ hT
  refine x_iload_n 3 rfl rfl dL_law_18 ?_
  refine x_aload_n 0 rfl rfl dL_law_19 ?_
  refine x_slen dL_law_20 ?_
  refine x_bipush (nI 6) dL_law_21 rfl ?_
  refine x_isub dL_law_23 ?_
  refine x_icmp_gt 925 dL_law_24 rfl (fun cT => ?_) (fun cF => ?_)
  · refine x_iconst 1 dL_law_925 (by decide) ?_
    exact x_ret1 hfc hfs dL_law_926
  · have h6 : i + 6 ≤ Ls := Nat.le_of_not_lt (fun z => cF ((lw_cmp (by omega) (by omega)).mpr z))
    have back := fun mm hT => back mm hT h6
    refine x_aload_n 0 rfl rfl dL_law_27 ?_
    refine x_iload_n 3 rfl rfl dL_law_28 ?_
    refine x_sld (n := i) rfl (by omega) (by omega) dL_law_29 ?_
    refine x_bipush (nI 31) dL_law_30 rfl ?_
    refine x_iand dL_law_32 ?_
    obtain ⟨w, hw⟩ : ∃ w, w = xs i &&& nI 31 := ⟨_, rfl⟩
    rw [← hw]
    by_cases hx : zIn w (nI 0) (nI 26) = true
    · obtain ⟨j, hj, hwj⟩ := zIn_nI (by decide) hx
      rw [hwj]
      clear hx hw hwj
      rcases (by omega : j = 0 ∨ j = 1 ∨ j = 2 ∨ j = 3 ∨ j = 4 ∨ j = 5 ∨ j = 6 ∨ j = 7 ∨ j = 8 ∨ j = 9 ∨ j = 10 ∨ j = 11 ∨ j = 12 ∨ j = 13 ∨ j = 14 ∨ j = 15 ∨ j = 16 ∨ j = 17 ∨ j = 18 ∨ j = 19 ∨ j = 20 ∨ j = 21 ∨ j = 22 ∨ j = 23 ∨ j = 24 ∨ j = 25 ∨ j = 26) with rfl | rfl | rfl | rfl | rfl | rfl | rfl | rfl | rfl | rfl | rfl | rfl | rfl | rfl | rfl | rfl | rfl | rfl | rfl | rfl | rfl | rfl | rfl | rfl | rfl | rfl | rfl
      · refine x_tableIn 156 dL_law_33 (by decide) (by decide) rfl rfl ?_
        obtain ⟨F, X, hC, hM⟩ := zP_addDate (l := l) hA (xs (i + 1)) (xs (i + 2)) (xs (i + 3)) (xs (i + 4)) (xs (i + 5)) mm hT
        refine x_aload_n 1 rfl rfl dL_law_156 ?_
        refine x_aload_n 0 rfl rfl dL_law_157 ?_
        refine x_iload_n 3 rfl rfl dL_law_158 ?_
        refine x_iconst (nI 1) dL_law_159 rfl ?_
        refine x_iadd dL_law_160 ?_
        refine x_sld (n := i + 1) (nI_add i 1) (by omega) (by omega) dL_law_161 ?_
        refine x_aload_n 0 rfl rfl dL_law_162 ?_
        refine x_iload_n 3 rfl rfl dL_law_163 ?_
        refine x_iconst (nI 2) dL_law_164 rfl ?_
        refine x_iadd dL_law_165 ?_
        refine x_sld (n := i + 2) (nI_add i 2) (by omega) (by omega) dL_law_166 ?_
        refine x_aload_n 0 rfl rfl dL_law_167 ?_
        refine x_iload_n 3 rfl rfl dL_law_168 ?_
        refine x_iconst (nI 3) dL_law_169 rfl ?_
        refine x_iadd dL_law_170 ?_
        refine x_sld (n := i + 3) (nI_add i 3) (by omega) (by omega) dL_law_171 ?_
        refine x_aload_n 0 rfl rfl dL_law_172 ?_
        refine x_iload_n 3 rfl rfl dL_law_173 ?_
        refine x_iconst (nI 4) dL_law_174 rfl ?_
        refine x_iadd dL_law_175 ?_
        refine x_sld (n := i + 4) (nI_add i 4) (by omega) (by omega) dL_law_176 ?_
        refine x_aload_n 0 rfl rfl dL_law_177 ?_
        refine x_iload_n 3 rfl rfl dL_law_178 ?_
        refine x_iconst (nI 5) dL_law_179 rfl ?_
        refine x_iadd dL_law_180 ?_
        refine x_sld (n := i + 5) (nI_add i 5) (by omega) (by omega) dL_law_181 ?_
        refine x_V5 zm_X6_addDate hC zl_L_13 rfl rfl (by decide) hO.1 hO.2 (by decide) (Nat.le_of_ble_eq_true rfl) dL_law_182 hfc hfs (fun mm hX => ?_)
        refine x_aload_n 2 rfl rfl dL_law_185 ?_
        refine x_aload_n 0 rfl rfl dL_law_186 ?_
        refine x_iload_n 3 rfl rfl dL_law_187 ?_
        refine x_iconst (nI 1) dL_law_188 rfl ?_
        refine x_iadd dL_law_189 ?_
        refine x_sld (n := i + 1) (nI_add i 1) (by omega) (by omega) dL_law_190 ?_
        refine x_aload_n 0 rfl rfl dL_law_191 ?_
        refine x_iload_n 3 rfl rfl dL_law_192 ?_
        refine x_iconst (nI 2) dL_law_193 rfl ?_
        refine x_iadd dL_law_194 ?_
        refine x_sld (n := i + 2) (nI_add i 2) (by omega) (by omega) dL_law_195 ?_
        refine x_aload_n 0 rfl rfl dL_law_196 ?_
        refine x_iload_n 3 rfl rfl dL_law_197 ?_
        refine x_iconst (nI 3) dL_law_198 rfl ?_
        refine x_iadd dL_law_199 ?_
        refine x_sld (n := i + 3) (nI_add i 3) (by omega) (by omega) dL_law_200 ?_
        refine x_aload_n 0 rfl rfl dL_law_201 ?_
        refine x_iload_n 3 rfl rfl dL_law_202 ?_
        refine x_iconst (nI 4) dL_law_203 rfl ?_
        refine x_iadd dL_law_204 ?_
        refine x_sld (n := i + 4) (nI_add i 4) (by omega) (by omega) dL_law_205 ?_
        refine x_aload_n 0 rfl rfl dL_law_206 ?_
        refine x_iload_n 3 rfl rfl dL_law_207 ?_
        refine x_iconst (nI 5) dL_law_208 rfl ?_
        refine x_iadd dL_law_209 ?_
        refine x_sld (n := i + 5) (nI_add i 5) (by omega) (by omega) dL_law_210 ?_
        refine x_V5 zm_X7_addDate (hM _ hX) zl_L_17 rfl rfl (by decide) hAL.1 hAL.2 (by decide) (Nat.le_of_ble_eq_true rfl) dL_law_211 hfc hfs (fun mm hT => ?_)
        refine x_icmp_eq 919 dL_law_214 rfl (fun _ => back mm hT) (fun c => absurd rfl c)
      · refine x_tableIn 219 dL_law_33 (by decide) (by decide) rfl rfl ?_
        obtain ⟨F, X, hC, hM⟩ := zP_setStage (l := l) hA (xs (i + 1)) (xs (i + 2)) (xs (i + 3)) mm hT
        refine x_aload_n 1 rfl rfl dL_law_219 ?_
        refine x_aload_n 0 rfl rfl dL_law_220 ?_
        refine x_iload_n 3 rfl rfl dL_law_221 ?_
        refine x_iconst (nI 1) dL_law_222 rfl ?_
        refine x_iadd dL_law_223 ?_
        refine x_sld (n := i + 1) (nI_add i 1) (by omega) (by omega) dL_law_224 ?_
        refine x_aload_n 0 rfl rfl dL_law_225 ?_
        refine x_iload_n 3 rfl rfl dL_law_226 ?_
        refine x_iconst (nI 2) dL_law_227 rfl ?_
        refine x_iadd dL_law_228 ?_
        refine x_sld (n := i + 2) (nI_add i 2) (by omega) (by omega) dL_law_229 ?_
        refine x_aload_n 0 rfl rfl dL_law_230 ?_
        refine x_iload_n 3 rfl rfl dL_law_231 ?_
        refine x_iconst (nI 3) dL_law_232 rfl ?_
        refine x_iadd dL_law_233 ?_
        refine x_sld (n := i + 3) (nI_add i 3) (by omega) (by omega) dL_law_234 ?_
        refine x_V3 zm_X6_setStage hC zl_L_18 rfl rfl (by decide) hO.1 hO.2 (by decide) (Nat.le_of_ble_eq_true rfl) dL_law_235 hfc hfs (fun mm hX => ?_)
        refine x_aload_n 2 rfl rfl dL_law_238 ?_
        refine x_aload_n 0 rfl rfl dL_law_239 ?_
        refine x_iload_n 3 rfl rfl dL_law_240 ?_
        refine x_iconst (nI 1) dL_law_241 rfl ?_
        refine x_iadd dL_law_242 ?_
        refine x_sld (n := i + 1) (nI_add i 1) (by omega) (by omega) dL_law_243 ?_
        refine x_aload_n 0 rfl rfl dL_law_244 ?_
        refine x_iload_n 3 rfl rfl dL_law_245 ?_
        refine x_iconst (nI 2) dL_law_246 rfl ?_
        refine x_iadd dL_law_247 ?_
        refine x_sld (n := i + 2) (nI_add i 2) (by omega) (by omega) dL_law_248 ?_
        refine x_aload_n 0 rfl rfl dL_law_249 ?_
        refine x_iload_n 3 rfl rfl dL_law_250 ?_
        refine x_iconst (nI 3) dL_law_251 rfl ?_
        refine x_iadd dL_law_252 ?_
        refine x_sld (n := i + 3) (nI_add i 3) (by omega) (by omega) dL_law_253 ?_
        refine x_V3 zm_X7_setStage (hM _ hX) zl_L_22 rfl rfl (by decide) hAL.1 hAL.2 (by decide) (Nat.le_of_ble_eq_true rfl) dL_law_254 hfc hfs (fun mm hT => ?_)
        refine x_icmp_eq 919 dL_law_257 rfl (fun _ => back mm hT) (fun c => absurd rfl c)
      · refine x_tableIn 262 dL_law_33 (by decide) (by decide) rfl rfl ?_
        obtain ⟨F, X, hC, hM⟩ := zP_set (l := l) hA (xs (i + 1)) (xs (i + 2)) mm hT
        refine x_aload_n 1 rfl rfl dL_law_262 ?_
        refine x_aload_n 0 rfl rfl dL_law_263 ?_
        refine x_iload_n 3 rfl rfl dL_law_264 ?_
        refine x_iconst (nI 1) dL_law_265 rfl ?_
        refine x_iadd dL_law_266 ?_
        refine x_sld (n := i + 1) (nI_add i 1) (by omega) (by omega) dL_law_267 ?_
        refine x_aload_n 0 rfl rfl dL_law_268 ?_
        refine x_iload_n 3 rfl rfl dL_law_269 ?_
        refine x_iconst (nI 2) dL_law_270 rfl ?_
        refine x_iadd dL_law_271 ?_
        refine x_sld (n := i + 2) (nI_add i 2) (by omega) (by omega) dL_law_272 ?_
        refine x_V2 zm_X6_set hC zl_L_23 rfl rfl (by decide) hO.1 hO.2 (by decide) (Nat.le_of_ble_eq_true rfl) dL_law_273 hfc hfs (fun mm hX => ?_)
        refine x_aload_n 2 rfl rfl dL_law_276 ?_
        refine x_aload_n 0 rfl rfl dL_law_277 ?_
        refine x_iload_n 3 rfl rfl dL_law_278 ?_
        refine x_iconst (nI 1) dL_law_279 rfl ?_
        refine x_iadd dL_law_280 ?_
        refine x_sld (n := i + 1) (nI_add i 1) (by omega) (by omega) dL_law_281 ?_
        refine x_aload_n 0 rfl rfl dL_law_282 ?_
        refine x_iload_n 3 rfl rfl dL_law_283 ?_
        refine x_iconst (nI 2) dL_law_284 rfl ?_
        refine x_iadd dL_law_285 ?_
        refine x_sld (n := i + 2) (nI_add i 2) (by omega) (by omega) dL_law_286 ?_
        refine x_V2 zm_X7_set (hM _ hX) zl_L_27 rfl rfl (by decide) hAL.1 hAL.2 (by decide) (Nat.le_of_ble_eq_true rfl) dL_law_287 hfc hfs (fun mm hT => ?_)
        refine x_icmp_eq 919 dL_law_290 rfl (fun _ => back mm hT) (fun c => absurd rfl c)
      · refine x_tableIn 295 dL_law_33 (by decide) (by decide) rfl rfl ?_
        obtain ⟨F, X, hC, hM⟩ := zP_buy (l := l) hA (xs (i + 1)) (xs (i + 2)) mm hT
        refine x_aload_n 1 rfl rfl dL_law_295 ?_
        refine x_aload_n 0 rfl rfl dL_law_296 ?_
        refine x_iload_n 3 rfl rfl dL_law_297 ?_
        refine x_iconst (nI 1) dL_law_298 rfl ?_
        refine x_iadd dL_law_299 ?_
        refine x_sld (n := i + 1) (nI_add i 1) (by omega) (by omega) dL_law_300 ?_
        refine x_aload_n 0 rfl rfl dL_law_301 ?_
        refine x_iload_n 3 rfl rfl dL_law_302 ?_
        refine x_iconst (nI 2) dL_law_303 rfl ?_
        refine x_iadd dL_law_304 ?_
        refine x_sld (n := i + 2) (nI_add i 2) (by omega) (by omega) dL_law_305 ?_
        refine x_V2 zm_X6_buy hC zl_L_28 rfl rfl (by decide) hO.1 hO.2 (by decide) (Nat.le_of_ble_eq_true rfl) dL_law_306 hfc hfs (fun mm hX => ?_)
        refine x_aload_n 2 rfl rfl dL_law_309 ?_
        refine x_aload_n 0 rfl rfl dL_law_310 ?_
        refine x_iload_n 3 rfl rfl dL_law_311 ?_
        refine x_iconst (nI 1) dL_law_312 rfl ?_
        refine x_iadd dL_law_313 ?_
        refine x_sld (n := i + 1) (nI_add i 1) (by omega) (by omega) dL_law_314 ?_
        refine x_aload_n 0 rfl rfl dL_law_315 ?_
        refine x_iload_n 3 rfl rfl dL_law_316 ?_
        refine x_iconst (nI 2) dL_law_317 rfl ?_
        refine x_iadd dL_law_318 ?_
        refine x_sld (n := i + 2) (nI_add i 2) (by omega) (by omega) dL_law_319 ?_
        refine x_V2 zm_X7_buy (hM _ hX) zl_L_31 rfl rfl (by decide) hAL.1 hAL.2 (by decide) (Nat.le_of_ble_eq_true rfl) dL_law_320 hfc hfs (fun mm hT => ?_)
        refine x_icmp_eq 919 dL_law_323 rfl (fun _ => back mm hT) (fun c => absurd rfl c)
      · refine x_tableIn 328 dL_law_33 (by decide) (by decide) rfl rfl ?_
        obtain ⟨F, X, hC, hM⟩ := zP_buyOffered (l := l) hA (xs (i + 1)) (xs (i + 2)) mm hT
        refine x_aload_n 1 rfl rfl dL_law_328 ?_
        refine x_aload_n 0 rfl rfl dL_law_329 ?_
        refine x_iload_n 3 rfl rfl dL_law_330 ?_
        refine x_iconst (nI 1) dL_law_331 rfl ?_
        refine x_iadd dL_law_332 ?_
        refine x_sld (n := i + 1) (nI_add i 1) (by omega) (by omega) dL_law_333 ?_
        refine x_aload_n 0 rfl rfl dL_law_334 ?_
        refine x_iload_n 3 rfl rfl dL_law_335 ?_
        refine x_iconst (nI 2) dL_law_336 rfl ?_
        refine x_iadd dL_law_337 ?_
        refine x_sld (n := i + 2) (nI_add i 2) (by omega) (by omega) dL_law_338 ?_
        refine x_V2 zm_X6_buyOffered hC zl_L_32 rfl rfl (by decide) hO.1 hO.2 (by decide) (Nat.le_of_ble_eq_true rfl) dL_law_339 hfc hfs (fun mm hX => ?_)
        refine x_aload_n 2 rfl rfl dL_law_342 ?_
        refine x_aload_n 0 rfl rfl dL_law_343 ?_
        refine x_iload_n 3 rfl rfl dL_law_344 ?_
        refine x_iconst (nI 1) dL_law_345 rfl ?_
        refine x_iadd dL_law_346 ?_
        refine x_sld (n := i + 1) (nI_add i 1) (by omega) (by omega) dL_law_347 ?_
        refine x_aload_n 0 rfl rfl dL_law_348 ?_
        refine x_iload_n 3 rfl rfl dL_law_349 ?_
        refine x_iconst (nI 2) dL_law_350 rfl ?_
        refine x_iadd dL_law_351 ?_
        refine x_sld (n := i + 2) (nI_add i 2) (by omega) (by omega) dL_law_352 ?_
        refine x_V2 zm_X7_buyOffered (hM _ hX) zl_L_35 rfl rfl (by decide) hAL.1 hAL.2 (by decide) (Nat.le_of_ble_eq_true rfl) dL_law_353 hfc hfs (fun mm hT => ?_)
        refine x_icmp_eq 919 dL_law_356 rfl (fun _ => back mm hT) (fun c => absurd rfl c)
      · refine x_tableIn 361 dL_law_33 (by decide) (by decide) rfl rfl ?_
        obtain ⟨F, X, hC, hM⟩ := zP_cancel (l := l) hA (xs (i + 1)) mm hT
        refine x_aload_n 1 rfl rfl dL_law_361 ?_
        refine x_aload_n 0 rfl rfl dL_law_362 ?_
        refine x_iload_n 3 rfl rfl dL_law_363 ?_
        refine x_iconst (nI 1) dL_law_364 rfl ?_
        refine x_iadd dL_law_365 ?_
        refine x_sld (n := i + 1) (nI_add i 1) (by omega) (by omega) dL_law_366 ?_
        refine x_V1 zm_X6_cancel hC zl_L_36 rfl rfl (by decide) hO.1 hO.2 (by decide) (Nat.le_of_ble_eq_true rfl) dL_law_367 hfc hfs (fun mm hX => ?_)
        refine x_aload_n 2 rfl rfl dL_law_370 ?_
        refine x_aload_n 0 rfl rfl dL_law_371 ?_
        refine x_iload_n 3 rfl rfl dL_law_372 ?_
        refine x_iconst (nI 1) dL_law_373 rfl ?_
        refine x_iadd dL_law_374 ?_
        refine x_sld (n := i + 1) (nI_add i 1) (by omega) (by omega) dL_law_375 ?_
        refine x_V1 zm_X7_cancel (hM _ hX) zl_L_40 rfl rfl (by decide) hAL.1 hAL.2 (by decide) (Nat.le_of_ble_eq_true rfl) dL_law_376 hfc hfs (fun mm hT => ?_)
        refine x_icmp_eq 919 dL_law_379 rfl (fun _ => back mm hT) (fun c => absurd rfl c)
      · refine x_tableIn 384 dL_law_33 (by decide) (by decide) rfl rfl ?_
        obtain ⟨F, X, hC, hM⟩ := zP_offer (l := l) hA (xs (i + 1)) (xs (i + 2)) mm hT
        refine x_aload_n 1 rfl rfl dL_law_384 ?_
        refine x_aload_n 0 rfl rfl dL_law_385 ?_
        refine x_iload_n 3 rfl rfl dL_law_386 ?_
        refine x_iconst (nI 1) dL_law_387 rfl ?_
        refine x_iadd dL_law_388 ?_
        refine x_sld (n := i + 1) (nI_add i 1) (by omega) (by omega) dL_law_389 ?_
        refine x_aload_n 0 rfl rfl dL_law_390 ?_
        refine x_iload_n 3 rfl rfl dL_law_391 ?_
        refine x_iconst (nI 2) dL_law_392 rfl ?_
        refine x_iadd dL_law_393 ?_
        refine x_sld (n := i + 2) (nI_add i 2) (by omega) (by omega) dL_law_394 ?_
        refine x_V2 zm_X6_offer hC zl_L_41 rfl rfl (by decide) hO.1 hO.2 (by decide) (Nat.le_of_ble_eq_true rfl) dL_law_395 hfc hfs (fun mm hX => ?_)
        refine x_aload_n 2 rfl rfl dL_law_398 ?_
        refine x_aload_n 0 rfl rfl dL_law_399 ?_
        refine x_iload_n 3 rfl rfl dL_law_400 ?_
        refine x_iconst (nI 1) dL_law_401 rfl ?_
        refine x_iadd dL_law_402 ?_
        refine x_sld (n := i + 1) (nI_add i 1) (by omega) (by omega) dL_law_403 ?_
        refine x_aload_n 0 rfl rfl dL_law_404 ?_
        refine x_iload_n 3 rfl rfl dL_law_405 ?_
        refine x_iconst (nI 2) dL_law_406 rfl ?_
        refine x_iadd dL_law_407 ?_
        refine x_sld (n := i + 2) (nI_add i 2) (by omega) (by omega) dL_law_408 ?_
        refine x_V2 zm_X7_offer (hM _ hX) zl_L_44 rfl rfl (by decide) hAL.1 hAL.2 (by decide) (Nat.le_of_ble_eq_true rfl) dL_law_409 hfc hfs (fun mm hT => ?_)
        refine x_icmp_eq 919 dL_law_412 rfl (fun _ => back mm hT) (fun c => absurd rfl c)
      · refine x_tableIn 417 dL_law_33 (by decide) (by decide) rfl rfl ?_
        obtain ⟨F, X, hC, hM⟩ := zP_takeBack (l := l) hA (xs (i + 1)) mm hT
        refine x_aload_n 1 rfl rfl dL_law_417 ?_
        refine x_aload_n 0 rfl rfl dL_law_418 ?_
        refine x_iload_n 3 rfl rfl dL_law_419 ?_
        refine x_iconst (nI 1) dL_law_420 rfl ?_
        refine x_iadd dL_law_421 ?_
        refine x_sld (n := i + 1) (nI_add i 1) (by omega) (by omega) dL_law_422 ?_
        refine x_V1 zm_X6_takeBack hC zl_L_45 rfl rfl (by decide) hO.1 hO.2 (by decide) (Nat.le_of_ble_eq_true rfl) dL_law_423 hfc hfs (fun mm hX => ?_)
        refine x_aload_n 2 rfl rfl dL_law_426 ?_
        refine x_aload_n 0 rfl rfl dL_law_427 ?_
        refine x_iload_n 3 rfl rfl dL_law_428 ?_
        refine x_iconst (nI 1) dL_law_429 rfl ?_
        refine x_iadd dL_law_430 ?_
        refine x_sld (n := i + 1) (nI_add i 1) (by omega) (by omega) dL_law_431 ?_
        refine x_V1 zm_X7_takeBack (hM _ hX) zl_L_48 rfl rfl (by decide) hAL.1 hAL.2 (by decide) (Nat.le_of_ble_eq_true rfl) dL_law_432 hfc hfs (fun mm hT => ?_)
        refine x_icmp_eq 919 dL_law_435 rfl (fun _ => back mm hT) (fun c => absurd rfl c)
      · refine x_tableIn 440 dL_law_33 (by decide) (by decide) rfl rfl ?_
        obtain ⟨F, X, hC, hM⟩ := zP_exercise (l := l) hA (xs (i + 1)) mm hT
        refine x_aload_n 1 rfl rfl dL_law_440 ?_
        refine x_aload_n 0 rfl rfl dL_law_441 ?_
        refine x_iload_n 3 rfl rfl dL_law_442 ?_
        refine x_iconst (nI 1) dL_law_443 rfl ?_
        refine x_iadd dL_law_444 ?_
        refine x_sld (n := i + 1) (nI_add i 1) (by omega) (by omega) dL_law_445 ?_
        refine x_V1 zm_X6_exercise hC zl_L_49 rfl rfl (by decide) hO.1 hO.2 (by decide) (Nat.le_of_ble_eq_true rfl) dL_law_446 hfc hfs (fun mm hX => ?_)
        refine x_aload_n 2 rfl rfl dL_law_449 ?_
        refine x_aload_n 0 rfl rfl dL_law_450 ?_
        refine x_iload_n 3 rfl rfl dL_law_451 ?_
        refine x_iconst (nI 1) dL_law_452 rfl ?_
        refine x_iadd dL_law_453 ?_
        refine x_sld (n := i + 1) (nI_add i 1) (by omega) (by omega) dL_law_454 ?_
        refine x_V1 zm_X7_exercise (hM _ hX) zl_L_52 rfl rfl (by decide) hAL.1 hAL.2 (by decide) (Nat.le_of_ble_eq_true rfl) dL_law_455 hfc hfs (fun mm hT => ?_)
        refine x_icmp_eq 919 dL_law_458 rfl (fun _ => back mm hT) (fun c => absurd rfl c)
      · refine x_tableIn 463 dL_law_33 (by decide) (by decide) rfl rfl ?_
        obtain ⟨F, X, hC, hM⟩ := zP_await (l := l) hA (xs (i + 1)) (xs (i + 2)) mm hT
        refine x_aload_n 1 rfl rfl dL_law_463 ?_
        refine x_aload_n 0 rfl rfl dL_law_464 ?_
        refine x_iload_n 3 rfl rfl dL_law_465 ?_
        refine x_iconst (nI 1) dL_law_466 rfl ?_
        refine x_iadd dL_law_467 ?_
        refine x_sld (n := i + 1) (nI_add i 1) (by omega) (by omega) dL_law_468 ?_
        refine x_aload_n 0 rfl rfl dL_law_469 ?_
        refine x_iload_n 3 rfl rfl dL_law_470 ?_
        refine x_iconst (nI 2) dL_law_471 rfl ?_
        refine x_iadd dL_law_472 ?_
        refine x_sld (n := i + 2) (nI_add i 2) (by omega) (by omega) dL_law_473 ?_
        refine x_V2 zm_X6_await hC zl_L_53 rfl rfl (by decide) hO.1 hO.2 (by decide) (Nat.le_of_ble_eq_true rfl) dL_law_474 hfc hfs (fun mm hX => ?_)
        refine x_aload_n 2 rfl rfl dL_law_477 ?_
        refine x_aload_n 0 rfl rfl dL_law_478 ?_
        refine x_iload_n 3 rfl rfl dL_law_479 ?_
        refine x_iconst (nI 1) dL_law_480 rfl ?_
        refine x_iadd dL_law_481 ?_
        refine x_sld (n := i + 1) (nI_add i 1) (by omega) (by omega) dL_law_482 ?_
        refine x_aload_n 0 rfl rfl dL_law_483 ?_
        refine x_iload_n 3 rfl rfl dL_law_484 ?_
        refine x_iconst (nI 2) dL_law_485 rfl ?_
        refine x_iadd dL_law_486 ?_
        refine x_sld (n := i + 2) (nI_add i 2) (by omega) (by omega) dL_law_487 ?_
        refine x_V2 zm_X7_await (hM _ hX) zl_L_56 rfl rfl (by decide) hAL.1 hAL.2 (by decide) (Nat.le_of_ble_eq_true rfl) dL_law_488 hfc hfs (fun mm hT => ?_)
        refine x_icmp_eq 919 dL_law_491 rfl (fun _ => back mm hT) (fun c => absurd rfl c)
      · refine x_tableIn 496 dL_law_33 (by decide) (by decide) rfl rfl ?_
        obtain ⟨F, X, hC, hM⟩ := zP_leave (l := l) hA (xs (i + 1)) (xs (i + 2)) mm hT
        refine x_aload_n 1 rfl rfl dL_law_496 ?_
        refine x_aload_n 0 rfl rfl dL_law_497 ?_
        refine x_iload_n 3 rfl rfl dL_law_498 ?_
        refine x_iconst (nI 1) dL_law_499 rfl ?_
        refine x_iadd dL_law_500 ?_
        refine x_sld (n := i + 1) (nI_add i 1) (by omega) (by omega) dL_law_501 ?_
        refine x_aload_n 0 rfl rfl dL_law_502 ?_
        refine x_iload_n 3 rfl rfl dL_law_503 ?_
        refine x_iconst (nI 2) dL_law_504 rfl ?_
        refine x_iadd dL_law_505 ?_
        refine x_sld (n := i + 2) (nI_add i 2) (by omega) (by omega) dL_law_506 ?_
        refine x_V2 zm_X6_leave hC zl_L_57 rfl rfl (by decide) hO.1 hO.2 (by decide) (Nat.le_of_ble_eq_true rfl) dL_law_507 hfc hfs (fun mm hX => ?_)
        refine x_aload_n 2 rfl rfl dL_law_510 ?_
        refine x_aload_n 0 rfl rfl dL_law_511 ?_
        refine x_iload_n 3 rfl rfl dL_law_512 ?_
        refine x_iconst (nI 1) dL_law_513 rfl ?_
        refine x_iadd dL_law_514 ?_
        refine x_sld (n := i + 1) (nI_add i 1) (by omega) (by omega) dL_law_515 ?_
        refine x_aload_n 0 rfl rfl dL_law_516 ?_
        refine x_iload_n 3 rfl rfl dL_law_517 ?_
        refine x_iconst (nI 2) dL_law_518 rfl ?_
        refine x_iadd dL_law_519 ?_
        refine x_sld (n := i + 2) (nI_add i 2) (by omega) (by omega) dL_law_520 ?_
        refine x_V2 zm_X7_leave (hM _ hX) zl_L_60 rfl rfl (by decide) hAL.1 hAL.2 (by decide) (Nat.le_of_ble_eq_true rfl) dL_law_521 hfc hfs (fun mm hT => ?_)
        refine x_icmp_eq 919 dL_law_524 rfl (fun _ => back mm hT) (fun c => absurd rfl c)
      · refine x_tableIn 529 dL_law_33 (by decide) (by decide) rfl rfl ?_
        obtain ⟨F, X, hC, hM⟩ := zP_pass (l := l) hA (xs (i + 1)) mm hT
        refine x_aload_n 1 rfl rfl dL_law_529 ?_
        refine x_aload_n 0 rfl rfl dL_law_530 ?_
        refine x_iload_n 3 rfl rfl dL_law_531 ?_
        refine x_iconst (nI 1) dL_law_532 rfl ?_
        refine x_iadd dL_law_533 ?_
        refine x_sld (n := i + 1) (nI_add i 1) (by omega) (by omega) dL_law_534 ?_
        refine x_V1 zm_X6_pass hC zl_L_61 rfl rfl (by decide) hO.1 hO.2 (by decide) (Nat.le_of_ble_eq_true rfl) dL_law_535 hfc hfs (fun mm hX => ?_)
        refine x_aload_n 2 rfl rfl dL_law_538 ?_
        refine x_aload_n 0 rfl rfl dL_law_539 ?_
        refine x_iload_n 3 rfl rfl dL_law_540 ?_
        refine x_iconst (nI 1) dL_law_541 rfl ?_
        refine x_iadd dL_law_542 ?_
        refine x_sld (n := i + 1) (nI_add i 1) (by omega) (by omega) dL_law_543 ?_
        refine x_V1 zm_X7_pass (hM _ hX) zl_L_64 rfl rfl (by decide) hAL.1 hAL.2 (by decide) (Nat.le_of_ble_eq_true rfl) dL_law_544 hfc hfs (fun mm hT => ?_)
        refine x_icmp_eq 919 dL_law_547 rfl (fun _ => back mm hT) (fun c => absurd rfl c)
      · refine x_tableIn 552 dL_law_33 (by decide) (by decide) rfl rfl ?_
        obtain ⟨F, X, hC, hM⟩ := zP_type (l := l) hA (((xs (i + 1)).toUInt32 % 65536).toInt32) (pk_vc _) mm hT
        refine x_aload_n 1 rfl rfl dL_law_552 ?_
        refine x_aload_n 0 rfl rfl dL_law_553 ?_
        refine x_iload_n 3 rfl rfl dL_law_554 ?_
        refine x_iconst (nI 1) dL_law_555 rfl ?_
        refine x_iadd dL_law_556 ?_
        refine x_sld (n := i + 1) (nI_add i 1) (by omega) (by omega) dL_law_557 ?_
        refine x_i2c _ dL_law_558 rfl ?_
        refine x_V1 zm_X6_type hC zl_L_65 rfl rfl (by decide) hO.1 hO.2 (by decide) (Nat.le_of_ble_eq_true rfl) dL_law_559 hfc hfs (fun mm hX => ?_)
        refine x_aload_n 2 rfl rfl dL_law_562 ?_
        refine x_aload_n 0 rfl rfl dL_law_563 ?_
        refine x_iload_n 3 rfl rfl dL_law_564 ?_
        refine x_iconst (nI 1) dL_law_565 rfl ?_
        refine x_iadd dL_law_566 ?_
        refine x_sld (n := i + 1) (nI_add i 1) (by omega) (by omega) dL_law_567 ?_
        refine x_i2c _ dL_law_568 rfl ?_
        refine x_V1 zm_X7_type (hM _ hX) zl_L_69 rfl rfl (by decide) hAL.1 hAL.2 (by decide) (Nat.le_of_ble_eq_true rfl) dL_law_569 hfc hfs (fun mm hT => ?_)
        refine x_icmp_eq 919 dL_law_572 rfl (fun _ => back mm hT) (fun c => absurd rfl c)
      · refine x_tableIn 577 dL_law_33 (by decide) (by decide) rfl rfl ?_
        obtain ⟨F, X, hC, hM⟩ := zP_clearText (l := l) hA  mm hT
        refine x_aload_n 1 rfl rfl dL_law_577 ?_
        refine x_V0 zm_X6_clearText hC zl_L_70 rfl rfl (by decide) hO.1 hO.2 (by decide) (Nat.le_of_ble_eq_true rfl) dL_law_578 hfc hfs (fun mm hX => ?_)
        refine x_aload_n 2 rfl rfl dL_law_581 ?_
        refine x_V0 zm_X7_clearText (hM _ hX) zl_L_74 rfl rfl (by decide) hAL.1 hAL.2 (by decide) (Nat.le_of_ble_eq_true rfl) dL_law_582 hfc hfs (fun mm hT => ?_)
        refine x_icmp_eq 919 dL_law_585 rfl (fun _ => back mm hT) (fun c => absurd rfl c)
      · refine x_tableIn 590 dL_law_33 (by decide) (by decide) rfl rfl ?_
        obtain ⟨F, X, hC, hM⟩ := zP_perform (l := l) hA  mm hT
        refine x_aload_n 1 rfl rfl dL_law_590 ?_
        refine x_V0 zm_X6_perform hC zl_L_75 rfl rfl (by decide) hO.1 hO.2 (by decide) (Nat.le_of_ble_eq_true rfl) dL_law_591 hfc hfs (fun mm hX => ?_)
        refine x_aload_n 2 rfl rfl dL_law_594 ?_
        refine x_V0 zm_X7_perform (hM _ hX) zl_L_78 rfl rfl (by decide) hAL.1 hAL.2 (by decide) (Nat.le_of_ble_eq_true rfl) dL_law_595 hfc hfs (fun mm hT => ?_)
        refine x_icmp_eq 919 dL_law_598 rfl (fun _ => back mm hT) (fun c => absurd rfl c)
      · refine x_tableIn 603 dL_law_33 (by decide) (by decide) rfl rfl ?_
        obtain ⟨F, X, hC, hM⟩ := zP_undo (l := l) hA  mm hT
        refine x_aload_n 1 rfl rfl dL_law_603 ?_
        refine x_V0 zm_X6_undo hC zl_L_79 rfl rfl (by decide) hO.1 hO.2 (by decide) (Nat.le_of_ble_eq_true rfl) dL_law_604 hfc hfs (fun mm hX => ?_)
        refine x_aload_n 2 rfl rfl dL_law_607 ?_
        refine x_V0 zm_X7_undo (hM _ hX) zl_L_82 rfl rfl (by decide) hAL.1 hAL.2 (by decide) (Nat.le_of_ble_eq_true rfl) dL_law_608 hfc hfs (fun mm hT => ?_)
        refine x_icmp_eq 919 dL_law_611 rfl (fun _ => back mm hT) (fun c => absurd rfl c)
      · refine x_tableIn 616 dL_law_33 (by decide) (by decide) rfl rfl ?_
        obtain ⟨F, X, hC, hM⟩ := zP_keep (l := l) hA  mm hT
        refine x_aload_n 1 rfl rfl dL_law_616 ?_
        refine x_V0 zm_X6_keep hC zl_L_83 rfl rfl (by decide) hO.1 hO.2 (by decide) (Nat.le_of_ble_eq_true rfl) dL_law_617 hfc hfs (fun mm hX => ?_)
        refine x_aload_n 2 rfl rfl dL_law_620 ?_
        refine x_V0 zm_X7_keep (hM _ hX) zl_L_86 rfl rfl (by decide) hAL.1 hAL.2 (by decide) (Nat.le_of_ble_eq_true rfl) dL_law_621 hfc hfs (fun mm hT => ?_)
        refine x_icmp_eq 919 dL_law_624 rfl (fun _ => back mm hT) (fun c => absurd rfl c)
      · refine x_tableIn 629 dL_law_33 (by decide) (by decide) rfl rfl ?_
        obtain ⟨F, X, hC, hM⟩ := zP_restore (l := l) hA  mm hT
        refine x_aload_n 1 rfl rfl dL_law_629 ?_
        refine x_V0 zm_X6_restore hC zl_L_87 rfl rfl (by decide) hO.1 hO.2 (by decide) (Nat.le_of_ble_eq_true rfl) dL_law_630 hfc hfs (fun mm hX => ?_)
        refine x_aload_n 2 rfl rfl dL_law_633 ?_
        refine x_V0 zm_X7_restore (hM _ hX) zl_L_90 rfl rfl (by decide) hAL.1 hAL.2 (by decide) (Nat.le_of_ble_eq_true rfl) dL_law_634 hfc hfs (fun mm hT => ?_)
        refine x_icmp_eq 919 dL_law_637 rfl (fun _ => back mm hT) (fun c => absurd rfl c)
      · refine x_tableIn 642 dL_law_33 (by decide) (by decide) rfl rfl ?_
        obtain ⟨F, X, hC, hM⟩ := zP_date (l := l) hA (xs (i + 1)) (xs (i + 2)) mm hT
        refine x_aload_n 1 rfl rfl dL_law_642 ?_
        refine x_aload_n 0 rfl rfl dL_law_643 ?_
        refine x_iload_n 3 rfl rfl dL_law_644 ?_
        refine x_iconst (nI 1) dL_law_645 rfl ?_
        refine x_iadd dL_law_646 ?_
        refine x_sld (n := i + 1) (nI_add i 1) (by omega) (by omega) dL_law_647 ?_
        refine x_aload_n 0 rfl rfl dL_law_648 ?_
        refine x_iload_n 3 rfl rfl dL_law_649 ?_
        refine x_iconst (nI 2) dL_law_650 rfl ?_
        refine x_iadd dL_law_651 ?_
        refine x_sld (n := i + 2) (nI_add i 2) (by omega) (by omega) dL_law_652 ?_
        refine x_V2 zm_X6_date hC zl_L_91 rfl rfl (by decide) hO.1 hO.2 (by decide) (Nat.le_of_ble_eq_true rfl) dL_law_653 hfc hfs (fun mm hX => ?_)
        refine x_aload_n 2 rfl rfl dL_law_656 ?_
        refine x_aload_n 0 rfl rfl dL_law_657 ?_
        refine x_iload_n 3 rfl rfl dL_law_658 ?_
        refine x_iconst (nI 1) dL_law_659 rfl ?_
        refine x_iadd dL_law_660 ?_
        refine x_sld (n := i + 1) (nI_add i 1) (by omega) (by omega) dL_law_661 ?_
        refine x_aload_n 0 rfl rfl dL_law_662 ?_
        refine x_iload_n 3 rfl rfl dL_law_663 ?_
        refine x_iconst (nI 2) dL_law_664 rfl ?_
        refine x_iadd dL_law_665 ?_
        refine x_sld (n := i + 2) (nI_add i 2) (by omega) (by omega) dL_law_666 ?_
        refine x_V2 zm_X7_date (hM _ hX) zl_L_94 rfl rfl (by decide) hAL.1 hAL.2 (by decide) (Nat.le_of_ble_eq_true rfl) dL_law_667 hfc hfs (fun mm hT => ?_)
        refine x_icmp_eq 919 dL_law_670 rfl (fun _ => back mm hT) (fun c => absurd rfl c)
      · refine x_tableIn 675 dL_law_33 (by decide) (by decide) rfl rfl ?_
        obtain ⟨F, X, hC, hM⟩ := zP_waiting (l := l) hA (xs (i + 1)) (xs (i + 2)) mm hT
        refine x_aload_n 1 rfl rfl dL_law_675 ?_
        refine x_aload_n 0 rfl rfl dL_law_676 ?_
        refine x_iload_n 3 rfl rfl dL_law_677 ?_
        refine x_iconst (nI 1) dL_law_678 rfl ?_
        refine x_iadd dL_law_679 ?_
        refine x_sld (n := i + 1) (nI_add i 1) (by omega) (by omega) dL_law_680 ?_
        refine x_aload_n 0 rfl rfl dL_law_681 ?_
        refine x_iload_n 3 rfl rfl dL_law_682 ?_
        refine x_iconst (nI 2) dL_law_683 rfl ?_
        refine x_iadd dL_law_684 ?_
        refine x_sld (n := i + 2) (nI_add i 2) (by omega) (by omega) dL_law_685 ?_
        refine x_V2 zm_X6_waiting hC zl_L_95 rfl rfl (by decide) hO.1 hO.2 (by decide) (Nat.le_of_ble_eq_true rfl) dL_law_686 hfc hfs (fun mm hX => ?_)
        refine x_aload_n 2 rfl rfl dL_law_689 ?_
        refine x_aload_n 0 rfl rfl dL_law_690 ?_
        refine x_iload_n 3 rfl rfl dL_law_691 ?_
        refine x_iconst (nI 1) dL_law_692 rfl ?_
        refine x_iadd dL_law_693 ?_
        refine x_sld (n := i + 1) (nI_add i 1) (by omega) (by omega) dL_law_694 ?_
        refine x_aload_n 0 rfl rfl dL_law_695 ?_
        refine x_iload_n 3 rfl rfl dL_law_696 ?_
        refine x_iconst (nI 2) dL_law_697 rfl ?_
        refine x_iadd dL_law_698 ?_
        refine x_sld (n := i + 2) (nI_add i 2) (by omega) (by omega) dL_law_699 ?_
        refine x_V2 zm_X7_waiting (hM _ hX) zl_L_98 rfl rfl (by decide) hAL.1 hAL.2 (by decide) (Nat.le_of_ble_eq_true rfl) dL_law_700 hfc hfs (fun mm hT => ?_)
        refine x_icmp_eq 919 dL_law_703 rfl (fun _ => back mm hT) (fun c => absurd rfl c)
      · refine x_tableIn 708 dL_law_33 (by decide) (by decide) rfl rfl ?_
        obtain ⟨F, X, hC, hM⟩ := zP_right (l := l) hA (xs (i + 1)) (xs (i + 2)) mm hT
        refine x_aload_n 1 rfl rfl dL_law_708 ?_
        refine x_aload_n 0 rfl rfl dL_law_709 ?_
        refine x_iload_n 3 rfl rfl dL_law_710 ?_
        refine x_iconst (nI 1) dL_law_711 rfl ?_
        refine x_iadd dL_law_712 ?_
        refine x_sld (n := i + 1) (nI_add i 1) (by omega) (by omega) dL_law_713 ?_
        refine x_aload_n 0 rfl rfl dL_law_714 ?_
        refine x_iload_n 3 rfl rfl dL_law_715 ?_
        refine x_iconst (nI 2) dL_law_716 rfl ?_
        refine x_iadd dL_law_717 ?_
        refine x_sld (n := i + 2) (nI_add i 2) (by omega) (by omega) dL_law_718 ?_
        refine x_V2 zm_X6_right hC zl_L_99 rfl rfl (by decide) hO.1 hO.2 (by decide) (Nat.le_of_ble_eq_true rfl) dL_law_719 hfc hfs (fun mm hX => ?_)
        refine x_aload_n 2 rfl rfl dL_law_722 ?_
        refine x_aload_n 0 rfl rfl dL_law_723 ?_
        refine x_iload_n 3 rfl rfl dL_law_724 ?_
        refine x_iconst (nI 1) dL_law_725 rfl ?_
        refine x_iadd dL_law_726 ?_
        refine x_sld (n := i + 1) (nI_add i 1) (by omega) (by omega) dL_law_727 ?_
        refine x_aload_n 0 rfl rfl dL_law_728 ?_
        refine x_iload_n 3 rfl rfl dL_law_729 ?_
        refine x_iconst (nI 2) dL_law_730 rfl ?_
        refine x_iadd dL_law_731 ?_
        refine x_sld (n := i + 2) (nI_add i 2) (by omega) (by omega) dL_law_732 ?_
        refine x_V2 zm_X7_right (hM _ hX) zl_L_102 rfl rfl (by decide) hAL.1 hAL.2 (by decide) (Nat.le_of_ble_eq_true rfl) dL_law_733 hfc hfs (fun mm hT => ?_)
        refine x_icmp_eq 919 dL_law_736 rfl (fun _ => back mm hT) (fun c => absurd rfl c)
      · refine x_tableIn 741 dL_law_33 (by decide) (by decide) rfl rfl ?_
        obtain ⟨F, X, hC, hM⟩ := zP_holder (l := l) hA (xs (i + 1)) (xs (i + 2)) mm hT
        refine x_aload_n 1 rfl rfl dL_law_741 ?_
        refine x_aload_n 0 rfl rfl dL_law_742 ?_
        refine x_iload_n 3 rfl rfl dL_law_743 ?_
        refine x_iconst (nI 1) dL_law_744 rfl ?_
        refine x_iadd dL_law_745 ?_
        refine x_sld (n := i + 1) (nI_add i 1) (by omega) (by omega) dL_law_746 ?_
        refine x_aload_n 0 rfl rfl dL_law_747 ?_
        refine x_iload_n 3 rfl rfl dL_law_748 ?_
        refine x_iconst (nI 2) dL_law_749 rfl ?_
        refine x_iadd dL_law_750 ?_
        refine x_sld (n := i + 2) (nI_add i 2) (by omega) (by omega) dL_law_751 ?_
        refine x_V2 zm_X6_holder hC zl_L_103 rfl rfl (by decide) hO.1 hO.2 (by decide) (Nat.le_of_ble_eq_true rfl) dL_law_752 hfc hfs (fun mm hX => ?_)
        refine x_aload_n 2 rfl rfl dL_law_755 ?_
        refine x_aload_n 0 rfl rfl dL_law_756 ?_
        refine x_iload_n 3 rfl rfl dL_law_757 ?_
        refine x_iconst (nI 1) dL_law_758 rfl ?_
        refine x_iadd dL_law_759 ?_
        refine x_sld (n := i + 1) (nI_add i 1) (by omega) (by omega) dL_law_760 ?_
        refine x_aload_n 0 rfl rfl dL_law_761 ?_
        refine x_iload_n 3 rfl rfl dL_law_762 ?_
        refine x_iconst (nI 2) dL_law_763 rfl ?_
        refine x_iadd dL_law_764 ?_
        refine x_sld (n := i + 2) (nI_add i 2) (by omega) (by omega) dL_law_765 ?_
        refine x_V2 zm_X7_holder (hM _ hX) zl_L_106 rfl rfl (by decide) hAL.1 hAL.2 (by decide) (Nat.le_of_ble_eq_true rfl) dL_law_766 hfc hfs (fun mm hT => ?_)
        refine x_icmp_eq 919 dL_law_769 rfl (fun _ => back mm hT) (fun c => absurd rfl c)
      · refine x_tableIn 774 dL_law_33 (by decide) (by decide) rfl rfl ?_
        obtain ⟨F, X, hC, hM⟩ := zP_stage (l := l) hA (xs (i + 1)) (xs (i + 2)) mm hT
        refine x_aload_n 1 rfl rfl dL_law_774 ?_
        refine x_aload_n 0 rfl rfl dL_law_775 ?_
        refine x_iload_n 3 rfl rfl dL_law_776 ?_
        refine x_iconst (nI 1) dL_law_777 rfl ?_
        refine x_iadd dL_law_778 ?_
        refine x_sld (n := i + 1) (nI_add i 1) (by omega) (by omega) dL_law_779 ?_
        refine x_aload_n 0 rfl rfl dL_law_780 ?_
        refine x_iload_n 3 rfl rfl dL_law_781 ?_
        refine x_iconst (nI 2) dL_law_782 rfl ?_
        refine x_iadd dL_law_783 ?_
        refine x_sld (n := i + 2) (nI_add i 2) (by omega) (by omega) dL_law_784 ?_
        refine x_V2 zm_X6_stage hC zl_L_107 rfl rfl (by decide) hO.1 hO.2 (by decide) (Nat.le_of_ble_eq_true rfl) dL_law_785 hfc hfs (fun mm hX => ?_)
        refine x_aload_n 2 rfl rfl dL_law_788 ?_
        refine x_aload_n 0 rfl rfl dL_law_789 ?_
        refine x_iload_n 3 rfl rfl dL_law_790 ?_
        refine x_iconst (nI 1) dL_law_791 rfl ?_
        refine x_iadd dL_law_792 ?_
        refine x_sld (n := i + 1) (nI_add i 1) (by omega) (by omega) dL_law_793 ?_
        refine x_aload_n 0 rfl rfl dL_law_794 ?_
        refine x_iload_n 3 rfl rfl dL_law_795 ?_
        refine x_iconst (nI 2) dL_law_796 rfl ?_
        refine x_iadd dL_law_797 ?_
        refine x_sld (n := i + 2) (nI_add i 2) (by omega) (by omega) dL_law_798 ?_
        refine x_V2 zm_X7_stage (hM _ hX) zl_L_110 rfl rfl (by decide) hAL.1 hAL.2 (by decide) (Nat.le_of_ble_eq_true rfl) dL_law_799 hfc hfs (fun mm hT => ?_)
        refine x_icmp_eq 919 dL_law_802 rfl (fun _ => back mm hT) (fun c => absurd rfl c)
      · refine x_tableIn 807 dL_law_33 (by decide) (by decide) rfl rfl ?_
        obtain ⟨F, X, hC, hM⟩ := zP_priceIn (l := l) hA (xs (i + 1)) (xs (i + 2)) mm hT
        refine x_aload_n 1 rfl rfl dL_law_807 ?_
        refine x_aload_n 0 rfl rfl dL_law_808 ?_
        refine x_iload_n 3 rfl rfl dL_law_809 ?_
        refine x_iconst (nI 1) dL_law_810 rfl ?_
        refine x_iadd dL_law_811 ?_
        refine x_sld (n := i + 1) (nI_add i 1) (by omega) (by omega) dL_law_812 ?_
        refine x_aload_n 0 rfl rfl dL_law_813 ?_
        refine x_iload_n 3 rfl rfl dL_law_814 ?_
        refine x_iconst (nI 2) dL_law_815 rfl ?_
        refine x_iadd dL_law_816 ?_
        refine x_sld (n := i + 2) (nI_add i 2) (by omega) (by omega) dL_law_817 ?_
        refine x_V2 zm_X6_priceIn hC zl_L_111 rfl rfl (by decide) hO.1 hO.2 (by decide) (Nat.le_of_ble_eq_true rfl) dL_law_818 hfc hfs (fun mm hX => ?_)
        refine x_aload_n 2 rfl rfl dL_law_821 ?_
        refine x_aload_n 0 rfl rfl dL_law_822 ?_
        refine x_iload_n 3 rfl rfl dL_law_823 ?_
        refine x_iconst (nI 1) dL_law_824 rfl ?_
        refine x_iadd dL_law_825 ?_
        refine x_sld (n := i + 1) (nI_add i 1) (by omega) (by omega) dL_law_826 ?_
        refine x_aload_n 0 rfl rfl dL_law_827 ?_
        refine x_iload_n 3 rfl rfl dL_law_828 ?_
        refine x_iconst (nI 2) dL_law_829 rfl ?_
        refine x_iadd dL_law_830 ?_
        refine x_sld (n := i + 2) (nI_add i 2) (by omega) (by omega) dL_law_831 ?_
        refine x_V2 zm_X7_priceIn (hM _ hX) zl_L_114 rfl rfl (by decide) hAL.1 hAL.2 (by decide) (Nat.le_of_ble_eq_true rfl) dL_law_832 hfc hfs (fun mm hT => ?_)
        refine x_icmp_eq 919 dL_law_835 rfl (fun _ => back mm hT) (fun c => absurd rfl c)
      · refine x_tableIn 840 dL_law_33 (by decide) (by decide) rfl rfl ?_
        obtain ⟨F, X, hC, hM⟩ := zP_wouldCover (l := l) hA (xs (i + 1)) mm hT
        refine x_aload_n 1 rfl rfl dL_law_840 ?_
        refine x_aload_n 0 rfl rfl dL_law_841 ?_
        refine x_iload_n 3 rfl rfl dL_law_842 ?_
        refine x_iconst (nI 1) dL_law_843 rfl ?_
        refine x_iadd dL_law_844 ?_
        refine x_sld (n := i + 1) (nI_add i 1) (by omega) (by omega) dL_law_845 ?_
        refine x_V1 zm_X6_wouldCover hC zl_L_115 rfl rfl (by decide) hO.1 hO.2 (by decide) (Nat.le_of_ble_eq_true rfl) dL_law_846 hfc hfs (fun mm hX => ?_)
        refine x_aload_n 2 rfl rfl dL_law_849 ?_
        refine x_aload_n 0 rfl rfl dL_law_850 ?_
        refine x_iload_n 3 rfl rfl dL_law_851 ?_
        refine x_iconst (nI 1) dL_law_852 rfl ?_
        refine x_iadd dL_law_853 ?_
        refine x_sld (n := i + 1) (nI_add i 1) (by omega) (by omega) dL_law_854 ?_
        refine x_V1 zm_X7_wouldCover (hM _ hX) zl_L_118 rfl rfl (by decide) hAL.1 hAL.2 (by decide) (Nat.le_of_ble_eq_true rfl) dL_law_855 hfc hfs (fun mm hT => ?_)
        refine x_icmp_eq 919 dL_law_858 rfl (fun _ => back mm hT) (fun c => absurd rfl c)
      · refine x_tableIn 863 dL_law_33 (by decide) (by decide) rfl rfl ?_
        obtain ⟨F, X, hC, hM⟩ := zP_event (l := l) hA (xs (i + 1)) (xs (i + 2)) mm hT
        refine x_aload_n 1 rfl rfl dL_law_863 ?_
        refine x_aload_n 0 rfl rfl dL_law_864 ?_
        refine x_iload_n 3 rfl rfl dL_law_865 ?_
        refine x_iconst (nI 1) dL_law_866 rfl ?_
        refine x_iadd dL_law_867 ?_
        refine x_sld (n := i + 1) (nI_add i 1) (by omega) (by omega) dL_law_868 ?_
        refine x_aload_n 0 rfl rfl dL_law_869 ?_
        refine x_iload_n 3 rfl rfl dL_law_870 ?_
        refine x_iconst (nI 2) dL_law_871 rfl ?_
        refine x_iadd dL_law_872 ?_
        refine x_sld (n := i + 2) (nI_add i 2) (by omega) (by omega) dL_law_873 ?_
        refine x_V2 zm_X6_event hC zl_L_119 rfl rfl (by decide) hO.1 hO.2 (by decide) (Nat.le_of_ble_eq_true rfl) dL_law_874 hfc hfs (fun mm hX => ?_)
        refine x_aload_n 2 rfl rfl dL_law_877 ?_
        refine x_aload_n 0 rfl rfl dL_law_878 ?_
        refine x_iload_n 3 rfl rfl dL_law_879 ?_
        refine x_iconst (nI 1) dL_law_880 rfl ?_
        refine x_iadd dL_law_881 ?_
        refine x_sld (n := i + 1) (nI_add i 1) (by omega) (by omega) dL_law_882 ?_
        refine x_aload_n 0 rfl rfl dL_law_883 ?_
        refine x_iload_n 3 rfl rfl dL_law_884 ?_
        refine x_iconst (nI 2) dL_law_885 rfl ?_
        refine x_iadd dL_law_886 ?_
        refine x_sld (n := i + 2) (nI_add i 2) (by omega) (by omega) dL_law_887 ?_
        refine x_V2 zm_X7_event (hM _ hX) zl_L_122 rfl rfl (by decide) hAL.1 hAL.2 (by decide) (Nat.le_of_ble_eq_true rfl) dL_law_888 hfc hfs (fun mm hT => ?_)
        refine x_icmp_eq 919 dL_law_891 rfl (fun _ => back mm hT) (fun c => absurd rfl c)
      · refine x_tableIn 896 dL_law_33 (by decide) (by decide) rfl rfl ?_
        obtain ⟨F, X, hC, hM⟩ := zP_count (l := l) hA (xs (i + 1)) mm hT
        refine x_aload_n 1 rfl rfl dL_law_896 ?_
        refine x_aload_n 0 rfl rfl dL_law_897 ?_
        refine x_iload_n 3 rfl rfl dL_law_898 ?_
        refine x_iconst (nI 1) dL_law_899 rfl ?_
        refine x_iadd dL_law_900 ?_
        refine x_sld (n := i + 1) (nI_add i 1) (by omega) (by omega) dL_law_901 ?_
        refine x_V1 zm_X6_count hC zl_L_123 rfl rfl (by decide) hO.1 hO.2 (by decide) (Nat.le_of_ble_eq_true rfl) dL_law_902 hfc hfs (fun mm hX => ?_)
        refine x_aload_n 2 rfl rfl dL_law_905 ?_
        refine x_aload_n 0 rfl rfl dL_law_906 ?_
        refine x_iload_n 3 rfl rfl dL_law_907 ?_
        refine x_iconst (nI 1) dL_law_908 rfl ?_
        refine x_iadd dL_law_909 ?_
        refine x_sld (n := i + 1) (nI_add i 1) (by omega) (by omega) dL_law_910 ?_
        refine x_V1 zm_X7_count (hM _ hX) zl_L_126 rfl rfl (by decide) hAL.1 hAL.2 (by decide) (Nat.le_of_ble_eq_true rfl) dL_law_911 hfc hfs (fun mm hT => ?_)
        refine x_icmp_eq 919 dL_law_914 rfl (fun _ => back mm hT) (fun c => absurd rfl c)
    · refine x_tableOut 919 dL_law_33 (zIn_out (by decide) (by simpa using hx)) rfl ?_
      exact back mm hT
set_option maxRecDepth 8000 in
set_option maxHeartbeats 4000000 in
theorem law_loop {l : Launch} {G0 : zG} {τ : Nat → Nat} {Kp : Method → Prop} {b Ls : Nat} {xs : Nat → Int32} {sh : Nat → Nat × Nat} {L : List Nat} {cells slots : Nat} {Bs : Nat → Nat → Nat} {O A : Nat → Nat} (hL5 : Ls < 90000) (hfc : cells ≤ 600000) (hfs : slots ≤ 7302250) (hA : zAp Bs O A) (hO : O 0 ∈ L ∧ sh (O 0) = (6, 5)) (hAL : A 0 ∈ L ∧ sh (A 0) = (7, 15)) : ∀ (n i : Nat) (mm : zM), Ls + 6 ≤ i + n ∧ i ≤ Ls + 6 → zTw (gx G0 sh L) Bs O A mm → zX l G0 τ (yL_law, cL_law, 4, ret) room_1 Kp (lwF G0 b Ls xs) lwA 18 [some (.ref b), some (.ref (O 0)), some (.ref (A 0)), some (.int (nI i))] [] sh L mm cells slots := by
  intro n
  induction n using Nat.strongRecOn with
  | ind n ih0 =>
  intro i mm hi hT
  have hlp : ∀ (i : Nat) (mm : zM), i ≤ Ls + 6 → (∀ (i2 : Nat) (mm2 : zM), i < i2 ∧ i2 ≤ Ls + 6 → zTw (gx G0 sh L) Bs O A mm2 → zX l G0 τ (yL_law, cL_law, 4, ret) room_1 Kp (lwF G0 b Ls xs) lwA 18 [some (.ref b), some (.ref (O 0)), some (.ref (A 0)), some (.int (nI i2))] [] sh L mm2 cells slots) → zTw (gx G0 sh L) Bs O A mm → zX l G0 τ (yL_law, cL_law, 4, ret) room_1 Kp (lwF G0 b Ls xs) lwA 18 [some (.ref b), some (.ref (O 0)), some (.ref (A 0)), some (.int (nI i))] [] sh L mm cells slots := by
    intro i mm hi ih hT
    exact law_step hL5 hfc hfs hA hO hAL i mm hi (fun i2 mm2 h2 => ih i2 mm2 ⟨h2.1, h2.2⟩) hT
  exact hlp i mm hi.2 (fun i2 mm2 h2 hT2 => by
    by_cases hn : n = 0
    · omega
    · exact ih0 (Ls + 6 - i2) (by omega) i2 mm2 ⟨by omega, h2.2⟩ hT2) hT
