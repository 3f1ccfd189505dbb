set_option maxRecDepth 100000 in
theorem lc_begin (G : Gt) (hG : G.1.stackTraces = false) {b L : Nat} {xs : Nat → Int32} (hL : L ≤ 1536) {i : Nat} (hi : i + 2 < L) {a b2 k n : Nat} {μ : Mm} (hI : Inv μ) (hk : ∀ u, Inv u → Zs G 13 Y_L_law (a, b2, k + 1, n + 6, enL G b L xs) 1339 [(0, .ref b), (1, rf G 0), (2, rf G 35), (3, rf G 46), (4, .int (nI i))] [] u) : Zs G 13 Y_L_law (a + 1, b2 + 6, k, n, enL G b L xs) 156 [(0, .ref b), (1, rf G 0), (2, rf G 35), (3, rf G 46), (4, .int (nI i))] [] μ := by
  obtain ⟨kk, PP, dm, hk3, hdm, hw, hmm⟩ := op_begin G hG hI (xs (i + 1)) (xs (i + 2))
  refine z_aload_n dL_law_156 rfl ?_
  refine zr_aload_n dL_law_157 rfl ?_
  refine z_iload dL_law_158 rfl ?_
  refine z_iconst (v := nI 1) dL_law_160 (by decide) ?_
  refine z_iaddN dL_law_161 ?_
  refine z_sld dL_law_162 (by omega) hL ?_
  refine zr_aload_n dL_law_163 rfl ?_
  refine z_iload dL_law_164 rfl ?_
  refine z_iconst (v := nI 2) dL_law_166 (by decide) ?_
  refine z_iaddN dL_law_167 ?_
  refine z_sld dL_law_168 (by omega) hL ?_
  refine z_aload_n dL_law_169 rfl ?_
  refine z_callW (As := [rf G 0, .int (xs (i + 1)), .int (xs (i + 2)), rf G 46]) dL_law_170 rfl lk_L_73 rfl (by decide) (Nat.le_of_ble_eq_true rfl) (hw) ?_
  rintro v u ⟨rfl, hp⟩
  refine z_istore (lv' := [(5, _), (0, _), (1, _), (2, _), (3, _), (4, _)]) dL_law_173 (by decide) rfl ?_
  refine z_aload_n dL_law_175 rfl ?_
  refine zr_aload_n dL_law_176 rfl ?_
  refine z_iload dL_law_177 rfl ?_
  refine z_iconst (v := nI 1) dL_law_179 (by decide) ?_
  refine z_iaddN dL_law_180 ?_
  refine z_sld dL_law_181 (by omega) hL ?_
  refine zr_aload_n dL_law_182 rfl ?_
  refine z_iload dL_law_183 rfl ?_
  refine z_iconst (v := nI 2) dL_law_185 (by decide) ?_
  refine z_iaddN dL_law_186 ?_
  refine z_sld dL_law_187 (by omega) hL ?_
  refine z_cV2g dL_law_188 lk_L_78 (by omega) ⟨by decide, _, rfl⟩ rfl (Nat.le_of_ble_eq_true rfl) (hmm u hp) ?_
  rintro v2 u2 ⟨bb, rfl, ht3, hout, hi2⟩
  refine z_istore (lv' := [(6, _), (5, _), (0, _), (1, _), (2, _), (3, _), (4, _)]) dL_law_191 (by decide) rfl ?_
  refine z_aload_n dL_law_193 rfl ?_
  refine z_cV0 dL_law_194 lk_L_79 (by decide) ⟨by decide, _, rfl⟩ rfl (Nat.le_of_ble_eq_true rfl) (ev_X8_thrown G ht3) ?_
  refine z_iload dL_law_197 rfl ?_
  refine z_icmpN_eq (tgt := 204) dL_law_199 (by decide) (by omega) (by omega) (fun c199 => ?_) (fun c199 => absurd rfl c199)
  refine z_iload dL_law_204 rfl ?_
  refine z_ifN_ne (tgt := 221) dL_law_206 (by decide) (by omega) (fun c206 => ?_) (fun c206 => ?_)
  · refine z_goto (tgt := 1339) dL_law_221 (by decide) ?_
    refine z_sub (lv' := [(0, _), (1, _), (2, _), (3, _), (4, _)]) rfl ?_
    exact hk _ hi2
  · refine z_aload_n dL_law_209 rfl ?_
    refine z_iconst (v := nI 0) dL_law_210 (by decide) ?_
    refine z_laldN dL_law_211 ⟨by decide, rfl⟩ (by decide) (by decide) ?_
    refine z_iload dL_law_212 rfl ?_
    refine z_i2l dL_law_214 rfl ?_
    refine z_lc_eq (tgt := 221) dL_law_215 dL_law_216 (by decide) (fun c215 => ?_) (fun c215 => absurd (hout c206) c215)
    refine z_goto (tgt := 1339) dL_law_221 (by decide) ?_
    refine z_sub (lv' := [(0, _), (1, _), (2, _), (3, _), (4, _)]) rfl ?_
    exact hk _ hi2
set_option maxRecDepth 100000 in
theorem lc_add (G : Gt) (hG : G.1.stackTraces = false) {b L : Nat} {xs : Nat → Int32} (hL : L ≤ 1536) {i : Nat} (hi : i + 2 < L) {a b2 k n : Nat} {μ : Mm} (hI : Inv μ) (hk : ∀ u, Inv u → Zs G 13 Y_L_law (a, b2, k + 1, n + 6, enL G b L xs) 1339 [(0, .ref b), (1, rf G 0), (2, rf G 35), (3, rf G 46), (4, .int (nI i))] [] u) : Zs G 13 Y_L_law (a + 1, b2 + 6, k, n, enL G b L xs) 224 [(0, .ref b), (1, rf G 0), (2, rf G 35), (3, rf G 46), (4, .int (nI i))] [] μ := by
  obtain ⟨kk, PP, dm, hk3, hdm, hw, hmm⟩ := op_add G hG hI (xs (i + 1))
  refine z_aload_n dL_law_224 rfl ?_
  refine zr_aload_n dL_law_225 rfl ?_
  refine z_iload dL_law_226 rfl ?_
  refine z_iconst (v := nI 1) dL_law_228 (by decide) ?_
  refine z_iaddN dL_law_229 ?_
  refine z_sld dL_law_230 (by omega) hL ?_
  refine z_aload_n dL_law_231 rfl ?_
  refine z_callW (As := [rf G 0, .int (xs (i + 1)), rf G 46]) dL_law_232 rfl lk_L_82 rfl (by decide) (Nat.le_of_ble_eq_true rfl) (hw) ?_
  rintro v u ⟨rfl, hp⟩
  refine z_istore (lv' := [(5, _), (0, _), (1, _), (2, _), (3, _), (4, _)]) dL_law_235 (by decide) rfl ?_
  refine z_aload_n dL_law_237 rfl ?_
  refine zr_aload_n dL_law_238 rfl ?_
  refine z_iload dL_law_239 rfl ?_
  refine z_iconst (v := nI 1) dL_law_241 (by decide) ?_
  refine z_iaddN dL_law_242 ?_
  refine z_sld dL_law_243 (by omega) hL ?_
  refine z_cV1g dL_law_244 lk_L_85 (by omega) ⟨by decide, _, rfl⟩ rfl (Nat.le_of_ble_eq_true rfl) (hmm u hp) ?_
  rintro v2 u2 ⟨bb, rfl, ht3, hout, hi2⟩
  refine z_istore (lv' := [(6, _), (5, _), (0, _), (1, _), (2, _), (3, _), (4, _)]) dL_law_247 (by decide) rfl ?_
  refine z_aload_n dL_law_249 rfl ?_
  refine z_cV0 dL_law_250 lk_L_79 (by decide) ⟨by decide, _, rfl⟩ rfl (Nat.le_of_ble_eq_true rfl) (ev_X8_thrown G ht3) ?_
  refine z_iload dL_law_253 rfl ?_
  refine z_icmpN_eq (tgt := 260) dL_law_255 (by decide) (by omega) (by omega) (fun c255 => ?_) (fun c255 => absurd rfl c255)
  refine z_iload dL_law_260 rfl ?_
  refine z_ifN_ne (tgt := 277) dL_law_262 (by decide) (by omega) (fun c262 => ?_) (fun c262 => ?_)
  · refine z_goto (tgt := 1339) dL_law_277 (by decide) ?_
    refine z_sub (lv' := [(0, _), (1, _), (2, _), (3, _), (4, _)]) rfl ?_
    exact hk _ hi2
  · refine z_aload_n dL_law_265 rfl ?_
    refine z_iconst (v := nI 0) dL_law_266 (by decide) ?_
    refine z_laldN dL_law_267 ⟨by decide, rfl⟩ (by decide) (by decide) ?_
    refine z_iload dL_law_268 rfl ?_
    refine z_i2l dL_law_270 rfl ?_
    refine z_lc_eq (tgt := 277) dL_law_271 dL_law_272 (by decide) (fun c271 => ?_) (fun c271 => absurd (hout c262) c271)
    refine z_goto (tgt := 1339) dL_law_277 (by decide) ?_
    refine z_sub (lv' := [(0, _), (1, _), (2, _), (3, _), (4, _)]) rfl ?_
    exact hk _ hi2
set_option maxRecDepth 100000 in
theorem lc_removeAt (G : Gt) (hG : G.1.stackTraces = false) {b L : Nat} {xs : Nat → Int32} (hL : L ≤ 1536) {i : Nat} (hi : i + 2 < L) {a b2 k n : Nat} {μ : Mm} (hI : Inv μ) (hk : ∀ u, Inv u → Zs G 13 Y_L_law (a, b2, k + 1, n + 6, enL G b L xs) 1339 [(0, .ref b), (1, rf G 0), (2, rf G 35), (3, rf G 46), (4, .int (nI i))] [] u) : Zs G 13 Y_L_law (a + 1, b2 + 6, k, n, enL G b L xs) 280 [(0, .ref b), (1, rf G 0), (2, rf G 35), (3, rf G 46), (4, .int (nI i))] [] μ := by
  obtain ⟨kk, PP, dm, hk3, hdm, hw, hmm⟩ := op_removeAt G hG hI (xs (i + 1))
  refine z_aload_n dL_law_280 rfl ?_
  refine zr_aload_n dL_law_281 rfl ?_
  refine z_iload dL_law_282 rfl ?_
  refine z_iconst (v := nI 1) dL_law_284 (by decide) ?_
  refine z_iaddN dL_law_285 ?_
  refine z_sld dL_law_286 (by omega) hL ?_
  refine z_aload_n dL_law_287 rfl ?_
  refine z_callW (As := [rf G 0, .int (xs (i + 1)), rf G 46]) dL_law_288 rfl lk_L_86 rfl (by decide) (Nat.le_of_ble_eq_true rfl) (hw) ?_
  rintro v u ⟨rfl, hp⟩
  refine z_istore (lv' := [(5, _), (0, _), (1, _), (2, _), (3, _), (4, _)]) dL_law_291 (by decide) rfl ?_
  refine z_aload_n dL_law_293 rfl ?_
  refine zr_aload_n dL_law_294 rfl ?_
  refine z_iload dL_law_295 rfl ?_
  refine z_iconst (v := nI 1) dL_law_297 (by decide) ?_
  refine z_iaddN dL_law_298 ?_
  refine z_sld dL_law_299 (by omega) hL ?_
  refine z_cV1g dL_law_300 lk_L_88 (by omega) ⟨by decide, _, rfl⟩ rfl (Nat.le_of_ble_eq_true rfl) (hmm u hp) ?_
  rintro v2 u2 ⟨bb, rfl, ht3, hout, hi2⟩
  refine z_istore (lv' := [(6, _), (5, _), (0, _), (1, _), (2, _), (3, _), (4, _)]) dL_law_303 (by decide) rfl ?_
  refine z_aload_n dL_law_305 rfl ?_
  refine z_cV0 dL_law_306 lk_L_79 (by decide) ⟨by decide, _, rfl⟩ rfl (Nat.le_of_ble_eq_true rfl) (ev_X8_thrown G ht3) ?_
  refine z_iload dL_law_309 rfl ?_
  refine z_icmpN_eq (tgt := 316) dL_law_311 (by decide) (by omega) (by omega) (fun c311 => ?_) (fun c311 => absurd rfl c311)
  refine z_iload dL_law_316 rfl ?_
  refine z_ifN_ne (tgt := 333) dL_law_318 (by decide) (by omega) (fun c318 => ?_) (fun c318 => ?_)
  · refine z_goto (tgt := 1339) dL_law_333 (by decide) ?_
    refine z_sub (lv' := [(0, _), (1, _), (2, _), (3, _), (4, _)]) rfl ?_
    exact hk _ hi2
  · refine z_aload_n dL_law_321 rfl ?_
    refine z_iconst (v := nI 0) dL_law_322 (by decide) ?_
    refine z_laldN dL_law_323 ⟨by decide, rfl⟩ (by decide) (by decide) ?_
    refine z_iload dL_law_324 rfl ?_
    refine z_i2l dL_law_326 rfl ?_
    refine z_lc_eq (tgt := 333) dL_law_327 dL_law_328 (by decide) (fun c327 => ?_) (fun c327 => absurd (hout c318) c327)
    refine z_goto (tgt := 1339) dL_law_333 (by decide) ?_
    refine z_sub (lv' := [(0, _), (1, _), (2, _), (3, _), (4, _)]) rfl ?_
    exact hk _ hi2
set_option maxRecDepth 100000 in
theorem lc_lay (G : Gt) (hG : G.1.stackTraces = false) {b L : Nat} {xs : Nat → Int32} (hL : L ≤ 1536) {i : Nat} (hi : i + 2 < L) {a b2 k n : Nat} {μ : Mm} (hI : Inv μ) (hk : ∀ u, Inv u → Zs G 13 Y_L_law (a, b2, k + 1, n + 6, enL G b L xs) 1339 [(0, .ref b), (1, rf G 0), (2, rf G 35), (3, rf G 46), (4, .int (nI i))] [] u) : Zs G 13 Y_L_law (a + 1, b2 + 6, k, n, enL G b L xs) 336 [(0, .ref b), (1, rf G 0), (2, rf G 35), (3, rf G 46), (4, .int (nI i))] [] μ := by
  obtain ⟨kk, PP, dm, hk3, hdm, hw, hmm⟩ := op_lay G hG hI (xs (i + 1)) (xs (i + 2))
  refine z_aload_n dL_law_336 rfl ?_
  refine zr_aload_n dL_law_337 rfl ?_
  refine z_iload dL_law_338 rfl ?_
  refine z_iconst (v := nI 1) dL_law_340 (by decide) ?_
  refine z_iaddN dL_law_341 ?_
  refine z_sld dL_law_342 (by omega) hL ?_
  refine zr_aload_n dL_law_343 rfl ?_
  refine z_iload dL_law_344 rfl ?_
  refine z_iconst (v := nI 2) dL_law_346 (by decide) ?_
  refine z_iaddN dL_law_347 ?_
  refine z_sld dL_law_348 (by omega) hL ?_
  refine z_aload_n dL_law_349 rfl ?_
  refine z_callW (As := [rf G 0, .int (xs (i + 1)), .int (xs (i + 2)), rf G 46]) dL_law_350 rfl lk_L_89 rfl (by decide) (Nat.le_of_ble_eq_true rfl) (hw) ?_
  rintro v u ⟨rfl, hp⟩
  refine z_istore (lv' := [(5, _), (0, _), (1, _), (2, _), (3, _), (4, _)]) dL_law_353 (by decide) rfl ?_
  refine z_aload_n dL_law_355 rfl ?_
  refine zr_aload_n dL_law_356 rfl ?_
  refine z_iload dL_law_357 rfl ?_
  refine z_iconst (v := nI 1) dL_law_359 (by decide) ?_
  refine z_iaddN dL_law_360 ?_
  refine z_sld dL_law_361 (by omega) hL ?_
  refine zr_aload_n dL_law_362 rfl ?_
  refine z_iload dL_law_363 rfl ?_
  refine z_iconst (v := nI 2) dL_law_365 (by decide) ?_
  refine z_iaddN dL_law_366 ?_
  refine z_sld dL_law_367 (by omega) hL ?_
  refine z_cV2g dL_law_368 lk_L_91 (by omega) ⟨by decide, _, rfl⟩ rfl (Nat.le_of_ble_eq_true rfl) (hmm u hp) ?_
  rintro v2 u2 ⟨bb, rfl, ht3, hout, hi2⟩
  refine z_istore (lv' := [(6, _), (5, _), (0, _), (1, _), (2, _), (3, _), (4, _)]) dL_law_371 (by decide) rfl ?_
  refine z_aload_n dL_law_373 rfl ?_
  refine z_cV0 dL_law_374 lk_L_79 (by decide) ⟨by decide, _, rfl⟩ rfl (Nat.le_of_ble_eq_true rfl) (ev_X8_thrown G ht3) ?_
  refine z_iload dL_law_377 rfl ?_
  refine z_icmpN_eq (tgt := 384) dL_law_379 (by decide) (by omega) (by omega) (fun c379 => ?_) (fun c379 => absurd rfl c379)
  refine z_iload dL_law_384 rfl ?_
  refine z_ifN_ne (tgt := 401) dL_law_386 (by decide) (by omega) (fun c386 => ?_) (fun c386 => ?_)
  · refine z_goto (tgt := 1339) dL_law_401 (by decide) ?_
    refine z_sub (lv' := [(0, _), (1, _), (2, _), (3, _), (4, _)]) rfl ?_
    exact hk _ hi2
  · refine z_aload_n dL_law_389 rfl ?_
    refine z_iconst (v := nI 0) dL_law_390 (by decide) ?_
    refine z_laldN dL_law_391 ⟨by decide, rfl⟩ (by decide) (by decide) ?_
    refine z_iload dL_law_392 rfl ?_
    refine z_i2l dL_law_394 rfl ?_
    refine z_lc_eq (tgt := 401) dL_law_395 dL_law_396 (by decide) (fun c395 => ?_) (fun c395 => absurd (hout c386) c395)
    refine z_goto (tgt := 1339) dL_law_401 (by decide) ?_
    refine z_sub (lv' := [(0, _), (1, _), (2, _), (3, _), (4, _)]) rfl ?_
    exact hk _ hi2
set_option maxRecDepth 100000 in
theorem lc_laySplit (G : Gt) (hG : G.1.stackTraces = false) {b L : Nat} {xs : Nat → Int32} (hL : L ≤ 1536) {i : Nat} (hi : i + 2 < L) {a b2 k n : Nat} {μ : Mm} (hI : Inv μ) (hk : ∀ u, Inv u → Zs G 13 Y_L_law (a, b2, k + 1, n + 6, enL G b L xs) 1339 [(0, .ref b), (1, rf G 0), (2, rf G 35), (3, rf G 46), (4, .int (nI i))] [] u) : Zs G 13 Y_L_law (a + 1, b2 + 6, k, n, enL G b L xs) 404 [(0, .ref b), (1, rf G 0), (2, rf G 35), (3, rf G 46), (4, .int (nI i))] [] μ := by
  obtain ⟨kk, PP, dm, hk3, hdm, hw, hmm⟩ := op_laySplit G hG hI 
  refine z_aload_n dL_law_404 rfl ?_
  refine z_aload_n dL_law_405 rfl ?_
  refine z_callW (As := [rf G 0, rf G 46]) dL_law_406 rfl lk_L_92 rfl (by decide) (Nat.le_of_ble_eq_true rfl) (hw) ?_
  rintro v u ⟨rfl, hp⟩
  refine z_istore (lv' := [(5, _), (0, _), (1, _), (2, _), (3, _), (4, _)]) dL_law_409 (by decide) rfl ?_
  refine z_aload_n dL_law_411 rfl ?_
  refine z_cV0g dL_law_412 lk_L_95 (by omega) ⟨by decide, _, rfl⟩ rfl (Nat.le_of_ble_eq_true rfl) (hmm u hp) ?_
  rintro v2 u2 ⟨bb, rfl, ht3, hout, hi2⟩
  refine z_istore (lv' := [(6, _), (5, _), (0, _), (1, _), (2, _), (3, _), (4, _)]) dL_law_415 (by decide) rfl ?_
  refine z_aload_n dL_law_417 rfl ?_
  refine z_cV0 dL_law_418 lk_L_79 (by decide) ⟨by decide, _, rfl⟩ rfl (Nat.le_of_ble_eq_true rfl) (ev_X8_thrown G ht3) ?_
  refine z_iload dL_law_421 rfl ?_
  refine z_icmpN_eq (tgt := 428) dL_law_423 (by decide) (by omega) (by omega) (fun c423 => ?_) (fun c423 => absurd rfl c423)
  refine z_iload dL_law_428 rfl ?_
  refine z_ifN_ne (tgt := 445) dL_law_430 (by decide) (by omega) (fun c430 => ?_) (fun c430 => ?_)
  · refine z_goto (tgt := 1339) dL_law_445 (by decide) ?_
    refine z_sub (lv' := [(0, _), (1, _), (2, _), (3, _), (4, _)]) rfl ?_
    exact hk _ hi2
  · refine z_aload_n dL_law_433 rfl ?_
    refine z_iconst (v := nI 0) dL_law_434 (by decide) ?_
    refine z_laldN dL_law_435 ⟨by decide, rfl⟩ (by decide) (by decide) ?_
    refine z_iload dL_law_436 rfl ?_
    refine z_i2l dL_law_438 rfl ?_
    refine z_lc_eq (tgt := 445) dL_law_439 dL_law_440 (by decide) (fun c439 => ?_) (fun c439 => absurd (hout c430) c439)
    refine z_goto (tgt := 1339) dL_law_445 (by decide) ?_
    refine z_sub (lv' := [(0, _), (1, _), (2, _), (3, _), (4, _)]) rfl ?_
    exact hk _ hi2
set_option maxRecDepth 100000 in
theorem lc_sum (G : Gt) (hG : G.1.stackTraces = false) {b L : Nat} {xs : Nat → Int32} (hL : L ≤ 1536) {i : Nat} (hi : i + 2 < L) {a b2 k n : Nat} {μ : Mm} (hI : Inv μ) (hk : ∀ u, Inv u → Zs G 13 Y_L_law (a, b2, k + 1, n + 6, enL G b L xs) 1339 [(0, .ref b), (1, rf G 0), (2, rf G 35), (3, rf G 46), (4, .int (nI i))] [] u) : Zs G 13 Y_L_law (a + 1, b2 + 6, k, n, enL G b L xs) 448 [(0, .ref b), (1, rf G 0), (2, rf G 35), (3, rf G 46), (4, .int (nI i))] [] μ := by
  obtain ⟨kk, PP, dm, hk3, hdm, hw, hmm⟩ := op_sum G hG hI (xs (i + 1)) (xs (i + 2))
  refine z_aload_n dL_law_448 rfl ?_
  refine zr_aload_n dL_law_449 rfl ?_
  refine z_iload dL_law_450 rfl ?_
  refine z_iconst (v := nI 1) dL_law_452 (by decide) ?_
  refine z_iaddN dL_law_453 ?_
  refine z_sld dL_law_454 (by omega) hL ?_
  refine zr_aload_n dL_law_455 rfl ?_
  refine z_iload dL_law_456 rfl ?_
  refine z_iconst (v := nI 2) dL_law_458 (by decide) ?_
  refine z_iaddN dL_law_459 ?_
  refine z_sld dL_law_460 (by omega) hL ?_
  refine z_aload_n dL_law_461 rfl ?_
  refine z_callW (As := [rf G 0, .int (xs (i + 1)), .int (xs (i + 2)), rf G 46]) dL_law_462 rfl lk_L_96 rfl (by decide) (Nat.le_of_ble_eq_true rfl) (hw) ?_
  rintro v u ⟨rfl, hp⟩
  refine z_istore (lv' := [(5, _), (0, _), (1, _), (2, _), (3, _), (4, _)]) dL_law_465 (by decide) rfl ?_
  refine z_aload_n dL_law_467 rfl ?_
  refine zr_aload_n dL_law_468 rfl ?_
  refine z_iload dL_law_469 rfl ?_
  refine z_iconst (v := nI 1) dL_law_471 (by decide) ?_
  refine z_iaddN dL_law_472 ?_
  refine z_sld dL_law_473 (by omega) hL ?_
  refine zr_aload_n dL_law_474 rfl ?_
  refine z_iload dL_law_475 rfl ?_
  refine z_iconst (v := nI 2) dL_law_477 (by decide) ?_
  refine z_iaddN dL_law_478 ?_
  refine z_sld dL_law_479 (by omega) hL ?_
  refine z_cV2g dL_law_480 lk_L_98 (by omega) ⟨by decide, _, rfl⟩ rfl (Nat.le_of_ble_eq_true rfl) (hmm u hp) ?_
  rintro v2 u2 ⟨bb, rfl, ht3, hout, hi2⟩
  refine z_istore (lv' := [(6, _), (5, _), (0, _), (1, _), (2, _), (3, _), (4, _)]) dL_law_483 (by decide) rfl ?_
  refine z_aload_n dL_law_485 rfl ?_
  refine z_cV0 dL_law_486 lk_L_79 (by decide) ⟨by decide, _, rfl⟩ rfl (Nat.le_of_ble_eq_true rfl) (ev_X8_thrown G ht3) ?_
  refine z_iload dL_law_489 rfl ?_
  refine z_icmpN_eq (tgt := 496) dL_law_491 (by decide) (by omega) (by omega) (fun c491 => ?_) (fun c491 => absurd rfl c491)
  refine z_iload dL_law_496 rfl ?_
  refine z_ifN_ne (tgt := 513) dL_law_498 (by decide) (by omega) (fun c498 => ?_) (fun c498 => ?_)
  · refine z_goto (tgt := 1339) dL_law_513 (by decide) ?_
    refine z_sub (lv' := [(0, _), (1, _), (2, _), (3, _), (4, _)]) rfl ?_
    exact hk _ hi2
  · refine z_aload_n dL_law_501 rfl ?_
    refine z_iconst (v := nI 0) dL_law_502 (by decide) ?_
    refine z_laldN dL_law_503 ⟨by decide, rfl⟩ (by decide) (by decide) ?_
    refine z_iload dL_law_504 rfl ?_
    refine z_i2l dL_law_506 rfl ?_
    refine z_lc_eq (tgt := 513) dL_law_507 dL_law_508 (by decide) (fun c507 => ?_) (fun c507 => absurd (hout c498) c507)
    refine z_goto (tgt := 1339) dL_law_513 (by decide) ?_
    refine z_sub (lv' := [(0, _), (1, _), (2, _), (3, _), (4, _)]) rfl ?_
    exact hk _ hi2
set_option maxRecDepth 100000 in
theorem lc_element (G : Gt) (hG : G.1.stackTraces = false) {b L : Nat} {xs : Nat → Int32} (hL : L ≤ 1536) {i : Nat} (hi : i + 2 < L) {a b2 k n : Nat} {μ : Mm} (hI : Inv μ) (hk : ∀ u, Inv u → Zs G 13 Y_L_law (a, b2, k + 1, n + 6, enL G b L xs) 1339 [(0, .ref b), (1, rf G 0), (2, rf G 35), (3, rf G 46), (4, .int (nI i))] [] u) : Zs G 13 Y_L_law (a + 1, b2 + 6, k, n, enL G b L xs) 516 [(0, .ref b), (1, rf G 0), (2, rf G 35), (3, rf G 46), (4, .int (nI i))] [] μ := by
  obtain ⟨kk, PP, dm, hk3, hdm, hw, hmm⟩ := op_element G hG hI (xs (i + 1)) (xs (i + 2))
  refine z_aload_n dL_law_516 rfl ?_
  refine zr_aload_n dL_law_517 rfl ?_
  refine z_iload dL_law_518 rfl ?_
  refine z_iconst (v := nI 1) dL_law_520 (by decide) ?_
  refine z_iaddN dL_law_521 ?_
  refine z_sld dL_law_522 (by omega) hL ?_
  refine zr_aload_n dL_law_523 rfl ?_
  refine z_iload dL_law_524 rfl ?_
  refine z_iconst (v := nI 2) dL_law_526 (by decide) ?_
  refine z_iaddN dL_law_527 ?_
  refine z_sld dL_law_528 (by omega) hL ?_
  refine z_aload_n dL_law_529 rfl ?_
  refine z_callW (As := [rf G 0, .int (xs (i + 1)), .int (xs (i + 2)), rf G 46]) dL_law_530 rfl lk_L_99 rfl (by decide) (Nat.le_of_ble_eq_true rfl) (hw) ?_
  rintro v u ⟨rfl, hp⟩
  refine z_istore (lv' := [(5, _), (0, _), (1, _), (2, _), (3, _), (4, _)]) dL_law_533 (by decide) rfl ?_
  refine z_aload_n dL_law_535 rfl ?_
  refine zr_aload_n dL_law_536 rfl ?_
  refine z_iload dL_law_537 rfl ?_
  refine z_iconst (v := nI 1) dL_law_539 (by decide) ?_
  refine z_iaddN dL_law_540 ?_
  refine z_sld dL_law_541 (by omega) hL ?_
  refine zr_aload_n dL_law_542 rfl ?_
  refine z_iload dL_law_543 rfl ?_
  refine z_iconst (v := nI 2) dL_law_545 (by decide) ?_
  refine z_iaddN dL_law_546 ?_
  refine z_sld dL_law_547 (by omega) hL ?_
  refine z_cV2g dL_law_548 lk_L_101 (by omega) ⟨by decide, _, rfl⟩ rfl (Nat.le_of_ble_eq_true rfl) (hmm u hp) ?_
  rintro v2 u2 ⟨bb, rfl, ht3, hout, hi2⟩
  refine z_istore (lv' := [(6, _), (5, _), (0, _), (1, _), (2, _), (3, _), (4, _)]) dL_law_551 (by decide) rfl ?_
  refine z_aload_n dL_law_553 rfl ?_
  refine z_cV0 dL_law_554 lk_L_79 (by decide) ⟨by decide, _, rfl⟩ rfl (Nat.le_of_ble_eq_true rfl) (ev_X8_thrown G ht3) ?_
  refine z_iload dL_law_557 rfl ?_
  refine z_icmpN_eq (tgt := 564) dL_law_559 (by decide) (by omega) (by omega) (fun c559 => ?_) (fun c559 => absurd rfl c559)
  refine z_iload dL_law_564 rfl ?_
  refine z_ifN_ne (tgt := 581) dL_law_566 (by decide) (by omega) (fun c566 => ?_) (fun c566 => ?_)
  · refine z_goto (tgt := 1339) dL_law_581 (by decide) ?_
    refine z_sub (lv' := [(0, _), (1, _), (2, _), (3, _), (4, _)]) rfl ?_
    exact hk _ hi2
  · refine z_aload_n dL_law_569 rfl ?_
    refine z_iconst (v := nI 0) dL_law_570 (by decide) ?_
    refine z_laldN dL_law_571 ⟨by decide, rfl⟩ (by decide) (by decide) ?_
    refine z_iload dL_law_572 rfl ?_
    refine z_i2l dL_law_574 rfl ?_
    refine z_lc_eq (tgt := 581) dL_law_575 dL_law_576 (by decide) (fun c575 => ?_) (fun c575 => absurd (hout c566) c575)
    refine z_goto (tgt := 1339) dL_law_581 (by decide) ?_
    refine z_sub (lv' := [(0, _), (1, _), (2, _), (3, _), (4, _)]) rfl ?_
    exact hk _ hi2
set_option maxRecDepth 100000 in
theorem lc_bound (G : Gt) (hG : G.1.stackTraces = false) {b L : Nat} {xs : Nat → Int32} (hL : L ≤ 1536) {i : Nat} (hi : i + 2 < L) {a b2 k n : Nat} {μ : Mm} (hI : Inv μ) (hk : ∀ u, Inv u → Zs G 13 Y_L_law (a, b2, k, n, enL G b L xs) 1339 [(0, .ref b), (1, rf G 0), (2, rf G 35), (3, rf G 46), (4, .int (nI i))] [] u) : Zs G 13 Y_L_law (a, b2, k, n, enL G b L xs) 584 [(0, .ref b), (1, rf G 0), (2, rf G 35), (3, rf G 46), (4, .int (nI i))] [] μ := by
  obtain ⟨r, PP, dc, dm, hdc, hdm, hw, hmm⟩ := un_bound G hI
  refine z_aload_n dL_law_584 rfl ?_
  refine z_cV0g dL_law_585 lk_L_102 (by omega) ⟨by decide, _, rfl⟩ rfl (Nat.le_of_ble_eq_true rfl) (hw) ?_
  rintro v u ⟨rfl, hp⟩
  refine z_aload_n dL_law_588 rfl ?_
  refine z_cV0g dL_law_589 lk_L_105 (by omega) ⟨by decide, _, rfl⟩ rfl (Nat.le_of_ble_eq_true rfl) (hmm u hp) ?_
  rintro v2 u2 ⟨rfl, hi2⟩
  refine z_icmp_eq (tgt := 1339) dL_law_592 (by decide) (fun c592 => ?_) (fun c592 => absurd rfl c592)
  refine z_sub (lv' := [(0, _), (1, _), (2, _), (3, _), (4, _)]) rfl ?_
  exact hk _ hi2
set_option maxRecDepth 100000 in
theorem lc_at (G : Gt) (hG : G.1.stackTraces = false) {b L : Nat} {xs : Nat → Int32} (hL : L ≤ 1536) {i : Nat} (hi : i + 2 < L) {a b2 k n : Nat} {μ : Mm} (hI : Inv μ) (hk : ∀ u, Inv u → Zs G 13 Y_L_law (a, b2, k + 1, n + 6, enL G b L xs) 1339 [(0, .ref b), (1, rf G 0), (2, rf G 35), (3, rf G 46), (4, .int (nI i))] [] u) : Zs G 13 Y_L_law (a + 1, b2 + 6, k, n, enL G b L xs) 597 [(0, .ref b), (1, rf G 0), (2, rf G 35), (3, rf G 46), (4, .int (nI i))] [] μ := by
  obtain ⟨kk, PP, dm, hk3, hdm, hw, hmm⟩ := op_at G hG hI (xs (i + 1)) (xs (i + 2))
  refine z_aload_n dL_law_597 rfl ?_
  refine zr_aload_n dL_law_598 rfl ?_
  refine z_iload dL_law_599 rfl ?_
  refine z_iconst (v := nI 1) dL_law_601 (by decide) ?_
  refine z_iaddN dL_law_602 ?_
  refine z_sld dL_law_603 (by omega) hL ?_
  refine zr_aload_n dL_law_604 rfl ?_
  refine z_iload dL_law_605 rfl ?_
  refine z_iconst (v := nI 2) dL_law_607 (by decide) ?_
  refine z_iaddN dL_law_608 ?_
  refine z_sld dL_law_609 (by omega) hL ?_
  refine z_aload_n dL_law_610 rfl ?_
  refine z_callW (As := [rf G 0, .int (xs (i + 1)), .int (xs (i + 2)), rf G 46]) dL_law_611 rfl lk_L_106 rfl (by decide) (Nat.le_of_ble_eq_true rfl) (hw) ?_
  rintro v u ⟨rfl, hp⟩
  refine z_istore (lv' := [(5, _), (0, _), (1, _), (2, _), (3, _), (4, _)]) dL_law_614 (by decide) rfl ?_
  refine z_aload_n dL_law_616 rfl ?_
  refine zr_aload_n dL_law_617 rfl ?_
  refine z_iload dL_law_618 rfl ?_
  refine z_iconst (v := nI 1) dL_law_620 (by decide) ?_
  refine z_iaddN dL_law_621 ?_
  refine z_sld dL_law_622 (by omega) hL ?_
  refine zr_aload_n dL_law_623 rfl ?_
  refine z_iload dL_law_624 rfl ?_
  refine z_iconst (v := nI 2) dL_law_626 (by decide) ?_
  refine z_iaddN dL_law_627 ?_
  refine z_sld dL_law_628 (by omega) hL ?_
  refine z_cV2g dL_law_629 lk_L_108 (by omega) ⟨by decide, _, rfl⟩ rfl (Nat.le_of_ble_eq_true rfl) (hmm u hp) ?_
  rintro v2 u2 ⟨bb, rfl, ht3, hout, hi2⟩
  refine z_istore (lv' := [(6, _), (5, _), (0, _), (1, _), (2, _), (3, _), (4, _)]) dL_law_632 (by decide) rfl ?_
  refine z_aload_n dL_law_634 rfl ?_
  refine z_cV0 dL_law_635 lk_L_79 (by decide) ⟨by decide, _, rfl⟩ rfl (Nat.le_of_ble_eq_true rfl) (ev_X8_thrown G ht3) ?_
  refine z_iload dL_law_638 rfl ?_
  refine z_icmpN_eq (tgt := 645) dL_law_640 (by decide) (by omega) (by omega) (fun c640 => ?_) (fun c640 => absurd rfl c640)
  refine z_iload dL_law_645 rfl ?_
  refine z_ifN_ne (tgt := 662) dL_law_647 (by decide) (by omega) (fun c647 => ?_) (fun c647 => ?_)
  · refine z_goto (tgt := 1339) dL_law_662 (by decide) ?_
    refine z_sub (lv' := [(0, _), (1, _), (2, _), (3, _), (4, _)]) rfl ?_
    exact hk _ hi2
  · refine z_aload_n dL_law_650 rfl ?_
    refine z_iconst (v := nI 0) dL_law_651 (by decide) ?_
    refine z_laldN dL_law_652 ⟨by decide, rfl⟩ (by decide) (by decide) ?_
    refine z_iload dL_law_653 rfl ?_
    refine z_i2l dL_law_655 rfl ?_
    refine z_lc_eq (tgt := 662) dL_law_656 dL_law_657 (by decide) (fun c656 => ?_) (fun c656 => absurd (hout c647) c656)
    refine z_goto (tgt := 1339) dL_law_662 (by decide) ?_
    refine z_sub (lv' := [(0, _), (1, _), (2, _), (3, _), (4, _)]) rfl ?_
    exact hk _ hi2
set_option maxRecDepth 100000 in
theorem lc_set (G : Gt) (hG : G.1.stackTraces = false) {b L : Nat} {xs : Nat → Int32} (hL : L ≤ 1536) {i : Nat} (hi : i + 2 < L) {a b2 k n : Nat} {μ : Mm} (hI : Inv μ) (hk : ∀ u, Inv u → Zs G 13 Y_L_law (a, b2, k + 1, n + 6, enL G b L xs) 1339 [(0, .ref b), (1, rf G 0), (2, rf G 35), (3, rf G 46), (4, .int (nI i))] [] u) : Zs G 13 Y_L_law (a + 1, b2 + 6, k, n, enL G b L xs) 665 [(0, .ref b), (1, rf G 0), (2, rf G 35), (3, rf G 46), (4, .int (nI i))] [] μ := by
  obtain ⟨kk, PP, dm, hk3, hdm, hw, hmm⟩ := op_set G hG hI (xs (i + 1)) (xs (i + 2))
  refine z_aload_n dL_law_665 rfl ?_
  refine zr_aload_n dL_law_666 rfl ?_
  refine z_iload dL_law_667 rfl ?_
  refine z_iconst (v := nI 1) dL_law_669 (by decide) ?_
  refine z_iaddN dL_law_670 ?_
  refine z_sld dL_law_671 (by omega) hL ?_
  refine zr_aload_n dL_law_672 rfl ?_
  refine z_iload dL_law_673 rfl ?_
  refine z_iconst (v := nI 2) dL_law_675 (by decide) ?_
  refine z_iaddN dL_law_676 ?_
  refine z_sld dL_law_677 (by omega) hL ?_
  refine z_aload_n dL_law_678 rfl ?_
  refine z_callW (As := [rf G 0, .int (xs (i + 1)), .int (xs (i + 2)), rf G 46]) dL_law_679 rfl lk_L_109 rfl (by decide) (Nat.le_of_ble_eq_true rfl) (hw) ?_
  rintro v u ⟨rfl, hp⟩
  refine z_istore (lv' := [(5, _), (0, _), (1, _), (2, _), (3, _), (4, _)]) dL_law_682 (by decide) rfl ?_
  refine z_aload_n dL_law_684 rfl ?_
  refine zr_aload_n dL_law_685 rfl ?_
  refine z_iload dL_law_686 rfl ?_
  refine z_iconst (v := nI 1) dL_law_688 (by decide) ?_
  refine z_iaddN dL_law_689 ?_
  refine z_sld dL_law_690 (by omega) hL ?_
  refine zr_aload_n dL_law_691 rfl ?_
  refine z_iload dL_law_692 rfl ?_
  refine z_iconst (v := nI 2) dL_law_694 (by decide) ?_
  refine z_iaddN dL_law_695 ?_
  refine z_sld dL_law_696 (by omega) hL ?_
  refine z_cV2g dL_law_697 lk_L_111 (by omega) ⟨by decide, _, rfl⟩ rfl (Nat.le_of_ble_eq_true rfl) (hmm u hp) ?_
  rintro v2 u2 ⟨bb, rfl, ht3, hout, hi2⟩
  refine z_istore (lv' := [(6, _), (5, _), (0, _), (1, _), (2, _), (3, _), (4, _)]) dL_law_700 (by decide) rfl ?_
  refine z_aload_n dL_law_702 rfl ?_
  refine z_cV0 dL_law_703 lk_L_79 (by decide) ⟨by decide, _, rfl⟩ rfl (Nat.le_of_ble_eq_true rfl) (ev_X8_thrown G ht3) ?_
  refine z_iload dL_law_706 rfl ?_
  refine z_icmpN_eq (tgt := 713) dL_law_708 (by decide) (by omega) (by omega) (fun c708 => ?_) (fun c708 => absurd rfl c708)
  refine z_iload dL_law_713 rfl ?_
  refine z_ifN_ne (tgt := 730) dL_law_715 (by decide) (by omega) (fun c715 => ?_) (fun c715 => ?_)
  · refine z_goto (tgt := 1339) dL_law_730 (by decide) ?_
    refine z_sub (lv' := [(0, _), (1, _), (2, _), (3, _), (4, _)]) rfl ?_
    exact hk _ hi2
  · refine z_aload_n dL_law_718 rfl ?_
    refine z_iconst (v := nI 0) dL_law_719 (by decide) ?_
    refine z_laldN dL_law_720 ⟨by decide, rfl⟩ (by decide) (by decide) ?_
    refine z_iload dL_law_721 rfl ?_
    refine z_i2l dL_law_723 rfl ?_
    refine z_lc_eq (tgt := 730) dL_law_724 dL_law_725 (by decide) (fun c724 => ?_) (fun c724 => absurd (hout c715) c724)
    refine z_goto (tgt := 1339) dL_law_730 (by decide) ?_
    refine z_sub (lv' := [(0, _), (1, _), (2, _), (3, _), (4, _)]) rfl ?_
    exact hk _ hi2
set_option maxRecDepth 100000 in
theorem lc_block (G : Gt) (hG : G.1.stackTraces = false) {b L : Nat} {xs : Nat → Int32} (hL : L ≤ 1536) {i : Nat} (hi : i + 2 < L) {a b2 k n : Nat} {μ : Mm} (hI : Inv μ) (hk : ∀ u, Inv u → Zs G 13 Y_L_law (a, b2, k + 1, n + 6, enL G b L xs) 1339 [(0, .ref b), (1, rf G 0), (2, rf G 35), (3, rf G 46), (4, .int (nI i))] [] u) : Zs G 13 Y_L_law (a + 1, b2 + 6, k, n, enL G b L xs) 733 [(0, .ref b), (1, rf G 0), (2, rf G 35), (3, rf G 46), (4, .int (nI i))] [] μ := by
  obtain ⟨kk, PP, dm, hk3, hdm, hw, hmm⟩ := op_block G hG hI (xs (i + 1))
  refine z_aload_n dL_law_733 rfl ?_
  refine zr_aload_n dL_law_734 rfl ?_
  refine z_iload dL_law_735 rfl ?_
  refine z_iconst (v := nI 1) dL_law_737 (by decide) ?_
  refine z_iaddN dL_law_738 ?_
  refine z_sld dL_law_739 (by omega) hL ?_
  refine z_aload_n dL_law_740 rfl ?_
  refine z_callW (As := [rf G 0, .int (xs (i + 1)), rf G 46]) dL_law_741 rfl lk_L_112 rfl (by decide) (Nat.le_of_ble_eq_true rfl) (hw) ?_
  rintro v u ⟨rfl, hp⟩
  refine z_istore (lv' := [(5, _), (0, _), (1, _), (2, _), (3, _), (4, _)]) dL_law_744 (by decide) rfl ?_
  refine z_aload_n dL_law_746 rfl ?_
  refine zr_aload_n dL_law_747 rfl ?_
  refine z_iload dL_law_748 rfl ?_
  refine z_iconst (v := nI 1) dL_law_750 (by decide) ?_
  refine z_iaddN dL_law_751 ?_
  refine z_sld dL_law_752 (by omega) hL ?_
  refine z_cV1g dL_law_753 lk_L_114 (by omega) ⟨by decide, _, rfl⟩ rfl (Nat.le_of_ble_eq_true rfl) (hmm u hp) ?_
  rintro v2 u2 ⟨bb, rfl, ht3, hout, hi2⟩
  refine z_istore (lv' := [(6, _), (5, _), (0, _), (1, _), (2, _), (3, _), (4, _)]) dL_law_756 (by decide) rfl ?_
  refine z_aload_n dL_law_758 rfl ?_
  refine z_cV0 dL_law_759 lk_L_79 (by decide) ⟨by decide, _, rfl⟩ rfl (Nat.le_of_ble_eq_true rfl) (ev_X8_thrown G ht3) ?_
  refine z_iload dL_law_762 rfl ?_
  refine z_icmpN_eq (tgt := 769) dL_law_764 (by decide) (by omega) (by omega) (fun c764 => ?_) (fun c764 => absurd rfl c764)
  refine z_iload dL_law_769 rfl ?_
  refine z_ifN_ne (tgt := 786) dL_law_771 (by decide) (by omega) (fun c771 => ?_) (fun c771 => ?_)
  · refine z_goto (tgt := 1339) dL_law_786 (by decide) ?_
    refine z_sub (lv' := [(0, _), (1, _), (2, _), (3, _), (4, _)]) rfl ?_
    exact hk _ hi2
  · refine z_aload_n dL_law_774 rfl ?_
    refine z_iconst (v := nI 0) dL_law_775 (by decide) ?_
    refine z_laldN dL_law_776 ⟨by decide, rfl⟩ (by decide) (by decide) ?_
    refine z_iload dL_law_777 rfl ?_
    refine z_i2l dL_law_779 rfl ?_
    refine z_lc_eq (tgt := 786) dL_law_780 dL_law_781 (by decide) (fun c780 => ?_) (fun c780 => absurd (hout c771) c780)
    refine z_goto (tgt := 1339) dL_law_786 (by decide) ?_
    refine z_sub (lv' := [(0, _), (1, _), (2, _), (3, _), (4, _)]) rfl ?_
    exact hk _ hi2
set_option maxRecDepth 100000 in
theorem lc_part (G : Gt) (hG : G.1.stackTraces = false) {b L : Nat} {xs : Nat → Int32} (hL : L ≤ 1536) {i : Nat} (hi : i + 2 < L) {a b2 k n : Nat} {μ : Mm} (hI : Inv μ) (hk : ∀ u, Inv u → Zs G 13 Y_L_law (a, b2, k + 1, n + 6, enL G b L xs) 1339 [(0, .ref b), (1, rf G 0), (2, rf G 35), (3, rf G 46), (4, .int (nI i))] [] u) : Zs G 13 Y_L_law (a + 1, b2 + 6, k, n, enL G b L xs) 789 [(0, .ref b), (1, rf G 0), (2, rf G 35), (3, rf G 46), (4, .int (nI i))] [] μ := by
  obtain ⟨kk, PP, dm, hk3, hdm, hw, hmm⟩ := op_part G hG hI (xs (i + 1)) (xs (i + 2))
  refine z_aload_n dL_law_789 rfl ?_
  refine zr_aload_n dL_law_790 rfl ?_
  refine z_iload dL_law_791 rfl ?_
  refine z_iconst (v := nI 1) dL_law_793 (by decide) ?_
  refine z_iaddN dL_law_794 ?_
  refine z_sld dL_law_795 (by omega) hL ?_
  refine zr_aload_n dL_law_796 rfl ?_
  refine z_iload dL_law_797 rfl ?_
  refine z_iconst (v := nI 2) dL_law_799 (by decide) ?_
  refine z_iaddN dL_law_800 ?_
  refine z_sld dL_law_801 (by omega) hL ?_
  refine z_aload_n dL_law_802 rfl ?_
  refine z_callW (As := [rf G 0, .int (xs (i + 1)), .int (xs (i + 2)), rf G 46]) dL_law_803 rfl lk_L_115 rfl (by decide) (Nat.le_of_ble_eq_true rfl) (hw) ?_
  rintro v u ⟨rfl, hp⟩
  refine z_istore (lv' := [(5, _), (0, _), (1, _), (2, _), (3, _), (4, _)]) dL_law_806 (by decide) rfl ?_
  refine z_aload_n dL_law_808 rfl ?_
  refine zr_aload_n dL_law_809 rfl ?_
  refine z_iload dL_law_810 rfl ?_
  refine z_iconst (v := nI 1) dL_law_812 (by decide) ?_
  refine z_iaddN dL_law_813 ?_
  refine z_sld dL_law_814 (by omega) hL ?_
  refine zr_aload_n dL_law_815 rfl ?_
  refine z_iload dL_law_816 rfl ?_
  refine z_iconst (v := nI 2) dL_law_818 (by decide) ?_
  refine z_iaddN dL_law_819 ?_
  refine z_sld dL_law_820 (by omega) hL ?_
  refine z_cV2g dL_law_821 lk_L_117 (by omega) ⟨by decide, _, rfl⟩ rfl (Nat.le_of_ble_eq_true rfl) (hmm u hp) ?_
  rintro v2 u2 ⟨bb, rfl, ht3, hout, hi2⟩
  refine z_istore (lv' := [(6, _), (5, _), (0, _), (1, _), (2, _), (3, _), (4, _)]) dL_law_824 (by decide) rfl ?_
  refine z_aload_n dL_law_826 rfl ?_
  refine z_cV0 dL_law_827 lk_L_79 (by decide) ⟨by decide, _, rfl⟩ rfl (Nat.le_of_ble_eq_true rfl) (ev_X8_thrown G ht3) ?_
  refine z_iload dL_law_830 rfl ?_
  refine z_icmpN_eq (tgt := 837) dL_law_832 (by decide) (by omega) (by omega) (fun c832 => ?_) (fun c832 => absurd rfl c832)
  refine z_iload dL_law_837 rfl ?_
  refine z_ifN_ne (tgt := 854) dL_law_839 (by decide) (by omega) (fun c839 => ?_) (fun c839 => ?_)
  · refine z_goto (tgt := 1339) dL_law_854 (by decide) ?_
    refine z_sub (lv' := [(0, _), (1, _), (2, _), (3, _), (4, _)]) rfl ?_
    exact hk _ hi2
  · refine z_aload_n dL_law_842 rfl ?_
    refine z_iconst (v := nI 0) dL_law_843 (by decide) ?_
    refine z_laldN dL_law_844 ⟨by decide, rfl⟩ (by decide) (by decide) ?_
    refine z_iload dL_law_845 rfl ?_
    refine z_i2l dL_law_847 rfl ?_
    refine z_lc_eq (tgt := 854) dL_law_848 dL_law_849 (by decide) (fun c848 => ?_) (fun c848 => absurd (hout c839) c848)
    refine z_goto (tgt := 1339) dL_law_854 (by decide) ?_
    refine z_sub (lv' := [(0, _), (1, _), (2, _), (3, _), (4, _)]) rfl ?_
    exact hk _ hi2
set_option maxRecDepth 100000 in
theorem lc_whole (G : Gt) (hG : G.1.stackTraces = false) {b L : Nat} {xs : Nat → Int32} (hL : L ≤ 1536) {i : Nat} (hi : i + 2 < L) {a b2 k n : Nat} {μ : Mm} (hI : Inv μ) (hk : ∀ u, Inv u → Zs G 13 Y_L_law (a, b2, k + 1, n + 6, enL G b L xs) 1339 [(0, .ref b), (1, rf G 0), (2, rf G 35), (3, rf G 46), (4, .int (nI i))] [] u) : Zs G 13 Y_L_law (a + 1, b2 + 6, k, n, enL G b L xs) 857 [(0, .ref b), (1, rf G 0), (2, rf G 35), (3, rf G 46), (4, .int (nI i))] [] μ := by
  obtain ⟨kk, PP, dm, hk3, hdm, hw, hmm⟩ := op_whole G hG hI (xs (i + 1))
  refine z_aload_n dL_law_857 rfl ?_
  refine zr_aload_n dL_law_858 rfl ?_
  refine z_iload dL_law_859 rfl ?_
  refine z_iconst (v := nI 1) dL_law_861 (by decide) ?_
  refine z_iaddN dL_law_862 ?_
  refine z_sld dL_law_863 (by omega) hL ?_
  refine z_aload_n dL_law_864 rfl ?_
  refine z_callW (As := [rf G 0, .int (xs (i + 1)), rf G 46]) dL_law_865 rfl lk_L_118 rfl (by decide) (Nat.le_of_ble_eq_true rfl) (hw) ?_
  rintro v u ⟨rfl, hp⟩
  refine z_istore (lv' := [(5, _), (0, _), (1, _), (2, _), (3, _), (4, _)]) dL_law_868 (by decide) rfl ?_
  refine z_aload_n dL_law_870 rfl ?_
  refine zr_aload_n dL_law_871 rfl ?_
  refine z_iload dL_law_872 rfl ?_
  refine z_iconst (v := nI 1) dL_law_874 (by decide) ?_
  refine z_iaddN dL_law_875 ?_
  refine z_sld dL_law_876 (by omega) hL ?_
  refine z_cV1g dL_law_877 lk_L_120 (by omega) ⟨by decide, _, rfl⟩ rfl (Nat.le_of_ble_eq_true rfl) (hmm u hp) ?_
  rintro v2 u2 ⟨bb, rfl, ht3, hout, hi2⟩
  refine z_istore (lv' := [(6, _), (5, _), (0, _), (1, _), (2, _), (3, _), (4, _)]) dL_law_880 (by decide) rfl ?_
  refine z_aload_n dL_law_882 rfl ?_
  refine z_cV0 dL_law_883 lk_L_79 (by decide) ⟨by decide, _, rfl⟩ rfl (Nat.le_of_ble_eq_true rfl) (ev_X8_thrown G ht3) ?_
  refine z_iload dL_law_886 rfl ?_
  refine z_icmpN_eq (tgt := 893) dL_law_888 (by decide) (by omega) (by omega) (fun c888 => ?_) (fun c888 => absurd rfl c888)
  refine z_iload dL_law_893 rfl ?_
  refine z_ifN_ne (tgt := 910) dL_law_895 (by decide) (by omega) (fun c895 => ?_) (fun c895 => ?_)
  · refine z_goto (tgt := 1339) dL_law_910 (by decide) ?_
    refine z_sub (lv' := [(0, _), (1, _), (2, _), (3, _), (4, _)]) rfl ?_
    exact hk _ hi2
  · refine z_aload_n dL_law_898 rfl ?_
    refine z_iconst (v := nI 0) dL_law_899 (by decide) ?_
    refine z_laldN dL_law_900 ⟨by decide, rfl⟩ (by decide) (by decide) ?_
    refine z_iload dL_law_901 rfl ?_
    refine z_i2l dL_law_903 rfl ?_
    refine z_lc_eq (tgt := 910) dL_law_904 dL_law_905 (by decide) (fun c904 => ?_) (fun c904 => absurd (hout c895) c904)
    refine z_goto (tgt := 1339) dL_law_910 (by decide) ?_
    refine z_sub (lv' := [(0, _), (1, _), (2, _), (3, _), (4, _)]) rfl ?_
    exact hk _ hi2
set_option maxRecDepth 100000 in
theorem lc_sums (G : Gt) (hG : G.1.stackTraces = false) {b L : Nat} {xs : Nat → Int32} (hL : L ≤ 1536) {i : Nat} (hi : i + 2 < L) {a b2 k n : Nat} {μ : Mm} (hI : Inv μ) (hk : ∀ u, Inv u → Zs G 13 Y_L_law (a, b2, k, n, enL G b L xs) 1339 [(0, .ref b), (1, rf G 0), (2, rf G 35), (3, rf G 46), (4, .int (nI i))] [] u) : Zs G 13 Y_L_law (a, b2, k, n, enL G b L xs) 913 [(0, .ref b), (1, rf G 0), (2, rf G 35), (3, rf G 46), (4, .int (nI i))] [] μ := by
  obtain ⟨r, PP, dc, dm, hdc, hdm, hw, hmm⟩ := un_sums G hI
  refine z_aload_n dL_law_913 rfl ?_
  refine z_cV0g dL_law_914 lk_L_121 (by omega) ⟨by decide, _, rfl⟩ rfl (Nat.le_of_ble_eq_true rfl) (hw) ?_
  rintro v u ⟨rfl, hp⟩
  refine z_aload_n dL_law_917 rfl ?_
  refine z_cV0g dL_law_918 lk_L_125 (by omega) ⟨by decide, _, rfl⟩ rfl (Nat.le_of_ble_eq_true rfl) (hmm u hp) ?_
  rintro v2 u2 ⟨rfl, hi2⟩
  refine z_lc_eq (tgt := 1339) dL_law_921 dL_law_922 (by decide) (fun c921 => ?_) (fun c921 => absurd rfl c921)
  refine z_sub (lv' := [(0, _), (1, _), (2, _), (3, _), (4, _)]) rfl ?_
  exact hk _ hi2
set_option maxRecDepth 100000 in
theorem lc_cross (G : Gt) (hG : G.1.stackTraces = false) {b L : Nat} {xs : Nat → Int32} (hL : L ≤ 1536) {i : Nat} (hi : i + 2 < L) {a b2 k n : Nat} {μ : Mm} (hI : Inv μ) (hk : ∀ u, Inv u → Zs G 13 Y_L_law (a, b2, k, n, enL G b L xs) 1339 [(0, .ref b), (1, rf G 0), (2, rf G 35), (3, rf G 46), (4, .int (nI i))] [] u) : Zs G 13 Y_L_law (a, b2, k, n, enL G b L xs) 927 [(0, .ref b), (1, rf G 0), (2, rf G 35), (3, rf G 46), (4, .int (nI i))] [] μ := by
  obtain ⟨r, PP, dc, dm, hdc, hdm, hw, hmm⟩ := un_cross G hI
  refine z_aload_n dL_law_927 rfl ?_
  refine z_cV0g dL_law_928 lk_L_126 (by omega) ⟨by decide, _, rfl⟩ rfl (Nat.le_of_ble_eq_true rfl) (hw) ?_
  rintro v u ⟨rfl, hp⟩
  refine z_dstore (lv' := [(5, _), (0, _), (1, _), (2, _), (3, _), (4, _)]) dL_law_931 (by decide) rfl ?_
  refine z_aload_n dL_law_933 rfl ?_
  refine z_cV0g dL_law_934 lk_L_130 (by omega) ⟨by decide, _, rfl⟩ rfl (Nat.le_of_ble_eq_true rfl) (hmm u hp) ?_
  rintro v2 u2 ⟨rfl, hi2⟩
  refine z_dstore (lv' := [(7, _), (5, _), (0, _), (1, _), (2, _), (3, _), (4, _)]) dL_law_937 (by decide) rfl ?_
  refine z_dload dL_law_939 rfl ?_
  refine z_dload dL_law_941 rfl ?_
  refine z_dcmp dL_law_943 ?_
  refine z_if_eq (tgt := 965) dL_law_944 (by decide) (fun c944 => ?_) (fun c944 => ?_)
  · refine z_goto (tgt := 1339) dL_law_965 (by decide) ?_
    refine z_sub (lv' := [(0, _), (1, _), (2, _), (3, _), (4, _)]) rfl ?_
    exact hk _ hi2
  · refine z_dload dL_law_947 rfl ?_
    refine z_dload dL_law_949 rfl ?_
    refine z_dcmp dL_law_951 ?_
    refine z_if_eq (tgt := 963) dL_law_952 (by decide) (fun c952 => absurd c952 c944) (fun c952 => ?_)
    refine z_dload dL_law_955 rfl ?_
    refine z_dload dL_law_957 rfl ?_
    refine z_dcmp dL_law_959 ?_
    refine z_if_ne (tgt := 965) dL_law_960 (by decide) (fun c960 => ?_) (fun c960 => absurd c960 c944)
    refine z_goto (tgt := 1339) dL_law_965 (by decide) ?_
    refine z_sub (lv' := [(0, _), (1, _), (2, _), (3, _), (4, _)]) rfl ?_
    exact hk _ hi2
set_option maxRecDepth 100000 in
theorem lc_reason (G : Gt) (hG : G.1.stackTraces = false) {b L : Nat} {xs : Nat → Int32} (hL : L ≤ 1536) {i : Nat} (hi : i + 2 < L) {a b2 k n : Nat} {μ : Mm} (hI : Inv μ) (hk : ∀ u, Inv u → Zs G 13 Y_L_law (a, b2, k + 1, n + 6, enL G b L xs) 1339 [(0, .ref b), (1, rf G 0), (2, rf G 35), (3, rf G 46), (4, .int (nI i))] [] u) : Zs G 13 Y_L_law (a + 1, b2 + 6, k, n, enL G b L xs) 968 [(0, .ref b), (1, rf G 0), (2, rf G 35), (3, rf G 46), (4, .int (nI i))] [] μ := by
  obtain ⟨kk, PP, dm, hk3, hdm, hw, hmm⟩ := op_reason G hG hI (xs (i + 1))
  refine z_aload_n dL_law_968 rfl ?_
  refine zr_aload_n dL_law_969 rfl ?_
  refine z_iload dL_law_970 rfl ?_
  refine z_iconst (v := nI 1) dL_law_972 (by decide) ?_
  refine z_iaddN dL_law_973 ?_
  refine z_sld dL_law_974 (by omega) hL ?_
  refine z_aload_n dL_law_975 rfl ?_
  refine z_callW (As := [rf G 0, .int (xs (i + 1)), rf G 46]) dL_law_976 rfl lk_L_131 rfl (by decide) (Nat.le_of_ble_eq_true rfl) (hw) ?_
  rintro v u ⟨rfl, hp⟩
  refine z_istore (lv' := [(5, _), (0, _), (1, _), (2, _), (3, _), (4, _)]) dL_law_979 (by decide) rfl ?_
  refine z_aload_n dL_law_981 rfl ?_
  refine zr_aload_n dL_law_982 rfl ?_
  refine z_iload dL_law_983 rfl ?_
  refine z_iconst (v := nI 1) dL_law_985 (by decide) ?_
  refine z_iaddN dL_law_986 ?_
  refine z_sld dL_law_987 (by omega) hL ?_
  refine z_cV1g dL_law_988 lk_L_133 (by omega) ⟨by decide, _, rfl⟩ rfl (Nat.le_of_ble_eq_true rfl) (hmm u hp) ?_
  rintro v2 u2 ⟨bb, rfl, ht3, hout, hi2⟩
  refine z_istore (lv' := [(6, _), (5, _), (0, _), (1, _), (2, _), (3, _), (4, _)]) dL_law_991 (by decide) rfl ?_
  refine z_aload_n dL_law_993 rfl ?_
  refine z_cV0 dL_law_994 lk_L_79 (by decide) ⟨by decide, _, rfl⟩ rfl (Nat.le_of_ble_eq_true rfl) (ev_X8_thrown G ht3) ?_
  refine z_iload dL_law_997 rfl ?_
  refine z_icmpN_eq (tgt := 1004) dL_law_999 (by decide) (by omega) (by omega) (fun c999 => ?_) (fun c999 => absurd rfl c999)
  refine z_iload dL_law_1004 rfl ?_
  refine z_ifN_ne (tgt := 1021) dL_law_1006 (by decide) (by omega) (fun c1006 => ?_) (fun c1006 => ?_)
  · refine z_goto (tgt := 1339) dL_law_1021 (by decide) ?_
    refine z_sub (lv' := [(0, _), (1, _), (2, _), (3, _), (4, _)]) rfl ?_
    exact hk _ hi2
  · refine z_aload_n dL_law_1009 rfl ?_
    refine z_iconst (v := nI 0) dL_law_1010 (by decide) ?_
    refine z_laldN dL_law_1011 ⟨by decide, rfl⟩ (by decide) (by decide) ?_
    refine z_iload dL_law_1012 rfl ?_
    refine z_i2l dL_law_1014 rfl ?_
    refine z_lc_eq (tgt := 1021) dL_law_1015 dL_law_1016 (by decide) (fun c1015 => ?_) (fun c1015 => absurd (hout c1006) c1015)
    refine z_goto (tgt := 1339) dL_law_1021 (by decide) ?_
    refine z_sub (lv' := [(0, _), (1, _), (2, _), (3, _), (4, _)]) rfl ?_
    exact hk _ hi2
set_option maxRecDepth 100000 in
theorem lc_freeElement (G : Gt) (hG : G.1.stackTraces = false) {b L : Nat} {xs : Nat → Int32} (hL : L ≤ 1536) {i : Nat} (hi : i + 2 < L) {a b2 k n : Nat} {μ : Mm} (hI : Inv μ) (hk : ∀ u, Inv u → Zs G 13 Y_L_law (a, b2, k, n, enL G b L xs) 1339 [(0, .ref b), (1, rf G 0), (2, rf G 35), (3, rf G 46), (4, .int (nI i))] [] u) : Zs G 13 Y_L_law (a, b2, k, n, enL G b L xs) 1024 [(0, .ref b), (1, rf G 0), (2, rf G 35), (3, rf G 46), (4, .int (nI i))] [] μ := by
  obtain ⟨r, PP, dc, dm, hdc, hdm, hw, hmm⟩ := un_freeElement G hI
  refine z_aload_n dL_law_1024 rfl ?_
  refine z_cV0g dL_law_1025 lk_L_134 (by omega) ⟨by decide, _, rfl⟩ rfl (Nat.le_of_ble_eq_true rfl) (hw) ?_
  rintro v u ⟨rfl, hp⟩
  refine z_aload_n dL_law_1028 rfl ?_
  refine z_cV0g dL_law_1029 lk_L_137 (by omega) ⟨by decide, _, rfl⟩ rfl (Nat.le_of_ble_eq_true rfl) (hmm u hp) ?_
  rintro v2 u2 ⟨rfl, hi2⟩
  refine z_icmp_eq (tgt := 1339) dL_law_1032 (by decide) (fun c1032 => ?_) (fun c1032 => absurd rfl c1032)
  refine z_sub (lv' := [(0, _), (1, _), (2, _), (3, _), (4, _)]) rfl ?_
  exact hk _ hi2
set_option maxRecDepth 100000 in
theorem lc_freeFor (G : Gt) (hG : G.1.stackTraces = false) {b L : Nat} {xs : Nat → Int32} (hL : L ≤ 1536) {i : Nat} (hi : i + 2 < L) {a b2 k n : Nat} {μ : Mm} (hI : Inv μ) (hk : ∀ u, Inv u → Zs G 13 Y_L_law (a, b2, k, n, enL G b L xs) 1339 [(0, .ref b), (1, rf G 0), (2, rf G 35), (3, rf G 46), (4, .int (nI i))] [] u) : Zs G 13 Y_L_law (a, b2, k, n, enL G b L xs) 1037 [(0, .ref b), (1, rf G 0), (2, rf G 35), (3, rf G 46), (4, .int (nI i))] [] μ := by
  obtain ⟨r, PP, dc, dm, hdc, hdm, hw, hmm⟩ := un_freeFor G hI
  refine z_aload_n dL_law_1037 rfl ?_
  refine z_cV0g dL_law_1038 lk_L_138 (by omega) ⟨by decide, _, rfl⟩ rfl (Nat.le_of_ble_eq_true rfl) (hw) ?_
  rintro v u ⟨rfl, hp⟩
  refine z_aload_n dL_law_1041 rfl ?_
  refine z_cV0g dL_law_1042 lk_L_141 (by omega) ⟨by decide, _, rfl⟩ rfl (Nat.le_of_ble_eq_true rfl) (hmm u hp) ?_
  rintro v2 u2 ⟨rfl, hi2⟩
  refine z_icmp_eq (tgt := 1339) dL_law_1045 (by decide) (fun c1045 => ?_) (fun c1045 => absurd rfl c1045)
  refine z_sub (lv' := [(0, _), (1, _), (2, _), (3, _), (4, _)]) rfl ?_
  exact hk _ hi2
set_option maxRecDepth 100000 in
theorem lc_blocksWith (G : Gt) (hG : G.1.stackTraces = false) {b L : Nat} {xs : Nat → Int32} (hL : L ≤ 1536) {i : Nat} (hi : i + 2 < L) {a b2 k n : Nat} {μ : Mm} (hI : Inv μ) (hk : ∀ u, Inv u → Zs G 13 Y_L_law (a, b2, k + 1, n + 6, enL G b L xs) 1339 [(0, .ref b), (1, rf G 0), (2, rf G 35), (3, rf G 46), (4, .int (nI i))] [] u) : Zs G 13 Y_L_law (a + 1, b2 + 6, k, n, enL G b L xs) 1050 [(0, .ref b), (1, rf G 0), (2, rf G 35), (3, rf G 46), (4, .int (nI i))] [] μ := by
  obtain ⟨kk, PP, dm, hk3, hdm, hw, hmm⟩ := op_blocksWith G hG hI (xs (i + 1)) (xs (i + 2))
  refine z_aload_n dL_law_1050 rfl ?_
  refine zr_aload_n dL_law_1051 rfl ?_
  refine z_iload dL_law_1052 rfl ?_
  refine z_iconst (v := nI 1) dL_law_1054 (by decide) ?_
  refine z_iaddN dL_law_1055 ?_
  refine z_sld dL_law_1056 (by omega) hL ?_
  refine zr_aload_n dL_law_1057 rfl ?_
  refine z_iload dL_law_1058 rfl ?_
  refine z_iconst (v := nI 2) dL_law_1060 (by decide) ?_
  refine z_iaddN dL_law_1061 ?_
  refine z_sld dL_law_1062 (by omega) hL ?_
  refine z_aload_n dL_law_1063 rfl ?_
  refine z_callW (As := [rf G 0, .int (xs (i + 1)), .int (xs (i + 2)), rf G 46]) dL_law_1064 rfl lk_L_142 rfl (by decide) (Nat.le_of_ble_eq_true rfl) (hw) ?_
  rintro v u ⟨rfl, hp⟩
  refine z_istore (lv' := [(5, _), (0, _), (1, _), (2, _), (3, _), (4, _)]) dL_law_1067 (by decide) rfl ?_
  refine z_aload_n dL_law_1069 rfl ?_
  refine zr_aload_n dL_law_1070 rfl ?_
  refine z_iload dL_law_1071 rfl ?_
  refine z_iconst (v := nI 1) dL_law_1073 (by decide) ?_
  refine z_iaddN dL_law_1074 ?_
  refine z_sld dL_law_1075 (by omega) hL ?_
  refine zr_aload_n dL_law_1076 rfl ?_
  refine z_iload dL_law_1077 rfl ?_
  refine z_iconst (v := nI 2) dL_law_1079 (by decide) ?_
  refine z_iaddN dL_law_1080 ?_
  refine z_sld dL_law_1081 (by omega) hL ?_
  refine z_cV2g dL_law_1082 lk_L_144 (by omega) ⟨by decide, _, rfl⟩ rfl (Nat.le_of_ble_eq_true rfl) (hmm u hp) ?_
  rintro v2 u2 ⟨bb, rfl, ht3, hout, hi2⟩
  refine z_istore (lv' := [(6, _), (5, _), (0, _), (1, _), (2, _), (3, _), (4, _)]) dL_law_1085 (by decide) rfl ?_
  refine z_aload_n dL_law_1087 rfl ?_
  refine z_cV0 dL_law_1088 lk_L_79 (by decide) ⟨by decide, _, rfl⟩ rfl (Nat.le_of_ble_eq_true rfl) (ev_X8_thrown G ht3) ?_
  refine z_iload dL_law_1091 rfl ?_
  refine z_icmpN_eq (tgt := 1098) dL_law_1093 (by decide) (by omega) (by omega) (fun c1093 => ?_) (fun c1093 => absurd rfl c1093)
  refine z_iload dL_law_1098 rfl ?_
  refine z_ifN_ne (tgt := 1115) dL_law_1100 (by decide) (by omega) (fun c1100 => ?_) (fun c1100 => ?_)
  · refine z_goto (tgt := 1339) dL_law_1115 (by decide) ?_
    refine z_sub (lv' := [(0, _), (1, _), (2, _), (3, _), (4, _)]) rfl ?_
    exact hk _ hi2
  · refine z_aload_n dL_law_1103 rfl ?_
    refine z_iconst (v := nI 0) dL_law_1104 (by decide) ?_
    refine z_laldN dL_law_1105 ⟨by decide, rfl⟩ (by decide) (by decide) ?_
    refine z_iload dL_law_1106 rfl ?_
    refine z_i2l dL_law_1108 rfl ?_
    refine z_lc_eq (tgt := 1115) dL_law_1109 dL_law_1110 (by decide) (fun c1109 => ?_) (fun c1109 => absurd (hout c1100) c1109)
    refine z_goto (tgt := 1339) dL_law_1115 (by decide) ?_
    refine z_sub (lv' := [(0, _), (1, _), (2, _), (3, _), (4, _)]) rfl ?_
    exact hk _ hi2
set_option maxRecDepth 100000 in
theorem lc_alike (G : Gt) (hG : G.1.stackTraces = false) {b L : Nat} {xs : Nat → Int32} (hL : L ≤ 1536) {i : Nat} (hi : i + 2 < L) {a b2 k n : Nat} {μ : Mm} (hI : Inv μ) (hk : ∀ u, Inv u → Zs G 13 Y_L_law (a, b2, k + 1, n + 6, enL G b L xs) 1339 [(0, .ref b), (1, rf G 0), (2, rf G 35), (3, rf G 46), (4, .int (nI i))] [] u) : Zs G 13 Y_L_law (a + 1, b2 + 6, k, n, enL G b L xs) 1118 [(0, .ref b), (1, rf G 0), (2, rf G 35), (3, rf G 46), (4, .int (nI i))] [] μ := by
  obtain ⟨kk, PP, dm, hk3, hdm, hw, hmm⟩ := op_alike G hG hI (xs (i + 1)) (xs (i + 2))
  refine z_aload_n dL_law_1118 rfl ?_
  refine zr_aload_n dL_law_1119 rfl ?_
  refine z_iload dL_law_1120 rfl ?_
  refine z_iconst (v := nI 1) dL_law_1122 (by decide) ?_
  refine z_iaddN dL_law_1123 ?_
  refine z_sld dL_law_1124 (by omega) hL ?_
  refine zr_aload_n dL_law_1125 rfl ?_
  refine z_iload dL_law_1126 rfl ?_
  refine z_iconst (v := nI 2) dL_law_1128 (by decide) ?_
  refine z_iaddN dL_law_1129 ?_
  refine z_sld dL_law_1130 (by omega) hL ?_
  refine z_aload_n dL_law_1131 rfl ?_
  refine z_callW (As := [rf G 0, .int (xs (i + 1)), .int (xs (i + 2)), rf G 46]) dL_law_1132 rfl lk_L_145 rfl (by decide) (Nat.le_of_ble_eq_true rfl) (hw) ?_
  rintro v u ⟨rfl, hp⟩
  refine z_istore (lv' := [(5, _), (0, _), (1, _), (2, _), (3, _), (4, _)]) dL_law_1135 (by decide) rfl ?_
  refine z_aload_n dL_law_1137 rfl ?_
  refine zr_aload_n dL_law_1138 rfl ?_
  refine z_iload dL_law_1139 rfl ?_
  refine z_iconst (v := nI 1) dL_law_1141 (by decide) ?_
  refine z_iaddN dL_law_1142 ?_
  refine z_sld dL_law_1143 (by omega) hL ?_
  refine zr_aload_n dL_law_1144 rfl ?_
  refine z_iload dL_law_1145 rfl ?_
  refine z_iconst (v := nI 2) dL_law_1147 (by decide) ?_
  refine z_iaddN dL_law_1148 ?_
  refine z_sld dL_law_1149 (by omega) hL ?_
  refine z_cV2g dL_law_1150 lk_L_147 (by omega) ⟨by decide, _, rfl⟩ rfl (Nat.le_of_ble_eq_true rfl) (hmm u hp) ?_
  rintro v2 u2 ⟨bb, rfl, ht3, hout, hi2⟩
  refine z_istore (lv' := [(6, _), (5, _), (0, _), (1, _), (2, _), (3, _), (4, _)]) dL_law_1153 (by decide) rfl ?_
  refine z_aload_n dL_law_1155 rfl ?_
  refine z_cV0 dL_law_1156 lk_L_79 (by decide) ⟨by decide, _, rfl⟩ rfl (Nat.le_of_ble_eq_true rfl) (ev_X8_thrown G ht3) ?_
  refine z_iload dL_law_1159 rfl ?_
  refine z_icmpN_eq (tgt := 1166) dL_law_1161 (by decide) (by omega) (by omega) (fun c1161 => ?_) (fun c1161 => absurd rfl c1161)
  refine z_iload dL_law_1166 rfl ?_
  refine z_ifN_ne (tgt := 1183) dL_law_1168 (by decide) (by omega) (fun c1168 => ?_) (fun c1168 => ?_)
  · refine z_goto (tgt := 1339) dL_law_1183 (by decide) ?_
    refine z_sub (lv' := [(0, _), (1, _), (2, _), (3, _), (4, _)]) rfl ?_
    exact hk _ hi2
  · refine z_aload_n dL_law_1171 rfl ?_
    refine z_iconst (v := nI 0) dL_law_1172 (by decide) ?_
    refine z_laldN dL_law_1173 ⟨by decide, rfl⟩ (by decide) (by decide) ?_
    refine z_iload dL_law_1174 rfl ?_
    refine z_i2l dL_law_1176 rfl ?_
    refine z_lc_eq (tgt := 1183) dL_law_1177 dL_law_1178 (by decide) (fun c1177 => ?_) (fun c1177 => absurd (hout c1168) c1177)
    refine z_goto (tgt := 1339) dL_law_1183 (by decide) ?_
    refine z_sub (lv' := [(0, _), (1, _), (2, _), (3, _), (4, _)]) rfl ?_
    exact hk _ hi2
set_option maxRecDepth 100000 in
theorem lc_unlikeBlocks (G : Gt) (hG : G.1.stackTraces = false) {b L : Nat} {xs : Nat → Int32} (hL : L ≤ 1536) {i : Nat} (hi : i + 2 < L) {a b2 k n : Nat} {μ : Mm} (hI : Inv μ) (hk : ∀ u, Inv u → Zs G 13 Y_L_law (a, b2, k, n, enL G b L xs) 1339 [(0, .ref b), (1, rf G 0), (2, rf G 35), (3, rf G 46), (4, .int (nI i))] [] u) : Zs G 13 Y_L_law (a, b2, k, n, enL G b L xs) 1186 [(0, .ref b), (1, rf G 0), (2, rf G 35), (3, rf G 46), (4, .int (nI i))] [] μ := by
  obtain ⟨r, PP, dc, dm, hdc, hdm, hw, hmm⟩ := un_unlikeBlocks G hI
  refine z_aload_n dL_law_1186 rfl ?_
  refine z_cV0g dL_law_1187 lk_L_148 (by omega) ⟨by decide, _, rfl⟩ rfl (Nat.le_of_ble_eq_true rfl) (hw) ?_
  rintro v u ⟨rfl, hp⟩
  refine z_aload_n dL_law_1190 rfl ?_
  refine z_cV0g dL_law_1191 lk_L_151 (by omega) ⟨by decide, _, rfl⟩ rfl (Nat.le_of_ble_eq_true rfl) (hmm u hp) ?_
  rintro v2 u2 ⟨rfl, hi2⟩
  refine z_icmp_eq (tgt := 1339) dL_law_1194 (by decide) (fun c1194 => ?_) (fun c1194 => absurd rfl c1194)
  refine z_sub (lv' := [(0, _), (1, _), (2, _), (3, _), (4, _)]) rfl ?_
  exact hk _ hi2
set_option maxRecDepth 100000 in
theorem lc_type (G : Gt) (hG : G.1.stackTraces = false) {b L : Nat} {xs : Nat → Int32} (hL : L ≤ 1536) {i : Nat} (hi : i + 2 < L) {a b2 k n : Nat} {μ : Mm} (hI : Inv μ) (hk : ∀ u, Inv u → Zs G 13 Y_L_law (a, b2, k + 1, n + 6, enL G b L xs) 1339 [(0, .ref b), (1, rf G 0), (2, rf G 35), (3, rf G 46), (4, .int (nI i))] [] u) : Zs G 13 Y_L_law (a + 1, b2 + 6, k, n, enL G b L xs) 1199 [(0, .ref b), (1, rf G 0), (2, rf G 35), (3, rf G 46), (4, .int (nI i))] [] μ := by
  obtain ⟨kk, PP, dm, hk3, hdm, hw, hmm⟩ := op_type G hG hI (xs (i + 1))
  refine z_aload_n dL_law_1199 rfl ?_
  refine zr_aload_n dL_law_1200 rfl ?_
  refine z_iload dL_law_1201 rfl ?_
  refine z_iconst (v := nI 1) dL_law_1203 (by decide) ?_
  refine z_iaddN dL_law_1204 ?_
  refine z_sld dL_law_1205 (by omega) hL ?_
  refine z_aload_n dL_law_1206 rfl ?_
  refine z_callW (As := [rf G 0, .int (xs (i + 1)), rf G 46]) dL_law_1207 rfl lk_L_152 rfl (by decide) (Nat.le_of_ble_eq_true rfl) (hw) ?_
  rintro v u ⟨rfl, hp⟩
  refine z_istore (lv' := [(5, _), (0, _), (1, _), (2, _), (3, _), (4, _)]) dL_law_1210 (by decide) rfl ?_
  refine z_aload_n dL_law_1212 rfl ?_
  refine zr_aload_n dL_law_1213 rfl ?_
  refine z_iload dL_law_1214 rfl ?_
  refine z_iconst (v := nI 1) dL_law_1216 (by decide) ?_
  refine z_iaddN dL_law_1217 ?_
  refine z_sld dL_law_1218 (by omega) hL ?_
  refine z_cV1g dL_law_1219 lk_L_154 (by omega) ⟨by decide, _, rfl⟩ rfl (Nat.le_of_ble_eq_true rfl) (hmm u hp) ?_
  rintro v2 u2 ⟨bb, rfl, ht3, hout, hi2⟩
  refine z_istore (lv' := [(6, _), (5, _), (0, _), (1, _), (2, _), (3, _), (4, _)]) dL_law_1222 (by decide) rfl ?_
  refine z_aload_n dL_law_1224 rfl ?_
  refine z_cV0 dL_law_1225 lk_L_79 (by decide) ⟨by decide, _, rfl⟩ rfl (Nat.le_of_ble_eq_true rfl) (ev_X8_thrown G ht3) ?_
  refine z_iload dL_law_1228 rfl ?_
  refine z_icmpN_eq (tgt := 1235) dL_law_1230 (by decide) (by omega) (by omega) (fun c1230 => ?_) (fun c1230 => absurd rfl c1230)
  refine z_iload dL_law_1235 rfl ?_
  refine z_ifN_ne (tgt := 1252) dL_law_1237 (by decide) (by omega) (fun c1237 => ?_) (fun c1237 => ?_)
  · refine z_goto (tgt := 1339) dL_law_1252 (by decide) ?_
    refine z_sub (lv' := [(0, _), (1, _), (2, _), (3, _), (4, _)]) rfl ?_
    exact hk _ hi2
  · refine z_aload_n dL_law_1240 rfl ?_
    refine z_iconst (v := nI 0) dL_law_1241 (by decide) ?_
    refine z_laldN dL_law_1242 ⟨by decide, rfl⟩ (by decide) (by decide) ?_
    refine z_iload dL_law_1243 rfl ?_
    refine z_i2l dL_law_1245 rfl ?_
    refine z_lc_eq (tgt := 1252) dL_law_1246 dL_law_1247 (by decide) (fun c1246 => ?_) (fun c1246 => absurd (hout c1237) c1246)
    refine z_goto (tgt := 1339) dL_law_1252 (by decide) ?_
    refine z_sub (lv' := [(0, _), (1, _), (2, _), (3, _), (4, _)]) rfl ?_
    exact hk _ hi2
set_option maxRecDepth 100000 in
theorem lc_clearCommands (G : Gt) (hG : G.1.stackTraces = false) {b L : Nat} {xs : Nat → Int32} (hL : L ≤ 1536) {i : Nat} (hi : i + 2 < L) {a b2 k n : Nat} {μ : Mm} (hI : Inv μ) (hk : ∀ u, Inv u → Zs G 13 Y_L_law (a, b2, k, n, enL G b L xs) 1339 [(0, .ref b), (1, rf G 0), (2, rf G 35), (3, rf G 46), (4, .int (nI i))] [] u) : Zs G 13 Y_L_law (a, b2, k, n, enL G b L xs) 1255 [(0, .ref b), (1, rf G 0), (2, rf G 35), (3, rf G 46), (4, .int (nI i))] [] μ := by
  obtain ⟨r, PP, dc, dm, hdc, hdm, hw, hmm⟩ := un_clearCommands G hI
  refine z_aload_n dL_law_1255 rfl ?_
  refine z_cV0g dL_law_1256 lk_L_155 (by omega) ⟨by decide, _, rfl⟩ rfl (Nat.le_of_ble_eq_true rfl) (hw) ?_
  rintro v u ⟨rfl, hp⟩
  refine z_aload_n dL_law_1259 rfl ?_
  refine z_cV0g dL_law_1260 lk_L_158 (by omega) ⟨by decide, _, rfl⟩ rfl (Nat.le_of_ble_eq_true rfl) (hmm u hp) ?_
  rintro v2 u2 ⟨rfl, hi2⟩
  refine z_icmp_eq (tgt := 1339) dL_law_1263 (by decide) (fun c1263 => ?_) (fun c1263 => absurd rfl c1263)
  refine z_sub (lv' := [(0, _), (1, _), (2, _), (3, _), (4, _)]) rfl ?_
  exact hk _ hi2
set_option maxRecDepth 100000 in
theorem lc_runCommands (G : Gt) (hG : G.1.stackTraces = false) {b L : Nat} {xs : Nat → Int32} (hL : L ≤ 1536) {i : Nat} (hi : i + 2 < L) {a b2 k n : Nat} {μ : Mm} (hI : Inv μ) (hk : ∀ u, Inv u → Zs G 13 Y_L_law (a, b2, k, n, enL G b L xs) 1339 [(0, .ref b), (1, rf G 0), (2, rf G 35), (3, rf G 46), (4, .int (nI i))] [] u) : Zs G 13 Y_L_law (a, b2, k, n, enL G b L xs) 1268 [(0, .ref b), (1, rf G 0), (2, rf G 35), (3, rf G 46), (4, .int (nI i))] [] μ := by
  obtain ⟨r, PP, dc, dm, hdc, hdm, hw, hmm⟩ := un_runCommands G hI
  refine z_aload_n dL_law_1268 rfl ?_
  refine z_cV0g dL_law_1269 lk_L_159 (by omega) ⟨by decide, _, rfl⟩ rfl (Nat.le_of_ble_eq_true rfl) (hw) ?_
  rintro v u ⟨rfl, hp⟩
  refine z_aload_n dL_law_1272 rfl ?_
  refine z_cV0g dL_law_1273 lk_L_162 (by omega) ⟨by decide, _, rfl⟩ rfl (Nat.le_of_ble_eq_true rfl) (hmm u hp) ?_
  rintro v2 u2 ⟨rfl, hi2⟩
  refine z_icmp_eq (tgt := 1339) dL_law_1276 (by decide) (fun c1276 => ?_) (fun c1276 => absurd rfl c1276)
  refine z_sub (lv' := [(0, _), (1, _), (2, _), (3, _), (4, _)]) rfl ?_
  exact hk _ hi2
set_option maxRecDepth 100000 in
theorem lc_undo (G : Gt) (hG : G.1.stackTraces = false) {b L : Nat} {xs : Nat → Int32} (hL : L ≤ 1536) {i : Nat} (hi : i + 2 < L) {a b2 k n : Nat} {μ : Mm} (hI : Inv μ) (hk : ∀ u, Inv u → Zs G 13 Y_L_law (a, b2, k + 1, n + 6, enL G b L xs) 1339 [(0, .ref b), (1, rf G 0), (2, rf G 35), (3, rf G 46), (4, .int (nI i))] [] u) : Zs G 13 Y_L_law (a + 1, b2 + 6, k, n, enL G b L xs) 1281 [(0, .ref b), (1, rf G 0), (2, rf G 35), (3, rf G 46), (4, .int (nI i))] [] μ := by
  obtain ⟨kk, PP, dm, hk3, hdm, hw, hmm⟩ := op_undo G hG hI 
  refine z_aload_n dL_law_1281 rfl ?_
  refine z_aload_n dL_law_1282 rfl ?_
  refine z_callW (As := [rf G 0, rf G 46]) dL_law_1283 rfl lk_L_163 rfl (by decide) (Nat.le_of_ble_eq_true rfl) (hw) ?_
  rintro v u ⟨rfl, hp⟩
  refine z_istore (lv' := [(5, _), (0, _), (1, _), (2, _), (3, _), (4, _)]) dL_law_1286 (by decide) rfl ?_
  refine z_aload_n dL_law_1288 rfl ?_
  refine z_cV0g dL_law_1289 lk_L_165 (by omega) ⟨by decide, _, rfl⟩ rfl (Nat.le_of_ble_eq_true rfl) (hmm u hp) ?_
  rintro v2 u2 ⟨bb, rfl, ht3, hout, hi2⟩
  refine z_istore (lv' := [(6, _), (5, _), (0, _), (1, _), (2, _), (3, _), (4, _)]) dL_law_1292 (by decide) rfl ?_
  refine z_aload_n dL_law_1294 rfl ?_
  refine z_cV0 dL_law_1295 lk_L_79 (by decide) ⟨by decide, _, rfl⟩ rfl (Nat.le_of_ble_eq_true rfl) (ev_X8_thrown G ht3) ?_
  refine z_iload dL_law_1298 rfl ?_
  refine z_icmpN_eq (tgt := 1305) dL_law_1300 (by decide) (by omega) (by omega) (fun c1300 => ?_) (fun c1300 => absurd rfl c1300)
  refine z_iload dL_law_1305 rfl ?_
  refine z_ifN_ne (tgt := 1322) dL_law_1307 (by decide) (by omega) (fun c1307 => ?_) (fun c1307 => ?_)
  · refine z_goto (tgt := 1339) dL_law_1322 (by decide) ?_
    refine z_sub (lv' := [(0, _), (1, _), (2, _), (3, _), (4, _)]) rfl ?_
    exact hk _ hi2
  · refine z_aload_n dL_law_1310 rfl ?_
    refine z_iconst (v := nI 0) dL_law_1311 (by decide) ?_
    refine z_laldN dL_law_1312 ⟨by decide, rfl⟩ (by decide) (by decide) ?_
    refine z_iload dL_law_1313 rfl ?_
    refine z_i2l dL_law_1315 rfl ?_
    refine z_lc_eq (tgt := 1322) dL_law_1316 dL_law_1317 (by decide) (fun c1316 => ?_) (fun c1316 => absurd (hout c1307) c1316)
    refine z_goto (tgt := 1339) dL_law_1322 (by decide) ?_
    refine z_sub (lv' := [(0, _), (1, _), (2, _), (3, _), (4, _)]) rfl ?_
    exact hk _ hi2
