def cB (x : Int32) : Int32 := if x = 0 then nI 0 else nI 1
theorem lg_self (a : Int64) : lg_cmp a a = 0 := (lg_cmp_eq a a).mpr rfl
theorem arm_0 {n i dX MC MS kc ks : Nat} {c c' : Nat × Nat} {I I1 I2 : xv_I} {J J1 : xv_J} {Q : xv_Q} {code out : Int32} {l5 l6 : Option Value} (hi : i + 7 ≤ n) (hn : n ≤ 3584) (hdX : dX ≤ 9) (h99 : ∀ j, I1 99 j = I 99 j) (hL : xv_Met mL_page 9 16 128 (sx n c) I (rx c) J [.ref 0, .int (I 99 (i + 1)), .int (I 99 (i + 2)), .int (cB (I 99 (i + 3)))] (xv_eq (.inl (some (.int code))) (sx n c') I1 (rx c') J1)) (hX : xv_Met mX11_page dX 0 0 (sx n c') I1 (rx c') J1 [.ref 60, .int (I 99 (i + 1)), .int (I 99 (i + 2)), .int (cB (I 99 (i + 3)))] (xv_eq (.inl none) (sx n c') I2 (rx c') J1)) (h48 : I2 60 48 = code) (hkc : 16 ≤ kc) (hks : 128 ≤ ks) (hk : (∀ l5 l6, xv_W mL_law 30 MC MS Q (kc - 16) (ks - 128) (sx n c') I2 (rx c') J1 2246 (some (.ref 99) :: some (.ref 0) :: some (.ref 60) :: some (.ref 98) :: some (.int (nI i)) :: l5 :: l6 :: []) [])) : xv_W mL_law 30 MC MS Q kc ks (sx n c) I (rx c) J 192 (some (.ref 99) :: some (.ref 0) :: some (.ref 60) :: some (.ref 98) :: some (.int (nI i)) :: l5 :: l6 :: []) [] := by
  refine xv_al1 fL_law_192 ?_
  refine xv_al0 fL_law_193 ?_
  refine xv_il4 fL_law_194 ?_
  refine xv_k fL_law_196 ?_
  refine xv_iadd fL_law_197 ?_
  rw [nI_add]
  refine xv_sldN fL_law_198 (sx_99 _ _) (⟨by omega, by omega⟩) ?_
  refine xv_al0 fL_law_199 ?_
  refine xv_il4 fL_law_200 ?_
  refine xv_k fL_law_202 ?_
  refine xv_iadd fL_law_203 ?_
  rw [nI_add]
  refine xv_sldN fL_law_204 (sx_99 _ _) (⟨by omega, by omega⟩) ?_
  refine xv_al0 fL_law_205 ?_
  refine xv_il4 fL_law_206 ?_
  refine xv_k fL_law_208 ?_
  refine xv_iadd fL_law_209 ?_
  rw [nI_add]
  refine xv_sldN fL_law_210 (sx_99 _ _) (⟨by omega, by omega⟩) ?_
  refine xv_if_eq fL_law_211 (fun h_211 => ?_) (fun h_211 => ?_)
  · refine xv_k fL_law_218 ?_
    refine xv_eqi (y := cB (I 99 (i + 3))) (by rw [cB, if_pos h_211]) ?_
    refine xv_callS4R (hL) fL_law_219 YL_page VL_page lL_121 rfl (Nat.le_of_ble_eq_true rfl) (by decide) (by omega) (by omega) ?_
    refine xv_is5 fL_law_222 ?_
    refine xv_al2 fL_law_224 ?_
    refine xv_al0 fL_law_225 ?_
    refine xv_il4 fL_law_226 ?_
    refine xv_k fL_law_228 ?_
    refine xv_iadd fL_law_229 ?_
    rw [nI_add]
    refine xv_sldN fL_law_230 (sx_99 _ _) (⟨by omega, by omega⟩) ?_
    rw [h99]
    refine xv_al0 fL_law_231 ?_
    refine xv_il4 fL_law_232 ?_
    refine xv_k fL_law_234 ?_
    refine xv_iadd fL_law_235 ?_
    rw [nI_add]
    refine xv_sldN fL_law_236 (sx_99 _ _) (⟨by omega, by omega⟩) ?_
    rw [h99]
    refine xv_al0 fL_law_237 ?_
    refine xv_il4 fL_law_238 ?_
    refine xv_k fL_law_240 ?_
    refine xv_iadd fL_law_241 ?_
    rw [nI_add]
    refine xv_sldN fL_law_242 (sx_99 _ _) (⟨by omega, by omega⟩) ?_
    rw [h99]
    refine xv_if_eq fL_law_243 (fun h_243 => ?_) (fun h_243 => ?_)
    · refine xv_k fL_law_250 ?_
      refine xv_eqi (y := cB (I 99 (i + 3))) (by rw [cB, if_pos h_243]) ?_
      refine xv_callV3V (hX) fL_law_251 YX11_page VX11_page lL_126 rfl rfl (sx_60 _ _) (Nat.le_of_ble_eq_true rfl) (by omega) (by omega) (by omega) ?_
      refine xv_al2 fL_law_254 ?_
      refine xv_callV0R (m_thrown n c' _ J1) fL_law_255 YX11_thrown VX11_thrown lL_127 rfl rfl (sx_60 _ _) (Nat.le_of_ble_eq_true rfl) (by decide) (by omega) (by omega) ?_
      rw [h48]
      refine xv_il5 fL_law_258 ?_
      refine xv_ic_eq fL_law_260 (fun h_260 => ?_) (fun h_260 => ?_)
      · refine xv_goto fL_law_265 ?_
        simp only [Nat.sub_zero]
        exact @hk _ _
      · exact absurd rfl h_260
    · refine xv_k fL_law_246 ?_
      refine xv_goto fL_law_247 ?_
      refine xv_eqi (y := cB (I 99 (i + 3))) (by rw [cB, if_neg h_243]) ?_
      refine xv_callV3V (hX) fL_law_251 YX11_page VX11_page lL_126 rfl rfl (sx_60 _ _) (Nat.le_of_ble_eq_true rfl) (by omega) (by omega) (by omega) ?_
      refine xv_al2 fL_law_254 ?_
      refine xv_callV0R (m_thrown n c' _ J1) fL_law_255 YX11_thrown VX11_thrown lL_127 rfl rfl (sx_60 _ _) (Nat.le_of_ble_eq_true rfl) (by decide) (by omega) (by omega) ?_
      rw [h48]
      refine xv_il5 fL_law_258 ?_
      refine xv_ic_eq fL_law_260 (fun h_260 => ?_) (fun h_260 => ?_)
      · refine xv_goto fL_law_265 ?_
        simp only [Nat.sub_zero]
        exact @hk _ _
      · exact absurd rfl h_260
  · refine xv_k fL_law_214 ?_
    refine xv_goto fL_law_215 ?_
    refine xv_eqi (y := cB (I 99 (i + 3))) (by rw [cB, if_neg h_211]) ?_
    refine xv_callS4R (hL) fL_law_219 YL_page VL_page lL_121 rfl (Nat.le_of_ble_eq_true rfl) (by decide) (by omega) (by omega) ?_
    refine xv_is5 fL_law_222 ?_
    refine xv_al2 fL_law_224 ?_
    refine xv_al0 fL_law_225 ?_
    refine xv_il4 fL_law_226 ?_
    refine xv_k fL_law_228 ?_
    refine xv_iadd fL_law_229 ?_
    rw [nI_add]
    refine xv_sldN fL_law_230 (sx_99 _ _) (⟨by omega, by omega⟩) ?_
    rw [h99]
    refine xv_al0 fL_law_231 ?_
    refine xv_il4 fL_law_232 ?_
    refine xv_k fL_law_234 ?_
    refine xv_iadd fL_law_235 ?_
    rw [nI_add]
    refine xv_sldN fL_law_236 (sx_99 _ _) (⟨by omega, by omega⟩) ?_
    rw [h99]
    refine xv_al0 fL_law_237 ?_
    refine xv_il4 fL_law_238 ?_
    refine xv_k fL_law_240 ?_
    refine xv_iadd fL_law_241 ?_
    rw [nI_add]
    refine xv_sldN fL_law_242 (sx_99 _ _) (⟨by omega, by omega⟩) ?_
    rw [h99]
    refine xv_if_eq fL_law_243 (fun h_243 => ?_) (fun h_243 => ?_)
    · refine xv_k fL_law_250 ?_
      refine xv_eqi (y := cB (I 99 (i + 3))) (by rw [cB, if_pos h_243]) ?_
      refine xv_callV3V (hX) fL_law_251 YX11_page VX11_page lL_126 rfl rfl (sx_60 _ _) (Nat.le_of_ble_eq_true rfl) (by omega) (by omega) (by omega) ?_
      refine xv_al2 fL_law_254 ?_
      refine xv_callV0R (m_thrown n c' _ J1) fL_law_255 YX11_thrown VX11_thrown lL_127 rfl rfl (sx_60 _ _) (Nat.le_of_ble_eq_true rfl) (by decide) (by omega) (by omega) ?_
      rw [h48]
      refine xv_il5 fL_law_258 ?_
      refine xv_ic_eq fL_law_260 (fun h_260 => ?_) (fun h_260 => ?_)
      · refine xv_goto fL_law_265 ?_
        simp only [Nat.sub_zero]
        exact @hk _ _
      · exact absurd rfl h_260
    · refine xv_k fL_law_246 ?_
      refine xv_goto fL_law_247 ?_
      refine xv_eqi (y := cB (I 99 (i + 3))) (by rw [cB, if_neg h_243]) ?_
      refine xv_callV3V (hX) fL_law_251 YX11_page VX11_page lL_126 rfl rfl (sx_60 _ _) (Nat.le_of_ble_eq_true rfl) (by omega) (by omega) (by omega) ?_
      refine xv_al2 fL_law_254 ?_
      refine xv_callV0R (m_thrown n c' _ J1) fL_law_255 YX11_thrown VX11_thrown lL_127 rfl rfl (sx_60 _ _) (Nat.le_of_ble_eq_true rfl) (by decide) (by omega) (by omega) ?_
      rw [h48]
      refine xv_il5 fL_law_258 ?_
      refine xv_ic_eq fL_law_260 (fun h_260 => ?_) (fun h_260 => ?_)
      · refine xv_goto fL_law_265 ?_
        simp only [Nat.sub_zero]
        exact @hk _ _
      · exact absurd rfl h_260

theorem arm_1 {n i dX MC MS kc ks : Nat} {c c' : Nat × Nat} {I I1 I2 : xv_I} {J J1 : xv_J} {Q : xv_Q} {code out : Int32} {l5 l6 : Option Value} (hi : i + 7 ≤ n) (hn : n ≤ 3584) (hdX : dX ≤ 9) (h99 : ∀ j, I1 99 j = I 99 j) (hL : xv_Met mL_cell 9 16 128 (sx n c) I (rx c) J [.ref 0, .int (I 99 (i + 1)), .int (I 99 (i + 2)), .ref 98] (xv_eq (.inl (some (.int code))) (sx n c') I1 (rx c') J1)) (hX : xv_Met mX11_cell dX 0 0 (sx n c') I1 (rx c') J1 [.ref 60, .int (I 99 (i + 1)), .int (I 99 (i + 2))] (xv_eq (.inl (some (.int out))) (sx n c') I2 (rx c') J1)) (h48 : I2 60 48 = code) (hout : code = 0 → J1 98 0 = out.toInt64) (hkc : 16 ≤ kc) (hks : 128 ≤ ks) (hk : (∀ l5 l6, xv_W mL_law 30 MC MS Q (kc - 16) (ks - 128) (sx n c') I2 (rx c') J1 2246 (some (.ref 99) :: some (.ref 0) :: some (.ref 60) :: some (.ref 98) :: some (.int (nI i)) :: l5 :: l6 :: []) [])) : xv_W mL_law 30 MC MS Q kc ks (sx n c) I (rx c) J 268 (some (.ref 99) :: some (.ref 0) :: some (.ref 60) :: some (.ref 98) :: some (.int (nI i)) :: l5 :: l6 :: []) [] := by
  refine xv_al1 fL_law_268 ?_
  refine xv_al0 fL_law_269 ?_
  refine xv_il4 fL_law_270 ?_
  refine xv_k fL_law_272 ?_
  refine xv_iadd fL_law_273 ?_
  rw [nI_add]
  refine xv_sldN fL_law_274 (sx_99 _ _) (⟨by omega, by omega⟩) ?_
  refine xv_al0 fL_law_275 ?_
  refine xv_il4 fL_law_276 ?_
  refine xv_k fL_law_278 ?_
  refine xv_iadd fL_law_279 ?_
  rw [nI_add]
  refine xv_sldN fL_law_280 (sx_99 _ _) (⟨by omega, by omega⟩) ?_
  refine xv_al3 fL_law_281 ?_
  refine xv_callS4R (hL) fL_law_282 YL_cell VL_cell lL_130 rfl (Nat.le_of_ble_eq_true rfl) (by decide) (by omega) (by omega) ?_
  refine xv_is5 fL_law_285 ?_
  refine xv_al2 fL_law_287 ?_
  refine xv_al0 fL_law_288 ?_
  refine xv_il4 fL_law_289 ?_
  refine xv_k fL_law_291 ?_
  refine xv_iadd fL_law_292 ?_
  rw [nI_add]
  refine xv_sldN fL_law_293 (sx_99 _ _) (⟨by omega, by omega⟩) ?_
  rw [h99]
  refine xv_al0 fL_law_294 ?_
  refine xv_il4 fL_law_295 ?_
  refine xv_k fL_law_297 ?_
  refine xv_iadd fL_law_298 ?_
  rw [nI_add]
  refine xv_sldN fL_law_299 (sx_99 _ _) (⟨by omega, by omega⟩) ?_
  rw [h99]
  refine xv_callV2R (hX) fL_law_300 YX11_cell VX11_cell lL_133 rfl rfl (sx_60 _ _) (Nat.le_of_ble_eq_true rfl) (by omega) (by omega) (by omega) ?_
  refine xv_is6 fL_law_303 ?_
  refine xv_al2 fL_law_305 ?_
  refine xv_callV0R (m_thrown n c' _ J1) fL_law_306 YX11_thrown VX11_thrown lL_127 rfl rfl (sx_60 _ _) (Nat.le_of_ble_eq_true rfl) (by decide) (by omega) (by omega) ?_
  rw [h48]
  refine xv_il5 fL_law_309 ?_
  refine xv_ic_eq fL_law_311 (fun h_311 => ?_) (fun h_311 => ?_)
  · refine xv_il5 fL_law_316 ?_
    refine xv_if_ne fL_law_318 (fun h_318 => ?_) (fun h_318 => ?_)
    · refine xv_goto fL_law_333 ?_
      simp only [Nat.sub_zero]
      exact @hk _ _
    · refine xv_al3 fL_law_321 ?_
      refine xv_k fL_law_322 ?_
      refine xv_laldN fL_law_323 (sx_98 _ _) (⟨by decide, by decide⟩) ?_
      refine xv_il6 fL_law_324 ?_
      refine xv_i2l fL_law_326 ?_
      refine xv_lcmp fL_law_327 ?_
      refine xv_if_eq fL_law_328 (fun h_328 => ?_) (fun h_328 => ?_)
      · refine xv_goto fL_law_333 ?_
        simp only [Nat.sub_zero]
        exact @hk _ _
      · exact absurd (by rw [hout h_318]; exact lg_self _) h_328
  · exact absurd rfl h_311

theorem arm_2 {n i dX MC MS kc ks : Nat} {c c' : Nat × Nat} {I I1 I2 : xv_I} {J J1 : xv_J} {Q : xv_Q} {code out : Int32} {l5 l6 : Option Value} (hi : i + 7 ≤ n) (hn : n ≤ 3584) (hdX : dX ≤ 9) (h99 : ∀ j, I1 99 j = I 99 j) (hL : xv_Met mX10_touched 8 16 128 (sx n c) I (rx c) J [.ref 0] (xv_eq (.inl (some (.int code))) (sx n c') I1 (rx c') J1)) (hX : xv_Met mX11_touched dX 0 0 (sx n c') I1 (rx c') J1 [.ref 60] (xv_eq (.inl (some (.int out))) (sx n c') I2 (rx c') J1)) (hout : code = out) (hkc : 16 ≤ kc) (hks : 128 ≤ ks) (hk : (∀ l5 l6, xv_W mL_law 30 MC MS Q (kc - 16) (ks - 128) (sx n c') I2 (rx c') J1 2246 (some (.ref 99) :: some (.ref 0) :: some (.ref 60) :: some (.ref 98) :: some (.int (nI i)) :: l5 :: l6 :: []) [])) : xv_W mL_law 30 MC MS Q kc ks (sx n c) I (rx c) J 336 (some (.ref 99) :: some (.ref 0) :: some (.ref 60) :: some (.ref 98) :: some (.int (nI i)) :: l5 :: l6 :: []) [] := by
  refine xv_al1 fL_law_336 ?_
  refine xv_callV0R (hL) fL_law_337 YX10_touched VX10_touched lL_134 rfl rfl (sx_0 _ _) (Nat.le_of_ble_eq_true rfl) (by decide) (by omega) (by omega) ?_
  refine xv_al2 fL_law_340 ?_
  refine xv_callV0R (hX) fL_law_341 YX11_touched VX11_touched lL_137 rfl rfl (sx_60 _ _) (Nat.le_of_ble_eq_true rfl) (by omega) (by omega) (by omega) ?_
  refine xv_ic_eq fL_law_344 (fun h_344 => ?_) (fun h_344 => ?_)
  · simp only [Nat.sub_zero]
    exact @hk _ _
  · exact absurd hout h_344

theorem arm_3 {n i dX MC MS kc ks : Nat} {c c' : Nat × Nat} {I I1 I2 : xv_I} {J J1 : xv_J} {Q : xv_Q} {code out : Int32} {l5 l6 : Option Value} (hi : i + 7 ≤ n) (hn : n ≤ 3584) (hdX : dX ≤ 9) (h99 : ∀ j, I1 99 j = I 99 j) (hL : xv_Met mL_distance 9 16 128 (sx n c) I (rx c) J [.ref 0, .int (I 99 (i + 1)), .int (I 99 (i + 2)), .ref 98] (xv_eq (.inl (some (.int code))) (sx n c') I1 (rx c') J1)) (hX : xv_Met mX11_distance dX 0 0 (sx n c') I1 (rx c') J1 [.ref 60, .int (I 99 (i + 1)), .int (I 99 (i + 2))] (xv_eq (.inl (some (.int out))) (sx n c') I2 (rx c') J1)) (h48 : I2 60 48 = code) (hout : code = 0 → J1 98 0 = out.toInt64) (hkc : 16 ≤ kc) (hks : 128 ≤ ks) (hk : (∀ l5 l6, xv_W mL_law 30 MC MS Q (kc - 16) (ks - 128) (sx n c') I2 (rx c') J1 2246 (some (.ref 99) :: some (.ref 0) :: some (.ref 60) :: some (.ref 98) :: some (.int (nI i)) :: l5 :: l6 :: []) [])) : xv_W mL_law 30 MC MS Q kc ks (sx n c) I (rx c) J 349 (some (.ref 99) :: some (.ref 0) :: some (.ref 60) :: some (.ref 98) :: some (.int (nI i)) :: l5 :: l6 :: []) [] := by
  refine xv_al1 fL_law_349 ?_
  refine xv_al0 fL_law_350 ?_
  refine xv_il4 fL_law_351 ?_
  refine xv_k fL_law_353 ?_
  refine xv_iadd fL_law_354 ?_
  rw [nI_add]
  refine xv_sldN fL_law_355 (sx_99 _ _) (⟨by omega, by omega⟩) ?_
  refine xv_al0 fL_law_356 ?_
  refine xv_il4 fL_law_357 ?_
  refine xv_k fL_law_359 ?_
  refine xv_iadd fL_law_360 ?_
  rw [nI_add]
  refine xv_sldN fL_law_361 (sx_99 _ _) (⟨by omega, by omega⟩) ?_
  refine xv_al3 fL_law_362 ?_
  refine xv_callS4R (hL) fL_law_363 YL_distance VL_distance lL_138 rfl (Nat.le_of_ble_eq_true rfl) (by decide) (by omega) (by omega) ?_
  refine xv_is5 fL_law_366 ?_
  refine xv_al2 fL_law_368 ?_
  refine xv_al0 fL_law_369 ?_
  refine xv_il4 fL_law_370 ?_
  refine xv_k fL_law_372 ?_
  refine xv_iadd fL_law_373 ?_
  rw [nI_add]
  refine xv_sldN fL_law_374 (sx_99 _ _) (⟨by omega, by omega⟩) ?_
  rw [h99]
  refine xv_al0 fL_law_375 ?_
  refine xv_il4 fL_law_376 ?_
  refine xv_k fL_law_378 ?_
  refine xv_iadd fL_law_379 ?_
  rw [nI_add]
  refine xv_sldN fL_law_380 (sx_99 _ _) (⟨by omega, by omega⟩) ?_
  rw [h99]
  refine xv_callV2R (hX) fL_law_381 YX11_distance VX11_distance lL_140 rfl rfl (sx_60 _ _) (Nat.le_of_ble_eq_true rfl) (by omega) (by omega) (by omega) ?_
  refine xv_is6 fL_law_384 ?_
  refine xv_al2 fL_law_386 ?_
  refine xv_callV0R (m_thrown n c' _ J1) fL_law_387 YX11_thrown VX11_thrown lL_127 rfl rfl (sx_60 _ _) (Nat.le_of_ble_eq_true rfl) (by decide) (by omega) (by omega) ?_
  rw [h48]
  refine xv_il5 fL_law_390 ?_
  refine xv_ic_eq fL_law_392 (fun h_392 => ?_) (fun h_392 => ?_)
  · refine xv_il5 fL_law_397 ?_
    refine xv_if_ne fL_law_399 (fun h_399 => ?_) (fun h_399 => ?_)
    · refine xv_goto fL_law_414 ?_
      simp only [Nat.sub_zero]
      exact @hk _ _
    · refine xv_al3 fL_law_402 ?_
      refine xv_k fL_law_403 ?_
      refine xv_laldN fL_law_404 (sx_98 _ _) (⟨by decide, by decide⟩) ?_
      refine xv_il6 fL_law_405 ?_
      refine xv_i2l fL_law_407 ?_
      refine xv_lcmp fL_law_408 ?_
      refine xv_if_eq fL_law_409 (fun h_409 => ?_) (fun h_409 => ?_)
      · refine xv_goto fL_law_414 ?_
        simp only [Nat.sub_zero]
        exact @hk _ _
      · exact absurd (by rw [hout h_399]; exact lg_self _) h_409
  · exact absurd rfl h_392

theorem arm_4 {n i dX MC MS kc ks : Nat} {c c' : Nat × Nat} {I I1 I2 : xv_I} {J J1 : xv_J} {Q : xv_Q} {code out : Int32} {l5 l6 : Option Value} (hi : i + 7 ≤ n) (hn : n ≤ 3584) (hdX : dX ≤ 9) (h99 : ∀ j, I1 99 j = I 99 j) (hL : xv_Met mL_advert 9 16 128 (sx n c) I (rx c) J [.ref 0, .int (I 99 (i + 1)), .int (I 99 (i + 2)), .int (I 99 (i + 3)), .int (cB (I 99 (i + 4))), .int (I 99 (i + 5)), .int (I 99 (i + 6)), .ref 98] (xv_eq (.inl (some (.int code))) (sx n c') I1 (rx c') J1)) (hX : xv_Met mX11_advert dX 0 0 (sx n c') I1 (rx c') J1 [.ref 60, .int (I 99 (i + 1)), .int (I 99 (i + 2)), .int (I 99 (i + 3)), .int (cB (I 99 (i + 4))), .int (I 99 (i + 5)), .int (I 99 (i + 6))] (xv_eq (.inl (some (.int out))) (sx n c') I2 (rx c') J1)) (h48 : I2 60 48 = code) (hout : code = 0 → J1 98 0 = out.toInt64) (hkc : 16 ≤ kc) (hks : 128 ≤ ks) (hk : (∀ l5 l6, xv_W mL_law 30 MC MS Q (kc - 16) (ks - 128) (sx n c') I2 (rx c') J1 2246 (some (.ref 99) :: some (.ref 0) :: some (.ref 60) :: some (.ref 98) :: some (.int (nI i)) :: l5 :: l6 :: []) [])) : xv_W mL_law 30 MC MS Q kc ks (sx n c) I (rx c) J 417 (some (.ref 99) :: some (.ref 0) :: some (.ref 60) :: some (.ref 98) :: some (.int (nI i)) :: l5 :: l6 :: []) [] := by
  refine xv_al1 fL_law_417 ?_
  refine xv_al0 fL_law_418 ?_
  refine xv_il4 fL_law_419 ?_
  refine xv_k fL_law_421 ?_
  refine xv_iadd fL_law_422 ?_
  rw [nI_add]
  refine xv_sldN fL_law_423 (sx_99 _ _) (⟨by omega, by omega⟩) ?_
  refine xv_al0 fL_law_424 ?_
  refine xv_il4 fL_law_425 ?_
  refine xv_k fL_law_427 ?_
  refine xv_iadd fL_law_428 ?_
  rw [nI_add]
  refine xv_sldN fL_law_429 (sx_99 _ _) (⟨by omega, by omega⟩) ?_
  refine xv_al0 fL_law_430 ?_
  refine xv_il4 fL_law_431 ?_
  refine xv_k fL_law_433 ?_
  refine xv_iadd fL_law_434 ?_
  rw [nI_add]
  refine xv_sldN fL_law_435 (sx_99 _ _) (⟨by omega, by omega⟩) ?_
  refine xv_al0 fL_law_436 ?_
  refine xv_il4 fL_law_437 ?_
  refine xv_k fL_law_439 ?_
  refine xv_iadd fL_law_440 ?_
  rw [nI_add]
  refine xv_sldN fL_law_441 (sx_99 _ _) (⟨by omega, by omega⟩) ?_
  refine xv_if_eq fL_law_442 (fun h_442 => ?_) (fun h_442 => ?_)
  · refine xv_k fL_law_449 ?_
    refine xv_eqi (y := cB (I 99 (i + 4))) (by rw [cB, if_pos h_442]) ?_
    refine xv_al0 fL_law_450 ?_
    refine xv_il4 fL_law_451 ?_
    refine xv_k fL_law_453 ?_
    refine xv_iadd fL_law_454 ?_
    rw [nI_add]
    refine xv_sldN fL_law_455 (sx_99 _ _) (⟨by omega, by omega⟩) ?_
    refine xv_al0 fL_law_456 ?_
    refine xv_il4 fL_law_457 ?_
    refine xv_k fL_law_459 ?_
    refine xv_iadd fL_law_461 ?_
    rw [nI_add]
    refine xv_sldN fL_law_462 (sx_99 _ _) (⟨by omega, by omega⟩) ?_
    refine xv_al3 fL_law_463 ?_
    refine xv_callS8R (hL) fL_law_464 YL_advert VL_advert lL_141 rfl (Nat.le_of_ble_eq_true rfl) (by decide) (by omega) (by omega) ?_
    refine xv_is5 fL_law_467 ?_
    refine xv_al2 fL_law_469 ?_
    refine xv_al0 fL_law_470 ?_
    refine xv_il4 fL_law_471 ?_
    refine xv_k fL_law_473 ?_
    refine xv_iadd fL_law_474 ?_
    rw [nI_add]
    refine xv_sldN fL_law_475 (sx_99 _ _) (⟨by omega, by omega⟩) ?_
    rw [h99]
    refine xv_al0 fL_law_476 ?_
    refine xv_il4 fL_law_477 ?_
    refine xv_k fL_law_479 ?_
    refine xv_iadd fL_law_480 ?_
    rw [nI_add]
    refine xv_sldN fL_law_481 (sx_99 _ _) (⟨by omega, by omega⟩) ?_
    rw [h99]
    refine xv_al0 fL_law_482 ?_
    refine xv_il4 fL_law_483 ?_
    refine xv_k fL_law_485 ?_
    refine xv_iadd fL_law_486 ?_
    rw [nI_add]
    refine xv_sldN fL_law_487 (sx_99 _ _) (⟨by omega, by omega⟩) ?_
    rw [h99]
    refine xv_al0 fL_law_488 ?_
    refine xv_il4 fL_law_489 ?_
    refine xv_k fL_law_491 ?_
    refine xv_iadd fL_law_492 ?_
    rw [nI_add]
    refine xv_sldN fL_law_493 (sx_99 _ _) (⟨by omega, by omega⟩) ?_
    rw [h99]
    refine xv_if_eq fL_law_494 (fun h_494 => ?_) (fun h_494 => ?_)
    · refine xv_k fL_law_501 ?_
      refine xv_eqi (y := cB (I 99 (i + 4))) (by rw [cB, if_pos h_494]) ?_
      refine xv_al0 fL_law_502 ?_
      refine xv_il4 fL_law_503 ?_
      refine xv_k fL_law_505 ?_
      refine xv_iadd fL_law_506 ?_
      rw [nI_add]
      refine xv_sldN fL_law_507 (sx_99 _ _) (⟨by omega, by omega⟩) ?_
      rw [h99]
      refine xv_al0 fL_law_508 ?_
      refine xv_il4 fL_law_509 ?_
      refine xv_k fL_law_511 ?_
      refine xv_iadd fL_law_513 ?_
      rw [nI_add]
      refine xv_sldN fL_law_514 (sx_99 _ _) (⟨by omega, by omega⟩) ?_
      rw [h99]
      refine xv_callV6R (hX) fL_law_515 YX11_advert VX11_advert lL_144 rfl rfl (sx_60 _ _) (Nat.le_of_ble_eq_true rfl) (by omega) (by omega) (by omega) ?_
      refine xv_is6 fL_law_518 ?_
      refine xv_al2 fL_law_520 ?_
      refine xv_callV0R (m_thrown n c' _ J1) fL_law_521 YX11_thrown VX11_thrown lL_127 rfl rfl (sx_60 _ _) (Nat.le_of_ble_eq_true rfl) (by decide) (by omega) (by omega) ?_
      rw [h48]
      refine xv_il5 fL_law_524 ?_
      refine xv_ic_eq fL_law_526 (fun h_526 => ?_) (fun h_526 => ?_)
      · refine xv_il5 fL_law_531 ?_
        refine xv_if_ne fL_law_533 (fun h_533 => ?_) (fun h_533 => ?_)
        · refine xv_goto fL_law_548 ?_
          simp only [Nat.sub_zero]
          exact @hk _ _
        · refine xv_al3 fL_law_536 ?_
          refine xv_k fL_law_537 ?_
          refine xv_laldN fL_law_538 (sx_98 _ _) (⟨by decide, by decide⟩) ?_
          refine xv_il6 fL_law_539 ?_
          refine xv_i2l fL_law_541 ?_
          refine xv_lcmp fL_law_542 ?_
          refine xv_if_eq fL_law_543 (fun h_543 => ?_) (fun h_543 => ?_)
          · refine xv_goto fL_law_548 ?_
            simp only [Nat.sub_zero]
            exact @hk _ _
          · exact absurd (by rw [hout h_533]; exact lg_self _) h_543
      · exact absurd rfl h_526
    · refine xv_k fL_law_497 ?_
      refine xv_goto fL_law_498 ?_
      refine xv_eqi (y := cB (I 99 (i + 4))) (by rw [cB, if_neg h_494]) ?_
      refine xv_al0 fL_law_502 ?_
      refine xv_il4 fL_law_503 ?_
      refine xv_k fL_law_505 ?_
      refine xv_iadd fL_law_506 ?_
      rw [nI_add]
      refine xv_sldN fL_law_507 (sx_99 _ _) (⟨by omega, by omega⟩) ?_
      rw [h99]
      refine xv_al0 fL_law_508 ?_
      refine xv_il4 fL_law_509 ?_
      refine xv_k fL_law_511 ?_
      refine xv_iadd fL_law_513 ?_
      rw [nI_add]
      refine xv_sldN fL_law_514 (sx_99 _ _) (⟨by omega, by omega⟩) ?_
      rw [h99]
      refine xv_callV6R (hX) fL_law_515 YX11_advert VX11_advert lL_144 rfl rfl (sx_60 _ _) (Nat.le_of_ble_eq_true rfl) (by omega) (by omega) (by omega) ?_
      refine xv_is6 fL_law_518 ?_
      refine xv_al2 fL_law_520 ?_
      refine xv_callV0R (m_thrown n c' _ J1) fL_law_521 YX11_thrown VX11_thrown lL_127 rfl rfl (sx_60 _ _) (Nat.le_of_ble_eq_true rfl) (by decide) (by omega) (by omega) ?_
      rw [h48]
      refine xv_il5 fL_law_524 ?_
      refine xv_ic_eq fL_law_526 (fun h_526 => ?_) (fun h_526 => ?_)
      · refine xv_il5 fL_law_531 ?_
        refine xv_if_ne fL_law_533 (fun h_533 => ?_) (fun h_533 => ?_)
        · refine xv_goto fL_law_548 ?_
          simp only [Nat.sub_zero]
          exact @hk _ _
        · refine xv_al3 fL_law_536 ?_
          refine xv_k fL_law_537 ?_
          refine xv_laldN fL_law_538 (sx_98 _ _) (⟨by decide, by decide⟩) ?_
          refine xv_il6 fL_law_539 ?_
          refine xv_i2l fL_law_541 ?_
          refine xv_lcmp fL_law_542 ?_
          refine xv_if_eq fL_law_543 (fun h_543 => ?_) (fun h_543 => ?_)
          · refine xv_goto fL_law_548 ?_
            simp only [Nat.sub_zero]
            exact @hk _ _
          · exact absurd (by rw [hout h_533]; exact lg_self _) h_543
      · exact absurd rfl h_526
  · refine xv_k fL_law_445 ?_
    refine xv_goto fL_law_446 ?_
    refine xv_eqi (y := cB (I 99 (i + 4))) (by rw [cB, if_neg h_442]) ?_
    refine xv_al0 fL_law_450 ?_
    refine xv_il4 fL_law_451 ?_
    refine xv_k fL_law_453 ?_
    refine xv_iadd fL_law_454 ?_
    rw [nI_add]
    refine xv_sldN fL_law_455 (sx_99 _ _) (⟨by omega, by omega⟩) ?_
    refine xv_al0 fL_law_456 ?_
    refine xv_il4 fL_law_457 ?_
    refine xv_k fL_law_459 ?_
    refine xv_iadd fL_law_461 ?_
    rw [nI_add]
    refine xv_sldN fL_law_462 (sx_99 _ _) (⟨by omega, by omega⟩) ?_
    refine xv_al3 fL_law_463 ?_
    refine xv_callS8R (hL) fL_law_464 YL_advert VL_advert lL_141 rfl (Nat.le_of_ble_eq_true rfl) (by decide) (by omega) (by omega) ?_
    refine xv_is5 fL_law_467 ?_
    refine xv_al2 fL_law_469 ?_
    refine xv_al0 fL_law_470 ?_
    refine xv_il4 fL_law_471 ?_
    refine xv_k fL_law_473 ?_
    refine xv_iadd fL_law_474 ?_
    rw [nI_add]
    refine xv_sldN fL_law_475 (sx_99 _ _) (⟨by omega, by omega⟩) ?_
    rw [h99]
    refine xv_al0 fL_law_476 ?_
    refine xv_il4 fL_law_477 ?_
    refine xv_k fL_law_479 ?_
    refine xv_iadd fL_law_480 ?_
    rw [nI_add]
    refine xv_sldN fL_law_481 (sx_99 _ _) (⟨by omega, by omega⟩) ?_
    rw [h99]
    refine xv_al0 fL_law_482 ?_
    refine xv_il4 fL_law_483 ?_
    refine xv_k fL_law_485 ?_
    refine xv_iadd fL_law_486 ?_
    rw [nI_add]
    refine xv_sldN fL_law_487 (sx_99 _ _) (⟨by omega, by omega⟩) ?_
    rw [h99]
    refine xv_al0 fL_law_488 ?_
    refine xv_il4 fL_law_489 ?_
    refine xv_k fL_law_491 ?_
    refine xv_iadd fL_law_492 ?_
    rw [nI_add]
    refine xv_sldN fL_law_493 (sx_99 _ _) (⟨by omega, by omega⟩) ?_
    rw [h99]
    refine xv_if_eq fL_law_494 (fun h_494 => ?_) (fun h_494 => ?_)
    · refine xv_k fL_law_501 ?_
      refine xv_eqi (y := cB (I 99 (i + 4))) (by rw [cB, if_pos h_494]) ?_
      refine xv_al0 fL_law_502 ?_
      refine xv_il4 fL_law_503 ?_
      refine xv_k fL_law_505 ?_
      refine xv_iadd fL_law_506 ?_
      rw [nI_add]
      refine xv_sldN fL_law_507 (sx_99 _ _) (⟨by omega, by omega⟩) ?_
      rw [h99]
      refine xv_al0 fL_law_508 ?_
      refine xv_il4 fL_law_509 ?_
      refine xv_k fL_law_511 ?_
      refine xv_iadd fL_law_513 ?_
      rw [nI_add]
      refine xv_sldN fL_law_514 (sx_99 _ _) (⟨by omega, by omega⟩) ?_
      rw [h99]
      refine xv_callV6R (hX) fL_law_515 YX11_advert VX11_advert lL_144 rfl rfl (sx_60 _ _) (Nat.le_of_ble_eq_true rfl) (by omega) (by omega) (by omega) ?_
      refine xv_is6 fL_law_518 ?_
      refine xv_al2 fL_law_520 ?_
      refine xv_callV0R (m_thrown n c' _ J1) fL_law_521 YX11_thrown VX11_thrown lL_127 rfl rfl (sx_60 _ _) (Nat.le_of_ble_eq_true rfl) (by decide) (by omega) (by omega) ?_
      rw [h48]
      refine xv_il5 fL_law_524 ?_
      refine xv_ic_eq fL_law_526 (fun h_526 => ?_) (fun h_526 => ?_)
      · refine xv_il5 fL_law_531 ?_
        refine xv_if_ne fL_law_533 (fun h_533 => ?_) (fun h_533 => ?_)
        · refine xv_goto fL_law_548 ?_
          simp only [Nat.sub_zero]
          exact @hk _ _
        · refine xv_al3 fL_law_536 ?_
          refine xv_k fL_law_537 ?_
          refine xv_laldN fL_law_538 (sx_98 _ _) (⟨by decide, by decide⟩) ?_
          refine xv_il6 fL_law_539 ?_
          refine xv_i2l fL_law_541 ?_
          refine xv_lcmp fL_law_542 ?_
          refine xv_if_eq fL_law_543 (fun h_543 => ?_) (fun h_543 => ?_)
          · refine xv_goto fL_law_548 ?_
            simp only [Nat.sub_zero]
            exact @hk _ _
          · exact absurd (by rw [hout h_533]; exact lg_self _) h_543
      · exact absurd rfl h_526
    · refine xv_k fL_law_497 ?_
      refine xv_goto fL_law_498 ?_
      refine xv_eqi (y := cB (I 99 (i + 4))) (by rw [cB, if_neg h_494]) ?_
      refine xv_al0 fL_law_502 ?_
      refine xv_il4 fL_law_503 ?_
      refine xv_k fL_law_505 ?_
      refine xv_iadd fL_law_506 ?_
      rw [nI_add]
      refine xv_sldN fL_law_507 (sx_99 _ _) (⟨by omega, by omega⟩) ?_
      rw [h99]
      refine xv_al0 fL_law_508 ?_
      refine xv_il4 fL_law_509 ?_
      refine xv_k fL_law_511 ?_
      refine xv_iadd fL_law_513 ?_
      rw [nI_add]
      refine xv_sldN fL_law_514 (sx_99 _ _) (⟨by omega, by omega⟩) ?_
      rw [h99]
      refine xv_callV6R (hX) fL_law_515 YX11_advert VX11_advert lL_144 rfl rfl (sx_60 _ _) (Nat.le_of_ble_eq_true rfl) (by omega) (by omega) (by omega) ?_
      refine xv_is6 fL_law_518 ?_
      refine xv_al2 fL_law_520 ?_
      refine xv_callV0R (m_thrown n c' _ J1) fL_law_521 YX11_thrown VX11_thrown lL_127 rfl rfl (sx_60 _ _) (Nat.le_of_ble_eq_true rfl) (by decide) (by omega) (by omega) ?_
      rw [h48]
      refine xv_il5 fL_law_524 ?_
      refine xv_ic_eq fL_law_526 (fun h_526 => ?_) (fun h_526 => ?_)
      · refine xv_il5 fL_law_531 ?_
        refine xv_if_ne fL_law_533 (fun h_533 => ?_) (fun h_533 => ?_)
        · refine xv_goto fL_law_548 ?_
          simp only [Nat.sub_zero]
          exact @hk _ _
        · refine xv_al3 fL_law_536 ?_
          refine xv_k fL_law_537 ?_
          refine xv_laldN fL_law_538 (sx_98 _ _) (⟨by decide, by decide⟩) ?_
          refine xv_il6 fL_law_539 ?_
          refine xv_i2l fL_law_541 ?_
          refine xv_lcmp fL_law_542 ?_
          refine xv_if_eq fL_law_543 (fun h_543 => ?_) (fun h_543 => ?_)
          · refine xv_goto fL_law_548 ?_
            simp only [Nat.sub_zero]
            exact @hk _ _
          · exact absurd (by rw [hout h_533]; exact lg_self _) h_543
      · exact absurd rfl h_526

theorem arm_5 {n i dX MC MS kc ks : Nat} {c c' : Nat × Nat} {I I1 I2 : xv_I} {J J1 : xv_J} {Q : xv_Q} {code out : Int32} {l5 l6 : Option Value} (hi : i + 7 ≤ n) (hn : n ≤ 3584) (hdX : dX ≤ 9) (h99 : ∀ j, I1 99 j = I 99 j) (hL : xv_Met mL_place 9 16 128 (sx n c) I (rx c) J [.ref 0, .int (I 99 (i + 1)), .ref 98] (xv_eq (.inl (some (.int code))) (sx n c') I1 (rx c') J1)) (hX : xv_Met mX11_place dX 0 0 (sx n c') I1 (rx c') J1 [.ref 60, .int (I 99 (i + 1))] (xv_eq (.inl (some (.int out))) (sx n c') I2 (rx c') J1)) (h48 : I2 60 48 = code) (hout : code = 0 → J1 98 0 = out.toInt64) (hkc : 16 ≤ kc) (hks : 128 ≤ ks) (hk : (∀ l5 l6, xv_W mL_law 30 MC MS Q (kc - 16) (ks - 128) (sx n c') I2 (rx c') J1 2246 (some (.ref 99) :: some (.ref 0) :: some (.ref 60) :: some (.ref 98) :: some (.int (nI i)) :: l5 :: l6 :: []) [])) : xv_W mL_law 30 MC MS Q kc ks (sx n c) I (rx c) J 551 (some (.ref 99) :: some (.ref 0) :: some (.ref 60) :: some (.ref 98) :: some (.int (nI i)) :: l5 :: l6 :: []) [] := by
  refine xv_al1 fL_law_551 ?_
  refine xv_al0 fL_law_552 ?_
  refine xv_il4 fL_law_553 ?_
  refine xv_k fL_law_555 ?_
  refine xv_iadd fL_law_556 ?_
  rw [nI_add]
  refine xv_sldN fL_law_557 (sx_99 _ _) (⟨by omega, by omega⟩) ?_
  refine xv_al3 fL_law_558 ?_
  refine xv_callS3R (hL) fL_law_559 YL_place VL_place lL_145 rfl (Nat.le_of_ble_eq_true rfl) (by decide) (by omega) (by omega) ?_
  refine xv_is5 fL_law_562 ?_
  refine xv_al2 fL_law_564 ?_
  refine xv_al0 fL_law_565 ?_
  refine xv_il4 fL_law_566 ?_
  refine xv_k fL_law_568 ?_
  refine xv_iadd fL_law_569 ?_
  rw [nI_add]
  refine xv_sldN fL_law_570 (sx_99 _ _) (⟨by omega, by omega⟩) ?_
  rw [h99]
  refine xv_callV1R (hX) fL_law_571 YX11_place VX11_place lL_148 rfl rfl (sx_60 _ _) (Nat.le_of_ble_eq_true rfl) (by omega) (by omega) (by omega) ?_
  refine xv_is6 fL_law_574 ?_
  refine xv_al2 fL_law_576 ?_
  refine xv_callV0R (m_thrown n c' _ J1) fL_law_577 YX11_thrown VX11_thrown lL_127 rfl rfl (sx_60 _ _) (Nat.le_of_ble_eq_true rfl) (by decide) (by omega) (by omega) ?_
  rw [h48]
  refine xv_il5 fL_law_580 ?_
  refine xv_ic_eq fL_law_582 (fun h_582 => ?_) (fun h_582 => ?_)
  · refine xv_il5 fL_law_587 ?_
    refine xv_if_ne fL_law_589 (fun h_589 => ?_) (fun h_589 => ?_)
    · refine xv_goto fL_law_604 ?_
      simp only [Nat.sub_zero]
      exact @hk _ _
    · refine xv_al3 fL_law_592 ?_
      refine xv_k fL_law_593 ?_
      refine xv_laldN fL_law_594 (sx_98 _ _) (⟨by decide, by decide⟩) ?_
      refine xv_il6 fL_law_595 ?_
      refine xv_i2l fL_law_597 ?_
      refine xv_lcmp fL_law_598 ?_
      refine xv_if_eq fL_law_599 (fun h_599 => ?_) (fun h_599 => ?_)
      · refine xv_goto fL_law_604 ?_
        simp only [Nat.sub_zero]
        exact @hk _ _
      · exact absurd (by rw [hout h_589]; exact lg_self _) h_599
  · exact absurd rfl h_582

theorem arm_6 {n i dX MC MS kc ks : Nat} {c c' : Nat × Nat} {I I1 I2 : xv_I} {J J1 : xv_J} {Q : xv_Q} {code out : Int32} {l5 l6 : Option Value} (hi : i + 7 ≤ n) (hn : n ≤ 3584) (hdX : dX ≤ 9) (h99 : ∀ j, I1 99 j = I 99 j) (hL : xv_Met mL_takeOff 9 16 128 (sx n c) I (rx c) J [.ref 0, .int (I 99 (i + 1)), .ref 98] (xv_eq (.inl (some (.int code))) (sx n c') I1 (rx c') J1)) (hX : xv_Met mX11_takeOff dX 0 0 (sx n c') I1 (rx c') J1 [.ref 60, .int (I 99 (i + 1))] (xv_eq (.inl (some (.int out))) (sx n c') I2 (rx c') J1)) (h48 : I2 60 48 = code) (hout : code = 0 → J1 98 0 = out.toInt64) (hkc : 16 ≤ kc) (hks : 128 ≤ ks) (hk : (∀ l5 l6, xv_W mL_law 30 MC MS Q (kc - 16) (ks - 128) (sx n c') I2 (rx c') J1 2246 (some (.ref 99) :: some (.ref 0) :: some (.ref 60) :: some (.ref 98) :: some (.int (nI i)) :: l5 :: l6 :: []) [])) : xv_W mL_law 30 MC MS Q kc ks (sx n c) I (rx c) J 607 (some (.ref 99) :: some (.ref 0) :: some (.ref 60) :: some (.ref 98) :: some (.int (nI i)) :: l5 :: l6 :: []) [] := by
  refine xv_al1 fL_law_607 ?_
  refine xv_al0 fL_law_608 ?_
  refine xv_il4 fL_law_609 ?_
  refine xv_k fL_law_611 ?_
  refine xv_iadd fL_law_612 ?_
  rw [nI_add]
  refine xv_sldN fL_law_613 (sx_99 _ _) (⟨by omega, by omega⟩) ?_
  refine xv_al3 fL_law_614 ?_
  refine xv_callS3R (hL) fL_law_615 YL_takeOff VL_takeOff lL_149 rfl (Nat.le_of_ble_eq_true rfl) (by decide) (by omega) (by omega) ?_
  refine xv_is5 fL_law_618 ?_
  refine xv_al2 fL_law_620 ?_
  refine xv_al0 fL_law_621 ?_
  refine xv_il4 fL_law_622 ?_
  refine xv_k fL_law_624 ?_
  refine xv_iadd fL_law_625 ?_
  rw [nI_add]
  refine xv_sldN fL_law_626 (sx_99 _ _) (⟨by omega, by omega⟩) ?_
  rw [h99]
  refine xv_callV1R (hX) fL_law_627 YX11_takeOff VX11_takeOff lL_151 rfl rfl (sx_60 _ _) (Nat.le_of_ble_eq_true rfl) (by omega) (by omega) (by omega) ?_
  refine xv_is6 fL_law_630 ?_
  refine xv_al2 fL_law_632 ?_
  refine xv_callV0R (m_thrown n c' _ J1) fL_law_633 YX11_thrown VX11_thrown lL_127 rfl rfl (sx_60 _ _) (Nat.le_of_ble_eq_true rfl) (by decide) (by omega) (by omega) ?_
  rw [h48]
  refine xv_il5 fL_law_636 ?_
  refine xv_ic_eq fL_law_638 (fun h_638 => ?_) (fun h_638 => ?_)
  · refine xv_il5 fL_law_643 ?_
    refine xv_if_ne fL_law_645 (fun h_645 => ?_) (fun h_645 => ?_)
    · refine xv_goto fL_law_660 ?_
      simp only [Nat.sub_zero]
      exact @hk _ _
    · refine xv_al3 fL_law_648 ?_
      refine xv_k fL_law_649 ?_
      refine xv_laldN fL_law_650 (sx_98 _ _) (⟨by decide, by decide⟩) ?_
      refine xv_il6 fL_law_651 ?_
      refine xv_i2l fL_law_653 ?_
      refine xv_lcmp fL_law_654 ?_
      refine xv_if_eq fL_law_655 (fun h_655 => ?_) (fun h_655 => ?_)
      · refine xv_goto fL_law_660 ?_
        simp only [Nat.sub_zero]
        exact @hk _ _
      · exact absurd (by rw [hout h_645]; exact lg_self _) h_655
  · exact absurd rfl h_638

theorem arm_7 {n i dX MC MS kc ks : Nat} {c c' : Nat × Nat} {I I1 I2 : xv_I} {J J1 : xv_J} {Q : xv_Q} {code out : Int32} {l5 l6 : Option Value} (hi : i + 7 ≤ n) (hn : n ≤ 3584) (hdX : dX ≤ 9) (h99 : ∀ j, I1 99 j = I 99 j) (hL : xv_Met mL_advertsIn 9 16 128 (sx n c) I (rx c) J [.ref 0, .int (I 99 (i + 1)), .ref 98] (xv_eq (.inl (some (.int code))) (sx n c') I1 (rx c') J1)) (hX : xv_Met mX11_advertsIn dX 0 0 (sx n c') I1 (rx c') J1 [.ref 60, .int (I 99 (i + 1))] (xv_eq (.inl (some (.int out))) (sx n c') I2 (rx c') J1)) (h48 : I2 60 48 = code) (hout : code = 0 → J1 98 0 = out.toInt64) (hkc : 16 ≤ kc) (hks : 128 ≤ ks) (hk : (∀ l5 l6, xv_W mL_law 30 MC MS Q (kc - 16) (ks - 128) (sx n c') I2 (rx c') J1 2246 (some (.ref 99) :: some (.ref 0) :: some (.ref 60) :: some (.ref 98) :: some (.int (nI i)) :: l5 :: l6 :: []) [])) : xv_W mL_law 30 MC MS Q kc ks (sx n c) I (rx c) J 663 (some (.ref 99) :: some (.ref 0) :: some (.ref 60) :: some (.ref 98) :: some (.int (nI i)) :: l5 :: l6 :: []) [] := by
  refine xv_al1 fL_law_663 ?_
  refine xv_al0 fL_law_664 ?_
  refine xv_il4 fL_law_665 ?_
  refine xv_k fL_law_667 ?_
  refine xv_iadd fL_law_668 ?_
  rw [nI_add]
  refine xv_sldN fL_law_669 (sx_99 _ _) (⟨by omega, by omega⟩) ?_
  refine xv_al3 fL_law_670 ?_
  refine xv_callS3R (hL) fL_law_671 YL_advertsIn VL_advertsIn lL_152 rfl (Nat.le_of_ble_eq_true rfl) (by decide) (by omega) (by omega) ?_
  refine xv_is5 fL_law_674 ?_
  refine xv_al2 fL_law_676 ?_
  refine xv_al0 fL_law_677 ?_
  refine xv_il4 fL_law_678 ?_
  refine xv_k fL_law_680 ?_
  refine xv_iadd fL_law_681 ?_
  rw [nI_add]
  refine xv_sldN fL_law_682 (sx_99 _ _) (⟨by omega, by omega⟩) ?_
  rw [h99]
  refine xv_callV1R (hX) fL_law_683 YX11_advertsIn VX11_advertsIn lL_154 rfl rfl (sx_60 _ _) (Nat.le_of_ble_eq_true rfl) (by omega) (by omega) (by omega) ?_
  refine xv_is6 fL_law_686 ?_
  refine xv_al2 fL_law_688 ?_
  refine xv_callV0R (m_thrown n c' _ J1) fL_law_689 YX11_thrown VX11_thrown lL_127 rfl rfl (sx_60 _ _) (Nat.le_of_ble_eq_true rfl) (by decide) (by omega) (by omega) ?_
  rw [h48]
  refine xv_il5 fL_law_692 ?_
  refine xv_ic_eq fL_law_694 (fun h_694 => ?_) (fun h_694 => ?_)
  · refine xv_il5 fL_law_699 ?_
    refine xv_if_ne fL_law_701 (fun h_701 => ?_) (fun h_701 => ?_)
    · refine xv_goto fL_law_716 ?_
      simp only [Nat.sub_zero]
      exact @hk _ _
    · refine xv_al3 fL_law_704 ?_
      refine xv_k fL_law_705 ?_
      refine xv_laldN fL_law_706 (sx_98 _ _) (⟨by decide, by decide⟩) ?_
      refine xv_il6 fL_law_707 ?_
      refine xv_i2l fL_law_709 ?_
      refine xv_lcmp fL_law_710 ?_
      refine xv_if_eq fL_law_711 (fun h_711 => ?_) (fun h_711 => ?_)
      · refine xv_goto fL_law_716 ?_
        simp only [Nat.sub_zero]
        exact @hk _ _
      · exact absurd (by rw [hout h_701]; exact lg_self _) h_711
  · exact absurd rfl h_694

theorem arm_8 {n i dX MC MS kc ks : Nat} {c c' : Nat × Nat} {I I1 I2 : xv_I} {J J1 : xv_J} {Q : xv_Q} {code out : Int32} {l5 l6 : Option Value} (hi : i + 7 ≤ n) (hn : n ≤ 3584) (hdX : dX ≤ 9) (h99 : ∀ j, I1 99 j = I 99 j) (hL : xv_Met mL_story 9 16 128 (sx n c) I (rx c) J [.ref 0, .int (I 99 (i + 1)), .int (I 99 (i + 2)), .int (I 99 (i + 3)), .ref 98] (xv_eq (.inl (some (.int code))) (sx n c') I1 (rx c') J1)) (hX : xv_Met mX11_story dX 0 0 (sx n c') I1 (rx c') J1 [.ref 60, .int (I 99 (i + 1)), .int (I 99 (i + 2)), .int (I 99 (i + 3))] (xv_eq (.inl (some (.int out))) (sx n c') I2 (rx c') J1)) (h48 : I2 60 48 = code) (hout : code = 0 → J1 98 0 = out.toInt64) (hkc : 16 ≤ kc) (hks : 128 ≤ ks) (hk : (∀ l5 l6, xv_W mL_law 30 MC MS Q (kc - 16) (ks - 128) (sx n c') I2 (rx c') J1 2246 (some (.ref 99) :: some (.ref 0) :: some (.ref 60) :: some (.ref 98) :: some (.int (nI i)) :: l5 :: l6 :: []) [])) : xv_W mL_law 30 MC MS Q kc ks (sx n c) I (rx c) J 719 (some (.ref 99) :: some (.ref 0) :: some (.ref 60) :: some (.ref 98) :: some (.int (nI i)) :: l5 :: l6 :: []) [] := by
  refine xv_al1 fL_law_719 ?_
  refine xv_al0 fL_law_720 ?_
  refine xv_il4 fL_law_721 ?_
  refine xv_k fL_law_723 ?_
  refine xv_iadd fL_law_724 ?_
  rw [nI_add]
  refine xv_sldN fL_law_725 (sx_99 _ _) (⟨by omega, by omega⟩) ?_
  refine xv_al0 fL_law_726 ?_
  refine xv_il4 fL_law_727 ?_
  refine xv_k fL_law_729 ?_
  refine xv_iadd fL_law_730 ?_
  rw [nI_add]
  refine xv_sldN fL_law_731 (sx_99 _ _) (⟨by omega, by omega⟩) ?_
  refine xv_al0 fL_law_732 ?_
  refine xv_il4 fL_law_733 ?_
  refine xv_k fL_law_735 ?_
  refine xv_iadd fL_law_736 ?_
  rw [nI_add]
  refine xv_sldN fL_law_737 (sx_99 _ _) (⟨by omega, by omega⟩) ?_
  refine xv_al3 fL_law_738 ?_
  refine xv_callS5R (hL) fL_law_739 YL_story VL_story lL_155 rfl (Nat.le_of_ble_eq_true rfl) (by decide) (by omega) (by omega) ?_
  refine xv_is5 fL_law_742 ?_
  refine xv_al2 fL_law_744 ?_
  refine xv_al0 fL_law_745 ?_
  refine xv_il4 fL_law_746 ?_
  refine xv_k fL_law_748 ?_
  refine xv_iadd fL_law_749 ?_
  rw [nI_add]
  refine xv_sldN fL_law_750 (sx_99 _ _) (⟨by omega, by omega⟩) ?_
  rw [h99]
  refine xv_al0 fL_law_751 ?_
  refine xv_il4 fL_law_752 ?_
  refine xv_k fL_law_754 ?_
  refine xv_iadd fL_law_755 ?_
  rw [nI_add]
  refine xv_sldN fL_law_756 (sx_99 _ _) (⟨by omega, by omega⟩) ?_
  rw [h99]
  refine xv_al0 fL_law_757 ?_
  refine xv_il4 fL_law_758 ?_
  refine xv_k fL_law_760 ?_
  refine xv_iadd fL_law_761 ?_
  rw [nI_add]
  refine xv_sldN fL_law_762 (sx_99 _ _) (⟨by omega, by omega⟩) ?_
  rw [h99]
  refine xv_callV3R (hX) fL_law_763 YX11_story VX11_story lL_158 rfl rfl (sx_60 _ _) (Nat.le_of_ble_eq_true rfl) (by omega) (by omega) (by omega) ?_
  refine xv_is6 fL_law_766 ?_
  refine xv_al2 fL_law_768 ?_
  refine xv_callV0R (m_thrown n c' _ J1) fL_law_769 YX11_thrown VX11_thrown lL_127 rfl rfl (sx_60 _ _) (Nat.le_of_ble_eq_true rfl) (by decide) (by omega) (by omega) ?_
  rw [h48]
  refine xv_il5 fL_law_772 ?_
  refine xv_ic_eq fL_law_774 (fun h_774 => ?_) (fun h_774 => ?_)
  · refine xv_il5 fL_law_779 ?_
    refine xv_if_ne fL_law_781 (fun h_781 => ?_) (fun h_781 => ?_)
    · refine xv_goto fL_law_796 ?_
      simp only [Nat.sub_zero]
      exact @hk _ _
    · refine xv_al3 fL_law_784 ?_
      refine xv_k fL_law_785 ?_
      refine xv_laldN fL_law_786 (sx_98 _ _) (⟨by decide, by decide⟩) ?_
      refine xv_il6 fL_law_787 ?_
      refine xv_i2l fL_law_789 ?_
      refine xv_lcmp fL_law_790 ?_
      refine xv_if_eq fL_law_791 (fun h_791 => ?_) (fun h_791 => ?_)
      · refine xv_goto fL_law_796 ?_
        simp only [Nat.sub_zero]
        exact @hk _ _
      · exact absurd (by rw [hout h_781]; exact lg_self _) h_791
  · exact absurd rfl h_774

theorem arm_9 {n i dX MC MS kc ks : Nat} {c c' : Nat × Nat} {I I1 I2 : xv_I} {J J1 : xv_J} {Q : xv_Q} {code out : Int32} {l5 l6 : Option Value} (hi : i + 7 ≤ n) (hn : n ≤ 3584) (hdX : dX ≤ 9) (h99 : ∀ j, I1 99 j = I 99 j) (hL : xv_Met mL_lay 9 16 128 (sx n c) I (rx c) J [.ref 0, .int (I 99 (i + 1)), .ref 98] (xv_eq (.inl (some (.int code))) (sx n c') I1 (rx c') J1)) (hX : xv_Met mX11_lay dX 0 0 (sx n c') I1 (rx c') J1 [.ref 60, .int (I 99 (i + 1))] (xv_eq (.inl (some (.int out))) (sx n c') I2 (rx c') J1)) (h48 : I2 60 48 = code) (hout : code = 0 → J1 98 0 = out.toInt64) (hkc : 16 ≤ kc) (hks : 128 ≤ ks) (hk : (∀ l5 l6, xv_W mL_law 30 MC MS Q (kc - 16) (ks - 128) (sx n c') I2 (rx c') J1 2246 (some (.ref 99) :: some (.ref 0) :: some (.ref 60) :: some (.ref 98) :: some (.int (nI i)) :: l5 :: l6 :: []) [])) : xv_W mL_law 30 MC MS Q kc ks (sx n c) I (rx c) J 799 (some (.ref 99) :: some (.ref 0) :: some (.ref 60) :: some (.ref 98) :: some (.int (nI i)) :: l5 :: l6 :: []) [] := by
  refine xv_al1 fL_law_799 ?_
  refine xv_al0 fL_law_800 ?_
  refine xv_il4 fL_law_801 ?_
  refine xv_k fL_law_803 ?_
  refine xv_iadd fL_law_804 ?_
  rw [nI_add]
  refine xv_sldN fL_law_805 (sx_99 _ _) (⟨by omega, by omega⟩) ?_
  refine xv_al3 fL_law_806 ?_
  refine xv_callS3R (hL) fL_law_807 YL_lay VL_lay lL_159 rfl (Nat.le_of_ble_eq_true rfl) (by decide) (by omega) (by omega) ?_
  refine xv_is5 fL_law_810 ?_
  refine xv_al2 fL_law_812 ?_
  refine xv_al0 fL_law_813 ?_
  refine xv_il4 fL_law_814 ?_
  refine xv_k fL_law_816 ?_
  refine xv_iadd fL_law_817 ?_
  rw [nI_add]
  refine xv_sldN fL_law_818 (sx_99 _ _) (⟨by omega, by omega⟩) ?_
  rw [h99]
  refine xv_callV1R (hX) fL_law_819 YX11_lay VX11_lay lL_161 rfl rfl (sx_60 _ _) (Nat.le_of_ble_eq_true rfl) (by omega) (by omega) (by omega) ?_
  refine xv_is6 fL_law_822 ?_
  refine xv_al2 fL_law_824 ?_
  refine xv_callV0R (m_thrown n c' _ J1) fL_law_825 YX11_thrown VX11_thrown lL_127 rfl rfl (sx_60 _ _) (Nat.le_of_ble_eq_true rfl) (by decide) (by omega) (by omega) ?_
  rw [h48]
  refine xv_il5 fL_law_828 ?_
  refine xv_ic_eq fL_law_830 (fun h_830 => ?_) (fun h_830 => ?_)
  · refine xv_il5 fL_law_835 ?_
    refine xv_if_ne fL_law_837 (fun h_837 => ?_) (fun h_837 => ?_)
    · refine xv_goto fL_law_852 ?_
      simp only [Nat.sub_zero]
      exact @hk _ _
    · refine xv_al3 fL_law_840 ?_
      refine xv_k fL_law_841 ?_
      refine xv_laldN fL_law_842 (sx_98 _ _) (⟨by decide, by decide⟩) ?_
      refine xv_il6 fL_law_843 ?_
      refine xv_i2l fL_law_845 ?_
      refine xv_lcmp fL_law_846 ?_
      refine xv_if_eq fL_law_847 (fun h_847 => ?_) (fun h_847 => ?_)
      · refine xv_goto fL_law_852 ?_
        simp only [Nat.sub_zero]
        exact @hk _ _
      · exact absurd (by rw [hout h_837]; exact lg_self _) h_847
  · exact absurd rfl h_830

theorem arm_10 {n i dX MC MS kc ks : Nat} {c c' : Nat × Nat} {I I1 I2 : xv_I} {J J1 : xv_J} {Q : xv_Q} {code out : Int32} {l5 l6 : Option Value} (hi : i + 7 ≤ n) (hn : n ≤ 3584) (hdX : dX ≤ 9) (h99 : ∀ j, I1 99 j = I 99 j) (hL : xv_Met mL_lift 9 16 128 (sx n c) I (rx c) J [.ref 0, .int (I 99 (i + 1)), .ref 98] (xv_eq (.inl (some (.int code))) (sx n c') I1 (rx c') J1)) (hX : xv_Met mX11_lift dX 0 0 (sx n c') I1 (rx c') J1 [.ref 60, .int (I 99 (i + 1))] (xv_eq (.inl (some (.int out))) (sx n c') I2 (rx c') J1)) (h48 : I2 60 48 = code) (hout : code = 0 → J1 98 0 = out.toInt64) (hkc : 16 ≤ kc) (hks : 128 ≤ ks) (hk : (∀ l5 l6, xv_W mL_law 30 MC MS Q (kc - 16) (ks - 128) (sx n c') I2 (rx c') J1 2246 (some (.ref 99) :: some (.ref 0) :: some (.ref 60) :: some (.ref 98) :: some (.int (nI i)) :: l5 :: l6 :: []) [])) : xv_W mL_law 30 MC MS Q kc ks (sx n c) I (rx c) J 855 (some (.ref 99) :: some (.ref 0) :: some (.ref 60) :: some (.ref 98) :: some (.int (nI i)) :: l5 :: l6 :: []) [] := by
  refine xv_al1 fL_law_855 ?_
  refine xv_al0 fL_law_856 ?_
  refine xv_il4 fL_law_857 ?_
  refine xv_k fL_law_859 ?_
  refine xv_iadd fL_law_860 ?_
  rw [nI_add]
  refine xv_sldN fL_law_861 (sx_99 _ _) (⟨by omega, by omega⟩) ?_
  refine xv_al3 fL_law_862 ?_
  refine xv_callS3R (hL) fL_law_863 YL_lift VL_lift lL_162 rfl (Nat.le_of_ble_eq_true rfl) (by decide) (by omega) (by omega) ?_
  refine xv_is5 fL_law_866 ?_
  refine xv_al2 fL_law_868 ?_
  refine xv_al0 fL_law_869 ?_
  refine xv_il4 fL_law_870 ?_
  refine xv_k fL_law_872 ?_
  refine xv_iadd fL_law_873 ?_
  rw [nI_add]
  refine xv_sldN fL_law_874 (sx_99 _ _) (⟨by omega, by omega⟩) ?_
  rw [h99]
  refine xv_callV1R (hX) fL_law_875 YX11_lift VX11_lift lL_164 rfl rfl (sx_60 _ _) (Nat.le_of_ble_eq_true rfl) (by omega) (by omega) (by omega) ?_
  refine xv_is6 fL_law_878 ?_
  refine xv_al2 fL_law_880 ?_
  refine xv_callV0R (m_thrown n c' _ J1) fL_law_881 YX11_thrown VX11_thrown lL_127 rfl rfl (sx_60 _ _) (Nat.le_of_ble_eq_true rfl) (by decide) (by omega) (by omega) ?_
  rw [h48]
  refine xv_il5 fL_law_884 ?_
  refine xv_ic_eq fL_law_886 (fun h_886 => ?_) (fun h_886 => ?_)
  · refine xv_il5 fL_law_891 ?_
    refine xv_if_ne fL_law_893 (fun h_893 => ?_) (fun h_893 => ?_)
    · refine xv_goto fL_law_908 ?_
      simp only [Nat.sub_zero]
      exact @hk _ _
    · refine xv_al3 fL_law_896 ?_
      refine xv_k fL_law_897 ?_
      refine xv_laldN fL_law_898 (sx_98 _ _) (⟨by decide, by decide⟩) ?_
      refine xv_il6 fL_law_899 ?_
      refine xv_i2l fL_law_901 ?_
      refine xv_lcmp fL_law_902 ?_
      refine xv_if_eq fL_law_903 (fun h_903 => ?_) (fun h_903 => ?_)
      · refine xv_goto fL_law_908 ?_
        simp only [Nat.sub_zero]
        exact @hk _ _
      · exact absurd (by rw [hout h_893]; exact lg_self _) h_903
  · exact absurd rfl h_886

theorem arm_11 {n i dX MC MS kc ks : Nat} {c c' : Nat × Nat} {I I1 I2 : xv_I} {J J1 : xv_J} {Q : xv_Q} {code out : Int32} {l5 l6 : Option Value} (hi : i + 7 ≤ n) (hn : n ≤ 3584) (hdX : dX ≤ 9) (h99 : ∀ j, I1 99 j = I 99 j) (hL : xv_Met mL_change 9 16 128 (sx n c) I (rx c) J [.ref 0, .int (I 99 (i + 1)), .int (I 99 (i + 2)), .ref 98] (xv_eq (.inl (some (.int code))) (sx n c') I1 (rx c') J1)) (hX : xv_Met mX11_change dX 0 0 (sx n c') I1 (rx c') J1 [.ref 60, .int (I 99 (i + 1)), .int (I 99 (i + 2))] (xv_eq (.inl (some (.int out))) (sx n c') I2 (rx c') J1)) (h48 : I2 60 48 = code) (hout : code = 0 → J1 98 0 = out.toInt64) (hkc : 16 ≤ kc) (hks : 128 ≤ ks) (hk : (∀ l5 l6, xv_W mL_law 30 MC MS Q (kc - 16) (ks - 128) (sx n c') I2 (rx c') J1 2246 (some (.ref 99) :: some (.ref 0) :: some (.ref 60) :: some (.ref 98) :: some (.int (nI i)) :: l5 :: l6 :: []) [])) : xv_W mL_law 30 MC MS Q kc ks (sx n c) I (rx c) J 911 (some (.ref 99) :: some (.ref 0) :: some (.ref 60) :: some (.ref 98) :: some (.int (nI i)) :: l5 :: l6 :: []) [] := by
  refine xv_al1 fL_law_911 ?_
  refine xv_al0 fL_law_912 ?_
  refine xv_il4 fL_law_913 ?_
  refine xv_k fL_law_915 ?_
  refine xv_iadd fL_law_916 ?_
  rw [nI_add]
  refine xv_sldN fL_law_917 (sx_99 _ _) (⟨by omega, by omega⟩) ?_
  refine xv_al0 fL_law_918 ?_
  refine xv_il4 fL_law_919 ?_
  refine xv_k fL_law_921 ?_
  refine xv_iadd fL_law_922 ?_
  rw [nI_add]
  refine xv_sldN fL_law_923 (sx_99 _ _) (⟨by omega, by omega⟩) ?_
  refine xv_al3 fL_law_924 ?_
  refine xv_callS4R (hL) fL_law_925 YL_change VL_change lL_165 rfl (Nat.le_of_ble_eq_true rfl) (by decide) (by omega) (by omega) ?_
  refine xv_is5 fL_law_928 ?_
  refine xv_al2 fL_law_930 ?_
  refine xv_al0 fL_law_931 ?_
  refine xv_il4 fL_law_932 ?_
  refine xv_k fL_law_934 ?_
  refine xv_iadd fL_law_935 ?_
  rw [nI_add]
  refine xv_sldN fL_law_936 (sx_99 _ _) (⟨by omega, by omega⟩) ?_
  rw [h99]
  refine xv_al0 fL_law_937 ?_
  refine xv_il4 fL_law_938 ?_
  refine xv_k fL_law_940 ?_
  refine xv_iadd fL_law_941 ?_
  rw [nI_add]
  refine xv_sldN fL_law_942 (sx_99 _ _) (⟨by omega, by omega⟩) ?_
  rw [h99]
  refine xv_callV2R (hX) fL_law_943 YX11_change VX11_change lL_167 rfl rfl (sx_60 _ _) (Nat.le_of_ble_eq_true rfl) (by omega) (by omega) (by omega) ?_
  refine xv_is6 fL_law_946 ?_
  refine xv_al2 fL_law_948 ?_
  refine xv_callV0R (m_thrown n c' _ J1) fL_law_949 YX11_thrown VX11_thrown lL_127 rfl rfl (sx_60 _ _) (Nat.le_of_ble_eq_true rfl) (by decide) (by omega) (by omega) ?_
  rw [h48]
  refine xv_il5 fL_law_952 ?_
  refine xv_ic_eq fL_law_954 (fun h_954 => ?_) (fun h_954 => ?_)
  · refine xv_il5 fL_law_959 ?_
    refine xv_if_ne fL_law_961 (fun h_961 => ?_) (fun h_961 => ?_)
    · refine xv_goto fL_law_976 ?_
      simp only [Nat.sub_zero]
      exact @hk _ _
    · refine xv_al3 fL_law_964 ?_
      refine xv_k fL_law_965 ?_
      refine xv_laldN fL_law_966 (sx_98 _ _) (⟨by decide, by decide⟩) ?_
      refine xv_il6 fL_law_967 ?_
      refine xv_i2l fL_law_969 ?_
      refine xv_lcmp fL_law_970 ?_
      refine xv_if_eq fL_law_971 (fun h_971 => ?_) (fun h_971 => ?_)
      · refine xv_goto fL_law_976 ?_
        simp only [Nat.sub_zero]
        exact @hk _ _
      · exact absurd (by rw [hout h_961]; exact lg_self _) h_971
  · exact absurd rfl h_954

theorem arm_12 {n i dX MC MS kc ks : Nat} {c c' : Nat × Nat} {I I1 I2 : xv_I} {J J1 : xv_J} {Q : xv_Q} {code out : Int32} {l5 l6 : Option Value} (hi : i + 7 ≤ n) (hn : n ≤ 3584) (hdX : dX ≤ 9) (h99 : ∀ j, I1 99 j = I 99 j) (hL : xv_Met mL_part 9 16 128 (sx n c) I (rx c) J [.ref 0, .int (I 99 (i + 1)), .int (I 99 (i + 2)), .ref 98] (xv_eq (.inl (some (.int code))) (sx n c') I1 (rx c') J1)) (hX : xv_Met mX11_part dX 0 0 (sx n c') I1 (rx c') J1 [.ref 60, .int (I 99 (i + 1)), .int (I 99 (i + 2))] (xv_eq (.inl (some (.int out))) (sx n c') I2 (rx c') J1)) (h48 : I2 60 48 = code) (hout : code = 0 → J1 98 0 = out.toInt64) (hkc : 16 ≤ kc) (hks : 128 ≤ ks) (hk : (∀ l5 l6, xv_W mL_law 30 MC MS Q (kc - 16) (ks - 128) (sx n c') I2 (rx c') J1 2246 (some (.ref 99) :: some (.ref 0) :: some (.ref 60) :: some (.ref 98) :: some (.int (nI i)) :: l5 :: l6 :: []) [])) : xv_W mL_law 30 MC MS Q kc ks (sx n c) I (rx c) J 979 (some (.ref 99) :: some (.ref 0) :: some (.ref 60) :: some (.ref 98) :: some (.int (nI i)) :: l5 :: l6 :: []) [] := by
  refine xv_al1 fL_law_979 ?_
  refine xv_al0 fL_law_980 ?_
  refine xv_il4 fL_law_981 ?_
  refine xv_k fL_law_983 ?_
  refine xv_iadd fL_law_984 ?_
  rw [nI_add]
  refine xv_sldN fL_law_985 (sx_99 _ _) (⟨by omega, by omega⟩) ?_
  refine xv_al0 fL_law_986 ?_
  refine xv_il4 fL_law_987 ?_
  refine xv_k fL_law_989 ?_
  refine xv_iadd fL_law_990 ?_
  rw [nI_add]
  refine xv_sldN fL_law_991 (sx_99 _ _) (⟨by omega, by omega⟩) ?_
  refine xv_al3 fL_law_992 ?_
  refine xv_callS4R (hL) fL_law_993 YL_part VL_part lL_168 rfl (Nat.le_of_ble_eq_true rfl) (by decide) (by omega) (by omega) ?_
  refine xv_is5 fL_law_996 ?_
  refine xv_al2 fL_law_998 ?_
  refine xv_al0 fL_law_999 ?_
  refine xv_il4 fL_law_1000 ?_
  refine xv_k fL_law_1002 ?_
  refine xv_iadd fL_law_1003 ?_
  rw [nI_add]
  refine xv_sldN fL_law_1004 (sx_99 _ _) (⟨by omega, by omega⟩) ?_
  rw [h99]
  refine xv_al0 fL_law_1005 ?_
  refine xv_il4 fL_law_1006 ?_
  refine xv_k fL_law_1008 ?_
  refine xv_iadd fL_law_1009 ?_
  rw [nI_add]
  refine xv_sldN fL_law_1010 (sx_99 _ _) (⟨by omega, by omega⟩) ?_
  rw [h99]
  refine xv_callV2R (hX) fL_law_1011 YX11_part VX11_part lL_170 rfl rfl (sx_60 _ _) (Nat.le_of_ble_eq_true rfl) (by omega) (by omega) (by omega) ?_
  refine xv_is6 fL_law_1014 ?_
  refine xv_al2 fL_law_1016 ?_
  refine xv_callV0R (m_thrown n c' _ J1) fL_law_1017 YX11_thrown VX11_thrown lL_127 rfl rfl (sx_60 _ _) (Nat.le_of_ble_eq_true rfl) (by decide) (by omega) (by omega) ?_
  rw [h48]
  refine xv_il5 fL_law_1020 ?_
  refine xv_ic_eq fL_law_1022 (fun h_1022 => ?_) (fun h_1022 => ?_)
  · refine xv_il5 fL_law_1027 ?_
    refine xv_if_ne fL_law_1029 (fun h_1029 => ?_) (fun h_1029 => ?_)
    · refine xv_goto fL_law_1044 ?_
      simp only [Nat.sub_zero]
      exact @hk _ _
    · refine xv_al3 fL_law_1032 ?_
      refine xv_k fL_law_1033 ?_
      refine xv_laldN fL_law_1034 (sx_98 _ _) (⟨by decide, by decide⟩) ?_
      refine xv_il6 fL_law_1035 ?_
      refine xv_i2l fL_law_1037 ?_
      refine xv_lcmp fL_law_1038 ?_
      refine xv_if_eq fL_law_1039 (fun h_1039 => ?_) (fun h_1039 => ?_)
      · refine xv_goto fL_law_1044 ?_
        simp only [Nat.sub_zero]
        exact @hk _ _
      · exact absurd (by rw [hout h_1029]; exact lg_self _) h_1039
  · exact absurd rfl h_1022

theorem arm_13 {n i dX MC MS kc ks : Nat} {c c' : Nat × Nat} {I I1 I2 : xv_I} {J J1 : xv_J} {Q : xv_Q} {code out : Int32} {l5 l6 : Option Value} (hi : i + 7 ≤ n) (hn : n ≤ 3584) (hdX : dX ≤ 9) (h99 : ∀ j, I1 99 j = I 99 j) (hL : xv_Met mL_person 9 16 128 (sx n c) I (rx c) J [.ref 0, .int (I 99 (i + 1)), .ref 98] (xv_eq (.inl (some (.int code))) (sx n c') I1 (rx c') J1)) (hX : xv_Met mX11_person dX 0 0 (sx n c') I1 (rx c') J1 [.ref 60, .int (I 99 (i + 1))] (xv_eq (.inl (some (.int out))) (sx n c') I2 (rx c') J1)) (h48 : I2 60 48 = code) (hout : code = 0 → J1 98 0 = (if out = 0 then 0 else 1)) (hkc : 16 ≤ kc) (hks : 128 ≤ ks) (hk : (∀ l5 l6, xv_W mL_law 30 MC MS Q (kc - 16) (ks - 128) (sx n c') I2 (rx c') J1 2246 (some (.ref 99) :: some (.ref 0) :: some (.ref 60) :: some (.ref 98) :: some (.int (nI i)) :: l5 :: l6 :: []) [])) : xv_W mL_law 30 MC MS Q kc ks (sx n c) I (rx c) J 1047 (some (.ref 99) :: some (.ref 0) :: some (.ref 60) :: some (.ref 98) :: some (.int (nI i)) :: l5 :: l6 :: []) [] := by
  refine xv_al1 fL_law_1047 ?_
  refine xv_al0 fL_law_1048 ?_
  refine xv_il4 fL_law_1049 ?_
  refine xv_k fL_law_1051 ?_
  refine xv_iadd fL_law_1052 ?_
  rw [nI_add]
  refine xv_sldN fL_law_1053 (sx_99 _ _) (⟨by omega, by omega⟩) ?_
  refine xv_al3 fL_law_1054 ?_
  refine xv_callS3R (hL) fL_law_1055 YL_person VL_person lL_171 rfl (Nat.le_of_ble_eq_true rfl) (by decide) (by omega) (by omega) ?_
  refine xv_is5 fL_law_1058 ?_
  refine xv_al2 fL_law_1060 ?_
  refine xv_al0 fL_law_1061 ?_
  refine xv_il4 fL_law_1062 ?_
  refine xv_k fL_law_1064 ?_
  refine xv_iadd fL_law_1065 ?_
  rw [nI_add]
  refine xv_sldN fL_law_1066 (sx_99 _ _) (⟨by omega, by omega⟩) ?_
  rw [h99]
  refine xv_callV1R (hX) fL_law_1067 YX11_person VX11_person lL_173 rfl rfl (sx_60 _ _) (Nat.le_of_ble_eq_true rfl) (by omega) (by omega) (by omega) ?_
  refine xv_is6 fL_law_1070 ?_
  refine xv_al2 fL_law_1072 ?_
  refine xv_callV0R (m_thrown n c' _ J1) fL_law_1073 YX11_thrown VX11_thrown lL_127 rfl rfl (sx_60 _ _) (Nat.le_of_ble_eq_true rfl) (by decide) (by omega) (by omega) ?_
  rw [h48]
  refine xv_il5 fL_law_1076 ?_
  refine xv_ic_eq fL_law_1078 (fun h_1078 => ?_) (fun h_1078 => ?_)
  · refine xv_il5 fL_law_1083 ?_
    refine xv_if_ne fL_law_1085 (fun h_1085 => ?_) (fun h_1085 => ?_)
    · refine xv_goto fL_law_1107 ?_
      simp only [Nat.sub_zero]
      exact @hk _ _
    · refine xv_al3 fL_law_1088 ?_
      refine xv_k fL_law_1089 ?_
      refine xv_laldN fL_law_1090 (sx_98 _ _) (⟨by decide, by decide⟩) ?_
      refine xv_il6 fL_law_1091 ?_
      refine xv_if_eq fL_law_1093 (fun h_1093 => ?_) (fun h_1093 => ?_)
      · refine xv_lconst fL_law_1100 ?_
        refine xv_lcmp fL_law_1101 ?_
        refine xv_if_eq fL_law_1102 (fun h_1102 => ?_) (fun h_1102 => ?_)
        · refine xv_goto fL_law_1107 ?_
          simp only [Nat.sub_zero]
          exact @hk _ _
        · exact absurd (by rw [hout h_1085, if_pos h_1093]; rfl) h_1102
      · refine xv_lconst fL_law_1096 ?_
        refine xv_goto fL_law_1097 ?_
        refine xv_lcmp fL_law_1101 ?_
        refine xv_if_eq fL_law_1102 (fun h_1102 => ?_) (fun h_1102 => ?_)
        · refine xv_goto fL_law_1107 ?_
          simp only [Nat.sub_zero]
          exact @hk _ _
        · exact absurd (by rw [hout h_1085, if_neg h_1093]; rfl) h_1102
  · exact absurd rfl h_1078

theorem arm_14 {n i dX MC MS kc ks : Nat} {c c' : Nat × Nat} {I I1 I2 : xv_I} {J J1 : xv_J} {Q : xv_Q} {code out : Int32} {l5 l6 : Option Value} (hi : i + 7 ≤ n) (hn : n ≤ 3584) (hdX : dX ≤ 9) (h99 : ∀ j, I1 99 j = I 99 j) (hL : xv_Met mL_sign 9 16 128 (sx n c) I (rx c) J [.ref 0, .int (I 99 (i + 1)), .int (I 99 (i + 2)), .ref 98] (xv_eq (.inl (some (.int code))) (sx n c') I1 (rx c') J1)) (hX : xv_Met mX11_sign dX 0 0 (sx n c') I1 (rx c') J1 [.ref 60, .int (I 99 (i + 1)), .int (I 99 (i + 2))] (xv_eq (.inl (some (.int out))) (sx n c') I2 (rx c') J1)) (h48 : I2 60 48 = code) (hout : code = 0 → J1 98 0 = out.toInt64) (hkc : 16 ≤ kc) (hks : 128 ≤ ks) (hk : (∀ l5 l6, xv_W mL_law 30 MC MS Q (kc - 16) (ks - 128) (sx n c') I2 (rx c') J1 2246 (some (.ref 99) :: some (.ref 0) :: some (.ref 60) :: some (.ref 98) :: some (.int (nI i)) :: l5 :: l6 :: []) [])) : xv_W mL_law 30 MC MS Q kc ks (sx n c) I (rx c) J 1110 (some (.ref 99) :: some (.ref 0) :: some (.ref 60) :: some (.ref 98) :: some (.int (nI i)) :: l5 :: l6 :: []) [] := by
  refine xv_al1 fL_law_1110 ?_
  refine xv_al0 fL_law_1111 ?_
  refine xv_il4 fL_law_1112 ?_
  refine xv_k fL_law_1114 ?_
  refine xv_iadd fL_law_1115 ?_
  rw [nI_add]
  refine xv_sldN fL_law_1116 (sx_99 _ _) (⟨by omega, by omega⟩) ?_
  refine xv_al0 fL_law_1117 ?_
  refine xv_il4 fL_law_1118 ?_
  refine xv_k fL_law_1120 ?_
  refine xv_iadd fL_law_1121 ?_
  rw [nI_add]
  refine xv_sldN fL_law_1122 (sx_99 _ _) (⟨by omega, by omega⟩) ?_
  refine xv_al3 fL_law_1123 ?_
  refine xv_callS4R (hL) fL_law_1124 YL_sign VL_sign lL_174 rfl (Nat.le_of_ble_eq_true rfl) (by decide) (by omega) (by omega) ?_
  refine xv_is5 fL_law_1127 ?_
  refine xv_al2 fL_law_1129 ?_
  refine xv_al0 fL_law_1130 ?_
  refine xv_il4 fL_law_1131 ?_
  refine xv_k fL_law_1133 ?_
  refine xv_iadd fL_law_1134 ?_
  rw [nI_add]
  refine xv_sldN fL_law_1135 (sx_99 _ _) (⟨by omega, by omega⟩) ?_
  rw [h99]
  refine xv_al0 fL_law_1136 ?_
  refine xv_il4 fL_law_1137 ?_
  refine xv_k fL_law_1139 ?_
  refine xv_iadd fL_law_1140 ?_
  rw [nI_add]
  refine xv_sldN fL_law_1141 (sx_99 _ _) (⟨by omega, by omega⟩) ?_
  rw [h99]
  refine xv_callV2R (hX) fL_law_1142 YX11_sign VX11_sign lL_176 rfl rfl (sx_60 _ _) (Nat.le_of_ble_eq_true rfl) (by omega) (by omega) (by omega) ?_
  refine xv_is6 fL_law_1145 ?_
  refine xv_al2 fL_law_1147 ?_
  refine xv_callV0R (m_thrown n c' _ J1) fL_law_1148 YX11_thrown VX11_thrown lL_127 rfl rfl (sx_60 _ _) (Nat.le_of_ble_eq_true rfl) (by decide) (by omega) (by omega) ?_
  rw [h48]
  refine xv_il5 fL_law_1151 ?_
  refine xv_ic_eq fL_law_1153 (fun h_1153 => ?_) (fun h_1153 => ?_)
  · refine xv_il5 fL_law_1158 ?_
    refine xv_if_ne fL_law_1160 (fun h_1160 => ?_) (fun h_1160 => ?_)
    · refine xv_goto fL_law_1175 ?_
      simp only [Nat.sub_zero]
      exact @hk _ _
    · refine xv_al3 fL_law_1163 ?_
      refine xv_k fL_law_1164 ?_
      refine xv_laldN fL_law_1165 (sx_98 _ _) (⟨by decide, by decide⟩) ?_
      refine xv_il6 fL_law_1166 ?_
      refine xv_i2l fL_law_1168 ?_
      refine xv_lcmp fL_law_1169 ?_
      refine xv_if_eq fL_law_1170 (fun h_1170 => ?_) (fun h_1170 => ?_)
      · refine xv_goto fL_law_1175 ?_
        simp only [Nat.sub_zero]
        exact @hk _ _
      · exact absurd (by rw [hout h_1160]; exact lg_self _) h_1170
  · exact absurd rfl h_1153

theorem arm_15 {n i dX MC MS kc ks : Nat} {c c' : Nat × Nat} {I I1 I2 : xv_I} {J J1 : xv_J} {Q : xv_Q} {code out : Int32} {l5 l6 : Option Value} (hi : i + 7 ≤ n) (hn : n ≤ 3584) (hdX : dX ≤ 9) (h99 : ∀ j, I1 99 j = I 99 j) (hL : xv_Met mL_hold 9 16 128 (sx n c) I (rx c) J [.ref 0, .int (I 99 (i + 1)), .int (I 99 (i + 2)), .ref 98] (xv_eq (.inl (some (.int code))) (sx n c') I1 (rx c') J1)) (hX : xv_Met mX11_hold dX 0 0 (sx n c') I1 (rx c') J1 [.ref 60, .int (I 99 (i + 1)), .int (I 99 (i + 2))] (xv_eq (.inl (some (.int out))) (sx n c') I2 (rx c') J1)) (h48 : I2 60 48 = code) (hout : code = 0 → J1 98 0 = (if out = 0 then 0 else 1)) (hkc : 16 ≤ kc) (hks : 128 ≤ ks) (hk : (∀ l5 l6, xv_W mL_law 30 MC MS Q (kc - 16) (ks - 128) (sx n c') I2 (rx c') J1 2246 (some (.ref 99) :: some (.ref 0) :: some (.ref 60) :: some (.ref 98) :: some (.int (nI i)) :: l5 :: l6 :: []) [])) : xv_W mL_law 30 MC MS Q kc ks (sx n c) I (rx c) J 1178 (some (.ref 99) :: some (.ref 0) :: some (.ref 60) :: some (.ref 98) :: some (.int (nI i)) :: l5 :: l6 :: []) [] := by
  refine xv_al1 fL_law_1178 ?_
  refine xv_al0 fL_law_1179 ?_
  refine xv_il4 fL_law_1180 ?_
  refine xv_k fL_law_1182 ?_
  refine xv_iadd fL_law_1183 ?_
  rw [nI_add]
  refine xv_sldN fL_law_1184 (sx_99 _ _) (⟨by omega, by omega⟩) ?_
  refine xv_al0 fL_law_1185 ?_
  refine xv_il4 fL_law_1186 ?_
  refine xv_k fL_law_1188 ?_
  refine xv_iadd fL_law_1189 ?_
  rw [nI_add]
  refine xv_sldN fL_law_1190 (sx_99 _ _) (⟨by omega, by omega⟩) ?_
  refine xv_al3 fL_law_1191 ?_
  refine xv_callS4R (hL) fL_law_1192 YL_hold VL_hold lL_177 rfl (Nat.le_of_ble_eq_true rfl) (by decide) (by omega) (by omega) ?_
  refine xv_is5 fL_law_1195 ?_
  refine xv_al2 fL_law_1197 ?_
  refine xv_al0 fL_law_1198 ?_
  refine xv_il4 fL_law_1199 ?_
  refine xv_k fL_law_1201 ?_
  refine xv_iadd fL_law_1202 ?_
  rw [nI_add]
  refine xv_sldN fL_law_1203 (sx_99 _ _) (⟨by omega, by omega⟩) ?_
  rw [h99]
  refine xv_al0 fL_law_1204 ?_
  refine xv_il4 fL_law_1205 ?_
  refine xv_k fL_law_1207 ?_
  refine xv_iadd fL_law_1208 ?_
  rw [nI_add]
  refine xv_sldN fL_law_1209 (sx_99 _ _) (⟨by omega, by omega⟩) ?_
  rw [h99]
  refine xv_callV2R (hX) fL_law_1210 YX11_hold VX11_hold lL_179 rfl rfl (sx_60 _ _) (Nat.le_of_ble_eq_true rfl) (by omega) (by omega) (by omega) ?_
  refine xv_is6 fL_law_1213 ?_
  refine xv_al2 fL_law_1215 ?_
  refine xv_callV0R (m_thrown n c' _ J1) fL_law_1216 YX11_thrown VX11_thrown lL_127 rfl rfl (sx_60 _ _) (Nat.le_of_ble_eq_true rfl) (by decide) (by omega) (by omega) ?_
  rw [h48]
  refine xv_il5 fL_law_1219 ?_
  refine xv_ic_eq fL_law_1221 (fun h_1221 => ?_) (fun h_1221 => ?_)
  · refine xv_il5 fL_law_1226 ?_
    refine xv_if_ne fL_law_1228 (fun h_1228 => ?_) (fun h_1228 => ?_)
    · refine xv_goto fL_law_1250 ?_
      simp only [Nat.sub_zero]
      exact @hk _ _
    · refine xv_al3 fL_law_1231 ?_
      refine xv_k fL_law_1232 ?_
      refine xv_laldN fL_law_1233 (sx_98 _ _) (⟨by decide, by decide⟩) ?_
      refine xv_il6 fL_law_1234 ?_
      refine xv_if_eq fL_law_1236 (fun h_1236 => ?_) (fun h_1236 => ?_)
      · refine xv_lconst fL_law_1243 ?_
        refine xv_lcmp fL_law_1244 ?_
        refine xv_if_eq fL_law_1245 (fun h_1245 => ?_) (fun h_1245 => ?_)
        · refine xv_goto fL_law_1250 ?_
          simp only [Nat.sub_zero]
          exact @hk _ _
        · exact absurd (by rw [hout h_1228, if_pos h_1236]; rfl) h_1245
      · refine xv_lconst fL_law_1239 ?_
        refine xv_goto fL_law_1240 ?_
        refine xv_lcmp fL_law_1244 ?_
        refine xv_if_eq fL_law_1245 (fun h_1245 => ?_) (fun h_1245 => ?_)
        · refine xv_goto fL_law_1250 ?_
          simp only [Nat.sub_zero]
          exact @hk _ _
        · exact absurd (by rw [hout h_1228, if_neg h_1236]; rfl) h_1245
  · exact absurd rfl h_1221

theorem arm_16 {n i dX MC MS kc ks : Nat} {c c' : Nat × Nat} {I I1 I2 : xv_I} {J J1 : xv_J} {Q : xv_Q} {code out : Int32} {l5 l6 : Option Value} (hi : i + 7 ≤ n) (hn : n ≤ 3584) (hdX : dX ≤ 9) (h99 : ∀ j, I1 99 j = I 99 j) (hL : xv_Met mL_isReady 9 16 128 (sx n c) I (rx c) J [.ref 0, .int (I 99 (i + 1)), .ref 98] (xv_eq (.inl (some (.int code))) (sx n c') I1 (rx c') J1)) (hX : xv_Met mX11_isReady dX 0 0 (sx n c') I1 (rx c') J1 [.ref 60, .int (I 99 (i + 1))] (xv_eq (.inl (some (.int out))) (sx n c') I2 (rx c') J1)) (h48 : I2 60 48 = code) (hout : code = 0 → J1 98 0 = (if out = 0 then 0 else 1)) (hkc : 16 ≤ kc) (hks : 128 ≤ ks) (hk : (∀ l5 l6, xv_W mL_law 30 MC MS Q (kc - 16) (ks - 128) (sx n c') I2 (rx c') J1 2246 (some (.ref 99) :: some (.ref 0) :: some (.ref 60) :: some (.ref 98) :: some (.int (nI i)) :: l5 :: l6 :: []) [])) : xv_W mL_law 30 MC MS Q kc ks (sx n c) I (rx c) J 1253 (some (.ref 99) :: some (.ref 0) :: some (.ref 60) :: some (.ref 98) :: some (.int (nI i)) :: l5 :: l6 :: []) [] := by
  refine xv_al1 fL_law_1253 ?_
  refine xv_al0 fL_law_1254 ?_
  refine xv_il4 fL_law_1255 ?_
  refine xv_k fL_law_1257 ?_
  refine xv_iadd fL_law_1258 ?_
  rw [nI_add]
  refine xv_sldN fL_law_1259 (sx_99 _ _) (⟨by omega, by omega⟩) ?_
  refine xv_al3 fL_law_1260 ?_
  refine xv_callS3R (hL) fL_law_1261 YL_isReady VL_isReady lL_180 rfl (Nat.le_of_ble_eq_true rfl) (by decide) (by omega) (by omega) ?_
  refine xv_is5 fL_law_1264 ?_
  refine xv_al2 fL_law_1266 ?_
  refine xv_al0 fL_law_1267 ?_
  refine xv_il4 fL_law_1268 ?_
  refine xv_k fL_law_1270 ?_
  refine xv_iadd fL_law_1271 ?_
  rw [nI_add]
  refine xv_sldN fL_law_1272 (sx_99 _ _) (⟨by omega, by omega⟩) ?_
  rw [h99]
  refine xv_callV1R (hX) fL_law_1273 YX11_isReady VX11_isReady lL_182 rfl rfl (sx_60 _ _) (Nat.le_of_ble_eq_true rfl) (by omega) (by omega) (by omega) ?_
  refine xv_is6 fL_law_1276 ?_
  refine xv_al2 fL_law_1278 ?_
  refine xv_callV0R (m_thrown n c' _ J1) fL_law_1279 YX11_thrown VX11_thrown lL_127 rfl rfl (sx_60 _ _) (Nat.le_of_ble_eq_true rfl) (by decide) (by omega) (by omega) ?_
  rw [h48]
  refine xv_il5 fL_law_1282 ?_
  refine xv_ic_eq fL_law_1284 (fun h_1284 => ?_) (fun h_1284 => ?_)
  · refine xv_il5 fL_law_1289 ?_
    refine xv_if_ne fL_law_1291 (fun h_1291 => ?_) (fun h_1291 => ?_)
    · refine xv_goto fL_law_1313 ?_
      simp only [Nat.sub_zero]
      exact @hk _ _
    · refine xv_al3 fL_law_1294 ?_
      refine xv_k fL_law_1295 ?_
      refine xv_laldN fL_law_1296 (sx_98 _ _) (⟨by decide, by decide⟩) ?_
      refine xv_il6 fL_law_1297 ?_
      refine xv_if_eq fL_law_1299 (fun h_1299 => ?_) (fun h_1299 => ?_)
      · refine xv_lconst fL_law_1306 ?_
        refine xv_lcmp fL_law_1307 ?_
        refine xv_if_eq fL_law_1308 (fun h_1308 => ?_) (fun h_1308 => ?_)
        · refine xv_goto fL_law_1313 ?_
          simp only [Nat.sub_zero]
          exact @hk _ _
        · exact absurd (by rw [hout h_1291, if_pos h_1299]; rfl) h_1308
      · refine xv_lconst fL_law_1302 ?_
        refine xv_goto fL_law_1303 ?_
        refine xv_lcmp fL_law_1307 ?_
        refine xv_if_eq fL_law_1308 (fun h_1308 => ?_) (fun h_1308 => ?_)
        · refine xv_goto fL_law_1313 ?_
          simp only [Nat.sub_zero]
          exact @hk _ _
        · exact absurd (by rw [hout h_1291, if_neg h_1299]; rfl) h_1308
  · exact absurd rfl h_1284

theorem arm_17 {n i dX MC MS kc ks : Nat} {c c' : Nat × Nat} {I I1 I2 : xv_I} {J J1 : xv_J} {Q : xv_Q} {code out : Int32} {l5 l6 : Option Value} (hi : i + 7 ≤ n) (hn : n ≤ 3584) (hdX : dX ≤ 9) (h99 : ∀ j, I1 99 j = I 99 j) (hL : xv_Met mL_close 9 16 128 (sx n c) I (rx c) J [.ref 0, .ref 98] (xv_eq (.inl (some (.int code))) (sx n c') I1 (rx c') J1)) (hX : xv_Met mX11_close dX 0 0 (sx n c') I1 (rx c') J1 [.ref 60] (xv_eq (.inl (some (.int out))) (sx n c') I2 (rx c') J1)) (h48 : I2 60 48 = code) (hout : code = 0 → J1 98 0 = out.toInt64) (hkc : 16 ≤ kc) (hks : 128 ≤ ks) (hk : (∀ l5 l6, xv_W mL_law 30 MC MS Q (kc - 16) (ks - 128) (sx n c') I2 (rx c') J1 2246 (some (.ref 99) :: some (.ref 0) :: some (.ref 60) :: some (.ref 98) :: some (.int (nI i)) :: l5 :: l6 :: []) [])) : xv_W mL_law 30 MC MS Q kc ks (sx n c) I (rx c) J 1316 (some (.ref 99) :: some (.ref 0) :: some (.ref 60) :: some (.ref 98) :: some (.int (nI i)) :: l5 :: l6 :: []) [] := by
  refine xv_al1 fL_law_1316 ?_
  refine xv_al3 fL_law_1317 ?_
  refine xv_callS2R (hL) fL_law_1318 YL_close VL_close lL_183 rfl (Nat.le_of_ble_eq_true rfl) (by decide) (by omega) (by omega) ?_
  refine xv_is5 fL_law_1321 ?_
  refine xv_al2 fL_law_1323 ?_
  refine xv_callV0R (hX) fL_law_1324 YX11_close VX11_close lL_186 rfl rfl (sx_60 _ _) (Nat.le_of_ble_eq_true rfl) (by omega) (by omega) (by omega) ?_
  refine xv_is6 fL_law_1327 ?_
  refine xv_al2 fL_law_1329 ?_
  refine xv_callV0R (m_thrown n c' _ J1) fL_law_1330 YX11_thrown VX11_thrown lL_127 rfl rfl (sx_60 _ _) (Nat.le_of_ble_eq_true rfl) (by decide) (by omega) (by omega) ?_
  rw [h48]
  refine xv_il5 fL_law_1333 ?_
  refine xv_ic_eq fL_law_1335 (fun h_1335 => ?_) (fun h_1335 => ?_)
  · refine xv_il5 fL_law_1340 ?_
    refine xv_if_ne fL_law_1342 (fun h_1342 => ?_) (fun h_1342 => ?_)
    · refine xv_goto fL_law_1357 ?_
      simp only [Nat.sub_zero]
      exact @hk _ _
    · refine xv_al3 fL_law_1345 ?_
      refine xv_k fL_law_1346 ?_
      refine xv_laldN fL_law_1347 (sx_98 _ _) (⟨by decide, by decide⟩) ?_
      refine xv_il6 fL_law_1348 ?_
      refine xv_i2l fL_law_1350 ?_
      refine xv_lcmp fL_law_1351 ?_
      refine xv_if_eq fL_law_1352 (fun h_1352 => ?_) (fun h_1352 => ?_)
      · refine xv_goto fL_law_1357 ?_
        simp only [Nat.sub_zero]
        exact @hk _ _
      · exact absurd (by rw [hout h_1342]; exact lg_self _) h_1352
  · exact absurd rfl h_1335

theorem arm_18 {n i dX MC MS kc ks : Nat} {c c' : Nat × Nat} {I I1 I2 : xv_I} {J J1 : xv_J} {Q : xv_Q} {code out : Int32} {l5 l6 : Option Value} (hi : i + 7 ≤ n) (hn : n ≤ 3584) (hdX : dX ≤ 9) (h99 : ∀ j, I1 99 j = I 99 j) (hL : xv_Met mL_printed 9 16 128 (sx n c) I (rx c) J [.ref 0, .int (I 99 (i + 1)), .int (I 99 (i + 2)), .int (I 99 (i + 3)), .ref 98] (xv_eq (.inl (some (.int code))) (sx n c') I1 (rx c') J1)) (hX : xv_Met mX11_printed dX 0 0 (sx n c') I1 (rx c') J1 [.ref 60, .int (I 99 (i + 1)), .int (I 99 (i + 2)), .int (I 99 (i + 3))] (xv_eq (.inl (some (.int out))) (sx n c') I2 (rx c') J1)) (h48 : I2 60 48 = code) (hout : code = 0 → J1 98 0 = out.toInt64) (hkc : 16 ≤ kc) (hks : 128 ≤ ks) (hk : (∀ l5 l6, xv_W mL_law 30 MC MS Q (kc - 16) (ks - 128) (sx n c') I2 (rx c') J1 2246 (some (.ref 99) :: some (.ref 0) :: some (.ref 60) :: some (.ref 98) :: some (.int (nI i)) :: l5 :: l6 :: []) [])) : xv_W mL_law 30 MC MS Q kc ks (sx n c) I (rx c) J 1360 (some (.ref 99) :: some (.ref 0) :: some (.ref 60) :: some (.ref 98) :: some (.int (nI i)) :: l5 :: l6 :: []) [] := by
  refine xv_al1 fL_law_1360 ?_
  refine xv_al0 fL_law_1361 ?_
  refine xv_il4 fL_law_1362 ?_
  refine xv_k fL_law_1364 ?_
  refine xv_iadd fL_law_1365 ?_
  rw [nI_add]
  refine xv_sldN fL_law_1366 (sx_99 _ _) (⟨by omega, by omega⟩) ?_
  refine xv_al0 fL_law_1367 ?_
  refine xv_il4 fL_law_1368 ?_
  refine xv_k fL_law_1370 ?_
  refine xv_iadd fL_law_1371 ?_
  rw [nI_add]
  refine xv_sldN fL_law_1372 (sx_99 _ _) (⟨by omega, by omega⟩) ?_
  refine xv_al0 fL_law_1373 ?_
  refine xv_il4 fL_law_1374 ?_
  refine xv_k fL_law_1376 ?_
  refine xv_iadd fL_law_1377 ?_
  rw [nI_add]
  refine xv_sldN fL_law_1378 (sx_99 _ _) (⟨by omega, by omega⟩) ?_
  refine xv_al3 fL_law_1379 ?_
  refine xv_callS5R (hL) fL_law_1380 YL_printed VL_printed lL_187 rfl (Nat.le_of_ble_eq_true rfl) (by decide) (by omega) (by omega) ?_
  refine xv_is5 fL_law_1383 ?_
  refine xv_al2 fL_law_1385 ?_
  refine xv_al0 fL_law_1386 ?_
  refine xv_il4 fL_law_1387 ?_
  refine xv_k fL_law_1389 ?_
  refine xv_iadd fL_law_1390 ?_
  rw [nI_add]
  refine xv_sldN fL_law_1391 (sx_99 _ _) (⟨by omega, by omega⟩) ?_
  rw [h99]
  refine xv_al0 fL_law_1392 ?_
  refine xv_il4 fL_law_1393 ?_
  refine xv_k fL_law_1395 ?_
  refine xv_iadd fL_law_1396 ?_
  rw [nI_add]
  refine xv_sldN fL_law_1397 (sx_99 _ _) (⟨by omega, by omega⟩) ?_
  rw [h99]
  refine xv_al0 fL_law_1398 ?_
  refine xv_il4 fL_law_1399 ?_
  refine xv_k fL_law_1401 ?_
  refine xv_iadd fL_law_1402 ?_
  rw [nI_add]
  refine xv_sldN fL_law_1403 (sx_99 _ _) (⟨by omega, by omega⟩) ?_
  rw [h99]
  refine xv_callV3R (hX) fL_law_1404 YX11_printed VX11_printed lL_189 rfl rfl (sx_60 _ _) (Nat.le_of_ble_eq_true rfl) (by omega) (by omega) (by omega) ?_
  refine xv_is6 fL_law_1407 ?_
  refine xv_al2 fL_law_1409 ?_
  refine xv_callV0R (m_thrown n c' _ J1) fL_law_1410 YX11_thrown VX11_thrown lL_127 rfl rfl (sx_60 _ _) (Nat.le_of_ble_eq_true rfl) (by decide) (by omega) (by omega) ?_
  rw [h48]
  refine xv_il5 fL_law_1413 ?_
  refine xv_ic_eq fL_law_1415 (fun h_1415 => ?_) (fun h_1415 => ?_)
  · refine xv_il5 fL_law_1420 ?_
    refine xv_if_ne fL_law_1422 (fun h_1422 => ?_) (fun h_1422 => ?_)
    · refine xv_goto fL_law_1437 ?_
      simp only [Nat.sub_zero]
      exact @hk _ _
    · refine xv_al3 fL_law_1425 ?_
      refine xv_k fL_law_1426 ?_
      refine xv_laldN fL_law_1427 (sx_98 _ _) (⟨by decide, by decide⟩) ?_
      refine xv_il6 fL_law_1428 ?_
      refine xv_i2l fL_law_1430 ?_
      refine xv_lcmp fL_law_1431 ?_
      refine xv_if_eq fL_law_1432 (fun h_1432 => ?_) (fun h_1432 => ?_)
      · refine xv_goto fL_law_1437 ?_
        simp only [Nat.sub_zero]
        exact @hk _ _
      · exact absurd (by rw [hout h_1422]; exact lg_self _) h_1432
  · exact absurd rfl h_1415

theorem arm_19 {n i dX MC MS kc ks : Nat} {c c' : Nat × Nat} {I I1 I2 : xv_I} {J J1 : xv_J} {Q : xv_Q} {code out : Int32} {l5 l6 : Option Value} (hi : i + 7 ≤ n) (hn : n ≤ 3584) (hdX : dX ≤ 9) (h99 : ∀ j, I1 99 j = I 99 j) (hL : xv_Met mL_correct 9 16 128 (sx n c) I (rx c) J [.ref 0, .int (I 99 (i + 1)), .int (I 99 (i + 2)), .ref 98] (xv_eq (.inl (some (.int code))) (sx n c') I1 (rx c') J1)) (hX : xv_Met mX11_correct dX 0 0 (sx n c') I1 (rx c') J1 [.ref 60, .int (I 99 (i + 1)), .int (I 99 (i + 2))] (xv_eq (.inl (some (.int out))) (sx n c') I2 (rx c') J1)) (h48 : I2 60 48 = code) (hout : code = 0 → J1 98 0 = out.toInt64) (hkc : 16 ≤ kc) (hks : 128 ≤ ks) (hk : (∀ l5 l6, xv_W mL_law 30 MC MS Q (kc - 16) (ks - 128) (sx n c') I2 (rx c') J1 2246 (some (.ref 99) :: some (.ref 0) :: some (.ref 60) :: some (.ref 98) :: some (.int (nI i)) :: l5 :: l6 :: []) [])) : xv_W mL_law 30 MC MS Q kc ks (sx n c) I (rx c) J 1440 (some (.ref 99) :: some (.ref 0) :: some (.ref 60) :: some (.ref 98) :: some (.int (nI i)) :: l5 :: l6 :: []) [] := by
  refine xv_al1 fL_law_1440 ?_
  refine xv_al0 fL_law_1441 ?_
  refine xv_il4 fL_law_1442 ?_
  refine xv_k fL_law_1444 ?_
  refine xv_iadd fL_law_1445 ?_
  rw [nI_add]
  refine xv_sldN fL_law_1446 (sx_99 _ _) (⟨by omega, by omega⟩) ?_
  refine xv_al0 fL_law_1447 ?_
  refine xv_il4 fL_law_1448 ?_
  refine xv_k fL_law_1450 ?_
  refine xv_iadd fL_law_1451 ?_
  rw [nI_add]
  refine xv_sldN fL_law_1452 (sx_99 _ _) (⟨by omega, by omega⟩) ?_
  refine xv_al3 fL_law_1453 ?_
  refine xv_callS4R (hL) fL_law_1454 YL_correct VL_correct lL_190 rfl (Nat.le_of_ble_eq_true rfl) (by decide) (by omega) (by omega) ?_
  refine xv_is5 fL_law_1457 ?_
  refine xv_al2 fL_law_1459 ?_
  refine xv_al0 fL_law_1460 ?_
  refine xv_il4 fL_law_1461 ?_
  refine xv_k fL_law_1463 ?_
  refine xv_iadd fL_law_1464 ?_
  rw [nI_add]
  refine xv_sldN fL_law_1465 (sx_99 _ _) (⟨by omega, by omega⟩) ?_
  rw [h99]
  refine xv_al0 fL_law_1466 ?_
  refine xv_il4 fL_law_1467 ?_
  refine xv_k fL_law_1469 ?_
  refine xv_iadd fL_law_1470 ?_
  rw [nI_add]
  refine xv_sldN fL_law_1471 (sx_99 _ _) (⟨by omega, by omega⟩) ?_
  rw [h99]
  refine xv_callV2R (hX) fL_law_1472 YX11_correct VX11_correct lL_192 rfl rfl (sx_60 _ _) (Nat.le_of_ble_eq_true rfl) (by omega) (by omega) (by omega) ?_
  refine xv_is6 fL_law_1475 ?_
  refine xv_al2 fL_law_1477 ?_
  refine xv_callV0R (m_thrown n c' _ J1) fL_law_1478 YX11_thrown VX11_thrown lL_127 rfl rfl (sx_60 _ _) (Nat.le_of_ble_eq_true rfl) (by decide) (by omega) (by omega) ?_
  rw [h48]
  refine xv_il5 fL_law_1481 ?_
  refine xv_ic_eq fL_law_1483 (fun h_1483 => ?_) (fun h_1483 => ?_)
  · refine xv_il5 fL_law_1488 ?_
    refine xv_if_ne fL_law_1490 (fun h_1490 => ?_) (fun h_1490 => ?_)
    · refine xv_goto fL_law_1505 ?_
      simp only [Nat.sub_zero]
      exact @hk _ _
    · refine xv_al3 fL_law_1493 ?_
      refine xv_k fL_law_1494 ?_
      refine xv_laldN fL_law_1495 (sx_98 _ _) (⟨by decide, by decide⟩) ?_
      refine xv_il6 fL_law_1496 ?_
      refine xv_i2l fL_law_1498 ?_
      refine xv_lcmp fL_law_1499 ?_
      refine xv_if_eq fL_law_1500 (fun h_1500 => ?_) (fun h_1500 => ?_)
      · refine xv_goto fL_law_1505 ?_
        simp only [Nat.sub_zero]
        exact @hk _ _
      · exact absurd (by rw [hout h_1490]; exact lg_self _) h_1500
  · exact absurd rfl h_1483

theorem arm_20 {n i dX MC MS kc ks : Nat} {c c' : Nat × Nat} {I I1 I2 : xv_I} {J J1 : xv_J} {Q : xv_Q} {code out : Int32} {l5 l6 : Option Value} (hi : i + 7 ≤ n) (hn : n ≤ 3584) (hdX : dX ≤ 9) (h99 : ∀ j, I1 99 j = I 99 j) (hL : xv_Met mL_placeCorrection 9 16 128 (sx n c) I (rx c) J [.ref 0, .ref 98] (xv_eq (.inl (some (.int code))) (sx n c') I1 (rx c') J1)) (hX : xv_Met mX11_placeCorrection dX 0 0 (sx n c') I1 (rx c') J1 [.ref 60] (xv_eq (.inl (some (.int out))) (sx n c') I2 (rx c') J1)) (h48 : I2 60 48 = code) (hout : code = 0 → J1 98 0 = out.toInt64) (hkc : 16 ≤ kc) (hks : 128 ≤ ks) (hk : (∀ l5 l6, xv_W mL_law 30 MC MS Q (kc - 16) (ks - 128) (sx n c') I2 (rx c') J1 2246 (some (.ref 99) :: some (.ref 0) :: some (.ref 60) :: some (.ref 98) :: some (.int (nI i)) :: l5 :: l6 :: []) [])) : xv_W mL_law 30 MC MS Q kc ks (sx n c) I (rx c) J 1508 (some (.ref 99) :: some (.ref 0) :: some (.ref 60) :: some (.ref 98) :: some (.int (nI i)) :: l5 :: l6 :: []) [] := by
  refine xv_al1 fL_law_1508 ?_
  refine xv_al3 fL_law_1509 ?_
  refine xv_callS2R (hL) fL_law_1510 YL_placeCorrection VL_placeCorrection lL_193 rfl (Nat.le_of_ble_eq_true rfl) (by decide) (by omega) (by omega) ?_
  refine xv_is5 fL_law_1513 ?_
  refine xv_al2 fL_law_1515 ?_
  refine xv_callV0R (hX) fL_law_1516 YX11_placeCorrection VX11_placeCorrection lL_195 rfl rfl (sx_60 _ _) (Nat.le_of_ble_eq_true rfl) (by omega) (by omega) (by omega) ?_
  refine xv_is6 fL_law_1519 ?_
  refine xv_al2 fL_law_1521 ?_
  refine xv_callV0R (m_thrown n c' _ J1) fL_law_1522 YX11_thrown VX11_thrown lL_127 rfl rfl (sx_60 _ _) (Nat.le_of_ble_eq_true rfl) (by decide) (by omega) (by omega) ?_
  rw [h48]
  refine xv_il5 fL_law_1525 ?_
  refine xv_ic_eq fL_law_1527 (fun h_1527 => ?_) (fun h_1527 => ?_)
  · refine xv_il5 fL_law_1532 ?_
    refine xv_if_ne fL_law_1534 (fun h_1534 => ?_) (fun h_1534 => ?_)
    · refine xv_goto fL_law_1549 ?_
      simp only [Nat.sub_zero]
      exact @hk _ _
    · refine xv_al3 fL_law_1537 ?_
      refine xv_k fL_law_1538 ?_
      refine xv_laldN fL_law_1539 (sx_98 _ _) (⟨by decide, by decide⟩) ?_
      refine xv_il6 fL_law_1540 ?_
      refine xv_i2l fL_law_1542 ?_
      refine xv_lcmp fL_law_1543 ?_
      refine xv_if_eq fL_law_1544 (fun h_1544 => ?_) (fun h_1544 => ?_)
      · refine xv_goto fL_law_1549 ?_
        simp only [Nat.sub_zero]
        exact @hk _ _
      · exact absurd (by rw [hout h_1534]; exact lg_self _) h_1544
  · exact absurd rfl h_1527

theorem arm_21 {n i dX MC MS kc ks : Nat} {c c' : Nat × Nat} {I I1 I2 : xv_I} {J J1 : xv_J} {Q : xv_Q} {code out : Int32} {l5 l6 : Option Value} (hi : i + 7 ≤ n) (hn : n ≤ 3584) (hdX : dX ≤ 9) (h99 : ∀ j, I1 99 j = I 99 j) (hL : xv_Met mL_clean 9 16 128 (sx n c) I (rx c) J [.ref 0, .int (I 99 (i + 1)), .ref 98] (xv_eq (.inl (some (.int code))) (sx n c') I1 (rx c') J1)) (hX : xv_Met mX11_clean dX 0 0 (sx n c') I1 (rx c') J1 [.ref 60, .int (I 99 (i + 1))] (xv_eq (.inl (some (.int out))) (sx n c') I2 (rx c') J1)) (h48 : I2 60 48 = code) (hout : code = 0 → J1 98 0 = out.toInt64) (hkc : 16 ≤ kc) (hks : 128 ≤ ks) (hk : (∀ l5 l6, xv_W mL_law 30 MC MS Q (kc - 16) (ks - 128) (sx n c') I2 (rx c') J1 2246 (some (.ref 99) :: some (.ref 0) :: some (.ref 60) :: some (.ref 98) :: some (.int (nI i)) :: l5 :: l6 :: []) [])) : xv_W mL_law 30 MC MS Q kc ks (sx n c) I (rx c) J 1552 (some (.ref 99) :: some (.ref 0) :: some (.ref 60) :: some (.ref 98) :: some (.int (nI i)) :: l5 :: l6 :: []) [] := by
  refine xv_al1 fL_law_1552 ?_
  refine xv_al0 fL_law_1553 ?_
  refine xv_il4 fL_law_1554 ?_
  refine xv_k fL_law_1556 ?_
  refine xv_iadd fL_law_1557 ?_
  rw [nI_add]
  refine xv_sldN fL_law_1558 (sx_99 _ _) (⟨by omega, by omega⟩) ?_
  refine xv_al3 fL_law_1559 ?_
  refine xv_callS3R (hL) fL_law_1560 YL_clean VL_clean lL_196 rfl (Nat.le_of_ble_eq_true rfl) (by decide) (by omega) (by omega) ?_
  refine xv_is5 fL_law_1563 ?_
  refine xv_al2 fL_law_1565 ?_
  refine xv_al0 fL_law_1566 ?_
  refine xv_il4 fL_law_1567 ?_
  refine xv_k fL_law_1569 ?_
  refine xv_iadd fL_law_1570 ?_
  rw [nI_add]
  refine xv_sldN fL_law_1571 (sx_99 _ _) (⟨by omega, by omega⟩) ?_
  rw [h99]
  refine xv_callV1R (hX) fL_law_1572 YX11_clean VX11_clean lL_198 rfl rfl (sx_60 _ _) (Nat.le_of_ble_eq_true rfl) (by omega) (by omega) (by omega) ?_
  refine xv_is6 fL_law_1575 ?_
  refine xv_al2 fL_law_1577 ?_
  refine xv_callV0R (m_thrown n c' _ J1) fL_law_1578 YX11_thrown VX11_thrown lL_127 rfl rfl (sx_60 _ _) (Nat.le_of_ble_eq_true rfl) (by decide) (by omega) (by omega) ?_
  rw [h48]
  refine xv_il5 fL_law_1581 ?_
  refine xv_ic_eq fL_law_1583 (fun h_1583 => ?_) (fun h_1583 => ?_)
  · refine xv_il5 fL_law_1588 ?_
    refine xv_if_ne fL_law_1590 (fun h_1590 => ?_) (fun h_1590 => ?_)
    · refine xv_goto fL_law_1605 ?_
      simp only [Nat.sub_zero]
      exact @hk _ _
    · refine xv_al3 fL_law_1593 ?_
      refine xv_k fL_law_1594 ?_
      refine xv_laldN fL_law_1595 (sx_98 _ _) (⟨by decide, by decide⟩) ?_
      refine xv_il6 fL_law_1596 ?_
      refine xv_i2l fL_law_1598 ?_
      refine xv_lcmp fL_law_1599 ?_
      refine xv_if_eq fL_law_1600 (fun h_1600 => ?_) (fun h_1600 => ?_)
      · refine xv_goto fL_law_1605 ?_
        simp only [Nat.sub_zero]
        exact @hk _ _
      · exact absurd (by rw [hout h_1590]; exact lg_self _) h_1600
  · exact absurd rfl h_1583

theorem arm_22 {n i dX MC MS kc ks : Nat} {c c' : Nat × Nat} {I I1 I2 : xv_I} {J J1 : xv_J} {Q : xv_Q} {code out : Int32} {l5 l6 : Option Value} (hi : i + 7 ≤ n) (hn : n ≤ 3584) (hdX : dX ≤ 9) (h99 : ∀ j, I1 99 j = I 99 j) (hL : xv_Met mL_pass 9 16 128 (sx n c) I (rx c) J [.ref 0, .int (I 99 (i + 1)), .ref 98] (xv_eq (.inl (some (.int code))) (sx n c') I1 (rx c') J1)) (hX : xv_Met mX11_pass dX 0 0 (sx n c') I1 (rx c') J1 [.ref 60, .int (I 99 (i + 1))] (xv_eq (.inl (some (.int out))) (sx n c') I2 (rx c') J1)) (h48 : I2 60 48 = code) (hout : code = 0 → J1 98 0 = out.toInt64) (hkc : 16 ≤ kc) (hks : 128 ≤ ks) (hk : (∀ l5 l6, xv_W mL_law 30 MC MS Q (kc - 16) (ks - 128) (sx n c') I2 (rx c') J1 2246 (some (.ref 99) :: some (.ref 0) :: some (.ref 60) :: some (.ref 98) :: some (.int (nI i)) :: l5 :: l6 :: []) [])) : xv_W mL_law 30 MC MS Q kc ks (sx n c) I (rx c) J 1608 (some (.ref 99) :: some (.ref 0) :: some (.ref 60) :: some (.ref 98) :: some (.int (nI i)) :: l5 :: l6 :: []) [] := by
  refine xv_al1 fL_law_1608 ?_
  refine xv_al0 fL_law_1609 ?_
  refine xv_il4 fL_law_1610 ?_
  refine xv_k fL_law_1612 ?_
  refine xv_iadd fL_law_1613 ?_
  rw [nI_add]
  refine xv_sldN fL_law_1614 (sx_99 _ _) (⟨by omega, by omega⟩) ?_
  refine xv_al3 fL_law_1615 ?_
  refine xv_callS3R (hL) fL_law_1616 YL_pass VL_pass lL_199 rfl (Nat.le_of_ble_eq_true rfl) (by decide) (by omega) (by omega) ?_
  refine xv_is5 fL_law_1619 ?_
  refine xv_al2 fL_law_1621 ?_
  refine xv_al0 fL_law_1622 ?_
  refine xv_il4 fL_law_1623 ?_
  refine xv_k fL_law_1625 ?_
  refine xv_iadd fL_law_1626 ?_
  rw [nI_add]
  refine xv_sldN fL_law_1627 (sx_99 _ _) (⟨by omega, by omega⟩) ?_
  rw [h99]
  refine xv_callV1R (hX) fL_law_1628 YX11_pass VX11_pass lL_201 rfl rfl (sx_60 _ _) (Nat.le_of_ble_eq_true rfl) (by omega) (by omega) (by omega) ?_
  refine xv_is6 fL_law_1631 ?_
  refine xv_al2 fL_law_1633 ?_
  refine xv_callV0R (m_thrown n c' _ J1) fL_law_1634 YX11_thrown VX11_thrown lL_127 rfl rfl (sx_60 _ _) (Nat.le_of_ble_eq_true rfl) (by decide) (by omega) (by omega) ?_
  rw [h48]
  refine xv_il5 fL_law_1637 ?_
  refine xv_ic_eq fL_law_1639 (fun h_1639 => ?_) (fun h_1639 => ?_)
  · refine xv_il5 fL_law_1644 ?_
    refine xv_if_ne fL_law_1646 (fun h_1646 => ?_) (fun h_1646 => ?_)
    · refine xv_goto fL_law_1661 ?_
      simp only [Nat.sub_zero]
      exact @hk _ _
    · refine xv_al3 fL_law_1649 ?_
      refine xv_k fL_law_1650 ?_
      refine xv_laldN fL_law_1651 (sx_98 _ _) (⟨by decide, by decide⟩) ?_
      refine xv_il6 fL_law_1652 ?_
      refine xv_i2l fL_law_1654 ?_
      refine xv_lcmp fL_law_1655 ?_
      refine xv_if_eq fL_law_1656 (fun h_1656 => ?_) (fun h_1656 => ?_)
      · refine xv_goto fL_law_1661 ?_
        simp only [Nat.sub_zero]
        exact @hk _ _
      · exact absurd (by rw [hout h_1646]; exact lg_self _) h_1656
  · exact absurd rfl h_1639

theorem arm_23 {n i dX MC MS kc ks : Nat} {c c' : Nat × Nat} {I I1 I2 : xv_I} {J J1 : xv_J} {Q : xv_Q} {code out : Int32} {l5 l6 : Option Value} (hi : i + 7 ≤ n) (hn : n ≤ 3584) (hdX : dX ≤ 9) (h99 : ∀ j, I1 99 j = I 99 j) (hL : xv_Met mL_truck 9 16 128 (sx n c) I (rx c) J [.ref 0, .int (I 99 (i + 1)), .int (I 99 (i + 2)), .ref 98] (xv_eq (.inl (some (.int code))) (sx n c') I1 (rx c') J1)) (hX : xv_Met mX11_truck dX 0 0 (sx n c') I1 (rx c') J1 [.ref 60, .int (I 99 (i + 1)), .int (I 99 (i + 2))] (xv_eq (.inl (some (.int out))) (sx n c') I2 (rx c') J1)) (h48 : I2 60 48 = code) (hout : code = 0 → J1 98 0 = out.toInt64) (hkc : 16 ≤ kc) (hks : 128 ≤ ks) (hk : (∀ l5 l6, xv_W mL_law 30 MC MS Q (kc - 16) (ks - 128) (sx n c') I2 (rx c') J1 2246 (some (.ref 99) :: some (.ref 0) :: some (.ref 60) :: some (.ref 98) :: some (.int (nI i)) :: l5 :: l6 :: []) [])) : xv_W mL_law 30 MC MS Q kc ks (sx n c) I (rx c) J 1664 (some (.ref 99) :: some (.ref 0) :: some (.ref 60) :: some (.ref 98) :: some (.int (nI i)) :: l5 :: l6 :: []) [] := by
  refine xv_al1 fL_law_1664 ?_
  refine xv_al0 fL_law_1665 ?_
  refine xv_il4 fL_law_1666 ?_
  refine xv_k fL_law_1668 ?_
  refine xv_iadd fL_law_1669 ?_
  rw [nI_add]
  refine xv_sldN fL_law_1670 (sx_99 _ _) (⟨by omega, by omega⟩) ?_
  refine xv_al0 fL_law_1671 ?_
  refine xv_il4 fL_law_1672 ?_
  refine xv_k fL_law_1674 ?_
  refine xv_iadd fL_law_1675 ?_
  rw [nI_add]
  refine xv_sldN fL_law_1676 (sx_99 _ _) (⟨by omega, by omega⟩) ?_
  refine xv_al3 fL_law_1677 ?_
  refine xv_callS4R (hL) fL_law_1678 YL_truck VL_truck lL_202 rfl (Nat.le_of_ble_eq_true rfl) (by decide) (by omega) (by omega) ?_
  refine xv_is5 fL_law_1681 ?_
  refine xv_al2 fL_law_1683 ?_
  refine xv_al0 fL_law_1684 ?_
  refine xv_il4 fL_law_1685 ?_
  refine xv_k fL_law_1687 ?_
  refine xv_iadd fL_law_1688 ?_
  rw [nI_add]
  refine xv_sldN fL_law_1689 (sx_99 _ _) (⟨by omega, by omega⟩) ?_
  rw [h99]
  refine xv_al0 fL_law_1690 ?_
  refine xv_il4 fL_law_1691 ?_
  refine xv_k fL_law_1693 ?_
  refine xv_iadd fL_law_1694 ?_
  rw [nI_add]
  refine xv_sldN fL_law_1695 (sx_99 _ _) (⟨by omega, by omega⟩) ?_
  rw [h99]
  refine xv_callV2R (hX) fL_law_1696 YX11_truck VX11_truck lL_204 rfl rfl (sx_60 _ _) (Nat.le_of_ble_eq_true rfl) (by omega) (by omega) (by omega) ?_
  refine xv_is6 fL_law_1699 ?_
  refine xv_al2 fL_law_1701 ?_
  refine xv_callV0R (m_thrown n c' _ J1) fL_law_1702 YX11_thrown VX11_thrown lL_127 rfl rfl (sx_60 _ _) (Nat.le_of_ble_eq_true rfl) (by decide) (by omega) (by omega) ?_
  rw [h48]
  refine xv_il5 fL_law_1705 ?_
  refine xv_ic_eq fL_law_1707 (fun h_1707 => ?_) (fun h_1707 => ?_)
  · refine xv_il5 fL_law_1712 ?_
    refine xv_if_ne fL_law_1714 (fun h_1714 => ?_) (fun h_1714 => ?_)
    · refine xv_goto fL_law_1729 ?_
      simp only [Nat.sub_zero]
      exact @hk _ _
    · refine xv_al3 fL_law_1717 ?_
      refine xv_k fL_law_1718 ?_
      refine xv_laldN fL_law_1719 (sx_98 _ _) (⟨by decide, by decide⟩) ?_
      refine xv_il6 fL_law_1720 ?_
      refine xv_i2l fL_law_1722 ?_
      refine xv_lcmp fL_law_1723 ?_
      refine xv_if_eq fL_law_1724 (fun h_1724 => ?_) (fun h_1724 => ?_)
      · refine xv_goto fL_law_1729 ?_
        simp only [Nat.sub_zero]
        exact @hk _ _
      · exact absurd (by rw [hout h_1714]; exact lg_self _) h_1724
  · exact absurd rfl h_1707

theorem arm_24 {n i dX MC MS kc ks : Nat} {c c' : Nat × Nat} {I I1 I2 : xv_I} {J J1 : xv_J} {Q : xv_Q} {code out : Int32} {l5 l6 : Option Value} (hi : i + 7 ≤ n) (hn : n ≤ 3584) (hdX : dX ≤ 9) (h99 : ∀ j, I1 99 j = I 99 j) (hL : xv_Met mL_late 9 16 128 (sx n c) I (rx c) J [.ref 0, .int (I 99 (i + 1)), .int (I 99 (i + 2)), .ref 98] (xv_eq (.inl (some (.int code))) (sx n c') I1 (rx c') J1)) (hX : xv_Met mX11_late dX 0 0 (sx n c') I1 (rx c') J1 [.ref 60, .int (I 99 (i + 1)), .int (I 99 (i + 2))] (xv_eq (.inl (some (.int out))) (sx n c') I2 (rx c') J1)) (h48 : I2 60 48 = code) (hout : code = 0 → J1 98 0 = out.toInt64) (hkc : 16 ≤ kc) (hks : 128 ≤ ks) (hk : (∀ l5 l6, xv_W mL_law 30 MC MS Q (kc - 16) (ks - 128) (sx n c') I2 (rx c') J1 2246 (some (.ref 99) :: some (.ref 0) :: some (.ref 60) :: some (.ref 98) :: some (.int (nI i)) :: l5 :: l6 :: []) [])) : xv_W mL_law 30 MC MS Q kc ks (sx n c) I (rx c) J 1732 (some (.ref 99) :: some (.ref 0) :: some (.ref 60) :: some (.ref 98) :: some (.int (nI i)) :: l5 :: l6 :: []) [] := by
  refine xv_al1 fL_law_1732 ?_
  refine xv_al0 fL_law_1733 ?_
  refine xv_il4 fL_law_1734 ?_
  refine xv_k fL_law_1736 ?_
  refine xv_iadd fL_law_1737 ?_
  rw [nI_add]
  refine xv_sldN fL_law_1738 (sx_99 _ _) (⟨by omega, by omega⟩) ?_
  refine xv_al0 fL_law_1739 ?_
  refine xv_il4 fL_law_1740 ?_
  refine xv_k fL_law_1742 ?_
  refine xv_iadd fL_law_1743 ?_
  rw [nI_add]
  refine xv_sldN fL_law_1744 (sx_99 _ _) (⟨by omega, by omega⟩) ?_
  refine xv_al3 fL_law_1745 ?_
  refine xv_callS4R (hL) fL_law_1746 YL_late VL_late lL_205 rfl (Nat.le_of_ble_eq_true rfl) (by decide) (by omega) (by omega) ?_
  refine xv_is5 fL_law_1749 ?_
  refine xv_al2 fL_law_1751 ?_
  refine xv_al0 fL_law_1752 ?_
  refine xv_il4 fL_law_1753 ?_
  refine xv_k fL_law_1755 ?_
  refine xv_iadd fL_law_1756 ?_
  rw [nI_add]
  refine xv_sldN fL_law_1757 (sx_99 _ _) (⟨by omega, by omega⟩) ?_
  rw [h99]
  refine xv_al0 fL_law_1758 ?_
  refine xv_il4 fL_law_1759 ?_
  refine xv_k fL_law_1761 ?_
  refine xv_iadd fL_law_1762 ?_
  rw [nI_add]
  refine xv_sldN fL_law_1763 (sx_99 _ _) (⟨by omega, by omega⟩) ?_
  rw [h99]
  refine xv_callV2R (hX) fL_law_1764 YX11_late VX11_late lL_207 rfl rfl (sx_60 _ _) (Nat.le_of_ble_eq_true rfl) (by omega) (by omega) (by omega) ?_
  refine xv_is6 fL_law_1767 ?_
  refine xv_al2 fL_law_1769 ?_
  refine xv_callV0R (m_thrown n c' _ J1) fL_law_1770 YX11_thrown VX11_thrown lL_127 rfl rfl (sx_60 _ _) (Nat.le_of_ble_eq_true rfl) (by decide) (by omega) (by omega) ?_
  rw [h48]
  refine xv_il5 fL_law_1773 ?_
  refine xv_ic_eq fL_law_1775 (fun h_1775 => ?_) (fun h_1775 => ?_)
  · refine xv_il5 fL_law_1780 ?_
    refine xv_if_ne fL_law_1782 (fun h_1782 => ?_) (fun h_1782 => ?_)
    · refine xv_goto fL_law_1797 ?_
      simp only [Nat.sub_zero]
      exact @hk _ _
    · refine xv_al3 fL_law_1785 ?_
      refine xv_k fL_law_1786 ?_
      refine xv_laldN fL_law_1787 (sx_98 _ _) (⟨by decide, by decide⟩) ?_
      refine xv_il6 fL_law_1788 ?_
      refine xv_i2l fL_law_1790 ?_
      refine xv_lcmp fL_law_1791 ?_
      refine xv_if_eq fL_law_1792 (fun h_1792 => ?_) (fun h_1792 => ?_)
      · refine xv_goto fL_law_1797 ?_
        simp only [Nat.sub_zero]
        exact @hk _ _
      · exact absurd (by rw [hout h_1782]; exact lg_self _) h_1792
  · exact absurd rfl h_1775

theorem arm_25 {n i dX MC MS kc ks : Nat} {c c' : Nat × Nat} {I I1 I2 : xv_I} {J J1 : xv_J} {Q : xv_Q} {code out : Int32} {l5 l6 : Option Value} (hi : i + 7 ≤ n) (hn : n ≤ 3584) (hdX : dX ≤ 9) (h99 : ∀ j, I1 99 j = I 99 j) (hL : xv_Met mL_word 9 16 128 (sx n c) I (rx c) J [.ref 0, .int (I 99 (i + 1)), .int (I 99 (i + 2)), .ref 98] (xv_eq (.inl (some (.int code))) (sx n c') I1 (rx c') J1)) (hX : xv_Met mX11_word dX 0 0 (sx n c') I1 (rx c') J1 [.ref 60, .int (I 99 (i + 1)), .int (I 99 (i + 2))] (xv_eq (.inl (some (.int out))) (sx n c') I2 (rx c') J1)) (h48 : I2 60 48 = code) (hout : code = 0 → J1 98 0 = out.toInt64) (hkc : 16 ≤ kc) (hks : 128 ≤ ks) (hk : (∀ l5 l6, xv_W mL_law 30 MC MS Q (kc - 16) (ks - 128) (sx n c') I2 (rx c') J1 2246 (some (.ref 99) :: some (.ref 0) :: some (.ref 60) :: some (.ref 98) :: some (.int (nI i)) :: l5 :: l6 :: []) [])) : xv_W mL_law 30 MC MS Q kc ks (sx n c) I (rx c) J 1800 (some (.ref 99) :: some (.ref 0) :: some (.ref 60) :: some (.ref 98) :: some (.int (nI i)) :: l5 :: l6 :: []) [] := by
  refine xv_al1 fL_law_1800 ?_
  refine xv_al0 fL_law_1801 ?_
  refine xv_il4 fL_law_1802 ?_
  refine xv_k fL_law_1804 ?_
  refine xv_iadd fL_law_1805 ?_
  rw [nI_add]
  refine xv_sldN fL_law_1806 (sx_99 _ _) (⟨by omega, by omega⟩) ?_
  refine xv_al0 fL_law_1807 ?_
  refine xv_il4 fL_law_1808 ?_
  refine xv_k fL_law_1810 ?_
  refine xv_iadd fL_law_1811 ?_
  rw [nI_add]
  refine xv_sldN fL_law_1812 (sx_99 _ _) (⟨by omega, by omega⟩) ?_
  refine xv_al3 fL_law_1813 ?_
  refine xv_callS4R (hL) fL_law_1814 YL_word VL_word lL_208 rfl (Nat.le_of_ble_eq_true rfl) (by decide) (by omega) (by omega) ?_
  refine xv_is5 fL_law_1817 ?_
  refine xv_al2 fL_law_1819 ?_
  refine xv_al0 fL_law_1820 ?_
  refine xv_il4 fL_law_1821 ?_
  refine xv_k fL_law_1823 ?_
  refine xv_iadd fL_law_1824 ?_
  rw [nI_add]
  refine xv_sldN fL_law_1825 (sx_99 _ _) (⟨by omega, by omega⟩) ?_
  rw [h99]
  refine xv_al0 fL_law_1826 ?_
  refine xv_il4 fL_law_1827 ?_
  refine xv_k fL_law_1829 ?_
  refine xv_iadd fL_law_1830 ?_
  rw [nI_add]
  refine xv_sldN fL_law_1831 (sx_99 _ _) (⟨by omega, by omega⟩) ?_
  rw [h99]
  refine xv_callV2R (hX) fL_law_1832 YX11_word VX11_word lL_210 rfl rfl (sx_60 _ _) (Nat.le_of_ble_eq_true rfl) (by omega) (by omega) (by omega) ?_
  refine xv_is6 fL_law_1835 ?_
  refine xv_al2 fL_law_1837 ?_
  refine xv_callV0R (m_thrown n c' _ J1) fL_law_1838 YX11_thrown VX11_thrown lL_127 rfl rfl (sx_60 _ _) (Nat.le_of_ble_eq_true rfl) (by decide) (by omega) (by omega) ?_
  rw [h48]
  refine xv_il5 fL_law_1841 ?_
  refine xv_ic_eq fL_law_1843 (fun h_1843 => ?_) (fun h_1843 => ?_)
  · refine xv_il5 fL_law_1848 ?_
    refine xv_if_ne fL_law_1850 (fun h_1850 => ?_) (fun h_1850 => ?_)
    · refine xv_goto fL_law_1865 ?_
      simp only [Nat.sub_zero]
      exact @hk _ _
    · refine xv_al3 fL_law_1853 ?_
      refine xv_k fL_law_1854 ?_
      refine xv_laldN fL_law_1855 (sx_98 _ _) (⟨by decide, by decide⟩) ?_
      refine xv_il6 fL_law_1856 ?_
      refine xv_i2l fL_law_1858 ?_
      refine xv_lcmp fL_law_1859 ?_
      refine xv_if_eq fL_law_1860 (fun h_1860 => ?_) (fun h_1860 => ?_)
      · refine xv_goto fL_law_1865 ?_
        simp only [Nat.sub_zero]
        exact @hk _ _
      · exact absurd (by rw [hout h_1850]; exact lg_self _) h_1860
  · exact absurd rfl h_1843

theorem arm_26 {n i dX MC MS kc ks : Nat} {c c' : Nat × Nat} {I I1 I2 : xv_I} {J J1 : xv_J} {Q : xv_Q} {code out : Int32} {l5 l6 : Option Value} (hi : i + 7 ≤ n) (hn : n ≤ 3584) (hdX : dX ≤ 9) (h99 : ∀ j, I1 99 j = I 99 j) (hL : xv_Met mL_fit 9 16 128 (sx n c) I (rx c) J [.ref 0, .int (I 99 (i + 1)), .ref 98] (xv_eq (.inl (some (.int code))) (sx n c') I1 (rx c') J1)) (hX : xv_Met mX11_fit dX 0 0 (sx n c') I1 (rx c') J1 [.ref 60, .int (I 99 (i + 1))] (xv_eq (.inl (some (.int out))) (sx n c') I2 (rx c') J1)) (h48 : I2 60 48 = code) (hout : code = 0 → J1 98 0 = out.toInt64) (hkc : 16 ≤ kc) (hks : 128 ≤ ks) (hk : (∀ l5 l6, xv_W mL_law 30 MC MS Q (kc - 16) (ks - 128) (sx n c') I2 (rx c') J1 2246 (some (.ref 99) :: some (.ref 0) :: some (.ref 60) :: some (.ref 98) :: some (.int (nI i)) :: l5 :: l6 :: []) [])) : xv_W mL_law 30 MC MS Q kc ks (sx n c) I (rx c) J 1868 (some (.ref 99) :: some (.ref 0) :: some (.ref 60) :: some (.ref 98) :: some (.int (nI i)) :: l5 :: l6 :: []) [] := by
  refine xv_al1 fL_law_1868 ?_
  refine xv_al0 fL_law_1869 ?_
  refine xv_il4 fL_law_1870 ?_
  refine xv_k fL_law_1872 ?_
  refine xv_iadd fL_law_1873 ?_
  rw [nI_add]
  refine xv_sldN fL_law_1874 (sx_99 _ _) (⟨by omega, by omega⟩) ?_
  refine xv_al3 fL_law_1875 ?_
  refine xv_callS3R (hL) fL_law_1876 YL_fit VL_fit lL_211 rfl (Nat.le_of_ble_eq_true rfl) (by decide) (by omega) (by omega) ?_
  refine xv_is5 fL_law_1879 ?_
  refine xv_al2 fL_law_1881 ?_
  refine xv_al0 fL_law_1882 ?_
  refine xv_il4 fL_law_1883 ?_
  refine xv_k fL_law_1885 ?_
  refine xv_iadd fL_law_1886 ?_
  rw [nI_add]
  refine xv_sldN fL_law_1887 (sx_99 _ _) (⟨by omega, by omega⟩) ?_
  rw [h99]
  refine xv_callV1R (hX) fL_law_1888 YX11_fit VX11_fit lL_213 rfl rfl (sx_60 _ _) (Nat.le_of_ble_eq_true rfl) (by omega) (by omega) (by omega) ?_
  refine xv_is6 fL_law_1891 ?_
  refine xv_al2 fL_law_1893 ?_
  refine xv_callV0R (m_thrown n c' _ J1) fL_law_1894 YX11_thrown VX11_thrown lL_127 rfl rfl (sx_60 _ _) (Nat.le_of_ble_eq_true rfl) (by decide) (by omega) (by omega) ?_
  rw [h48]
  refine xv_il5 fL_law_1897 ?_
  refine xv_ic_eq fL_law_1899 (fun h_1899 => ?_) (fun h_1899 => ?_)
  · refine xv_il5 fL_law_1904 ?_
    refine xv_if_ne fL_law_1906 (fun h_1906 => ?_) (fun h_1906 => ?_)
    · refine xv_goto fL_law_1921 ?_
      simp only [Nat.sub_zero]
      exact @hk _ _
    · refine xv_al3 fL_law_1909 ?_
      refine xv_k fL_law_1910 ?_
      refine xv_laldN fL_law_1911 (sx_98 _ _) (⟨by decide, by decide⟩) ?_
      refine xv_il6 fL_law_1912 ?_
      refine xv_i2l fL_law_1914 ?_
      refine xv_lcmp fL_law_1915 ?_
      refine xv_if_eq fL_law_1916 (fun h_1916 => ?_) (fun h_1916 => ?_)
      · refine xv_goto fL_law_1921 ?_
        simp only [Nat.sub_zero]
        exact @hk _ _
      · exact absurd (by rw [hout h_1906]; exact lg_self _) h_1916
  · exact absurd rfl h_1899

theorem arm_27 {n i dX MC MS kc ks : Nat} {c c' : Nat × Nat} {I I1 I2 : xv_I} {J J1 : xv_J} {Q : xv_Q} {code out : Int32} {l5 l6 : Option Value} (hi : i + 7 ≤ n) (hn : n ≤ 3584) (hdX : dX ≤ 9) (h99 : ∀ j, I1 99 j = I 99 j) (hL : xv_Met mX10_dropWords 8 16 128 (sx n c) I (rx c) J [.ref 0] (xv_eq (.inl (some (.int code))) (sx n c') I1 (rx c') J1)) (hX : xv_Met mX11_dropWords dX 0 0 (sx n c') I1 (rx c') J1 [.ref 60] (xv_eq (.inl (some (.int out))) (sx n c') I2 (rx c') J1)) (hout : code = out) (hkc : 16 ≤ kc) (hks : 128 ≤ ks) (hk : (∀ l5 l6, xv_W mL_law 30 MC MS Q (kc - 16) (ks - 128) (sx n c') I2 (rx c') J1 2246 (some (.ref 99) :: some (.ref 0) :: some (.ref 60) :: some (.ref 98) :: some (.int (nI i)) :: l5 :: l6 :: []) [])) : xv_W mL_law 30 MC MS Q kc ks (sx n c) I (rx c) J 1924 (some (.ref 99) :: some (.ref 0) :: some (.ref 60) :: some (.ref 98) :: some (.int (nI i)) :: l5 :: l6 :: []) [] := by
  refine xv_al1 fL_law_1924 ?_
  refine xv_callV0R (hL) fL_law_1925 YX10_dropWords VX10_dropWords lL_214 rfl rfl (sx_0 _ _) (Nat.le_of_ble_eq_true rfl) (by decide) (by omega) (by omega) ?_
  refine xv_al2 fL_law_1928 ?_
  refine xv_callV0R (hX) fL_law_1929 YX11_dropWords VX11_dropWords lL_217 rfl rfl (sx_60 _ _) (Nat.le_of_ble_eq_true rfl) (by omega) (by omega) (by omega) ?_
  refine xv_ic_eq fL_law_1932 (fun h_1932 => ?_) (fun h_1932 => ?_)
  · simp only [Nat.sub_zero]
    exact @hk _ _
  · exact absurd hout h_1932

theorem arm_28 {n i dX MC MS kc ks : Nat} {c c' : Nat × Nat} {I I1 I2 : xv_I} {J J1 : xv_J} {Q : xv_Q} {code out : Int32} {l5 l6 : Option Value} (hi : i + 7 ≤ n) (hn : n ≤ 3584) (hdX : dX ≤ 9) (h99 : ∀ j, I1 99 j = I 99 j) (hL : xv_Met mL_weigh 9 16 128 (sx n c) I (rx c) J [.ref 0, .int (I 99 (i + 1)), .int (I 99 (i + 2)), .ref 98] (xv_eq (.inl (some (.int code))) (sx n c') I1 (rx c') J1)) (hX : xv_Met mX11_weigh dX 0 0 (sx n c') I1 (rx c') J1 [.ref 60, .int (I 99 (i + 1)), .int (I 99 (i + 2))] (xv_eq (.inl (some (.int out))) (sx n c') I2 (rx c') J1)) (h48 : I2 60 48 = code) (hout : code = 0 → J1 98 0 = out.toInt64) (hkc : 16 ≤ kc) (hks : 128 ≤ ks) (hk : (∀ l5 l6, xv_W mL_law 30 MC MS Q (kc - 16) (ks - 128) (sx n c') I2 (rx c') J1 2246 (some (.ref 99) :: some (.ref 0) :: some (.ref 60) :: some (.ref 98) :: some (.int (nI i)) :: l5 :: l6 :: []) [])) : xv_W mL_law 30 MC MS Q kc ks (sx n c) I (rx c) J 1937 (some (.ref 99) :: some (.ref 0) :: some (.ref 60) :: some (.ref 98) :: some (.int (nI i)) :: l5 :: l6 :: []) [] := by
  refine xv_al1 fL_law_1937 ?_
  refine xv_al0 fL_law_1938 ?_
  refine xv_il4 fL_law_1939 ?_
  refine xv_k fL_law_1941 ?_
  refine xv_iadd fL_law_1942 ?_
  rw [nI_add]
  refine xv_sldN fL_law_1943 (sx_99 _ _) (⟨by omega, by omega⟩) ?_
  refine xv_al0 fL_law_1944 ?_
  refine xv_il4 fL_law_1945 ?_
  refine xv_k fL_law_1947 ?_
  refine xv_iadd fL_law_1948 ?_
  rw [nI_add]
  refine xv_sldN fL_law_1949 (sx_99 _ _) (⟨by omega, by omega⟩) ?_
  refine xv_al3 fL_law_1950 ?_
  refine xv_callS4R (hL) fL_law_1951 YL_weigh VL_weigh lL_218 rfl (Nat.le_of_ble_eq_true rfl) (by decide) (by omega) (by omega) ?_
  refine xv_is5 fL_law_1954 ?_
  refine xv_al2 fL_law_1956 ?_
  refine xv_al0 fL_law_1957 ?_
  refine xv_il4 fL_law_1958 ?_
  refine xv_k fL_law_1960 ?_
  refine xv_iadd fL_law_1961 ?_
  rw [nI_add]
  refine xv_sldN fL_law_1962 (sx_99 _ _) (⟨by omega, by omega⟩) ?_
  rw [h99]
  refine xv_al0 fL_law_1963 ?_
  refine xv_il4 fL_law_1964 ?_
  refine xv_k fL_law_1966 ?_
  refine xv_iadd fL_law_1967 ?_
  rw [nI_add]
  refine xv_sldN fL_law_1968 (sx_99 _ _) (⟨by omega, by omega⟩) ?_
  rw [h99]
  refine xv_callV2R (hX) fL_law_1969 YX11_weigh VX11_weigh lL_220 rfl rfl (sx_60 _ _) (Nat.le_of_ble_eq_true rfl) (by omega) (by omega) (by omega) ?_
  refine xv_is6 fL_law_1972 ?_
  refine xv_al2 fL_law_1974 ?_
  refine xv_callV0R (m_thrown n c' _ J1) fL_law_1975 YX11_thrown VX11_thrown lL_127 rfl rfl (sx_60 _ _) (Nat.le_of_ble_eq_true rfl) (by decide) (by omega) (by omega) ?_
  rw [h48]
  refine xv_il5 fL_law_1978 ?_
  refine xv_ic_eq fL_law_1980 (fun h_1980 => ?_) (fun h_1980 => ?_)
  · refine xv_il5 fL_law_1985 ?_
    refine xv_if_ne fL_law_1987 (fun h_1987 => ?_) (fun h_1987 => ?_)
    · refine xv_goto fL_law_2002 ?_
      simp only [Nat.sub_zero]
      exact @hk _ _
    · refine xv_al3 fL_law_1990 ?_
      refine xv_k fL_law_1991 ?_
      refine xv_laldN fL_law_1992 (sx_98 _ _) (⟨by decide, by decide⟩) ?_
      refine xv_il6 fL_law_1993 ?_
      refine xv_i2l fL_law_1995 ?_
      refine xv_lcmp fL_law_1996 ?_
      refine xv_if_eq fL_law_1997 (fun h_1997 => ?_) (fun h_1997 => ?_)
      · refine xv_goto fL_law_2002 ?_
        simp only [Nat.sub_zero]
        exact @hk _ _
      · exact absurd (by rw [hout h_1987]; exact lg_self _) h_1997
  · exact absurd rfl h_1980

theorem arm_29 {n i dX MC MS kc ks : Nat} {c c' : Nat × Nat} {I I1 I2 : xv_I} {J J1 : xv_J} {Q : xv_Q} {code out : Int32} {l5 l6 : Option Value} (hi : i + 7 ≤ n) (hn : n ≤ 3584) (hdX : dX ≤ 9) (h99 : ∀ j, I1 99 j = I 99 j) (hL : xv_Met mL_crop 9 16 128 (sx n c) I (rx c) J [.ref 0, .int (I 99 (i + 1)), .int (I 99 (i + 2)), .ref 98] (xv_eq (.inl (some (.int code))) (sx n c') I1 (rx c') J1)) (hX : xv_Met mX11_crop dX 0 0 (sx n c') I1 (rx c') J1 [.ref 60, .int (I 99 (i + 1)), .int (I 99 (i + 2))] (xv_eq (.inl (some (.int out))) (sx n c') I2 (rx c') J1)) (h48 : I2 60 48 = code) (hout : code = 0 → J1 98 0 = out.toInt64) (hkc : 16 ≤ kc) (hks : 128 ≤ ks) (hk : (∀ l5 l6, xv_W mL_law 30 MC MS Q (kc - 16) (ks - 128) (sx n c') I2 (rx c') J1 2246 (some (.ref 99) :: some (.ref 0) :: some (.ref 60) :: some (.ref 98) :: some (.int (nI i)) :: l5 :: l6 :: []) [])) : xv_W mL_law 30 MC MS Q kc ks (sx n c) I (rx c) J 2005 (some (.ref 99) :: some (.ref 0) :: some (.ref 60) :: some (.ref 98) :: some (.int (nI i)) :: l5 :: l6 :: []) [] := by
  refine xv_al1 fL_law_2005 ?_
  refine xv_al0 fL_law_2006 ?_
  refine xv_il4 fL_law_2007 ?_
  refine xv_k fL_law_2009 ?_
  refine xv_iadd fL_law_2010 ?_
  rw [nI_add]
  refine xv_sldN fL_law_2011 (sx_99 _ _) (⟨by omega, by omega⟩) ?_
  refine xv_al0 fL_law_2012 ?_
  refine xv_il4 fL_law_2013 ?_
  refine xv_k fL_law_2015 ?_
  refine xv_iadd fL_law_2016 ?_
  rw [nI_add]
  refine xv_sldN fL_law_2017 (sx_99 _ _) (⟨by omega, by omega⟩) ?_
  refine xv_al3 fL_law_2018 ?_
  refine xv_callS4R (hL) fL_law_2019 YL_crop VL_crop lL_221 rfl (Nat.le_of_ble_eq_true rfl) (by decide) (by omega) (by omega) ?_
  refine xv_is5 fL_law_2022 ?_
  refine xv_al2 fL_law_2024 ?_
  refine xv_al0 fL_law_2025 ?_
  refine xv_il4 fL_law_2026 ?_
  refine xv_k fL_law_2028 ?_
  refine xv_iadd fL_law_2029 ?_
  rw [nI_add]
  refine xv_sldN fL_law_2030 (sx_99 _ _) (⟨by omega, by omega⟩) ?_
  rw [h99]
  refine xv_al0 fL_law_2031 ?_
  refine xv_il4 fL_law_2032 ?_
  refine xv_k fL_law_2034 ?_
  refine xv_iadd fL_law_2035 ?_
  rw [nI_add]
  refine xv_sldN fL_law_2036 (sx_99 _ _) (⟨by omega, by omega⟩) ?_
  rw [h99]
  refine xv_callV2R (hX) fL_law_2037 YX11_crop VX11_crop lL_223 rfl rfl (sx_60 _ _) (Nat.le_of_ble_eq_true rfl) (by omega) (by omega) (by omega) ?_
  refine xv_is6 fL_law_2040 ?_
  refine xv_al2 fL_law_2042 ?_
  refine xv_callV0R (m_thrown n c' _ J1) fL_law_2043 YX11_thrown VX11_thrown lL_127 rfl rfl (sx_60 _ _) (Nat.le_of_ble_eq_true rfl) (by decide) (by omega) (by omega) ?_
  rw [h48]
  refine xv_il5 fL_law_2046 ?_
  refine xv_ic_eq fL_law_2048 (fun h_2048 => ?_) (fun h_2048 => ?_)
  · refine xv_il5 fL_law_2053 ?_
    refine xv_if_ne fL_law_2055 (fun h_2055 => ?_) (fun h_2055 => ?_)
    · refine xv_goto fL_law_2070 ?_
      simp only [Nat.sub_zero]
      exact @hk _ _
    · refine xv_al3 fL_law_2058 ?_
      refine xv_k fL_law_2059 ?_
      refine xv_laldN fL_law_2060 (sx_98 _ _) (⟨by decide, by decide⟩) ?_
      refine xv_il6 fL_law_2061 ?_
      refine xv_i2l fL_law_2063 ?_
      refine xv_lcmp fL_law_2064 ?_
      refine xv_if_eq fL_law_2065 (fun h_2065 => ?_) (fun h_2065 => ?_)
      · refine xv_goto fL_law_2070 ?_
        simp only [Nat.sub_zero]
        exact @hk _ _
      · exact absurd (by rw [hout h_2055]; exact lg_self _) h_2065
  · exact absurd rfl h_2048

theorem arm_30 {n i dX MC MS kc ks : Nat} {c c' : Nat × Nat} {I I1 I2 : xv_I} {J J1 : xv_J} {Q : xv_Q} {code out : Int32} {l5 l6 : Option Value} (hi : i + 7 ≤ n) (hn : n ≤ 3584) (hdX : dX ≤ 9) (h99 : ∀ j, I1 99 j = I 99 j) (hL : xv_Met mL_wire 9 16 128 (sx n c) I (rx c) J [.ref 0, .int (I 99 (i + 1)), .int (I 99 (i + 2)), .ref 98] (xv_eq (.inl (some (.int code))) (sx n c') I1 (rx c') J1)) (hX : xv_Met mX11_wire dX 0 0 (sx n c') I1 (rx c') J1 [.ref 60, .int (I 99 (i + 1)), .int (I 99 (i + 2))] (xv_eq (.inl (some (.int out))) (sx n c') I2 (rx c') J1)) (h48 : I2 60 48 = code) (hout : code = 0 → J1 98 0 = out.toInt64) (hkc : 16 ≤ kc) (hks : 128 ≤ ks) (hk : (∀ l5 l6, xv_W mL_law 30 MC MS Q (kc - 16) (ks - 128) (sx n c') I2 (rx c') J1 2246 (some (.ref 99) :: some (.ref 0) :: some (.ref 60) :: some (.ref 98) :: some (.int (nI i)) :: l5 :: l6 :: []) [])) : xv_W mL_law 30 MC MS Q kc ks (sx n c) I (rx c) J 2073 (some (.ref 99) :: some (.ref 0) :: some (.ref 60) :: some (.ref 98) :: some (.int (nI i)) :: l5 :: l6 :: []) [] := by
  refine xv_al1 fL_law_2073 ?_
  refine xv_al0 fL_law_2074 ?_
  refine xv_il4 fL_law_2075 ?_
  refine xv_k fL_law_2077 ?_
  refine xv_iadd fL_law_2078 ?_
  rw [nI_add]
  refine xv_sldN fL_law_2079 (sx_99 _ _) (⟨by omega, by omega⟩) ?_
  refine xv_al0 fL_law_2080 ?_
  refine xv_il4 fL_law_2081 ?_
  refine xv_k fL_law_2083 ?_
  refine xv_iadd fL_law_2084 ?_
  rw [nI_add]
  refine xv_sldN fL_law_2085 (sx_99 _ _) (⟨by omega, by omega⟩) ?_
  refine xv_al3 fL_law_2086 ?_
  refine xv_callS4R (hL) fL_law_2087 YL_wire VL_wire lL_224 rfl (Nat.le_of_ble_eq_true rfl) (by decide) (by omega) (by omega) ?_
  refine xv_is5 fL_law_2090 ?_
  refine xv_al2 fL_law_2092 ?_
  refine xv_al0 fL_law_2093 ?_
  refine xv_il4 fL_law_2094 ?_
  refine xv_k fL_law_2096 ?_
  refine xv_iadd fL_law_2097 ?_
  rw [nI_add]
  refine xv_sldN fL_law_2098 (sx_99 _ _) (⟨by omega, by omega⟩) ?_
  rw [h99]
  refine xv_al0 fL_law_2099 ?_
  refine xv_il4 fL_law_2100 ?_
  refine xv_k fL_law_2102 ?_
  refine xv_iadd fL_law_2103 ?_
  rw [nI_add]
  refine xv_sldN fL_law_2104 (sx_99 _ _) (⟨by omega, by omega⟩) ?_
  rw [h99]
  refine xv_callV2R (hX) fL_law_2105 YX11_wire VX11_wire lL_226 rfl rfl (sx_60 _ _) (Nat.le_of_ble_eq_true rfl) (by omega) (by omega) (by omega) ?_
  refine xv_is6 fL_law_2108 ?_
  refine xv_al2 fL_law_2110 ?_
  refine xv_callV0R (m_thrown n c' _ J1) fL_law_2111 YX11_thrown VX11_thrown lL_127 rfl rfl (sx_60 _ _) (Nat.le_of_ble_eq_true rfl) (by decide) (by omega) (by omega) ?_
  rw [h48]
  refine xv_il5 fL_law_2114 ?_
  refine xv_ic_eq fL_law_2116 (fun h_2116 => ?_) (fun h_2116 => ?_)
  · refine xv_il5 fL_law_2121 ?_
    refine xv_if_ne fL_law_2123 (fun h_2123 => ?_) (fun h_2123 => ?_)
    · refine xv_goto fL_law_2138 ?_
      simp only [Nat.sub_zero]
      exact @hk _ _
    · refine xv_al3 fL_law_2126 ?_
      refine xv_k fL_law_2127 ?_
      refine xv_laldN fL_law_2128 (sx_98 _ _) (⟨by decide, by decide⟩) ?_
      refine xv_il6 fL_law_2129 ?_
      refine xv_i2l fL_law_2131 ?_
      refine xv_lcmp fL_law_2132 ?_
      refine xv_if_eq fL_law_2133 (fun h_2133 => ?_) (fun h_2133 => ?_)
      · refine xv_goto fL_law_2138 ?_
        simp only [Nat.sub_zero]
        exact @hk _ _
      · exact absurd (by rw [hout h_2123]; exact lg_self _) h_2133
  · exact absurd rfl h_2116

theorem arm_31 {n i dX MC MS kc ks : Nat} {c c' : Nat × Nat} {I I1 I2 : xv_I} {J J1 : xv_J} {Q : xv_Q} {code out : Int32} {l5 l6 : Option Value} (hi : i + 7 ≤ n) (hn : n ≤ 3584) (hdX : dX ≤ 9) (h99 : ∀ j, I1 99 j = I 99 j) (hL : xv_Met mL_take 9 16 128 (sx n c) I (rx c) J [.ref 0, .ref 98] (xv_eq (.inl (some (.int code))) (sx n c') I1 (rx c') J1)) (hX : xv_Met mX11_take dX 0 0 (sx n c') I1 (rx c') J1 [.ref 60] (xv_eq (.inl (some (.int out))) (sx n c') I2 (rx c') J1)) (h48 : I2 60 48 = code) (hout : code = 0 → J1 98 0 = out.toInt64) (hkc : 16 ≤ kc) (hks : 128 ≤ ks) (hk : (∀ l5 l6, xv_W mL_law 30 MC MS Q (kc - 16) (ks - 128) (sx n c') I2 (rx c') J1 2246 (some (.ref 99) :: some (.ref 0) :: some (.ref 60) :: some (.ref 98) :: some (.int (nI i)) :: l5 :: l6 :: []) [])) : xv_W mL_law 30 MC MS Q kc ks (sx n c) I (rx c) J 2141 (some (.ref 99) :: some (.ref 0) :: some (.ref 60) :: some (.ref 98) :: some (.int (nI i)) :: l5 :: l6 :: []) [] := by
  refine xv_al1 fL_law_2141 ?_
  refine xv_al3 fL_law_2142 ?_
  refine xv_callS2R (hL) fL_law_2143 YL_take VL_take lL_227 rfl (Nat.le_of_ble_eq_true rfl) (by decide) (by omega) (by omega) ?_
  refine xv_is5 fL_law_2146 ?_
  refine xv_al2 fL_law_2148 ?_
  refine xv_callV0R (hX) fL_law_2149 YX11_take VX11_take lL_229 rfl rfl (sx_60 _ _) (Nat.le_of_ble_eq_true rfl) (by omega) (by omega) (by omega) ?_
  refine xv_is6 fL_law_2152 ?_
  refine xv_al2 fL_law_2154 ?_
  refine xv_callV0R (m_thrown n c' _ J1) fL_law_2155 YX11_thrown VX11_thrown lL_127 rfl rfl (sx_60 _ _) (Nat.le_of_ble_eq_true rfl) (by decide) (by omega) (by omega) ?_
  rw [h48]
  refine xv_il5 fL_law_2158 ?_
  refine xv_ic_eq fL_law_2160 (fun h_2160 => ?_) (fun h_2160 => ?_)
  · refine xv_il5 fL_law_2165 ?_
    refine xv_if_ne fL_law_2167 (fun h_2167 => ?_) (fun h_2167 => ?_)
    · refine xv_goto fL_law_2182 ?_
      simp only [Nat.sub_zero]
      exact @hk _ _
    · refine xv_al3 fL_law_2170 ?_
      refine xv_k fL_law_2171 ?_
      refine xv_laldN fL_law_2172 (sx_98 _ _) (⟨by decide, by decide⟩) ?_
      refine xv_il6 fL_law_2173 ?_
      refine xv_i2l fL_law_2175 ?_
      refine xv_lcmp fL_law_2176 ?_
      refine xv_if_eq fL_law_2177 (fun h_2177 => ?_) (fun h_2177 => ?_)
      · refine xv_goto fL_law_2182 ?_
        simp only [Nat.sub_zero]
        exact @hk _ _
      · exact absurd (by rw [hout h_2167]; exact lg_self _) h_2177
  · exact absurd rfl h_2160

theorem arm_32 {n i dX MC MS kc ks : Nat} {c c' : Nat × Nat} {I I1 I2 : xv_I} {J J1 : xv_J} {Q : xv_Q} {code out : Int32} {l5 l6 : Option Value} (hi : i + 7 ≤ n) (hn : n ≤ 3584) (hdX : dX ≤ 9) (h99 : ∀ j, I1 99 j = I 99 j) (hL : xv_Met mL_numbers 9 16 128 (sx n c) I (rx c) J [.ref 0, .int (I 99 (i + 1)), .int (I 99 (i + 2))] (xv_eq (.inl (some (.int code))) (sx n c') I1 (rx c') J1)) (hX : xv_Met mX11_numbers dX 0 0 (sx n c') I1 (rx c') J1 [.ref 60, .int (I 99 (i + 1)), .int (I 99 (i + 2))] (xv_eq (.inl none) (sx n c') I2 (rx c') J1)) (h48 : I2 60 48 = code) (hkc : 16 ≤ kc) (hks : 128 ≤ ks) (hk : (∀ l5 l6, xv_W mL_law 30 MC MS Q (kc - 16) (ks - 128) (sx n c') I2 (rx c') J1 2246 (some (.ref 99) :: some (.ref 0) :: some (.ref 60) :: some (.ref 98) :: some (.int (nI i)) :: l5 :: l6 :: []) [])) : xv_W mL_law 30 MC MS Q kc ks (sx n c) I (rx c) J 2185 (some (.ref 99) :: some (.ref 0) :: some (.ref 60) :: some (.ref 98) :: some (.int (nI i)) :: l5 :: l6 :: []) [] := by
  refine xv_al1 fL_law_2185 ?_
  refine xv_al0 fL_law_2186 ?_
  refine xv_il4 fL_law_2187 ?_
  refine xv_k fL_law_2189 ?_
  refine xv_iadd fL_law_2190 ?_
  rw [nI_add]
  refine xv_sldN fL_law_2191 (sx_99 _ _) (⟨by omega, by omega⟩) ?_
  refine xv_al0 fL_law_2192 ?_
  refine xv_il4 fL_law_2193 ?_
  refine xv_k fL_law_2195 ?_
  refine xv_iadd fL_law_2196 ?_
  rw [nI_add]
  refine xv_sldN fL_law_2197 (sx_99 _ _) (⟨by omega, by omega⟩) ?_
  refine xv_callS3R (hL) fL_law_2198 YL_numbers VL_numbers lL_230 rfl (Nat.le_of_ble_eq_true rfl) (by decide) (by omega) (by omega) ?_
  refine xv_is5 fL_law_2201 ?_
  refine xv_al2 fL_law_2203 ?_
  refine xv_al0 fL_law_2204 ?_
  refine xv_il4 fL_law_2205 ?_
  refine xv_k fL_law_2207 ?_
  refine xv_iadd fL_law_2208 ?_
  rw [nI_add]
  refine xv_sldN fL_law_2209 (sx_99 _ _) (⟨by omega, by omega⟩) ?_
  rw [h99]
  refine xv_al0 fL_law_2210 ?_
  refine xv_il4 fL_law_2211 ?_
  refine xv_k fL_law_2213 ?_
  refine xv_iadd fL_law_2214 ?_
  rw [nI_add]
  refine xv_sldN fL_law_2215 (sx_99 _ _) (⟨by omega, by omega⟩) ?_
  rw [h99]
  refine xv_callV2V (hX) fL_law_2216 YX11_numbers VX11_numbers lL_233 rfl rfl (sx_60 _ _) (Nat.le_of_ble_eq_true rfl) (by omega) (by omega) (by omega) ?_
  refine xv_al2 fL_law_2219 ?_
  refine xv_callV0R (m_thrown n c' _ J1) fL_law_2220 YX11_thrown VX11_thrown lL_127 rfl rfl (sx_60 _ _) (Nat.le_of_ble_eq_true rfl) (by decide) (by omega) (by omega) ?_
  rw [h48]
  refine xv_il5 fL_law_2223 ?_
  refine xv_ic_eq fL_law_2225 (fun h_2225 => ?_) (fun h_2225 => ?_)
  · refine xv_goto fL_law_2230 ?_
    simp only [Nat.sub_zero]
    exact @hk _ _
  · exact absurd rfl h_2225

theorem arm_33 {n i dX MC MS kc ks : Nat} {c c' : Nat × Nat} {I I1 I2 : xv_I} {J J1 : xv_J} {Q : xv_Q} {code out : Int32} {P : xv_I → Prop} {l5 l6 : Option Value} (hi : i + 7 ≤ n) (hn : n ≤ 3584) (hdX : dX ≤ 9) (h99 : ∀ j, I1 99 j = I 99 j) (hL : xv_Met mX10_solutions 20 16 128 (sx n c) I (rx c) J [.ref 0] (xv_eq (.inl (some (.int code))) (sx n c') I1 (rx c') J1)) (hX : xv_Met mX11_solutions dX 0 0 (sx n c') I1 (rx c') J1 [.ref 60] (fun o s i r j => o = .inl (some (.int out)) ∧ s = sx n c' ∧ r = rx c' ∧ j = J1 ∧ P i)) (hout : code = out) (hkc : 16 ≤ kc) (hks : 128 ≤ ks) (hk : (∀ i2 l5 l6, P i2 → xv_W mL_law 30 MC MS Q (kc - 16) (ks - 128) (sx n c') i2 (rx c') J1 2246 (some (.ref 99) :: some (.ref 0) :: some (.ref 60) :: some (.ref 98) :: some (.int (nI i)) :: l5 :: l6 :: []) [])) : xv_W mL_law 30 MC MS Q kc ks (sx n c) I (rx c) J 2233 (some (.ref 99) :: some (.ref 0) :: some (.ref 60) :: some (.ref 98) :: some (.int (nI i)) :: l5 :: l6 :: []) [] := by
  refine xv_al1 fL_law_2233 ?_
  refine xv_callV0R (hL) fL_law_2234 YX10_solutions VX10_solutions lL_234 rfl rfl (sx_0 _ _) (Nat.le_of_ble_eq_true rfl) (by decide) (by omega) (by omega) ?_
  refine xv_al2 fL_law_2237 ?_
  refine xv_callV0G (hX) fL_law_2238 YX11_solutions VX11_solutions lL_237 rfl rfl (sx_60 _ _) (Nat.le_of_ble_eq_true rfl) (by omega) (by omega) (by omega) ?_ ?_
  · intro r s i2 rf j h9 _
    obtain ⟨g1, rfl, rfl, rfl, g5⟩ := h9
    cases g1
    show xv_W _ _ _ _ _ _ _ _ _ _ _ _ _ [.int out, .int code]
    refine xv_ic_eq fL_law_2241 (fun h_2241 => ?_) (fun h_2241 => ?_)
    · simp only [Nat.sub_zero]
      exact @hk _ _ _ g5
    · exact absurd hout h_2241
  · intro E s i2 rf j h9
    obtain ⟨g1, -⟩ := h9
    cases g1
