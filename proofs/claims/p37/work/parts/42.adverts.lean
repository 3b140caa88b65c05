theorem a_dist_a (n : Nat) (c : Nat × Nat) (I : xv_I) (J : xv_J) {one two : Nat} (h1 : one < 2 ^ 31) (h2 : two < 2 ^ 31) (hn : n < 1000) (hI : Inv c I) {ct to : Nat} (ect : one % 5 = ct) (eto : two % 11 = to) (h4 : 4 ≤ ct) : xv_Met mL_isAdvert 11 64 512 (sx n c) I (rx c) J [.ref 0, .ref 60, .ref 61, .ref 62, .ref 65, .ref 66, .ref 67, .ref 69, .int (nI 1), .int (nI one), .int (nI two)] (qI n J) := by
  have hn9 := hI.ad.2.2.1
  have hn8 := hI.st.2.2.1
  have e690 := hI.ad.2.1
  have hct5 : ct < 5 := by omega
  have hto : to < 11 := by omega
  refine xv_Met.of (by decide +kernel) (Nat.le_of_ble_eq_true rfl) (List.forall_mem_cons.mpr ⟨rfl, List.forall_mem_cons.mpr ⟨rfl, List.forall_mem_cons.mpr ⟨rfl, List.forall_mem_cons.mpr ⟨rfl, List.forall_mem_cons.mpr ⟨rfl, List.forall_mem_cons.mpr ⟨rfl, List.forall_mem_cons.mpr ⟨rfl, List.forall_mem_cons.mpr ⟨rfl, List.forall_mem_cons.mpr ⟨rfl, List.forall_mem_cons.mpr ⟨rfl, List.forall_mem_cons.mpr ⟨rfl, fun _ h => nomatch h⟩⟩⟩⟩⟩⟩⟩⟩⟩⟩⟩) ?_
  show xv_W mL_isAdvert 11 64 512 _ 64 512 (sx n c) I (rx c) J 0 [some (.ref 0), some (.ref 60), some (.ref 61), some (.ref 62), some (.ref 65), some (.ref 66), some (.ref 67), some (.ref 69), some (.int (nI 1)), some (.int (nI one)), some (.int (nI two)), none, none, none, none, none, none, none] []
  refine xv_il8 fL_isAdvert_0 ?_
  refine xv_if_ne fL_isAdvert_2 (fun h_2 => ?_) (fun h_2 => ?_)
  · refine xv_il8 fL_isAdvert_249 ?_
    refine xv_k fL_isAdvert_251 ?_
    refine xv_ic_ne fL_isAdvert_252 (fun h_252 => ?_) (fun h_252 => ?_)
    · exact absurd h_252 (by decide)
    · refine xv_il9 fL_isAdvert_255 ?_
      refine xv_k fL_isAdvert_257 ?_
      refine xv_irem fL_isAdvert_258 (by decide) ?_
      refine xv_eqi (y := nI ct) (by rw [nI_rem h1 (by decide), ect]) ?_
      refine xv_is11 fL_isAdvert_259 ?_
      refine xv_il10 fL_isAdvert_261 ?_
      refine xv_k fL_isAdvert_263 ?_
      refine xv_irem fL_isAdvert_265 (by decide) ?_
      refine xv_eqi (y := nI to) (by rw [nI_rem h2 (by decide), eto]) ?_
      refine xv_is12 fL_isAdvert_266 ?_
      refine xv_al0 fL_isAdvert_268 ?_
      refine xv_k fL_isAdvert_269 ?_
      refine xv_il11 fL_isAdvert_270 ?_
      refine xv_il12 fL_isAdvert_272 ?_
      refine xv_k fL_isAdvert_274 ?_
      refine xv_k fL_isAdvert_275 ?_
      refine xv_k fL_isAdvert_276 ?_
      refine xv_callS7R (w_distance_A n c c J (p_distance_a n c I J (x := nI ct) (y := nI to) (fun z => nI_ge (by omega) (by omega) z.2))) fL_isAdvert_277 YL_does VL_does lL_113 rfl (Nat.le_of_ble_eq_true rfl) (by decide) (by decide) (by decide) ?_
      refine xv_is13 fL_isAdvert_280 ?_
      refine xv_il11 fL_isAdvert_282 ?_
      refine xv_k fL_isAdvert_284 ?_
      refine xv_ic_ge fL_isAdvert_285 (fun h_285 => ?_) (fun h_285 => ?_)
      · refine xv_k fL_isAdvert_299 ?_
        refine xv_is14 fL_isAdvert_300 ?_
        refine xv_il14 fL_isAdvert_302 ?_
        refine xv_if_eq fL_isAdvert_304 (fun h_304 => ?_) (fun h_304 => ?_)
        · refine xv_k fL_isAdvert_315 ?_
          refine xv_is15 fL_isAdvert_316 ?_
          refine xv_al4 fL_isAdvert_318 ?_
          refine xv_il14 fL_isAdvert_320 ?_
          refine xv_if_eq fL_isAdvert_322 (fun h_322 => ?_) (fun h_322 => ?_)
          · refine xv_k fL_isAdvert_330 ?_
            refine xv_il14 fL_isAdvert_331 ?_
            refine xv_if_eq fL_isAdvert_333 (fun h_333 => ?_) (fun h_333 => ?_)
            · refine xv_al4 fL_isAdvert_341 ?_
              refine xv_k fL_isAdvert_343 ?_
              refine xv_ialdN fL_isAdvert_344 (sx_65 _ _) (⟨by omega, by decide⟩) ?_
              refine xv_iastN fL_isAdvert_345 (sx_65 _ _) (⟨by omega, by decide⟩) ?_
              rw [xv_u_id]
              refine xv_il13 fL_isAdvert_346 ?_
              refine xv_il14 fL_isAdvert_348 ?_
              refine xv_if_eq fL_isAdvert_350 (fun h_350 => ?_) (fun h_350 => ?_)
              · refine xv_k fL_isAdvert_358 ?_
                refine xv_ic_ne fL_isAdvert_361 (fun h_361 => ?_) (fun h_361 => ?_)
                · exact absurd rfl h_361
                · refine xv_k fL_isAdvert_364 ?_
                  refine xv_goto fL_isAdvert_365 ?_
                  exact xv_iret fL_isAdvert_369 rfl rfl ⟨rfl, c, rfl, rfl, rfl, hI⟩
              · exact absurd h_350 (by decide)
            · exact absurd h_333 (by decide)
          · exact absurd h_322 (by decide)
        · exact absurd h_304 (by decide)
      · exact absurd ((nI_leI (by omega) (by omega)).mpr (by omega)) h_285
  · exact absurd h_2 (by decide)
theorem a_dist_b (n : Nat) (c : Nat × Nat) (I : xv_I) (J : xv_J) {one two : Nat} (h1 : one < 2 ^ 31) (h2 : two < 2 ^ 31) (hn : n < 1000) (hI : Inv c I) {ct to : Nat} (ect : one % 5 = ct) (eto : two % 11 = to) (h4 : ct < 4) (h10 : 10 ≤ to) : xv_Met mL_isAdvert 11 64 512 (sx n c) I (rx c) J [.ref 0, .ref 60, .ref 61, .ref 62, .ref 65, .ref 66, .ref 67, .ref 69, .int (nI 1), .int (nI one), .int (nI two)] (qI n J) := by
  have hn9 := hI.ad.2.2.1
  have hn8 := hI.st.2.2.1
  have e690 := hI.ad.2.1
  have hto : to < 11 := by omega
  refine xv_Met.of (by decide +kernel) (Nat.le_of_ble_eq_true rfl) (List.forall_mem_cons.mpr ⟨rfl, List.forall_mem_cons.mpr ⟨rfl, List.forall_mem_cons.mpr ⟨rfl, List.forall_mem_cons.mpr ⟨rfl, List.forall_mem_cons.mpr ⟨rfl, List.forall_mem_cons.mpr ⟨rfl, List.forall_mem_cons.mpr ⟨rfl, List.forall_mem_cons.mpr ⟨rfl, List.forall_mem_cons.mpr ⟨rfl, List.forall_mem_cons.mpr ⟨rfl, List.forall_mem_cons.mpr ⟨rfl, fun _ h => nomatch h⟩⟩⟩⟩⟩⟩⟩⟩⟩⟩⟩) ?_
  show xv_W mL_isAdvert 11 64 512 _ 64 512 (sx n c) I (rx c) J 0 [some (.ref 0), some (.ref 60), some (.ref 61), some (.ref 62), some (.ref 65), some (.ref 66), some (.ref 67), some (.ref 69), some (.int (nI 1)), some (.int (nI one)), some (.int (nI two)), none, none, none, none, none, none, none] []
  refine xv_il8 fL_isAdvert_0 ?_
  refine xv_if_ne fL_isAdvert_2 (fun h_2 => ?_) (fun h_2 => ?_)
  · refine xv_il8 fL_isAdvert_249 ?_
    refine xv_k fL_isAdvert_251 ?_
    refine xv_ic_ne fL_isAdvert_252 (fun h_252 => ?_) (fun h_252 => ?_)
    · exact absurd h_252 (by decide)
    · refine xv_il9 fL_isAdvert_255 ?_
      refine xv_k fL_isAdvert_257 ?_
      refine xv_irem fL_isAdvert_258 (by decide) ?_
      refine xv_eqi (y := nI ct) (by rw [nI_rem h1 (by decide), ect]) ?_
      refine xv_is11 fL_isAdvert_259 ?_
      refine xv_il10 fL_isAdvert_261 ?_
      refine xv_k fL_isAdvert_263 ?_
      refine xv_irem fL_isAdvert_265 (by decide) ?_
      refine xv_eqi (y := nI to) (by rw [nI_rem h2 (by decide), eto]) ?_
      refine xv_is12 fL_isAdvert_266 ?_
      refine xv_al0 fL_isAdvert_268 ?_
      refine xv_k fL_isAdvert_269 ?_
      refine xv_il11 fL_isAdvert_270 ?_
      refine xv_il12 fL_isAdvert_272 ?_
      refine xv_k fL_isAdvert_274 ?_
      refine xv_k fL_isAdvert_275 ?_
      refine xv_k fL_isAdvert_276 ?_
      refine xv_callS7R (w_distance_A n c c J (p_distance_b n c I J (x := nI ct) (y := nI to) (okR_n (by omega) (by omega) (by decide)) (fun z => nI_ge (by omega) (by omega) z.2))) fL_isAdvert_277 YL_does VL_does lL_113 rfl (Nat.le_of_ble_eq_true rfl) (by decide) (by decide) (by decide) ?_
      refine xv_is13 fL_isAdvert_280 ?_
      refine xv_il11 fL_isAdvert_282 ?_
      refine xv_k fL_isAdvert_284 ?_
      refine xv_ic_ge fL_isAdvert_285 (fun h_285 => ?_) (fun h_285 => ?_)
      · exact absurd ((nI_leI (by omega) (by omega)).mp h_285) (by omega)
      · refine xv_il12 fL_isAdvert_288 ?_
        refine xv_k fL_isAdvert_290 ?_
        refine xv_ic_ge fL_isAdvert_292 (fun h_292 => ?_) (fun h_292 => ?_)
        · refine xv_k fL_isAdvert_299 ?_
          refine xv_is14 fL_isAdvert_300 ?_
          refine xv_il14 fL_isAdvert_302 ?_
          refine xv_if_eq fL_isAdvert_304 (fun h_304 => ?_) (fun h_304 => ?_)
          · refine xv_k fL_isAdvert_315 ?_
            refine xv_is15 fL_isAdvert_316 ?_
            refine xv_al4 fL_isAdvert_318 ?_
            refine xv_il14 fL_isAdvert_320 ?_
            refine xv_if_eq fL_isAdvert_322 (fun h_322 => ?_) (fun h_322 => ?_)
            · refine xv_k fL_isAdvert_330 ?_
              refine xv_il14 fL_isAdvert_331 ?_
              refine xv_if_eq fL_isAdvert_333 (fun h_333 => ?_) (fun h_333 => ?_)
              · refine xv_al4 fL_isAdvert_341 ?_
                refine xv_k fL_isAdvert_343 ?_
                refine xv_ialdN fL_isAdvert_344 (sx_65 _ _) (⟨by omega, by decide⟩) ?_
                refine xv_iastN fL_isAdvert_345 (sx_65 _ _) (⟨by omega, by decide⟩) ?_
                rw [xv_u_id]
                refine xv_il13 fL_isAdvert_346 ?_
                refine xv_il14 fL_isAdvert_348 ?_
                refine xv_if_eq fL_isAdvert_350 (fun h_350 => ?_) (fun h_350 => ?_)
                · refine xv_k fL_isAdvert_358 ?_
                  refine xv_ic_ne fL_isAdvert_361 (fun h_361 => ?_) (fun h_361 => ?_)
                  · exact absurd rfl h_361
                  · refine xv_k fL_isAdvert_364 ?_
                    refine xv_goto fL_isAdvert_365 ?_
                    exact xv_iret fL_isAdvert_369 rfl rfl ⟨rfl, c, rfl, rfl, rfl, hI⟩
                · exact absurd h_350 (by decide)
              · exact absurd h_333 (by decide)
            · exact absurd h_322 (by decide)
          · exact absurd h_304 (by decide)
        · exact absurd ((nI_leI (by omega) (by omega)).mpr (by omega)) h_292
  · exact absurd h_2 (by decide)
theorem a_dist_ok (n : Nat) (c : Nat × Nat) (I : xv_I) (J : xv_J) {one two : Nat} (h1 : one < 2 ^ 31) (h2 : two < 2 ^ 31) (hn : n < 1000) (hI : Inv c I) {ct to : Nat} (ect : one % 5 = ct) (eto : two % 11 = to) (h4 : ct < 4) (h10 : to < 10) : xv_Met mL_isAdvert 11 64 512 (sx n c) I (rx c) J [.ref 0, .ref 60, .ref 61, .ref 62, .ref 65, .ref 66, .ref 67, .ref 69, .int (nI 1), .int (nI one), .int (nI two)] (qI n J) := by
  have hn9 := hI.ad.2.2.1
  have hn8 := hI.st.2.2.1
  have e690 := hI.ad.2.1
  obtain ⟨x9, y1, y2, y3⟩ := hI.dist ct h4
  refine xv_Met.of (by decide +kernel) (Nat.le_of_ble_eq_true rfl) (List.forall_mem_cons.mpr ⟨rfl, List.forall_mem_cons.mpr ⟨rfl, List.forall_mem_cons.mpr ⟨rfl, List.forall_mem_cons.mpr ⟨rfl, List.forall_mem_cons.mpr ⟨rfl, List.forall_mem_cons.mpr ⟨rfl, List.forall_mem_cons.mpr ⟨rfl, List.forall_mem_cons.mpr ⟨rfl, List.forall_mem_cons.mpr ⟨rfl, List.forall_mem_cons.mpr ⟨rfl, List.forall_mem_cons.mpr ⟨rfl, fun _ h => nomatch h⟩⟩⟩⟩⟩⟩⟩⟩⟩⟩⟩) ?_
  show xv_W mL_isAdvert 11 64 512 _ 64 512 (sx n c) I (rx c) J 0 [some (.ref 0), some (.ref 60), some (.ref 61), some (.ref 62), some (.ref 65), some (.ref 66), some (.ref 67), some (.ref 69), some (.int (nI 1)), some (.int (nI one)), some (.int (nI two)), none, none, none, none, none, none, none] []
  refine xv_il8 fL_isAdvert_0 ?_
  refine xv_if_ne fL_isAdvert_2 (fun h_2 => ?_) (fun h_2 => ?_)
  · refine xv_il8 fL_isAdvert_249 ?_
    refine xv_k fL_isAdvert_251 ?_
    refine xv_ic_ne fL_isAdvert_252 (fun h_252 => ?_) (fun h_252 => ?_)
    · exact absurd h_252 (by decide)
    · refine xv_il9 fL_isAdvert_255 ?_
      refine xv_k fL_isAdvert_257 ?_
      refine xv_irem fL_isAdvert_258 (by decide) ?_
      refine xv_eqi (y := nI ct) (by rw [nI_rem h1 (by decide), ect]) ?_
      refine xv_is11 fL_isAdvert_259 ?_
      refine xv_il10 fL_isAdvert_261 ?_
      refine xv_k fL_isAdvert_263 ?_
      refine xv_irem fL_isAdvert_265 (by decide) ?_
      refine xv_eqi (y := nI to) (by rw [nI_rem h2 (by decide), eto]) ?_
      refine xv_is12 fL_isAdvert_266 ?_
      refine xv_al0 fL_isAdvert_268 ?_
      refine xv_k fL_isAdvert_269 ?_
      refine xv_il11 fL_isAdvert_270 ?_
      refine xv_il12 fL_isAdvert_272 ?_
      refine xv_k fL_isAdvert_274 ?_
      refine xv_k fL_isAdvert_275 ?_
      refine xv_k fL_isAdvert_276 ?_
      refine xv_callS7R (w_distance_ok n c c J (p_distance_ok n c I J h4 (y := nI to) (okR_n (by omega) (by omega) (by decide)))) fL_isAdvert_277 YL_does VL_does lL_113 rfl (Nat.le_of_ble_eq_true rfl) (by decide) (by decide) (by decide) ?_
      rw [y2]
      refine xv_is13 fL_isAdvert_280 ?_
      refine xv_il11 fL_isAdvert_282 ?_
      refine xv_k fL_isAdvert_284 ?_
      refine xv_ic_ge fL_isAdvert_285 (fun h_285 => ?_) (fun h_285 => ?_)
      · exact absurd ((nI_leI (by omega) (by omega)).mp h_285) (by omega)
      · refine xv_il12 fL_isAdvert_288 ?_
        refine xv_k fL_isAdvert_290 ?_
        refine xv_ic_ge fL_isAdvert_292 (fun h_292 => ?_) (fun h_292 => ?_)
        · exact absurd ((nI_leI (by omega) (by omega)).mp h_292) (by omega)
        · refine xv_k fL_isAdvert_295 ?_
          refine xv_goto fL_isAdvert_296 ?_
          refine xv_is14 fL_isAdvert_300 ?_
          refine xv_il14 fL_isAdvert_302 ?_
          refine xv_if_eq fL_isAdvert_304 (fun h_304 => ?_) (fun h_304 => ?_)
          · exact absurd h_304 (by decide)
          · refine xv_al4 fL_isAdvert_307 ?_
            refine xv_il11 fL_isAdvert_309 ?_
            refine xv_ialdN fL_isAdvert_311 (sx_65 _ _) (⟨by omega, by decide⟩) ?_
            rw [xv_u_ne _ _ _ (by decide), y3]
            refine xv_goto fL_isAdvert_312 ?_
            refine xv_is15 fL_isAdvert_316 ?_
            refine xv_al4 fL_isAdvert_318 ?_
            refine xv_il14 fL_isAdvert_320 ?_
            refine xv_if_eq fL_isAdvert_322 (fun h_322 => ?_) (fun h_322 => ?_)
            · exact absurd h_322 (by decide)
            · refine xv_il11 fL_isAdvert_325 ?_
              refine xv_goto fL_isAdvert_327 ?_
              refine xv_il14 fL_isAdvert_331 ?_
              refine xv_if_eq fL_isAdvert_333 (fun h_333 => ?_) (fun h_333 => ?_)
              · exact absurd h_333 (by decide)
              · refine xv_il12 fL_isAdvert_336 ?_
                refine xv_goto fL_isAdvert_338 ?_
                refine xv_iastN fL_isAdvert_345 (sx_65 _ _) (⟨by omega, by decide⟩) ?_
                refine xv_il13 fL_isAdvert_346 ?_
                refine xv_il14 fL_isAdvert_348 ?_
                refine xv_if_eq fL_isAdvert_350 (fun h_350 => ?_) (fun h_350 => ?_)
                · exact absurd h_350 (by decide)
                · refine xv_il15 fL_isAdvert_353 ?_
                  refine xv_goto fL_isAdvert_355 ?_
                  refine xv_ic_ne fL_isAdvert_361 (fun h_361 => ?_) (fun h_361 => ?_)
                  · exact absurd rfl h_361
                  · refine xv_k fL_isAdvert_364 ?_
                    refine xv_goto fL_isAdvert_365 ?_
                    exact xv_iret fL_isAdvert_369 rfl rfl ⟨rfl, c, rfl, rfl, rfl, hI.setDist h4 (by omega)⟩
  · exact absurd h_2 (by decide)
theorem fa_nneg {k : Nat} (h : k < 2 ^ 31) : ¬ nI k < -1 := fun z => by
  rw [fa_lt, nI_toInt h] at z
  have : ((-1 : Int32)).toInt = -1 := by decide
  omega
theorem a_adv_a (n : Nat) (c : Nat × Nat) (I : xv_I) (J : xv_J) {one two : Nat} (h1 : one < 2 ^ 31) (h2 : two < 2 ^ 31) (hn : n < 1000) (hI : Inv c I) {ct w h : Nat} (ect : one % 5 = ct) (ew : 1 + one / 5 % 3 = w) (eh : 1 + one / 15 % 4 = h) (h4 : 4 ≤ ct) : xv_Met mL_isAdvert 11 64 512 (sx n c) I (rx c) J [.ref 0, .ref 60, .ref 61, .ref 62, .ref 65, .ref 66, .ref 67, .ref 69, .int (nI 0), .int (nI one), .int (nI two)] (qI n J) := by
  have hn9 := hI.ad.2.2.1
  have hn8 := hI.st.2.2.1
  have e690 := hI.ad.2.1
  have hct5 : ct < 5 := by omega
  have hw : 1 ≤ w ∧ w ≤ 3 := by omega
  have hh : 1 ≤ h ∧ h ≤ 4 := by omega
  refine xv_Met.of (by decide +kernel) (Nat.le_of_ble_eq_true rfl) (List.forall_mem_cons.mpr ⟨rfl, List.forall_mem_cons.mpr ⟨rfl, List.forall_mem_cons.mpr ⟨rfl, List.forall_mem_cons.mpr ⟨rfl, List.forall_mem_cons.mpr ⟨rfl, List.forall_mem_cons.mpr ⟨rfl, List.forall_mem_cons.mpr ⟨rfl, List.forall_mem_cons.mpr ⟨rfl, List.forall_mem_cons.mpr ⟨rfl, List.forall_mem_cons.mpr ⟨rfl, List.forall_mem_cons.mpr ⟨rfl, fun _ h => nomatch h⟩⟩⟩⟩⟩⟩⟩⟩⟩⟩⟩) ?_
  show xv_W mL_isAdvert 11 64 512 _ 64 512 (sx n c) I (rx c) J 0 [some (.ref 0), some (.ref 60), some (.ref 61), some (.ref 62), some (.ref 65), some (.ref 66), some (.ref 67), some (.ref 69), some (.int (nI 0)), some (.int (nI one)), some (.int (nI two)), none, none, none, none, none, none, none] []
  refine xv_il8 fL_isAdvert_0 ?_
  refine xv_if_ne fL_isAdvert_2 (fun h_2 => ?_) (fun h_2 => ?_)
  · exact absurd h_2 (by decide)
  · refine xv_il9 fL_isAdvert_5 ?_
    refine xv_k fL_isAdvert_7 ?_
    refine xv_irem fL_isAdvert_8 (by decide) ?_
    refine xv_eqi (y := nI ct) (by rw [nI_rem h1 (by decide), ect]) ?_
    refine xv_is11 fL_isAdvert_9 ?_
    refine xv_k fL_isAdvert_11 ?_
    refine xv_il9 fL_isAdvert_12 ?_
    refine xv_k fL_isAdvert_14 ?_
    refine xv_idiv fL_isAdvert_15 (by decide) ?_
    refine xv_eqi (y := nI (one / 5)) (nI_div h1 (by decide)) ?_
    refine xv_k fL_isAdvert_16 ?_
    refine xv_irem fL_isAdvert_17 (by decide) ?_
    refine xv_eqi (y := nI (one / 5 % 3)) (nI_rem (by omega) (by decide)) ?_
    refine xv_iadd fL_isAdvert_18 ?_
    refine xv_eqi (y := nI w) (by rw [nI_add, ew]) ?_
    refine xv_is12 fL_isAdvert_19 ?_
    refine xv_k fL_isAdvert_21 ?_
    refine xv_il9 fL_isAdvert_22 ?_
    refine xv_k fL_isAdvert_24 ?_
    refine xv_idiv fL_isAdvert_26 (by decide) ?_
    refine xv_eqi (y := nI (one / 15)) (nI_div h1 (by decide)) ?_
    refine xv_k fL_isAdvert_27 ?_
    refine xv_irem fL_isAdvert_28 (by decide) ?_
    refine xv_eqi (y := nI (one / 15 % 4)) (nI_rem (by omega) (by decide)) ?_
    refine xv_iadd fL_isAdvert_29 ?_
    refine xv_eqi (y := nI h) (by rw [nI_add, eh]) ?_
    refine xv_is13 fL_isAdvert_30 ?_
    refine xv_il10 fL_isAdvert_32 ?_
    refine xv_k fL_isAdvert_34 ?_
    refine xv_irem fL_isAdvert_35 (by decide) ?_
    refine xv_eqi (y := nI (two % 4)) (nI_rem h2 (by decide)) ?_
    refine xv_if_ne fL_isAdvert_36 (fun h_36 => ?_) (fun h_36 => ?_)
    · refine xv_k fL_isAdvert_43 ?_
      refine xv_is14 fL_isAdvert_44 ?_
      refine xv_il10 fL_isAdvert_46 ?_
      refine xv_k fL_isAdvert_48 ?_
      refine xv_idiv fL_isAdvert_49 (by decide) ?_
      refine xv_eqi (y := nI (two / 4)) (nI_div h2 (by decide)) ?_
      refine xv_k fL_isAdvert_50 ?_
      refine xv_irem fL_isAdvert_51 (by decide) ?_
      refine xv_eqi (y := nI (two / 4 % 3)) (nI_rem (by omega) (by decide)) ?_
      refine xv_if_ne fL_isAdvert_52 (fun h_52 => ?_) (fun h_52 => ?_)
      · refine xv_k fL_isAdvert_65 ?_
        refine xv_is15 fL_isAdvert_66 ?_
        refine xv_il10 fL_isAdvert_68 ?_
        refine xv_k fL_isAdvert_70 ?_
        refine xv_idiv fL_isAdvert_72 (by decide) ?_
        refine xv_eqi (y := nI (two / 48)) (nI_div h2 (by decide)) ?_
        refine xv_k fL_isAdvert_73 ?_
        refine xv_irem fL_isAdvert_74 (by decide) ?_
        refine xv_eqi (y := nI (two / 48 % 3)) (nI_rem (by omega) (by decide)) ?_
        refine xv_if_ne fL_isAdvert_75 (fun h_75 => ?_) (fun h_75 => ?_)
        · refine xv_k fL_isAdvert_89 ?_
          refine xv_is16 fL_isAdvert_90 ?_
          refine xv_al0 fL_isAdvert_92 ?_
          refine xv_k fL_isAdvert_93 ?_
          refine xv_il11 fL_isAdvert_94 ?_
          refine xv_il12 fL_isAdvert_96 ?_
          refine xv_k fL_isAdvert_98 ?_
          refine xv_il13 fL_isAdvert_100 ?_
          refine xv_imul fL_isAdvert_102 ?_
          refine xv_eqi (y := nI (10 * h)) (nI_mul _ _) ?_
          refine xv_iadd fL_isAdvert_103 ?_
          refine xv_eqi (y := nI (w + 10 * h)) (nI_add _ _) ?_
          refine xv_il14 fL_isAdvert_104 ?_
          refine xv_il15 fL_isAdvert_106 ?_
          refine xv_il16 fL_isAdvert_108 ?_
          refine xv_callS7R (w_advert_0_A n c c J (w := w) (h := h) (by omega) (by omega) (p_advert_a n c I J (x1 := nI ct) (x2 := nI w) (x3 := nI h) (x4 := nI 0) (x5 := -1) (x6 := -1) (fun z => nI_ge (by omega) (by omega) z.2))) fL_isAdvert_110 YL_does VL_does lL_113 rfl (Nat.le_of_ble_eq_true rfl) (by decide) (by decide) (by decide) ?_
          refine xv_is17 fL_isAdvert_113 ?_
          refine xv_il11 fL_isAdvert_115 ?_
          refine xv_k fL_isAdvert_117 ?_
          refine xv_ic_eq fL_isAdvert_118 (fun h_118 => ?_) (fun h_118 => ?_)
          · refine xv_il17 fL_isAdvert_130 ?_
            refine xv_il11 fL_isAdvert_132 ?_
            refine xv_k fL_isAdvert_134 ?_
            refine xv_ic_ne fL_isAdvert_135 (fun h_135 => ?_) (fun h_135 => ?_)
            · exact absurd ((nI_eq (by omega) (by omega)).mpr (by omega)) h_135
            · refine xv_k fL_isAdvert_138 ?_
              refine xv_goto fL_isAdvert_141 ?_
              refine xv_ic_ne fL_isAdvert_147 (fun h_147 => ?_) (fun h_147 => ?_)
              · exact absurd rfl h_147
              · refine xv_k fL_isAdvert_150 ?_
                refine xv_goto fL_isAdvert_151 ?_
                exact xv_iret fL_isAdvert_155 rfl rfl ⟨rfl, c, rfl, rfl, rfl, hI⟩
          · exact absurd ((nI_eq (by omega) (by omega)).mpr (by omega)) h_118
        · refine xv_il10 fL_isAdvert_78 ?_
          refine xv_k fL_isAdvert_80 ?_
          refine xv_idiv fL_isAdvert_83 (by decide) ?_
          refine xv_eqi (y := nI (two / 144)) (nI_div h2 (by decide)) ?_
          refine xv_k fL_isAdvert_84 ?_
          refine xv_irem fL_isAdvert_85 (by decide) ?_
          refine xv_eqi (y := nI (two / 144 % 3)) (nI_rem (by omega) (by decide)) ?_
          refine xv_goto fL_isAdvert_86 ?_
          refine xv_is16 fL_isAdvert_90 ?_
          refine xv_al0 fL_isAdvert_92 ?_
          refine xv_k fL_isAdvert_93 ?_
          refine xv_il11 fL_isAdvert_94 ?_
          refine xv_il12 fL_isAdvert_96 ?_
          refine xv_k fL_isAdvert_98 ?_
          refine xv_il13 fL_isAdvert_100 ?_
          refine xv_imul fL_isAdvert_102 ?_
          refine xv_eqi (y := nI (10 * h)) (nI_mul _ _) ?_
          refine xv_iadd fL_isAdvert_103 ?_
          refine xv_eqi (y := nI (w + 10 * h)) (nI_add _ _) ?_
          refine xv_il14 fL_isAdvert_104 ?_
          refine xv_il15 fL_isAdvert_106 ?_
          refine xv_il16 fL_isAdvert_108 ?_
          refine xv_callS7R (w_advert_0_A n c c J (w := w) (h := h) (by omega) (by omega) (p_advert_a n c I J (x1 := nI ct) (x2 := nI w) (x3 := nI h) (x4 := nI 0) (x5 := -1) (x6 := nI (two / 144 % 3)) (fun z => nI_ge (by omega) (by omega) z.2))) fL_isAdvert_110 YL_does VL_does lL_113 rfl (Nat.le_of_ble_eq_true rfl) (by decide) (by decide) (by decide) ?_
          refine xv_is17 fL_isAdvert_113 ?_
          refine xv_il11 fL_isAdvert_115 ?_
          refine xv_k fL_isAdvert_117 ?_
          refine xv_ic_eq fL_isAdvert_118 (fun h_118 => ?_) (fun h_118 => ?_)
          · refine xv_il17 fL_isAdvert_130 ?_
            refine xv_il11 fL_isAdvert_132 ?_
            refine xv_k fL_isAdvert_134 ?_
            refine xv_ic_ne fL_isAdvert_135 (fun h_135 => ?_) (fun h_135 => ?_)
            · exact absurd ((nI_eq (by omega) (by omega)).mpr (by omega)) h_135
            · refine xv_k fL_isAdvert_138 ?_
              refine xv_goto fL_isAdvert_141 ?_
              refine xv_ic_ne fL_isAdvert_147 (fun h_147 => ?_) (fun h_147 => ?_)
              · exact absurd rfl h_147
              · refine xv_k fL_isAdvert_150 ?_
                refine xv_goto fL_isAdvert_151 ?_
                exact xv_iret fL_isAdvert_155 rfl rfl ⟨rfl, c, rfl, rfl, rfl, hI⟩
          · exact absurd ((nI_eq (by omega) (by omega)).mpr (by omega)) h_118
      · refine xv_il10 fL_isAdvert_55 ?_
        refine xv_k fL_isAdvert_57 ?_
        refine xv_idiv fL_isAdvert_59 (by decide) ?_
        refine xv_eqi (y := nI (two / 12)) (nI_div h2 (by decide)) ?_
        refine xv_k fL_isAdvert_60 ?_
        refine xv_irem fL_isAdvert_61 (by decide) ?_
        refine xv_eqi (y := nI (two / 12 % 4)) (nI_rem (by omega) (by decide)) ?_
        refine xv_goto fL_isAdvert_62 ?_
        refine xv_is15 fL_isAdvert_66 ?_
        refine xv_il10 fL_isAdvert_68 ?_
        refine xv_k fL_isAdvert_70 ?_
        refine xv_idiv fL_isAdvert_72 (by decide) ?_
        refine xv_eqi (y := nI (two / 48)) (nI_div h2 (by decide)) ?_
        refine xv_k fL_isAdvert_73 ?_
        refine xv_irem fL_isAdvert_74 (by decide) ?_
        refine xv_eqi (y := nI (two / 48 % 3)) (nI_rem (by omega) (by decide)) ?_
        refine xv_if_ne fL_isAdvert_75 (fun h_75 => ?_) (fun h_75 => ?_)
        · refine xv_k fL_isAdvert_89 ?_
          refine xv_is16 fL_isAdvert_90 ?_
          refine xv_al0 fL_isAdvert_92 ?_
          refine xv_k fL_isAdvert_93 ?_
          refine xv_il11 fL_isAdvert_94 ?_
          refine xv_il12 fL_isAdvert_96 ?_
          refine xv_k fL_isAdvert_98 ?_
          refine xv_il13 fL_isAdvert_100 ?_
          refine xv_imul fL_isAdvert_102 ?_
          refine xv_eqi (y := nI (10 * h)) (nI_mul _ _) ?_
          refine xv_iadd fL_isAdvert_103 ?_
          refine xv_eqi (y := nI (w + 10 * h)) (nI_add _ _) ?_
          refine xv_il14 fL_isAdvert_104 ?_
          refine xv_il15 fL_isAdvert_106 ?_
          refine xv_il16 fL_isAdvert_108 ?_
          refine xv_callS7R (w_advert_0_A n c c J (w := w) (h := h) (by omega) (by omega) (p_advert_a n c I J (x1 := nI ct) (x2 := nI w) (x3 := nI h) (x4 := nI 0) (x5 := nI (two / 12 % 4)) (x6 := -1) (fun z => nI_ge (by omega) (by omega) z.2))) fL_isAdvert_110 YL_does VL_does lL_113 rfl (Nat.le_of_ble_eq_true rfl) (by decide) (by decide) (by decide) ?_
          refine xv_is17 fL_isAdvert_113 ?_
          refine xv_il11 fL_isAdvert_115 ?_
          refine xv_k fL_isAdvert_117 ?_
          refine xv_ic_eq fL_isAdvert_118 (fun h_118 => ?_) (fun h_118 => ?_)
          · refine xv_il17 fL_isAdvert_130 ?_
            refine xv_il11 fL_isAdvert_132 ?_
            refine xv_k fL_isAdvert_134 ?_
            refine xv_ic_ne fL_isAdvert_135 (fun h_135 => ?_) (fun h_135 => ?_)
            · exact absurd ((nI_eq (by omega) (by omega)).mpr (by omega)) h_135
            · refine xv_k fL_isAdvert_138 ?_
              refine xv_goto fL_isAdvert_141 ?_
              refine xv_ic_ne fL_isAdvert_147 (fun h_147 => ?_) (fun h_147 => ?_)
              · exact absurd rfl h_147
              · refine xv_k fL_isAdvert_150 ?_
                refine xv_goto fL_isAdvert_151 ?_
                exact xv_iret fL_isAdvert_155 rfl rfl ⟨rfl, c, rfl, rfl, rfl, hI⟩
          · exact absurd ((nI_eq (by omega) (by omega)).mpr (by omega)) h_118
        · refine xv_il10 fL_isAdvert_78 ?_
          refine xv_k fL_isAdvert_80 ?_
          refine xv_idiv fL_isAdvert_83 (by decide) ?_
          refine xv_eqi (y := nI (two / 144)) (nI_div h2 (by decide)) ?_
          refine xv_k fL_isAdvert_84 ?_
          refine xv_irem fL_isAdvert_85 (by decide) ?_
          refine xv_eqi (y := nI (two / 144 % 3)) (nI_rem (by omega) (by decide)) ?_
          refine xv_goto fL_isAdvert_86 ?_
          refine xv_is16 fL_isAdvert_90 ?_
          refine xv_al0 fL_isAdvert_92 ?_
          refine xv_k fL_isAdvert_93 ?_
          refine xv_il11 fL_isAdvert_94 ?_
          refine xv_il12 fL_isAdvert_96 ?_
          refine xv_k fL_isAdvert_98 ?_
          refine xv_il13 fL_isAdvert_100 ?_
          refine xv_imul fL_isAdvert_102 ?_
          refine xv_eqi (y := nI (10 * h)) (nI_mul _ _) ?_
          refine xv_iadd fL_isAdvert_103 ?_
          refine xv_eqi (y := nI (w + 10 * h)) (nI_add _ _) ?_
          refine xv_il14 fL_isAdvert_104 ?_
          refine xv_il15 fL_isAdvert_106 ?_
          refine xv_il16 fL_isAdvert_108 ?_
          refine xv_callS7R (w_advert_0_A n c c J (w := w) (h := h) (by omega) (by omega) (p_advert_a n c I J (x1 := nI ct) (x2 := nI w) (x3 := nI h) (x4 := nI 0) (x5 := nI (two / 12 % 4)) (x6 := nI (two / 144 % 3)) (fun z => nI_ge (by omega) (by omega) z.2))) fL_isAdvert_110 YL_does VL_does lL_113 rfl (Nat.le_of_ble_eq_true rfl) (by decide) (by decide) (by decide) ?_
          refine xv_is17 fL_isAdvert_113 ?_
          refine xv_il11 fL_isAdvert_115 ?_
          refine xv_k fL_isAdvert_117 ?_
          refine xv_ic_eq fL_isAdvert_118 (fun h_118 => ?_) (fun h_118 => ?_)
          · refine xv_il17 fL_isAdvert_130 ?_
            refine xv_il11 fL_isAdvert_132 ?_
            refine xv_k fL_isAdvert_134 ?_
            refine xv_ic_ne fL_isAdvert_135 (fun h_135 => ?_) (fun h_135 => ?_)
            · exact absurd ((nI_eq (by omega) (by omega)).mpr (by omega)) h_135
            · refine xv_k fL_isAdvert_138 ?_
              refine xv_goto fL_isAdvert_141 ?_
              refine xv_ic_ne fL_isAdvert_147 (fun h_147 => ?_) (fun h_147 => ?_)
              · exact absurd rfl h_147
              · refine xv_k fL_isAdvert_150 ?_
                refine xv_goto fL_isAdvert_151 ?_
                exact xv_iret fL_isAdvert_155 rfl rfl ⟨rfl, c, rfl, rfl, rfl, hI⟩
          · exact absurd ((nI_eq (by omega) (by omega)).mpr (by omega)) h_118
    · refine xv_k fL_isAdvert_39 ?_
      refine xv_goto fL_isAdvert_40 ?_
      refine xv_is14 fL_isAdvert_44 ?_
      refine xv_il10 fL_isAdvert_46 ?_
      refine xv_k fL_isAdvert_48 ?_
      refine xv_idiv fL_isAdvert_49 (by decide) ?_
      refine xv_eqi (y := nI (two / 4)) (nI_div h2 (by decide)) ?_
      refine xv_k fL_isAdvert_50 ?_
      refine xv_irem fL_isAdvert_51 (by decide) ?_
      refine xv_eqi (y := nI (two / 4 % 3)) (nI_rem (by omega) (by decide)) ?_
      refine xv_if_ne fL_isAdvert_52 (fun h_52 => ?_) (fun h_52 => ?_)
      · refine xv_k fL_isAdvert_65 ?_
        refine xv_is15 fL_isAdvert_66 ?_
        refine xv_il10 fL_isAdvert_68 ?_
        refine xv_k fL_isAdvert_70 ?_
        refine xv_idiv fL_isAdvert_72 (by decide) ?_
        refine xv_eqi (y := nI (two / 48)) (nI_div h2 (by decide)) ?_
        refine xv_k fL_isAdvert_73 ?_
        refine xv_irem fL_isAdvert_74 (by decide) ?_
        refine xv_eqi (y := nI (two / 48 % 3)) (nI_rem (by omega) (by decide)) ?_
        refine xv_if_ne fL_isAdvert_75 (fun h_75 => ?_) (fun h_75 => ?_)
        · refine xv_k fL_isAdvert_89 ?_
          refine xv_is16 fL_isAdvert_90 ?_
          refine xv_al0 fL_isAdvert_92 ?_
          refine xv_k fL_isAdvert_93 ?_
          refine xv_il11 fL_isAdvert_94 ?_
          refine xv_il12 fL_isAdvert_96 ?_
          refine xv_k fL_isAdvert_98 ?_
          refine xv_il13 fL_isAdvert_100 ?_
          refine xv_imul fL_isAdvert_102 ?_
          refine xv_eqi (y := nI (10 * h)) (nI_mul _ _) ?_
          refine xv_iadd fL_isAdvert_103 ?_
          refine xv_eqi (y := nI (w + 10 * h)) (nI_add _ _) ?_
          refine xv_il14 fL_isAdvert_104 ?_
          refine xv_il15 fL_isAdvert_106 ?_
          refine xv_il16 fL_isAdvert_108 ?_
          refine xv_callS7R (w_advert_1_A n c c J (w := w) (h := h) (by omega) (by omega) (p_advert_a n c I J (x1 := nI ct) (x2 := nI w) (x3 := nI h) (x4 := nI 1) (x5 := -1) (x6 := -1) (fun z => nI_ge (by omega) (by omega) z.2))) fL_isAdvert_110 YL_does VL_does lL_113 rfl (Nat.le_of_ble_eq_true rfl) (by decide) (by decide) (by decide) ?_
          refine xv_is17 fL_isAdvert_113 ?_
          refine xv_il11 fL_isAdvert_115 ?_
          refine xv_k fL_isAdvert_117 ?_
          refine xv_ic_eq fL_isAdvert_118 (fun h_118 => ?_) (fun h_118 => ?_)
          · refine xv_il17 fL_isAdvert_130 ?_
            refine xv_il11 fL_isAdvert_132 ?_
            refine xv_k fL_isAdvert_134 ?_
            refine xv_ic_ne fL_isAdvert_135 (fun h_135 => ?_) (fun h_135 => ?_)
            · exact absurd ((nI_eq (by omega) (by omega)).mpr (by omega)) h_135
            · refine xv_k fL_isAdvert_138 ?_
              refine xv_goto fL_isAdvert_141 ?_
              refine xv_ic_ne fL_isAdvert_147 (fun h_147 => ?_) (fun h_147 => ?_)
              · exact absurd rfl h_147
              · refine xv_k fL_isAdvert_150 ?_
                refine xv_goto fL_isAdvert_151 ?_
                exact xv_iret fL_isAdvert_155 rfl rfl ⟨rfl, c, rfl, rfl, rfl, hI⟩
          · exact absurd ((nI_eq (by omega) (by omega)).mpr (by omega)) h_118
        · refine xv_il10 fL_isAdvert_78 ?_
          refine xv_k fL_isAdvert_80 ?_
          refine xv_idiv fL_isAdvert_83 (by decide) ?_
          refine xv_eqi (y := nI (two / 144)) (nI_div h2 (by decide)) ?_
          refine xv_k fL_isAdvert_84 ?_
          refine xv_irem fL_isAdvert_85 (by decide) ?_
          refine xv_eqi (y := nI (two / 144 % 3)) (nI_rem (by omega) (by decide)) ?_
          refine xv_goto fL_isAdvert_86 ?_
          refine xv_is16 fL_isAdvert_90 ?_
          refine xv_al0 fL_isAdvert_92 ?_
          refine xv_k fL_isAdvert_93 ?_
          refine xv_il11 fL_isAdvert_94 ?_
          refine xv_il12 fL_isAdvert_96 ?_
          refine xv_k fL_isAdvert_98 ?_
          refine xv_il13 fL_isAdvert_100 ?_
          refine xv_imul fL_isAdvert_102 ?_
          refine xv_eqi (y := nI (10 * h)) (nI_mul _ _) ?_
          refine xv_iadd fL_isAdvert_103 ?_
          refine xv_eqi (y := nI (w + 10 * h)) (nI_add _ _) ?_
          refine xv_il14 fL_isAdvert_104 ?_
          refine xv_il15 fL_isAdvert_106 ?_
          refine xv_il16 fL_isAdvert_108 ?_
          refine xv_callS7R (w_advert_1_A n c c J (w := w) (h := h) (by omega) (by omega) (p_advert_a n c I J (x1 := nI ct) (x2 := nI w) (x3 := nI h) (x4 := nI 1) (x5 := -1) (x6 := nI (two / 144 % 3)) (fun z => nI_ge (by omega) (by omega) z.2))) fL_isAdvert_110 YL_does VL_does lL_113 rfl (Nat.le_of_ble_eq_true rfl) (by decide) (by decide) (by decide) ?_
          refine xv_is17 fL_isAdvert_113 ?_
          refine xv_il11 fL_isAdvert_115 ?_
          refine xv_k fL_isAdvert_117 ?_
          refine xv_ic_eq fL_isAdvert_118 (fun h_118 => ?_) (fun h_118 => ?_)
          · refine xv_il17 fL_isAdvert_130 ?_
            refine xv_il11 fL_isAdvert_132 ?_
            refine xv_k fL_isAdvert_134 ?_
            refine xv_ic_ne fL_isAdvert_135 (fun h_135 => ?_) (fun h_135 => ?_)
            · exact absurd ((nI_eq (by omega) (by omega)).mpr (by omega)) h_135
            · refine xv_k fL_isAdvert_138 ?_
              refine xv_goto fL_isAdvert_141 ?_
              refine xv_ic_ne fL_isAdvert_147 (fun h_147 => ?_) (fun h_147 => ?_)
              · exact absurd rfl h_147
              · refine xv_k fL_isAdvert_150 ?_
                refine xv_goto fL_isAdvert_151 ?_
                exact xv_iret fL_isAdvert_155 rfl rfl ⟨rfl, c, rfl, rfl, rfl, hI⟩
          · exact absurd ((nI_eq (by omega) (by omega)).mpr (by omega)) h_118
      · refine xv_il10 fL_isAdvert_55 ?_
        refine xv_k fL_isAdvert_57 ?_
        refine xv_idiv fL_isAdvert_59 (by decide) ?_
        refine xv_eqi (y := nI (two / 12)) (nI_div h2 (by decide)) ?_
        refine xv_k fL_isAdvert_60 ?_
        refine xv_irem fL_isAdvert_61 (by decide) ?_
        refine xv_eqi (y := nI (two / 12 % 4)) (nI_rem (by omega) (by decide)) ?_
        refine xv_goto fL_isAdvert_62 ?_
        refine xv_is15 fL_isAdvert_66 ?_
        refine xv_il10 fL_isAdvert_68 ?_
        refine xv_k fL_isAdvert_70 ?_
        refine xv_idiv fL_isAdvert_72 (by decide) ?_
        refine xv_eqi (y := nI (two / 48)) (nI_div h2 (by decide)) ?_
        refine xv_k fL_isAdvert_73 ?_
        refine xv_irem fL_isAdvert_74 (by decide) ?_
        refine xv_eqi (y := nI (two / 48 % 3)) (nI_rem (by omega) (by decide)) ?_
        refine xv_if_ne fL_isAdvert_75 (fun h_75 => ?_) (fun h_75 => ?_)
        · refine xv_k fL_isAdvert_89 ?_
          refine xv_is16 fL_isAdvert_90 ?_
          refine xv_al0 fL_isAdvert_92 ?_
          refine xv_k fL_isAdvert_93 ?_
          refine xv_il11 fL_isAdvert_94 ?_
          refine xv_il12 fL_isAdvert_96 ?_
          refine xv_k fL_isAdvert_98 ?_
          refine xv_il13 fL_isAdvert_100 ?_
          refine xv_imul fL_isAdvert_102 ?_
          refine xv_eqi (y := nI (10 * h)) (nI_mul _ _) ?_
          refine xv_iadd fL_isAdvert_103 ?_
          refine xv_eqi (y := nI (w + 10 * h)) (nI_add _ _) ?_
          refine xv_il14 fL_isAdvert_104 ?_
          refine xv_il15 fL_isAdvert_106 ?_
          refine xv_il16 fL_isAdvert_108 ?_
          refine xv_callS7R (w_advert_1_A n c c J (w := w) (h := h) (by omega) (by omega) (p_advert_a n c I J (x1 := nI ct) (x2 := nI w) (x3 := nI h) (x4 := nI 1) (x5 := nI (two / 12 % 4)) (x6 := -1) (fun z => nI_ge (by omega) (by omega) z.2))) fL_isAdvert_110 YL_does VL_does lL_113 rfl (Nat.le_of_ble_eq_true rfl) (by decide) (by decide) (by decide) ?_
          refine xv_is17 fL_isAdvert_113 ?_
          refine xv_il11 fL_isAdvert_115 ?_
          refine xv_k fL_isAdvert_117 ?_
          refine xv_ic_eq fL_isAdvert_118 (fun h_118 => ?_) (fun h_118 => ?_)
          · refine xv_il17 fL_isAdvert_130 ?_
            refine xv_il11 fL_isAdvert_132 ?_
            refine xv_k fL_isAdvert_134 ?_
            refine xv_ic_ne fL_isAdvert_135 (fun h_135 => ?_) (fun h_135 => ?_)
            · exact absurd ((nI_eq (by omega) (by omega)).mpr (by omega)) h_135
            · refine xv_k fL_isAdvert_138 ?_
              refine xv_goto fL_isAdvert_141 ?_
              refine xv_ic_ne fL_isAdvert_147 (fun h_147 => ?_) (fun h_147 => ?_)
              · exact absurd rfl h_147
              · refine xv_k fL_isAdvert_150 ?_
                refine xv_goto fL_isAdvert_151 ?_
                exact xv_iret fL_isAdvert_155 rfl rfl ⟨rfl, c, rfl, rfl, rfl, hI⟩
          · exact absurd ((nI_eq (by omega) (by omega)).mpr (by omega)) h_118
        · refine xv_il10 fL_isAdvert_78 ?_
          refine xv_k fL_isAdvert_80 ?_
          refine xv_idiv fL_isAdvert_83 (by decide) ?_
          refine xv_eqi (y := nI (two / 144)) (nI_div h2 (by decide)) ?_
          refine xv_k fL_isAdvert_84 ?_
          refine xv_irem fL_isAdvert_85 (by decide) ?_
          refine xv_eqi (y := nI (two / 144 % 3)) (nI_rem (by omega) (by decide)) ?_
          refine xv_goto fL_isAdvert_86 ?_
          refine xv_is16 fL_isAdvert_90 ?_
          refine xv_al0 fL_isAdvert_92 ?_
          refine xv_k fL_isAdvert_93 ?_
          refine xv_il11 fL_isAdvert_94 ?_
          refine xv_il12 fL_isAdvert_96 ?_
          refine xv_k fL_isAdvert_98 ?_
          refine xv_il13 fL_isAdvert_100 ?_
          refine xv_imul fL_isAdvert_102 ?_
          refine xv_eqi (y := nI (10 * h)) (nI_mul _ _) ?_
          refine xv_iadd fL_isAdvert_103 ?_
          refine xv_eqi (y := nI (w + 10 * h)) (nI_add _ _) ?_
          refine xv_il14 fL_isAdvert_104 ?_
          refine xv_il15 fL_isAdvert_106 ?_
          refine xv_il16 fL_isAdvert_108 ?_
          refine xv_callS7R (w_advert_1_A n c c J (w := w) (h := h) (by omega) (by omega) (p_advert_a n c I J (x1 := nI ct) (x2 := nI w) (x3 := nI h) (x4 := nI 1) (x5 := nI (two / 12 % 4)) (x6 := nI (two / 144 % 3)) (fun z => nI_ge (by omega) (by omega) z.2))) fL_isAdvert_110 YL_does VL_does lL_113 rfl (Nat.le_of_ble_eq_true rfl) (by decide) (by decide) (by decide) ?_
          refine xv_is17 fL_isAdvert_113 ?_
          refine xv_il11 fL_isAdvert_115 ?_
          refine xv_k fL_isAdvert_117 ?_
          refine xv_ic_eq fL_isAdvert_118 (fun h_118 => ?_) (fun h_118 => ?_)
          · refine xv_il17 fL_isAdvert_130 ?_
            refine xv_il11 fL_isAdvert_132 ?_
            refine xv_k fL_isAdvert_134 ?_
            refine xv_ic_ne fL_isAdvert_135 (fun h_135 => ?_) (fun h_135 => ?_)
            · exact absurd ((nI_eq (by omega) (by omega)).mpr (by omega)) h_135
            · refine xv_k fL_isAdvert_138 ?_
              refine xv_goto fL_isAdvert_141 ?_
              refine xv_ic_ne fL_isAdvert_147 (fun h_147 => ?_) (fun h_147 => ?_)
              · exact absurd rfl h_147
              · refine xv_k fL_isAdvert_150 ?_
                refine xv_goto fL_isAdvert_151 ?_
                exact xv_iret fL_isAdvert_155 rfl rfl ⟨rfl, c, rfl, rfl, rfl, hI⟩
          · exact absurd ((nI_eq (by omega) (by omega)).mpr (by omega)) h_118
theorem a_adv_f (n : Nat) (c : Nat × Nat) (I : xv_I) (J : xv_J) {one two : Nat} (h1 : one < 2 ^ 31) (h2 : two < 2 ^ 31) (hn : n < 1000) (hI : Inv c I) {ct w h : Nat} (ect : one % 5 = ct) (ew : 1 + one / 5 % 3 = w) (eh : 1 + one / 15 % 4 = h) (h4 : ct < 4) (h20 : c.1 = 20) : xv_Met mL_isAdvert 11 64 512 (sx n c) I (rx c) J [.ref 0, .ref 60, .ref 61, .ref 62, .ref 65, .ref 66, .ref 67, .ref 69, .int (nI 0), .int (nI one), .int (nI two)] (qI n J) := by
  have hn9 := hI.ad.2.2.1
  have hn8 := hI.st.2.2.1
  have e690 := hI.ad.2.1
  have hct5 : ct < 5 := by omega
  have hw : 1 ≤ w ∧ w ≤ 3 := by omega
  have hh : 1 ≤ h ∧ h ≤ 4 := by omega
  refine xv_Met.of (by decide +kernel) (Nat.le_of_ble_eq_true rfl) (List.forall_mem_cons.mpr ⟨rfl, List.forall_mem_cons.mpr ⟨rfl, List.forall_mem_cons.mpr ⟨rfl, List.forall_mem_cons.mpr ⟨rfl, List.forall_mem_cons.mpr ⟨rfl, List.forall_mem_cons.mpr ⟨rfl, List.forall_mem_cons.mpr ⟨rfl, List.forall_mem_cons.mpr ⟨rfl, List.forall_mem_cons.mpr ⟨rfl, List.forall_mem_cons.mpr ⟨rfl, List.forall_mem_cons.mpr ⟨rfl, fun _ h => nomatch h⟩⟩⟩⟩⟩⟩⟩⟩⟩⟩⟩) ?_
  show xv_W mL_isAdvert 11 64 512 _ 64 512 (sx n c) I (rx c) J 0 [some (.ref 0), some (.ref 60), some (.ref 61), some (.ref 62), some (.ref 65), some (.ref 66), some (.ref 67), some (.ref 69), some (.int (nI 0)), some (.int (nI one)), some (.int (nI two)), none, none, none, none, none, none, none] []
  refine xv_il8 fL_isAdvert_0 ?_
  refine xv_if_ne fL_isAdvert_2 (fun h_2 => ?_) (fun h_2 => ?_)
  · exact absurd h_2 (by decide)
  · refine xv_il9 fL_isAdvert_5 ?_
    refine xv_k fL_isAdvert_7 ?_
    refine xv_irem fL_isAdvert_8 (by decide) ?_
    refine xv_eqi (y := nI ct) (by rw [nI_rem h1 (by decide), ect]) ?_
    refine xv_is11 fL_isAdvert_9 ?_
    refine xv_k fL_isAdvert_11 ?_
    refine xv_il9 fL_isAdvert_12 ?_
    refine xv_k fL_isAdvert_14 ?_
    refine xv_idiv fL_isAdvert_15 (by decide) ?_
    refine xv_eqi (y := nI (one / 5)) (nI_div h1 (by decide)) ?_
    refine xv_k fL_isAdvert_16 ?_
    refine xv_irem fL_isAdvert_17 (by decide) ?_
    refine xv_eqi (y := nI (one / 5 % 3)) (nI_rem (by omega) (by decide)) ?_
    refine xv_iadd fL_isAdvert_18 ?_
    refine xv_eqi (y := nI w) (by rw [nI_add, ew]) ?_
    refine xv_is12 fL_isAdvert_19 ?_
    refine xv_k fL_isAdvert_21 ?_
    refine xv_il9 fL_isAdvert_22 ?_
    refine xv_k fL_isAdvert_24 ?_
    refine xv_idiv fL_isAdvert_26 (by decide) ?_
    refine xv_eqi (y := nI (one / 15)) (nI_div h1 (by decide)) ?_
    refine xv_k fL_isAdvert_27 ?_
    refine xv_irem fL_isAdvert_28 (by decide) ?_
    refine xv_eqi (y := nI (one / 15 % 4)) (nI_rem (by omega) (by decide)) ?_
    refine xv_iadd fL_isAdvert_29 ?_
    refine xv_eqi (y := nI h) (by rw [nI_add, eh]) ?_
    refine xv_is13 fL_isAdvert_30 ?_
    refine xv_il10 fL_isAdvert_32 ?_
    refine xv_k fL_isAdvert_34 ?_
    refine xv_irem fL_isAdvert_35 (by decide) ?_
    refine xv_eqi (y := nI (two % 4)) (nI_rem h2 (by decide)) ?_
    refine xv_if_ne fL_isAdvert_36 (fun h_36 => ?_) (fun h_36 => ?_)
    · refine xv_k fL_isAdvert_43 ?_
      refine xv_is14 fL_isAdvert_44 ?_
      refine xv_il10 fL_isAdvert_46 ?_
      refine xv_k fL_isAdvert_48 ?_
      refine xv_idiv fL_isAdvert_49 (by decide) ?_
      refine xv_eqi (y := nI (two / 4)) (nI_div h2 (by decide)) ?_
      refine xv_k fL_isAdvert_50 ?_
      refine xv_irem fL_isAdvert_51 (by decide) ?_
      refine xv_eqi (y := nI (two / 4 % 3)) (nI_rem (by omega) (by decide)) ?_
      refine xv_if_ne fL_isAdvert_52 (fun h_52 => ?_) (fun h_52 => ?_)
      · refine xv_k fL_isAdvert_65 ?_
        refine xv_is15 fL_isAdvert_66 ?_
        refine xv_il10 fL_isAdvert_68 ?_
        refine xv_k fL_isAdvert_70 ?_
        refine xv_idiv fL_isAdvert_72 (by decide) ?_
        refine xv_eqi (y := nI (two / 48)) (nI_div h2 (by decide)) ?_
        refine xv_k fL_isAdvert_73 ?_
        refine xv_irem fL_isAdvert_74 (by decide) ?_
        refine xv_eqi (y := nI (two / 48 % 3)) (nI_rem (by omega) (by decide)) ?_
        refine xv_if_ne fL_isAdvert_75 (fun h_75 => ?_) (fun h_75 => ?_)
        · refine xv_k fL_isAdvert_89 ?_
          refine xv_is16 fL_isAdvert_90 ?_
          refine xv_al0 fL_isAdvert_92 ?_
          refine xv_k fL_isAdvert_93 ?_
          refine xv_il11 fL_isAdvert_94 ?_
          refine xv_il12 fL_isAdvert_96 ?_
          refine xv_k fL_isAdvert_98 ?_
          refine xv_il13 fL_isAdvert_100 ?_
          refine xv_imul fL_isAdvert_102 ?_
          refine xv_eqi (y := nI (10 * h)) (nI_mul _ _) ?_
          refine xv_iadd fL_isAdvert_103 ?_
          refine xv_eqi (y := nI (w + 10 * h)) (nI_add _ _) ?_
          refine xv_il14 fL_isAdvert_104 ?_
          refine xv_il15 fL_isAdvert_106 ?_
          refine xv_il16 fL_isAdvert_108 ?_
          refine xv_callS7R (w_advert_0_S n c c J (w := w) (h := h) (by omega) (by omega) (p_advert_f n c I J (x1 := nI ct) (x2 := nI w) (x3 := nI h) (x4 := nI 0) (x5 := -1) (x6 := -1) (okR_n (by omega) (by omega) (by decide)) (okR_n (by omega) (by omega) (by decide)) (okR_n (by omega) (by omega) (by decide)) ⟨by decide, by decide⟩ ⟨by decide, by decide⟩ (by rw [hI.ad.1, h20]))) fL_isAdvert_110 YL_does VL_does lL_113 rfl (Nat.le_of_ble_eq_true rfl) (by decide) (by decide) (by decide) ?_
          refine xv_is17 fL_isAdvert_113 ?_
          refine xv_il11 fL_isAdvert_115 ?_
          refine xv_k fL_isAdvert_117 ?_
          refine xv_ic_eq fL_isAdvert_118 (fun h_118 => ?_) (fun h_118 => ?_)
          · exact absurd ((nI_eq (by omega) (by omega)).mp h_118) (by omega)
          · refine xv_al7 fL_isAdvert_121 ?_
            refine xv_k fL_isAdvert_123 ?_
            refine xv_ialdN fL_isAdvert_124 (sx_69 _ _) (⟨by omega, by decide⟩) ?_
            rw [e690]
            refine xv_k fL_isAdvert_125 ?_
            refine xv_ic_ne fL_isAdvert_127 (fun h_127 => ?_) (fun h_127 => ?_)
            · exact absurd ((nI_eq (by omega) (by omega)).mpr (by omega)) h_127
            · refine xv_il17 fL_isAdvert_130 ?_
              refine xv_il11 fL_isAdvert_132 ?_
              refine xv_k fL_isAdvert_134 ?_
              refine xv_ic_ne fL_isAdvert_135 (fun h_135 => ?_) (fun h_135 => ?_)
              · refine xv_k fL_isAdvert_144 ?_
                refine xv_ic_ne fL_isAdvert_147 (fun h_147 => ?_) (fun h_147 => ?_)
                · exact absurd rfl h_147
                · refine xv_k fL_isAdvert_150 ?_
                  refine xv_goto fL_isAdvert_151 ?_
                  exact xv_iret fL_isAdvert_155 rfl rfl ⟨rfl, c, rfl, rfl, rfl, hI⟩
              · exact absurd ((nI_eq (by omega) (by omega)).mp h_135) (by omega)
        · refine xv_il10 fL_isAdvert_78 ?_
          refine xv_k fL_isAdvert_80 ?_
          refine xv_idiv fL_isAdvert_83 (by decide) ?_
          refine xv_eqi (y := nI (two / 144)) (nI_div h2 (by decide)) ?_
          refine xv_k fL_isAdvert_84 ?_
          refine xv_irem fL_isAdvert_85 (by decide) ?_
          refine xv_eqi (y := nI (two / 144 % 3)) (nI_rem (by omega) (by decide)) ?_
          refine xv_goto fL_isAdvert_86 ?_
          refine xv_is16 fL_isAdvert_90 ?_
          refine xv_al0 fL_isAdvert_92 ?_
          refine xv_k fL_isAdvert_93 ?_
          refine xv_il11 fL_isAdvert_94 ?_
          refine xv_il12 fL_isAdvert_96 ?_
          refine xv_k fL_isAdvert_98 ?_
          refine xv_il13 fL_isAdvert_100 ?_
          refine xv_imul fL_isAdvert_102 ?_
          refine xv_eqi (y := nI (10 * h)) (nI_mul _ _) ?_
          refine xv_iadd fL_isAdvert_103 ?_
          refine xv_eqi (y := nI (w + 10 * h)) (nI_add _ _) ?_
          refine xv_il14 fL_isAdvert_104 ?_
          refine xv_il15 fL_isAdvert_106 ?_
          refine xv_il16 fL_isAdvert_108 ?_
          refine xv_callS7R (w_advert_0_S n c c J (w := w) (h := h) (by omega) (by omega) (p_advert_f n c I J (x1 := nI ct) (x2 := nI w) (x3 := nI h) (x4 := nI 0) (x5 := -1) (x6 := nI (two / 144 % 3)) (okR_n (by omega) (by omega) (by decide)) (okR_n (by omega) (by omega) (by decide)) (okR_n (by omega) (by omega) (by decide)) ⟨by decide, by decide⟩ ⟨fun z => absurd z (fa_nneg (by omega)), nI_le (by omega) (by decide)⟩ (by rw [hI.ad.1, h20]))) fL_isAdvert_110 YL_does VL_does lL_113 rfl (Nat.le_of_ble_eq_true rfl) (by decide) (by decide) (by decide) ?_
          refine xv_is17 fL_isAdvert_113 ?_
          refine xv_il11 fL_isAdvert_115 ?_
          refine xv_k fL_isAdvert_117 ?_
          refine xv_ic_eq fL_isAdvert_118 (fun h_118 => ?_) (fun h_118 => ?_)
          · exact absurd ((nI_eq (by omega) (by omega)).mp h_118) (by omega)
          · refine xv_al7 fL_isAdvert_121 ?_
            refine xv_k fL_isAdvert_123 ?_
            refine xv_ialdN fL_isAdvert_124 (sx_69 _ _) (⟨by omega, by decide⟩) ?_
            rw [e690]
            refine xv_k fL_isAdvert_125 ?_
            refine xv_ic_ne fL_isAdvert_127 (fun h_127 => ?_) (fun h_127 => ?_)
            · exact absurd ((nI_eq (by omega) (by omega)).mpr (by omega)) h_127
            · refine xv_il17 fL_isAdvert_130 ?_
              refine xv_il11 fL_isAdvert_132 ?_
              refine xv_k fL_isAdvert_134 ?_
              refine xv_ic_ne fL_isAdvert_135 (fun h_135 => ?_) (fun h_135 => ?_)
              · refine xv_k fL_isAdvert_144 ?_
                refine xv_ic_ne fL_isAdvert_147 (fun h_147 => ?_) (fun h_147 => ?_)
                · exact absurd rfl h_147
                · refine xv_k fL_isAdvert_150 ?_
                  refine xv_goto fL_isAdvert_151 ?_
                  exact xv_iret fL_isAdvert_155 rfl rfl ⟨rfl, c, rfl, rfl, rfl, hI⟩
              · exact absurd ((nI_eq (by omega) (by omega)).mp h_135) (by omega)
      · refine xv_il10 fL_isAdvert_55 ?_
        refine xv_k fL_isAdvert_57 ?_
        refine xv_idiv fL_isAdvert_59 (by decide) ?_
        refine xv_eqi (y := nI (two / 12)) (nI_div h2 (by decide)) ?_
        refine xv_k fL_isAdvert_60 ?_
        refine xv_irem fL_isAdvert_61 (by decide) ?_
        refine xv_eqi (y := nI (two / 12 % 4)) (nI_rem (by omega) (by decide)) ?_
        refine xv_goto fL_isAdvert_62 ?_
        refine xv_is15 fL_isAdvert_66 ?_
        refine xv_il10 fL_isAdvert_68 ?_
        refine xv_k fL_isAdvert_70 ?_
        refine xv_idiv fL_isAdvert_72 (by decide) ?_
        refine xv_eqi (y := nI (two / 48)) (nI_div h2 (by decide)) ?_
        refine xv_k fL_isAdvert_73 ?_
        refine xv_irem fL_isAdvert_74 (by decide) ?_
        refine xv_eqi (y := nI (two / 48 % 3)) (nI_rem (by omega) (by decide)) ?_
        refine xv_if_ne fL_isAdvert_75 (fun h_75 => ?_) (fun h_75 => ?_)
        · refine xv_k fL_isAdvert_89 ?_
          refine xv_is16 fL_isAdvert_90 ?_
          refine xv_al0 fL_isAdvert_92 ?_
          refine xv_k fL_isAdvert_93 ?_
          refine xv_il11 fL_isAdvert_94 ?_
          refine xv_il12 fL_isAdvert_96 ?_
          refine xv_k fL_isAdvert_98 ?_
          refine xv_il13 fL_isAdvert_100 ?_
          refine xv_imul fL_isAdvert_102 ?_
          refine xv_eqi (y := nI (10 * h)) (nI_mul _ _) ?_
          refine xv_iadd fL_isAdvert_103 ?_
          refine xv_eqi (y := nI (w + 10 * h)) (nI_add _ _) ?_
          refine xv_il14 fL_isAdvert_104 ?_
          refine xv_il15 fL_isAdvert_106 ?_
          refine xv_il16 fL_isAdvert_108 ?_
          refine xv_callS7R (w_advert_0_S n c c J (w := w) (h := h) (by omega) (by omega) (p_advert_f n c I J (x1 := nI ct) (x2 := nI w) (x3 := nI h) (x4 := nI 0) (x5 := nI (two / 12 % 4)) (x6 := -1) (okR_n (by omega) (by omega) (by decide)) (okR_n (by omega) (by omega) (by decide)) (okR_n (by omega) (by omega) (by decide)) ⟨fun z => absurd z (fa_nneg (by omega)), nI_le (by omega) (by decide)⟩ ⟨by decide, by decide⟩ (by rw [hI.ad.1, h20]))) fL_isAdvert_110 YL_does VL_does lL_113 rfl (Nat.le_of_ble_eq_true rfl) (by decide) (by decide) (by decide) ?_
          refine xv_is17 fL_isAdvert_113 ?_
          refine xv_il11 fL_isAdvert_115 ?_
          refine xv_k fL_isAdvert_117 ?_
          refine xv_ic_eq fL_isAdvert_118 (fun h_118 => ?_) (fun h_118 => ?_)
          · exact absurd ((nI_eq (by omega) (by omega)).mp h_118) (by omega)
          · refine xv_al7 fL_isAdvert_121 ?_
            refine xv_k fL_isAdvert_123 ?_
            refine xv_ialdN fL_isAdvert_124 (sx_69 _ _) (⟨by omega, by decide⟩) ?_
            rw [e690]
            refine xv_k fL_isAdvert_125 ?_
            refine xv_ic_ne fL_isAdvert_127 (fun h_127 => ?_) (fun h_127 => ?_)
            · exact absurd ((nI_eq (by omega) (by omega)).mpr (by omega)) h_127
            · refine xv_il17 fL_isAdvert_130 ?_
              refine xv_il11 fL_isAdvert_132 ?_
              refine xv_k fL_isAdvert_134 ?_
              refine xv_ic_ne fL_isAdvert_135 (fun h_135 => ?_) (fun h_135 => ?_)
              · refine xv_k fL_isAdvert_144 ?_
                refine xv_ic_ne fL_isAdvert_147 (fun h_147 => ?_) (fun h_147 => ?_)
                · exact absurd rfl h_147
                · refine xv_k fL_isAdvert_150 ?_
                  refine xv_goto fL_isAdvert_151 ?_
                  exact xv_iret fL_isAdvert_155 rfl rfl ⟨rfl, c, rfl, rfl, rfl, hI⟩
              · exact absurd ((nI_eq (by omega) (by omega)).mp h_135) (by omega)
        · refine xv_il10 fL_isAdvert_78 ?_
          refine xv_k fL_isAdvert_80 ?_
          refine xv_idiv fL_isAdvert_83 (by decide) ?_
          refine xv_eqi (y := nI (two / 144)) (nI_div h2 (by decide)) ?_
          refine xv_k fL_isAdvert_84 ?_
          refine xv_irem fL_isAdvert_85 (by decide) ?_
          refine xv_eqi (y := nI (two / 144 % 3)) (nI_rem (by omega) (by decide)) ?_
          refine xv_goto fL_isAdvert_86 ?_
          refine xv_is16 fL_isAdvert_90 ?_
          refine xv_al0 fL_isAdvert_92 ?_
          refine xv_k fL_isAdvert_93 ?_
          refine xv_il11 fL_isAdvert_94 ?_
          refine xv_il12 fL_isAdvert_96 ?_
          refine xv_k fL_isAdvert_98 ?_
          refine xv_il13 fL_isAdvert_100 ?_
          refine xv_imul fL_isAdvert_102 ?_
          refine xv_eqi (y := nI (10 * h)) (nI_mul _ _) ?_
          refine xv_iadd fL_isAdvert_103 ?_
          refine xv_eqi (y := nI (w + 10 * h)) (nI_add _ _) ?_
          refine xv_il14 fL_isAdvert_104 ?_
          refine xv_il15 fL_isAdvert_106 ?_
          refine xv_il16 fL_isAdvert_108 ?_
          refine xv_callS7R (w_advert_0_S n c c J (w := w) (h := h) (by omega) (by omega) (p_advert_f n c I J (x1 := nI ct) (x2 := nI w) (x3 := nI h) (x4 := nI 0) (x5 := nI (two / 12 % 4)) (x6 := nI (two / 144 % 3)) (okR_n (by omega) (by omega) (by decide)) (okR_n (by omega) (by omega) (by decide)) (okR_n (by omega) (by omega) (by decide)) ⟨fun z => absurd z (fa_nneg (by omega)), nI_le (by omega) (by decide)⟩ ⟨fun z => absurd z (fa_nneg (by omega)), nI_le (by omega) (by decide)⟩ (by rw [hI.ad.1, h20]))) fL_isAdvert_110 YL_does VL_does lL_113 rfl (Nat.le_of_ble_eq_true rfl) (by decide) (by decide) (by decide) ?_
          refine xv_is17 fL_isAdvert_113 ?_
          refine xv_il11 fL_isAdvert_115 ?_
          refine xv_k fL_isAdvert_117 ?_
          refine xv_ic_eq fL_isAdvert_118 (fun h_118 => ?_) (fun h_118 => ?_)
          · exact absurd ((nI_eq (by omega) (by omega)).mp h_118) (by omega)
          · refine xv_al7 fL_isAdvert_121 ?_
            refine xv_k fL_isAdvert_123 ?_
            refine xv_ialdN fL_isAdvert_124 (sx_69 _ _) (⟨by omega, by decide⟩) ?_
            rw [e690]
            refine xv_k fL_isAdvert_125 ?_
            refine xv_ic_ne fL_isAdvert_127 (fun h_127 => ?_) (fun h_127 => ?_)
            · exact absurd ((nI_eq (by omega) (by omega)).mpr (by omega)) h_127
            · refine xv_il17 fL_isAdvert_130 ?_
              refine xv_il11 fL_isAdvert_132 ?_
              refine xv_k fL_isAdvert_134 ?_
              refine xv_ic_ne fL_isAdvert_135 (fun h_135 => ?_) (fun h_135 => ?_)
              · refine xv_k fL_isAdvert_144 ?_
                refine xv_ic_ne fL_isAdvert_147 (fun h_147 => ?_) (fun h_147 => ?_)
                · exact absurd rfl h_147
                · refine xv_k fL_isAdvert_150 ?_
                  refine xv_goto fL_isAdvert_151 ?_
                  exact xv_iret fL_isAdvert_155 rfl rfl ⟨rfl, c, rfl, rfl, rfl, hI⟩
              · exact absurd ((nI_eq (by omega) (by omega)).mp h_135) (by omega)
    · refine xv_k fL_isAdvert_39 ?_
      refine xv_goto fL_isAdvert_40 ?_
      refine xv_is14 fL_isAdvert_44 ?_
      refine xv_il10 fL_isAdvert_46 ?_
      refine xv_k fL_isAdvert_48 ?_
      refine xv_idiv fL_isAdvert_49 (by decide) ?_
      refine xv_eqi (y := nI (two / 4)) (nI_div h2 (by decide)) ?_
      refine xv_k fL_isAdvert_50 ?_
      refine xv_irem fL_isAdvert_51 (by decide) ?_
      refine xv_eqi (y := nI (two / 4 % 3)) (nI_rem (by omega) (by decide)) ?_
      refine xv_if_ne fL_isAdvert_52 (fun h_52 => ?_) (fun h_52 => ?_)
      · refine xv_k fL_isAdvert_65 ?_
        refine xv_is15 fL_isAdvert_66 ?_
        refine xv_il10 fL_isAdvert_68 ?_
        refine xv_k fL_isAdvert_70 ?_
        refine xv_idiv fL_isAdvert_72 (by decide) ?_
        refine xv_eqi (y := nI (two / 48)) (nI_div h2 (by decide)) ?_
        refine xv_k fL_isAdvert_73 ?_
        refine xv_irem fL_isAdvert_74 (by decide) ?_
        refine xv_eqi (y := nI (two / 48 % 3)) (nI_rem (by omega) (by decide)) ?_
        refine xv_if_ne fL_isAdvert_75 (fun h_75 => ?_) (fun h_75 => ?_)
        · refine xv_k fL_isAdvert_89 ?_
          refine xv_is16 fL_isAdvert_90 ?_
          refine xv_al0 fL_isAdvert_92 ?_
          refine xv_k fL_isAdvert_93 ?_
          refine xv_il11 fL_isAdvert_94 ?_
          refine xv_il12 fL_isAdvert_96 ?_
          refine xv_k fL_isAdvert_98 ?_
          refine xv_il13 fL_isAdvert_100 ?_
          refine xv_imul fL_isAdvert_102 ?_
          refine xv_eqi (y := nI (10 * h)) (nI_mul _ _) ?_
          refine xv_iadd fL_isAdvert_103 ?_
          refine xv_eqi (y := nI (w + 10 * h)) (nI_add _ _) ?_
          refine xv_il14 fL_isAdvert_104 ?_
          refine xv_il15 fL_isAdvert_106 ?_
          refine xv_il16 fL_isAdvert_108 ?_
          refine xv_callS7R (w_advert_1_S n c c J (w := w) (h := h) (by omega) (by omega) (p_advert_f n c I J (x1 := nI ct) (x2 := nI w) (x3 := nI h) (x4 := nI 1) (x5 := -1) (x6 := -1) (okR_n (by omega) (by omega) (by decide)) (okR_n (by omega) (by omega) (by decide)) (okR_n (by omega) (by omega) (by decide)) ⟨by decide, by decide⟩ ⟨by decide, by decide⟩ (by rw [hI.ad.1, h20]))) fL_isAdvert_110 YL_does VL_does lL_113 rfl (Nat.le_of_ble_eq_true rfl) (by decide) (by decide) (by decide) ?_
          refine xv_is17 fL_isAdvert_113 ?_
          refine xv_il11 fL_isAdvert_115 ?_
          refine xv_k fL_isAdvert_117 ?_
          refine xv_ic_eq fL_isAdvert_118 (fun h_118 => ?_) (fun h_118 => ?_)
          · exact absurd ((nI_eq (by omega) (by omega)).mp h_118) (by omega)
          · refine xv_al7 fL_isAdvert_121 ?_
            refine xv_k fL_isAdvert_123 ?_
            refine xv_ialdN fL_isAdvert_124 (sx_69 _ _) (⟨by omega, by decide⟩) ?_
            rw [e690]
            refine xv_k fL_isAdvert_125 ?_
            refine xv_ic_ne fL_isAdvert_127 (fun h_127 => ?_) (fun h_127 => ?_)
            · exact absurd ((nI_eq (by omega) (by omega)).mpr (by omega)) h_127
            · refine xv_il17 fL_isAdvert_130 ?_
              refine xv_il11 fL_isAdvert_132 ?_
              refine xv_k fL_isAdvert_134 ?_
              refine xv_ic_ne fL_isAdvert_135 (fun h_135 => ?_) (fun h_135 => ?_)
              · refine xv_k fL_isAdvert_144 ?_
                refine xv_ic_ne fL_isAdvert_147 (fun h_147 => ?_) (fun h_147 => ?_)
                · exact absurd rfl h_147
                · refine xv_k fL_isAdvert_150 ?_
                  refine xv_goto fL_isAdvert_151 ?_
                  exact xv_iret fL_isAdvert_155 rfl rfl ⟨rfl, c, rfl, rfl, rfl, hI⟩
              · exact absurd ((nI_eq (by omega) (by omega)).mp h_135) (by omega)
        · refine xv_il10 fL_isAdvert_78 ?_
          refine xv_k fL_isAdvert_80 ?_
          refine xv_idiv fL_isAdvert_83 (by decide) ?_
          refine xv_eqi (y := nI (two / 144)) (nI_div h2 (by decide)) ?_
          refine xv_k fL_isAdvert_84 ?_
          refine xv_irem fL_isAdvert_85 (by decide) ?_
          refine xv_eqi (y := nI (two / 144 % 3)) (nI_rem (by omega) (by decide)) ?_
          refine xv_goto fL_isAdvert_86 ?_
          refine xv_is16 fL_isAdvert_90 ?_
          refine xv_al0 fL_isAdvert_92 ?_
          refine xv_k fL_isAdvert_93 ?_
          refine xv_il11 fL_isAdvert_94 ?_
          refine xv_il12 fL_isAdvert_96 ?_
          refine xv_k fL_isAdvert_98 ?_
          refine xv_il13 fL_isAdvert_100 ?_
          refine xv_imul fL_isAdvert_102 ?_
          refine xv_eqi (y := nI (10 * h)) (nI_mul _ _) ?_
          refine xv_iadd fL_isAdvert_103 ?_
          refine xv_eqi (y := nI (w + 10 * h)) (nI_add _ _) ?_
          refine xv_il14 fL_isAdvert_104 ?_
          refine xv_il15 fL_isAdvert_106 ?_
          refine xv_il16 fL_isAdvert_108 ?_
          refine xv_callS7R (w_advert_1_S n c c J (w := w) (h := h) (by omega) (by omega) (p_advert_f n c I J (x1 := nI ct) (x2 := nI w) (x3 := nI h) (x4 := nI 1) (x5 := -1) (x6 := nI (two / 144 % 3)) (okR_n (by omega) (by omega) (by decide)) (okR_n (by omega) (by omega) (by decide)) (okR_n (by omega) (by omega) (by decide)) ⟨by decide, by decide⟩ ⟨fun z => absurd z (fa_nneg (by omega)), nI_le (by omega) (by decide)⟩ (by rw [hI.ad.1, h20]))) fL_isAdvert_110 YL_does VL_does lL_113 rfl (Nat.le_of_ble_eq_true rfl) (by decide) (by decide) (by decide) ?_
          refine xv_is17 fL_isAdvert_113 ?_
          refine xv_il11 fL_isAdvert_115 ?_
          refine xv_k fL_isAdvert_117 ?_
          refine xv_ic_eq fL_isAdvert_118 (fun h_118 => ?_) (fun h_118 => ?_)
          · exact absurd ((nI_eq (by omega) (by omega)).mp h_118) (by omega)
          · refine xv_al7 fL_isAdvert_121 ?_
            refine xv_k fL_isAdvert_123 ?_
            refine xv_ialdN fL_isAdvert_124 (sx_69 _ _) (⟨by omega, by decide⟩) ?_
            rw [e690]
            refine xv_k fL_isAdvert_125 ?_
            refine xv_ic_ne fL_isAdvert_127 (fun h_127 => ?_) (fun h_127 => ?_)
            · exact absurd ((nI_eq (by omega) (by omega)).mpr (by omega)) h_127
            · refine xv_il17 fL_isAdvert_130 ?_
              refine xv_il11 fL_isAdvert_132 ?_
              refine xv_k fL_isAdvert_134 ?_
              refine xv_ic_ne fL_isAdvert_135 (fun h_135 => ?_) (fun h_135 => ?_)
              · refine xv_k fL_isAdvert_144 ?_
                refine xv_ic_ne fL_isAdvert_147 (fun h_147 => ?_) (fun h_147 => ?_)
                · exact absurd rfl h_147
                · refine xv_k fL_isAdvert_150 ?_
                  refine xv_goto fL_isAdvert_151 ?_
                  exact xv_iret fL_isAdvert_155 rfl rfl ⟨rfl, c, rfl, rfl, rfl, hI⟩
              · exact absurd ((nI_eq (by omega) (by omega)).mp h_135) (by omega)
      · refine xv_il10 fL_isAdvert_55 ?_
        refine xv_k fL_isAdvert_57 ?_
        refine xv_idiv fL_isAdvert_59 (by decide) ?_
        refine xv_eqi (y := nI (two / 12)) (nI_div h2 (by decide)) ?_
        refine xv_k fL_isAdvert_60 ?_
        refine xv_irem fL_isAdvert_61 (by decide) ?_
        refine xv_eqi (y := nI (two / 12 % 4)) (nI_rem (by omega) (by decide)) ?_
        refine xv_goto fL_isAdvert_62 ?_
        refine xv_is15 fL_isAdvert_66 ?_
        refine xv_il10 fL_isAdvert_68 ?_
        refine xv_k fL_isAdvert_70 ?_
        refine xv_idiv fL_isAdvert_72 (by decide) ?_
        refine xv_eqi (y := nI (two / 48)) (nI_div h2 (by decide)) ?_
        refine xv_k fL_isAdvert_73 ?_
        refine xv_irem fL_isAdvert_74 (by decide) ?_
        refine xv_eqi (y := nI (two / 48 % 3)) (nI_rem (by omega) (by decide)) ?_
        refine xv_if_ne fL_isAdvert_75 (fun h_75 => ?_) (fun h_75 => ?_)
        · refine xv_k fL_isAdvert_89 ?_
          refine xv_is16 fL_isAdvert_90 ?_
          refine xv_al0 fL_isAdvert_92 ?_
          refine xv_k fL_isAdvert_93 ?_
          refine xv_il11 fL_isAdvert_94 ?_
          refine xv_il12 fL_isAdvert_96 ?_
          refine xv_k fL_isAdvert_98 ?_
          refine xv_il13 fL_isAdvert_100 ?_
          refine xv_imul fL_isAdvert_102 ?_
          refine xv_eqi (y := nI (10 * h)) (nI_mul _ _) ?_
          refine xv_iadd fL_isAdvert_103 ?_
          refine xv_eqi (y := nI (w + 10 * h)) (nI_add _ _) ?_
          refine xv_il14 fL_isAdvert_104 ?_
          refine xv_il15 fL_isAdvert_106 ?_
          refine xv_il16 fL_isAdvert_108 ?_
          refine xv_callS7R (w_advert_1_S n c c J (w := w) (h := h) (by omega) (by omega) (p_advert_f n c I J (x1 := nI ct) (x2 := nI w) (x3 := nI h) (x4 := nI 1) (x5 := nI (two / 12 % 4)) (x6 := -1) (okR_n (by omega) (by omega) (by decide)) (okR_n (by omega) (by omega) (by decide)) (okR_n (by omega) (by omega) (by decide)) ⟨fun z => absurd z (fa_nneg (by omega)), nI_le (by omega) (by decide)⟩ ⟨by decide, by decide⟩ (by rw [hI.ad.1, h20]))) fL_isAdvert_110 YL_does VL_does lL_113 rfl (Nat.le_of_ble_eq_true rfl) (by decide) (by decide) (by decide) ?_
          refine xv_is17 fL_isAdvert_113 ?_
          refine xv_il11 fL_isAdvert_115 ?_
          refine xv_k fL_isAdvert_117 ?_
          refine xv_ic_eq fL_isAdvert_118 (fun h_118 => ?_) (fun h_118 => ?_)
          · exact absurd ((nI_eq (by omega) (by omega)).mp h_118) (by omega)
          · refine xv_al7 fL_isAdvert_121 ?_
            refine xv_k fL_isAdvert_123 ?_
            refine xv_ialdN fL_isAdvert_124 (sx_69 _ _) (⟨by omega, by decide⟩) ?_
            rw [e690]
            refine xv_k fL_isAdvert_125 ?_
            refine xv_ic_ne fL_isAdvert_127 (fun h_127 => ?_) (fun h_127 => ?_)
            · exact absurd ((nI_eq (by omega) (by omega)).mpr (by omega)) h_127
            · refine xv_il17 fL_isAdvert_130 ?_
              refine xv_il11 fL_isAdvert_132 ?_
              refine xv_k fL_isAdvert_134 ?_
              refine xv_ic_ne fL_isAdvert_135 (fun h_135 => ?_) (fun h_135 => ?_)
              · refine xv_k fL_isAdvert_144 ?_
                refine xv_ic_ne fL_isAdvert_147 (fun h_147 => ?_) (fun h_147 => ?_)
                · exact absurd rfl h_147
                · refine xv_k fL_isAdvert_150 ?_
                  refine xv_goto fL_isAdvert_151 ?_
                  exact xv_iret fL_isAdvert_155 rfl rfl ⟨rfl, c, rfl, rfl, rfl, hI⟩
              · exact absurd ((nI_eq (by omega) (by omega)).mp h_135) (by omega)
        · refine xv_il10 fL_isAdvert_78 ?_
          refine xv_k fL_isAdvert_80 ?_
          refine xv_idiv fL_isAdvert_83 (by decide) ?_
          refine xv_eqi (y := nI (two / 144)) (nI_div h2 (by decide)) ?_
          refine xv_k fL_isAdvert_84 ?_
          refine xv_irem fL_isAdvert_85 (by decide) ?_
          refine xv_eqi (y := nI (two / 144 % 3)) (nI_rem (by omega) (by decide)) ?_
          refine xv_goto fL_isAdvert_86 ?_
          refine xv_is16 fL_isAdvert_90 ?_
          refine xv_al0 fL_isAdvert_92 ?_
          refine xv_k fL_isAdvert_93 ?_
          refine xv_il11 fL_isAdvert_94 ?_
          refine xv_il12 fL_isAdvert_96 ?_
          refine xv_k fL_isAdvert_98 ?_
          refine xv_il13 fL_isAdvert_100 ?_
          refine xv_imul fL_isAdvert_102 ?_
          refine xv_eqi (y := nI (10 * h)) (nI_mul _ _) ?_
          refine xv_iadd fL_isAdvert_103 ?_
          refine xv_eqi (y := nI (w + 10 * h)) (nI_add _ _) ?_
          refine xv_il14 fL_isAdvert_104 ?_
          refine xv_il15 fL_isAdvert_106 ?_
          refine xv_il16 fL_isAdvert_108 ?_
          refine xv_callS7R (w_advert_1_S n c c J (w := w) (h := h) (by omega) (by omega) (p_advert_f n c I J (x1 := nI ct) (x2 := nI w) (x3 := nI h) (x4 := nI 1) (x5 := nI (two / 12 % 4)) (x6 := nI (two / 144 % 3)) (okR_n (by omega) (by omega) (by decide)) (okR_n (by omega) (by omega) (by decide)) (okR_n (by omega) (by omega) (by decide)) ⟨fun z => absurd z (fa_nneg (by omega)), nI_le (by omega) (by decide)⟩ ⟨fun z => absurd z (fa_nneg (by omega)), nI_le (by omega) (by decide)⟩ (by rw [hI.ad.1, h20]))) fL_isAdvert_110 YL_does VL_does lL_113 rfl (Nat.le_of_ble_eq_true rfl) (by decide) (by decide) (by decide) ?_
          refine xv_is17 fL_isAdvert_113 ?_
          refine xv_il11 fL_isAdvert_115 ?_
          refine xv_k fL_isAdvert_117 ?_
          refine xv_ic_eq fL_isAdvert_118 (fun h_118 => ?_) (fun h_118 => ?_)
          · exact absurd ((nI_eq (by omega) (by omega)).mp h_118) (by omega)
          · refine xv_al7 fL_isAdvert_121 ?_
            refine xv_k fL_isAdvert_123 ?_
            refine xv_ialdN fL_isAdvert_124 (sx_69 _ _) (⟨by omega, by decide⟩) ?_
            rw [e690]
            refine xv_k fL_isAdvert_125 ?_
            refine xv_ic_ne fL_isAdvert_127 (fun h_127 => ?_) (fun h_127 => ?_)
            · exact absurd ((nI_eq (by omega) (by omega)).mpr (by omega)) h_127
            · refine xv_il17 fL_isAdvert_130 ?_
              refine xv_il11 fL_isAdvert_132 ?_
              refine xv_k fL_isAdvert_134 ?_
              refine xv_ic_ne fL_isAdvert_135 (fun h_135 => ?_) (fun h_135 => ?_)
              · refine xv_k fL_isAdvert_144 ?_
                refine xv_ic_ne fL_isAdvert_147 (fun h_147 => ?_) (fun h_147 => ?_)
                · exact absurd rfl h_147
                · refine xv_k fL_isAdvert_150 ?_
                  refine xv_goto fL_isAdvert_151 ?_
                  exact xv_iret fL_isAdvert_155 rfl rfl ⟨rfl, c, rfl, rfl, rfl, hI⟩
              · exact absurd ((nI_eq (by omega) (by omega)).mp h_135) (by omega)
theorem adv_born {c : Nat × Nat} {I I1 : xv_I} (hI : Inv c I) (hc : c.1 < 20) {ct w h col sec zo : Nat} {x5 x6 : Int32} (a1 : ct < 4) (a2 : 1 ≤ w ∧ w ≤ 3) (a3 : 1 ≤ h ∧ h ≤ 4) (a4 : col < 2) (a5 : sec ≤ 4) (a6 : zo ≤ 3) (s5 : opt x5 sec) (s6 : opt x6 zo) (hO : ∀ v j, v ≠ 100 + c.1 → (v ≠ 0 ∨ j ≠ 3) → I1 v j = I v j) (hI1 : I1 = xv_u (xAd (100 + c.1) (nI ct) (nI w) (nI h) (nI col) x5 x6 (xv_z I (100 + c.1) 0)) 0 3 (nI (c.1 + 1))) : Inv (c.1 + 1, c.2) (xv_u (xv_u (xv_u I1 61 c.1 (nI (adv ct w h col sec zo))) 62 c.1 (-1)) 69 0 (nI (c.1 + 1))) := by
  have hf : ∀ j, I1 (100 + c.1) j = xAd (100 + c.1) (nI ct) (nI w) (nI h) (nI col) x5 x6 (xv_z I (100 + c.1) 0) (100 + c.1) j := fun j => by
    rw [hI1]
    exact xv_u_ne _ _ _ (by omega)
  have hk : ∀ j, xv_u (xv_u (xv_u I1 61 c.1 (nI (adv ct w h col sec zo))) 62 c.1 (-1)) 69 0 (nI (c.1 + 1)) (100 + c.1) j = xAd (100 + c.1) (nI ct) (nI w) (nI h) (nI col) x5 x6 (xv_z I (100 + c.1) 0) (100 + c.1) j := fun j => by
    rw [xv_u_ne _ _ _ (by omega), xv_u_ne _ _ _ (by omega), xv_u_ne _ _ _ (by omega), hf]
  refine hI.newAd hc a1 a2 a3 a4 a5 a6 ?_ ?_ ?_ ?_ ?_ ?_ ?_ ?_ ?_ ?_ ?_ (fun v j g1 g2 g3 g4 g5 => ?_)
  · rw [hk]; unfold xAd xv_u; simp
  · rw [hk]; unfold xAd xv_u; simp
  · rw [hk]; unfold xAd xv_u; simp
  · rw [hk]; unfold xAd xv_u; simp
  · rw [hk]; unfold xAd xv_u; simp; exact s5
  · rw [hk]; unfold xAd xv_u; simp; exact s6
  · rw [hk]; unfold xAd xv_u; simp
  · rw [xv_u_ne _ _ _ (by decide), xv_u_ne _ _ _ (by decide), xv_u_eq]
  · rw [xv_u_ne _ _ _ (by decide), xv_u_eq]
  · rw [xv_u_ne _ _ _ (by decide), xv_u_ne _ _ _ (by decide), xv_u_ne _ _ _ (by decide), hI1, xv_u_eq]
  · rw [xv_u_eq]
  · unfold xv_u
    rw [if_neg (by omega), if_neg (by omega), if_neg (by omega)]
    exact hO v j g1 g2
theorem a_adv_ok (n : Nat) (c : Nat × Nat) (I : xv_I) (J : xv_J) {one two : Nat} (h1 : one < 2 ^ 31) (h2 : two < 2 ^ 31) (hn : n < 1000) (hI : Inv c I) {ct w h : Nat} (ect : one % 5 = ct) (ew : 1 + one / 5 % 3 = w) (eh : 1 + one / 15 % 4 = h) (h4 : ct < 4) (h20 : c.1 < 20) : xv_Met mL_isAdvert 11 64 512 (sx n c) I (rx c) J [.ref 0, .ref 60, .ref 61, .ref 62, .ref 65, .ref 66, .ref 67, .ref 69, .int (nI 0), .int (nI one), .int (nI two)] (qI n J) := by
  have hn9 := hI.ad.2.2.1
  have hn8 := hI.st.2.2.1
  have e690 := hI.ad.2.1
  have hct5 : ct < 5 := by omega
  have hw : 1 ≤ w ∧ w ≤ 3 := by omega
  have hh : 1 ≤ h ∧ h ≤ 4 := by omega
  refine xv_Met.of (by decide +kernel) (Nat.le_of_ble_eq_true rfl) (List.forall_mem_cons.mpr ⟨rfl, List.forall_mem_cons.mpr ⟨rfl, List.forall_mem_cons.mpr ⟨rfl, List.forall_mem_cons.mpr ⟨rfl, List.forall_mem_cons.mpr ⟨rfl, List.forall_mem_cons.mpr ⟨rfl, List.forall_mem_cons.mpr ⟨rfl, List.forall_mem_cons.mpr ⟨rfl, List.forall_mem_cons.mpr ⟨rfl, List.forall_mem_cons.mpr ⟨rfl, List.forall_mem_cons.mpr ⟨rfl, fun _ h => nomatch h⟩⟩⟩⟩⟩⟩⟩⟩⟩⟩⟩) ?_
  show xv_W mL_isAdvert 11 64 512 _ 64 512 (sx n c) I (rx c) J 0 [some (.ref 0), some (.ref 60), some (.ref 61), some (.ref 62), some (.ref 65), some (.ref 66), some (.ref 67), some (.ref 69), some (.int (nI 0)), some (.int (nI one)), some (.int (nI two)), none, none, none, none, none, none, none] []
  refine xv_il8 fL_isAdvert_0 ?_
  refine xv_if_ne fL_isAdvert_2 (fun h_2 => ?_) (fun h_2 => ?_)
  · exact absurd h_2 (by decide)
  · refine xv_il9 fL_isAdvert_5 ?_
    refine xv_k fL_isAdvert_7 ?_
    refine xv_irem fL_isAdvert_8 (by decide) ?_
    refine xv_eqi (y := nI ct) (by rw [nI_rem h1 (by decide), ect]) ?_
    refine xv_is11 fL_isAdvert_9 ?_
    refine xv_k fL_isAdvert_11 ?_
    refine xv_il9 fL_isAdvert_12 ?_
    refine xv_k fL_isAdvert_14 ?_
    refine xv_idiv fL_isAdvert_15 (by decide) ?_
    refine xv_eqi (y := nI (one / 5)) (nI_div h1 (by decide)) ?_
    refine xv_k fL_isAdvert_16 ?_
    refine xv_irem fL_isAdvert_17 (by decide) ?_
    refine xv_eqi (y := nI (one / 5 % 3)) (nI_rem (by omega) (by decide)) ?_
    refine xv_iadd fL_isAdvert_18 ?_
    refine xv_eqi (y := nI w) (by rw [nI_add, ew]) ?_
    refine xv_is12 fL_isAdvert_19 ?_
    refine xv_k fL_isAdvert_21 ?_
    refine xv_il9 fL_isAdvert_22 ?_
    refine xv_k fL_isAdvert_24 ?_
    refine xv_idiv fL_isAdvert_26 (by decide) ?_
    refine xv_eqi (y := nI (one / 15)) (nI_div h1 (by decide)) ?_
    refine xv_k fL_isAdvert_27 ?_
    refine xv_irem fL_isAdvert_28 (by decide) ?_
    refine xv_eqi (y := nI (one / 15 % 4)) (nI_rem (by omega) (by decide)) ?_
    refine xv_iadd fL_isAdvert_29 ?_
    refine xv_eqi (y := nI h) (by rw [nI_add, eh]) ?_
    refine xv_is13 fL_isAdvert_30 ?_
    refine xv_il10 fL_isAdvert_32 ?_
    refine xv_k fL_isAdvert_34 ?_
    refine xv_irem fL_isAdvert_35 (by decide) ?_
    refine xv_eqi (y := nI (two % 4)) (nI_rem h2 (by decide)) ?_
    refine xv_if_ne fL_isAdvert_36 (fun h_36 => ?_) (fun h_36 => ?_)
    · refine xv_k fL_isAdvert_43 ?_
      refine xv_is14 fL_isAdvert_44 ?_
      refine xv_il10 fL_isAdvert_46 ?_
      refine xv_k fL_isAdvert_48 ?_
      refine xv_idiv fL_isAdvert_49 (by decide) ?_
      refine xv_eqi (y := nI (two / 4)) (nI_div h2 (by decide)) ?_
      refine xv_k fL_isAdvert_50 ?_
      refine xv_irem fL_isAdvert_51 (by decide) ?_
      refine xv_eqi (y := nI (two / 4 % 3)) (nI_rem (by omega) (by decide)) ?_
      refine xv_if_ne fL_isAdvert_52 (fun h_52 => ?_) (fun h_52 => ?_)
      · refine xv_k fL_isAdvert_65 ?_
        refine xv_is15 fL_isAdvert_66 ?_
        refine xv_il10 fL_isAdvert_68 ?_
        refine xv_k fL_isAdvert_70 ?_
        refine xv_idiv fL_isAdvert_72 (by decide) ?_
        refine xv_eqi (y := nI (two / 48)) (nI_div h2 (by decide)) ?_
        refine xv_k fL_isAdvert_73 ?_
        refine xv_irem fL_isAdvert_74 (by decide) ?_
        refine xv_eqi (y := nI (two / 48 % 3)) (nI_rem (by omega) (by decide)) ?_
        refine xv_if_ne fL_isAdvert_75 (fun h_75 => ?_) (fun h_75 => ?_)
        · refine xv_k fL_isAdvert_89 ?_
          refine xv_is16 fL_isAdvert_90 ?_
          refine xv_al0 fL_isAdvert_92 ?_
          refine xv_k fL_isAdvert_93 ?_
          refine xv_il11 fL_isAdvert_94 ?_
          refine xv_il12 fL_isAdvert_96 ?_
          refine xv_k fL_isAdvert_98 ?_
          refine xv_il13 fL_isAdvert_100 ?_
          refine xv_imul fL_isAdvert_102 ?_
          refine xv_eqi (y := nI (10 * h)) (nI_mul _ _) ?_
          refine xv_iadd fL_isAdvert_103 ?_
          refine xv_eqi (y := nI (w + 10 * h)) (nI_add _ _) ?_
          refine xv_il14 fL_isAdvert_104 ?_
          refine xv_il15 fL_isAdvert_106 ?_
          refine xv_il16 fL_isAdvert_108 ?_
          obtain ⟨I1, hI1⟩ : ∃ I1, I1 = xv_u (xAd (100 + c.1) (nI ct) (nI w) (nI h) (nI 0) (-1) (-1) (xv_z I (100 + c.1) 0)) 0 3 (nI (c.1 + 1)) := ⟨_, rfl⟩
          obtain hO : ∀ v j, v ≠ 100 + c.1 → (v ≠ 0 ∨ j ≠ 3) → I1 v j = I v j := fun v j g1 g2 => by
            rw [hI1]
            unfold xAd xv_u xv_z
            rw [if_neg (by omega), if_neg (by omega), if_neg (by omega), if_neg (by omega), if_neg (by omega), if_neg (by omega), if_neg (by omega), if_neg (by omega), if_neg (by omega), if_neg g1]
          obtain e69 : I1 69 0 = nI c.1 := (hO _ _ (by omega) (by omega)).trans e690
          refine xv_callS7R (w_advert_0_ok n c (c.1 + 1, c.2) J (I' := I1) (w := w) (h := h) (by omega) (by omega) (by rw [hI1]; exact p_advert_ok n c I J (x1 := nI ct) (x2 := nI w) (x3 := nI h) (x4 := nI 0) (x5 := -1) (x6 := -1) (okR_n (by omega) (by omega) (by decide)) (okR_n (by omega) (by omega) (by decide)) (okR_n (by omega) (by omega) (by decide)) ⟨by decide, by decide⟩ ⟨by decide, by decide⟩ ⟨by decide, by decide⟩ hI.ad.1 h20)) fL_isAdvert_110 YL_does VL_does lL_113 rfl (Nat.le_of_ble_eq_true rfl) (by decide) (by decide) (by decide) ?_
          refine xv_is17 fL_isAdvert_113 ?_
          refine xv_il11 fL_isAdvert_115 ?_
          refine xv_k fL_isAdvert_117 ?_
          refine xv_ic_eq fL_isAdvert_118 (fun h_118 => ?_) (fun h_118 => ?_)
          · exact absurd ((nI_eq (by omega) (by omega)).mp h_118) (by omega)
          · refine xv_al7 fL_isAdvert_121 ?_
            refine xv_k fL_isAdvert_123 ?_
            refine xv_ialdN fL_isAdvert_124 (sx_69 _ _) (⟨by omega, by decide⟩) ?_
            rw [e69]
            refine xv_k fL_isAdvert_125 ?_
            refine xv_ic_ne fL_isAdvert_127 (fun h_127 => ?_) (fun h_127 => ?_)
            · refine xv_al2 fL_isAdvert_156 ?_
              refine xv_al7 fL_isAdvert_157 ?_
              refine xv_k fL_isAdvert_159 ?_
              refine xv_ialdN fL_isAdvert_160 (sx_69 _ _) (⟨by omega, by decide⟩) ?_
              rw [e69]
              refine xv_il11 fL_isAdvert_161 ?_
              refine xv_k fL_isAdvert_163 ?_
              refine xv_il12 fL_isAdvert_165 ?_
              refine xv_imul fL_isAdvert_167 ?_
              refine xv_eqi (y := nI (10 * w)) (nI_mul _ _) ?_
              refine xv_iadd fL_isAdvert_168 ?_
              refine xv_eqi (y := nI (ct + 10 * w)) (nI_add _ _) ?_
              refine xv_k fL_isAdvert_169 ?_
              refine xv_il13 fL_isAdvert_171 ?_
              refine xv_imul fL_isAdvert_173 ?_
              refine xv_eqi (y := nI (100 * h)) (nI_mul _ _) ?_
              refine xv_iadd fL_isAdvert_174 ?_
              refine xv_eqi (y := nI (ct + 10 * w + 100 * h)) (nI_add _ _) ?_
              refine xv_k fL_isAdvert_175 ?_
              refine xv_il14 fL_isAdvert_178 ?_
              refine xv_imul fL_isAdvert_180 ?_
              refine xv_eqi (y := nI (1000 * 0)) (nI_mul _ _) ?_
              refine xv_iadd fL_isAdvert_181 ?_
              refine xv_eqi (y := nI (ct + 10 * w + 100 * h + 1000 * 0)) (nI_add _ _) ?_
              refine xv_k fL_isAdvert_182 ?_
              refine xv_il15 fL_isAdvert_185 ?_
              refine xv_k fL_isAdvert_187 ?_
              refine xv_iadd fL_isAdvert_188 ?_
              refine xv_eqi (y := nI (0)) (by decide) ?_
              refine xv_imul fL_isAdvert_189 ?_
              refine xv_eqi (y := nI (10000 * (0))) (nI_mul _ _) ?_
              refine xv_iadd fL_isAdvert_190 ?_
              refine xv_eqi (y := nI (ct + 10 * w + 100 * h + 1000 * 0 + 10000 * (0))) (nI_add _ _) ?_
              refine xv_k fL_isAdvert_191 ?_
              refine xv_il16 fL_isAdvert_193 ?_
              refine xv_k fL_isAdvert_195 ?_
              refine xv_iadd fL_isAdvert_196 ?_
              refine xv_eqi (y := nI (0)) (by decide) ?_
              refine xv_imul fL_isAdvert_197 ?_
              refine xv_eqi (y := nI (100000 * (0))) (nI_mul _ _) ?_
              refine xv_iadd fL_isAdvert_198 ?_
              refine xv_eqi (y := nI (adv ct w h 0 (0) (0))) (nI_add _ _) ?_
              refine xv_iastN fL_isAdvert_199 (sx_61 _ _) (⟨by omega, by decide⟩) ?_
              refine xv_al3 fL_isAdvert_200 ?_
              refine xv_al7 fL_isAdvert_201 ?_
              refine xv_k fL_isAdvert_203 ?_
              refine xv_ialdN fL_isAdvert_204 (sx_69 _ _) (⟨by omega, by decide⟩) ?_
              rw [xv_u_ne _ _ _ (by decide), e69]
              refine xv_k fL_isAdvert_205 ?_
              refine xv_iastN fL_isAdvert_206 (sx_62 _ _) (⟨by omega, by decide⟩) ?_
              refine xv_al7 fL_isAdvert_207 ?_
              refine xv_k fL_isAdvert_209 ?_
              refine xv_dup2 fL_isAdvert_210 ?_
              refine xv_ialdN fL_isAdvert_211 (sx_69 _ _) (⟨by omega, by decide⟩) ?_
              rw [xv_u_ne _ _ _ (by decide), xv_u_ne _ _ _ (by decide), e69]
              refine xv_k fL_isAdvert_212 ?_
              refine xv_iadd fL_isAdvert_213 ?_
              refine xv_eqi (y := nI (c.1 + 1)) (nI_add _ _) ?_
              refine xv_iastN fL_isAdvert_214 (sx_69 _ _) (⟨by omega, by decide⟩) ?_
              refine xv_il17 fL_isAdvert_215 ?_
              refine xv_al7 fL_isAdvert_217 ?_
              refine xv_k fL_isAdvert_219 ?_
              refine xv_ialdN fL_isAdvert_220 (sx_69 _ _) (⟨by omega, by decide⟩) ?_
              rw [xv_u_eq]
              refine xv_k fL_isAdvert_221 ?_
              refine xv_isub fL_isAdvert_222 ?_
              refine xv_eqi (y := nI c.1) (nI_pred c.1) ?_
              refine xv_ic_ne fL_isAdvert_223 (fun h_223 => ?_) (fun h_223 => ?_)
              · exact absurd rfl h_223
              · refine xv_al0 fL_isAdvert_226 ?_
                refine xv_k fL_isAdvert_227 ?_
                refine xv_k fL_isAdvert_228 ?_
                refine xv_k fL_isAdvert_229 ?_
                refine xv_k fL_isAdvert_231 ?_
                refine xv_k fL_isAdvert_232 ?_
                refine xv_k fL_isAdvert_233 ?_
                refine xv_callS7R (w_advert_0_A n (c.1 + 1, c.2) (c.1 + 1, c.2) J (w := 4) (h := 1) (by decide) (by decide) (p_advert_b n (c.1 + 1, c.2) _ J (x1 := nI 0) (x2 := nI 4) (x3 := nI 1) (x4 := nI 0) (x5 := nI 0) (x6 := nI 0) (okR_n (by decide) (by decide) (by decide)) (fun z => nI_ge (by decide) (by decide) z.2))) fL_isAdvert_234 YL_does VL_does lL_113 rfl (Nat.le_of_ble_eq_true rfl) (by decide) (by decide) (by decide) ?_
                refine xv_k fL_isAdvert_237 ?_
                refine xv_ic_ne fL_isAdvert_240 (fun h_240 => ?_) (fun h_240 => ?_)
                · exact absurd rfl h_240
                · refine xv_k fL_isAdvert_243 ?_
                  refine xv_goto fL_isAdvert_244 ?_
                  exact xv_iret fL_isAdvert_248 rfl rfl ⟨rfl, (c.1 + 1, c.2), rfl, rfl, rfl, adv_born (x5 := -1) (x6 := -1) hI h20 h4 hw hh (show 0 < 2 by decide) (show 0 ≤ 4 by omega) (show 0 ≤ 3 by omega) (Or.inl ⟨rfl, rfl⟩) (Or.inl ⟨rfl, rfl⟩) hO (by rw [hI1])⟩
            · exact absurd ((nI_eq (by omega) (by omega)).mp h_127) (by omega)
        · refine xv_il10 fL_isAdvert_78 ?_
          refine xv_k fL_isAdvert_80 ?_
          refine xv_idiv fL_isAdvert_83 (by decide) ?_
          refine xv_eqi (y := nI (two / 144)) (nI_div h2 (by decide)) ?_
          refine xv_k fL_isAdvert_84 ?_
          refine xv_irem fL_isAdvert_85 (by decide) ?_
          refine xv_eqi (y := nI (two / 144 % 3)) (nI_rem (by omega) (by decide)) ?_
          refine xv_goto fL_isAdvert_86 ?_
          refine xv_is16 fL_isAdvert_90 ?_
          refine xv_al0 fL_isAdvert_92 ?_
          refine xv_k fL_isAdvert_93 ?_
          refine xv_il11 fL_isAdvert_94 ?_
          refine xv_il12 fL_isAdvert_96 ?_
          refine xv_k fL_isAdvert_98 ?_
          refine xv_il13 fL_isAdvert_100 ?_
          refine xv_imul fL_isAdvert_102 ?_
          refine xv_eqi (y := nI (10 * h)) (nI_mul _ _) ?_
          refine xv_iadd fL_isAdvert_103 ?_
          refine xv_eqi (y := nI (w + 10 * h)) (nI_add _ _) ?_
          refine xv_il14 fL_isAdvert_104 ?_
          refine xv_il15 fL_isAdvert_106 ?_
          refine xv_il16 fL_isAdvert_108 ?_
          obtain ⟨I1, hI1⟩ : ∃ I1, I1 = xv_u (xAd (100 + c.1) (nI ct) (nI w) (nI h) (nI 0) (-1) (nI (two / 144 % 3)) (xv_z I (100 + c.1) 0)) 0 3 (nI (c.1 + 1)) := ⟨_, rfl⟩
          obtain hO : ∀ v j, v ≠ 100 + c.1 → (v ≠ 0 ∨ j ≠ 3) → I1 v j = I v j := fun v j g1 g2 => by
            rw [hI1]
            unfold xAd xv_u xv_z
            rw [if_neg (by omega), if_neg (by omega), if_neg (by omega), if_neg (by omega), if_neg (by omega), if_neg (by omega), if_neg (by omega), if_neg (by omega), if_neg (by omega), if_neg g1]
          obtain e69 : I1 69 0 = nI c.1 := (hO _ _ (by omega) (by omega)).trans e690
          refine xv_callS7R (w_advert_0_ok n c (c.1 + 1, c.2) J (I' := I1) (w := w) (h := h) (by omega) (by omega) (by rw [hI1]; exact p_advert_ok n c I J (x1 := nI ct) (x2 := nI w) (x3 := nI h) (x4 := nI 0) (x5 := -1) (x6 := nI (two / 144 % 3)) (okR_n (by omega) (by omega) (by decide)) (okR_n (by omega) (by omega) (by decide)) (okR_n (by omega) (by omega) (by decide)) ⟨by decide, by decide⟩ ⟨fun z => absurd z (fa_nneg (by omega)), nI_le (by omega) (by decide)⟩ ⟨by decide, by decide⟩ hI.ad.1 h20)) fL_isAdvert_110 YL_does VL_does lL_113 rfl (Nat.le_of_ble_eq_true rfl) (by decide) (by decide) (by decide) ?_
          refine xv_is17 fL_isAdvert_113 ?_
          refine xv_il11 fL_isAdvert_115 ?_
          refine xv_k fL_isAdvert_117 ?_
          refine xv_ic_eq fL_isAdvert_118 (fun h_118 => ?_) (fun h_118 => ?_)
          · exact absurd ((nI_eq (by omega) (by omega)).mp h_118) (by omega)
          · refine xv_al7 fL_isAdvert_121 ?_
            refine xv_k fL_isAdvert_123 ?_
            refine xv_ialdN fL_isAdvert_124 (sx_69 _ _) (⟨by omega, by decide⟩) ?_
            rw [e69]
            refine xv_k fL_isAdvert_125 ?_
            refine xv_ic_ne fL_isAdvert_127 (fun h_127 => ?_) (fun h_127 => ?_)
            · refine xv_al2 fL_isAdvert_156 ?_
              refine xv_al7 fL_isAdvert_157 ?_
              refine xv_k fL_isAdvert_159 ?_
              refine xv_ialdN fL_isAdvert_160 (sx_69 _ _) (⟨by omega, by decide⟩) ?_
              rw [e69]
              refine xv_il11 fL_isAdvert_161 ?_
              refine xv_k fL_isAdvert_163 ?_
              refine xv_il12 fL_isAdvert_165 ?_
              refine xv_imul fL_isAdvert_167 ?_
              refine xv_eqi (y := nI (10 * w)) (nI_mul _ _) ?_
              refine xv_iadd fL_isAdvert_168 ?_
              refine xv_eqi (y := nI (ct + 10 * w)) (nI_add _ _) ?_
              refine xv_k fL_isAdvert_169 ?_
              refine xv_il13 fL_isAdvert_171 ?_
              refine xv_imul fL_isAdvert_173 ?_
              refine xv_eqi (y := nI (100 * h)) (nI_mul _ _) ?_
              refine xv_iadd fL_isAdvert_174 ?_
              refine xv_eqi (y := nI (ct + 10 * w + 100 * h)) (nI_add _ _) ?_
              refine xv_k fL_isAdvert_175 ?_
              refine xv_il14 fL_isAdvert_178 ?_
              refine xv_imul fL_isAdvert_180 ?_
              refine xv_eqi (y := nI (1000 * 0)) (nI_mul _ _) ?_
              refine xv_iadd fL_isAdvert_181 ?_
              refine xv_eqi (y := nI (ct + 10 * w + 100 * h + 1000 * 0)) (nI_add _ _) ?_
              refine xv_k fL_isAdvert_182 ?_
              refine xv_il15 fL_isAdvert_185 ?_
              refine xv_k fL_isAdvert_187 ?_
              refine xv_iadd fL_isAdvert_188 ?_
              refine xv_eqi (y := nI (0)) (by decide) ?_
              refine xv_imul fL_isAdvert_189 ?_
              refine xv_eqi (y := nI (10000 * (0))) (nI_mul _ _) ?_
              refine xv_iadd fL_isAdvert_190 ?_
              refine xv_eqi (y := nI (ct + 10 * w + 100 * h + 1000 * 0 + 10000 * (0))) (nI_add _ _) ?_
              refine xv_k fL_isAdvert_191 ?_
              refine xv_il16 fL_isAdvert_193 ?_
              refine xv_k fL_isAdvert_195 ?_
              refine xv_iadd fL_isAdvert_196 ?_
              refine xv_eqi (y := nI (two / 144 % 3 + 1)) (nI_add _ _) ?_
              refine xv_imul fL_isAdvert_197 ?_
              refine xv_eqi (y := nI (100000 * (two / 144 % 3 + 1))) (nI_mul _ _) ?_
              refine xv_iadd fL_isAdvert_198 ?_
              refine xv_eqi (y := nI (adv ct w h 0 (0) (two / 144 % 3 + 1))) (nI_add _ _) ?_
              refine xv_iastN fL_isAdvert_199 (sx_61 _ _) (⟨by omega, by decide⟩) ?_
              refine xv_al3 fL_isAdvert_200 ?_
              refine xv_al7 fL_isAdvert_201 ?_
              refine xv_k fL_isAdvert_203 ?_
              refine xv_ialdN fL_isAdvert_204 (sx_69 _ _) (⟨by omega, by decide⟩) ?_
              rw [xv_u_ne _ _ _ (by decide), e69]
              refine xv_k fL_isAdvert_205 ?_
              refine xv_iastN fL_isAdvert_206 (sx_62 _ _) (⟨by omega, by decide⟩) ?_
              refine xv_al7 fL_isAdvert_207 ?_
              refine xv_k fL_isAdvert_209 ?_
              refine xv_dup2 fL_isAdvert_210 ?_
              refine xv_ialdN fL_isAdvert_211 (sx_69 _ _) (⟨by omega, by decide⟩) ?_
              rw [xv_u_ne _ _ _ (by decide), xv_u_ne _ _ _ (by decide), e69]
              refine xv_k fL_isAdvert_212 ?_
              refine xv_iadd fL_isAdvert_213 ?_
              refine xv_eqi (y := nI (c.1 + 1)) (nI_add _ _) ?_
              refine xv_iastN fL_isAdvert_214 (sx_69 _ _) (⟨by omega, by decide⟩) ?_
              refine xv_il17 fL_isAdvert_215 ?_
              refine xv_al7 fL_isAdvert_217 ?_
              refine xv_k fL_isAdvert_219 ?_
              refine xv_ialdN fL_isAdvert_220 (sx_69 _ _) (⟨by omega, by decide⟩) ?_
              rw [xv_u_eq]
              refine xv_k fL_isAdvert_221 ?_
              refine xv_isub fL_isAdvert_222 ?_
              refine xv_eqi (y := nI c.1) (nI_pred c.1) ?_
              refine xv_ic_ne fL_isAdvert_223 (fun h_223 => ?_) (fun h_223 => ?_)
              · exact absurd rfl h_223
              · refine xv_al0 fL_isAdvert_226 ?_
                refine xv_k fL_isAdvert_227 ?_
                refine xv_k fL_isAdvert_228 ?_
                refine xv_k fL_isAdvert_229 ?_
                refine xv_k fL_isAdvert_231 ?_
                refine xv_k fL_isAdvert_232 ?_
                refine xv_k fL_isAdvert_233 ?_
                refine xv_callS7R (w_advert_0_A n (c.1 + 1, c.2) (c.1 + 1, c.2) J (w := 4) (h := 1) (by decide) (by decide) (p_advert_b n (c.1 + 1, c.2) _ J (x1 := nI 0) (x2 := nI 4) (x3 := nI 1) (x4 := nI 0) (x5 := nI 0) (x6 := nI 0) (okR_n (by decide) (by decide) (by decide)) (fun z => nI_ge (by decide) (by decide) z.2))) fL_isAdvert_234 YL_does VL_does lL_113 rfl (Nat.le_of_ble_eq_true rfl) (by decide) (by decide) (by decide) ?_
                refine xv_k fL_isAdvert_237 ?_
                refine xv_ic_ne fL_isAdvert_240 (fun h_240 => ?_) (fun h_240 => ?_)
                · exact absurd rfl h_240
                · refine xv_k fL_isAdvert_243 ?_
                  refine xv_goto fL_isAdvert_244 ?_
                  exact xv_iret fL_isAdvert_248 rfl rfl ⟨rfl, (c.1 + 1, c.2), rfl, rfl, rfl, adv_born (x5 := -1) (x6 := nI (two / 144 % 3)) hI h20 h4 hw hh (show 0 < 2 by decide) (show 0 ≤ 4 by omega) (show two / 144 % 3 + 1 ≤ 3 by omega) (Or.inl ⟨rfl, rfl⟩) (Or.inr ⟨by omega, rfl⟩) hO (by rw [hI1])⟩
            · exact absurd ((nI_eq (by omega) (by omega)).mp h_127) (by omega)
      · refine xv_il10 fL_isAdvert_55 ?_
        refine xv_k fL_isAdvert_57 ?_
        refine xv_idiv fL_isAdvert_59 (by decide) ?_
        refine xv_eqi (y := nI (two / 12)) (nI_div h2 (by decide)) ?_
        refine xv_k fL_isAdvert_60 ?_
        refine xv_irem fL_isAdvert_61 (by decide) ?_
        refine xv_eqi (y := nI (two / 12 % 4)) (nI_rem (by omega) (by decide)) ?_
        refine xv_goto fL_isAdvert_62 ?_
        refine xv_is15 fL_isAdvert_66 ?_
        refine xv_il10 fL_isAdvert_68 ?_
        refine xv_k fL_isAdvert_70 ?_
        refine xv_idiv fL_isAdvert_72 (by decide) ?_
        refine xv_eqi (y := nI (two / 48)) (nI_div h2 (by decide)) ?_
        refine xv_k fL_isAdvert_73 ?_
        refine xv_irem fL_isAdvert_74 (by decide) ?_
        refine xv_eqi (y := nI (two / 48 % 3)) (nI_rem (by omega) (by decide)) ?_
        refine xv_if_ne fL_isAdvert_75 (fun h_75 => ?_) (fun h_75 => ?_)
        · refine xv_k fL_isAdvert_89 ?_
          refine xv_is16 fL_isAdvert_90 ?_
          refine xv_al0 fL_isAdvert_92 ?_
          refine xv_k fL_isAdvert_93 ?_
          refine xv_il11 fL_isAdvert_94 ?_
          refine xv_il12 fL_isAdvert_96 ?_
          refine xv_k fL_isAdvert_98 ?_
          refine xv_il13 fL_isAdvert_100 ?_
          refine xv_imul fL_isAdvert_102 ?_
          refine xv_eqi (y := nI (10 * h)) (nI_mul _ _) ?_
          refine xv_iadd fL_isAdvert_103 ?_
          refine xv_eqi (y := nI (w + 10 * h)) (nI_add _ _) ?_
          refine xv_il14 fL_isAdvert_104 ?_
          refine xv_il15 fL_isAdvert_106 ?_
          refine xv_il16 fL_isAdvert_108 ?_
          obtain ⟨I1, hI1⟩ : ∃ I1, I1 = xv_u (xAd (100 + c.1) (nI ct) (nI w) (nI h) (nI 0) (nI (two / 12 % 4)) (-1) (xv_z I (100 + c.1) 0)) 0 3 (nI (c.1 + 1)) := ⟨_, rfl⟩
          obtain hO : ∀ v j, v ≠ 100 + c.1 → (v ≠ 0 ∨ j ≠ 3) → I1 v j = I v j := fun v j g1 g2 => by
            rw [hI1]
            unfold xAd xv_u xv_z
            rw [if_neg (by omega), if_neg (by omega), if_neg (by omega), if_neg (by omega), if_neg (by omega), if_neg (by omega), if_neg (by omega), if_neg (by omega), if_neg (by omega), if_neg g1]
          obtain e69 : I1 69 0 = nI c.1 := (hO _ _ (by omega) (by omega)).trans e690
          refine xv_callS7R (w_advert_0_ok n c (c.1 + 1, c.2) J (I' := I1) (w := w) (h := h) (by omega) (by omega) (by rw [hI1]; exact p_advert_ok n c I J (x1 := nI ct) (x2 := nI w) (x3 := nI h) (x4 := nI 0) (x5 := nI (two / 12 % 4)) (x6 := -1) (okR_n (by omega) (by omega) (by decide)) (okR_n (by omega) (by omega) (by decide)) (okR_n (by omega) (by omega) (by decide)) ⟨fun z => absurd z (fa_nneg (by omega)), nI_le (by omega) (by decide)⟩ ⟨by decide, by decide⟩ ⟨by decide, by decide⟩ hI.ad.1 h20)) fL_isAdvert_110 YL_does VL_does lL_113 rfl (Nat.le_of_ble_eq_true rfl) (by decide) (by decide) (by decide) ?_
          refine xv_is17 fL_isAdvert_113 ?_
          refine xv_il11 fL_isAdvert_115 ?_
          refine xv_k fL_isAdvert_117 ?_
          refine xv_ic_eq fL_isAdvert_118 (fun h_118 => ?_) (fun h_118 => ?_)
          · exact absurd ((nI_eq (by omega) (by omega)).mp h_118) (by omega)
          · refine xv_al7 fL_isAdvert_121 ?_
            refine xv_k fL_isAdvert_123 ?_
            refine xv_ialdN fL_isAdvert_124 (sx_69 _ _) (⟨by omega, by decide⟩) ?_
            rw [e69]
            refine xv_k fL_isAdvert_125 ?_
            refine xv_ic_ne fL_isAdvert_127 (fun h_127 => ?_) (fun h_127 => ?_)
            · refine xv_al2 fL_isAdvert_156 ?_
              refine xv_al7 fL_isAdvert_157 ?_
              refine xv_k fL_isAdvert_159 ?_
              refine xv_ialdN fL_isAdvert_160 (sx_69 _ _) (⟨by omega, by decide⟩) ?_
              rw [e69]
              refine xv_il11 fL_isAdvert_161 ?_
              refine xv_k fL_isAdvert_163 ?_
              refine xv_il12 fL_isAdvert_165 ?_
              refine xv_imul fL_isAdvert_167 ?_
              refine xv_eqi (y := nI (10 * w)) (nI_mul _ _) ?_
              refine xv_iadd fL_isAdvert_168 ?_
              refine xv_eqi (y := nI (ct + 10 * w)) (nI_add _ _) ?_
              refine xv_k fL_isAdvert_169 ?_
              refine xv_il13 fL_isAdvert_171 ?_
              refine xv_imul fL_isAdvert_173 ?_
              refine xv_eqi (y := nI (100 * h)) (nI_mul _ _) ?_
              refine xv_iadd fL_isAdvert_174 ?_
              refine xv_eqi (y := nI (ct + 10 * w + 100 * h)) (nI_add _ _) ?_
              refine xv_k fL_isAdvert_175 ?_
              refine xv_il14 fL_isAdvert_178 ?_
              refine xv_imul fL_isAdvert_180 ?_
              refine xv_eqi (y := nI (1000 * 0)) (nI_mul _ _) ?_
              refine xv_iadd fL_isAdvert_181 ?_
              refine xv_eqi (y := nI (ct + 10 * w + 100 * h + 1000 * 0)) (nI_add _ _) ?_
              refine xv_k fL_isAdvert_182 ?_
              refine xv_il15 fL_isAdvert_185 ?_
              refine xv_k fL_isAdvert_187 ?_
              refine xv_iadd fL_isAdvert_188 ?_
              refine xv_eqi (y := nI (two / 12 % 4 + 1)) (nI_add _ _) ?_
              refine xv_imul fL_isAdvert_189 ?_
              refine xv_eqi (y := nI (10000 * (two / 12 % 4 + 1))) (nI_mul _ _) ?_
              refine xv_iadd fL_isAdvert_190 ?_
              refine xv_eqi (y := nI (ct + 10 * w + 100 * h + 1000 * 0 + 10000 * (two / 12 % 4 + 1))) (nI_add _ _) ?_
              refine xv_k fL_isAdvert_191 ?_
              refine xv_il16 fL_isAdvert_193 ?_
              refine xv_k fL_isAdvert_195 ?_
              refine xv_iadd fL_isAdvert_196 ?_
              refine xv_eqi (y := nI (0)) (by decide) ?_
              refine xv_imul fL_isAdvert_197 ?_
              refine xv_eqi (y := nI (100000 * (0))) (nI_mul _ _) ?_
              refine xv_iadd fL_isAdvert_198 ?_
              refine xv_eqi (y := nI (adv ct w h 0 (two / 12 % 4 + 1) (0))) (nI_add _ _) ?_
              refine xv_iastN fL_isAdvert_199 (sx_61 _ _) (⟨by omega, by decide⟩) ?_
              refine xv_al3 fL_isAdvert_200 ?_
              refine xv_al7 fL_isAdvert_201 ?_
              refine xv_k fL_isAdvert_203 ?_
              refine xv_ialdN fL_isAdvert_204 (sx_69 _ _) (⟨by omega, by decide⟩) ?_
              rw [xv_u_ne _ _ _ (by decide), e69]
              refine xv_k fL_isAdvert_205 ?_
              refine xv_iastN fL_isAdvert_206 (sx_62 _ _) (⟨by omega, by decide⟩) ?_
              refine xv_al7 fL_isAdvert_207 ?_
              refine xv_k fL_isAdvert_209 ?_
              refine xv_dup2 fL_isAdvert_210 ?_
              refine xv_ialdN fL_isAdvert_211 (sx_69 _ _) (⟨by omega, by decide⟩) ?_
              rw [xv_u_ne _ _ _ (by decide), xv_u_ne _ _ _ (by decide), e69]
              refine xv_k fL_isAdvert_212 ?_
              refine xv_iadd fL_isAdvert_213 ?_
              refine xv_eqi (y := nI (c.1 + 1)) (nI_add _ _) ?_
              refine xv_iastN fL_isAdvert_214 (sx_69 _ _) (⟨by omega, by decide⟩) ?_
              refine xv_il17 fL_isAdvert_215 ?_
              refine xv_al7 fL_isAdvert_217 ?_
              refine xv_k fL_isAdvert_219 ?_
              refine xv_ialdN fL_isAdvert_220 (sx_69 _ _) (⟨by omega, by decide⟩) ?_
              rw [xv_u_eq]
              refine xv_k fL_isAdvert_221 ?_
              refine xv_isub fL_isAdvert_222 ?_
              refine xv_eqi (y := nI c.1) (nI_pred c.1) ?_
              refine xv_ic_ne fL_isAdvert_223 (fun h_223 => ?_) (fun h_223 => ?_)
              · exact absurd rfl h_223
              · refine xv_al0 fL_isAdvert_226 ?_
                refine xv_k fL_isAdvert_227 ?_
                refine xv_k fL_isAdvert_228 ?_
                refine xv_k fL_isAdvert_229 ?_
                refine xv_k fL_isAdvert_231 ?_
                refine xv_k fL_isAdvert_232 ?_
                refine xv_k fL_isAdvert_233 ?_
                refine xv_callS7R (w_advert_0_A n (c.1 + 1, c.2) (c.1 + 1, c.2) J (w := 4) (h := 1) (by decide) (by decide) (p_advert_b n (c.1 + 1, c.2) _ J (x1 := nI 0) (x2 := nI 4) (x3 := nI 1) (x4 := nI 0) (x5 := nI 0) (x6 := nI 0) (okR_n (by decide) (by decide) (by decide)) (fun z => nI_ge (by decide) (by decide) z.2))) fL_isAdvert_234 YL_does VL_does lL_113 rfl (Nat.le_of_ble_eq_true rfl) (by decide) (by decide) (by decide) ?_
                refine xv_k fL_isAdvert_237 ?_
                refine xv_ic_ne fL_isAdvert_240 (fun h_240 => ?_) (fun h_240 => ?_)
                · exact absurd rfl h_240
                · refine xv_k fL_isAdvert_243 ?_
                  refine xv_goto fL_isAdvert_244 ?_
                  exact xv_iret fL_isAdvert_248 rfl rfl ⟨rfl, (c.1 + 1, c.2), rfl, rfl, rfl, adv_born (x5 := nI (two / 12 % 4)) (x6 := -1) hI h20 h4 hw hh (show 0 < 2 by decide) (show two / 12 % 4 + 1 ≤ 4 by omega) (show 0 ≤ 3 by omega) (Or.inr ⟨by omega, rfl⟩) (Or.inl ⟨rfl, rfl⟩) hO (by rw [hI1])⟩
            · exact absurd ((nI_eq (by omega) (by omega)).mp h_127) (by omega)
        · refine xv_il10 fL_isAdvert_78 ?_
          refine xv_k fL_isAdvert_80 ?_
          refine xv_idiv fL_isAdvert_83 (by decide) ?_
          refine xv_eqi (y := nI (two / 144)) (nI_div h2 (by decide)) ?_
          refine xv_k fL_isAdvert_84 ?_
          refine xv_irem fL_isAdvert_85 (by decide) ?_
          refine xv_eqi (y := nI (two / 144 % 3)) (nI_rem (by omega) (by decide)) ?_
          refine xv_goto fL_isAdvert_86 ?_
          refine xv_is16 fL_isAdvert_90 ?_
          refine xv_al0 fL_isAdvert_92 ?_
          refine xv_k fL_isAdvert_93 ?_
          refine xv_il11 fL_isAdvert_94 ?_
          refine xv_il12 fL_isAdvert_96 ?_
          refine xv_k fL_isAdvert_98 ?_
          refine xv_il13 fL_isAdvert_100 ?_
          refine xv_imul fL_isAdvert_102 ?_
          refine xv_eqi (y := nI (10 * h)) (nI_mul _ _) ?_
          refine xv_iadd fL_isAdvert_103 ?_
          refine xv_eqi (y := nI (w + 10 * h)) (nI_add _ _) ?_
          refine xv_il14 fL_isAdvert_104 ?_
          refine xv_il15 fL_isAdvert_106 ?_
          refine xv_il16 fL_isAdvert_108 ?_
          obtain ⟨I1, hI1⟩ : ∃ I1, I1 = xv_u (xAd (100 + c.1) (nI ct) (nI w) (nI h) (nI 0) (nI (two / 12 % 4)) (nI (two / 144 % 3)) (xv_z I (100 + c.1) 0)) 0 3 (nI (c.1 + 1)) := ⟨_, rfl⟩
          obtain hO : ∀ v j, v ≠ 100 + c.1 → (v ≠ 0 ∨ j ≠ 3) → I1 v j = I v j := fun v j g1 g2 => by
            rw [hI1]
            unfold xAd xv_u xv_z
            rw [if_neg (by omega), if_neg (by omega), if_neg (by omega), if_neg (by omega), if_neg (by omega), if_neg (by omega), if_neg (by omega), if_neg (by omega), if_neg (by omega), if_neg g1]
          obtain e69 : I1 69 0 = nI c.1 := (hO _ _ (by omega) (by omega)).trans e690
          refine xv_callS7R (w_advert_0_ok n c (c.1 + 1, c.2) J (I' := I1) (w := w) (h := h) (by omega) (by omega) (by rw [hI1]; exact p_advert_ok n c I J (x1 := nI ct) (x2 := nI w) (x3 := nI h) (x4 := nI 0) (x5 := nI (two / 12 % 4)) (x6 := nI (two / 144 % 3)) (okR_n (by omega) (by omega) (by decide)) (okR_n (by omega) (by omega) (by decide)) (okR_n (by omega) (by omega) (by decide)) ⟨fun z => absurd z (fa_nneg (by omega)), nI_le (by omega) (by decide)⟩ ⟨fun z => absurd z (fa_nneg (by omega)), nI_le (by omega) (by decide)⟩ ⟨by decide, by decide⟩ hI.ad.1 h20)) fL_isAdvert_110 YL_does VL_does lL_113 rfl (Nat.le_of_ble_eq_true rfl) (by decide) (by decide) (by decide) ?_
          refine xv_is17 fL_isAdvert_113 ?_
          refine xv_il11 fL_isAdvert_115 ?_
          refine xv_k fL_isAdvert_117 ?_
          refine xv_ic_eq fL_isAdvert_118 (fun h_118 => ?_) (fun h_118 => ?_)
          · exact absurd ((nI_eq (by omega) (by omega)).mp h_118) (by omega)
          · refine xv_al7 fL_isAdvert_121 ?_
            refine xv_k fL_isAdvert_123 ?_
            refine xv_ialdN fL_isAdvert_124 (sx_69 _ _) (⟨by omega, by decide⟩) ?_
            rw [e69]
            refine xv_k fL_isAdvert_125 ?_
            refine xv_ic_ne fL_isAdvert_127 (fun h_127 => ?_) (fun h_127 => ?_)
            · refine xv_al2 fL_isAdvert_156 ?_
              refine xv_al7 fL_isAdvert_157 ?_
              refine xv_k fL_isAdvert_159 ?_
              refine xv_ialdN fL_isAdvert_160 (sx_69 _ _) (⟨by omega, by decide⟩) ?_
              rw [e69]
              refine xv_il11 fL_isAdvert_161 ?_
              refine xv_k fL_isAdvert_163 ?_
              refine xv_il12 fL_isAdvert_165 ?_
              refine xv_imul fL_isAdvert_167 ?_
              refine xv_eqi (y := nI (10 * w)) (nI_mul _ _) ?_
              refine xv_iadd fL_isAdvert_168 ?_
              refine xv_eqi (y := nI (ct + 10 * w)) (nI_add _ _) ?_
              refine xv_k fL_isAdvert_169 ?_
              refine xv_il13 fL_isAdvert_171 ?_
              refine xv_imul fL_isAdvert_173 ?_
              refine xv_eqi (y := nI (100 * h)) (nI_mul _ _) ?_
              refine xv_iadd fL_isAdvert_174 ?_
              refine xv_eqi (y := nI (ct + 10 * w + 100 * h)) (nI_add _ _) ?_
              refine xv_k fL_isAdvert_175 ?_
              refine xv_il14 fL_isAdvert_178 ?_
              refine xv_imul fL_isAdvert_180 ?_
              refine xv_eqi (y := nI (1000 * 0)) (nI_mul _ _) ?_
              refine xv_iadd fL_isAdvert_181 ?_
              refine xv_eqi (y := nI (ct + 10 * w + 100 * h + 1000 * 0)) (nI_add _ _) ?_
              refine xv_k fL_isAdvert_182 ?_
              refine xv_il15 fL_isAdvert_185 ?_
              refine xv_k fL_isAdvert_187 ?_
              refine xv_iadd fL_isAdvert_188 ?_
              refine xv_eqi (y := nI (two / 12 % 4 + 1)) (nI_add _ _) ?_
              refine xv_imul fL_isAdvert_189 ?_
              refine xv_eqi (y := nI (10000 * (two / 12 % 4 + 1))) (nI_mul _ _) ?_
              refine xv_iadd fL_isAdvert_190 ?_
              refine xv_eqi (y := nI (ct + 10 * w + 100 * h + 1000 * 0 + 10000 * (two / 12 % 4 + 1))) (nI_add _ _) ?_
              refine xv_k fL_isAdvert_191 ?_
              refine xv_il16 fL_isAdvert_193 ?_
              refine xv_k fL_isAdvert_195 ?_
              refine xv_iadd fL_isAdvert_196 ?_
              refine xv_eqi (y := nI (two / 144 % 3 + 1)) (nI_add _ _) ?_
              refine xv_imul fL_isAdvert_197 ?_
              refine xv_eqi (y := nI (100000 * (two / 144 % 3 + 1))) (nI_mul _ _) ?_
              refine xv_iadd fL_isAdvert_198 ?_
              refine xv_eqi (y := nI (adv ct w h 0 (two / 12 % 4 + 1) (two / 144 % 3 + 1))) (nI_add _ _) ?_
              refine xv_iastN fL_isAdvert_199 (sx_61 _ _) (⟨by omega, by decide⟩) ?_
              refine xv_al3 fL_isAdvert_200 ?_
              refine xv_al7 fL_isAdvert_201 ?_
              refine xv_k fL_isAdvert_203 ?_
              refine xv_ialdN fL_isAdvert_204 (sx_69 _ _) (⟨by omega, by decide⟩) ?_
              rw [xv_u_ne _ _ _ (by decide), e69]
              refine xv_k fL_isAdvert_205 ?_
              refine xv_iastN fL_isAdvert_206 (sx_62 _ _) (⟨by omega, by decide⟩) ?_
              refine xv_al7 fL_isAdvert_207 ?_
              refine xv_k fL_isAdvert_209 ?_
              refine xv_dup2 fL_isAdvert_210 ?_
              refine xv_ialdN fL_isAdvert_211 (sx_69 _ _) (⟨by omega, by decide⟩) ?_
              rw [xv_u_ne _ _ _ (by decide), xv_u_ne _ _ _ (by decide), e69]
              refine xv_k fL_isAdvert_212 ?_
              refine xv_iadd fL_isAdvert_213 ?_
              refine xv_eqi (y := nI (c.1 + 1)) (nI_add _ _) ?_
              refine xv_iastN fL_isAdvert_214 (sx_69 _ _) (⟨by omega, by decide⟩) ?_
              refine xv_il17 fL_isAdvert_215 ?_
              refine xv_al7 fL_isAdvert_217 ?_
              refine xv_k fL_isAdvert_219 ?_
              refine xv_ialdN fL_isAdvert_220 (sx_69 _ _) (⟨by omega, by decide⟩) ?_
              rw [xv_u_eq]
              refine xv_k fL_isAdvert_221 ?_
              refine xv_isub fL_isAdvert_222 ?_
              refine xv_eqi (y := nI c.1) (nI_pred c.1) ?_
              refine xv_ic_ne fL_isAdvert_223 (fun h_223 => ?_) (fun h_223 => ?_)
              · exact absurd rfl h_223
              · refine xv_al0 fL_isAdvert_226 ?_
                refine xv_k fL_isAdvert_227 ?_
                refine xv_k fL_isAdvert_228 ?_
                refine xv_k fL_isAdvert_229 ?_
                refine xv_k fL_isAdvert_231 ?_
                refine xv_k fL_isAdvert_232 ?_
                refine xv_k fL_isAdvert_233 ?_
                refine xv_callS7R (w_advert_0_A n (c.1 + 1, c.2) (c.1 + 1, c.2) J (w := 4) (h := 1) (by decide) (by decide) (p_advert_b n (c.1 + 1, c.2) _ J (x1 := nI 0) (x2 := nI 4) (x3 := nI 1) (x4 := nI 0) (x5 := nI 0) (x6 := nI 0) (okR_n (by decide) (by decide) (by decide)) (fun z => nI_ge (by decide) (by decide) z.2))) fL_isAdvert_234 YL_does VL_does lL_113 rfl (Nat.le_of_ble_eq_true rfl) (by decide) (by decide) (by decide) ?_
                refine xv_k fL_isAdvert_237 ?_
                refine xv_ic_ne fL_isAdvert_240 (fun h_240 => ?_) (fun h_240 => ?_)
                · exact absurd rfl h_240
                · refine xv_k fL_isAdvert_243 ?_
                  refine xv_goto fL_isAdvert_244 ?_
                  exact xv_iret fL_isAdvert_248 rfl rfl ⟨rfl, (c.1 + 1, c.2), rfl, rfl, rfl, adv_born (x5 := nI (two / 12 % 4)) (x6 := nI (two / 144 % 3)) hI h20 h4 hw hh (show 0 < 2 by decide) (show two / 12 % 4 + 1 ≤ 4 by omega) (show two / 144 % 3 + 1 ≤ 3 by omega) (Or.inr ⟨by omega, rfl⟩) (Or.inr ⟨by omega, rfl⟩) hO (by rw [hI1])⟩
            · exact absurd ((nI_eq (by omega) (by omega)).mp h_127) (by omega)
    · refine xv_k fL_isAdvert_39 ?_
      refine xv_goto fL_isAdvert_40 ?_
      refine xv_is14 fL_isAdvert_44 ?_
      refine xv_il10 fL_isAdvert_46 ?_
      refine xv_k fL_isAdvert_48 ?_
      refine xv_idiv fL_isAdvert_49 (by decide) ?_
      refine xv_eqi (y := nI (two / 4)) (nI_div h2 (by decide)) ?_
      refine xv_k fL_isAdvert_50 ?_
      refine xv_irem fL_isAdvert_51 (by decide) ?_
      refine xv_eqi (y := nI (two / 4 % 3)) (nI_rem (by omega) (by decide)) ?_
      refine xv_if_ne fL_isAdvert_52 (fun h_52 => ?_) (fun h_52 => ?_)
      · refine xv_k fL_isAdvert_65 ?_
        refine xv_is15 fL_isAdvert_66 ?_
        refine xv_il10 fL_isAdvert_68 ?_
        refine xv_k fL_isAdvert_70 ?_
        refine xv_idiv fL_isAdvert_72 (by decide) ?_
        refine xv_eqi (y := nI (two / 48)) (nI_div h2 (by decide)) ?_
        refine xv_k fL_isAdvert_73 ?_
        refine xv_irem fL_isAdvert_74 (by decide) ?_
        refine xv_eqi (y := nI (two / 48 % 3)) (nI_rem (by omega) (by decide)) ?_
        refine xv_if_ne fL_isAdvert_75 (fun h_75 => ?_) (fun h_75 => ?_)
        · refine xv_k fL_isAdvert_89 ?_
          refine xv_is16 fL_isAdvert_90 ?_
          refine xv_al0 fL_isAdvert_92 ?_
          refine xv_k fL_isAdvert_93 ?_
          refine xv_il11 fL_isAdvert_94 ?_
          refine xv_il12 fL_isAdvert_96 ?_
          refine xv_k fL_isAdvert_98 ?_
          refine xv_il13 fL_isAdvert_100 ?_
          refine xv_imul fL_isAdvert_102 ?_
          refine xv_eqi (y := nI (10 * h)) (nI_mul _ _) ?_
          refine xv_iadd fL_isAdvert_103 ?_
          refine xv_eqi (y := nI (w + 10 * h)) (nI_add _ _) ?_
          refine xv_il14 fL_isAdvert_104 ?_
          refine xv_il15 fL_isAdvert_106 ?_
          refine xv_il16 fL_isAdvert_108 ?_
          obtain ⟨I1, hI1⟩ : ∃ I1, I1 = xv_u (xAd (100 + c.1) (nI ct) (nI w) (nI h) (nI 1) (-1) (-1) (xv_z I (100 + c.1) 0)) 0 3 (nI (c.1 + 1)) := ⟨_, rfl⟩
          obtain hO : ∀ v j, v ≠ 100 + c.1 → (v ≠ 0 ∨ j ≠ 3) → I1 v j = I v j := fun v j g1 g2 => by
            rw [hI1]
            unfold xAd xv_u xv_z
            rw [if_neg (by omega), if_neg (by omega), if_neg (by omega), if_neg (by omega), if_neg (by omega), if_neg (by omega), if_neg (by omega), if_neg (by omega), if_neg (by omega), if_neg g1]
          obtain e69 : I1 69 0 = nI c.1 := (hO _ _ (by omega) (by omega)).trans e690
          refine xv_callS7R (w_advert_1_ok n c (c.1 + 1, c.2) J (I' := I1) (w := w) (h := h) (by omega) (by omega) (by rw [hI1]; exact p_advert_ok n c I J (x1 := nI ct) (x2 := nI w) (x3 := nI h) (x4 := nI 1) (x5 := -1) (x6 := -1) (okR_n (by omega) (by omega) (by decide)) (okR_n (by omega) (by omega) (by decide)) (okR_n (by omega) (by omega) (by decide)) ⟨by decide, by decide⟩ ⟨by decide, by decide⟩ ⟨by decide, by decide⟩ hI.ad.1 h20)) fL_isAdvert_110 YL_does VL_does lL_113 rfl (Nat.le_of_ble_eq_true rfl) (by decide) (by decide) (by decide) ?_
          refine xv_is17 fL_isAdvert_113 ?_
          refine xv_il11 fL_isAdvert_115 ?_
          refine xv_k fL_isAdvert_117 ?_
          refine xv_ic_eq fL_isAdvert_118 (fun h_118 => ?_) (fun h_118 => ?_)
          · exact absurd ((nI_eq (by omega) (by omega)).mp h_118) (by omega)
          · refine xv_al7 fL_isAdvert_121 ?_
            refine xv_k fL_isAdvert_123 ?_
            refine xv_ialdN fL_isAdvert_124 (sx_69 _ _) (⟨by omega, by decide⟩) ?_
            rw [e69]
            refine xv_k fL_isAdvert_125 ?_
            refine xv_ic_ne fL_isAdvert_127 (fun h_127 => ?_) (fun h_127 => ?_)
            · refine xv_al2 fL_isAdvert_156 ?_
              refine xv_al7 fL_isAdvert_157 ?_
              refine xv_k fL_isAdvert_159 ?_
              refine xv_ialdN fL_isAdvert_160 (sx_69 _ _) (⟨by omega, by decide⟩) ?_
              rw [e69]
              refine xv_il11 fL_isAdvert_161 ?_
              refine xv_k fL_isAdvert_163 ?_
              refine xv_il12 fL_isAdvert_165 ?_
              refine xv_imul fL_isAdvert_167 ?_
              refine xv_eqi (y := nI (10 * w)) (nI_mul _ _) ?_
              refine xv_iadd fL_isAdvert_168 ?_
              refine xv_eqi (y := nI (ct + 10 * w)) (nI_add _ _) ?_
              refine xv_k fL_isAdvert_169 ?_
              refine xv_il13 fL_isAdvert_171 ?_
              refine xv_imul fL_isAdvert_173 ?_
              refine xv_eqi (y := nI (100 * h)) (nI_mul _ _) ?_
              refine xv_iadd fL_isAdvert_174 ?_
              refine xv_eqi (y := nI (ct + 10 * w + 100 * h)) (nI_add _ _) ?_
              refine xv_k fL_isAdvert_175 ?_
              refine xv_il14 fL_isAdvert_178 ?_
              refine xv_imul fL_isAdvert_180 ?_
              refine xv_eqi (y := nI (1000 * 1)) (nI_mul _ _) ?_
              refine xv_iadd fL_isAdvert_181 ?_
              refine xv_eqi (y := nI (ct + 10 * w + 100 * h + 1000 * 1)) (nI_add _ _) ?_
              refine xv_k fL_isAdvert_182 ?_
              refine xv_il15 fL_isAdvert_185 ?_
              refine xv_k fL_isAdvert_187 ?_
              refine xv_iadd fL_isAdvert_188 ?_
              refine xv_eqi (y := nI (0)) (by decide) ?_
              refine xv_imul fL_isAdvert_189 ?_
              refine xv_eqi (y := nI (10000 * (0))) (nI_mul _ _) ?_
              refine xv_iadd fL_isAdvert_190 ?_
              refine xv_eqi (y := nI (ct + 10 * w + 100 * h + 1000 * 1 + 10000 * (0))) (nI_add _ _) ?_
              refine xv_k fL_isAdvert_191 ?_
              refine xv_il16 fL_isAdvert_193 ?_
              refine xv_k fL_isAdvert_195 ?_
              refine xv_iadd fL_isAdvert_196 ?_
              refine xv_eqi (y := nI (0)) (by decide) ?_
              refine xv_imul fL_isAdvert_197 ?_
              refine xv_eqi (y := nI (100000 * (0))) (nI_mul _ _) ?_
              refine xv_iadd fL_isAdvert_198 ?_
              refine xv_eqi (y := nI (adv ct w h 1 (0) (0))) (nI_add _ _) ?_
              refine xv_iastN fL_isAdvert_199 (sx_61 _ _) (⟨by omega, by decide⟩) ?_
              refine xv_al3 fL_isAdvert_200 ?_
              refine xv_al7 fL_isAdvert_201 ?_
              refine xv_k fL_isAdvert_203 ?_
              refine xv_ialdN fL_isAdvert_204 (sx_69 _ _) (⟨by omega, by decide⟩) ?_
              rw [xv_u_ne _ _ _ (by decide), e69]
              refine xv_k fL_isAdvert_205 ?_
              refine xv_iastN fL_isAdvert_206 (sx_62 _ _) (⟨by omega, by decide⟩) ?_
              refine xv_al7 fL_isAdvert_207 ?_
              refine xv_k fL_isAdvert_209 ?_
              refine xv_dup2 fL_isAdvert_210 ?_
              refine xv_ialdN fL_isAdvert_211 (sx_69 _ _) (⟨by omega, by decide⟩) ?_
              rw [xv_u_ne _ _ _ (by decide), xv_u_ne _ _ _ (by decide), e69]
              refine xv_k fL_isAdvert_212 ?_
              refine xv_iadd fL_isAdvert_213 ?_
              refine xv_eqi (y := nI (c.1 + 1)) (nI_add _ _) ?_
              refine xv_iastN fL_isAdvert_214 (sx_69 _ _) (⟨by omega, by decide⟩) ?_
              refine xv_il17 fL_isAdvert_215 ?_
              refine xv_al7 fL_isAdvert_217 ?_
              refine xv_k fL_isAdvert_219 ?_
              refine xv_ialdN fL_isAdvert_220 (sx_69 _ _) (⟨by omega, by decide⟩) ?_
              rw [xv_u_eq]
              refine xv_k fL_isAdvert_221 ?_
              refine xv_isub fL_isAdvert_222 ?_
              refine xv_eqi (y := nI c.1) (nI_pred c.1) ?_
              refine xv_ic_ne fL_isAdvert_223 (fun h_223 => ?_) (fun h_223 => ?_)
              · exact absurd rfl h_223
              · refine xv_al0 fL_isAdvert_226 ?_
                refine xv_k fL_isAdvert_227 ?_
                refine xv_k fL_isAdvert_228 ?_
                refine xv_k fL_isAdvert_229 ?_
                refine xv_k fL_isAdvert_231 ?_
                refine xv_k fL_isAdvert_232 ?_
                refine xv_k fL_isAdvert_233 ?_
                refine xv_callS7R (w_advert_0_A n (c.1 + 1, c.2) (c.1 + 1, c.2) J (w := 4) (h := 1) (by decide) (by decide) (p_advert_b n (c.1 + 1, c.2) _ J (x1 := nI 0) (x2 := nI 4) (x3 := nI 1) (x4 := nI 0) (x5 := nI 0) (x6 := nI 0) (okR_n (by decide) (by decide) (by decide)) (fun z => nI_ge (by decide) (by decide) z.2))) fL_isAdvert_234 YL_does VL_does lL_113 rfl (Nat.le_of_ble_eq_true rfl) (by decide) (by decide) (by decide) ?_
                refine xv_k fL_isAdvert_237 ?_
                refine xv_ic_ne fL_isAdvert_240 (fun h_240 => ?_) (fun h_240 => ?_)
                · exact absurd rfl h_240
                · refine xv_k fL_isAdvert_243 ?_
                  refine xv_goto fL_isAdvert_244 ?_
                  exact xv_iret fL_isAdvert_248 rfl rfl ⟨rfl, (c.1 + 1, c.2), rfl, rfl, rfl, adv_born (x5 := -1) (x6 := -1) hI h20 h4 hw hh (show 1 < 2 by decide) (show 0 ≤ 4 by omega) (show 0 ≤ 3 by omega) (Or.inl ⟨rfl, rfl⟩) (Or.inl ⟨rfl, rfl⟩) hO (by rw [hI1])⟩
            · exact absurd ((nI_eq (by omega) (by omega)).mp h_127) (by omega)
        · refine xv_il10 fL_isAdvert_78 ?_
          refine xv_k fL_isAdvert_80 ?_
          refine xv_idiv fL_isAdvert_83 (by decide) ?_
          refine xv_eqi (y := nI (two / 144)) (nI_div h2 (by decide)) ?_
          refine xv_k fL_isAdvert_84 ?_
          refine xv_irem fL_isAdvert_85 (by decide) ?_
          refine xv_eqi (y := nI (two / 144 % 3)) (nI_rem (by omega) (by decide)) ?_
          refine xv_goto fL_isAdvert_86 ?_
          refine xv_is16 fL_isAdvert_90 ?_
          refine xv_al0 fL_isAdvert_92 ?_
          refine xv_k fL_isAdvert_93 ?_
          refine xv_il11 fL_isAdvert_94 ?_
          refine xv_il12 fL_isAdvert_96 ?_
          refine xv_k fL_isAdvert_98 ?_
          refine xv_il13 fL_isAdvert_100 ?_
          refine xv_imul fL_isAdvert_102 ?_
          refine xv_eqi (y := nI (10 * h)) (nI_mul _ _) ?_
          refine xv_iadd fL_isAdvert_103 ?_
          refine xv_eqi (y := nI (w + 10 * h)) (nI_add _ _) ?_
          refine xv_il14 fL_isAdvert_104 ?_
          refine xv_il15 fL_isAdvert_106 ?_
          refine xv_il16 fL_isAdvert_108 ?_
          obtain ⟨I1, hI1⟩ : ∃ I1, I1 = xv_u (xAd (100 + c.1) (nI ct) (nI w) (nI h) (nI 1) (-1) (nI (two / 144 % 3)) (xv_z I (100 + c.1) 0)) 0 3 (nI (c.1 + 1)) := ⟨_, rfl⟩
          obtain hO : ∀ v j, v ≠ 100 + c.1 → (v ≠ 0 ∨ j ≠ 3) → I1 v j = I v j := fun v j g1 g2 => by
            rw [hI1]
            unfold xAd xv_u xv_z
            rw [if_neg (by omega), if_neg (by omega), if_neg (by omega), if_neg (by omega), if_neg (by omega), if_neg (by omega), if_neg (by omega), if_neg (by omega), if_neg (by omega), if_neg g1]
          obtain e69 : I1 69 0 = nI c.1 := (hO _ _ (by omega) (by omega)).trans e690
          refine xv_callS7R (w_advert_1_ok n c (c.1 + 1, c.2) J (I' := I1) (w := w) (h := h) (by omega) (by omega) (by rw [hI1]; exact p_advert_ok n c I J (x1 := nI ct) (x2 := nI w) (x3 := nI h) (x4 := nI 1) (x5 := -1) (x6 := nI (two / 144 % 3)) (okR_n (by omega) (by omega) (by decide)) (okR_n (by omega) (by omega) (by decide)) (okR_n (by omega) (by omega) (by decide)) ⟨by decide, by decide⟩ ⟨fun z => absurd z (fa_nneg (by omega)), nI_le (by omega) (by decide)⟩ ⟨by decide, by decide⟩ hI.ad.1 h20)) fL_isAdvert_110 YL_does VL_does lL_113 rfl (Nat.le_of_ble_eq_true rfl) (by decide) (by decide) (by decide) ?_
          refine xv_is17 fL_isAdvert_113 ?_
          refine xv_il11 fL_isAdvert_115 ?_
          refine xv_k fL_isAdvert_117 ?_
          refine xv_ic_eq fL_isAdvert_118 (fun h_118 => ?_) (fun h_118 => ?_)
          · exact absurd ((nI_eq (by omega) (by omega)).mp h_118) (by omega)
          · refine xv_al7 fL_isAdvert_121 ?_
            refine xv_k fL_isAdvert_123 ?_
            refine xv_ialdN fL_isAdvert_124 (sx_69 _ _) (⟨by omega, by decide⟩) ?_
            rw [e69]
            refine xv_k fL_isAdvert_125 ?_
            refine xv_ic_ne fL_isAdvert_127 (fun h_127 => ?_) (fun h_127 => ?_)
            · refine xv_al2 fL_isAdvert_156 ?_
              refine xv_al7 fL_isAdvert_157 ?_
              refine xv_k fL_isAdvert_159 ?_
              refine xv_ialdN fL_isAdvert_160 (sx_69 _ _) (⟨by omega, by decide⟩) ?_
              rw [e69]
              refine xv_il11 fL_isAdvert_161 ?_
              refine xv_k fL_isAdvert_163 ?_
              refine xv_il12 fL_isAdvert_165 ?_
              refine xv_imul fL_isAdvert_167 ?_
              refine xv_eqi (y := nI (10 * w)) (nI_mul _ _) ?_
              refine xv_iadd fL_isAdvert_168 ?_
              refine xv_eqi (y := nI (ct + 10 * w)) (nI_add _ _) ?_
              refine xv_k fL_isAdvert_169 ?_
              refine xv_il13 fL_isAdvert_171 ?_
              refine xv_imul fL_isAdvert_173 ?_
              refine xv_eqi (y := nI (100 * h)) (nI_mul _ _) ?_
              refine xv_iadd fL_isAdvert_174 ?_
              refine xv_eqi (y := nI (ct + 10 * w + 100 * h)) (nI_add _ _) ?_
              refine xv_k fL_isAdvert_175 ?_
              refine xv_il14 fL_isAdvert_178 ?_
              refine xv_imul fL_isAdvert_180 ?_
              refine xv_eqi (y := nI (1000 * 1)) (nI_mul _ _) ?_
              refine xv_iadd fL_isAdvert_181 ?_
              refine xv_eqi (y := nI (ct + 10 * w + 100 * h + 1000 * 1)) (nI_add _ _) ?_
              refine xv_k fL_isAdvert_182 ?_
              refine xv_il15 fL_isAdvert_185 ?_
              refine xv_k fL_isAdvert_187 ?_
              refine xv_iadd fL_isAdvert_188 ?_
              refine xv_eqi (y := nI (0)) (by decide) ?_
              refine xv_imul fL_isAdvert_189 ?_
              refine xv_eqi (y := nI (10000 * (0))) (nI_mul _ _) ?_
              refine xv_iadd fL_isAdvert_190 ?_
              refine xv_eqi (y := nI (ct + 10 * w + 100 * h + 1000 * 1 + 10000 * (0))) (nI_add _ _) ?_
              refine xv_k fL_isAdvert_191 ?_
              refine xv_il16 fL_isAdvert_193 ?_
              refine xv_k fL_isAdvert_195 ?_
              refine xv_iadd fL_isAdvert_196 ?_
              refine xv_eqi (y := nI (two / 144 % 3 + 1)) (nI_add _ _) ?_
              refine xv_imul fL_isAdvert_197 ?_
              refine xv_eqi (y := nI (100000 * (two / 144 % 3 + 1))) (nI_mul _ _) ?_
              refine xv_iadd fL_isAdvert_198 ?_
              refine xv_eqi (y := nI (adv ct w h 1 (0) (two / 144 % 3 + 1))) (nI_add _ _) ?_
              refine xv_iastN fL_isAdvert_199 (sx_61 _ _) (⟨by omega, by decide⟩) ?_
              refine xv_al3 fL_isAdvert_200 ?_
              refine xv_al7 fL_isAdvert_201 ?_
              refine xv_k fL_isAdvert_203 ?_
              refine xv_ialdN fL_isAdvert_204 (sx_69 _ _) (⟨by omega, by decide⟩) ?_
              rw [xv_u_ne _ _ _ (by decide), e69]
              refine xv_k fL_isAdvert_205 ?_
              refine xv_iastN fL_isAdvert_206 (sx_62 _ _) (⟨by omega, by decide⟩) ?_
              refine xv_al7 fL_isAdvert_207 ?_
              refine xv_k fL_isAdvert_209 ?_
              refine xv_dup2 fL_isAdvert_210 ?_
              refine xv_ialdN fL_isAdvert_211 (sx_69 _ _) (⟨by omega, by decide⟩) ?_
              rw [xv_u_ne _ _ _ (by decide), xv_u_ne _ _ _ (by decide), e69]
              refine xv_k fL_isAdvert_212 ?_
              refine xv_iadd fL_isAdvert_213 ?_
              refine xv_eqi (y := nI (c.1 + 1)) (nI_add _ _) ?_
              refine xv_iastN fL_isAdvert_214 (sx_69 _ _) (⟨by omega, by decide⟩) ?_
              refine xv_il17 fL_isAdvert_215 ?_
              refine xv_al7 fL_isAdvert_217 ?_
              refine xv_k fL_isAdvert_219 ?_
              refine xv_ialdN fL_isAdvert_220 (sx_69 _ _) (⟨by omega, by decide⟩) ?_
              rw [xv_u_eq]
              refine xv_k fL_isAdvert_221 ?_
              refine xv_isub fL_isAdvert_222 ?_
              refine xv_eqi (y := nI c.1) (nI_pred c.1) ?_
              refine xv_ic_ne fL_isAdvert_223 (fun h_223 => ?_) (fun h_223 => ?_)
              · exact absurd rfl h_223
              · refine xv_al0 fL_isAdvert_226 ?_
                refine xv_k fL_isAdvert_227 ?_
                refine xv_k fL_isAdvert_228 ?_
                refine xv_k fL_isAdvert_229 ?_
                refine xv_k fL_isAdvert_231 ?_
                refine xv_k fL_isAdvert_232 ?_
                refine xv_k fL_isAdvert_233 ?_
                refine xv_callS7R (w_advert_0_A n (c.1 + 1, c.2) (c.1 + 1, c.2) J (w := 4) (h := 1) (by decide) (by decide) (p_advert_b n (c.1 + 1, c.2) _ J (x1 := nI 0) (x2 := nI 4) (x3 := nI 1) (x4 := nI 0) (x5 := nI 0) (x6 := nI 0) (okR_n (by decide) (by decide) (by decide)) (fun z => nI_ge (by decide) (by decide) z.2))) fL_isAdvert_234 YL_does VL_does lL_113 rfl (Nat.le_of_ble_eq_true rfl) (by decide) (by decide) (by decide) ?_
                refine xv_k fL_isAdvert_237 ?_
                refine xv_ic_ne fL_isAdvert_240 (fun h_240 => ?_) (fun h_240 => ?_)
                · exact absurd rfl h_240
                · refine xv_k fL_isAdvert_243 ?_
                  refine xv_goto fL_isAdvert_244 ?_
                  exact xv_iret fL_isAdvert_248 rfl rfl ⟨rfl, (c.1 + 1, c.2), rfl, rfl, rfl, adv_born (x5 := -1) (x6 := nI (two / 144 % 3)) hI h20 h4 hw hh (show 1 < 2 by decide) (show 0 ≤ 4 by omega) (show two / 144 % 3 + 1 ≤ 3 by omega) (Or.inl ⟨rfl, rfl⟩) (Or.inr ⟨by omega, rfl⟩) hO (by rw [hI1])⟩
            · exact absurd ((nI_eq (by omega) (by omega)).mp h_127) (by omega)
      · refine xv_il10 fL_isAdvert_55 ?_
        refine xv_k fL_isAdvert_57 ?_
        refine xv_idiv fL_isAdvert_59 (by decide) ?_
        refine xv_eqi (y := nI (two / 12)) (nI_div h2 (by decide)) ?_
        refine xv_k fL_isAdvert_60 ?_
        refine xv_irem fL_isAdvert_61 (by decide) ?_
        refine xv_eqi (y := nI (two / 12 % 4)) (nI_rem (by omega) (by decide)) ?_
        refine xv_goto fL_isAdvert_62 ?_
        refine xv_is15 fL_isAdvert_66 ?_
        refine xv_il10 fL_isAdvert_68 ?_
        refine xv_k fL_isAdvert_70 ?_
        refine xv_idiv fL_isAdvert_72 (by decide) ?_
        refine xv_eqi (y := nI (two / 48)) (nI_div h2 (by decide)) ?_
        refine xv_k fL_isAdvert_73 ?_
        refine xv_irem fL_isAdvert_74 (by decide) ?_
        refine xv_eqi (y := nI (two / 48 % 3)) (nI_rem (by omega) (by decide)) ?_
        refine xv_if_ne fL_isAdvert_75 (fun h_75 => ?_) (fun h_75 => ?_)
        · refine xv_k fL_isAdvert_89 ?_
          refine xv_is16 fL_isAdvert_90 ?_
          refine xv_al0 fL_isAdvert_92 ?_
          refine xv_k fL_isAdvert_93 ?_
          refine xv_il11 fL_isAdvert_94 ?_
          refine xv_il12 fL_isAdvert_96 ?_
          refine xv_k fL_isAdvert_98 ?_
          refine xv_il13 fL_isAdvert_100 ?_
          refine xv_imul fL_isAdvert_102 ?_
          refine xv_eqi (y := nI (10 * h)) (nI_mul _ _) ?_
          refine xv_iadd fL_isAdvert_103 ?_
          refine xv_eqi (y := nI (w + 10 * h)) (nI_add _ _) ?_
          refine xv_il14 fL_isAdvert_104 ?_
          refine xv_il15 fL_isAdvert_106 ?_
          refine xv_il16 fL_isAdvert_108 ?_
          obtain ⟨I1, hI1⟩ : ∃ I1, I1 = xv_u (xAd (100 + c.1) (nI ct) (nI w) (nI h) (nI 1) (nI (two / 12 % 4)) (-1) (xv_z I (100 + c.1) 0)) 0 3 (nI (c.1 + 1)) := ⟨_, rfl⟩
          obtain hO : ∀ v j, v ≠ 100 + c.1 → (v ≠ 0 ∨ j ≠ 3) → I1 v j = I v j := fun v j g1 g2 => by
            rw [hI1]
            unfold xAd xv_u xv_z
            rw [if_neg (by omega), if_neg (by omega), if_neg (by omega), if_neg (by omega), if_neg (by omega), if_neg (by omega), if_neg (by omega), if_neg (by omega), if_neg (by omega), if_neg g1]
          obtain e69 : I1 69 0 = nI c.1 := (hO _ _ (by omega) (by omega)).trans e690
          refine xv_callS7R (w_advert_1_ok n c (c.1 + 1, c.2) J (I' := I1) (w := w) (h := h) (by omega) (by omega) (by rw [hI1]; exact p_advert_ok n c I J (x1 := nI ct) (x2 := nI w) (x3 := nI h) (x4 := nI 1) (x5 := nI (two / 12 % 4)) (x6 := -1) (okR_n (by omega) (by omega) (by decide)) (okR_n (by omega) (by omega) (by decide)) (okR_n (by omega) (by omega) (by decide)) ⟨fun z => absurd z (fa_nneg (by omega)), nI_le (by omega) (by decide)⟩ ⟨by decide, by decide⟩ ⟨by decide, by decide⟩ hI.ad.1 h20)) fL_isAdvert_110 YL_does VL_does lL_113 rfl (Nat.le_of_ble_eq_true rfl) (by decide) (by decide) (by decide) ?_
          refine xv_is17 fL_isAdvert_113 ?_
          refine xv_il11 fL_isAdvert_115 ?_
          refine xv_k fL_isAdvert_117 ?_
          refine xv_ic_eq fL_isAdvert_118 (fun h_118 => ?_) (fun h_118 => ?_)
          · exact absurd ((nI_eq (by omega) (by omega)).mp h_118) (by omega)
          · refine xv_al7 fL_isAdvert_121 ?_
            refine xv_k fL_isAdvert_123 ?_
            refine xv_ialdN fL_isAdvert_124 (sx_69 _ _) (⟨by omega, by decide⟩) ?_
            rw [e69]
            refine xv_k fL_isAdvert_125 ?_
            refine xv_ic_ne fL_isAdvert_127 (fun h_127 => ?_) (fun h_127 => ?_)
            · refine xv_al2 fL_isAdvert_156 ?_
              refine xv_al7 fL_isAdvert_157 ?_
              refine xv_k fL_isAdvert_159 ?_
              refine xv_ialdN fL_isAdvert_160 (sx_69 _ _) (⟨by omega, by decide⟩) ?_
              rw [e69]
              refine xv_il11 fL_isAdvert_161 ?_
              refine xv_k fL_isAdvert_163 ?_
              refine xv_il12 fL_isAdvert_165 ?_
              refine xv_imul fL_isAdvert_167 ?_
              refine xv_eqi (y := nI (10 * w)) (nI_mul _ _) ?_
              refine xv_iadd fL_isAdvert_168 ?_
              refine xv_eqi (y := nI (ct + 10 * w)) (nI_add _ _) ?_
              refine xv_k fL_isAdvert_169 ?_
              refine xv_il13 fL_isAdvert_171 ?_
              refine xv_imul fL_isAdvert_173 ?_
              refine xv_eqi (y := nI (100 * h)) (nI_mul _ _) ?_
              refine xv_iadd fL_isAdvert_174 ?_
              refine xv_eqi (y := nI (ct + 10 * w + 100 * h)) (nI_add _ _) ?_
              refine xv_k fL_isAdvert_175 ?_
              refine xv_il14 fL_isAdvert_178 ?_
              refine xv_imul fL_isAdvert_180 ?_
              refine xv_eqi (y := nI (1000 * 1)) (nI_mul _ _) ?_
              refine xv_iadd fL_isAdvert_181 ?_
              refine xv_eqi (y := nI (ct + 10 * w + 100 * h + 1000 * 1)) (nI_add _ _) ?_
              refine xv_k fL_isAdvert_182 ?_
              refine xv_il15 fL_isAdvert_185 ?_
              refine xv_k fL_isAdvert_187 ?_
              refine xv_iadd fL_isAdvert_188 ?_
              refine xv_eqi (y := nI (two / 12 % 4 + 1)) (nI_add _ _) ?_
              refine xv_imul fL_isAdvert_189 ?_
              refine xv_eqi (y := nI (10000 * (two / 12 % 4 + 1))) (nI_mul _ _) ?_
              refine xv_iadd fL_isAdvert_190 ?_
              refine xv_eqi (y := nI (ct + 10 * w + 100 * h + 1000 * 1 + 10000 * (two / 12 % 4 + 1))) (nI_add _ _) ?_
              refine xv_k fL_isAdvert_191 ?_
              refine xv_il16 fL_isAdvert_193 ?_
              refine xv_k fL_isAdvert_195 ?_
              refine xv_iadd fL_isAdvert_196 ?_
              refine xv_eqi (y := nI (0)) (by decide) ?_
              refine xv_imul fL_isAdvert_197 ?_
              refine xv_eqi (y := nI (100000 * (0))) (nI_mul _ _) ?_
              refine xv_iadd fL_isAdvert_198 ?_
              refine xv_eqi (y := nI (adv ct w h 1 (two / 12 % 4 + 1) (0))) (nI_add _ _) ?_
              refine xv_iastN fL_isAdvert_199 (sx_61 _ _) (⟨by omega, by decide⟩) ?_
              refine xv_al3 fL_isAdvert_200 ?_
              refine xv_al7 fL_isAdvert_201 ?_
              refine xv_k fL_isAdvert_203 ?_
              refine xv_ialdN fL_isAdvert_204 (sx_69 _ _) (⟨by omega, by decide⟩) ?_
              rw [xv_u_ne _ _ _ (by decide), e69]
              refine xv_k fL_isAdvert_205 ?_
              refine xv_iastN fL_isAdvert_206 (sx_62 _ _) (⟨by omega, by decide⟩) ?_
              refine xv_al7 fL_isAdvert_207 ?_
              refine xv_k fL_isAdvert_209 ?_
              refine xv_dup2 fL_isAdvert_210 ?_
              refine xv_ialdN fL_isAdvert_211 (sx_69 _ _) (⟨by omega, by decide⟩) ?_
              rw [xv_u_ne _ _ _ (by decide), xv_u_ne _ _ _ (by decide), e69]
              refine xv_k fL_isAdvert_212 ?_
              refine xv_iadd fL_isAdvert_213 ?_
              refine xv_eqi (y := nI (c.1 + 1)) (nI_add _ _) ?_
              refine xv_iastN fL_isAdvert_214 (sx_69 _ _) (⟨by omega, by decide⟩) ?_
              refine xv_il17 fL_isAdvert_215 ?_
              refine xv_al7 fL_isAdvert_217 ?_
              refine xv_k fL_isAdvert_219 ?_
              refine xv_ialdN fL_isAdvert_220 (sx_69 _ _) (⟨by omega, by decide⟩) ?_
              rw [xv_u_eq]
              refine xv_k fL_isAdvert_221 ?_
              refine xv_isub fL_isAdvert_222 ?_
              refine xv_eqi (y := nI c.1) (nI_pred c.1) ?_
              refine xv_ic_ne fL_isAdvert_223 (fun h_223 => ?_) (fun h_223 => ?_)
              · exact absurd rfl h_223
              · refine xv_al0 fL_isAdvert_226 ?_
                refine xv_k fL_isAdvert_227 ?_
                refine xv_k fL_isAdvert_228 ?_
                refine xv_k fL_isAdvert_229 ?_
                refine xv_k fL_isAdvert_231 ?_
                refine xv_k fL_isAdvert_232 ?_
                refine xv_k fL_isAdvert_233 ?_
                refine xv_callS7R (w_advert_0_A n (c.1 + 1, c.2) (c.1 + 1, c.2) J (w := 4) (h := 1) (by decide) (by decide) (p_advert_b n (c.1 + 1, c.2) _ J (x1 := nI 0) (x2 := nI 4) (x3 := nI 1) (x4 := nI 0) (x5 := nI 0) (x6 := nI 0) (okR_n (by decide) (by decide) (by decide)) (fun z => nI_ge (by decide) (by decide) z.2))) fL_isAdvert_234 YL_does VL_does lL_113 rfl (Nat.le_of_ble_eq_true rfl) (by decide) (by decide) (by decide) ?_
                refine xv_k fL_isAdvert_237 ?_
                refine xv_ic_ne fL_isAdvert_240 (fun h_240 => ?_) (fun h_240 => ?_)
                · exact absurd rfl h_240
                · refine xv_k fL_isAdvert_243 ?_
                  refine xv_goto fL_isAdvert_244 ?_
                  exact xv_iret fL_isAdvert_248 rfl rfl ⟨rfl, (c.1 + 1, c.2), rfl, rfl, rfl, adv_born (x5 := nI (two / 12 % 4)) (x6 := -1) hI h20 h4 hw hh (show 1 < 2 by decide) (show two / 12 % 4 + 1 ≤ 4 by omega) (show 0 ≤ 3 by omega) (Or.inr ⟨by omega, rfl⟩) (Or.inl ⟨rfl, rfl⟩) hO (by rw [hI1])⟩
            · exact absurd ((nI_eq (by omega) (by omega)).mp h_127) (by omega)
        · refine xv_il10 fL_isAdvert_78 ?_
          refine xv_k fL_isAdvert_80 ?_
          refine xv_idiv fL_isAdvert_83 (by decide) ?_
          refine xv_eqi (y := nI (two / 144)) (nI_div h2 (by decide)) ?_
          refine xv_k fL_isAdvert_84 ?_
          refine xv_irem fL_isAdvert_85 (by decide) ?_
          refine xv_eqi (y := nI (two / 144 % 3)) (nI_rem (by omega) (by decide)) ?_
          refine xv_goto fL_isAdvert_86 ?_
          refine xv_is16 fL_isAdvert_90 ?_
          refine xv_al0 fL_isAdvert_92 ?_
          refine xv_k fL_isAdvert_93 ?_
          refine xv_il11 fL_isAdvert_94 ?_
          refine xv_il12 fL_isAdvert_96 ?_
          refine xv_k fL_isAdvert_98 ?_
          refine xv_il13 fL_isAdvert_100 ?_
          refine xv_imul fL_isAdvert_102 ?_
          refine xv_eqi (y := nI (10 * h)) (nI_mul _ _) ?_
          refine xv_iadd fL_isAdvert_103 ?_
          refine xv_eqi (y := nI (w + 10 * h)) (nI_add _ _) ?_
          refine xv_il14 fL_isAdvert_104 ?_
          refine xv_il15 fL_isAdvert_106 ?_
          refine xv_il16 fL_isAdvert_108 ?_
          obtain ⟨I1, hI1⟩ : ∃ I1, I1 = xv_u (xAd (100 + c.1) (nI ct) (nI w) (nI h) (nI 1) (nI (two / 12 % 4)) (nI (two / 144 % 3)) (xv_z I (100 + c.1) 0)) 0 3 (nI (c.1 + 1)) := ⟨_, rfl⟩
          obtain hO : ∀ v j, v ≠ 100 + c.1 → (v ≠ 0 ∨ j ≠ 3) → I1 v j = I v j := fun v j g1 g2 => by
            rw [hI1]
            unfold xAd xv_u xv_z
            rw [if_neg (by omega), if_neg (by omega), if_neg (by omega), if_neg (by omega), if_neg (by omega), if_neg (by omega), if_neg (by omega), if_neg (by omega), if_neg (by omega), if_neg g1]
          obtain e69 : I1 69 0 = nI c.1 := (hO _ _ (by omega) (by omega)).trans e690
          refine xv_callS7R (w_advert_1_ok n c (c.1 + 1, c.2) J (I' := I1) (w := w) (h := h) (by omega) (by omega) (by rw [hI1]; exact p_advert_ok n c I J (x1 := nI ct) (x2 := nI w) (x3 := nI h) (x4 := nI 1) (x5 := nI (two / 12 % 4)) (x6 := nI (two / 144 % 3)) (okR_n (by omega) (by omega) (by decide)) (okR_n (by omega) (by omega) (by decide)) (okR_n (by omega) (by omega) (by decide)) ⟨fun z => absurd z (fa_nneg (by omega)), nI_le (by omega) (by decide)⟩ ⟨fun z => absurd z (fa_nneg (by omega)), nI_le (by omega) (by decide)⟩ ⟨by decide, by decide⟩ hI.ad.1 h20)) fL_isAdvert_110 YL_does VL_does lL_113 rfl (Nat.le_of_ble_eq_true rfl) (by decide) (by decide) (by decide) ?_
          refine xv_is17 fL_isAdvert_113 ?_
          refine xv_il11 fL_isAdvert_115 ?_
          refine xv_k fL_isAdvert_117 ?_
          refine xv_ic_eq fL_isAdvert_118 (fun h_118 => ?_) (fun h_118 => ?_)
          · exact absurd ((nI_eq (by omega) (by omega)).mp h_118) (by omega)
          · refine xv_al7 fL_isAdvert_121 ?_
            refine xv_k fL_isAdvert_123 ?_
            refine xv_ialdN fL_isAdvert_124 (sx_69 _ _) (⟨by omega, by decide⟩) ?_
            rw [e69]
            refine xv_k fL_isAdvert_125 ?_
            refine xv_ic_ne fL_isAdvert_127 (fun h_127 => ?_) (fun h_127 => ?_)
            · refine xv_al2 fL_isAdvert_156 ?_
              refine xv_al7 fL_isAdvert_157 ?_
              refine xv_k fL_isAdvert_159 ?_
              refine xv_ialdN fL_isAdvert_160 (sx_69 _ _) (⟨by omega, by decide⟩) ?_
              rw [e69]
              refine xv_il11 fL_isAdvert_161 ?_
              refine xv_k fL_isAdvert_163 ?_
              refine xv_il12 fL_isAdvert_165 ?_
              refine xv_imul fL_isAdvert_167 ?_
              refine xv_eqi (y := nI (10 * w)) (nI_mul _ _) ?_
              refine xv_iadd fL_isAdvert_168 ?_
              refine xv_eqi (y := nI (ct + 10 * w)) (nI_add _ _) ?_
              refine xv_k fL_isAdvert_169 ?_
              refine xv_il13 fL_isAdvert_171 ?_
              refine xv_imul fL_isAdvert_173 ?_
              refine xv_eqi (y := nI (100 * h)) (nI_mul _ _) ?_
              refine xv_iadd fL_isAdvert_174 ?_
              refine xv_eqi (y := nI (ct + 10 * w + 100 * h)) (nI_add _ _) ?_
              refine xv_k fL_isAdvert_175 ?_
              refine xv_il14 fL_isAdvert_178 ?_
              refine xv_imul fL_isAdvert_180 ?_
              refine xv_eqi (y := nI (1000 * 1)) (nI_mul _ _) ?_
              refine xv_iadd fL_isAdvert_181 ?_
              refine xv_eqi (y := nI (ct + 10 * w + 100 * h + 1000 * 1)) (nI_add _ _) ?_
              refine xv_k fL_isAdvert_182 ?_
              refine xv_il15 fL_isAdvert_185 ?_
              refine xv_k fL_isAdvert_187 ?_
              refine xv_iadd fL_isAdvert_188 ?_
              refine xv_eqi (y := nI (two / 12 % 4 + 1)) (nI_add _ _) ?_
              refine xv_imul fL_isAdvert_189 ?_
              refine xv_eqi (y := nI (10000 * (two / 12 % 4 + 1))) (nI_mul _ _) ?_
              refine xv_iadd fL_isAdvert_190 ?_
              refine xv_eqi (y := nI (ct + 10 * w + 100 * h + 1000 * 1 + 10000 * (two / 12 % 4 + 1))) (nI_add _ _) ?_
              refine xv_k fL_isAdvert_191 ?_
              refine xv_il16 fL_isAdvert_193 ?_
              refine xv_k fL_isAdvert_195 ?_
              refine xv_iadd fL_isAdvert_196 ?_
              refine xv_eqi (y := nI (two / 144 % 3 + 1)) (nI_add _ _) ?_
              refine xv_imul fL_isAdvert_197 ?_
              refine xv_eqi (y := nI (100000 * (two / 144 % 3 + 1))) (nI_mul _ _) ?_
              refine xv_iadd fL_isAdvert_198 ?_
              refine xv_eqi (y := nI (adv ct w h 1 (two / 12 % 4 + 1) (two / 144 % 3 + 1))) (nI_add _ _) ?_
              refine xv_iastN fL_isAdvert_199 (sx_61 _ _) (⟨by omega, by decide⟩) ?_
              refine xv_al3 fL_isAdvert_200 ?_
              refine xv_al7 fL_isAdvert_201 ?_
              refine xv_k fL_isAdvert_203 ?_
              refine xv_ialdN fL_isAdvert_204 (sx_69 _ _) (⟨by omega, by decide⟩) ?_
              rw [xv_u_ne _ _ _ (by decide), e69]
              refine xv_k fL_isAdvert_205 ?_
              refine xv_iastN fL_isAdvert_206 (sx_62 _ _) (⟨by omega, by decide⟩) ?_
              refine xv_al7 fL_isAdvert_207 ?_
              refine xv_k fL_isAdvert_209 ?_
              refine xv_dup2 fL_isAdvert_210 ?_
              refine xv_ialdN fL_isAdvert_211 (sx_69 _ _) (⟨by omega, by decide⟩) ?_
              rw [xv_u_ne _ _ _ (by decide), xv_u_ne _ _ _ (by decide), e69]
              refine xv_k fL_isAdvert_212 ?_
              refine xv_iadd fL_isAdvert_213 ?_
              refine xv_eqi (y := nI (c.1 + 1)) (nI_add _ _) ?_
              refine xv_iastN fL_isAdvert_214 (sx_69 _ _) (⟨by omega, by decide⟩) ?_
              refine xv_il17 fL_isAdvert_215 ?_
              refine xv_al7 fL_isAdvert_217 ?_
              refine xv_k fL_isAdvert_219 ?_
              refine xv_ialdN fL_isAdvert_220 (sx_69 _ _) (⟨by omega, by decide⟩) ?_
              rw [xv_u_eq]
              refine xv_k fL_isAdvert_221 ?_
              refine xv_isub fL_isAdvert_222 ?_
              refine xv_eqi (y := nI c.1) (nI_pred c.1) ?_
              refine xv_ic_ne fL_isAdvert_223 (fun h_223 => ?_) (fun h_223 => ?_)
              · exact absurd rfl h_223
              · refine xv_al0 fL_isAdvert_226 ?_
                refine xv_k fL_isAdvert_227 ?_
                refine xv_k fL_isAdvert_228 ?_
                refine xv_k fL_isAdvert_229 ?_
                refine xv_k fL_isAdvert_231 ?_
                refine xv_k fL_isAdvert_232 ?_
                refine xv_k fL_isAdvert_233 ?_
                refine xv_callS7R (w_advert_0_A n (c.1 + 1, c.2) (c.1 + 1, c.2) J (w := 4) (h := 1) (by decide) (by decide) (p_advert_b n (c.1 + 1, c.2) _ J (x1 := nI 0) (x2 := nI 4) (x3 := nI 1) (x4 := nI 0) (x5 := nI 0) (x6 := nI 0) (okR_n (by decide) (by decide) (by decide)) (fun z => nI_ge (by decide) (by decide) z.2))) fL_isAdvert_234 YL_does VL_does lL_113 rfl (Nat.le_of_ble_eq_true rfl) (by decide) (by decide) (by decide) ?_
                refine xv_k fL_isAdvert_237 ?_
                refine xv_ic_ne fL_isAdvert_240 (fun h_240 => ?_) (fun h_240 => ?_)
                · exact absurd rfl h_240
                · refine xv_k fL_isAdvert_243 ?_
                  refine xv_goto fL_isAdvert_244 ?_
                  exact xv_iret fL_isAdvert_248 rfl rfl ⟨rfl, (c.1 + 1, c.2), rfl, rfl, rfl, adv_born (x5 := nI (two / 12 % 4)) (x6 := nI (two / 144 % 3)) hI h20 h4 hw hh (show 1 < 2 by decide) (show two / 12 % 4 + 1 ≤ 4 by omega) (show two / 144 % 3 + 1 ≤ 3 by omega) (Or.inr ⟨by omega, rfl⟩) (Or.inr ⟨by omega, rfl⟩) hO (by rw [hI1])⟩
            · exact absurd ((nI_eq (by omega) (by omega)).mp h_127) (by omega)
theorem a_off_a (n : Nat) (c : Nat × Nat) (I : xv_I) (J : xv_J) {one two : Nat} (h1 : one < 2 ^ 31) (h2 : two < 2 ^ 31) (hn : n < 1000) (hI : Inv c I) {a : Nat} (ea : one % (c.1 + 1) = a) (hac : a = c.1) : xv_Met mL_isAdvert 11 64 512 (sx n c) I (rx c) J [.ref 0, .ref 60, .ref 61, .ref 62, .ref 65, .ref 66, .ref 67, .ref 69, .int (nI 3), .int (nI one), .int (nI two)] (qI n J) := by
  have hn9 := hI.ad.2.2.1
  have hn8 := hI.st.2.2.1
  have e690 := hI.ad.2.1
  have ha : a < c.1 + 1 := by rw [← ea]; exact Nat.mod_lt _ (by omega)
  refine xv_Met.of (by decide +kernel) (Nat.le_of_ble_eq_true rfl) (List.forall_mem_cons.mpr ⟨rfl, List.forall_mem_cons.mpr ⟨rfl, List.forall_mem_cons.mpr ⟨rfl, List.forall_mem_cons.mpr ⟨rfl, List.forall_mem_cons.mpr ⟨rfl, List.forall_mem_cons.mpr ⟨rfl, List.forall_mem_cons.mpr ⟨rfl, List.forall_mem_cons.mpr ⟨rfl, List.forall_mem_cons.mpr ⟨rfl, List.forall_mem_cons.mpr ⟨rfl, List.forall_mem_cons.mpr ⟨rfl, fun _ h => nomatch h⟩⟩⟩⟩⟩⟩⟩⟩⟩⟩⟩) ?_
  show xv_W mL_isAdvert 11 64 512 _ 64 512 (sx n c) I (rx c) J 0 [some (.ref 0), some (.ref 60), some (.ref 61), some (.ref 62), some (.ref 65), some (.ref 66), some (.ref 67), some (.ref 69), some (.int (nI 3)), some (.int (nI one)), some (.int (nI two)), none, none, none, none, none, none, none] []
  refine xv_il8 fL_isAdvert_0 ?_
  refine xv_if_ne fL_isAdvert_2 (fun h_2 => ?_) (fun h_2 => ?_)
  · refine xv_il8 fL_isAdvert_249 ?_
    refine xv_k fL_isAdvert_251 ?_
    refine xv_ic_ne fL_isAdvert_252 (fun h_252 => ?_) (fun h_252 => ?_)
    · refine xv_il9 fL_isAdvert_370 ?_
      refine xv_al7 fL_isAdvert_372 ?_
      refine xv_k fL_isAdvert_374 ?_
      refine xv_ialdN fL_isAdvert_375 (sx_69 _ _) (⟨by omega, by decide⟩) ?_
      rw [e690]
      refine xv_k fL_isAdvert_376 ?_
      refine xv_iadd fL_isAdvert_377 ?_
      refine xv_eqi (y := nI (c.1 + 1)) (nI_add _ _) ?_
      refine xv_irem fL_isAdvert_378 (nI_ne0 (by omega) (by omega)) ?_
      refine xv_eqi (y := nI a) (by rw [nI_rem h1 (by omega), ea]) ?_
      refine xv_is11 fL_isAdvert_379 ?_
      refine xv_il8 fL_isAdvert_381 ?_
      refine xv_k fL_isAdvert_383 ?_
      refine xv_ic_ne fL_isAdvert_384 (fun h_384 => ?_) (fun h_384 => ?_)
      · refine xv_al0 fL_isAdvert_470 ?_
        refine xv_k fL_isAdvert_471 ?_
        refine xv_il11 fL_isAdvert_472 ?_
        refine xv_k fL_isAdvert_474 ?_
        refine xv_k fL_isAdvert_475 ?_
        refine xv_k fL_isAdvert_476 ?_
        refine xv_k fL_isAdvert_477 ?_
        refine xv_callS7R (w_takeOff_I n c c J (p_takeOff_a n c I J (x := nI a) (fun k z hk => by have := (nI_eq (by omega) (by omega)).mp z; omega))) fL_isAdvert_478 YL_does VL_does lL_113 rfl (Nat.le_of_ble_eq_true rfl) (by decide) (by decide) (by decide) ?_
        refine xv_is12 fL_isAdvert_481 ?_
        refine xv_il11 fL_isAdvert_483 ?_
        refine xv_al7 fL_isAdvert_485 ?_
        refine xv_k fL_isAdvert_487 ?_
        refine xv_ialdN fL_isAdvert_488 (sx_69 _ _) (⟨by omega, by decide⟩) ?_
        rw [e690]
        refine xv_ic_eq fL_isAdvert_489 (fun h_489 => ?_) (fun h_489 => ?_)
        · refine xv_il12 fL_isAdvert_499 ?_
          refine xv_il11 fL_isAdvert_501 ?_
          refine xv_al7 fL_isAdvert_503 ?_
          refine xv_k fL_isAdvert_505 ?_
          refine xv_ialdN fL_isAdvert_506 (sx_69 _ _) (⟨by omega, by decide⟩) ?_
          rw [e690]
          refine xv_ic_ne fL_isAdvert_507 (fun h_507 => ?_) (fun h_507 => ?_)
          · exact absurd ((nI_eq (by omega) (by omega)).mpr (by omega)) h_507
          · refine xv_k fL_isAdvert_510 ?_
            refine xv_goto fL_isAdvert_513 ?_
            refine xv_ic_ne fL_isAdvert_519 (fun h_519 => ?_) (fun h_519 => ?_)
            · exact absurd rfl h_519
            · refine xv_k fL_isAdvert_522 ?_
              refine xv_goto fL_isAdvert_523 ?_
              exact xv_iret fL_isAdvert_527 rfl rfl ⟨rfl, c, rfl, rfl, rfl, hI⟩
        · exact absurd ((nI_eq (by omega) (by omega)).mpr (by omega)) h_489
      · exact absurd h_384 (by decide)
    · exact absurd h_252 (by decide)
  · exact absurd h_2 (by decide)
theorem a_off_b (n : Nat) (c : Nat × Nat) (I : xv_I) (J : xv_J) {one two : Nat} (h1 : one < 2 ^ 31) (h2 : two < 2 ^ 31) (hn : n < 1000) (hI : Inv c I) {a : Nat} (ea : one % (c.1 + 1) = a) (hac : a < c.1) (h6 : I (100 + a) 6 = -1) (h62 : I 62 a = -1) : xv_Met mL_isAdvert 11 64 512 (sx n c) I (rx c) J [.ref 0, .ref 60, .ref 61, .ref 62, .ref 65, .ref 66, .ref 67, .ref 69, .int (nI 3), .int (nI one), .int (nI two)] (qI n J) := by
  have hn9 := hI.ad.2.2.1
  have hn8 := hI.st.2.2.1
  have e690 := hI.ad.2.1
  have ha : a < c.1 + 1 := by rw [← ea]; exact Nat.mod_lt _ (by omega)
  refine xv_Met.of (by decide +kernel) (Nat.le_of_ble_eq_true rfl) (List.forall_mem_cons.mpr ⟨rfl, List.forall_mem_cons.mpr ⟨rfl, List.forall_mem_cons.mpr ⟨rfl, List.forall_mem_cons.mpr ⟨rfl, List.forall_mem_cons.mpr ⟨rfl, List.forall_mem_cons.mpr ⟨rfl, List.forall_mem_cons.mpr ⟨rfl, List.forall_mem_cons.mpr ⟨rfl, List.forall_mem_cons.mpr ⟨rfl, List.forall_mem_cons.mpr ⟨rfl, List.forall_mem_cons.mpr ⟨rfl, fun _ h => nomatch h⟩⟩⟩⟩⟩⟩⟩⟩⟩⟩⟩) ?_
  show xv_W mL_isAdvert 11 64 512 _ 64 512 (sx n c) I (rx c) J 0 [some (.ref 0), some (.ref 60), some (.ref 61), some (.ref 62), some (.ref 65), some (.ref 66), some (.ref 67), some (.ref 69), some (.int (nI 3)), some (.int (nI one)), some (.int (nI two)), none, none, none, none, none, none, none] []
  refine xv_il8 fL_isAdvert_0 ?_
  refine xv_if_ne fL_isAdvert_2 (fun h_2 => ?_) (fun h_2 => ?_)
  · refine xv_il8 fL_isAdvert_249 ?_
    refine xv_k fL_isAdvert_251 ?_
    refine xv_ic_ne fL_isAdvert_252 (fun h_252 => ?_) (fun h_252 => ?_)
    · refine xv_il9 fL_isAdvert_370 ?_
      refine xv_al7 fL_isAdvert_372 ?_
      refine xv_k fL_isAdvert_374 ?_
      refine xv_ialdN fL_isAdvert_375 (sx_69 _ _) (⟨by omega, by decide⟩) ?_
      rw [e690]
      refine xv_k fL_isAdvert_376 ?_
      refine xv_iadd fL_isAdvert_377 ?_
      refine xv_eqi (y := nI (c.1 + 1)) (nI_add _ _) ?_
      refine xv_irem fL_isAdvert_378 (nI_ne0 (by omega) (by omega)) ?_
      refine xv_eqi (y := nI a) (by rw [nI_rem h1 (by omega), ea]) ?_
      refine xv_is11 fL_isAdvert_379 ?_
      refine xv_il8 fL_isAdvert_381 ?_
      refine xv_k fL_isAdvert_383 ?_
      refine xv_ic_ne fL_isAdvert_384 (fun h_384 => ?_) (fun h_384 => ?_)
      · refine xv_al0 fL_isAdvert_470 ?_
        refine xv_k fL_isAdvert_471 ?_
        refine xv_il11 fL_isAdvert_472 ?_
        refine xv_k fL_isAdvert_474 ?_
        refine xv_k fL_isAdvert_475 ?_
        refine xv_k fL_isAdvert_476 ?_
        refine xv_k fL_isAdvert_477 ?_
        refine xv_callS7R (w_takeOff_S n c c J (p_takeOff_b n c I J hac (by omega) h6)) fL_isAdvert_478 YL_does VL_does lL_113 rfl (Nat.le_of_ble_eq_true rfl) (by decide) (by decide) (by decide) ?_
        refine xv_is12 fL_isAdvert_481 ?_
        refine xv_il11 fL_isAdvert_483 ?_
        refine xv_al7 fL_isAdvert_485 ?_
        refine xv_k fL_isAdvert_487 ?_
        refine xv_ialdN fL_isAdvert_488 (sx_69 _ _) (⟨by omega, by decide⟩) ?_
        rw [e690]
        refine xv_ic_eq fL_isAdvert_489 (fun h_489 => ?_) (fun h_489 => ?_)
        · exact absurd ((nI_eq (by omega) (by omega)).mp h_489) (by omega)
        · refine xv_al3 fL_isAdvert_492 ?_
          refine xv_il11 fL_isAdvert_493 ?_
          refine xv_ialdN fL_isAdvert_495 (sx_62 _ _) (⟨by omega, by decide⟩) ?_
          rw [h62]
          refine xv_if_ge fL_isAdvert_496 (fun h_496 => ?_) (fun h_496 => ?_)
          · exact absurd h_496 (by decide)
          · refine xv_il12 fL_isAdvert_499 ?_
            refine xv_il11 fL_isAdvert_501 ?_
            refine xv_al7 fL_isAdvert_503 ?_
            refine xv_k fL_isAdvert_505 ?_
            refine xv_ialdN fL_isAdvert_506 (sx_69 _ _) (⟨by omega, by decide⟩) ?_
            rw [e690]
            refine xv_ic_ne fL_isAdvert_507 (fun h_507 => ?_) (fun h_507 => ?_)
            · refine xv_k fL_isAdvert_516 ?_
              refine xv_ic_ne fL_isAdvert_519 (fun h_519 => ?_) (fun h_519 => ?_)
              · exact absurd rfl h_519
              · refine xv_k fL_isAdvert_522 ?_
                refine xv_goto fL_isAdvert_523 ?_
                exact xv_iret fL_isAdvert_527 rfl rfl ⟨rfl, c, rfl, rfl, rfl, hI⟩
            · exact absurd ((nI_eq (by omega) (by omega)).mp h_507) (by omega)
      · exact absurd h_384 (by decide)
    · exact absurd h_252 (by decide)
  · exact absurd h_2 (by decide)
theorem l_many (n : Nat) (c : Nat × Nat) (J : xv_J) {D MC MS kc ks : Nat} {Q : xv_Q} {K : xv_I} {z : Nat} (hz : z < 4) (hF : ∀ i, i < c.1 → ∃ ct, fAd K i ct) (e690 : K 69 0 = nI c.1) (hn9 : c.1 ≤ 20) {l8 l9 l10 l11 l12 l13 : Option Value} (kk : ∀ l17, xv_W mL_isAdvert D MC MS Q kc ks (sx n c) K (rx c) J 610 (some (.ref 0) :: some (.ref 60) :: some (.ref 61) :: some (.ref 62) :: some (.ref 65) :: some (.ref 66) :: some (.ref 67) :: some (.ref 69) :: l8 :: l9 :: l10 :: l11 :: l12 :: l13 :: some (.int (nI z)) :: some (.int (nI (xIn K c.1 z))) :: some (.int (nI c.1)) :: l17 :: []) []) : ∀ (mm k s : Nat) (l17 : Option Value), k + mm = c.1 → it (xIn1 K z) mm k s = xIn K c.1 z → xv_W mL_isAdvert D MC MS Q kc ks (sx n c) K (rx c) J 551 (some (.ref 0) :: some (.ref 60) :: some (.ref 61) :: some (.ref 62) :: some (.ref 65) :: some (.ref 66) :: some (.ref 67) :: some (.ref 69) :: l8 :: l9 :: l10 :: l11 :: l12 :: l13 :: some (.int (nI z)) :: some (.int (nI s)) :: some (.int (nI k)) :: l17 :: []) [] := by
  intro mm
  induction mm with
  | zero =>
    intro k s l17 hm hs
    obtain rfl : k = c.1 := by omega
    obtain rfl : s = xIn K c.1 z := hs
    show xv_W mL_isAdvert D MC MS _ kc ks (sx n c) K (rx c) J 551 (some (.ref 0) :: some (.ref 60) :: some (.ref 61) :: some (.ref 62) :: some (.ref 65) :: some (.ref 66) :: some (.ref 67) :: some (.ref 69) :: l8 :: l9 :: l10 :: l11 :: l12 :: l13 :: some (.int (nI z)) :: some (.int (nI (xIn K c.1 z))) :: some (.int (nI c.1)) :: l17 :: []) []
    refine xv_il16 fL_isAdvert_551 ?_
    refine xv_al7 fL_isAdvert_553 ?_
    refine xv_k fL_isAdvert_555 ?_
    refine xv_ialdN fL_isAdvert_556 (sx_69 _ _) (⟨by omega, by decide⟩) ?_
    rw [e690]
    refine xv_ic_ge fL_isAdvert_557 (fun h_557 => ?_) (fun h_557 => ?_)
    · exact kk _
    · exact absurd (nI_le (Nat.le_refl _) (by omega)) h_557
  | succ mm ih =>
    intro k s l17 hm hs
    have hk : k < c.1 := by omega
    obtain ⟨ct, f1, f2, f3, f4⟩ := hF k hk
    rw [it] at hs
    show xv_W mL_isAdvert D MC MS _ kc ks (sx n c) K (rx c) J 551 (some (.ref 0) :: some (.ref 60) :: some (.ref 61) :: some (.ref 62) :: some (.ref 65) :: some (.ref 66) :: some (.ref 67) :: some (.ref 69) :: l8 :: l9 :: l10 :: l11 :: l12 :: l13 :: some (.int (nI z)) :: some (.int (nI s)) :: some (.int (nI k)) :: l17 :: []) []
    rcases f4 with ⟨d1, d2⟩ | ⟨p, f, d1, d2, d3, d4⟩
    · refine xv_il16 fL_isAdvert_551 ?_
      refine xv_al7 fL_isAdvert_553 ?_
      refine xv_k fL_isAdvert_555 ?_
      refine xv_ialdN fL_isAdvert_556 (sx_69 _ _) (⟨by omega, by decide⟩) ?_
      rw [e690]
      refine xv_ic_ge fL_isAdvert_557 (fun h_557 => ?_) (fun h_557 => ?_)
      · exact absurd h_557 (nI_ge hk (by omega))
      · refine xv_il15 fL_isAdvert_560 ?_
        refine xv_al3 fL_isAdvert_562 ?_
        refine xv_il16 fL_isAdvert_563 ?_
        refine xv_ialdN fL_isAdvert_565 (sx_62 _ _) (⟨by omega, by decide⟩) ?_
        rw [d2]
        refine xv_if_lt fL_isAdvert_566 (fun h_566 => ?_) (fun h_566 => ?_)
        · refine xv_k fL_isAdvert_600 ?_
          refine xv_iadd fL_isAdvert_601 ?_
          refine xv_eqi (y := nI s) (by rw [nI_add]; rfl) ?_
          refine xv_is15 fL_isAdvert_602 ?_
          refine xv_iincN16 (a := 1) fL_isAdvert_604 (by decide) ?_
          refine xv_goto fL_isAdvert_607 ?_
          exact ih (k + 1) s _ (by omega) (by rw [show xIn1 K z k s = s from iteP_f (fun q => q.1 d1) _ _] at hs; exact hs)
        · exact absurd (by decide) h_566
    · refine xv_il16 fL_isAdvert_551 ?_
      refine xv_al7 fL_isAdvert_553 ?_
      refine xv_k fL_isAdvert_555 ?_
      refine xv_ialdN fL_isAdvert_556 (sx_69 _ _) (⟨by omega, by decide⟩) ?_
      rw [e690]
      refine xv_ic_ge fL_isAdvert_557 (fun h_557 => ?_) (fun h_557 => ?_)
      · exact absurd h_557 (nI_ge hk (by omega))
      · refine xv_il15 fL_isAdvert_560 ?_
        refine xv_al3 fL_isAdvert_562 ?_
        refine xv_il16 fL_isAdvert_563 ?_
        refine xv_ialdN fL_isAdvert_565 (sx_62 _ _) (⟨by omega, by decide⟩) ?_
        rw [d4]
        refine xv_if_lt fL_isAdvert_566 (fun h_566 => ?_) (fun h_566 => ?_)
        · exact absurd h_566 (nI_pos (by omega))
        · refine xv_al3 fL_isAdvert_569 ?_
          refine xv_il16 fL_isAdvert_570 ?_
          refine xv_ialdN fL_isAdvert_572 (sx_62 _ _) (⟨by omega, by decide⟩) ?_
          rw [d4]
          refine xv_k fL_isAdvert_573 ?_
          refine xv_idiv fL_isAdvert_575 (by decide) ?_
          refine xv_eqi (y := nI p) (by rw [nI_div (by omega) (by decide)]; congr 1; omega) ?_
          refine xv_k fL_isAdvert_576 ?_
          refine xv_ic_lt fL_isAdvert_578 (fun h_578 => ?_) (fun h_578 => ?_)
          · refine xv_k fL_isAdvert_596 ?_
            refine xv_goto fL_isAdvert_597 ?_
            refine xv_iadd fL_isAdvert_601 ?_
            refine xv_eqi (y := nI (s + 1)) (nI_add _ _) ?_
            refine xv_is15 fL_isAdvert_602 ?_
            refine xv_iincN16 (a := 1) fL_isAdvert_604 (by decide) ?_
            refine xv_goto fL_isAdvert_607 ?_
            exact ih (k + 1) (s + 1) _ (by omega) (by rw [show xIn1 K z k s = s + 1 from iteP_t ⟨(by rw [d3]; exact nI_nm1 (by omega)), Or.inl (by rw [d3]; exact h_578)⟩ _ _] at hs; exact hs)
          · refine xv_al3 fL_isAdvert_581 ?_
            refine xv_il16 fL_isAdvert_582 ?_
            refine xv_ialdN fL_isAdvert_584 (sx_62 _ _) (⟨by omega, by decide⟩) ?_
            rw [d4]
            refine xv_k fL_isAdvert_585 ?_
            refine xv_idiv fL_isAdvert_587 (by decide) ?_
            refine xv_eqi (y := nI p) (by rw [nI_div (by omega) (by decide)]; congr 1; omega) ?_
            refine xv_k fL_isAdvert_588 ?_
            refine xv_il14 fL_isAdvert_590 ?_
            refine xv_iadd fL_isAdvert_592 ?_
            refine xv_ic_ne fL_isAdvert_593 (fun h_593 => ?_) (fun h_593 => ?_)
            · refine xv_k fL_isAdvert_600 ?_
              refine xv_iadd fL_isAdvert_601 ?_
              refine xv_eqi (y := nI s) (by rw [nI_add]; rfl) ?_
              refine xv_is15 fL_isAdvert_602 ?_
              refine xv_iincN16 (a := 1) fL_isAdvert_604 (by decide) ?_
              refine xv_goto fL_isAdvert_607 ?_
              exact ih (k + 1) s _ (by omega) (by rw [show xIn1 K z k s = s from iteP_f (fun q => q.2.elim (fun r => h_578 (by rw [← d3]; exact r)) (fun r => h_593 (by rw [← d3]; exact r))) _ _] at hs; exact hs)
            · refine xv_k fL_isAdvert_596 ?_
              refine xv_goto fL_isAdvert_597 ?_
              refine xv_iadd fL_isAdvert_601 ?_
              refine xv_eqi (y := nI (s + 1)) (nI_add _ _) ?_
              refine xv_is15 fL_isAdvert_602 ?_
              refine xv_iincN16 (a := 1) fL_isAdvert_604 (by decide) ?_
              refine xv_goto fL_isAdvert_607 ?_
              exact ih (k + 1) (s + 1) _ (by omega) (by rw [show xIn1 K z k s = s + 1 from iteP_t ⟨(by rw [d3]; exact nI_nm1 (by omega)), Or.inr (by rw [d3]; exact h_593)⟩ _ _] at hs; exact hs)

theorem a_off_3 (n : Nat) (c : Nat × Nat) (I : xv_I) (J : xv_J) {one two : Nat} (h1 : one < 2 ^ 31) (h2 : two < 2 ^ 31) (hn : n < 1000) (hI : Inv c I) {a : Nat} (ea : one % (c.1 + 1) = a) {z : Nat} (ez : two % 4 = z) (hz : z = 3) (hac : a < c.1) (h6 : ¬ I (100 + a) 6 = -1) : xv_Met mL_isAdvert 11 64 512 (sx n c) I (rx c) J [.ref 0, .ref 60, .ref 61, .ref 62, .ref 65, .ref 66, .ref 67, .ref 69, .int (nI 3), .int (nI one), .int (nI two)] (qM n J) := by
  have hn9 := hI.ad.2.2.1
  have hn8 := hI.st.2.2.1
  have e690 := hI.ad.2.1
  have ha : a < c.1 + 1 := by rw [← ea]; exact Nat.mod_lt _ (by omega)
  obtain ⟨ct, w, h9, col, sec, zo, a1, a2, a3, a4, a5, a6, a7, a8, a9, b1, b2, b3, b4, b5⟩ := hI.ad.2.2.2 a hac
  obtain ⟨p, f, d1, d2, d3, d4, d5, d6, d7⟩ := b5.resolve_left (fun q => h6 q.1)
  obtain ⟨I1, hI1⟩ : ∃ I1, I1 = xv_u (xv_u (xFree (nI (100 + a)) I) (100 + a) 6 (-1)) (100 + a) 7 (-1) := ⟨_, rfl⟩
  have hO : ∀ v j, 15 < v → v ≠ 100 + a → I1 v j = I v j := fun v j g1 g2 => by
    rw [hI1, xv_u_ne _ _ _ g2, xv_u_ne _ _ _ g2, xFree_o _ _ g1]
  have hM : Mid c (xv_u I1 62 a (-1)) := by rw [hI1]; exact Mid.takeOff hI hac
  have k62 : I1 62 a = nI (100 * p + f) := (hO _ _ (by omega) (by omega)).trans d6
  have k69 : I1 69 0 = nI c.1 := (hO _ _ (by omega) (by omega)).trans e690
  have kF : ∀ i, i < c.1 → ∃ ct, fAd (xv_u I1 62 a (-1)) i ct := fun i hi => (hM.1.2.2.2.2.2.1.2.2.2 i hi).f
  refine xv_Met.of (by decide +kernel) (Nat.le_of_ble_eq_true rfl) (List.forall_mem_cons.mpr ⟨rfl, List.forall_mem_cons.mpr ⟨rfl, List.forall_mem_cons.mpr ⟨rfl, List.forall_mem_cons.mpr ⟨rfl, List.forall_mem_cons.mpr ⟨rfl, List.forall_mem_cons.mpr ⟨rfl, List.forall_mem_cons.mpr ⟨rfl, List.forall_mem_cons.mpr ⟨rfl, List.forall_mem_cons.mpr ⟨rfl, List.forall_mem_cons.mpr ⟨rfl, List.forall_mem_cons.mpr ⟨rfl, fun _ h => nomatch h⟩⟩⟩⟩⟩⟩⟩⟩⟩⟩⟩) ?_
  show xv_W mL_isAdvert 11 64 512 _ 64 512 (sx n c) I (rx c) J 0 [some (.ref 0), some (.ref 60), some (.ref 61), some (.ref 62), some (.ref 65), some (.ref 66), some (.ref 67), some (.ref 69), some (.int (nI 3)), some (.int (nI one)), some (.int (nI two)), none, none, none, none, none, none, none] []
  refine xv_il8 fL_isAdvert_0 ?_
  refine xv_if_ne fL_isAdvert_2 (fun h_2 => ?_) (fun h_2 => ?_)
  · refine xv_il8 fL_isAdvert_249 ?_
    refine xv_k fL_isAdvert_251 ?_
    refine xv_ic_ne fL_isAdvert_252 (fun h_252 => ?_) (fun h_252 => ?_)
    · refine xv_il9 fL_isAdvert_370 ?_
      refine xv_al7 fL_isAdvert_372 ?_
      refine xv_k fL_isAdvert_374 ?_
      refine xv_ialdN fL_isAdvert_375 (sx_69 _ _) (⟨by omega, by decide⟩) ?_
      rw [e690]
      refine xv_k fL_isAdvert_376 ?_
      refine xv_iadd fL_isAdvert_377 ?_
      refine xv_eqi (y := nI (c.1 + 1)) (nI_add _ _) ?_
      refine xv_irem fL_isAdvert_378 (nI_ne0 (by omega) (by omega)) ?_
      refine xv_eqi (y := nI a) (by rw [nI_rem h1 (by omega), ea]) ?_
      refine xv_is11 fL_isAdvert_379 ?_
      refine xv_il8 fL_isAdvert_381 ?_
      refine xv_k fL_isAdvert_383 ?_
      refine xv_ic_ne fL_isAdvert_384 (fun h_384 => ?_) (fun h_384 => ?_)
      · refine xv_al0 fL_isAdvert_470 ?_
        refine xv_k fL_isAdvert_471 ?_
        refine xv_il11 fL_isAdvert_472 ?_
        refine xv_k fL_isAdvert_474 ?_
        refine xv_k fL_isAdvert_475 ?_
        refine xv_k fL_isAdvert_476 ?_
        refine xv_k fL_isAdvert_477 ?_
        refine xv_callS7R (w_takeOff_ok n c c J (I' := I1) (by rw [hI1]; exact p_takeOff_ok n c I J hac (by omega) h6)) fL_isAdvert_478 YL_does VL_does lL_113 rfl (Nat.le_of_ble_eq_true rfl) (by decide) (by decide) (by decide) ?_
        rw [d4, d5, nI_mul, nI_add]
        refine xv_is12 fL_isAdvert_481 ?_
        refine xv_il11 fL_isAdvert_483 ?_
        refine xv_al7 fL_isAdvert_485 ?_
        refine xv_k fL_isAdvert_487 ?_
        refine xv_ialdN fL_isAdvert_488 (sx_69 _ _) (⟨by omega, by decide⟩) ?_
        rw [k69]
        refine xv_ic_eq fL_isAdvert_489 (fun h_489 => ?_) (fun h_489 => ?_)
        · exact absurd ((nI_eq (by omega) (by omega)).mp h_489) (by omega)
        · refine xv_al3 fL_isAdvert_492 ?_
          refine xv_il11 fL_isAdvert_493 ?_
          refine xv_ialdN fL_isAdvert_495 (sx_62 _ _) (⟨by omega, by decide⟩) ?_
          rw [k62]
          refine xv_if_ge fL_isAdvert_496 (fun h_496 => ?_) (fun h_496 => ?_)
          · refine xv_al3 fL_isAdvert_528 ?_
            refine xv_il11 fL_isAdvert_529 ?_
            refine xv_ialdN fL_isAdvert_531 (sx_62 _ _) (⟨by omega, by decide⟩) ?_
            rw [k62]
            refine xv_is13 fL_isAdvert_532 ?_
            refine xv_al3 fL_isAdvert_534 ?_
            refine xv_il11 fL_isAdvert_535 ?_
            refine xv_k fL_isAdvert_537 ?_
            refine xv_iastN fL_isAdvert_538 (sx_62 _ _) (⟨by omega, by decide⟩) ?_
            refine xv_il10 fL_isAdvert_539 ?_
            refine xv_k fL_isAdvert_541 ?_
            refine xv_irem fL_isAdvert_542 (by decide) ?_
            refine xv_eqi (y := nI z) (by rw [nI_rem h2 (by decide), ez]) ?_
            refine xv_is14 fL_isAdvert_543 ?_
            refine xv_k fL_isAdvert_545 ?_
            refine xv_is15 fL_isAdvert_546 ?_
            refine xv_k fL_isAdvert_548 ?_
            refine xv_is16 fL_isAdvert_549 ?_
            refine l_many n c J (z := z) (by omega) kF ((xv_u_ne _ _ _ (by decide)).trans k69) hn9 (fun l17 => ?_) c.1 0 0 _ (by omega) rfl
            refine xv_il12 fL_isAdvert_610 ?_
            refine xv_il13 fL_isAdvert_612 ?_
            refine xv_ic_ne fL_isAdvert_614 (fun h_614 => ?_) (fun h_614 => ?_)
            · exact absurd rfl h_614
            · refine xv_al0 fL_isAdvert_617 ?_
              refine xv_k fL_isAdvert_618 ?_
              refine xv_il14 fL_isAdvert_620 ?_
              refine xv_k fL_isAdvert_622 ?_
              refine xv_k fL_isAdvert_623 ?_
              refine xv_k fL_isAdvert_624 ?_
              refine xv_k fL_isAdvert_625 ?_
              refine xv_callS7R (w_advertsIn_I n c c J (p_advertsIn_a n c _ J (x := nI z) (Or.inr (nI_nlt (by omega) (by omega))))) fL_isAdvert_626 YL_does VL_does lL_113 rfl (Nat.le_of_ble_eq_true rfl) (by decide) (by decide) (by decide) ?_
              refine xv_il14 fL_isAdvert_629 ?_
              refine xv_k fL_isAdvert_631 ?_
              refine xv_ic_ne fL_isAdvert_632 (fun h_632 => ?_) (fun h_632 => ?_)
              · exact absurd ((nI_eq (by omega) (by omega)).mpr (by omega)) h_632
              · refine xv_k fL_isAdvert_635 ?_
                refine xv_goto fL_isAdvert_638 ?_
                refine xv_ic_ne fL_isAdvert_643 (fun h_643 => ?_) (fun h_643 => ?_)
                · exact absurd rfl h_643
                · refine xv_k fL_isAdvert_646 ?_
                  refine xv_goto fL_isAdvert_647 ?_
                  exact xv_iret fL_isAdvert_651 rfl rfl ⟨rfl, c, rfl, rfl, rfl, hM⟩
          · exact absurd (nI_pos' (by omega)) h_496
      · exact absurd h_384 (by decide)
    · exact absurd h_252 (by decide)
  · exact absurd h_2 (by decide)
theorem a_off_z (n : Nat) (c : Nat × Nat) (I : xv_I) (J : xv_J) {one two : Nat} (h1 : one < 2 ^ 31) (h2 : two < 2 ^ 31) (hn : n < 1000) (hI : Inv c I) {a : Nat} (ea : one % (c.1 + 1) = a) {z : Nat} (ez : two % 4 = z) (hz : z < 3) (hac : a < c.1) (h6 : ¬ I (100 + a) 6 = -1) : xv_Met mL_isAdvert 11 64 512 (sx n c) I (rx c) J [.ref 0, .ref 60, .ref 61, .ref 62, .ref 65, .ref 66, .ref 67, .ref 69, .int (nI 3), .int (nI one), .int (nI two)] (qM n J) := by
  have hn9 := hI.ad.2.2.1
  have hn8 := hI.st.2.2.1
  have e690 := hI.ad.2.1
  have ha : a < c.1 + 1 := by rw [← ea]; exact Nat.mod_lt _ (by omega)
  obtain ⟨ct, w, h9, col, sec, zo, a1, a2, a3, a4, a5, a6, a7, a8, a9, b1, b2, b3, b4, b5⟩ := hI.ad.2.2.2 a hac
  obtain ⟨p, f, d1, d2, d3, d4, d5, d6, d7⟩ := b5.resolve_left (fun q => h6 q.1)
  obtain ⟨I1, hI1⟩ : ∃ I1, I1 = xv_u (xv_u (xFree (nI (100 + a)) I) (100 + a) 6 (-1)) (100 + a) 7 (-1) := ⟨_, rfl⟩
  have hO : ∀ v j, 15 < v → v ≠ 100 + a → I1 v j = I v j := fun v j g1 g2 => by
    rw [hI1, xv_u_ne _ _ _ g2, xv_u_ne _ _ _ g2, xFree_o _ _ g1]
  have hM : Mid c (xv_u I1 62 a (-1)) := by rw [hI1]; exact Mid.takeOff hI hac
  have k62 : I1 62 a = nI (100 * p + f) := (hO _ _ (by omega) (by omega)).trans d6
  have k69 : I1 69 0 = nI c.1 := (hO _ _ (by omega) (by omega)).trans e690
  have kF : ∀ i, i < c.1 → ∃ ct, fAd (xv_u I1 62 a (-1)) i ct := fun i hi => (hM.1.2.2.2.2.2.1.2.2.2 i hi).f
  refine xv_Met.of (by decide +kernel) (Nat.le_of_ble_eq_true rfl) (List.forall_mem_cons.mpr ⟨rfl, List.forall_mem_cons.mpr ⟨rfl, List.forall_mem_cons.mpr ⟨rfl, List.forall_mem_cons.mpr ⟨rfl, List.forall_mem_cons.mpr ⟨rfl, List.forall_mem_cons.mpr ⟨rfl, List.forall_mem_cons.mpr ⟨rfl, List.forall_mem_cons.mpr ⟨rfl, List.forall_mem_cons.mpr ⟨rfl, List.forall_mem_cons.mpr ⟨rfl, List.forall_mem_cons.mpr ⟨rfl, fun _ h => nomatch h⟩⟩⟩⟩⟩⟩⟩⟩⟩⟩⟩) ?_
  show xv_W mL_isAdvert 11 64 512 _ 64 512 (sx n c) I (rx c) J 0 [some (.ref 0), some (.ref 60), some (.ref 61), some (.ref 62), some (.ref 65), some (.ref 66), some (.ref 67), some (.ref 69), some (.int (nI 3)), some (.int (nI one)), some (.int (nI two)), none, none, none, none, none, none, none] []
  refine xv_il8 fL_isAdvert_0 ?_
  refine xv_if_ne fL_isAdvert_2 (fun h_2 => ?_) (fun h_2 => ?_)
  · refine xv_il8 fL_isAdvert_249 ?_
    refine xv_k fL_isAdvert_251 ?_
    refine xv_ic_ne fL_isAdvert_252 (fun h_252 => ?_) (fun h_252 => ?_)
    · refine xv_il9 fL_isAdvert_370 ?_
      refine xv_al7 fL_isAdvert_372 ?_
      refine xv_k fL_isAdvert_374 ?_
      refine xv_ialdN fL_isAdvert_375 (sx_69 _ _) (⟨by omega, by decide⟩) ?_
      rw [e690]
      refine xv_k fL_isAdvert_376 ?_
      refine xv_iadd fL_isAdvert_377 ?_
      refine xv_eqi (y := nI (c.1 + 1)) (nI_add _ _) ?_
      refine xv_irem fL_isAdvert_378 (nI_ne0 (by omega) (by omega)) ?_
      refine xv_eqi (y := nI a) (by rw [nI_rem h1 (by omega), ea]) ?_
      refine xv_is11 fL_isAdvert_379 ?_
      refine xv_il8 fL_isAdvert_381 ?_
      refine xv_k fL_isAdvert_383 ?_
      refine xv_ic_ne fL_isAdvert_384 (fun h_384 => ?_) (fun h_384 => ?_)
      · refine xv_al0 fL_isAdvert_470 ?_
        refine xv_k fL_isAdvert_471 ?_
        refine xv_il11 fL_isAdvert_472 ?_
        refine xv_k fL_isAdvert_474 ?_
        refine xv_k fL_isAdvert_475 ?_
        refine xv_k fL_isAdvert_476 ?_
        refine xv_k fL_isAdvert_477 ?_
        refine xv_callS7R (w_takeOff_ok n c c J (I' := I1) (by rw [hI1]; exact p_takeOff_ok n c I J hac (by omega) h6)) fL_isAdvert_478 YL_does VL_does lL_113 rfl (Nat.le_of_ble_eq_true rfl) (by decide) (by decide) (by decide) ?_
        rw [d4, d5, nI_mul, nI_add]
        refine xv_is12 fL_isAdvert_481 ?_
        refine xv_il11 fL_isAdvert_483 ?_
        refine xv_al7 fL_isAdvert_485 ?_
        refine xv_k fL_isAdvert_487 ?_
        refine xv_ialdN fL_isAdvert_488 (sx_69 _ _) (⟨by omega, by decide⟩) ?_
        rw [k69]
        refine xv_ic_eq fL_isAdvert_489 (fun h_489 => ?_) (fun h_489 => ?_)
        · exact absurd ((nI_eq (by omega) (by omega)).mp h_489) (by omega)
        · refine xv_al3 fL_isAdvert_492 ?_
          refine xv_il11 fL_isAdvert_493 ?_
          refine xv_ialdN fL_isAdvert_495 (sx_62 _ _) (⟨by omega, by decide⟩) ?_
          rw [k62]
          refine xv_if_ge fL_isAdvert_496 (fun h_496 => ?_) (fun h_496 => ?_)
          · refine xv_al3 fL_isAdvert_528 ?_
            refine xv_il11 fL_isAdvert_529 ?_
            refine xv_ialdN fL_isAdvert_531 (sx_62 _ _) (⟨by omega, by decide⟩) ?_
            rw [k62]
            refine xv_is13 fL_isAdvert_532 ?_
            refine xv_al3 fL_isAdvert_534 ?_
            refine xv_il11 fL_isAdvert_535 ?_
            refine xv_k fL_isAdvert_537 ?_
            refine xv_iastN fL_isAdvert_538 (sx_62 _ _) (⟨by omega, by decide⟩) ?_
            refine xv_il10 fL_isAdvert_539 ?_
            refine xv_k fL_isAdvert_541 ?_
            refine xv_irem fL_isAdvert_542 (by decide) ?_
            refine xv_eqi (y := nI z) (by rw [nI_rem h2 (by decide), ez]) ?_
            refine xv_is14 fL_isAdvert_543 ?_
            refine xv_k fL_isAdvert_545 ?_
            refine xv_is15 fL_isAdvert_546 ?_
            refine xv_k fL_isAdvert_548 ?_
            refine xv_is16 fL_isAdvert_549 ?_
            refine l_many n c J (z := z) (by omega) kF ((xv_u_ne _ _ _ (by decide)).trans k69) hn9 (fun l17 => ?_) c.1 0 0 _ (by omega) rfl
            refine xv_il12 fL_isAdvert_610 ?_
            refine xv_il13 fL_isAdvert_612 ?_
            refine xv_ic_ne fL_isAdvert_614 (fun h_614 => ?_) (fun h_614 => ?_)
            · exact absurd rfl h_614
            · refine xv_al0 fL_isAdvert_617 ?_
              refine xv_k fL_isAdvert_618 ?_
              refine xv_il14 fL_isAdvert_620 ?_
              refine xv_k fL_isAdvert_622 ?_
              refine xv_k fL_isAdvert_623 ?_
              refine xv_k fL_isAdvert_624 ?_
              refine xv_k fL_isAdvert_625 ?_
              refine xv_callS7R (w_advertsIn_ok n c c J (p_advertsIn_ok n c _ J hz hM.1.2.2.2.2.2.1.1 hn9)) fL_isAdvert_626 YL_does VL_does lL_113 rfl (Nat.le_of_ble_eq_true rfl) (by decide) (by decide) (by decide) ?_
              refine xv_il14 fL_isAdvert_629 ?_
              refine xv_k fL_isAdvert_631 ?_
              refine xv_ic_ne fL_isAdvert_632 (fun h_632 => ?_) (fun h_632 => ?_)
              · refine xv_il15 fL_isAdvert_641 ?_
                refine xv_ic_ne fL_isAdvert_643 (fun h_643 => ?_) (fun h_643 => ?_)
                · exact absurd rfl h_643
                · refine xv_k fL_isAdvert_646 ?_
                  refine xv_goto fL_isAdvert_647 ?_
                  exact xv_iret fL_isAdvert_651 rfl rfl ⟨rfl, c, rfl, rfl, rfl, hM⟩
              · exact absurd ((nI_eq (by omega) (by omega)).mp h_632) (by omega)
          · exact absurd (nI_pos' (by omega)) h_496
      · exact absurd h_384 (by decide)
    · exact absurd h_252 (by decide)
  · exact absurd h_2 (by decide)
theorem a_pl_a (n : Nat) (c : Nat × Nat) (I : xv_I) (J : xv_J) {one two : Nat} (h1 : one < 2 ^ 31) (h2 : two < 2 ^ 31) (hn : n < 1000) (hI : Inv c I) {a : Nat} (ea : one % (c.1 + 1) = a) (hac : a = c.1) : xv_Met mL_isAdvert 11 64 512 (sx n c) I (rx c) J [.ref 0, .ref 60, .ref 61, .ref 62, .ref 65, .ref 66, .ref 67, .ref 69, .int (nI 2), .int (nI one), .int (nI two)] (qI n J) := by
  have hn9 := hI.ad.2.2.1
  have hn8 := hI.st.2.2.1
  have e690 := hI.ad.2.1
  have ha : a < c.1 + 1 := by rw [← ea]; exact Nat.mod_lt _ (by omega)
  refine xv_Met.of (by decide +kernel) (Nat.le_of_ble_eq_true rfl) (List.forall_mem_cons.mpr ⟨rfl, List.forall_mem_cons.mpr ⟨rfl, List.forall_mem_cons.mpr ⟨rfl, List.forall_mem_cons.mpr ⟨rfl, List.forall_mem_cons.mpr ⟨rfl, List.forall_mem_cons.mpr ⟨rfl, List.forall_mem_cons.mpr ⟨rfl, List.forall_mem_cons.mpr ⟨rfl, List.forall_mem_cons.mpr ⟨rfl, List.forall_mem_cons.mpr ⟨rfl, List.forall_mem_cons.mpr ⟨rfl, fun _ h => nomatch h⟩⟩⟩⟩⟩⟩⟩⟩⟩⟩⟩) ?_
  show xv_W mL_isAdvert 11 64 512 _ 64 512 (sx n c) I (rx c) J 0 [some (.ref 0), some (.ref 60), some (.ref 61), some (.ref 62), some (.ref 65), some (.ref 66), some (.ref 67), some (.ref 69), some (.int (nI 2)), some (.int (nI one)), some (.int (nI two)), none, none, none, none, none, none, none] []
  refine xv_il8 fL_isAdvert_0 ?_
  refine xv_if_ne fL_isAdvert_2 (fun h_2 => ?_) (fun h_2 => ?_)
  · refine xv_il8 fL_isAdvert_249 ?_
    refine xv_k fL_isAdvert_251 ?_
    refine xv_ic_ne fL_isAdvert_252 (fun h_252 => ?_) (fun h_252 => ?_)
    · refine xv_il9 fL_isAdvert_370 ?_
      refine xv_al7 fL_isAdvert_372 ?_
      refine xv_k fL_isAdvert_374 ?_
      refine xv_ialdN fL_isAdvert_375 (sx_69 _ _) (⟨by omega, by decide⟩) ?_
      rw [e690]
      refine xv_k fL_isAdvert_376 ?_
      refine xv_iadd fL_isAdvert_377 ?_
      refine xv_eqi (y := nI (c.1 + 1)) (nI_add _ _) ?_
      refine xv_irem fL_isAdvert_378 (nI_ne0 (by omega) (by omega)) ?_
      refine xv_eqi (y := nI a) (by rw [nI_rem h1 (by omega), ea]) ?_
      refine xv_is11 fL_isAdvert_379 ?_
      refine xv_il8 fL_isAdvert_381 ?_
      refine xv_k fL_isAdvert_383 ?_
      refine xv_ic_ne fL_isAdvert_384 (fun h_384 => ?_) (fun h_384 => ?_)
      · exact absurd h_384 (by decide)
      · refine xv_il11 fL_isAdvert_387 ?_
        refine xv_al7 fL_isAdvert_389 ?_
        refine xv_k fL_isAdvert_391 ?_
        refine xv_ialdN fL_isAdvert_392 (sx_69 _ _) (⟨by omega, by decide⟩) ?_
        rw [e690]
        refine xv_ic_ne fL_isAdvert_393 (fun h_393 => ?_) (fun h_393 => ?_)
        · exact absurd ((nI_eq (by omega) (by omega)).mpr (by omega)) h_393
        · refine xv_k fL_isAdvert_396 ?_
          refine xv_goto fL_isAdvert_399 ?_
          refine xv_is12 fL_isAdvert_431 ?_
          refine xv_al0 fL_isAdvert_433 ?_
          refine xv_k fL_isAdvert_434 ?_
          refine xv_il11 fL_isAdvert_435 ?_
          refine xv_k fL_isAdvert_437 ?_
          refine xv_k fL_isAdvert_438 ?_
          refine xv_k fL_isAdvert_439 ?_
          refine xv_k fL_isAdvert_440 ?_
          refine xv_callS7R (w_place_I n c c J (p_place_a n c I J (x := nI a) (fun k z hk => by have := (nI_eq (by omega) (by omega)).mp z; omega))) fL_isAdvert_441 YL_does VL_does lL_113 rfl (Nat.le_of_ble_eq_true rfl) (by decide) (by decide) (by decide) ?_
          refine xv_is13 fL_isAdvert_444 ?_
          refine xv_il12 fL_isAdvert_446 ?_
          refine xv_if_lt fL_isAdvert_448 (fun h_448 => ?_) (fun h_448 => ?_)
          · refine xv_il13 fL_isAdvert_457 ?_
            refine xv_il12 fL_isAdvert_459 ?_
            refine xv_ic_ne fL_isAdvert_461 (fun h_461 => ?_) (fun h_461 => ?_)
            · exact absurd rfl h_461
            · refine xv_k fL_isAdvert_464 ?_
              refine xv_goto fL_isAdvert_465 ?_
              exact xv_iret fL_isAdvert_469 rfl rfl ⟨rfl, c, rfl, rfl, rfl, hI⟩
          · exact absurd (by decide) h_448
    · exact absurd h_252 (by decide)
  · exact absurd h_2 (by decide)
theorem a_pl_b (n : Nat) (c : Nat × Nat) (I : xv_I) (J : xv_J) {one two : Nat} (h1 : one < 2 ^ 31) (h2 : two < 2 ^ 31) (hn : n < 1000) (hI : Inv c I) {a : Nat} (ea : one % (c.1 + 1) = a) (hac : a < c.1) (h6 : ¬ I (100 + a) 6 = -1) : xv_Met mL_isAdvert 11 64 512 (sx n c) I (rx c) J [.ref 0, .ref 60, .ref 61, .ref 62, .ref 65, .ref 66, .ref 67, .ref 69, .int (nI 2), .int (nI one), .int (nI two)] (qI n J) := by
  have hn9 := hI.ad.2.2.1
  have hn8 := hI.st.2.2.1
  have e690 := hI.ad.2.1
  have ha : a < c.1 + 1 := by rw [← ea]; exact Nat.mod_lt _ (by omega)
  obtain ⟨ct, w, h9, col, sec, zo, a1, a2, a3, a4, a5, a6, a7, a8, a9, b1, b2, b3, b4, b5⟩ := hI.ad.2.2.2 a hac
  obtain ⟨p, f, d1, d2, d3, d4, d5, d6, d7⟩ := b5.resolve_left (fun q => h6 q.1)
  refine xv_Met.of (by decide +kernel) (Nat.le_of_ble_eq_true rfl) (List.forall_mem_cons.mpr ⟨rfl, List.forall_mem_cons.mpr ⟨rfl, List.forall_mem_cons.mpr ⟨rfl, List.forall_mem_cons.mpr ⟨rfl, List.forall_mem_cons.mpr ⟨rfl, List.forall_mem_cons.mpr ⟨rfl, List.forall_mem_cons.mpr ⟨rfl, List.forall_mem_cons.mpr ⟨rfl, List.forall_mem_cons.mpr ⟨rfl, List.forall_mem_cons.mpr ⟨rfl, List.forall_mem_cons.mpr ⟨rfl, fun _ h => nomatch h⟩⟩⟩⟩⟩⟩⟩⟩⟩⟩⟩) ?_
  show xv_W mL_isAdvert 11 64 512 _ 64 512 (sx n c) I (rx c) J 0 [some (.ref 0), some (.ref 60), some (.ref 61), some (.ref 62), some (.ref 65), some (.ref 66), some (.ref 67), some (.ref 69), some (.int (nI 2)), some (.int (nI one)), some (.int (nI two)), none, none, none, none, none, none, none] []
  refine xv_il8 fL_isAdvert_0 ?_
  refine xv_if_ne fL_isAdvert_2 (fun h_2 => ?_) (fun h_2 => ?_)
  · refine xv_il8 fL_isAdvert_249 ?_
    refine xv_k fL_isAdvert_251 ?_
    refine xv_ic_ne fL_isAdvert_252 (fun h_252 => ?_) (fun h_252 => ?_)
    · refine xv_il9 fL_isAdvert_370 ?_
      refine xv_al7 fL_isAdvert_372 ?_
      refine xv_k fL_isAdvert_374 ?_
      refine xv_ialdN fL_isAdvert_375 (sx_69 _ _) (⟨by omega, by decide⟩) ?_
      rw [e690]
      refine xv_k fL_isAdvert_376 ?_
      refine xv_iadd fL_isAdvert_377 ?_
      refine xv_eqi (y := nI (c.1 + 1)) (nI_add _ _) ?_
      refine xv_irem fL_isAdvert_378 (nI_ne0 (by omega) (by omega)) ?_
      refine xv_eqi (y := nI a) (by rw [nI_rem h1 (by omega), ea]) ?_
      refine xv_is11 fL_isAdvert_379 ?_
      refine xv_il8 fL_isAdvert_381 ?_
      refine xv_k fL_isAdvert_383 ?_
      refine xv_ic_ne fL_isAdvert_384 (fun h_384 => ?_) (fun h_384 => ?_)
      · exact absurd h_384 (by decide)
      · refine xv_il11 fL_isAdvert_387 ?_
        refine xv_al7 fL_isAdvert_389 ?_
        refine xv_k fL_isAdvert_391 ?_
        refine xv_ialdN fL_isAdvert_392 (sx_69 _ _) (⟨by omega, by decide⟩) ?_
        rw [e690]
        refine xv_ic_ne fL_isAdvert_393 (fun h_393 => ?_) (fun h_393 => ?_)
        · refine xv_al3 fL_isAdvert_402 ?_
          refine xv_il11 fL_isAdvert_403 ?_
          refine xv_ialdN fL_isAdvert_405 (sx_62 _ _) (⟨by omega, by decide⟩) ?_
          rw [d6]
          refine xv_if_lt fL_isAdvert_406 (fun h_406 => ?_) (fun h_406 => ?_)
          · exact absurd h_406 (nI_pos (by omega))
          · refine xv_k fL_isAdvert_409 ?_
            refine xv_goto fL_isAdvert_412 ?_
            refine xv_is12 fL_isAdvert_431 ?_
            refine xv_al0 fL_isAdvert_433 ?_
            refine xv_k fL_isAdvert_434 ?_
            refine xv_il11 fL_isAdvert_435 ?_
            refine xv_k fL_isAdvert_437 ?_
            refine xv_k fL_isAdvert_438 ?_
            refine xv_k fL_isAdvert_439 ?_
            refine xv_k fL_isAdvert_440 ?_
            refine xv_callS7R (w_place_S n c c J (p_place_b n c I J hac (by omega) h6)) fL_isAdvert_441 YL_does VL_does lL_113 rfl (Nat.le_of_ble_eq_true rfl) (by decide) (by decide) (by decide) ?_
            refine xv_is13 fL_isAdvert_444 ?_
            refine xv_il12 fL_isAdvert_446 ?_
            refine xv_if_lt fL_isAdvert_448 (fun h_448 => ?_) (fun h_448 => ?_)
            · refine xv_il13 fL_isAdvert_457 ?_
              refine xv_il12 fL_isAdvert_459 ?_
              refine xv_ic_ne fL_isAdvert_461 (fun h_461 => ?_) (fun h_461 => ?_)
              · exact absurd rfl h_461
              · refine xv_k fL_isAdvert_464 ?_
                refine xv_goto fL_isAdvert_465 ?_
                exact xv_iret fL_isAdvert_469 rfl rfl ⟨rfl, c, rfl, rfl, rfl, hI⟩
            · exact absurd (by decide) h_448
        · exact absurd ((nI_eq (by omega) (by omega)).mp h_393) (by omega)
    · exact absurd h_252 (by decide)
  · exact absurd h_2 (by decide)
theorem a_pl_ok (n : Nat) (c : Nat × Nat) (I : xv_I) (J : xv_J) {one two : Nat} (h1 : one < 2 ^ 31) (h2 : two < 2 ^ 31) (hn : n < 1000) (hI : Inv c I) {a : Nat} (ea : one % (c.1 + 1) = a) (hac : a < c.1) (h6 : I (100 + a) 6 = -1) : xv_Met mL_isAdvert 11 64 512 (sx n c) I (rx c) J [.ref 0, .ref 60, .ref 61, .ref 62, .ref 65, .ref 66, .ref 67, .ref 69, .int (nI 2), .int (nI one), .int (nI two)] (qM n J) := by
  have hn9 := hI.ad.2.2.1
  have hn8 := hI.st.2.2.1
  have e690 := hI.ad.2.1
  have ha : a < c.1 + 1 := by rw [← ea]; exact Nat.mod_lt _ (by omega)
  obtain ⟨ct, w, h9, col, sec, zo, a1, a2, a3, a4, a5, a6, a7, a8, a9, b1, b2, b3, b4, b5⟩ := hI.ad.2.2.2 a hac
  obtain ⟨d1, d2, d3⟩ := b5.resolve_right (fun ⟨p, f, _, _, _, q, _⟩ => nI_nm1 (by omega) (q.symm.trans h6))
  obtain ⟨lo, hi, hzo, hhi⟩ : ∃ lo hi, zone (I (100 + a) 5) lo hi ∧ hi < 10 := by
    rcases b3 with ⟨z1, z2⟩ | ⟨z1, z2⟩
    · exact ⟨0, 6, Or.inl ⟨z2, rfl, rfl⟩, by decide⟩
    · exact ⟨7 + (zo - 1), 7 + (zo - 1), Or.inr ⟨zo - 1, by omega, z2, rfl, rfl⟩, by omega⟩
  refine xv_Met.of (by decide +kernel) (Nat.le_of_ble_eq_true rfl) (List.forall_mem_cons.mpr ⟨rfl, List.forall_mem_cons.mpr ⟨rfl, List.forall_mem_cons.mpr ⟨rfl, List.forall_mem_cons.mpr ⟨rfl, List.forall_mem_cons.mpr ⟨rfl, List.forall_mem_cons.mpr ⟨rfl, List.forall_mem_cons.mpr ⟨rfl, List.forall_mem_cons.mpr ⟨rfl, List.forall_mem_cons.mpr ⟨rfl, List.forall_mem_cons.mpr ⟨rfl, List.forall_mem_cons.mpr ⟨rfl, fun _ h => nomatch h⟩⟩⟩⟩⟩⟩⟩⟩⟩⟩⟩) ?_
  show xv_W mL_isAdvert 11 64 512 _ 64 512 (sx n c) I (rx c) J 0 [some (.ref 0), some (.ref 60), some (.ref 61), some (.ref 62), some (.ref 65), some (.ref 66), some (.ref 67), some (.ref 69), some (.int (nI 2)), some (.int (nI one)), some (.int (nI two)), none, none, none, none, none, none, none] []
  refine xv_il8 fL_isAdvert_0 ?_
  refine xv_if_ne fL_isAdvert_2 (fun h_2 => ?_) (fun h_2 => ?_)
  · refine xv_il8 fL_isAdvert_249 ?_
    refine xv_k fL_isAdvert_251 ?_
    refine xv_ic_ne fL_isAdvert_252 (fun h_252 => ?_) (fun h_252 => ?_)
    · refine xv_il9 fL_isAdvert_370 ?_
      refine xv_al7 fL_isAdvert_372 ?_
      refine xv_k fL_isAdvert_374 ?_
      refine xv_ialdN fL_isAdvert_375 (sx_69 _ _) (⟨by omega, by decide⟩) ?_
      rw [e690]
      refine xv_k fL_isAdvert_376 ?_
      refine xv_iadd fL_isAdvert_377 ?_
      refine xv_eqi (y := nI (c.1 + 1)) (nI_add _ _) ?_
      refine xv_irem fL_isAdvert_378 (nI_ne0 (by omega) (by omega)) ?_
      refine xv_eqi (y := nI a) (by rw [nI_rem h1 (by omega), ea]) ?_
      refine xv_is11 fL_isAdvert_379 ?_
      refine xv_il8 fL_isAdvert_381 ?_
      refine xv_k fL_isAdvert_383 ?_
      refine xv_ic_ne fL_isAdvert_384 (fun h_384 => ?_) (fun h_384 => ?_)
      · exact absurd h_384 (by decide)
      · refine xv_il11 fL_isAdvert_387 ?_
        refine xv_al7 fL_isAdvert_389 ?_
        refine xv_k fL_isAdvert_391 ?_
        refine xv_ialdN fL_isAdvert_392 (sx_69 _ _) (⟨by omega, by decide⟩) ?_
        rw [e690]
        refine xv_ic_ne fL_isAdvert_393 (fun h_393 => ?_) (fun h_393 => ?_)
        · refine xv_al3 fL_isAdvert_402 ?_
          refine xv_il11 fL_isAdvert_403 ?_
          refine xv_ialdN fL_isAdvert_405 (sx_62 _ _) (⟨by omega, by decide⟩) ?_
          rw [d2]
          refine xv_if_lt fL_isAdvert_406 (fun h_406 => ?_) (fun h_406 => ?_)
          · refine xv_al1 fL_isAdvert_415 ?_
            refine xv_al2 fL_isAdvert_416 ?_
            refine xv_al3 fL_isAdvert_417 ?_
            refine xv_al4 fL_isAdvert_418 ?_
            refine xv_al5 fL_isAdvert_420 ?_
            refine xv_al6 fL_isAdvert_422 ?_
            refine xv_al7 fL_isAdvert_424 ?_
            refine xv_il11 fL_isAdvert_426 ?_
            refine xv_callS8G (c_placeFor n c I J hac a1 a2 a3 a4 a5 a6 a7 b1 b2 b3 b4 hzo hI.ad hI.dist hI.page hI.2.1) fL_isAdvert_428 YL_placeFor VL_placeFor lL_122 rfl (Nat.le_of_ble_eq_true rfl) (by decide) (by decide) (by decide) ?_ ?_
            · intro r s i rf j h _
              obtain ⟨⟨v, hv, hr⟩, x1, x2, x3, x4⟩ := h
              cases hr
              rw [x1, x2, x3, x4]
              refine xv_is12 fL_isAdvert_431 ?_
              refine xv_al0 fL_isAdvert_433 ?_
              refine xv_k fL_isAdvert_434 ?_
              refine xv_il11 fL_isAdvert_435 ?_
              refine xv_k fL_isAdvert_437 ?_
              refine xv_k fL_isAdvert_438 ?_
              refine xv_k fL_isAdvert_439 ?_
              refine xv_k fL_isAdvert_440 ?_
              refine xv_callS7G (w_place_g n c c J (I' := I) (Q9 := xQplace n c I J a ct w h9 lo hi) (p_place_ok n c I J hac (by omega) a7 a1 hI.ad.1 hn9 a8 a9 a2 a3 hzo d1) (fun r s i rf j h => by
                obtain ⟨_, _, _, ⟨ho, _⟩ | ⟨_, _, _, _, _, _, ho, _⟩⟩ := h
                · cases ho; exact ⟨_, rfl⟩
                · cases ho; exact ⟨_, rfl⟩) (fun E s i rf j h => by
                obtain ⟨_, _, _, ⟨ho, _⟩ | ⟨_, _, _, _, _, _, ho, _⟩⟩ := h
                · cases ho
                · cases ho)) fL_isAdvert_441 YL_does VL_does lL_113 rfl (Nat.le_of_ble_eq_true rfl) (by decide) (by decide) (by decide) ?_ ?_
              · intro r s i rf j h _
                obtain ⟨x1, x2, x3, h⟩ := h
                rcases h with ⟨ho, x4, hno⟩ | ⟨p, f, hp1, hp2, hs, hmin, ho, x4⟩
                · cases ho
                  rw [x1, x2, x3, x4]
                  rcases hv with ⟨rfl, _⟩ | ⟨p', f', g1, g2, g3, g4, rfl⟩
                  · refine xv_is13 fL_isAdvert_444 ?_
                    refine xv_il12 fL_isAdvert_446 ?_
                    refine xv_if_lt fL_isAdvert_448 (fun h_448 => ?_) (fun h_448 => ?_)
                    · refine xv_il13 fL_isAdvert_457 ?_
                      refine xv_il12 fL_isAdvert_459 ?_
                      refine xv_ic_ne fL_isAdvert_461 (fun h_461 => ?_) (fun h_461 => ?_)
                      · exact absurd rfl h_461
                      · refine xv_k fL_isAdvert_464 ?_
                        refine xv_goto fL_isAdvert_465 ?_
                        exact xv_iret fL_isAdvert_469 rfl rfl ⟨rfl, c, rfl, rfl, rfl, hI.mid⟩
                    · exact absurd (by decide) h_448
                  · exact absurd g3 (hno p' g1 g2 f')
                · cases ho
                  rw [x1, x2, x3, x4]
                  rcases hv with ⟨rfl, hno⟩ | ⟨p', f', g1, g2, g3, g4, rfl⟩
                  · exact absurd hs (hno p hp1 hp2 f)
                  · obtain rfl : p = p' := by
                      rcases Nat.lt_trichotomy p p' with q | q | q
                      · exact absurd hs (g4 p hp1 q f)
                      · exact q
                      · exact absurd g3 (hmin p' g1 q f')
                    obtain rfl : f = f' := by
                      rcases Nat.lt_trichotomy f f' with q | q | q
                      · exact absurd hs.2.2.1 (g3.2.2.2 f q)
                      · exact q
                      · exact absurd g3.2.2.1 (hs.2.2.2 f' q)
                    refine xv_is13 fL_isAdvert_444 ?_
                    refine xv_il12 fL_isAdvert_446 ?_
                    refine xv_if_lt fL_isAdvert_448 (fun h_448 => ?_) (fun h_448 => ?_)
                    · exact absurd h_448 (nI_pos (by have := (show p < 10 by omega); have := hs.2.1; omega))
                    · refine xv_al3 fL_isAdvert_451 ?_
                      refine xv_il11 fL_isAdvert_452 ?_
                      refine xv_il12 fL_isAdvert_454 ?_
                      refine xv_iastN fL_isAdvert_456 (sx_62 _ _) (⟨by omega, by decide⟩) ?_
                      refine xv_il13 fL_isAdvert_457 ?_
                      refine xv_il12 fL_isAdvert_459 ?_
                      refine xv_ic_ne fL_isAdvert_461 (fun h_461 => ?_) (fun h_461 => ?_)
                      · exact absurd rfl h_461
                      · refine xv_k fL_isAdvert_464 ?_
                        refine xv_goto fL_isAdvert_465 ?_
                        exact xv_iret fL_isAdvert_469 rfl rfl ⟨rfl, c, rfl, rfl, rfl, (Mid.place hI hac (by omega) a8 a9 a2 a3 hs.2.2.1 d2)⟩
              · intro E s i rf j h
                obtain ⟨_, _, _, ⟨ho, _⟩ | ⟨_, _, _, _, _, _, ho, _⟩⟩ := h
                · cases ho
                · cases ho
            · intro E s i rf j h
              obtain ⟨⟨v, _, hr⟩, _⟩ := h
              cases hr
          · exact absurd (by decide) h_406
        · exact absurd ((nI_eq (by omega) (by omega)).mp h_393) (by omega)
    · exact absurd h_252 (by decide)
  · exact absurd h_2 (by decide)
theorem c_isAdvert (n : Nat) (c : Nat × Nat) (I : xv_I) (J : xv_J) {what : Nat} {one two : Nat} (h1 : one < 2 ^ 31) (h2 : two < 2 ^ 31) (hn : n < 1000) (hI : Inv c I) (hw : what < 4) : xv_Met mL_isAdvert 11 64 512 (sx n c) I (rx c) J [.ref 0, .ref 60, .ref 61, .ref 62, .ref 65, .ref 66, .ref 67, .ref 69, .int (nI what), .int (nI one), .int (nI two)] (qM n J) := by
  rcases (by omega : what = 0 ∨ what = 1 ∨ what = 2 ∨ what = 3) with rfl | rfl | rfl | rfl
  · refine xv_Met.imp ?_ (fun _ _ _ _ _ h => qI.m h)
    by_cases h4 : one % 5 < 4
    · by_cases h20 : c.1 = 20
      · exact a_adv_f n c I J h1 h2 hn hI rfl rfl rfl h4 h20
      · exact a_adv_ok n c I J h1 h2 hn hI rfl rfl rfl h4 (by have := hI.ad.2.2.1; omega)
    · exact a_adv_a n c I J h1 h2 hn hI rfl rfl rfl (by omega)
  · refine xv_Met.imp ?_ (fun _ _ _ _ _ h => qI.m h)
    by_cases h4 : one % 5 < 4
    · by_cases h10 : two % 11 < 10
      · exact a_dist_ok n c I J h1 h2 hn hI rfl rfl h4 h10
      · exact a_dist_b n c I J h1 h2 hn hI rfl rfl h4 (by omega)
    · exact a_dist_a n c I J h1 h2 hn hI rfl rfl (by omega)
  · have ha : one % (c.1 + 1) < c.1 + 1 := Nat.mod_lt _ (by omega)
    by_cases hac : one % (c.1 + 1) = c.1
    · exact xv_Met.imp (a_pl_a n c I J h1 h2 hn hI rfl hac) (fun _ _ _ _ _ h => qI.m h)
    · by_cases h6 : I (100 + one % (c.1 + 1)) 6 = -1
      · exact a_pl_ok n c I J h1 h2 hn hI rfl (by omega) h6
      · exact xv_Met.imp (a_pl_b n c I J h1 h2 hn hI rfl (by omega) h6) (fun _ _ _ _ _ h => qI.m h)
  · have ha : one % (c.1 + 1) < c.1 + 1 := Nat.mod_lt _ (by omega)
    by_cases hac : one % (c.1 + 1) = c.1
    · exact xv_Met.imp (a_off_a n c I J h1 h2 hn hI rfl hac) (fun _ _ _ _ _ h => qI.m h)
    · by_cases h6 : I (100 + one % (c.1 + 1)) 6 = -1
      · refine xv_Met.imp (a_off_b n c I J h1 h2 hn hI rfl (by omega) h6 ?_) (fun _ _ _ _ _ h => qI.m h)
        obtain ⟨ct, w, h9, col, sec, zo, a1, a2, a3, a4, a5, a6, a7, a8, a9, b1, b2, b3, b4, b5⟩ := hI.ad.2.2.2 (one % (c.1 + 1)) (by omega)
        exact (b5.resolve_right (fun ⟨p, f, _, _, _, q, _⟩ => nI_nm1 (by omega) (q.symm.trans h6))).2.1
      · by_cases hz : two % 4 < 3
        · exact a_off_z n c I J h1 h2 hn hI rfl rfl hz (by omega) h6
        · exact a_off_3 n c I J h1 h2 hn hI rfl rfl (by omega) (by omega) h6
