theorem l_lsum (n : Nat) (c : Nat × Nat) (I : xv_I) (J : xv_J) {MC MS : Nat} {Q : xv_Q} (hI : Inv c I) {p kc ks : Nat} (hp : p < 10) {l12 l13 l14 l15 l16 l18 l19 : Option Value} (kk : ∀ s l21, s < 5000 → (s = 0 ↔ ∀ j, j < 12 → I (3 + p) j = 0) → xv_W mL_law 12 MC MS Q kc ks (sx n c) I (rx c) J 292 (some (.ref 99) :: some (.ref 0) :: some (.ref 60) :: some (.ref 61) :: some (.ref 62) :: some (.ref 63) :: some (.ref 64) :: some (.ref 65) :: some (.ref 66) :: some (.ref 67) :: some (.ref 68) :: some (.ref 69) :: l12 :: l13 :: l14 :: l15 :: l16 :: some (.int (nI p)) :: l18 :: l19 :: some (.int (nI s)) :: l21 :: []) []) : ∀ (u k s : Nat), k + u = 12 → s ≤ 320 * k → (s = 0 ↔ ∀ j, j < k → I (3 + p) j = 0) → xv_W mL_law 12 MC MS Q kc ks (sx n c) I (rx c) J 263 (some (.ref 99) :: some (.ref 0) :: some (.ref 60) :: some (.ref 61) :: some (.ref 62) :: some (.ref 63) :: some (.ref 64) :: some (.ref 65) :: some (.ref 66) :: some (.ref 67) :: some (.ref 68) :: some (.ref 69) :: l12 :: l13 :: l14 :: l15 :: l16 :: some (.int (nI p)) :: l18 :: l19 :: some (.int (nI s)) :: some (.int (nI k)) :: []) [] := by
  intro u
  induction u with
  | zero =>
    intro k s hu hs hz
    obtain rfl : k = 12 := by omega
    show xv_W mL_law 12 MC MS _ kc ks (sx n c) I (rx c) J 263 (some (.ref 99) :: some (.ref 0) :: some (.ref 60) :: some (.ref 61) :: some (.ref 62) :: some (.ref 63) :: some (.ref 64) :: some (.ref 65) :: some (.ref 66) :: some (.ref 67) :: some (.ref 68) :: some (.ref 69) :: l12 :: l13 :: l14 :: l15 :: l16 :: some (.int (nI p)) :: l18 :: l19 :: some (.int (nI s)) :: some (.int (nI 12)) :: []) []
    refine xv_il21 fL_law_263 ?_
    refine xv_k fL_law_265 ?_
    refine xv_ic_ge fL_law_267 (fun h_267 => ?_) (fun h_267 => ?_)
    · exact kk s _ (by omega) hz
    · exact absurd (by decide) h_267
  | succ u ih =>
    intro k s hu hs hz
    have hk : k < 12 := by omega
    obtain ⟨v, v1, v2, v3⟩ := hI.ok p hp k hk
    have hv := gOk.lt v1 hI.ad.2.2.1 hI.st.2.2.1
    have e := (hI.2.1 p hp k hk).symm.trans v3
    show xv_W mL_law 12 MC MS _ kc ks (sx n c) I (rx c) J 263 (some (.ref 99) :: some (.ref 0) :: some (.ref 60) :: some (.ref 61) :: some (.ref 62) :: some (.ref 63) :: some (.ref 64) :: some (.ref 65) :: some (.ref 66) :: some (.ref 67) :: some (.ref 68) :: some (.ref 69) :: l12 :: l13 :: l14 :: l15 :: l16 :: some (.int (nI p)) :: l18 :: l19 :: some (.int (nI s)) :: some (.int (nI k)) :: []) []
    refine xv_il21 fL_law_263 ?_
    refine xv_k fL_law_265 ?_
    refine xv_ic_ge fL_law_267 (fun h_267 => ?_) (fun h_267 => ?_)
    · exact absurd h_267 (nI_ge hk (by decide))
    · refine xv_il20 fL_law_270 ?_
      refine xv_al8 fL_law_272 ?_
      refine xv_al9 fL_law_274 ?_
      refine xv_il17 fL_law_276 ?_
      refine xv_il21 fL_law_278 ?_
      refine xv_callS4R (c_cell n c I J hp hk) fL_law_280 YL_cell VL_cell lL_96 rfl (Nat.le_of_ble_eq_true rfl) (by decide) (by omega) (by omega) ?_
      rw [e]
      refine xv_iadd fL_law_283 ?_
      refine xv_eqi (y := nI (s + v)) (nI_add _ _) ?_
      refine xv_is20 fL_law_284 ?_
      refine xv_iincN21 (a := 1) fL_law_286 (by decide) ?_
      refine xv_goto fL_law_289 ?_
      exact ih (k + 1) (s + v) (by omega) (by omega) ⟨fun q => lt_or (hz.mp (by omega)) (by rw [v3, show v = 0 by omega]; rfl), fun q => by
        have h0 := hz.mpr (fun j hj => q j (by omega))
        have h9 := q k (Nat.lt_succ_self k)
        rw [v3] at h9
        have : v = 0 := Classical.byContradiction fun z => nI_ne0 (Nat.pos_of_ne_zero z) (by omega) h9
        omega⟩

theorem l_ltail (n : Nat) (c : Nat × Nat) (I : xv_I) (J : xv_J) {MC MS : Nat} {Q : xv_Q} (hn : n < 1000) (hM : Mid c I) {kc ks : Nat} (h1 : 3000 ≤ kc) (h2 : 24000 ≤ ks) {l13 l14 l15 l16 l17 l18 l19 l20 l21 : Option Value} (kk : ∀ I, Inv c I → xv_W mL_law 12 MC MS Q (kc - 3000) (ks - 24000) (sx n c) I (rx c) J 666 (some (.ref 99) :: some (.ref 0) :: some (.ref 60) :: some (.ref 61) :: some (.ref 62) :: some (.ref 63) :: some (.ref 64) :: some (.ref 65) :: some (.ref 66) :: some (.ref 67) :: some (.ref 68) :: some (.ref 69) :: some (.int (nI 1)) :: l13 :: l14 :: l15 :: l16 :: l17 :: l18 :: l19 :: l20 :: l21 :: []) []) : xv_W mL_law 12 MC MS Q kc ks (sx n c) I (rx c) J 633 (some (.ref 99) :: some (.ref 0) :: some (.ref 60) :: some (.ref 61) :: some (.ref 62) :: some (.ref 63) :: some (.ref 64) :: some (.ref 65) :: some (.ref 66) :: some (.ref 67) :: some (.ref 68) :: some (.ref 69) :: some (.int (nI 1)) :: l13 :: l14 :: l15 :: l16 :: l17 :: l18 :: l19 :: l20 :: l21 :: []) [] := by
  refine xv_il12 fL_law_633 ?_
  refine xv_if_eq fL_law_635 (fun h_635 => ?_) (fun h_635 => ?_)
  · exact absurd h_635 (by decide)
  · refine xv_al1 fL_law_638 ?_
    refine xv_al2 fL_law_639 ?_
    refine xv_al3 fL_law_640 ?_
    refine xv_al4 fL_law_641 ?_
    refine xv_al5 fL_law_643 ?_
    refine xv_al6 fL_law_645 ?_
    refine xv_al8 fL_law_647 ?_
    refine xv_al9 fL_law_649 ?_
    refine xv_al11 fL_law_651 ?_
    refine xv_callS9G (c_areCells n c I J hn hM) fL_law_653 YL_areCells VL_areCells lL_157 rfl (Nat.le_of_ble_eq_true rfl) (by decide) (by omega) (by omega) ?_ ?_
    · intro r s i rf j h _
      obtain ⟨x1, x2, x3, x4, x5⟩ := h
      cases x2
      rw [x1, x4, x5]
      refine xv_if_eq fL_law_656 (fun h_656 => ?_) (fun h_656 => ?_)
      · exact absurd h_656 (by decide)
      · refine xv_k fL_law_659 ?_
        refine xv_goto fL_law_660 ?_
        refine xv_is12 fL_law_664 ?_
        exact kk _ x3
    · intro E s i rf j h
      obtain ⟨_, x2, _⟩ := h
      cases x2

theorem law_loop {n MC MS : Nat} (hn : n ≤ 260) (J : xv_J) : ∀ (u k : Nat) (c : Nat × Nat) (I : xv_I) (kc ks : Nat) (l14 l15 l16 l17 l18 l19 l20 l21 : Option Value), k + u = 62 → Inv c I → 5200 * u ≤ kc → 41600 * u ≤ ks → xv_W mL_law 12 MC MS (fun o _ _ _ _ => o = .inl (some (.int (nI 1)))) kc ks (sx n c) I (rx c) J 170 (some (.ref 99) :: some (.ref 0) :: some (.ref 60) :: some (.ref 61) :: some (.ref 62) :: some (.ref 63) :: some (.ref 64) :: some (.ref 65) :: some (.ref 66) :: some (.ref 67) :: some (.ref 68) :: some (.ref 69) :: some (.int (nI 1)) :: some (.int (nI k)) :: l14 :: l15 :: l16 :: l17 :: l18 :: l19 :: l20 :: l21 :: []) [] := by
  intro u
  induction u with
  | zero =>
    intro k c I kc ks l14 l15 l16 l17 l18 l19 l20 l21 hu hI hkc hks
    obtain rfl : k = 62 := by omega
    show xv_W mL_law 12 MC MS _ kc ks (sx n c) I (rx c) J 170 (some (.ref 99) :: some (.ref 0) :: some (.ref 60) :: some (.ref 61) :: some (.ref 62) :: some (.ref 63) :: some (.ref 64) :: some (.ref 65) :: some (.ref 66) :: some (.ref 67) :: some (.ref 68) :: some (.ref 69) :: some (.int (nI 1)) :: some (.int (nI 62)) :: l14 :: l15 :: l16 :: l17 :: l18 :: l19 :: l20 :: l21 :: []) []
    refine xv_il13 fL_law_170 ?_
    refine xv_k fL_law_172 ?_
    refine xv_ic_ge fL_law_174 (fun h_174 => ?_) (fun h_174 => ?_)
    · refine xv_il12 fL_law_672 ?_
      exact xv_iret fL_law_674 rfl (by decide) rfl
    · exact absurd (by decide) h_174
  | succ u ih =>
    intro k c I kc ks l14 l15 l16 l17 l18 l19 l20 l21 hu hI hkc hks
    have hk : k < 62 := by omega
    have hm9 : n % 1000 ≤ 260 := Nat.le_trans (Nat.mod_le _ _) hn
    show xv_W mL_law 12 MC MS _ kc ks (sx n c) I (rx c) J 170 (some (.ref 99) :: some (.ref 0) :: some (.ref 60) :: some (.ref 61) :: some (.ref 62) :: some (.ref 63) :: some (.ref 64) :: some (.ref 65) :: some (.ref 66) :: some (.ref 67) :: some (.ref 68) :: some (.ref 69) :: some (.int (nI 1)) :: some (.int (nI k)) :: l14 :: l15 :: l16 :: l17 :: l18 :: l19 :: l20 :: l21 :: []) []
    refine xv_il13 fL_law_170 ?_
    refine xv_k fL_law_172 ?_
    refine xv_ic_ge fL_law_174 (fun h_174 => ?_) (fun h_174 => ?_)
    · exact absurd h_174 (nI_ge hk (by decide))
    · refine xv_il12 fL_law_177 ?_
      refine xv_if_eq fL_law_179 (fun h_179 => ?_) (fun h_179 => ?_)
      · exact absurd h_179 (by decide)
      · refine xv_al0 fL_law_182 ?_
        refine xv_k fL_law_183 ?_
        refine xv_il13 fL_law_184 ?_
        refine xv_imul fL_law_186 ?_
        refine xv_eqi (y := nI (3 * k)) (nI_mul _ _) ?_
        refine xv_k fL_law_187 ?_
        refine xv_callS3G (c_part n c I J hm9 (by omega) (by decide) (by decide)) fL_law_189 YL_part VL_part lL_138 rfl (Nat.le_of_ble_eq_true rfl) (by decide) (by omega) (by omega) ?_ ?_
        · intro r s i rf j h _
          obtain ⟨⟨wh, hwh, hr⟩, x1, x2, x3, x4⟩ := h
          cases hr
          rw [x1, x2, x3, x4]
          refine xv_is14 fL_law_192 ?_
          refine xv_al0 fL_law_194 ?_
          refine xv_k fL_law_195 ?_
          refine xv_il13 fL_law_196 ?_
          refine xv_imul fL_law_198 ?_
          refine xv_eqi (y := nI (3 * k)) (nI_mul _ _) ?_
          refine xv_k fL_law_199 ?_
          refine xv_iadd fL_law_200 ?_
          refine xv_eqi (y := nI (3 * k + 1)) (nI_add _ _) ?_
          refine xv_k fL_law_201 ?_
          refine xv_callS3G (c_part n c I J hm9 (by omega) (by decide) (by decide)) fL_law_203 YL_part VL_part lL_138 rfl (Nat.le_of_ble_eq_true rfl) (by decide) (by omega) (by omega) ?_ ?_
          · intro r s i rf j h _
            obtain ⟨⟨on, hon, hr⟩, x1, x2, x3, x4⟩ := h
            cases hr
            rw [x1, x2, x3, x4]
            refine xv_is15 fL_law_206 ?_
            refine xv_al0 fL_law_208 ?_
            refine xv_k fL_law_209 ?_
            refine xv_il13 fL_law_210 ?_
            refine xv_imul fL_law_212 ?_
            refine xv_eqi (y := nI (3 * k)) (nI_mul _ _) ?_
            refine xv_k fL_law_213 ?_
            refine xv_iadd fL_law_214 ?_
            refine xv_eqi (y := nI (3 * k + 2)) (nI_add _ _) ?_
            refine xv_k fL_law_215 ?_
            refine xv_callS3G (c_part n c I J hm9 (by omega) (by decide) (by decide)) fL_law_217 YL_part VL_part lL_138 rfl (Nat.le_of_ble_eq_true rfl) (by decide) (by omega) (by omega) ?_ ?_
            · intro r s i rf j h _
              obtain ⟨⟨tw, htw, hr⟩, x1, x2, x3, x4⟩ := h
              cases hr
              rw [x1, x2, x3, x4]
              refine xv_is16 fL_law_220 ?_
              refine xv_il14 fL_law_222 ?_
              refine xv_k fL_law_224 ?_
              refine xv_ic_ge fL_law_225 (fun h_225 => ?_) (fun h_225 => ?_)
              · refine xv_il14 fL_law_368 ?_
                refine xv_k fL_law_370 ?_
                refine xv_ic_ge fL_law_372 (fun h_372 => ?_) (fun h_372 => ?_)
                · refine xv_il14 fL_law_434 ?_
                  refine xv_k fL_law_436 ?_
                  refine xv_ic_ge fL_law_438 (fun h_438 => ?_) (fun h_438 => ?_)
                  · refine xv_il14 fL_law_492 ?_
                    refine xv_k fL_law_494 ?_
                    refine xv_ic_ge fL_law_496 (fun h_496 => ?_) (fun h_496 => ?_)
                    · refine xv_al1 fL_law_576 ?_
                      refine xv_al2 fL_law_577 ?_
                      refine xv_al5 fL_law_578 ?_
                      refine xv_al6 fL_law_580 ?_
                      refine xv_al8 fL_law_582 ?_
                      refine xv_al9 fL_law_584 ?_
                      refine xv_al10 fL_law_586 ?_
                      refine xv_al11 fL_law_588 ?_
                      refine xv_il14 fL_law_590 ?_
                      refine xv_k fL_law_592 ?_
                      refine xv_ic_ge fL_law_594 (fun h_594 => ?_) (fun h_594 => ?_)
                      · refine xv_il14 fL_law_601 ?_
                        refine xv_k fL_law_603 ?_
                        refine xv_ic_ge fL_law_605 (fun h_605 => ?_) (fun h_605 => ?_)
                        · refine xv_il14 fL_law_612 ?_
                          refine xv_k fL_law_614 ?_
                          refine xv_ic_ge fL_law_616 (fun h_616 => ?_) (fun h_616 => ?_)
                          · refine xv_k fL_law_623 ?_
                            refine xv_il15 fL_law_624 ?_
                            refine xv_il16 fL_law_626 ?_
                            refine xv_callS11G (c_isClosed n c I J (what := 3) (by omega) (by omega) (by omega) hI (by decide)) fL_law_628 YL_isClosed VL_isClosed lL_154 rfl (Nat.le_of_ble_eq_true rfl) (by decide) (by omega) (by omega) ?_ ?_
                            · intro r s i rf j h _
                              obtain ⟨hoo, c9, x1, x2, x3, hM⟩ := h
                              cases hoo
                              rw [x1, x2, x3]
                              refine xv_is12 fL_law_631 ?_
                              refine l_ltail n c9 i J (by omega) hM (by omega) (by omega) (fun I9 hI9 => ?_)
                              refine xv_iincN13 (a := 1) fL_law_666 (by decide) ?_
                              refine xv_goto fL_law_669 ?_
                              exact ih (k + 1) _ I9 _ _ _ _ _ _ _ _ _ _ (by omega) hI9 (by omega) (by omega)
                            · intro E s i rf j h
                              obtain ⟨hoo, _⟩ := h
                              cases hoo
                          · refine xv_k fL_law_619 ?_
                            refine xv_goto fL_law_620 ?_
                            refine xv_il15 fL_law_624 ?_
                            refine xv_il16 fL_law_626 ?_
                            refine xv_callS11G (c_isClosed n c I J (what := 2) (by omega) (by omega) (by omega) hI (by decide)) fL_law_628 YL_isClosed VL_isClosed lL_154 rfl (Nat.le_of_ble_eq_true rfl) (by decide) (by omega) (by omega) ?_ ?_
                            · intro r s i rf j h _
                              obtain ⟨hoo, c9, x1, x2, x3, hM⟩ := h
                              cases hoo
                              rw [x1, x2, x3]
                              refine xv_is12 fL_law_631 ?_
                              refine l_ltail n c9 i J (by omega) hM (by omega) (by omega) (fun I9 hI9 => ?_)
                              refine xv_iincN13 (a := 1) fL_law_666 (by decide) ?_
                              refine xv_goto fL_law_669 ?_
                              exact ih (k + 1) _ I9 _ _ _ _ _ _ _ _ _ _ (by omega) hI9 (by omega) (by omega)
                            · intro E s i rf j h
                              obtain ⟨hoo, _⟩ := h
                              cases hoo
                        · refine xv_k fL_law_608 ?_
                          refine xv_goto fL_law_609 ?_
                          refine xv_il15 fL_law_624 ?_
                          refine xv_il16 fL_law_626 ?_
                          refine xv_callS11G (c_isClosed n c I J (what := 1) (by omega) (by omega) (by omega) hI (by decide)) fL_law_628 YL_isClosed VL_isClosed lL_154 rfl (Nat.le_of_ble_eq_true rfl) (by decide) (by omega) (by omega) ?_ ?_
                          · intro r s i rf j h _
                            obtain ⟨hoo, c9, x1, x2, x3, hM⟩ := h
                            cases hoo
                            rw [x1, x2, x3]
                            refine xv_is12 fL_law_631 ?_
                            refine l_ltail n c9 i J (by omega) hM (by omega) (by omega) (fun I9 hI9 => ?_)
                            refine xv_iincN13 (a := 1) fL_law_666 (by decide) ?_
                            refine xv_goto fL_law_669 ?_
                            exact ih (k + 1) _ I9 _ _ _ _ _ _ _ _ _ _ (by omega) hI9 (by omega) (by omega)
                          · intro E s i rf j h
                            obtain ⟨hoo, _⟩ := h
                            cases hoo
                      · refine xv_k fL_law_597 ?_
                        refine xv_goto fL_law_598 ?_
                        refine xv_il15 fL_law_624 ?_
                        refine xv_il16 fL_law_626 ?_
                        refine xv_callS11G (c_isClosed n c I J (what := 0) (by omega) (by omega) (by omega) hI (by decide)) fL_law_628 YL_isClosed VL_isClosed lL_154 rfl (Nat.le_of_ble_eq_true rfl) (by decide) (by omega) (by omega) ?_ ?_
                        · intro r s i rf j h _
                          obtain ⟨hoo, c9, x1, x2, x3, hM⟩ := h
                          cases hoo
                          rw [x1, x2, x3]
                          refine xv_is12 fL_law_631 ?_
                          refine l_ltail n c9 i J (by omega) hM (by omega) (by omega) (fun I9 hI9 => ?_)
                          refine xv_iincN13 (a := 1) fL_law_666 (by decide) ?_
                          refine xv_goto fL_law_669 ?_
                          exact ih (k + 1) _ I9 _ _ _ _ _ _ _ _ _ _ (by omega) hI9 (by omega) (by omega)
                        · intro E s i rf j h
                          obtain ⟨hoo, _⟩ := h
                          cases hoo
                    · refine xv_al1 fL_law_499 ?_
                      refine xv_al6 fL_law_500 ?_
                      refine xv_al11 fL_law_502 ?_
                      refine xv_il14 fL_law_504 ?_
                      refine xv_k fL_law_506 ?_
                      refine xv_ic_ge fL_law_508 (fun h_508 => ?_) (fun h_508 => ?_)
                      · refine xv_il14 fL_law_515 ?_
                        refine xv_k fL_law_517 ?_
                        refine xv_ic_ge fL_law_519 (fun h_519 => ?_) (fun h_519 => ?_)
                        · refine xv_k fL_law_526 ?_
                          refine xv_il15 fL_law_527 ?_
                          refine xv_il16 fL_law_529 ?_
                          refine xv_callS6G (c_isSigned n c I J (what := 2) (by decide) (by omega) (by omega) (by omega) hI) fL_law_531 YL_isSigned VL_isSigned lL_151 rfl (Nat.le_of_ble_eq_true rfl) (by decide) (by omega) (by omega) ?_ ?_
                          · intro r s i rf j h _
                            obtain ⟨hoo, c9, x1, x2, x3, hM⟩ := h
                            cases hoo
                            rw [x1, x2, x3]
                            refine xv_is12 fL_law_534 ?_
                            refine xv_il12 fL_law_536 ?_
                            refine xv_if_eq fL_law_538 (fun h_538 => ?_) (fun h_538 => ?_)
                            · exact absurd h_538 (by decide)
                            · refine xv_il14 fL_law_541 ?_
                              refine xv_k fL_law_543 ?_
                              refine xv_ic_gt fL_law_545 (fun h_545 => ?_) (fun h_545 => ?_)
                              · refine xv_k fL_law_566 ?_
                                refine xv_goto fL_law_567 ?_
                                refine xv_is12 fL_law_571 ?_
                                refine xv_goto fL_law_573 ?_
                                refine l_ltail n c9 i J (by omega) hM.mid (by omega) (by omega) (fun I9 hI9 => ?_)
                                refine xv_iincN13 (a := 1) fL_law_666 (by decide) ?_
                                refine xv_goto fL_law_669 ?_
                                exact ih (k + 1) _ I9 _ _ _ _ _ _ _ _ _ _ (by omega) hI9 (by omega) (by omega)
                              · refine xv_al1 fL_law_548 ?_
                                refine xv_al6 fL_law_549 ?_
                                refine xv_al11 fL_law_551 ?_
                                refine xv_k fL_law_553 ?_
                                refine xv_il15 fL_law_554 ?_
                                refine xv_il16 fL_law_556 ?_
                                refine xv_k fL_law_558 ?_
                                refine xv_iadd fL_law_559 ?_
                                refine xv_eqi (y := nI (tw + 1)) (nI_add _ _) ?_
                                refine xv_callS6G (c_isSigned n c9 i J (what := 0) (by decide) (by omega) (by omega) (by omega) hM) fL_law_560 YL_isSigned VL_isSigned lL_151 rfl (Nat.le_of_ble_eq_true rfl) (by decide) (by omega) (by omega) ?_ ?_
                                · intro r8 s8 i8 rf8 j8 h _
                                  obtain ⟨hoo, c8, y1, y2, y3, hM8⟩ := h
                                  cases hoo
                                  rw [y1, y2, y3]
                                  refine xv_if_eq fL_law_563 (fun h_563 => ?_) (fun h_563 => ?_)
                                  · exact absurd h_563 (by decide)
                                  · refine xv_k fL_law_566 ?_
                                    refine xv_goto fL_law_567 ?_
                                    refine xv_is12 fL_law_571 ?_
                                    refine xv_goto fL_law_573 ?_
                                    refine l_ltail n c8 i8 J (by omega) hM8.mid (by omega) (by omega) (fun I9 hI9 => ?_)
                                    refine xv_iincN13 (a := 1) fL_law_666 (by decide) ?_
                                    refine xv_goto fL_law_669 ?_
                                    exact ih (k + 1) _ I9 _ _ _ _ _ _ _ _ _ _ (by omega) hI9 (by omega) (by omega)
                                · intro E s i rf j h
                                  obtain ⟨hoo, _⟩ := h
                                  cases hoo
                          · intro E s i rf j h
                            obtain ⟨hoo, _⟩ := h
                            cases hoo
                        · refine xv_k fL_law_522 ?_
                          refine xv_goto fL_law_523 ?_
                          refine xv_il15 fL_law_527 ?_
                          refine xv_il16 fL_law_529 ?_
                          refine xv_callS6G (c_isSigned n c I J (what := 1) (by decide) (by omega) (by omega) (by omega) hI) fL_law_531 YL_isSigned VL_isSigned lL_151 rfl (Nat.le_of_ble_eq_true rfl) (by decide) (by omega) (by omega) ?_ ?_
                          · intro r s i rf j h _
                            obtain ⟨hoo, c9, x1, x2, x3, hM⟩ := h
                            cases hoo
                            rw [x1, x2, x3]
                            refine xv_is12 fL_law_534 ?_
                            refine xv_il12 fL_law_536 ?_
                            refine xv_if_eq fL_law_538 (fun h_538 => ?_) (fun h_538 => ?_)
                            · exact absurd h_538 (by decide)
                            · refine xv_il14 fL_law_541 ?_
                              refine xv_k fL_law_543 ?_
                              refine xv_ic_gt fL_law_545 (fun h_545 => ?_) (fun h_545 => ?_)
                              · refine xv_k fL_law_566 ?_
                                refine xv_goto fL_law_567 ?_
                                refine xv_is12 fL_law_571 ?_
                                refine xv_goto fL_law_573 ?_
                                refine l_ltail n c9 i J (by omega) hM.mid (by omega) (by omega) (fun I9 hI9 => ?_)
                                refine xv_iincN13 (a := 1) fL_law_666 (by decide) ?_
                                refine xv_goto fL_law_669 ?_
                                exact ih (k + 1) _ I9 _ _ _ _ _ _ _ _ _ _ (by omega) hI9 (by omega) (by omega)
                              · refine xv_al1 fL_law_548 ?_
                                refine xv_al6 fL_law_549 ?_
                                refine xv_al11 fL_law_551 ?_
                                refine xv_k fL_law_553 ?_
                                refine xv_il15 fL_law_554 ?_
                                refine xv_il16 fL_law_556 ?_
                                refine xv_k fL_law_558 ?_
                                refine xv_iadd fL_law_559 ?_
                                refine xv_eqi (y := nI (tw + 1)) (nI_add _ _) ?_
                                refine xv_callS6G (c_isSigned n c9 i J (what := 0) (by decide) (by omega) (by omega) (by omega) hM) fL_law_560 YL_isSigned VL_isSigned lL_151 rfl (Nat.le_of_ble_eq_true rfl) (by decide) (by omega) (by omega) ?_ ?_
                                · intro r8 s8 i8 rf8 j8 h _
                                  obtain ⟨hoo, c8, y1, y2, y3, hM8⟩ := h
                                  cases hoo
                                  rw [y1, y2, y3]
                                  refine xv_if_eq fL_law_563 (fun h_563 => ?_) (fun h_563 => ?_)
                                  · exact absurd h_563 (by decide)
                                  · refine xv_k fL_law_566 ?_
                                    refine xv_goto fL_law_567 ?_
                                    refine xv_is12 fL_law_571 ?_
                                    refine xv_goto fL_law_573 ?_
                                    refine l_ltail n c8 i8 J (by omega) hM8.mid (by omega) (by omega) (fun I9 hI9 => ?_)
                                    refine xv_iincN13 (a := 1) fL_law_666 (by decide) ?_
                                    refine xv_goto fL_law_669 ?_
                                    exact ih (k + 1) _ I9 _ _ _ _ _ _ _ _ _ _ (by omega) hI9 (by omega) (by omega)
                                · intro E s i rf j h
                                  obtain ⟨hoo, _⟩ := h
                                  cases hoo
                          · intro E s i rf j h
                            obtain ⟨hoo, _⟩ := h
                            cases hoo
                      · refine xv_k fL_law_511 ?_
                        refine xv_goto fL_law_512 ?_
                        refine xv_il15 fL_law_527 ?_
                        refine xv_il16 fL_law_529 ?_
                        refine xv_callS6G (c_isSigned n c I J (what := 0) (by decide) (by omega) (by omega) (by omega) hI) fL_law_531 YL_isSigned VL_isSigned lL_151 rfl (Nat.le_of_ble_eq_true rfl) (by decide) (by omega) (by omega) ?_ ?_
                        · intro r s i rf j h _
                          obtain ⟨hoo, c9, x1, x2, x3, hM⟩ := h
                          cases hoo
                          rw [x1, x2, x3]
                          refine xv_is12 fL_law_534 ?_
                          refine xv_il12 fL_law_536 ?_
                          refine xv_if_eq fL_law_538 (fun h_538 => ?_) (fun h_538 => ?_)
                          · exact absurd h_538 (by decide)
                          · refine xv_il14 fL_law_541 ?_
                            refine xv_k fL_law_543 ?_
                            refine xv_ic_gt fL_law_545 (fun h_545 => ?_) (fun h_545 => ?_)
                            · refine xv_k fL_law_566 ?_
                              refine xv_goto fL_law_567 ?_
                              refine xv_is12 fL_law_571 ?_
                              refine xv_goto fL_law_573 ?_
                              refine l_ltail n c9 i J (by omega) hM.mid (by omega) (by omega) (fun I9 hI9 => ?_)
                              refine xv_iincN13 (a := 1) fL_law_666 (by decide) ?_
                              refine xv_goto fL_law_669 ?_
                              exact ih (k + 1) _ I9 _ _ _ _ _ _ _ _ _ _ (by omega) hI9 (by omega) (by omega)
                            · refine xv_al1 fL_law_548 ?_
                              refine xv_al6 fL_law_549 ?_
                              refine xv_al11 fL_law_551 ?_
                              refine xv_k fL_law_553 ?_
                              refine xv_il15 fL_law_554 ?_
                              refine xv_il16 fL_law_556 ?_
                              refine xv_k fL_law_558 ?_
                              refine xv_iadd fL_law_559 ?_
                              refine xv_eqi (y := nI (tw + 1)) (nI_add _ _) ?_
                              refine xv_callS6G (c_isSigned n c9 i J (what := 0) (by decide) (by omega) (by omega) (by omega) hM) fL_law_560 YL_isSigned VL_isSigned lL_151 rfl (Nat.le_of_ble_eq_true rfl) (by decide) (by omega) (by omega) ?_ ?_
                              · intro r8 s8 i8 rf8 j8 h _
                                obtain ⟨hoo, c8, y1, y2, y3, hM8⟩ := h
                                cases hoo
                                rw [y1, y2, y3]
                                refine xv_if_eq fL_law_563 (fun h_563 => ?_) (fun h_563 => ?_)
                                · exact absurd h_563 (by decide)
                                · refine xv_k fL_law_566 ?_
                                  refine xv_goto fL_law_567 ?_
                                  refine xv_is12 fL_law_571 ?_
                                  refine xv_goto fL_law_573 ?_
                                  refine l_ltail n c8 i8 J (by omega) hM8.mid (by omega) (by omega) (fun I9 hI9 => ?_)
                                  refine xv_iincN13 (a := 1) fL_law_666 (by decide) ?_
                                  refine xv_goto fL_law_669 ?_
                                  exact ih (k + 1) _ I9 _ _ _ _ _ _ _ _ _ _ (by omega) hI9 (by omega) (by omega)
                              · intro E s i rf j h
                                obtain ⟨hoo, _⟩ := h
                                cases hoo
                        · intro E s i rf j h
                          obtain ⟨hoo, _⟩ := h
                          cases hoo
                  · refine xv_al1 fL_law_441 ?_
                    refine xv_al5 fL_law_442 ?_
                    refine xv_al11 fL_law_444 ?_
                    refine xv_il14 fL_law_446 ?_
                    refine xv_k fL_law_448 ?_
                    refine xv_ic_ge fL_law_450 (fun h_450 => ?_) (fun h_450 => ?_)
                    · refine xv_il14 fL_law_457 ?_
                      refine xv_k fL_law_459 ?_
                      refine xv_ic_ge fL_law_461 (fun h_461 => ?_) (fun h_461 => ?_)
                      · refine xv_il14 fL_law_468 ?_
                        refine xv_k fL_law_470 ?_
                        refine xv_ic_ge fL_law_472 (fun h_472 => ?_) (fun h_472 => ?_)
                        · refine xv_k fL_law_479 ?_
                          refine xv_il15 fL_law_480 ?_
                          refine xv_il16 fL_law_482 ?_
                          refine xv_callS6G (c_isStory n c I J (what := 3) (by omega) (by omega) (by omega) hI (by decide)) fL_law_484 YL_isStory VL_isStory lL_147 rfl (Nat.le_of_ble_eq_true rfl) (by decide) (by omega) (by omega) ?_ ?_
                          · intro r s i rf j h _
                            obtain ⟨hoo, c9, x1, x2, x3, hM⟩ := h
                            cases hoo
                            rw [x1, x2, x3]
                            refine xv_is12 fL_law_487 ?_
                            refine xv_goto fL_law_489 ?_
                            refine l_ltail n c9 i J (by omega) hM (by omega) (by omega) (fun I9 hI9 => ?_)
                            refine xv_iincN13 (a := 1) fL_law_666 (by decide) ?_
                            refine xv_goto fL_law_669 ?_
                            exact ih (k + 1) _ I9 _ _ _ _ _ _ _ _ _ _ (by omega) hI9 (by omega) (by omega)
                          · intro E s i rf j h
                            obtain ⟨hoo, _⟩ := h
                            cases hoo
                        · refine xv_k fL_law_475 ?_
                          refine xv_goto fL_law_476 ?_
                          refine xv_il15 fL_law_480 ?_
                          refine xv_il16 fL_law_482 ?_
                          refine xv_callS6G (c_isStory n c I J (what := 2) (by omega) (by omega) (by omega) hI (by decide)) fL_law_484 YL_isStory VL_isStory lL_147 rfl (Nat.le_of_ble_eq_true rfl) (by decide) (by omega) (by omega) ?_ ?_
                          · intro r s i rf j h _
                            obtain ⟨hoo, c9, x1, x2, x3, hM⟩ := h
                            cases hoo
                            rw [x1, x2, x3]
                            refine xv_is12 fL_law_487 ?_
                            refine xv_goto fL_law_489 ?_
                            refine l_ltail n c9 i J (by omega) hM (by omega) (by omega) (fun I9 hI9 => ?_)
                            refine xv_iincN13 (a := 1) fL_law_666 (by decide) ?_
                            refine xv_goto fL_law_669 ?_
                            exact ih (k + 1) _ I9 _ _ _ _ _ _ _ _ _ _ (by omega) hI9 (by omega) (by omega)
                          · intro E s i rf j h
                            obtain ⟨hoo, _⟩ := h
                            cases hoo
                      · refine xv_k fL_law_464 ?_
                        refine xv_goto fL_law_465 ?_
                        refine xv_il15 fL_law_480 ?_
                        refine xv_il16 fL_law_482 ?_
                        refine xv_callS6G (c_isStory n c I J (what := 1) (by omega) (by omega) (by omega) hI (by decide)) fL_law_484 YL_isStory VL_isStory lL_147 rfl (Nat.le_of_ble_eq_true rfl) (by decide) (by omega) (by omega) ?_ ?_
                        · intro r s i rf j h _
                          obtain ⟨hoo, c9, x1, x2, x3, hM⟩ := h
                          cases hoo
                          rw [x1, x2, x3]
                          refine xv_is12 fL_law_487 ?_
                          refine xv_goto fL_law_489 ?_
                          refine l_ltail n c9 i J (by omega) hM (by omega) (by omega) (fun I9 hI9 => ?_)
                          refine xv_iincN13 (a := 1) fL_law_666 (by decide) ?_
                          refine xv_goto fL_law_669 ?_
                          exact ih (k + 1) _ I9 _ _ _ _ _ _ _ _ _ _ (by omega) hI9 (by omega) (by omega)
                        · intro E s i rf j h
                          obtain ⟨hoo, _⟩ := h
                          cases hoo
                    · refine xv_k fL_law_453 ?_
                      refine xv_goto fL_law_454 ?_
                      refine xv_il15 fL_law_480 ?_
                      refine xv_il16 fL_law_482 ?_
                      refine xv_callS6G (c_isStory n c I J (what := 0) (by omega) (by omega) (by omega) hI (by decide)) fL_law_484 YL_isStory VL_isStory lL_147 rfl (Nat.le_of_ble_eq_true rfl) (by decide) (by omega) (by omega) ?_ ?_
                      · intro r s i rf j h _
                        obtain ⟨hoo, c9, x1, x2, x3, hM⟩ := h
                        cases hoo
                        rw [x1, x2, x3]
                        refine xv_is12 fL_law_487 ?_
                        refine xv_goto fL_law_489 ?_
                        refine l_ltail n c9 i J (by omega) hM (by omega) (by omega) (fun I9 hI9 => ?_)
                        refine xv_iincN13 (a := 1) fL_law_666 (by decide) ?_
                        refine xv_goto fL_law_669 ?_
                        exact ih (k + 1) _ I9 _ _ _ _ _ _ _ _ _ _ (by omega) hI9 (by omega) (by omega)
                      · intro E s i rf j h
                        obtain ⟨hoo, _⟩ := h
                        cases hoo
                · refine xv_al1 fL_law_375 ?_
                  refine xv_al2 fL_law_376 ?_
                  refine xv_al3 fL_law_377 ?_
                  refine xv_al4 fL_law_378 ?_
                  refine xv_al7 fL_law_380 ?_
                  refine xv_al8 fL_law_382 ?_
                  refine xv_al9 fL_law_384 ?_
                  refine xv_al11 fL_law_386 ?_
                  refine xv_il14 fL_law_388 ?_
                  refine xv_k fL_law_390 ?_
                  refine xv_ic_ge fL_law_392 (fun h_392 => ?_) (fun h_392 => ?_)
                  · refine xv_il14 fL_law_399 ?_
                    refine xv_k fL_law_401 ?_
                    refine xv_ic_ge fL_law_403 (fun h_403 => ?_) (fun h_403 => ?_)
                    · refine xv_il14 fL_law_410 ?_
                      refine xv_k fL_law_412 ?_
                      refine xv_ic_ge fL_law_414 (fun h_414 => ?_) (fun h_414 => ?_)
                      · refine xv_k fL_law_421 ?_
                        refine xv_il15 fL_law_422 ?_
                        refine xv_il16 fL_law_424 ?_
                        refine xv_callS11G (c_isAdvert n c I J (what := 3) (by omega) (by omega) (by omega) hI (by decide)) fL_law_426 YL_isAdvert VL_isAdvert lL_143 rfl (Nat.le_of_ble_eq_true rfl) (by decide) (by omega) (by omega) ?_ ?_
                        · intro r s i rf j h _
                          obtain ⟨hoo, c9, x1, x2, x3, hM⟩ := h
                          cases hoo
                          rw [x1, x2, x3]
                          refine xv_is12 fL_law_429 ?_
                          refine xv_goto fL_law_431 ?_
                          refine l_ltail n c9 i J (by omega) hM (by omega) (by omega) (fun I9 hI9 => ?_)
                          refine xv_iincN13 (a := 1) fL_law_666 (by decide) ?_
                          refine xv_goto fL_law_669 ?_
                          exact ih (k + 1) _ I9 _ _ _ _ _ _ _ _ _ _ (by omega) hI9 (by omega) (by omega)
                        · intro E s i rf j h
                          obtain ⟨hoo, _⟩ := h
                          cases hoo
                      · refine xv_k fL_law_417 ?_
                        refine xv_goto fL_law_418 ?_
                        refine xv_il15 fL_law_422 ?_
                        refine xv_il16 fL_law_424 ?_
                        refine xv_callS11G (c_isAdvert n c I J (what := 2) (by omega) (by omega) (by omega) hI (by decide)) fL_law_426 YL_isAdvert VL_isAdvert lL_143 rfl (Nat.le_of_ble_eq_true rfl) (by decide) (by omega) (by omega) ?_ ?_
                        · intro r s i rf j h _
                          obtain ⟨hoo, c9, x1, x2, x3, hM⟩ := h
                          cases hoo
                          rw [x1, x2, x3]
                          refine xv_is12 fL_law_429 ?_
                          refine xv_goto fL_law_431 ?_
                          refine l_ltail n c9 i J (by omega) hM (by omega) (by omega) (fun I9 hI9 => ?_)
                          refine xv_iincN13 (a := 1) fL_law_666 (by decide) ?_
                          refine xv_goto fL_law_669 ?_
                          exact ih (k + 1) _ I9 _ _ _ _ _ _ _ _ _ _ (by omega) hI9 (by omega) (by omega)
                        · intro E s i rf j h
                          obtain ⟨hoo, _⟩ := h
                          cases hoo
                    · refine xv_k fL_law_406 ?_
                      refine xv_goto fL_law_407 ?_
                      refine xv_il15 fL_law_422 ?_
                      refine xv_il16 fL_law_424 ?_
                      refine xv_callS11G (c_isAdvert n c I J (what := 1) (by omega) (by omega) (by omega) hI (by decide)) fL_law_426 YL_isAdvert VL_isAdvert lL_143 rfl (Nat.le_of_ble_eq_true rfl) (by decide) (by omega) (by omega) ?_ ?_
                      · intro r s i rf j h _
                        obtain ⟨hoo, c9, x1, x2, x3, hM⟩ := h
                        cases hoo
                        rw [x1, x2, x3]
                        refine xv_is12 fL_law_429 ?_
                        refine xv_goto fL_law_431 ?_
                        refine l_ltail n c9 i J (by omega) hM (by omega) (by omega) (fun I9 hI9 => ?_)
                        refine xv_iincN13 (a := 1) fL_law_666 (by decide) ?_
                        refine xv_goto fL_law_669 ?_
                        exact ih (k + 1) _ I9 _ _ _ _ _ _ _ _ _ _ (by omega) hI9 (by omega) (by omega)
                      · intro E s i rf j h
                        obtain ⟨hoo, _⟩ := h
                        cases hoo
                  · refine xv_k fL_law_395 ?_
                    refine xv_goto fL_law_396 ?_
                    refine xv_il15 fL_law_422 ?_
                    refine xv_il16 fL_law_424 ?_
                    refine xv_callS11G (c_isAdvert n c I J (what := 0) (by omega) (by omega) (by omega) hI (by decide)) fL_law_426 YL_isAdvert VL_isAdvert lL_143 rfl (Nat.le_of_ble_eq_true rfl) (by decide) (by omega) (by omega) ?_ ?_
                    · intro r s i rf j h _
                      obtain ⟨hoo, c9, x1, x2, x3, hM⟩ := h
                      cases hoo
                      rw [x1, x2, x3]
                      refine xv_is12 fL_law_429 ?_
                      refine xv_goto fL_law_431 ?_
                      refine l_ltail n c9 i J (by omega) hM (by omega) (by omega) (fun I9 hI9 => ?_)
                      refine xv_iincN13 (a := 1) fL_law_666 (by decide) ?_
                      refine xv_goto fL_law_669 ?_
                      exact ih (k + 1) _ I9 _ _ _ _ _ _ _ _ _ _ (by omega) hI9 (by omega) (by omega)
                    · intro E s i rf j h
                      obtain ⟨hoo, _⟩ := h
                      cases hoo
              · refine xv_il15 fL_law_228 ?_
                refine xv_k fL_law_230 ?_
                refine xv_irem fL_law_232 (by decide) ?_
                obtain hp9 : on % 10 < 10 := by omega
                refine xv_eqi (y := nI (on % 10)) (nI_rem (by omega) (by decide)) ?_
                refine xv_is17 fL_law_233 ?_
                refine xv_il16 fL_law_235 ?_
                refine xv_k fL_law_237 ?_
                refine xv_irem fL_law_238 (by decide) ?_
                refine xv_eqi (y := nI (tw % 4)) (nI_rem (by omega) (by decide)) ?_
                refine xv_is18 fL_law_239 ?_
                refine xv_il16 fL_law_241 ?_
                refine xv_k fL_law_243 ?_
                refine xv_idiv fL_law_244 (by decide) ?_
                refine xv_eqi (y := nI (tw / 4)) (nI_div (by omega) (by decide)) ?_
                refine xv_k fL_law_245 ?_
                refine xv_irem fL_law_246 (by decide) ?_
                refine xv_eqi (y := nI (tw / 4 % 2)) (nI_rem (by omega) (by decide)) ?_
                refine xv_if_ne fL_law_247 (fun h_247 => ?_) (fun h_247 => ?_)
                · refine xv_k fL_law_254 ?_
                  refine xv_is19 fL_law_255 ?_
                  refine xv_k fL_law_257 ?_
                  refine xv_is20 fL_law_258 ?_
                  refine xv_k fL_law_260 ?_
                  refine xv_is21 fL_law_261 ?_
                  refine l_lsum n c I J hI hp9 (fun s l21 hs hz => ?_) 12 0 0 rfl (Nat.le_refl _) ⟨fun _ => lt_no, fun _ => rfl⟩
                  by_cases h0 : s = 0
                  · refine xv_al1 fL_law_292 ?_
                    refine xv_k fL_law_293 ?_
                    refine xv_il17 fL_law_294 ?_
                    refine xv_il18 fL_law_296 ?_
                    refine xv_il19 fL_law_298 ?_
                    refine xv_if_eq fL_law_300 (fun h_300 => ?_) (fun h_300 => ?_)
                    · refine xv_k fL_law_307 ?_
                      refine xv_k fL_law_308 ?_
                      refine xv_k fL_law_309 ?_
                      refine xv_callS7R (w_page_0_ok n c c J (p_page_ok n c I J hp9 (y := nI (tw % 4)) (z := nI 0) (okR_n (by omega) (by omega) (by decide)) (by decide) (hz.mp h0))) fL_law_310 YL_does VL_does lL_113 rfl (Nat.le_of_ble_eq_true rfl) (by decide) (by omega) (by omega) ?_
                      refine xv_il20 fL_law_313 ?_
                      refine xv_if_ne fL_law_315 (fun h_315 => ?_) (fun h_315 => ?_)
                      · exact absurd (by rw [h0]; rfl) h_315
                      · refine xv_k fL_law_318 ?_
                        refine xv_goto fL_law_319 ?_
                        refine xv_ic_ne fL_law_325 (fun h_325 => ?_) (fun h_325 => ?_)
                        · exact absurd rfl h_325
                        · refine xv_k fL_law_328 ?_
                          refine xv_goto fL_law_329 ?_
                          refine xv_is12 fL_law_333 ?_
                          refine xv_al2 fL_law_335 ?_
                          refine xv_il17 fL_law_336 ?_
                          refine xv_il20 fL_law_338 ?_
                          refine xv_if_ne fL_law_340 (fun h_340 => ?_) (fun h_340 => ?_)
                          · exact absurd (by rw [h0]; rfl) h_340
                          · refine xv_il18 fL_law_343 ?_
                            refine xv_il19 fL_law_345 ?_
                            refine xv_if_eq fL_law_347 (fun h_347 => ?_) (fun h_347 => ?_)
                            · refine xv_k fL_law_355 ?_
                              refine xv_iadd fL_law_356 ?_
                              refine xv_eqi (y := nI (tw % 4 + 10 * 0)) (nI_add _ _) ?_
                              refine xv_goto fL_law_357 ?_
                              refine xv_iastN fL_law_364 (sx_60 _ _) (⟨by omega, by decide⟩) ?_
                              refine xv_goto fL_law_365 ?_
                              refine l_ltail n c _ J (by omega) (hI.setPage hp9 (by omega) (show 0 < 2 by decide) (hz.mp h0)).mid (by omega) (by omega) (fun I9 hI9 => ?_)
                              refine xv_iincN13 (a := 1) fL_law_666 (by decide) ?_
                              refine xv_goto fL_law_669 ?_
                              exact ih (k + 1) _ I9 _ _ _ _ _ _ _ _ _ _ (by omega) hI9 (by omega) (by omega)
                            · exact absurd h_347 (by decide)
                    · exact absurd h_300 (by decide)
                  · refine xv_al1 fL_law_292 ?_
                    refine xv_k fL_law_293 ?_
                    refine xv_il17 fL_law_294 ?_
                    refine xv_il18 fL_law_296 ?_
                    refine xv_il19 fL_law_298 ?_
                    refine xv_if_eq fL_law_300 (fun h_300 => ?_) (fun h_300 => ?_)
                    · refine xv_k fL_law_307 ?_
                      refine xv_k fL_law_308 ?_
                      refine xv_k fL_law_309 ?_
                      refine xv_callS7R (w_page_0_S n c c J (p_page_c n c I J hp9 (y := nI (tw % 4)) (z := nI 0) (okR_n (by omega) (by omega) (by decide)) (fun q => h0 (hz.mpr q)))) fL_law_310 YL_does VL_does lL_113 rfl (Nat.le_of_ble_eq_true rfl) (by decide) (by omega) (by omega) ?_
                      refine xv_il20 fL_law_313 ?_
                      refine xv_if_ne fL_law_315 (fun h_315 => ?_) (fun h_315 => ?_)
                      · refine xv_k fL_law_322 ?_
                        refine xv_ic_ne fL_law_325 (fun h_325 => ?_) (fun h_325 => ?_)
                        · exact absurd rfl h_325
                        · refine xv_k fL_law_328 ?_
                          refine xv_goto fL_law_329 ?_
                          refine xv_is12 fL_law_333 ?_
                          refine xv_al2 fL_law_335 ?_
                          refine xv_il17 fL_law_336 ?_
                          refine xv_il20 fL_law_338 ?_
                          refine xv_if_ne fL_law_340 (fun h_340 => ?_) (fun h_340 => ?_)
                          · refine xv_al2 fL_law_360 ?_
                            refine xv_il17 fL_law_361 ?_
                            refine xv_ialdN fL_law_363 (sx_60 _ _) (⟨by omega, by decide⟩) ?_
                            refine xv_iastN fL_law_364 (sx_60 _ _) (⟨by omega, by decide⟩) ?_
                            rw [xv_u_id]
                            refine xv_goto fL_law_365 ?_
                            refine l_ltail n c I J (by omega) hI.mid (by omega) (by omega) (fun I9 hI9 => ?_)
                            refine xv_iincN13 (a := 1) fL_law_666 (by decide) ?_
                            refine xv_goto fL_law_669 ?_
                            exact ih (k + 1) _ I9 _ _ _ _ _ _ _ _ _ _ (by omega) hI9 (by omega) (by omega)
                          · exact absurd h_340 (nI_ne0 (Nat.pos_of_ne_zero h0) (by omega))
                      · exact absurd h_315 (nI_ne0 (Nat.pos_of_ne_zero h0) (by omega))
                    · exact absurd h_300 (by decide)
                · refine xv_k fL_law_250 ?_
                  refine xv_goto fL_law_251 ?_
                  refine xv_is19 fL_law_255 ?_
                  refine xv_k fL_law_257 ?_
                  refine xv_is20 fL_law_258 ?_
                  refine xv_k fL_law_260 ?_
                  refine xv_is21 fL_law_261 ?_
                  refine l_lsum n c I J hI hp9 (fun s l21 hs hz => ?_) 12 0 0 rfl (Nat.le_refl _) ⟨fun _ => lt_no, fun _ => rfl⟩
                  by_cases h0 : s = 0
                  · refine xv_al1 fL_law_292 ?_
                    refine xv_k fL_law_293 ?_
                    refine xv_il17 fL_law_294 ?_
                    refine xv_il18 fL_law_296 ?_
                    refine xv_il19 fL_law_298 ?_
                    refine xv_if_eq fL_law_300 (fun h_300 => ?_) (fun h_300 => ?_)
                    · exact absurd h_300 (by decide)
                    · refine xv_k fL_law_303 ?_
                      refine xv_goto fL_law_304 ?_
                      refine xv_k fL_law_308 ?_
                      refine xv_k fL_law_309 ?_
                      refine xv_callS7R (w_page_1_ok n c c J (p_page_ok n c I J hp9 (y := nI (tw % 4)) (z := nI 1) (okR_n (by omega) (by omega) (by decide)) (by decide) (hz.mp h0))) fL_law_310 YL_does VL_does lL_113 rfl (Nat.le_of_ble_eq_true rfl) (by decide) (by omega) (by omega) ?_
                      refine xv_il20 fL_law_313 ?_
                      refine xv_if_ne fL_law_315 (fun h_315 => ?_) (fun h_315 => ?_)
                      · exact absurd (by rw [h0]; rfl) h_315
                      · refine xv_k fL_law_318 ?_
                        refine xv_goto fL_law_319 ?_
                        refine xv_ic_ne fL_law_325 (fun h_325 => ?_) (fun h_325 => ?_)
                        · exact absurd rfl h_325
                        · refine xv_k fL_law_328 ?_
                          refine xv_goto fL_law_329 ?_
                          refine xv_is12 fL_law_333 ?_
                          refine xv_al2 fL_law_335 ?_
                          refine xv_il17 fL_law_336 ?_
                          refine xv_il20 fL_law_338 ?_
                          refine xv_if_ne fL_law_340 (fun h_340 => ?_) (fun h_340 => ?_)
                          · exact absurd (by rw [h0]; rfl) h_340
                          · refine xv_il18 fL_law_343 ?_
                            refine xv_il19 fL_law_345 ?_
                            refine xv_if_eq fL_law_347 (fun h_347 => ?_) (fun h_347 => ?_)
                            · exact absurd h_347 (by decide)
                            · refine xv_k fL_law_350 ?_
                              refine xv_goto fL_law_352 ?_
                              refine xv_iadd fL_law_356 ?_
                              refine xv_eqi (y := nI (tw % 4 + 10 * 1)) (nI_add _ _) ?_
                              refine xv_goto fL_law_357 ?_
                              refine xv_iastN fL_law_364 (sx_60 _ _) (⟨by omega, by decide⟩) ?_
                              refine xv_goto fL_law_365 ?_
                              refine l_ltail n c _ J (by omega) (hI.setPage hp9 (by omega) (show 1 < 2 by decide) (hz.mp h0)).mid (by omega) (by omega) (fun I9 hI9 => ?_)
                              refine xv_iincN13 (a := 1) fL_law_666 (by decide) ?_
                              refine xv_goto fL_law_669 ?_
                              exact ih (k + 1) _ I9 _ _ _ _ _ _ _ _ _ _ (by omega) hI9 (by omega) (by omega)
                  · refine xv_al1 fL_law_292 ?_
                    refine xv_k fL_law_293 ?_
                    refine xv_il17 fL_law_294 ?_
                    refine xv_il18 fL_law_296 ?_
                    refine xv_il19 fL_law_298 ?_
                    refine xv_if_eq fL_law_300 (fun h_300 => ?_) (fun h_300 => ?_)
                    · exact absurd h_300 (by decide)
                    · refine xv_k fL_law_303 ?_
                      refine xv_goto fL_law_304 ?_
                      refine xv_k fL_law_308 ?_
                      refine xv_k fL_law_309 ?_
                      refine xv_callS7R (w_page_1_S n c c J (p_page_c n c I J hp9 (y := nI (tw % 4)) (z := nI 1) (okR_n (by omega) (by omega) (by decide)) (fun q => h0 (hz.mpr q)))) fL_law_310 YL_does VL_does lL_113 rfl (Nat.le_of_ble_eq_true rfl) (by decide) (by omega) (by omega) ?_
                      refine xv_il20 fL_law_313 ?_
                      refine xv_if_ne fL_law_315 (fun h_315 => ?_) (fun h_315 => ?_)
                      · refine xv_k fL_law_322 ?_
                        refine xv_ic_ne fL_law_325 (fun h_325 => ?_) (fun h_325 => ?_)
                        · exact absurd rfl h_325
                        · refine xv_k fL_law_328 ?_
                          refine xv_goto fL_law_329 ?_
                          refine xv_is12 fL_law_333 ?_
                          refine xv_al2 fL_law_335 ?_
                          refine xv_il17 fL_law_336 ?_
                          refine xv_il20 fL_law_338 ?_
                          refine xv_if_ne fL_law_340 (fun h_340 => ?_) (fun h_340 => ?_)
                          · refine xv_al2 fL_law_360 ?_
                            refine xv_il17 fL_law_361 ?_
                            refine xv_ialdN fL_law_363 (sx_60 _ _) (⟨by omega, by decide⟩) ?_
                            refine xv_iastN fL_law_364 (sx_60 _ _) (⟨by omega, by decide⟩) ?_
                            rw [xv_u_id]
                            refine xv_goto fL_law_365 ?_
                            refine l_ltail n c I J (by omega) hI.mid (by omega) (by omega) (fun I9 hI9 => ?_)
                            refine xv_iincN13 (a := 1) fL_law_666 (by decide) ?_
                            refine xv_goto fL_law_669 ?_
                            exact ih (k + 1) _ I9 _ _ _ _ _ _ _ _ _ _ (by omega) hI9 (by omega) (by omega)
                          · exact absurd h_340 (nI_ne0 (Nat.pos_of_ne_zero h0) (by omega))
                      · exact absurd h_315 (nI_ne0 (Nat.pos_of_ne_zero h0) (by omega))
            · intro E s i rf j h
              obtain ⟨⟨_, _, hr⟩, _⟩ := h
              cases hr
          · intro E s i rf j h
            obtain ⟨⟨_, _, hr⟩, _⟩ := h
            cases hr
        · intro E s i rf j h
          obtain ⟨⟨_, _, hr⟩, _⟩ := h
          cases hr

theorem l_ldist (n : Nat) (c : Nat × Nat) (J : xv_J) {MC MS : Nat} {Q : xv_Q} {kc ks : Nat} {l13 l14 l15 l16 l17 l18 l19 l20 l21 : Option Value} : ∀ (u k : Nat) (I : xv_I), k + u = 4 → (xv_W mL_law 12 MC MS Q kc ks (sx n c) (it iD u k I) (rx c) J 86 (some (.ref 99) :: some (.ref 0) :: some (.ref 60) :: some (.ref 61) :: some (.ref 62) :: some (.ref 63) :: some (.ref 64) :: some (.ref 65) :: some (.ref 66) :: some (.ref 67) :: some (.ref 68) :: some (.ref 69) :: some (.int (nI 4)) :: l13 :: l14 :: l15 :: l16 :: l17 :: l18 :: l19 :: l20 :: l21 :: []) []) → xv_W mL_law 12 MC MS Q kc ks (sx n c) I (rx c) J 68 (some (.ref 99) :: some (.ref 0) :: some (.ref 60) :: some (.ref 61) :: some (.ref 62) :: some (.ref 63) :: some (.ref 64) :: some (.ref 65) :: some (.ref 66) :: some (.ref 67) :: some (.ref 68) :: some (.ref 69) :: some (.int (nI k)) :: l13 :: l14 :: l15 :: l16 :: l17 :: l18 :: l19 :: l20 :: l21 :: []) [] := by
  intro u
  induction u with
  | zero =>
    intro k I hu kk
    obtain rfl : k = 4 := by omega
    show xv_W mL_law 12 MC MS _ kc ks (sx n c) I (rx c) J 68 (some (.ref 99) :: some (.ref 0) :: some (.ref 60) :: some (.ref 61) :: some (.ref 62) :: some (.ref 63) :: some (.ref 64) :: some (.ref 65) :: some (.ref 66) :: some (.ref 67) :: some (.ref 68) :: some (.ref 69) :: some (.int (nI 4)) :: l13 :: l14 :: l15 :: l16 :: l17 :: l18 :: l19 :: l20 :: l21 :: []) []
    refine xv_il12 fL_law_68 ?_
    refine xv_k fL_law_70 ?_
    refine xv_ic_ge fL_law_71 (fun h_71 => ?_) (fun h_71 => ?_)
    · exact kk
    · exact absurd (by decide) h_71
  | succ u ih =>
    intro k I hu kk
    have hk : k < 4 := by omega
    show xv_W mL_law 12 MC MS _ kc ks (sx n c) I (rx c) J 68 (some (.ref 99) :: some (.ref 0) :: some (.ref 60) :: some (.ref 61) :: some (.ref 62) :: some (.ref 63) :: some (.ref 64) :: some (.ref 65) :: some (.ref 66) :: some (.ref 67) :: some (.ref 68) :: some (.ref 69) :: some (.int (nI k)) :: l13 :: l14 :: l15 :: l16 :: l17 :: l18 :: l19 :: l20 :: l21 :: []) []
    refine xv_il12 fL_law_68 ?_
    refine xv_k fL_law_70 ?_
    refine xv_ic_ge fL_law_71 (fun h_71 => ?_) (fun h_71 => ?_)
    · exact absurd h_71 (nI_ge hk (by decide))
    · refine xv_al7 fL_law_74 ?_
      refine xv_il12 fL_law_76 ?_
      refine xv_k fL_law_78 ?_
      refine xv_iastN fL_law_79 (sx_65 _ _) (⟨by omega, by decide⟩) ?_
      refine xv_iincN12 (a := 1) fL_law_80 (by decide) ?_
      refine xv_goto fL_law_83 ?_
      exact ih (k + 1) (iD k I) (by omega) kk

theorem law_body {n : Nat} (s : Nat → Int32) (hn : n ≤ 260) : xv_W mL_law 12 330000 2600000 (fun o _ _ _ _ => o = .inl (some (.int (nI 1)))) 330000 2600000 (s00 n) (i00 s) r00 (fun _ _ => 0) 0 [some (.ref 99), none, none, none, none, none, none, none, none, none, none, none, none, none, none, none, none, none, none, none, none, none] [] := by
  have hn1 : n < 1000 := by omega
  show xv_W mL_law 12 330000 2600000 _ 330000 2600000 (s00 n) (i00 s) r00 (fun _ _ => 0) 0 [some (.ref 99), none, none, none, none, none, none, none, none, none, none, none, none, none, none, none, none, none, none, none, none, none] []
  refine xv_new (n := 0) (kc' := 329999) (ks' := 2599986) fL_law_0 nL_15 (by exact s00_o n (by decide)) (Nat.le_of_ble_eq_true rfl) (Nat.le_of_ble_eq_true rfl) ?_
  refine xv_dup_r fL_law_3 ?_
  refine xv_callI0V (c_X10_init _ _ _ _ (by rfl) (by exact fun v h1 h2 => (xv_us_ne _ _ (by omega)).trans (s00_o n (by omega)))) fL_law_4 YX10_init VX10_init lL_137 rfl rfl (Nat.le_of_ble_eq_true rfl) (by decide) (Nat.le_of_ble_eq_true rfl) (Nat.le_of_ble_eq_true rfl) ?_
  refine xv_as1 fL_law_7 ?_
  refine xv_k fL_law_8 ?_
  refine xv_newI (n := 60) (k9 := 10) (kc' := 329943) (ks' := 2598650) fL_law_10 xv_ac_int (by exact shA_o n (v := 60) (by decide) (by decide)) (by decide) (by decide) (by decide) (Nat.le_of_ble_eq_true rfl) (Nat.le_of_ble_eq_true rfl) ?_
  refine xv_as2 fL_law_12 ?_
  refine xv_k fL_law_13 ?_
  refine xv_newI (n := 61) (k9 := 20) (kc' := 329942) (ks' := 2598630) fL_law_15 xv_ac_int (by exact (xv_us_ne _ _ (by decide)).trans (shA_o n (v := 61) (by decide) (by decide))) (by decide) (by decide) (by decide) (Nat.le_of_ble_eq_true rfl) (Nat.le_of_ble_eq_true rfl) ?_
  refine xv_as3 fL_law_17 ?_
  refine xv_k fL_law_18 ?_
  refine xv_newI (n := 62) (k9 := 20) (kc' := 329941) (ks' := 2598610) fL_law_20 xv_ac_int (by exact (xv_us_ne _ _ (by decide)).trans ((xv_us_ne _ _ (by decide)).trans (shA_o n (v := 62) (by decide) (by decide)))) (by decide) (by decide) (by decide) (Nat.le_of_ble_eq_true rfl) (Nat.le_of_ble_eq_true rfl) ?_
  refine xv_as4 fL_law_22 ?_
  refine xv_k fL_law_24 ?_
  refine xv_newI (n := 63) (k9 := 20) (kc' := 329940) (ks' := 2598590) fL_law_26 xv_ac_int (by exact (xv_us_ne _ _ (by decide)).trans ((xv_us_ne _ _ (by decide)).trans ((xv_us_ne _ _ (by decide)).trans (shA_o n (v := 63) (by decide) (by decide))))) (by decide) (by decide) (by decide) (Nat.le_of_ble_eq_true rfl) (Nat.le_of_ble_eq_true rfl) ?_
  refine xv_as5 fL_law_28 ?_
  refine xv_k fL_law_30 ?_
  refine xv_newI (n := 64) (k9 := 20) (kc' := 329939) (ks' := 2598570) fL_law_32 xv_ac_int (by exact (xv_us_ne _ _ (by decide)).trans ((xv_us_ne _ _ (by decide)).trans ((xv_us_ne _ _ (by decide)).trans ((xv_us_ne _ _ (by decide)).trans (shA_o n (v := 64) (by decide) (by decide)))))) (by decide) (by decide) (by decide) (Nat.le_of_ble_eq_true rfl) (Nat.le_of_ble_eq_true rfl) ?_
  refine xv_as6 fL_law_34 ?_
  refine xv_k fL_law_36 ?_
  refine xv_newI (n := 65) (k9 := 4) (kc' := 329938) (ks' := 2598566) fL_law_37 xv_ac_int (by exact (xv_us_ne _ _ (by decide)).trans ((xv_us_ne _ _ (by decide)).trans ((xv_us_ne _ _ (by decide)).trans ((xv_us_ne _ _ (by decide)).trans ((xv_us_ne _ _ (by decide)).trans (shA_o n (v := 65) (by decide) (by decide))))))) (by decide) (by decide) (by decide) (Nat.le_of_ble_eq_true rfl) (Nat.le_of_ble_eq_true rfl) ?_
  refine xv_as7 fL_law_39 ?_
  refine xv_k fL_law_41 ?_
  refine xv_newI (n := 66) (k9 := 60) (kc' := 329937) (ks' := 2598506) fL_law_43 xv_ac_int (by exact (xv_us_ne _ _ (by decide)).trans ((xv_us_ne _ _ (by decide)).trans ((xv_us_ne _ _ (by decide)).trans ((xv_us_ne _ _ (by decide)).trans ((xv_us_ne _ _ (by decide)).trans ((xv_us_ne _ _ (by decide)).trans (shA_o n (v := 66) (by decide) (by decide)))))))) (by decide) (by decide) (by decide) (Nat.le_of_ble_eq_true rfl) (Nat.le_of_ble_eq_true rfl) ?_
  refine xv_as8 fL_law_45 ?_
  refine xv_k fL_law_47 ?_
  refine xv_newI (n := 67) (k9 := 60) (kc' := 329936) (ks' := 2598446) fL_law_49 xv_ac_int (by exact (xv_us_ne _ _ (by decide)).trans ((xv_us_ne _ _ (by decide)).trans ((xv_us_ne _ _ (by decide)).trans ((xv_us_ne _ _ (by decide)).trans ((xv_us_ne _ _ (by decide)).trans ((xv_us_ne _ _ (by decide)).trans ((xv_us_ne _ _ (by decide)).trans (shA_o n (v := 67) (by decide) (by decide))))))))) (by decide) (by decide) (by decide) (Nat.le_of_ble_eq_true rfl) (Nat.le_of_ble_eq_true rfl) ?_
  refine xv_as9 fL_law_51 ?_
  refine xv_k fL_law_53 ?_
  refine xv_newI (n := 68) (k9 := 6) (kc' := 329935) (ks' := 2598440) fL_law_55 xv_ac_int (by exact (xv_us_ne _ _ (by decide)).trans ((xv_us_ne _ _ (by decide)).trans ((xv_us_ne _ _ (by decide)).trans ((xv_us_ne _ _ (by decide)).trans ((xv_us_ne _ _ (by decide)).trans ((xv_us_ne _ _ (by decide)).trans ((xv_us_ne _ _ (by decide)).trans ((xv_us_ne _ _ (by decide)).trans (shA_o n (v := 68) (by decide) (by decide)))))))))) (by decide) (by decide) (by decide) (Nat.le_of_ble_eq_true rfl) (Nat.le_of_ble_eq_true rfl) ?_
  refine xv_as10 fL_law_57 ?_
  refine xv_k fL_law_59 ?_
  refine xv_newI (n := 69) (k9 := 6) (kc' := 329934) (ks' := 2598434) fL_law_61 xv_ac_int (by exact (xv_us_ne _ _ (by decide)).trans ((xv_us_ne _ _ (by decide)).trans ((xv_us_ne _ _ (by decide)).trans ((xv_us_ne _ _ (by decide)).trans ((xv_us_ne _ _ (by decide)).trans ((xv_us_ne _ _ (by decide)).trans ((xv_us_ne _ _ (by decide)).trans ((xv_us_ne _ _ (by decide)).trans ((xv_us_ne _ _ (by decide)).trans (shA_o n (v := 69) (by decide) (by decide))))))))))) (by decide) (by decide) (by decide) (Nat.le_of_ble_eq_true rfl) (Nat.le_of_ble_eq_true rfl) ?_
  refine xv_as11 fL_law_63 ?_
  refine xv_k fL_law_65 ?_
  refine xv_is12 fL_law_66 ?_
  rw [show (xv_us (xv_us (xv_us (xv_us (xv_us (xv_us (xv_us (xv_us (xv_us (xv_us (kX10_initSh (xv_us (s00 n) 0 (.inl 10))) 60 (.inr (.inl (.int, 10)))) 61 (.inr (.inl (.int, 20)))) 62 (.inr (.inl (.int, 20)))) 63 (.inr (.inl (.int, 20)))) 64 (.inr (.inl (.int, 20)))) 65 (.inr (.inl (.int, 4)))) 66 (.inr (.inl (.int, 60)))) 67 (.inr (.inl (.int, 60)))) 68 (.inr (.inl (.int, 6)))) 69 (.inr (.inl (.int, 6)))) = sx n (0, 0) from shF_eq n hn1, show (xv_z (xv_z (xv_z (xv_z (xv_z (xv_z (xv_z (xv_z (xv_z (xv_z (kX10_initRf (xv_z r00 0 none)) 60 none) 61 none) 62 none) 63 none) 64 none) 65 none) 66 none) 67 none) 68 none) 69 none) = rx (0, 0) from rfF_eq]
  obtain ⟨J0, hJ0⟩ : ∃ J0 : xv_J, J0 = (fun _ _ => 0) := ⟨_, rfl⟩
  rw [← hJ0]
  refine l_ldist n (0, 0) J0 4 0 (iF s) rfl ?_
  obtain e16 : it iD 4 0 (iF s) 1 6 = nI 0 := by rw [iD_at, if_neg (by omega)]; rfl
  refine xv_al1 fL_law_86 ?_
  refine xv_callV0R (p_touched n (0, 0) _ J0) fL_law_87 YX10_touched VX10_touched lL_110 rfl rfl (sx_0 _ _) (Nat.le_of_ble_eq_true rfl) (by decide) (Nat.le_of_ble_eq_true rfl) (Nat.le_of_ble_eq_true rfl) ?_
  rw [e16]
  refine xv_if_ne fL_law_90 (fun h_90 => ?_) (fun h_90 => ?_)
  · exact absurd rfl h_90
  · refine xv_al1 fL_law_93 ?_
    refine xv_k fL_law_94 ?_
    refine xv_k fL_law_95 ?_
    refine xv_k fL_law_97 ?_
    refine xv_k fL_law_98 ?_
    refine xv_k fL_law_99 ?_
    refine xv_k fL_law_100 ?_
    refine xv_callS7R (w_page_0_I n (0, 0) (0, 0) J0 (p_page_a n (0, 0) _ J0 (x := nI 10) (by decide) (y := nI 0) (z := nI 0))) fL_law_101 YL_does VL_does lL_113 rfl (Nat.le_of_ble_eq_true rfl) (by decide) (Nat.le_of_ble_eq_true rfl) (Nat.le_of_ble_eq_true rfl) ?_
    refine xv_k fL_law_104 ?_
    refine xv_ic_ne fL_law_107 (fun h_107 => ?_) (fun h_107 => ?_)
    · exact absurd rfl h_107
    · refine xv_al1 fL_law_110 ?_
      refine xv_k fL_law_111 ?_
      refine xv_k fL_law_112 ?_
      refine xv_k fL_law_113 ?_
      refine xv_k fL_law_114 ?_
      refine xv_k fL_law_115 ?_
      refine xv_k fL_law_116 ?_
      refine xv_callS7R (w_page_0_A n (0, 0) (0, 0) J0 (p_page_b n (0, 0) _ J0 (p := 0) (by decide) (y := nI 4) (z := nI 0) (fun z => nI_ge (by decide) (by decide) z.2))) fL_law_117 YL_does VL_does lL_113 rfl (Nat.le_of_ble_eq_true rfl) (by decide) (Nat.le_of_ble_eq_true rfl) (Nat.le_of_ble_eq_true rfl) ?_
      refine xv_k fL_law_120 ?_
      refine xv_ic_ne fL_law_123 (fun h_123 => ?_) (fun h_123 => ?_)
      · exact absurd rfl h_123
      · refine xv_al1 fL_law_126 ?_
        refine xv_k fL_law_127 ?_
        refine xv_k fL_law_129 ?_
        refine xv_k fL_law_130 ?_
        refine xv_k fL_law_131 ?_
        refine xv_k fL_law_132 ?_
        refine xv_k fL_law_133 ?_
        refine xv_callS7R (w_pass_A n (0, 0) (0, 0) J0 (p_pass_a n (0, 0) _ J0 (x := nI 0) (fun z => z.1 (by decide)))) fL_law_134 YL_does VL_does lL_113 rfl (Nat.le_of_ble_eq_true rfl) (by decide) (Nat.le_of_ble_eq_true rfl) (Nat.le_of_ble_eq_true rfl) ?_
        refine xv_k fL_law_137 ?_
        refine xv_ic_ne fL_law_140 (fun h_140 => ?_) (fun h_140 => ?_)
        · exact absurd rfl h_140
        · refine xv_al1 fL_law_143 ?_
          refine xv_k fL_law_144 ?_
          refine xv_k fL_law_146 ?_
          refine xv_k fL_law_147 ?_
          refine xv_k fL_law_148 ?_
          refine xv_k fL_law_149 ?_
          refine xv_k fL_law_150 ?_
          refine xv_callS7R (w_part_I n (0, 0) (0, 0) J0 (p_part_a n (0, 0) _ J0 (x := nI 0) (fun k _ _ => Nat.zero_le k) (y := nI 0))) fL_law_151 YL_does VL_does lL_113 rfl (Nat.le_of_ble_eq_true rfl) (by decide) (Nat.le_of_ble_eq_true rfl) (Nat.le_of_ble_eq_true rfl) ?_
          refine xv_k fL_law_154 ?_
          refine xv_ic_ne fL_law_157 (fun h_157 => ?_) (fun h_157 => ?_)
          · exact absurd rfl h_157
          · refine xv_k fL_law_160 ?_
            refine xv_goto fL_law_161 ?_
            refine xv_is12 fL_law_165 ?_
            refine xv_k fL_law_167 ?_
            refine xv_is13 fL_law_168 ?_
            exact law_loop hn _ 62 0 (0, 0) _ _ _ _ _ _ _ _ _ _ _ rfl (inv0 s) (Nat.le_of_ble_eq_true rfl) (Nat.le_of_ble_eq_true rfl)
