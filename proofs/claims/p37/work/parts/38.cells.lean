theorem xv_Met.forgetG {M : xv_M} {d mc ms : Nat} {sh sh' : xv_Sh} {I : xv_I} {Rf : xv_Rf} {J : xv_J} {As : List Value} {P : xv_O → xv_I → xv_Rf → xv_J → Prop} (h : xv_Met M d mc ms sh I Rf J As (fun o s i r j => s = sh' ∧ P o i r j))
    (h1 : ∀ o i r j, P o i r j → (∃ v, o = .inl (some (.int v))) ∧ ∀ w k u, sh w ≠ none → r w k = some u → sh u ≠ none) (h2 : ∀ w, sh w ≠ none → sh' w = sh w) : xv_Met M d mc ms sh I Rf J As (fun o s i r j => s = sh ∧ P o i r j) := fun l D ad ca sz hl => by
  refine MetFree.imp (h l D ad ca sz hl) (fun a st o t hh => ?_)
  rcases hh with ⟨⟨r, sh1, I1, Rf1, J1, ad1, ca1, g1, ⟨rfl, g2⟩, g3, g4, g5, g6, g7⟩, h4⟩ | ⟨q, h9, hx⟩
  · obtain ⟨⟨v, e⟩, h3⟩ := h1 _ _ _ _ g2
    cases e
    refine Or.inl ⟨⟨some (.int v), sh, I1, Rf1, J1, ad1, ca1, g1, ⟨rfl, g2⟩, fun x hx => by cases hx; trivial, ?_, ?_, ?_, g7⟩, h4⟩
    · refine ⟨fun w x hw => g4.1 w x ((h2 w (by rw [hw]; exact Option.some_ne_none _)).trans hw), fun w u hw hu => g4.2.1 w u (by rw [h2 w hw]; exact hw) (by rw [h2 u hu]; exact hu), fun w k u hw hr => h3 w k u hw hr⟩
    · exact fun w hw => ⟨rfl, (g5 w hw).2⟩
    · intro w hw
      obtain ⟨x, hx, hx2⟩ := hw
      exact g6 w ⟨x, (h2 w (by rw [hx]; exact Option.some_ne_none _)).trans hx, hx2⟩
  · obtain ⟨E, ce, L, ⟨sh1, I1, Rf1, J1, ad1, ca1, ⟨-, g1⟩, g2⟩, h3⟩ := hx
    obtain ⟨⟨v, e⟩, -⟩ := h1 _ _ _ _ g1
    cases e
theorem sx_seen (n : Nat) (c : Nat × Nat) : xv_us (sx n c) 70 (.inr (.inl (.int, 60))) = sx (n + 1000) c := by
  funext v
  unfold xv_us
  by_cases h : v = 70
  · rw [if_pos h, h, sx_70]
  · rw [if_neg h]
    unfold sx
    rw [if_neg h, if_neg h, Nat.add_mod_right]
theorem rx_seen (c : Nat × Nat) : xv_z (rx c) 70 none = rx c := by
  funext v j
  unfold xv_z
  by_cases h : v = 70
  · rw [if_pos h, h]
    rfl
  · rw [if_neg h]
theorem l_acT (n : Nat) (c : Nat × Nat) (J : xv_J) {I : xv_I} {D MC MS : Nat} {Q : xv_Q} (hD : 12 ≤ D + 1) {p k tk v kc ks : Nat} {Iw : xv_I} (hp : p < 10) (hk : k < 12) (hPI : PI I (12 * p + k + 1) (12 * p + k) Iw) (e : I (3 + p) k = nI v) (hok : okCell c v) (h7 : v < 200 ∨ p < 7) (hR : Rest c I) (htk : tk = tkn I p k) {l9 : Option Value} (kk : ∀ I2, PI I (12 * p + k + 1) (12 * p + k + 1) I2 → xv_W mL_areCells D MC MS Q kc ks (sx (n + 1000) c) I2 (rx c) J 310 (some (.ref 0) :: some (.ref 60) :: some (.ref 61) :: some (.ref 62) :: some (.ref 63) :: some (.ref 64) :: some (.ref 66) :: some (.ref 67) :: some (.ref 69) :: some (.int (nI 1)) :: some (.ref 70) :: some (.int (nI p)) :: some (.int (nI (tkn I p (k + 1)))) :: some (.int (nI k)) :: some (.int (nI v)) :: []) []) : xv_W mL_areCells D MC MS Q kc ks (sx (n + 1000) c) Iw (rx c) J 100 (some (.ref 0) :: some (.ref 60) :: some (.ref 61) :: some (.ref 62) :: some (.ref 63) :: some (.ref 64) :: some (.ref 66) :: some (.ref 67) :: some (.ref 69) :: l9 :: some (.ref 70) :: some (.int (nI p)) :: some (.int (nI tk)) :: some (.int (nI k)) :: some (.int (nI v)) :: []) [] := by
  obtain hn9 := hR.2.2.2.2.2.1.2.2.1
  obtain hn8 := hR.2.2.2.2.2.2.1.2.2.1
  obtain e690 : Iw 69 0 = nI c.1 := (hPI.1 69 0 (by decide) (by decide) (by decide) (by omega) (by omega)).trans hR.2.2.2.2.2.1.2.1
  obtain e691 : Iw 69 1 = nI c.2 := (hPI.1 69 1 (by decide) (by decide) (by decide) (by omega) (by omega)).trans hR.2.2.2.2.2.2.1.2.1
  obtain htl := tkn_le I p k
  rcases hok with hv0 | hvA | hvS | hvC
  · refine xv_il12 fL_areCells_100 ?_
    refine xv_il14 fL_areCells_102 ?_
    refine xv_if_le fL_areCells_104 (fun h_104 => ?_) (fun h_104 => ?_)
    · refine xv_k fL_areCells_111 ?_
      refine xv_iadd fL_areCells_112 ?_
      refine xv_eqi (y := nI (tkn I p (k + 1))) (by rw [nI_add, htk, tkn, iteP_t (by rw [e, hv0]; rfl)]) ?_
      refine xv_is12 fL_areCells_113 ?_
      refine xv_il14 fL_areCells_115 ?_
      refine xv_if_eq fL_areCells_117 (fun h_117 => ?_) (fun h_117 => ?_)
      · refine xv_k fL_areCells_181 ?_
        refine xv_goto fL_areCells_182 ?_
        refine xv_is9 fL_areCells_186 ?_
        refine xv_il9 fL_areCells_188 ?_
        refine xv_if_eq fL_areCells_190 (fun h_190 => ?_) (fun h_190 => ?_)
        · exact absurd h_190 (by decide)
        · refine xv_il14 fL_areCells_193 ?_
          refine xv_if_le fL_areCells_195 (fun h_195 => ?_) (fun h_195 => ?_)
          · refine xv_il9 fL_areCells_235 ?_
            refine xv_if_eq fL_areCells_237 (fun h_237 => ?_) (fun h_237 => ?_)
            · exact absurd h_237 (by decide)
            · refine xv_il14 fL_areCells_240 ?_
              refine xv_k fL_areCells_242 ?_
              refine xv_ic_lt fL_areCells_245 (fun h_245 => ?_) (fun h_245 => ?_)
              · refine xv_il14 fL_areCells_288 ?_
                refine xv_k fL_areCells_290 ?_
                refine xv_ic_lt fL_areCells_293 (fun h_293 => ?_) (fun h_293 => ?_)
                · refine xv_k fL_areCells_303 ?_
                  refine xv_goto fL_areCells_304 ?_
                  refine xv_is9 fL_areCells_308 ?_
                  exact kk _ (hPI.no hp hk e (Or.inl (by omega)))
                · exact absurd ((nI_ltI (by omega) (by omega)).mpr (by omega)) h_293
              · exact absurd ((nI_ltI (by omega) (by omega)).mpr (by omega)) h_245
          · exact absurd (by rw [hv0]; decide) h_195
      · exact absurd (by rw [hv0]; rfl) h_117
    · exact absurd (by rw [hv0]; decide) h_104
  · refine xv_il12 fL_areCells_100 ?_
    refine xv_il14 fL_areCells_102 ?_
    refine xv_if_le fL_areCells_104 (fun h_104 => ?_) (fun h_104 => ?_)
    · exact absurd h_104 (nI_nle (by omega) (by omega))
    · refine xv_k fL_areCells_107 ?_
      refine xv_goto fL_areCells_108 ?_
      refine xv_iadd fL_areCells_112 ?_
      refine xv_eqi (y := nI (tkn I p (k + 1))) (by rw [nI_add, htk, tkn, iteP_f (by rw [e]; exact nI_ne0 (by omega) (by omega))]) ?_
      refine xv_is12 fL_areCells_113 ?_
      refine xv_il14 fL_areCells_115 ?_
      refine xv_if_eq fL_areCells_117 (fun h_117 => ?_) (fun h_117 => ?_)
      · exact absurd h_117 (nI_ne0 (by omega) (by omega))
      · refine xv_il14 fL_areCells_120 ?_
        refine xv_k fL_areCells_122 ?_
        refine xv_ic_le fL_areCells_124 (fun h_124 => ?_) (fun h_124 => ?_)
        · exact absurd ((nI_leI (by omega) (by omega)).mp h_124) (by omega)
        · refine xv_il14 fL_areCells_127 ?_
          refine xv_k fL_areCells_129 ?_
          refine xv_al8 fL_areCells_131 ?_
          refine xv_k fL_areCells_133 ?_
          refine xv_ialdN fL_areCells_134 (sx_69 _ _) (⟨by decide, by decide⟩) ?_
          rw [e690]
          refine xv_iadd fL_areCells_135 ?_
          refine xv_eqi (y := nI (100 + c.1)) (nI_add _ _) ?_
          refine xv_ic_lt fL_areCells_136 (fun h_136 => ?_) (fun h_136 => ?_)
          · refine xv_k fL_areCells_181 ?_
            refine xv_goto fL_areCells_182 ?_
            refine xv_is9 fL_areCells_186 ?_
            refine xv_il9 fL_areCells_188 ?_
            refine xv_if_eq fL_areCells_190 (fun h_190 => ?_) (fun h_190 => ?_)
            · exact absurd h_190 (by decide)
            · refine xv_il14 fL_areCells_193 ?_
              refine xv_if_le fL_areCells_195 (fun h_195 => ?_) (fun h_195 => ?_)
              · exact absurd h_195 (nI_nle (by omega) (by omega))
              · refine xv_il14 fL_areCells_198 ?_
                refine xv_k fL_areCells_200 ?_
                refine xv_ic_ge fL_areCells_203 (fun h_203 => ?_) (fun h_203 => ?_)
                · exact absurd ((nI_leI (by omega) (by omega)).mp h_203) (by omega)
                · refine xv_al10 fL_areCells_206 ?_
                  refine xv_il14 fL_areCells_208 ?_
                  refine xv_k fL_areCells_210 ?_
                  refine xv_ic_ge fL_areCells_213 (fun h_213 => ?_) (fun h_213 => ?_)
                  · exact absurd ((nI_leI (by omega) (by omega)).mp h_213) (by omega)
                  · refine xv_il14 fL_areCells_216 ?_
                    refine xv_k fL_areCells_218 ?_
                    refine xv_isub fL_areCells_220 ?_
                    refine xv_eqi (y := nI (v - 100)) (nI_sub (by omega)) ?_
                    refine xv_goto fL_areCells_221 ?_
                    refine xv_dup2 fL_areCells_230 ?_
                    refine xv_ialdN fL_areCells_231 (sx_70 _ _) (⟨by omega, by decide⟩) ?_
                    refine xv_k fL_areCells_232 ?_
                    refine xv_iadd fL_areCells_233 ?_
                    refine xv_iastN fL_areCells_234 (sx_70 _ _) (⟨by omega, by decide⟩) ?_
                    refine xv_il9 fL_areCells_235 ?_
                    refine xv_if_eq fL_areCells_237 (fun h_237 => ?_) (fun h_237 => ?_)
                    · exact absurd h_237 (by decide)
                    · refine xv_il14 fL_areCells_240 ?_
                      refine xv_k fL_areCells_242 ?_
                      refine xv_ic_lt fL_areCells_245 (fun h_245 => ?_) (fun h_245 => ?_)
                      · refine xv_il14 fL_areCells_288 ?_
                        refine xv_k fL_areCells_290 ?_
                        refine xv_ic_lt fL_areCells_293 (fun h_293 => ?_) (fun h_293 => ?_)
                        · refine xv_k fL_areCells_303 ?_
                          refine xv_goto fL_areCells_304 ?_
                          refine xv_is9 fL_areCells_308 ?_
                          exact kk _ (hPI.seen hp hk e (j := v - 100) (by omega) (by unfold mk; rw [if_pos (by omega)]; omega))
                        · exact absurd ((nI_ltI (by omega) (by omega)).mpr (by omega)) h_293
                      · exact absurd ((nI_ltI (by omega) (by omega)).mpr (by omega)) h_245
          · exact absurd ((nI_ltI (by omega) (by omega)).mpr (by omega)) h_136
  · obtain ⟨s9, sec9, z9, X9, q1, q2, q3, q4, q5, q6, q7⟩ := st_sec hR hp hk (a := v - 200) (by omega) (by rw [show 200 + (v - 200) = v by omega]; exact e)
    obtain e60 : xv_u Iw 70 (v - 180) (Iw 70 (v - 180) + nI 1) 60 p = nI (s9 + 10 * z9) := (xv_u_ne _ _ _ (by decide)).trans ((hPI.1 60 p (by decide) (by decide) (by decide) (by omega) (by omega)).trans q3)
    obtain e63 : xv_u Iw 70 (v - 180) (Iw 70 (v - 180) + nI 1) 63 (v - 200) = nI X9 := (xv_u_ne _ _ _ (by decide)).trans ((hPI.1 63 _ (by decide) (by decide) (by decide) (by omega) (by omega)).trans q6)
    refine xv_il12 fL_areCells_100 ?_
    refine xv_il14 fL_areCells_102 ?_
    refine xv_if_le fL_areCells_104 (fun h_104 => ?_) (fun h_104 => ?_)
    · exact absurd h_104 (nI_nle (by omega) (by omega))
    · refine xv_k fL_areCells_107 ?_
      refine xv_goto fL_areCells_108 ?_
      refine xv_iadd fL_areCells_112 ?_
      refine xv_eqi (y := nI (tkn I p (k + 1))) (by rw [nI_add, htk, tkn, iteP_f (by rw [e]; exact nI_ne0 (by omega) (by omega))]) ?_
      refine xv_is12 fL_areCells_113 ?_
      refine xv_il14 fL_areCells_115 ?_
      refine xv_if_eq fL_areCells_117 (fun h_117 => ?_) (fun h_117 => ?_)
      · exact absurd h_117 (nI_ne0 (by omega) (by omega))
      · refine xv_il14 fL_areCells_120 ?_
        refine xv_k fL_areCells_122 ?_
        refine xv_ic_le fL_areCells_124 (fun h_124 => ?_) (fun h_124 => ?_)
        · exact absurd ((nI_leI (by omega) (by omega)).mp h_124) (by omega)
        · refine xv_il14 fL_areCells_127 ?_
          refine xv_k fL_areCells_129 ?_
          refine xv_al8 fL_areCells_131 ?_
          refine xv_k fL_areCells_133 ?_
          refine xv_ialdN fL_areCells_134 (sx_69 _ _) (⟨by decide, by decide⟩) ?_
          rw [e690]
          refine xv_iadd fL_areCells_135 ?_
          refine xv_eqi (y := nI (100 + c.1)) (nI_add _ _) ?_
          refine xv_ic_lt fL_areCells_136 (fun h_136 => ?_) (fun h_136 => ?_)
          · exact absurd ((nI_ltI (by omega) (by omega)).mp h_136) (by omega)
          · refine xv_il14 fL_areCells_139 ?_
            refine xv_k fL_areCells_141 ?_
            refine xv_ic_le fL_areCells_144 (fun h_144 => ?_) (fun h_144 => ?_)
            · exact absurd ((nI_leI (by omega) (by omega)).mp h_144) (by omega)
            · refine xv_il14 fL_areCells_147 ?_
              refine xv_k fL_areCells_149 ?_
              refine xv_al8 fL_areCells_152 ?_
              refine xv_k fL_areCells_154 ?_
              refine xv_ialdN fL_areCells_155 (sx_69 _ _) (⟨by decide, by decide⟩) ?_
              rw [e691]
              refine xv_iadd fL_areCells_156 ?_
              refine xv_eqi (y := nI (200 + c.2)) (nI_add _ _) ?_
              refine xv_ic_lt fL_areCells_157 (fun h_157 => ?_) (fun h_157 => ?_)
              · refine xv_k fL_areCells_181 ?_
                refine xv_goto fL_areCells_182 ?_
                refine xv_is9 fL_areCells_186 ?_
                refine xv_il9 fL_areCells_188 ?_
                refine xv_if_eq fL_areCells_190 (fun h_190 => ?_) (fun h_190 => ?_)
                · exact absurd h_190 (by decide)
                · refine xv_il14 fL_areCells_193 ?_
                  refine xv_if_le fL_areCells_195 (fun h_195 => ?_) (fun h_195 => ?_)
                  · exact absurd h_195 (nI_nle (by omega) (by omega))
                  · refine xv_il14 fL_areCells_198 ?_
                    refine xv_k fL_areCells_200 ?_
                    refine xv_ic_ge fL_areCells_203 (fun h_203 => ?_) (fun h_203 => ?_)
                    · exact absurd ((nI_leI (by omega) (by omega)).mp h_203) (by omega)
                    · refine xv_al10 fL_areCells_206 ?_
                      refine xv_il14 fL_areCells_208 ?_
                      refine xv_k fL_areCells_210 ?_
                      refine xv_ic_ge fL_areCells_213 (fun h_213 => ?_) (fun h_213 => ?_)
                      · refine xv_il14 fL_areCells_224 ?_
                        refine xv_k fL_areCells_226 ?_
                        refine xv_isub fL_areCells_229 ?_
                        refine xv_eqi (y := nI (v - 180)) (nI_sub (by omega)) ?_
                        refine xv_dup2 fL_areCells_230 ?_
                        refine xv_ialdN fL_areCells_231 (sx_70 _ _) (⟨by omega, by decide⟩) ?_
                        refine xv_k fL_areCells_232 ?_
                        refine xv_iadd fL_areCells_233 ?_
                        refine xv_iastN fL_areCells_234 (sx_70 _ _) (⟨by omega, by decide⟩) ?_
                        refine xv_il9 fL_areCells_235 ?_
                        refine xv_if_eq fL_areCells_237 (fun h_237 => ?_) (fun h_237 => ?_)
                        · exact absurd h_237 (by decide)
                        · refine xv_il14 fL_areCells_240 ?_
                          refine xv_k fL_areCells_242 ?_
                          refine xv_ic_lt fL_areCells_245 (fun h_245 => ?_) (fun h_245 => ?_)
                          · exact absurd ((nI_ltI (by omega) (by omega)).mp h_245) (by omega)
                          · refine xv_il14 fL_areCells_248 ?_
                            refine xv_k fL_areCells_250 ?_
                            refine xv_ic_gt fL_areCells_253 (fun h_253 => ?_) (fun h_253 => ?_)
                            · exact absurd ((nI_ltI (by omega) (by omega)).mp h_253) (by omega)
                            · refine xv_al1 fL_areCells_256 ?_
                              refine xv_il11 fL_areCells_257 ?_
                              refine xv_ialdN fL_areCells_259 (sx_60 _ _) (⟨by omega, by decide⟩) ?_
                              rw [e60]
                              refine xv_k fL_areCells_260 ?_
                              refine xv_irem fL_areCells_262 (by decide) ?_
                              refine xv_eqi (y := nI s9) (by rw [nI_rem (by omega) (by decide)]; congr 1; omega) ?_
                              refine xv_al4 fL_areCells_263 ?_
                              refine xv_il14 fL_areCells_265 ?_
                              refine xv_k fL_areCells_267 ?_
                              refine xv_isub fL_areCells_270 ?_
                              refine xv_eqi (y := nI (v - 200)) (nI_sub (by omega)) ?_
                              refine xv_ialdN fL_areCells_271 (sx_63 _ _) (⟨by omega, by decide⟩) ?_
                              rw [e63]
                              refine xv_k fL_areCells_272 ?_
                              refine xv_irem fL_areCells_274 (by decide) ?_
                              refine xv_eqi (y := nI sec9) (by rw [nI_rem (by omega) (by decide), q5]) ?_
                              refine xv_ic_eq fL_areCells_275 (fun h_275 => ?_) (fun h_275 => ?_)
                              · refine xv_il14 fL_areCells_288 ?_
                                refine xv_k fL_areCells_290 ?_
                                refine xv_ic_lt fL_areCells_293 (fun h_293 => ?_) (fun h_293 => ?_)
                                · exact absurd ((nI_ltI (by omega) (by omega)).mp h_293) (by omega)
                                · refine xv_il11 fL_areCells_296 ?_
                                  refine xv_k fL_areCells_298 ?_
                                  refine xv_ic_ge fL_areCells_300 (fun h_300 => ?_) (fun h_300 => ?_)
                                  · exact absurd ((nI_leI (by omega) (by omega)).mp h_300) (by omega)
                                  · refine xv_k fL_areCells_303 ?_
                                    refine xv_goto fL_areCells_304 ?_
                                    refine xv_is9 fL_areCells_308 ?_
                                    exact kk _ (hPI.seen hp hk e (j := v - 180) (by omega) (by unfold mk; rw [if_neg (by omega)]; omega))
                              · refine xv_al1 fL_areCells_278 ?_
                                refine xv_il11 fL_areCells_279 ?_
                                refine xv_ialdN fL_areCells_281 (sx_60 _ _) (⟨by omega, by decide⟩) ?_
                                rw [e60]
                                refine xv_k fL_areCells_282 ?_
                                refine xv_irem fL_areCells_284 (by decide) ?_
                                refine xv_eqi (y := nI s9) (by rw [nI_rem (by omega) (by decide)]; congr 1; omega) ?_
                                refine xv_if_ne fL_areCells_285 (fun h_285 => ?_) (fun h_285 => ?_)
                                · exact absurd (q7.elim (fun r => absurd (congrArg nI r) h_275) (fun r => by rw [r]; rfl)) h_285
                                · refine xv_il14 fL_areCells_288 ?_
                                  refine xv_k fL_areCells_290 ?_
                                  refine xv_ic_lt fL_areCells_293 (fun h_293 => ?_) (fun h_293 => ?_)
                                  · exact absurd ((nI_ltI (by omega) (by omega)).mp h_293) (by omega)
                                  · refine xv_il11 fL_areCells_296 ?_
                                    refine xv_k fL_areCells_298 ?_
                                    refine xv_ic_ge fL_areCells_300 (fun h_300 => ?_) (fun h_300 => ?_)
                                    · exact absurd ((nI_leI (by omega) (by omega)).mp h_300) (by omega)
                                    · refine xv_k fL_areCells_303 ?_
                                      refine xv_goto fL_areCells_304 ?_
                                      refine xv_is9 fL_areCells_308 ?_
                                      exact kk _ (hPI.seen hp hk e (j := v - 180) (by omega) (by unfold mk; rw [if_neg (by omega)]; omega))
                      · exact absurd ((nI_leI (by omega) (by omega)).mpr (by omega)) h_213
              · exact absurd ((nI_ltI (by omega) (by omega)).mpr (by omega)) h_157
  · refine xv_il12 fL_areCells_100 ?_
    refine xv_il14 fL_areCells_102 ?_
    refine xv_if_le fL_areCells_104 (fun h_104 => ?_) (fun h_104 => ?_)
    · exact absurd h_104 (nI_nle (by omega) (by omega))
    · refine xv_k fL_areCells_107 ?_
      refine xv_goto fL_areCells_108 ?_
      refine xv_iadd fL_areCells_112 ?_
      refine xv_eqi (y := nI (tkn I p (k + 1))) (by rw [nI_add, htk, tkn, iteP_f (by rw [e]; exact nI_ne0 (by omega) (by omega))]) ?_
      refine xv_is12 fL_areCells_113 ?_
      refine xv_il14 fL_areCells_115 ?_
      refine xv_if_eq fL_areCells_117 (fun h_117 => ?_) (fun h_117 => ?_)
      · exact absurd h_117 (nI_ne0 (by omega) (by omega))
      · refine xv_il14 fL_areCells_120 ?_
        refine xv_k fL_areCells_122 ?_
        refine xv_ic_le fL_areCells_124 (fun h_124 => ?_) (fun h_124 => ?_)
        · exact absurd ((nI_leI (by omega) (by omega)).mp h_124) (by omega)
        · refine xv_il14 fL_areCells_127 ?_
          refine xv_k fL_areCells_129 ?_
          refine xv_al8 fL_areCells_131 ?_
          refine xv_k fL_areCells_133 ?_
          refine xv_ialdN fL_areCells_134 (sx_69 _ _) (⟨by decide, by decide⟩) ?_
          rw [e690]
          refine xv_iadd fL_areCells_135 ?_
          refine xv_eqi (y := nI (100 + c.1)) (nI_add _ _) ?_
          refine xv_ic_lt fL_areCells_136 (fun h_136 => ?_) (fun h_136 => ?_)
          · exact absurd ((nI_ltI (by omega) (by omega)).mp h_136) (by omega)
          · refine xv_il14 fL_areCells_139 ?_
            refine xv_k fL_areCells_141 ?_
            refine xv_ic_le fL_areCells_144 (fun h_144 => ?_) (fun h_144 => ?_)
            · exact absurd ((nI_leI (by omega) (by omega)).mp h_144) (by omega)
            · refine xv_il14 fL_areCells_147 ?_
              refine xv_k fL_areCells_149 ?_
              refine xv_al8 fL_areCells_152 ?_
              refine xv_k fL_areCells_154 ?_
              refine xv_ialdN fL_areCells_155 (sx_69 _ _) (⟨by decide, by decide⟩) ?_
              rw [e691]
              refine xv_iadd fL_areCells_156 ?_
              refine xv_eqi (y := nI (200 + c.2)) (nI_add _ _) ?_
              refine xv_ic_lt fL_areCells_157 (fun h_157 => ?_) (fun h_157 => ?_)
              · exact absurd ((nI_ltI (by omega) (by omega)).mp h_157) (by omega)
              · refine xv_il14 fL_areCells_160 ?_
                refine xv_k fL_areCells_162 ?_
                refine xv_ic_le fL_areCells_165 (fun h_165 => ?_) (fun h_165 => ?_)
                · exact absurd ((nI_leI (by omega) (by omega)).mp h_165) (by omega)
                · refine xv_il14 fL_areCells_168 ?_
                  refine xv_k fL_areCells_170 ?_
                  refine xv_al8 fL_areCells_173 ?_
                  refine xv_k fL_areCells_175 ?_
                  refine xv_ialdN fL_areCells_176 (sx_69 _ _) (⟨by decide, by decide⟩) ?_
                  rw [e691]
                  refine xv_iadd fL_areCells_177 ?_
                  refine xv_eqi (y := nI (300 + c.2)) (nI_add _ _) ?_
                  refine xv_ic_ge fL_areCells_178 (fun h_178 => ?_) (fun h_178 => ?_)
                  · exact absurd ((nI_leI (by omega) (by omega)).mp h_178) (by omega)
                  · refine xv_k fL_areCells_181 ?_
                    refine xv_goto fL_areCells_182 ?_
                    refine xv_is9 fL_areCells_186 ?_
                    refine xv_il9 fL_areCells_188 ?_
                    refine xv_if_eq fL_areCells_190 (fun h_190 => ?_) (fun h_190 => ?_)
                    · exact absurd h_190 (by decide)
                    · refine xv_il14 fL_areCells_193 ?_
                      refine xv_if_le fL_areCells_195 (fun h_195 => ?_) (fun h_195 => ?_)
                      · exact absurd h_195 (nI_nle (by omega) (by omega))
                      · refine xv_il14 fL_areCells_198 ?_
                        refine xv_k fL_areCells_200 ?_
                        refine xv_ic_ge fL_areCells_203 (fun h_203 => ?_) (fun h_203 => ?_)
                        · refine xv_il9 fL_areCells_235 ?_
                          refine xv_if_eq fL_areCells_237 (fun h_237 => ?_) (fun h_237 => ?_)
                          · exact absurd h_237 (by decide)
                          · refine xv_il14 fL_areCells_240 ?_
                            refine xv_k fL_areCells_242 ?_
                            refine xv_ic_lt fL_areCells_245 (fun h_245 => ?_) (fun h_245 => ?_)
                            · exact absurd ((nI_ltI (by omega) (by omega)).mp h_245) (by omega)
                            · refine xv_il14 fL_areCells_248 ?_
                              refine xv_k fL_areCells_250 ?_
                              refine xv_ic_gt fL_areCells_253 (fun h_253 => ?_) (fun h_253 => ?_)
                              · refine xv_il14 fL_areCells_288 ?_
                                refine xv_k fL_areCells_290 ?_
                                refine xv_ic_lt fL_areCells_293 (fun h_293 => ?_) (fun h_293 => ?_)
                                · exact absurd ((nI_ltI (by omega) (by omega)).mp h_293) (by omega)
                                · refine xv_il11 fL_areCells_296 ?_
                                  refine xv_k fL_areCells_298 ?_
                                  refine xv_ic_ge fL_areCells_300 (fun h_300 => ?_) (fun h_300 => ?_)
                                  · exact absurd ((nI_leI (by omega) (by omega)).mp h_300) (by omega)
                                  · refine xv_k fL_areCells_303 ?_
                                    refine xv_goto fL_areCells_304 ?_
                                    refine xv_is9 fL_areCells_308 ?_
                                    exact kk _ (hPI.no hp hk e (Or.inr ⟨by omega, by omega⟩))
                              · exact absurd ((nI_ltI (by omega) (by omega)).mpr (by omega)) h_253
                        · exact absurd ((nI_leI (by omega) (by omega)).mpr (by omega)) h_203

theorem l_ac1 (n : Nat) (c : Nat × Nat) (J : xv_J) {I : xv_I} {D MC MS : Nat} {Q : xv_Q} (hD : 12 ≤ D + 1) {p k0 s0 : Nat} (hp : p < 10) (hM : Mid c I) (kk : ∀ I2 l14, PI I (12 * p + 12) (12 * p + 12) I2 → xv_W mL_areCells D MC MS Q k0 s0 (sx (n + 1000) c) I2 (rx c) J 316 (some (.ref 0) :: some (.ref 60) :: some (.ref 61) :: some (.ref 62) :: some (.ref 63) :: some (.ref 64) :: some (.ref 66) :: some (.ref 67) :: some (.ref 69) :: some (.int (nI 1)) :: some (.ref 70) :: some (.int (nI p)) :: some (.int (nI (tkn I p 12))) :: some (.int (nI 12)) :: l14 :: []) []) : ∀ (mm k tk kc ks : Nat) (I2 : xv_I) (l14 : Option Value), k + mm = 12 → PI I (12 * p + k) (12 * p + k) I2 → tk = tkn I p k → k0 + 16 * mm ≤ kc → s0 + 128 * mm ≤ ks → xv_W mL_areCells D MC MS Q kc ks (sx (n + 1000) c) I2 (rx c) J 30 (some (.ref 0) :: some (.ref 60) :: some (.ref 61) :: some (.ref 62) :: some (.ref 63) :: some (.ref 64) :: some (.ref 66) :: some (.ref 67) :: some (.ref 69) :: some (.int (nI 1)) :: some (.ref 70) :: some (.int (nI p)) :: some (.int (nI tk)) :: some (.int (nI k)) :: l14 :: []) [] := by
  intro mm
  induction mm with
  | zero =>
    intro k tk kc ks I2 l14 hm hPI htk hkc hks
    obtain rfl : k = 12 := by omega
    subst htk
    show xv_W mL_areCells D MC MS _ kc ks (sx (n + 1000) c) I2 (rx c) J 30 (some (.ref 0) :: some (.ref 60) :: some (.ref 61) :: some (.ref 62) :: some (.ref 63) :: some (.ref 64) :: some (.ref 66) :: some (.ref 67) :: some (.ref 69) :: some (.int (nI 1)) :: some (.ref 70) :: some (.int (nI p)) :: some (.int (nI (tkn I p 12))) :: some (.int (nI 12)) :: l14 :: []) []
    refine xv_il13 fL_areCells_30 ?_
    refine xv_k fL_areCells_32 ?_
    refine xv_ic_ge fL_areCells_34 (fun h_34 => ?_) (fun h_34 => ?_)
    · exact xv_less (by omega) (by omega) (kk _ _ hPI)
    · exact absurd (by decide) h_34
  | succ mm ih =>
    intro k tk kc ks I2 l14 hm hPI htk hkc hks
    have hk : k < 12 := by omega
    obtain ⟨v, hok, h7, e⟩ := hM.1.2.1 p hp k hk
    have e2 : I2 (3 + p) k = nI v := (hPI.1 _ _ (by omega) (by omega) (by omega) (by omega) (by omega)).trans e
    have e3 : cE I2 p k = cE I p k := (hPI.2.1 p hp k hk).2 (Nat.le_refl _)
    show xv_W mL_areCells D MC MS _ kc ks (sx (n + 1000) c) I2 (rx c) J 30 (some (.ref 0) :: some (.ref 60) :: some (.ref 61) :: some (.ref 62) :: some (.ref 63) :: some (.ref 64) :: some (.ref 66) :: some (.ref 67) :: some (.ref 69) :: some (.int (nI 1)) :: some (.ref 70) :: some (.int (nI p)) :: some (.int (nI tk)) :: some (.int (nI k)) :: l14 :: []) []
    refine xv_il13 fL_areCells_30 ?_
    refine xv_k fL_areCells_32 ?_
    refine xv_ic_ge fL_areCells_34 (fun h_34 => ?_) (fun h_34 => ?_)
    · exact absurd h_34 (nI_ge hk (by decide))
    · refine xv_il9 fL_areCells_37 ?_
      refine xv_if_eq fL_areCells_39 (fun h_39 => ?_) (fun h_39 => ?_)
      · exact absurd h_39 (by decide)
      · refine xv_al0 fL_areCells_42 ?_
        refine xv_il11 fL_areCells_43 ?_
        refine xv_il13 fL_areCells_45 ?_
        refine xv_callV2R (p_cell_ok (n + 1000) c I2 J hp hk) fL_areCells_47 YX10_cell VX10_cell lL_14 rfl rfl (sx_0 _ _) (Nat.le_of_ble_eq_true rfl) (by omega) (by omega) (by omega) ?_
        rw [e2]
        refine xv_is14 fL_areCells_50 ?_
        refine xv_il14 fL_areCells_52 ?_
        refine xv_al6 fL_areCells_54 ?_
        refine xv_al7 fL_areCells_56 ?_
        refine xv_il11 fL_areCells_58 ?_
        refine xv_il13 fL_areCells_60 ?_
        refine xv_callS4R (c_cell (n + 1000) c I2 J hp hk) fL_areCells_62 YL_cell VL_cell lL_96 rfl (Nat.le_of_ble_eq_true rfl) (by omega) (by omega) (by omega) ?_
        rw [e3]
        refine xv_ic_eq fL_areCells_65 (fun h_65 => ?_) (fun h_65 => ?_)
        · refine l_acT n c J hD hp hk (hPI.keep hp hk (e.trans h_65)) e hok h7 hM.1 htk (fun I3 hI3 => ?_)
          refine xv_iincN13 (a := 1) fL_areCells_310 (by decide) ?_
          refine xv_goto fL_areCells_313 ?_
          exact ih (k + 1) _ _ _ _ _ (by omega) hI3 rfl (by omega) (by omega)
        · refine xv_al8 fL_areCells_68 ?_
          refine xv_k fL_areCells_70 ?_
          refine xv_dup2 fL_areCells_71 ?_
          refine xv_ialdN fL_areCells_72 (sx_69 _ _) (⟨by decide, by decide⟩) ?_
          refine xv_k fL_areCells_73 ?_
          refine xv_il11 fL_areCells_74 ?_
          refine xv_k fL_areCells_76 ?_
          refine xv_idiv fL_areCells_77 (by decide) ?_
          refine xv_eqi (y := nI (p / 2)) (nI_div (by omega) (by decide)) ?_
          refine xv_ishl fL_areCells_78 ?_
          refine xv_eqi (y := nI (2 ^ (p / 2))) (sh1 _ (by omega)) ?_
          refine xv_ior fL_areCells_79 ?_
          refine xv_iastN fL_areCells_80 (sx_69 _ _) (⟨by decide, by decide⟩) ?_
          refine xv_al5 fL_areCells_81 ?_
          refine xv_il11 fL_areCells_83 ?_
          refine xv_k fL_areCells_85 ?_
          refine xv_iastN fL_areCells_86 (sx_64 _ _) (⟨by omega, by decide⟩) ?_
          refine xv_al6 fL_areCells_87 ?_
          refine xv_al7 fL_areCells_89 ?_
          refine xv_il11 fL_areCells_91 ?_
          refine xv_il13 fL_areCells_93 ?_
          refine xv_il14 fL_areCells_95 ?_
          refine xv_callS5V (c_puts (n + 1000) c _ J hp hk) fL_areCells_97 YL_puts VL_puts lL_99 rfl (Nat.le_of_ble_eq_true rfl) (by omega) (by omega) (by omega) ?_
          refine l_acT n c J hD hp hk (by
            have r := hPI.wr hp hk (fun q => h_65 (e.symm.trans q))
            rw [e] at r
            exact r) e hok h7 hM.1 htk (fun I3 hI3 => ?_)
          refine xv_iincN13 (a := 1) fL_areCells_310 (by decide) ?_
          refine xv_goto fL_areCells_313 ?_
          exact ih (k + 1) _ _ _ _ _ (by omega) hI3 rfl (by omega) (by omega)

set_option maxRecDepth 20000 in
theorem l_ac2 (n : Nat) (c : Nat × Nat) (J : xv_J) {I : xv_I} {D MC MS : Nat} {Q : xv_Q} (hD : 12 ≤ D + 1) {k0 s0 : Nat} (hM : Mid c I) (kk : ∀ I2 l12 l13 l14, PI I 120 120 I2 → xv_W mL_areCells D MC MS Q k0 s0 (sx (n + 1000) c) I2 (rx c) J 380 (some (.ref 0) :: some (.ref 60) :: some (.ref 61) :: some (.ref 62) :: some (.ref 63) :: some (.ref 64) :: some (.ref 66) :: some (.ref 67) :: some (.ref 69) :: some (.int (nI 1)) :: some (.ref 70) :: some (.int (nI 10)) :: l12 :: l13 :: l14 :: []) []) : ∀ (mm p kc ks : Nat) (I2 : xv_I) (l12 l13 l14 : Option Value), p + mm = 10 → PI I (12 * p) (12 * p) I2 → k0 + 208 * mm ≤ kc → s0 + 1664 * mm ≤ ks → xv_W mL_areCells D MC MS Q kc ks (sx (n + 1000) c) I2 (rx c) J 12 (some (.ref 0) :: some (.ref 60) :: some (.ref 61) :: some (.ref 62) :: some (.ref 63) :: some (.ref 64) :: some (.ref 66) :: some (.ref 67) :: some (.ref 69) :: some (.int (nI 1)) :: some (.ref 70) :: some (.int (nI p)) :: l12 :: l13 :: l14 :: []) [] := by
  intro mm
  induction mm with
  | zero =>
    intro p kc ks I2 l12 l13 l14 hm hPI hkc hks
    obtain rfl : p = 10 := by omega
    show xv_W mL_areCells D MC MS _ kc ks (sx (n + 1000) c) I2 (rx c) J 12 (some (.ref 0) :: some (.ref 60) :: some (.ref 61) :: some (.ref 62) :: some (.ref 63) :: some (.ref 64) :: some (.ref 66) :: some (.ref 67) :: some (.ref 69) :: some (.int (nI 1)) :: some (.ref 70) :: some (.int (nI 10)) :: l12 :: l13 :: l14 :: []) []
    refine xv_il11 fL_areCells_12 ?_
    refine xv_k fL_areCells_14 ?_
    refine xv_ic_ge fL_areCells_16 (fun h_16 => ?_) (fun h_16 => ?_)
    · exact xv_less (by omega) (by omega) (kk _ _ _ _ hPI)
    · exact absurd (by decide) h_16
  | succ mm ih =>
    intro p kc ks I2 l12 l13 l14 hm hPI hkc hks
    have hp : p < 10 := by omega
    show xv_W mL_areCells D MC MS _ kc ks (sx (n + 1000) c) I2 (rx c) J 12 (some (.ref 0) :: some (.ref 60) :: some (.ref 61) :: some (.ref 62) :: some (.ref 63) :: some (.ref 64) :: some (.ref 66) :: some (.ref 67) :: some (.ref 69) :: some (.int (nI 1)) :: some (.ref 70) :: some (.int (nI p)) :: l12 :: l13 :: l14 :: []) []
    refine xv_il11 fL_areCells_12 ?_
    refine xv_k fL_areCells_14 ?_
    refine xv_ic_ge fL_areCells_16 (fun h_16 => ?_) (fun h_16 => ?_)
    · exact absurd h_16 (nI_ge hp (by decide))
    · refine xv_il9 fL_areCells_19 ?_
      refine xv_if_eq fL_areCells_21 (fun h_21 => ?_) (fun h_21 => ?_)
      · exact absurd h_21 (by decide)
      · refine xv_k fL_areCells_24 ?_
        refine xv_is12 fL_areCells_25 ?_
        refine xv_k fL_areCells_27 ?_
        refine xv_is13 fL_areCells_28 ?_
        refine l_ac1 n c J hD (k0 := k0 + 208 * mm + 16) (s0 := s0 + 1664 * mm + 128) hp hM (fun I3 l14 hI3 => ?_) 12 0 0 kc ks I2 l14 rfl hPI rfl (by omega) (by omega)
        obtain ⟨b9, hb, e15, e64⟩ := hI3.sig hM hp
        obtain ⟨bh, hbh, r16, r64, _⟩ := hM.1.2.2.1 p hp
        obtain e16 : I3 16 p = nI bh := (hI3.1 16 p (by decide) (by decide) (by decide) (by omega) (by omega)).trans r16
        obtain eH : I3 64 (10 + p) = nI bh := (hI3.1 64 _ (by decide) (by decide) (by decide) (by omega) (by omega)).trans r64
        obtain eC : ∀ k, k < 12 → I3 (3 + p) k = I (3 + p) k := fun k hk => hI3.1 _ _ (by omega) (by omega) (by omega) (by omega) (by omega)
        obtain ht0 := tkn_0 I p 12
        obtain htl := tkn_le I p 12
        obtain hpl := pop_le b9
        refine xv_al5 fL_areCells_316 ?_
        refine xv_k fL_areCells_318 ?_
        refine xv_il11 fL_areCells_320 ?_
        refine xv_iadd fL_areCells_322 ?_
        refine xv_eqi (y := nI (10 + p)) (nI_add _ _) ?_
        refine xv_ialdN fL_areCells_323 (sx_64 _ _) (⟨by omega, by decide⟩) ?_
        rw [eH]
        refine xv_if_ne fL_areCells_324 (fun h_324 => ?_) (fun h_324 => ?_)
        · refine xv_k fL_areCells_348 ?_
          refine xv_is13 fL_areCells_349 ?_
          refine xv_il9 fL_areCells_351 ?_
          refine xv_if_eq fL_areCells_353 (fun h_353 => ?_) (fun h_353 => ?_)
          · exact absurd h_353 (by decide)
          · refine xv_al0 fL_areCells_356 ?_
            refine xv_il11 fL_areCells_357 ?_
            refine xv_callV1R (p_isReady_ok (n + 1000) c I3 J hp) fL_areCells_359 YX10_isReady VX10_isReady lL_64 rfl rfl (sx_0 _ _) (Nat.le_of_ble_eq_true rfl) (by omega) (by omega) (by omega) ?_
            rw [bi_f (fun q => h_324 (e16.symm.trans q.1))]
            refine xv_il13 fL_areCells_362 ?_
            refine xv_ic_ne fL_areCells_364 (fun h_364 => ?_) (fun h_364 => ?_)
            · exact absurd rfl h_364
            · refine xv_k fL_areCells_367 ?_
              refine xv_goto fL_areCells_368 ?_
              refine xv_is9 fL_areCells_372 ?_
              refine xv_iincN11 (a := 1) fL_areCells_374 (by decide) ?_
              refine xv_goto fL_areCells_377 ?_
              exact ih (p + 1) _ _ _ _ _ _ (by omega) (by rw [Nat.mul_succ]; exact hI3) (by omega) (by omega)
        · refine xv_il12 fL_areCells_327 ?_
          refine xv_if_eq fL_areCells_329 (fun h_329 => ?_) (fun h_329 => ?_)
          · refine xv_k fL_areCells_344 ?_
            refine xv_goto fL_areCells_345 ?_
            refine xv_is13 fL_areCells_349 ?_
            refine xv_il9 fL_areCells_351 ?_
            refine xv_if_eq fL_areCells_353 (fun h_353 => ?_) (fun h_353 => ?_)
            · exact absurd h_353 (by decide)
            · refine xv_al0 fL_areCells_356 ?_
              refine xv_il11 fL_areCells_357 ?_
              refine xv_callV1R (p_isReady_ok (n + 1000) c I3 J hp) fL_areCells_359 YX10_isReady VX10_isReady lL_64 rfl rfl (sx_0 _ _) (Nat.le_of_ble_eq_true rfl) (by omega) (by omega) (by omega) ?_
              rw [bi_t ⟨e16.trans h_324, Or.inl (fun k hk => (eC k hk).trans (ht0.mp (Classical.byContradiction fun z => nI_ne0 (Nat.pos_of_ne_zero z) (by omega) h_329) k hk))⟩]
              refine xv_il13 fL_areCells_362 ?_
              refine xv_ic_ne fL_areCells_364 (fun h_364 => ?_) (fun h_364 => ?_)
              · exact absurd rfl h_364
              · refine xv_k fL_areCells_367 ?_
                refine xv_goto fL_areCells_368 ?_
                refine xv_is9 fL_areCells_372 ?_
                refine xv_iincN11 (a := 1) fL_areCells_374 (by decide) ?_
                refine xv_goto fL_areCells_377 ?_
                exact ih (p + 1) _ _ _ _ _ _ (by omega) (by rw [Nat.mul_succ]; exact hI3) (by omega) (by omega)
          · refine xv_al5 fL_areCells_332 ?_
            refine xv_il11 fL_areCells_334 ?_
            refine xv_ialdN fL_areCells_336 (sx_64 _ _) (⟨by omega, by decide⟩) ?_
            rw [e64]
            refine xv_callS1R (c_count (n + 1000) c I3 J) fL_areCells_337 YL_count VL_count lL_103 rfl (Nat.le_of_ble_eq_true rfl) (by omega) (by omega) (by omega) ?_
            rw [xCn_n b9 hb]
            refine xv_k fL_areCells_340 ?_
            refine xv_ic_le fL_areCells_341 (fun h_341 => ?_) (fun h_341 => ?_)
            · refine xv_k fL_areCells_348 ?_
              refine xv_is13 fL_areCells_349 ?_
              refine xv_il9 fL_areCells_351 ?_
              refine xv_if_eq fL_areCells_353 (fun h_353 => ?_) (fun h_353 => ?_)
              · exact absurd h_353 (by decide)
              · refine xv_al0 fL_areCells_356 ?_
                refine xv_il11 fL_areCells_357 ?_
                refine xv_callV1R (p_isReady_ok (n + 1000) c I3 J hp) fL_areCells_359 YX10_isReady VX10_isReady lL_64 rfl rfl (sx_0 _ _) (Nat.le_of_ble_eq_true rfl) (by omega) (by omega) (by omega) ?_
                rw [bi_f (fun q => q.2.elim (fun z => h_329 (by rw [ht0.mpr (fun k hk => (eC k hk).symm.trans (z k hk))]; rfl)) (fun z => z (by rw [e15, xBC_n b9 hb]; exact nI_lt (by have := (nI_leI (by omega) (by decide)).mp h_341; omega) (by decide))))]
                refine xv_il13 fL_areCells_362 ?_
                refine xv_ic_ne fL_areCells_364 (fun h_364 => ?_) (fun h_364 => ?_)
                · exact absurd rfl h_364
                · refine xv_k fL_areCells_367 ?_
                  refine xv_goto fL_areCells_368 ?_
                  refine xv_is9 fL_areCells_372 ?_
                  refine xv_iincN11 (a := 1) fL_areCells_374 (by decide) ?_
                  refine xv_goto fL_areCells_377 ?_
                  exact ih (p + 1) _ _ _ _ _ _ (by omega) (by rw [Nat.mul_succ]; exact hI3) (by omega) (by omega)
            · refine xv_k fL_areCells_344 ?_
              refine xv_goto fL_areCells_345 ?_
              refine xv_is13 fL_areCells_349 ?_
              refine xv_il9 fL_areCells_351 ?_
              refine xv_if_eq fL_areCells_353 (fun h_353 => ?_) (fun h_353 => ?_)
              · exact absurd h_353 (by decide)
              · refine xv_al0 fL_areCells_356 ?_
                refine xv_il11 fL_areCells_357 ?_
                refine xv_callV1R (p_isReady_ok (n + 1000) c I3 J hp) fL_areCells_359 YX10_isReady VX10_isReady lL_64 rfl rfl (sx_0 _ _) (Nat.le_of_ble_eq_true rfl) (by omega) (by omega) (by omega) ?_
                rw [bi_t ⟨e16.trans h_324, Or.inr (fun z => h_341 (by rw [e15, xBC_n b9 hb] at z; exact nI_le (by have := (nI_ltI (by omega) (by decide)).mp z; omega) (by decide)))⟩]
                refine xv_il13 fL_areCells_362 ?_
                refine xv_ic_ne fL_areCells_364 (fun h_364 => ?_) (fun h_364 => ?_)
                · exact absurd rfl h_364
                · refine xv_k fL_areCells_367 ?_
                  refine xv_goto fL_areCells_368 ?_
                  refine xv_is9 fL_areCells_372 ?_
                  refine xv_iincN11 (a := 1) fL_areCells_374 (by decide) ?_
                  refine xv_goto fL_areCells_377 ?_
                  exact ih (p + 1) _ _ _ _ _ _ (by omega) (by rw [Nat.mul_succ]; exact hI3) (by omega) (by omega)

theorem l_ac3 (n : Nat) (c : Nat × Nat) (J : xv_J) {I : xv_I} {D MC MS : Nat} {Q : xv_Q} (hD : 12 ≤ D + 1) (hM : Mid c I) {K : xv_I} (hPI : PI I 120 120 K) {kc ks : Nat} {l12 l13 l14 : Option Value} (kk : xv_W mL_areCells D MC MS Q kc ks (sx (n + 1000) c) K (rx c) J 486 (some (.ref 0) :: some (.ref 60) :: some (.ref 61) :: some (.ref 62) :: some (.ref 63) :: some (.ref 64) :: some (.ref 66) :: some (.ref 67) :: some (.ref 69) :: some (.int (nI 1)) :: some (.ref 70) :: some (.int (nI c.1)) :: l12 :: l13 :: l14 :: []) []) : ∀ (mm k : Nat), k + mm = c.1 → xv_W mL_areCells D MC MS Q kc ks (sx (n + 1000) c) K (rx c) J 383 (some (.ref 0) :: some (.ref 60) :: some (.ref 61) :: some (.ref 62) :: some (.ref 63) :: some (.ref 64) :: some (.ref 66) :: some (.ref 67) :: some (.ref 69) :: some (.int (nI 1)) :: some (.ref 70) :: some (.int (nI k)) :: l12 :: l13 :: l14 :: []) [] := by
  intro mm
  induction mm with
  | zero =>
    intro k hm
    obtain rfl : k = c.1 := by omega
    have hn9 := hM.1.2.2.2.2.2.1.2.2.1
    have e690 : K 69 0 = nI c.1 := (hPI.1 69 0 (by decide) (by decide) (by decide) (by omega) (by omega)).trans hM.1.2.2.2.2.2.1.2.1
    show xv_W mL_areCells D MC MS _ kc ks (sx (n + 1000) c) K (rx c) J 383 (some (.ref 0) :: some (.ref 60) :: some (.ref 61) :: some (.ref 62) :: some (.ref 63) :: some (.ref 64) :: some (.ref 66) :: some (.ref 67) :: some (.ref 69) :: some (.int (nI 1)) :: some (.ref 70) :: some (.int (nI c.1)) :: l12 :: l13 :: l14 :: []) []
    refine xv_il11 fL_areCells_383 ?_
    refine xv_al8 fL_areCells_385 ?_
    refine xv_k fL_areCells_387 ?_
    refine xv_ialdN fL_areCells_388 (sx_69 _ _) (⟨by decide, by decide⟩) ?_
    rw [e690]
    refine xv_ic_ge fL_areCells_389 (fun h_389 => ?_) (fun h_389 => ?_)
    · exact kk
    · exact absurd (nI_le (Nat.le_refl _) (by omega)) h_389
  | succ mm ih =>
    intro k hm
    have hk : k < c.1 := by omega
    have hn9 := hM.1.2.2.2.2.2.1.2.2.1
    have e690 : K 69 0 = nI c.1 := (hPI.1 69 0 (by decide) (by decide) (by decide) (by omega) (by omega)).trans hM.1.2.2.2.2.2.1.2.1
    obtain ⟨ct, w, h9, col, sec, zo, a1, a2, a3, a4, a5, a6, a7, a8, a9, b1, b2, b3, b4, b5⟩ := hM.1.2.2.2.2.2.1.2.2.2 k hk
    obtain ⟨x0, x1, x2, x3, x4, x5, x6⟩ := adv_lt a1 a2.2 a3.2 a4 a5 a6
    have e61 : K 61 k = nI (adv ct w h9 col sec zo) := (hPI.1 61 k (by decide) (by decide) (by decide) (by omega) (by omega)).trans b4
    have e62 : K 62 k = I 62 k := hPI.1 62 k (by decide) (by decide) (by decide) (by omega) (by omega)
    have e70 := hPI.2.2.2.2 k (by omega)
    have hmk : mk k = 100 + k := by unfold mk; rw [if_pos (by omega)]
    have hwh : w * h9 < 13 := Nat.lt_of_le_of_lt (Nat.mul_le_mul a2.2 a3.2) (by decide)
    show xv_W mL_areCells D MC MS _ kc ks (sx (n + 1000) c) K (rx c) J 383 (some (.ref 0) :: some (.ref 60) :: some (.ref 61) :: some (.ref 62) :: some (.ref 63) :: some (.ref 64) :: some (.ref 66) :: some (.ref 67) :: some (.ref 69) :: some (.int (nI 1)) :: some (.ref 70) :: some (.int (nI k)) :: l12 :: l13 :: l14 :: []) []
    rcases b5 with ⟨d1, d2, d3⟩ | ⟨p, f, d1, d2, d3, d4, d5, d6, d7⟩
    · obtain ec : K 70 k = nI 0 := by rw [e70, cnt_none (by rw [hmk]; exact d3)]
      refine xv_il11 fL_areCells_383 ?_
      refine xv_al8 fL_areCells_385 ?_
      refine xv_k fL_areCells_387 ?_
      refine xv_ialdN fL_areCells_388 (sx_69 _ _) (⟨by decide, by decide⟩) ?_
      rw [e690]
      refine xv_ic_ge fL_areCells_389 (fun h_389 => ?_) (fun h_389 => ?_)
      · exact absurd h_389 (nI_ge hk (by omega))
      · refine xv_il9 fL_areCells_392 ?_
        refine xv_if_eq fL_areCells_394 (fun h_394 => ?_) (fun h_394 => ?_)
        · exact absurd h_394 (by decide)
        · refine xv_al10 fL_areCells_397 ?_
          refine xv_il11 fL_areCells_399 ?_
          refine xv_ialdN fL_areCells_401 (sx_70 _ _) (⟨by omega, by decide⟩) ?_
          rw [ec]
          refine xv_al3 fL_areCells_402 ?_
          refine xv_il11 fL_areCells_403 ?_
          refine xv_ialdN fL_areCells_405 (sx_62 _ _) (⟨by omega, by decide⟩) ?_
          rw [e62, d2]
          refine xv_if_ge fL_areCells_406 (fun h_406 => ?_) (fun h_406 => ?_)
          · exact absurd h_406 (by decide)
          · refine xv_k fL_areCells_409 ?_
            refine xv_goto fL_areCells_410 ?_
            refine xv_ic_ne fL_areCells_434 (fun h_434 => ?_) (fun h_434 => ?_)
            · exact absurd rfl h_434
            · refine xv_al3 fL_areCells_437 ?_
              refine xv_il11 fL_areCells_438 ?_
              refine xv_ialdN fL_areCells_440 (sx_62 _ _) (⟨by omega, by decide⟩) ?_
              rw [e62, d2]
              refine xv_if_lt fL_areCells_441 (fun h_441 => ?_) (fun h_441 => ?_)
              · refine xv_k fL_areCells_473 ?_
                refine xv_goto fL_areCells_474 ?_
                refine xv_is9 fL_areCells_478 ?_
                refine xv_iincN11 (a := 1) fL_areCells_480 (by decide) ?_
                refine xv_goto fL_areCells_483 ?_
                exact ih (k + 1) (by omega)
              · exact absurd (by decide) h_441
    · obtain ec : K 70 k = nI (w * h9) := by rw [e70, cnt_rect d1 d2 d3 a2.1 a3.1 (by rw [hmk]; exact d7)]
      obtain eq : cE K p f = nI (100 + k) := ((hPI.2.1 p d1 f (by omega)).1 (by omega)).trans ((d7 p d1 f (by omega)).mpr ⟨rfl, 0, 0, by omega, by omega, rfl⟩)
      refine xv_il11 fL_areCells_383 ?_
      refine xv_al8 fL_areCells_385 ?_
      refine xv_k fL_areCells_387 ?_
      refine xv_ialdN fL_areCells_388 (sx_69 _ _) (⟨by decide, by decide⟩) ?_
      rw [e690]
      refine xv_ic_ge fL_areCells_389 (fun h_389 => ?_) (fun h_389 => ?_)
      · exact absurd h_389 (nI_ge hk (by omega))
      · refine xv_il9 fL_areCells_392 ?_
        refine xv_if_eq fL_areCells_394 (fun h_394 => ?_) (fun h_394 => ?_)
        · exact absurd h_394 (by decide)
        · refine xv_al10 fL_areCells_397 ?_
          refine xv_il11 fL_areCells_399 ?_
          refine xv_ialdN fL_areCells_401 (sx_70 _ _) (⟨by omega, by decide⟩) ?_
          rw [ec]
          refine xv_al3 fL_areCells_402 ?_
          refine xv_il11 fL_areCells_403 ?_
          refine xv_ialdN fL_areCells_405 (sx_62 _ _) (⟨by omega, by decide⟩) ?_
          rw [e62, d6]
          refine xv_if_ge fL_areCells_406 (fun h_406 => ?_) (fun h_406 => ?_)
          · refine xv_al2 fL_areCells_413 ?_
            refine xv_il11 fL_areCells_414 ?_
            refine xv_ialdN fL_areCells_416 (sx_61 _ _) (⟨by omega, by decide⟩) ?_
            rw [e61]
            refine xv_k fL_areCells_417 ?_
            refine xv_idiv fL_areCells_419 (by decide) ?_
            refine xv_eqi (y := nI (adv ct w h9 col sec zo / 10)) (nI_div x0 (by decide)) ?_
            refine xv_k fL_areCells_420 ?_
            refine xv_irem fL_areCells_422 (by decide) ?_
            refine xv_eqi (y := nI w) (by rw [nI_rem (by omega) (by decide), x2]) ?_
            refine xv_al2 fL_areCells_423 ?_
            refine xv_il11 fL_areCells_424 ?_
            refine xv_ialdN fL_areCells_426 (sx_61 _ _) (⟨by omega, by decide⟩) ?_
            rw [e61]
            refine xv_k fL_areCells_427 ?_
            refine xv_idiv fL_areCells_429 (by decide) ?_
            refine xv_eqi (y := nI (adv ct w h9 col sec zo / 100)) (nI_div x0 (by decide)) ?_
            refine xv_k fL_areCells_430 ?_
            refine xv_irem fL_areCells_432 (by decide) ?_
            refine xv_eqi (y := nI h9) (by rw [nI_rem (by omega) (by decide), x3]) ?_
            refine xv_imul fL_areCells_433 ?_
            refine xv_eqi (y := nI (w * h9)) (nI_mul _ _) ?_
            refine xv_ic_ne fL_areCells_434 (fun h_434 => ?_) (fun h_434 => ?_)
            · exact absurd rfl h_434
            · refine xv_al3 fL_areCells_437 ?_
              refine xv_il11 fL_areCells_438 ?_
              refine xv_ialdN fL_areCells_440 (sx_62 _ _) (⟨by omega, by decide⟩) ?_
              rw [e62, d6]
              refine xv_if_lt fL_areCells_441 (fun h_441 => ?_) (fun h_441 => ?_)
              · exact absurd h_441 (nI_pos (by omega))
              · refine xv_al6 fL_areCells_444 ?_
                refine xv_al7 fL_areCells_446 ?_
                refine xv_al3 fL_areCells_448 ?_
                refine xv_il11 fL_areCells_449 ?_
                refine xv_ialdN fL_areCells_451 (sx_62 _ _) (⟨by omega, by decide⟩) ?_
                rw [e62, d6]
                refine xv_k fL_areCells_452 ?_
                refine xv_idiv fL_areCells_454 (by decide) ?_
                refine xv_eqi (y := nI p) (by rw [nI_div (by omega) (by decide)]; congr 1; omega) ?_
                refine xv_al3 fL_areCells_455 ?_
                refine xv_il11 fL_areCells_456 ?_
                refine xv_ialdN fL_areCells_458 (sx_62 _ _) (⟨by omega, by decide⟩) ?_
                rw [e62, d6]
                refine xv_k fL_areCells_459 ?_
                refine xv_irem fL_areCells_461 (by decide) ?_
                refine xv_eqi (y := nI f) (by rw [nI_rem (by omega) (by decide)]; congr 1; omega) ?_
                refine xv_callS4R (c_cell (n + 1000) c K J d1 (k := f) (by omega)) fL_areCells_462 YL_cell VL_cell lL_96 rfl (Nat.le_of_ble_eq_true rfl) (by omega) (by omega) (by omega) ?_
                rw [eq]
                refine xv_k fL_areCells_465 ?_
                refine xv_il11 fL_areCells_467 ?_
                refine xv_iadd fL_areCells_469 ?_
                refine xv_eqi (y := nI (100 + k)) (nI_add _ _) ?_
                refine xv_ic_ne fL_areCells_470 (fun h_470 => ?_) (fun h_470 => ?_)
                · exact absurd rfl h_470
                · refine xv_k fL_areCells_473 ?_
                  refine xv_goto fL_areCells_474 ?_
                  refine xv_is9 fL_areCells_478 ?_
                  refine xv_iincN11 (a := 1) fL_areCells_480 (by decide) ?_
                  refine xv_goto fL_areCells_483 ?_
                  exact ih (k + 1) (by omega)
          · exact absurd (nI_pos' (by omega)) h_406

theorem l_ac4 (n : Nat) (c : Nat × Nat) (J : xv_J) {I : xv_I} {D MC MS : Nat} {Q : xv_Q} (hD : 12 ≤ D + 1) (hM : Mid c I) {K : xv_I} (hPI : PI I 120 120 K) {k0 s0 : Nat} (kk : ∀ l12 l13 l14, xv_W mL_areCells D MC MS Q k0 s0 (sx (n + 1000) c) K (rx c) J 722 (some (.ref 0) :: some (.ref 60) :: some (.ref 61) :: some (.ref 62) :: some (.ref 63) :: some (.ref 64) :: some (.ref 66) :: some (.ref 67) :: some (.ref 69) :: some (.int (nI 1)) :: some (.ref 70) :: some (.int (nI c.2)) :: l12 :: l13 :: l14 :: []) []) : ∀ (mm k kc ks : Nat) (l12 l13 l14 : Option Value), k + mm = c.2 → k0 + 32 * mm ≤ kc → s0 + 256 * mm ≤ ks → xv_W mL_areCells D MC MS Q kc ks (sx (n + 1000) c) K (rx c) J 489 (some (.ref 0) :: some (.ref 60) :: some (.ref 61) :: some (.ref 62) :: some (.ref 63) :: some (.ref 64) :: some (.ref 66) :: some (.ref 67) :: some (.ref 69) :: some (.int (nI 1)) :: some (.ref 70) :: some (.int (nI k)) :: l12 :: l13 :: l14 :: []) [] := by
  intro mm
  induction mm with
  | zero =>
    intro k kc ks l12 l13 l14 hm hkc hks
    obtain rfl : k = c.2 := by omega
    have hn8 := hM.1.2.2.2.2.2.2.1.2.2.1
    have e691 : K 69 1 = nI c.2 := (hPI.1 69 1 (by decide) (by decide) (by decide) (by omega) (by omega)).trans hM.1.2.2.2.2.2.2.1.2.1
    show xv_W mL_areCells D MC MS _ kc ks (sx (n + 1000) c) K (rx c) J 489 (some (.ref 0) :: some (.ref 60) :: some (.ref 61) :: some (.ref 62) :: some (.ref 63) :: some (.ref 64) :: some (.ref 66) :: some (.ref 67) :: some (.ref 69) :: some (.int (nI 1)) :: some (.ref 70) :: some (.int (nI c.2)) :: l12 :: l13 :: l14 :: []) []
    refine xv_il11 fL_areCells_489 ?_
    refine xv_al8 fL_areCells_491 ?_
    refine xv_k fL_areCells_493 ?_
    refine xv_ialdN fL_areCells_494 (sx_69 _ _) (⟨by decide, by decide⟩) ?_
    rw [e691]
    refine xv_ic_ge fL_areCells_495 (fun h_495 => ?_) (fun h_495 => ?_)
    · exact xv_less (by omega) (by omega) (kk _ _ _)
    · exact absurd (nI_le (Nat.le_refl _) (by omega)) h_495
  | succ mm ih =>
    intro k kc ks l12 l13 l14 hm hkc hks
    have hk : k < c.2 := by omega
    have hn8 := hM.1.2.2.2.2.2.2.1.2.2.1
    have e691 : K 69 1 = nI c.2 := (hPI.1 69 1 (by decide) (by decide) (by decide) (by omega) (by omega)).trans hM.1.2.2.2.2.2.2.1.2.1
    obtain ⟨sec, d, np, lo, sh, a1, a2, a3, a4, a5, a6, a7, a8, a9, b1, b2, b3, b4, b5, b6⟩ := hM.1.2.2.2.2.2.2.1.2.2.2 k hk
    have e63 : K 63 k = nI (sec + 10 * sh + 1000 * d) := (hPI.1 63 k (by decide) (by decide) (by decide) (by omega) (by omega)).trans b5
    have eO : ∀ v j, 201 ≤ v → K v j = I v j := fun v j hv => hPI.1 v j (by omega) (by omega) (by omega) (by omega) (by omega)
    have e70 := hPI.2.2.2.2 (20 + k) (by omega)
    have hmk : mk (20 + k) = 200 + k := by unfold mk; rw [if_neg (by omega)]; omega
    show xv_W mL_areCells D MC MS _ kc ks (sx (n + 1000) c) K (rx c) J 489 (some (.ref 0) :: some (.ref 60) :: some (.ref 61) :: some (.ref 62) :: some (.ref 63) :: some (.ref 64) :: some (.ref 66) :: some (.ref 67) :: some (.ref 69) :: some (.int (nI 1)) :: some (.ref 70) :: some (.int (nI k)) :: l12 :: l13 :: l14 :: []) []
    rcases b6 with ⟨d1, d2, d3⟩ | ⟨d1, pg, st, sz, d2, d3, d4, d5, d6, d7, d8, d9⟩
    · obtain ec : K 70 (20 + k) = nI 0 := by rw [e70, cnt_none (by rw [hmk]; exact d3)]
      obtain hW : xWy K (201 + 5 * k) (fun _ => 0) (fun _ => 0) (fun _ => 0) := fun i hi => ⟨(eO _ _ (by omega)).trans (d2 i hi), Nat.zero_le _, fun z => absurd z (Nat.lt_irrefl 0)⟩
      refine xv_il11 fL_areCells_489 ?_
      refine xv_al8 fL_areCells_491 ?_
      refine xv_k fL_areCells_493 ?_
      refine xv_ialdN fL_areCells_494 (sx_69 _ _) (⟨by decide, by decide⟩) ?_
      rw [e691]
      refine xv_ic_ge fL_areCells_495 (fun h_495 => ?_) (fun h_495 => ?_)
      · exact absurd h_495 (nI_ge hk (by omega))
      · refine xv_il9 fL_areCells_498 ?_
        refine xv_if_eq fL_areCells_500 (fun h_500 => ?_) (fun h_500 => ?_)
        · exact absurd h_500 (by decide)
        · refine xv_al0 fL_areCells_503 ?_
          refine xv_il11 fL_areCells_504 ?_
          refine xv_k fL_areCells_506 ?_
          refine xv_callV2R (p_partW (n + 1000) c K J hk (by omega) hW (i := 0) (by decide)) fL_areCells_507 YX10_part VX10_part lL_50 rfl rfl (sx_0 _ _) (Nat.le_of_ble_eq_true rfl) (by omega) (by omega) (by omega) ?_
          rw [pv_n (sz := fun _ => 0) rfl]
          refine xv_is12 fL_areCells_510 ?_
          refine xv_al0 fL_areCells_512 ?_
          refine xv_il11 fL_areCells_513 ?_
          refine xv_k fL_areCells_515 ?_
          refine xv_callV2R (p_partW (n + 1000) c K J hk (by omega) hW (i := 1) (by decide)) fL_areCells_516 YX10_part VX10_part lL_50 rfl rfl (sx_0 _ _) (Nat.le_of_ble_eq_true rfl) (by omega) (by omega) (by omega) ?_
          rw [pv_n (sz := fun _ => 0) rfl]
          refine xv_is13 fL_areCells_519 ?_
          refine xv_il12 fL_areCells_521 ?_
          refine xv_if_ge fL_areCells_523 (fun h_523 => ?_) (fun h_523 => ?_)
          · exact absurd h_523 (by decide)
          · refine xv_k fL_areCells_526 ?_
            refine xv_goto fL_areCells_527 ?_
            refine xv_il13 fL_areCells_535 ?_
            refine xv_if_ge fL_areCells_537 (fun h_537 => ?_) (fun h_537 => ?_)
            · exact absurd h_537 (by decide)
            · refine xv_k fL_areCells_540 ?_
              refine xv_goto fL_areCells_541 ?_
              refine xv_iadd fL_areCells_549 ?_
              refine xv_eqi (y := nI 0) (by decide) ?_
              refine xv_is14 fL_areCells_550 ?_
              refine xv_al10 fL_areCells_552 ?_
              refine xv_k fL_areCells_554 ?_
              refine xv_il11 fL_areCells_556 ?_
              refine xv_iadd fL_areCells_558 ?_
              refine xv_eqi (y := nI (20 + k)) (nI_add _ _) ?_
              refine xv_ialdN fL_areCells_559 (sx_70 _ _) (⟨by omega, by decide⟩) ?_
              rw [ec]
              refine xv_il14 fL_areCells_560 ?_
              refine xv_ic_ne fL_areCells_562 (fun h_562 => ?_) (fun h_562 => ?_)
              · exact absurd rfl h_562
              · refine xv_il12 fL_areCells_565 ?_
                refine xv_if_ge fL_areCells_567 (fun h_567 => ?_) (fun h_567 => ?_)
                · exact absurd h_567 (by decide)
                · refine xv_k fL_areCells_570 ?_
                  refine xv_goto fL_areCells_571 ?_
                  refine xv_al4 fL_areCells_575 ?_
                  refine xv_il11 fL_areCells_577 ?_
                  refine xv_ialdN fL_areCells_579 (sx_63 _ _) (⟨by omega, by decide⟩) ?_
                  rw [e63]
                  refine xv_k fL_areCells_580 ?_
                  refine xv_idiv fL_areCells_582 (by decide) ?_
                  refine xv_eqi (y := nI ((sec + 10 * sh + 1000 * d) / 10)) (nI_div (by omega) (by decide)) ?_
                  refine xv_k fL_areCells_583 ?_
                  refine xv_irem fL_areCells_585 (by decide) ?_
                  refine xv_eqi (y := nI sh) (by rw [nI_rem (by omega) (by decide)]; congr 1; omega) ?_
                  refine xv_if_ne fL_areCells_586 (fun h_586 => ?_) (fun h_586 => ?_)
                  · exact absurd (by rw [d1]; rfl) h_586
                  · refine xv_k fL_areCells_589 ?_
                    refine xv_goto fL_areCells_590 ?_
                    refine xv_ic_ne fL_areCells_594 (fun h_594 => ?_) (fun h_594 => ?_)
                    · exact absurd h_594 (by decide)
                    · refine xv_il12 fL_areCells_597 ?_
                      refine xv_if_ge fL_areCells_599 (fun h_599 => ?_) (fun h_599 => ?_)
                      · exact absurd h_599 (by decide)
                      · refine xv_il13 fL_areCells_602 ?_
                        refine xv_if_ge fL_areCells_604 (fun h_604 => ?_) (fun h_604 => ?_)
                        · exact absurd h_604 (by decide)
                        · refine xv_il13 fL_areCells_607 ?_
                          refine xv_if_lt fL_areCells_609 (fun h_609 => ?_) (fun h_609 => ?_)
                          · refine xv_il12 fL_areCells_641 ?_
                            refine xv_if_lt fL_areCells_643 (fun h_643 => ?_) (fun h_643 => ?_)
                            · refine xv_k fL_areCells_709 ?_
                              refine xv_goto fL_areCells_710 ?_
                              refine xv_is9 fL_areCells_714 ?_
                              refine xv_iincN11 (a := 1) fL_areCells_716 (by decide) ?_
                              refine xv_goto fL_areCells_719 ?_
                              exact ih (k + 1) _ _ _ _ _ (by omega) (by omega) (by omega)
                            · exact absurd (by decide) h_643
                          · exact absurd (by decide) h_609
    · obtain hW : xWy K (201 + 5 * k) pg st sz := xWy_to2 d3 (fun v j h1 h2 => eO v j (by omega))
      obtain ec : K 70 (20 + k) = nI (sz 0 + sz 1) := by rw [e70, cnt_run d3 d2 d4 (fun z => (d6 z).1) (by rw [hmk]; exact d9)]
      obtain ⟨v0, u1, u2, u3, u4, u5, u6, u7, u8⟩ := pv_f hW (i := 0) (by decide) d2
      obtain q7 := d4 0 (by decide) d2
      obtain ⟨s0', z0, y1, y2, y3, y4, y5⟩ := hM.1.1 (pg 0) u7
      obtain y6 : s0' = sec := (nI_eq (by omega) (by omega)).mp (y3.symm.trans d5)
      obtain e60 : K 60 (pg 0) = nI (sec + 10 * z0) := (hPI.1 60 _ (by decide) (by decide) (by decide) (by omega) (by omega)).trans (by rw [y5, y6])
      obtain hc0 : ∀ j, j < sz 0 → cE K (pg 0) (cIn (st 0 + j)) = nI (200 + k) := fun j hj => by
        have hcI := cIn12 (show st 0 + j < 12 by omega)
        exact ((hPI.2.1 (pg 0) u7 _ hcI).1 (by omega)).trans ((d9 _ u7 _ hcI).mpr ⟨0, by decide, j, hj, rfl, rfl⟩)
      rcases Nat.eq_zero_or_pos (sz 1) with z1 | z1
      · refine xv_il11 fL_areCells_489 ?_
        refine xv_al8 fL_areCells_491 ?_
        refine xv_k fL_areCells_493 ?_
        refine xv_ialdN fL_areCells_494 (sx_69 _ _) (⟨by decide, by decide⟩) ?_
        rw [e691]
        refine xv_ic_ge fL_areCells_495 (fun h_495 => ?_) (fun h_495 => ?_)
        · exact absurd h_495 (nI_ge hk (by omega))
        · refine xv_il9 fL_areCells_498 ?_
          refine xv_if_eq fL_areCells_500 (fun h_500 => ?_) (fun h_500 => ?_)
          · exact absurd h_500 (by decide)
          · refine xv_al0 fL_areCells_503 ?_
            refine xv_il11 fL_areCells_504 ?_
            refine xv_k fL_areCells_506 ?_
            refine xv_callV2R (p_partW (n + 1000) c K J hk (by omega) hW (i := 0) (by decide)) fL_areCells_507 YX10_part VX10_part lL_50 rfl rfl (sx_0 _ _) (Nat.le_of_ble_eq_true rfl) (by omega) (by omega) (by omega) ?_
            rw [u2]
            refine xv_is12 fL_areCells_510 ?_
            refine xv_al0 fL_areCells_512 ?_
            refine xv_il11 fL_areCells_513 ?_
            refine xv_k fL_areCells_515 ?_
            refine xv_callV2R (p_partW (n + 1000) c K J hk (by omega) hW (i := 1) (by decide)) fL_areCells_516 YX10_part VX10_part lL_50 rfl rfl (sx_0 _ _) (Nat.le_of_ble_eq_true rfl) (by omega) (by omega) (by omega) ?_
            rw [pv_n z1]
            refine xv_is13 fL_areCells_519 ?_
            refine xv_il12 fL_areCells_521 ?_
            refine xv_if_ge fL_areCells_523 (fun h_523 => ?_) (fun h_523 => ?_)
            · refine xv_il12 fL_areCells_530 ?_
              refine xv_k fL_areCells_532 ?_
              refine xv_irem fL_areCells_534 (by decide) ?_
              refine xv_eqi (y := nI (sz 0)) (by rw [nI_rem u1 (by decide), u4]) ?_
              refine xv_il13 fL_areCells_535 ?_
              refine xv_if_ge fL_areCells_537 (fun h_537 => ?_) (fun h_537 => ?_)
              · exact absurd h_537 (by decide)
              · refine xv_k fL_areCells_540 ?_
                refine xv_goto fL_areCells_541 ?_
                refine xv_iadd fL_areCells_549 ?_
                refine xv_eqi (y := nI (sz 0 + sz 1)) (by rw [nI_add, z1]) ?_
                refine xv_is14 fL_areCells_550 ?_
                refine xv_al10 fL_areCells_552 ?_
                refine xv_k fL_areCells_554 ?_
                refine xv_il11 fL_areCells_556 ?_
                refine xv_iadd fL_areCells_558 ?_
                refine xv_eqi (y := nI (20 + k)) (nI_add _ _) ?_
                refine xv_ialdN fL_areCells_559 (sx_70 _ _) (⟨by omega, by decide⟩) ?_
                rw [ec]
                refine xv_il14 fL_areCells_560 ?_
                refine xv_ic_ne fL_areCells_562 (fun h_562 => ?_) (fun h_562 => ?_)
                · exact absurd rfl h_562
                · refine xv_il12 fL_areCells_565 ?_
                  refine xv_if_ge fL_areCells_567 (fun h_567 => ?_) (fun h_567 => ?_)
                  · refine xv_k fL_areCells_574 ?_
                    refine xv_al4 fL_areCells_575 ?_
                    refine xv_il11 fL_areCells_577 ?_
                    refine xv_ialdN fL_areCells_579 (sx_63 _ _) (⟨by omega, by decide⟩) ?_
                    rw [e63]
                    refine xv_k fL_areCells_580 ?_
                    refine xv_idiv fL_areCells_582 (by decide) ?_
                    refine xv_eqi (y := nI ((sec + 10 * sh + 1000 * d) / 10)) (nI_div (by omega) (by decide)) ?_
                    refine xv_k fL_areCells_583 ?_
                    refine xv_irem fL_areCells_585 (by decide) ?_
                    refine xv_eqi (y := nI sh) (by rw [nI_rem (by omega) (by decide)]; congr 1; omega) ?_
                    refine xv_if_ne fL_areCells_586 (fun h_586 => ?_) (fun h_586 => ?_)
                    · refine xv_k fL_areCells_593 ?_
                      refine xv_ic_ne fL_areCells_594 (fun h_594 => ?_) (fun h_594 => ?_)
                      · exact absurd h_594 (by decide)
                      · refine xv_il12 fL_areCells_597 ?_
                        refine xv_if_ge fL_areCells_599 (fun h_599 => ?_) (fun h_599 => ?_)
                        · refine xv_il13 fL_areCells_607 ?_
                          refine xv_if_lt fL_areCells_609 (fun h_609 => ?_) (fun h_609 => ?_)
                          · refine xv_il12 fL_areCells_641 ?_
                            refine xv_if_lt fL_areCells_643 (fun h_643 => ?_) (fun h_643 => ?_)
                            · exact absurd h_643 (nI_pos u1)
                            · refine xv_al1 fL_areCells_646 ?_
                              refine xv_il12 fL_areCells_647 ?_
                              refine xv_k fL_areCells_649 ?_
                              refine xv_idiv fL_areCells_652 (by decide) ?_
                              refine xv_eqi (y := nI (pg 0)) (by rw [nI_div u1 (by decide), u6]) ?_
                              refine xv_ialdN fL_areCells_653 (sx_60 _ _) (⟨by omega, by decide⟩) ?_
                              rw [e60]
                              refine xv_k fL_areCells_654 ?_
                              refine xv_irem fL_areCells_656 (by decide) ?_
                              refine xv_eqi (y := nI sec) (by rw [nI_rem (by omega) (by decide)]; congr 1; omega) ?_
                              refine xv_al4 fL_areCells_657 ?_
                              refine xv_il11 fL_areCells_659 ?_
                              refine xv_ialdN fL_areCells_661 (sx_63 _ _) (⟨by omega, by decide⟩) ?_
                              rw [e63]
                              refine xv_k fL_areCells_662 ?_
                              refine xv_irem fL_areCells_664 (by decide) ?_
                              refine xv_eqi (y := nI sec) (by rw [nI_rem (by omega) (by decide)]; congr 1; omega) ?_
                              refine xv_ic_ne fL_areCells_665 (fun h_665 => ?_) (fun h_665 => ?_)
                              · exact absurd rfl h_665
                              · refine xv_al6 fL_areCells_668 ?_
                                refine xv_al7 fL_areCells_670 ?_
                                refine xv_il12 fL_areCells_672 ?_
                                refine xv_k fL_areCells_674 ?_
                                refine xv_il11 fL_areCells_677 ?_
                                refine xv_iadd fL_areCells_679 ?_
                                refine xv_eqi (y := nI (200 + k)) (nI_add _ _) ?_
                                refine xv_callS4R (c_inCol (n + 1000) c K J u7 u8 d2 u3 hc0) fL_areCells_680 YL_inColumns VL_inColumns lL_106 rfl (Nat.le_of_ble_eq_true rfl) (by omega) (by omega) (by omega) ?_
                                refine xv_if_eq fL_areCells_683 (fun h_683 => ?_) (fun h_683 => ?_)
                                · exact absurd h_683 (by decide)
                                · refine xv_il13 fL_areCells_686 ?_
                                  refine xv_if_lt fL_areCells_688 (fun h_688 => ?_) (fun h_688 => ?_)
                                  · refine xv_k fL_areCells_709 ?_
                                    refine xv_goto fL_areCells_710 ?_
                                    refine xv_is9 fL_areCells_714 ?_
                                    refine xv_iincN11 (a := 1) fL_areCells_716 (by decide) ?_
                                    refine xv_goto fL_areCells_719 ?_
                                    exact ih (k + 1) _ _ _ _ _ (by omega) (by omega) (by omega)
                                  · exact absurd (by decide) h_688
                          · exact absurd (by decide) h_609
                        · exact absurd (nI_pos' u1) h_599
                    · exact absurd h_586 (nI_ne0 d1 (by omega))
                  · exact absurd (nI_pos' u1) h_567
            · exact absurd (nI_pos' u1) h_523
      · obtain ⟨vv, v1, v2, v3, v4, v5, v6, v7, v8⟩ := pv_f hW (i := 1) (by decide) z1
        obtain r7 := d4 1 (by decide) z1
        obtain ⟨s1', z2, j1, j2, j3, j4, j5⟩ := hM.1.1 (pg 1) v7
        obtain j6 : s1' = 0 := (nI_eq (by omega) (by omega)).mp (j3.symm.trans (d6 z1).2)
        obtain f60 : K 60 (pg 1) = nI (0 + 10 * z2) := (hPI.1 60 _ (by decide) (by decide) (by decide) (by omega) (by omega)).trans (by rw [j5, j6])
        obtain hc1 : ∀ j, j < sz 1 → cE K (pg 1) (cIn (st 1 + j)) = nI (200 + k) := fun j hj => by
          have hcI := cIn12 (show st 1 + j < 12 by omega)
          exact ((hPI.2.1 (pg 1) v7 _ hcI).1 (by omega)).trans ((d9 _ v7 _ hcI).mpr ⟨1, by decide, j, hj, rfl, rfl⟩)
        refine xv_il11 fL_areCells_489 ?_
        refine xv_al8 fL_areCells_491 ?_
        refine xv_k fL_areCells_493 ?_
        refine xv_ialdN fL_areCells_494 (sx_69 _ _) (⟨by decide, by decide⟩) ?_
        rw [e691]
        refine xv_ic_ge fL_areCells_495 (fun h_495 => ?_) (fun h_495 => ?_)
        · exact absurd h_495 (nI_ge hk (by omega))
        · refine xv_il9 fL_areCells_498 ?_
          refine xv_if_eq fL_areCells_500 (fun h_500 => ?_) (fun h_500 => ?_)
          · exact absurd h_500 (by decide)
          · refine xv_al0 fL_areCells_503 ?_
            refine xv_il11 fL_areCells_504 ?_
            refine xv_k fL_areCells_506 ?_
            refine xv_callV2R (p_partW (n + 1000) c K J hk (by omega) hW (i := 0) (by decide)) fL_areCells_507 YX10_part VX10_part lL_50 rfl rfl (sx_0 _ _) (Nat.le_of_ble_eq_true rfl) (by omega) (by omega) (by omega) ?_
            rw [u2]
            refine xv_is12 fL_areCells_510 ?_
            refine xv_al0 fL_areCells_512 ?_
            refine xv_il11 fL_areCells_513 ?_
            refine xv_k fL_areCells_515 ?_
            refine xv_callV2R (p_partW (n + 1000) c K J hk (by omega) hW (i := 1) (by decide)) fL_areCells_516 YX10_part VX10_part lL_50 rfl rfl (sx_0 _ _) (Nat.le_of_ble_eq_true rfl) (by omega) (by omega) (by omega) ?_
            rw [v2]
            refine xv_is13 fL_areCells_519 ?_
            refine xv_il12 fL_areCells_521 ?_
            refine xv_if_ge fL_areCells_523 (fun h_523 => ?_) (fun h_523 => ?_)
            · refine xv_il12 fL_areCells_530 ?_
              refine xv_k fL_areCells_532 ?_
              refine xv_irem fL_areCells_534 (by decide) ?_
              refine xv_eqi (y := nI (sz 0)) (by rw [nI_rem u1 (by decide), u4]) ?_
              refine xv_il13 fL_areCells_535 ?_
              refine xv_if_ge fL_areCells_537 (fun h_537 => ?_) (fun h_537 => ?_)
              · refine xv_il13 fL_areCells_544 ?_
                refine xv_k fL_areCells_546 ?_
                refine xv_irem fL_areCells_548 (by decide) ?_
                refine xv_eqi (y := nI (sz 1)) (by rw [nI_rem v1 (by decide), v4]) ?_
                refine xv_iadd fL_areCells_549 ?_
                refine xv_eqi (y := nI (sz 0 + sz 1)) (nI_add _ _) ?_
                refine xv_is14 fL_areCells_550 ?_
                refine xv_al10 fL_areCells_552 ?_
                refine xv_k fL_areCells_554 ?_
                refine xv_il11 fL_areCells_556 ?_
                refine xv_iadd fL_areCells_558 ?_
                refine xv_eqi (y := nI (20 + k)) (nI_add _ _) ?_
                refine xv_ialdN fL_areCells_559 (sx_70 _ _) (⟨by omega, by decide⟩) ?_
                rw [ec]
                refine xv_il14 fL_areCells_560 ?_
                refine xv_ic_ne fL_areCells_562 (fun h_562 => ?_) (fun h_562 => ?_)
                · exact absurd rfl h_562
                · refine xv_il12 fL_areCells_565 ?_
                  refine xv_if_ge fL_areCells_567 (fun h_567 => ?_) (fun h_567 => ?_)
                  · refine xv_k fL_areCells_574 ?_
                    refine xv_al4 fL_areCells_575 ?_
                    refine xv_il11 fL_areCells_577 ?_
                    refine xv_ialdN fL_areCells_579 (sx_63 _ _) (⟨by omega, by decide⟩) ?_
                    rw [e63]
                    refine xv_k fL_areCells_580 ?_
                    refine xv_idiv fL_areCells_582 (by decide) ?_
                    refine xv_eqi (y := nI ((sec + 10 * sh + 1000 * d) / 10)) (nI_div (by omega) (by decide)) ?_
                    refine xv_k fL_areCells_583 ?_
                    refine xv_irem fL_areCells_585 (by decide) ?_
                    refine xv_eqi (y := nI sh) (by rw [nI_rem (by omega) (by decide)]; congr 1; omega) ?_
                    refine xv_if_ne fL_areCells_586 (fun h_586 => ?_) (fun h_586 => ?_)
                    · refine xv_k fL_areCells_593 ?_
                      refine xv_ic_ne fL_areCells_594 (fun h_594 => ?_) (fun h_594 => ?_)
                      · exact absurd h_594 (by decide)
                      · refine xv_il12 fL_areCells_597 ?_
                        refine xv_if_ge fL_areCells_599 (fun h_599 => ?_) (fun h_599 => ?_)
                        · refine xv_il13 fL_areCells_607 ?_
                          refine xv_if_lt fL_areCells_609 (fun h_609 => ?_) (fun h_609 => ?_)
                          · exact absurd h_609 (nI_pos v1)
                          · refine xv_il13 fL_areCells_612 ?_
                            refine xv_k fL_areCells_614 ?_
                            refine xv_idiv fL_areCells_617 (by decide) ?_
                            refine xv_eqi (y := nI (pg 1)) (by rw [nI_div v1 (by decide), v6]) ?_
                            refine xv_il12 fL_areCells_618 ?_
                            refine xv_k fL_areCells_620 ?_
                            refine xv_idiv fL_areCells_623 (by decide) ?_
                            refine xv_eqi (y := nI (pg 0)) (by rw [nI_div u1 (by decide), u6]) ?_
                            refine xv_ic_le fL_areCells_624 (fun h_624 => ?_) (fun h_624 => ?_)
                            · exact absurd h_624 (nI_ge (d6 z1).1 (by omega))
                            · refine xv_al1 fL_areCells_627 ?_
                              refine xv_il13 fL_areCells_628 ?_
                              refine xv_k fL_areCells_630 ?_
                              refine xv_idiv fL_areCells_633 (by decide) ?_
                              refine xv_eqi (y := nI (pg 1)) (by rw [nI_div v1 (by decide), v6]) ?_
                              refine xv_ialdN fL_areCells_634 (sx_60 _ _) (⟨by omega, by decide⟩) ?_
                              rw [f60]
                              refine xv_k fL_areCells_635 ?_
                              refine xv_irem fL_areCells_637 (by decide) ?_
                              refine xv_eqi (y := nI 0) (by rw [nI_rem (by omega) (by decide)]; congr 1; omega) ?_
                              refine xv_if_ne fL_areCells_638 (fun h_638 => ?_) (fun h_638 => ?_)
                              · exact absurd rfl h_638
                              · refine xv_il12 fL_areCells_641 ?_
                                refine xv_if_lt fL_areCells_643 (fun h_643 => ?_) (fun h_643 => ?_)
                                · exact absurd h_643 (nI_pos u1)
                                · refine xv_al1 fL_areCells_646 ?_
                                  refine xv_il12 fL_areCells_647 ?_
                                  refine xv_k fL_areCells_649 ?_
                                  refine xv_idiv fL_areCells_652 (by decide) ?_
                                  refine xv_eqi (y := nI (pg 0)) (by rw [nI_div u1 (by decide), u6]) ?_
                                  refine xv_ialdN fL_areCells_653 (sx_60 _ _) (⟨by omega, by decide⟩) ?_
                                  rw [e60]
                                  refine xv_k fL_areCells_654 ?_
                                  refine xv_irem fL_areCells_656 (by decide) ?_
                                  refine xv_eqi (y := nI sec) (by rw [nI_rem (by omega) (by decide)]; congr 1; omega) ?_
                                  refine xv_al4 fL_areCells_657 ?_
                                  refine xv_il11 fL_areCells_659 ?_
                                  refine xv_ialdN fL_areCells_661 (sx_63 _ _) (⟨by omega, by decide⟩) ?_
                                  rw [e63]
                                  refine xv_k fL_areCells_662 ?_
                                  refine xv_irem fL_areCells_664 (by decide) ?_
                                  refine xv_eqi (y := nI sec) (by rw [nI_rem (by omega) (by decide)]; congr 1; omega) ?_
                                  refine xv_ic_ne fL_areCells_665 (fun h_665 => ?_) (fun h_665 => ?_)
                                  · exact absurd rfl h_665
                                  · refine xv_al6 fL_areCells_668 ?_
                                    refine xv_al7 fL_areCells_670 ?_
                                    refine xv_il12 fL_areCells_672 ?_
                                    refine xv_k fL_areCells_674 ?_
                                    refine xv_il11 fL_areCells_677 ?_
                                    refine xv_iadd fL_areCells_679 ?_
                                    refine xv_eqi (y := nI (200 + k)) (nI_add _ _) ?_
                                    refine xv_callS4R (c_inCol (n + 1000) c K J u7 u8 d2 u3 hc0) fL_areCells_680 YL_inColumns VL_inColumns lL_106 rfl (Nat.le_of_ble_eq_true rfl) (by omega) (by omega) (by omega) ?_
                                    refine xv_if_eq fL_areCells_683 (fun h_683 => ?_) (fun h_683 => ?_)
                                    · exact absurd h_683 (by decide)
                                    · refine xv_il13 fL_areCells_686 ?_
                                      refine xv_if_lt fL_areCells_688 (fun h_688 => ?_) (fun h_688 => ?_)
                                      · exact absurd h_688 (nI_pos v1)
                                      · refine xv_al6 fL_areCells_691 ?_
                                        refine xv_al7 fL_areCells_693 ?_
                                        refine xv_il13 fL_areCells_695 ?_
                                        refine xv_k fL_areCells_697 ?_
                                        refine xv_il11 fL_areCells_700 ?_
                                        refine xv_iadd fL_areCells_702 ?_
                                        refine xv_eqi (y := nI (200 + k)) (nI_add _ _) ?_
                                        refine xv_callS4R (c_inCol (n + 1000) c K J v7 v8 z1 v3 hc1) fL_areCells_703 YL_inColumns VL_inColumns lL_106 rfl (Nat.le_of_ble_eq_true rfl) (by omega) (by omega) (by omega) ?_
                                        refine xv_if_eq fL_areCells_706 (fun h_706 => ?_) (fun h_706 => ?_)
                                        · exact absurd h_706 (by decide)
                                        · refine xv_k fL_areCells_709 ?_
                                          refine xv_goto fL_areCells_710 ?_
                                          refine xv_is9 fL_areCells_714 ?_
                                          refine xv_iincN11 (a := 1) fL_areCells_716 (by decide) ?_
                                          refine xv_goto fL_areCells_719 ?_
                                          exact ih (k + 1) _ _ _ _ _ (by omega) (by omega) (by omega)
                        · exact absurd (nI_pos' u1) h_599
                    · exact absurd h_586 (nI_ne0 d1 (by omega))
                  · exact absurd (nI_pos' u1) h_567
              · exact absurd (nI_pos' v1) h_537
            · exact absurd (nI_pos' u1) h_523

theorem rx_lt : ∀ v, v < 61 → ∀ k, k < 20 → ∀ u, (((rxl[v]?).getD [])[k]?).getD none = some u → u < 61 ∧ (sxl[u]?).getD none ≠ none ∧ u ≠ 70 := by decide
theorem rxl_len : ∀ v, v < 61 → ((rxl[v]?).getD []).length ≤ 20 := by decide
theorem sx_cl (n : Nat) (c : Nat × Nat) {w k u : Nat} (h : rx c w k = some u) (hw : sx n c w ≠ none) : sx n c u ≠ none := by
  unfold rx at h
  by_cases h1 : w = 18
  · rw [if_pos h1] at h
    by_cases h2 : k < c.1 ∧ k < 20
    · rw [if_pos h2] at h
      cases h
      rw [sx_ad n c h2.1 h2.2]
      exact Option.some_ne_none _
    · rw [if_neg h2] at h
      cases h
  rw [if_neg h1] at h
  by_cases h3 : w = 19
  · rw [if_pos h3] at h
    by_cases h2 : k < c.2 ∧ k < 20
    · rw [if_pos h2] at h
      cases h
      rw [sx_st n c h2.1 h2.2]
      exact Option.some_ne_none _
    · rw [if_neg h2] at h
      cases h
  rw [if_neg h3] at h
  by_cases h4 : w < 61
  · rw [if_pos h4] at h
    by_cases h5 : k < 20
    · have g := rx_lt w h4 k h5 u h
      unfold sx
      rw [if_neg g.2.2, if_pos (by omega)]
      exact g.2.1
    · have := rxl_len w h4
      rw [List.getElem?_eq_none (by omega)] at h
      cases h
  rw [if_neg h4] at h
  by_cases h5 : 200 ≤ w ∧ w < 200 + 5 * c.2 ∧ w < 300
  · rw [if_pos h5] at h
    obtain ⟨a, j, ha, hj, hja⟩ : ∃ a j, a < c.2 ∧ j < 5 ∧ w = 200 + 5 * a + j := ⟨(w - 200) / 5, (w - 200) % 5, by omega, by omega, by omega⟩
    have key : ∀ i, i < 5 → sx n c (200 + 5 * a + i) ≠ none := fun i hi => by
      have ha2 : a < 20 := by omega
      rcases (by omega : i = 0 ∨ i = 1 ∨ i = 2 ∨ i = 3 ∨ i = 4) with r | r | r | r | r
      · rw [r, Nat.add_zero, sx_st n c ha ha2]; exact Option.some_ne_none _
      · rw [r, show 200 + 5 * a + 1 = 201 + 5 * a by omega, sx_wy n c ha ha2]; exact Option.some_ne_none _
      · rw [r, show 200 + 5 * a + 2 = 202 + 5 * a by omega, sx_w2 n c ha ha2]; exact Option.some_ne_none _
      · rw [r, show 200 + 5 * a + 3 = 203 + 5 * a by omega, sx_w3 n c ha ha2]; exact Option.some_ne_none _
      · rw [r, show 200 + 5 * a + 4 = 204 + 5 * a by omega, sx_w4 n c ha ha2]; exact Option.some_ne_none _
    by_cases h6 : (w - 200) % 5 = 0
    · rw [if_pos h6] at h
      by_cases h7 : k = 4
      · rw [if_pos h7] at h
        cases h
        rw [show w + 1 = 200 + 5 * a + 1 by omega]
        exact key 1 (by decide)
      · rw [if_neg h7] at h
        cases h
    · rw [if_neg h6] at h
      by_cases h7 : (w - 200) % 5 = 1
      · rw [if_pos h7] at h
        by_cases h8 : 1 ≤ k ∧ k ≤ 3
        · rw [if_pos h8] at h
          cases h
          rw [show w + k = 200 + 5 * a + (k + 1) by omega]
          exact key (k + 1) (by omega)
        · rw [if_neg h8] at h
          cases h
      · rw [if_neg h7] at h
        cases h
  · rw [if_neg h5] at h
    cases h
theorem c_areCells (n : Nat) (c : Nat × Nat) (I : xv_I) (J : xv_J) (hn : n < 1000) (hM : Mid c I) : xv_Met mL_areCells 11 3000 24000 (sx n c) I (rx c) J [.ref 0, .ref 60, .ref 61, .ref 62, .ref 63, .ref 64, .ref 66, .ref 67, .ref 69] (fun o s i r j => s = sx n c ∧ o = .inl (some (.int (nI 1))) ∧ Inv c i ∧ r = rx c ∧ j = J) := by
  refine xv_Met.forgetG (sh' := sx (n + 1000) c) (P := (fun o i r j => o = .inl (some (.int (nI 1))) ∧ Inv c i ∧ r = rx c ∧ j = J)) ?_ (fun o i r j h => ⟨⟨_, h.1⟩, fun w k u hw hr => ?_⟩) (fun w hw => ?_)
  · refine xv_Met.of (by decide +kernel) (Nat.le_of_ble_eq_true rfl) (List.forall_mem_cons.mpr ⟨rfl, List.forall_mem_cons.mpr ⟨rfl, List.forall_mem_cons.mpr ⟨rfl, List.forall_mem_cons.mpr ⟨rfl, List.forall_mem_cons.mpr ⟨rfl, List.forall_mem_cons.mpr ⟨rfl, List.forall_mem_cons.mpr ⟨rfl, List.forall_mem_cons.mpr ⟨rfl, List.forall_mem_cons.mpr ⟨rfl, fun _ h => nomatch h⟩⟩⟩⟩⟩⟩⟩⟩⟩) ?_
    show xv_W mL_areCells 11 3000 24000 _ 3000 24000 (sx n c) I (rx c) J 0 [some (.ref 0), some (.ref 60), some (.ref 61), some (.ref 62), some (.ref 63), some (.ref 64), some (.ref 66), some (.ref 67), some (.ref 69), none, none, none, none, none, none] []
    refine xv_k fL_areCells_0 ?_
    refine xv_is9 fL_areCells_1 ?_
    refine xv_k fL_areCells_3 ?_
    refine xv_newI (n := 70) (k9 := 60) (kc' := 2999) (ks' := 23940) fL_areCells_5 xv_ac_int (by unfold sx; rw [if_pos rfl, if_pos hn]) (by decide) (by decide) (by decide) (by decide) (by decide) ?_
    rw [sx_seen n c, rx_seen c]
    refine xv_as10 fL_areCells_7 ?_
    refine xv_k fL_areCells_9 ?_
    refine xv_is11 fL_areCells_10 ?_
    refine l_ac2 n c J (by decide) hM (k0 := 800) (s0 := 7000) (fun K l12 l13 l14 hPI => ?_) 10 0 _ _ _ _ _ _ rfl (PI.start I) (by decide) (by decide)
    obtain hn8 := hM.1.2.2.2.2.2.2.1.2.2.1
    refine xv_k fL_areCells_380 ?_
    refine xv_is11 fL_areCells_381 ?_
    refine l_ac3 n c J (by decide) hM hPI ?_ c.1 0 (by omega)
    refine xv_k fL_areCells_486 ?_
    refine xv_is11 fL_areCells_487 ?_
    refine l_ac4 n c J (by decide) hM hPI (k0 := 48) (s0 := 384) (fun l12 l13 l14 => ?_) c.2 0 _ _ _ _ _ (by omega) (by omega) (by omega)
    obtain hInv := hPI.inv hM
    obtain ⟨t9, g0, g1, g2⟩ := hInv.2.2.1
    refine xv_il9 fL_areCells_722 ?_
    refine xv_if_eq fL_areCells_724 (fun h_724 => ?_) (fun h_724 => ?_)
    · exact absurd h_724 (by decide)
    · refine xv_al0 fL_areCells_727 ?_
      refine xv_callV0R (p_touched (n + 1000) c K J) fL_areCells_728 YX10_touched VX10_touched lL_110 rfl rfl (sx_0 _ _) (Nat.le_of_ble_eq_true rfl) (by decide) (by decide) (by decide) ?_
      rw [g1]
      refine xv_al8 fL_areCells_731 ?_
      refine xv_k fL_areCells_733 ?_
      refine xv_ialdN fL_areCells_734 (sx_69 _ _) (⟨by omega, by decide⟩) ?_
      rw [g2]
      refine xv_ic_ne fL_areCells_735 (fun h_735 => ?_) (fun h_735 => ?_)
      · exact absurd rfl h_735
      · refine xv_al0 fL_areCells_738 ?_
        refine xv_k fL_areCells_739 ?_
        refine xv_k fL_areCells_740 ?_
        refine xv_k fL_areCells_742 ?_
        refine xv_k fL_areCells_743 ?_
        refine xv_k fL_areCells_744 ?_
        refine xv_k fL_areCells_745 ?_
        refine xv_callS7R (w_cell_I (n + 1000) c c J (p_cell_a (n + 1000) c K J (x := nI 10) (by decide) (y := nI 0))) fL_areCells_746 YL_does VL_does lL_113 rfl (Nat.le_of_ble_eq_true rfl) (by decide) (by decide) (by decide) ?_
        refine xv_k fL_areCells_749 ?_
        refine xv_ic_ne fL_areCells_752 (fun h_752 => ?_) (fun h_752 => ?_)
        · exact absurd rfl h_752
        · refine xv_al0 fL_areCells_755 ?_
          refine xv_k fL_areCells_756 ?_
          refine xv_k fL_areCells_757 ?_
          refine xv_k fL_areCells_758 ?_
          refine xv_k fL_areCells_760 ?_
          refine xv_k fL_areCells_761 ?_
          refine xv_k fL_areCells_762 ?_
          refine xv_callS7R (w_cell_I (n + 1000) c c J (p_cell_b (n + 1000) c K J (p := 0) (by decide) (y := nI 12) (by decide))) fL_areCells_763 YL_does VL_does lL_113 rfl (Nat.le_of_ble_eq_true rfl) (by decide) (by decide) (by decide) ?_
          refine xv_k fL_areCells_766 ?_
          refine xv_ic_ne fL_areCells_769 (fun h_769 => ?_) (fun h_769 => ?_)
          · exact absurd rfl h_769
          · refine xv_k fL_areCells_772 ?_
            refine xv_goto fL_areCells_773 ?_
            exact xv_iret fL_areCells_777 rfl (by decide) ⟨rfl, rfl, hInv, rfl, rfl⟩
  · rw [h.2.2.1] at hr
    exact sx_cl n c hr hw
  · unfold sx
    by_cases g : w = 70
    · subst g
      exact absurd (by unfold sx; rw [if_pos rfl, if_pos hn]) hw
    · rw [if_neg g, if_neg g, Nat.add_mod_right]

