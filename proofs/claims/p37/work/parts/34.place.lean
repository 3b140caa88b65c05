theorem opt_eq {x y : Int32} {n : Nat} (h : opt x n) (g : opt y n) : x = y := by
  rcases h with ⟨h1, h2⟩ | ⟨h1, h2⟩ <;> rcases g with ⟨g1, g2⟩ | ⟨g1, g2⟩
  · rw [h2, g2]
  · omega
  · omega
  · rw [h2, g2]
theorem opt_sub {n : Nat} : opt (nI n - nI 1) n := by
  rcases Nat.eq_zero_or_pos n with h | h
  · exact Or.inl ⟨h, by rw [h]; decide⟩
  · exact Or.inr ⟨h, nI_sub h⟩
abbrev zone (x : Int32) (lo hi : Nat) : Prop := (x = -1 ∧ lo = 0 ∧ hi = 6) ∨ ∃ z, z < 3 ∧ x = nI z ∧ lo = 7 + z ∧ hi = 7 + z
theorem zone_f {x : Int32} {lo hi p : Nat} (h : zone x lo hi) (g : ¬ 0 ≤ x) : p < 7 ↔ lo ≤ p ∧ p ≤ hi := by
  rcases h with ⟨h1, h2, h3⟩ | ⟨z, h1, h2, h3, h4⟩
  · omega
  · exact absurd (by rw [h2]; exact nI_pos' (by omega)) g
theorem zone_t {x : Int32} {lo hi p : Nat} (h : zone x lo hi) (hp : p < 10) (g : 0 ≤ x) : nI p = nI 7 + x ↔ lo ≤ p ∧ p ≤ hi := by
  rcases h with ⟨h1, h2, h3⟩ | ⟨z, h1, h2, h3, h4⟩
  · exact absurd g (by rw [h1]; decide)
  · rw [h2, nI_add, nI_eq (by omega) (by omega)]
    omega
theorem opt_lt {x : Int32} {n : Nat} (h : opt x n) (hn : n < 100) (g : x < 0) : x = -1 := by
  rcases h with ⟨h1, h2⟩ | ⟨h1, h2⟩
  · exact h2
  · exact absurd g (by rw [h2]; exact nI_pos (by omega))
theorem opt_nlt {x : Int32} {n : Nat} (h : opt x n) (g : ¬ x < 0) : ¬ x = -1 := fun q => g (by rw [q]; decide)
abbrev FP (c : Nat × Nat) (I : xv_I) (a ct lo hi p : Nat) : Prop := lo ≤ p ∧ p ≤ hi ∧ xFitPg I c a ct p
abbrev inn (f w h j : Nat) : Prop := f % 3 ≤ j % 3 ∧ j % 3 < f % 3 + w ∧ f / 3 ≤ j / 3 ∧ j / 3 < f / 3 + h
abbrev Rc (f w h : Nat) : Prop := f % 3 + w < 4 ∧ f / 3 + h < 5
theorem rect_ok {I : xv_I} (hC : gC I) {p f w h : Nat} (hp : p < 10) (hf : f < 12) : (Rc f w h ∧ ∀ j, j < 12 → inn f w h j → cE I p j = 0) ↔ xFits I p w h f := by
  constructor
  · rintro ⟨⟨h1, h2⟩, h3⟩
    refine ⟨by omega, by omega, fun d hd r hr => ?_⟩
    rw [hC p hp _ (by omega)]
    exact h3 _ (by omega) ⟨by omega, by omega, by omega, by omega⟩
  · rintro ⟨h1, h2, h3⟩
    refine ⟨⟨by omega, by omega⟩, fun j hj ⟨g1, g2, g3, g4⟩ => ?_⟩
    rw [← hC p hp j hj]
    have e : j = f + 3 * (j / 3 - f / 3) + (j % 3 - f % 3) := by omega
    rw [e]
    exact h3 (j / 3 - f / 3) (by omega) (j % 3 - f % 3) (by omega)
def PlV (c : Nat × Nat) (I : xv_I) (a ct w h lo hi : Nat) (v : Int32) : Prop := (v = -1 ∧ ∀ p, lo ≤ p → p ≤ hi → ∀ f, ¬ xSpot I c a ct w h p f) ∨ ∃ p f, lo ≤ p ∧ p ≤ hi ∧ xSpot I c a ct w h p f ∧ (∀ q, lo ≤ q → q < p → ∀ g, ¬ xSpot I c a ct w h q g) ∧ v = nI (100 * p + f)
theorem len_of {x y : Nat} (hx : x < 2 ^ 31) (hy : y < 2 ^ 31) (h : ¬ nI x ≤ nI y) : y < x := Nat.lt_of_not_le fun q => h ((nI_leI hx hy).mpr q)
theorem lt_of {x y : Nat} (hx : x < 2 ^ 31) (hy : y < 2 ^ 31) (h : ¬ nI x < nI y) : y ≤ x := Nat.le_of_not_lt fun q => h ((nI_ltI hx hy).mpr q)
theorem l_pf1 (n : Nat) (c : Nat × Nat) (I : xv_I) (J : xv_J) {Q : xv_Q} {a ct w h col sec zo lo hi : Nat} (ha : a < c.1) (hct : ct < 4) (hw : 1 ≤ w ∧ w ≤ 3) (hh : 1 ≤ h ∧ h ≤ 4) (hcol : col < 2) (hsec : sec ≤ 4) (hzo : zo ≤ 3) (g0 : I (100 + a) 0 = nI ct) (g3 : I (100 + a) 3 = nI col) (g4 : opt (I (100 + a) 4) sec) (g5 : opt (I (100 + a) 5) zo) (g61 : I 61 a = nI (adv ct w h col sec zo)) (hz : zone (I (100 + a) 5) lo hi) (hA : gAd c I) (hD : gDist I) (hP : gPage I) (hC : gC I) {p f : Nat} (hp : p < 10) (hf : f < 12) {l12 : Option Value} (kk : ∀ l14 l15 l16, l14 = bi (Rc f w h ∧ ∀ j, j < 12 → inn f w h j → cE I p j = 0) → xv_W mL_placeFor 1 0 0 Q 0 0 (sx n c) I (rx c) J 295 (some (.ref 60) :: some (.ref 61) :: some (.ref 62) :: some (.ref 65) :: some (.ref 66) :: some (.ref 67) :: some (.ref 69) :: some (.int (nI a)) :: some (.int (nI (adv ct w h col sec zo))) :: some (.int (I (100 + a) 5)) :: some (.int (I (100 + a) 4)) :: some (.int (nI p)) :: l12 :: some (.int (nI f)) :: some (.int (l14)) :: l15 :: l16 :: []) []) : ∀ (m k : Nat) (l14 : Int32) (l16 : Option Value), k + m = 12 → l14 = bi (Rc f w h ∧ ∀ j, j < k → inn f w h j → cE I p j = 0) → xv_W mL_placeFor 1 0 0 Q 0 0 (sx n c) I (rx c) J 182 (some (.ref 60) :: some (.ref 61) :: some (.ref 62) :: some (.ref 65) :: some (.ref 66) :: some (.ref 67) :: some (.ref 69) :: some (.int (nI a)) :: some (.int (nI (adv ct w h col sec zo))) :: some (.int (I (100 + a) 5)) :: some (.int (I (100 + a) 4)) :: some (.int (nI p)) :: l12 :: some (.int (nI f)) :: some (.int (l14)) :: some (.int (nI k)) :: l16 :: []) [] := by
  intro m
  induction m with
  | zero =>
    intro k l14 l16 hm h14
    obtain rfl : k = 12 := by omega
    show xv_W mL_placeFor 1 0 0 _ 0 0 (sx n c) I (rx c) J 182 (some (.ref 60) :: some (.ref 61) :: some (.ref 62) :: some (.ref 65) :: some (.ref 66) :: some (.ref 67) :: some (.ref 69) :: some (.int (nI a)) :: some (.int (nI (adv ct w h col sec zo))) :: some (.int (I (100 + a) 5)) :: some (.int (I (100 + a) 4)) :: some (.int (nI p)) :: l12 :: some (.int (nI f)) :: some (.int (l14)) :: some (.int (nI 12)) :: l16 :: []) []
    refine xv_il15 fL_placeFor_182 ?_
    refine xv_k fL_placeFor_184 ?_
    refine xv_ic_ge fL_placeFor_186 (fun h_186 => ?_) (fun h_186 => ?_)
    · exact kk _ _ _ h14
    · exact absurd (by decide) h_186
  | succ m ih =>
    intro k l14 l16 hm h14
    have hk : k < 12 := by omega
    have aL := adv_lt hct hw.2 hh.2 hcol hsec hzo
    obtain ⟨aL0, aL1, aL2, aL3, aL4, aL5, aL6⟩ := aL
    show xv_W mL_placeFor 1 0 0 _ 0 0 (sx n c) I (rx c) J 182 (some (.ref 60) :: some (.ref 61) :: some (.ref 62) :: some (.ref 65) :: some (.ref 66) :: some (.ref 67) :: some (.ref 69) :: some (.int (nI a)) :: some (.int (nI (adv ct w h col sec zo))) :: some (.int (I (100 + a) 5)) :: some (.int (I (100 + a) 4)) :: some (.int (nI p)) :: l12 :: some (.int (nI f)) :: some (.int (l14)) :: some (.int (nI k)) :: l16 :: []) []
    refine xv_il15 fL_placeFor_182 ?_
    refine xv_k fL_placeFor_184 ?_
    refine xv_ic_ge fL_placeFor_186 (fun h_186 => ?_) (fun h_186 => ?_)
    · exact absurd h_186 (nI_ge hk (by decide))
    · refine xv_il14 fL_placeFor_189 ?_
      refine xv_if_eq fL_placeFor_191 (fun h_191 => ?_) (fun h_191 => ?_)
      · exact kk _ _ _ (h14.trans ((bi_f (bi_0 (h14 ▸ h_191))).trans (bi_f (fun q => bi_0 (h14 ▸ h_191) ⟨q.1, fun j hj => q.2 j (by omega)⟩)).symm))
      · refine xv_il15 fL_placeFor_194 ?_
        refine xv_k fL_placeFor_196 ?_
        refine xv_irem fL_placeFor_197 (by decide) ?_
        refine xv_eqi (y := nI (k % 3)) (nI_rem (by omega) (by decide)) ?_
        refine xv_il13 fL_placeFor_198 ?_
        refine xv_k fL_placeFor_200 ?_
        refine xv_irem fL_placeFor_201 (by decide) ?_
        refine xv_eqi (y := nI (f % 3)) (nI_rem (by omega) (by decide)) ?_
        refine xv_ic_lt fL_placeFor_202 (fun h_202 => ?_) (fun h_202 => ?_)
        · refine xv_k fL_placeFor_260 ?_
          refine xv_is16 fL_placeFor_261 ?_
          refine xv_il16 fL_placeFor_263 ?_
          refine xv_if_eq fL_placeFor_265 (fun h_265 => ?_) (fun h_265 => ?_)
          · refine xv_k fL_placeFor_282 ?_
            refine xv_goto fL_placeFor_283 ?_
            refine xv_is14 fL_placeFor_287 ?_
            refine xv_iincN15 (a := 1) fL_placeFor_289 (by decide) ?_
            refine xv_goto fL_placeFor_292 ?_
            exact ih (k + 1) _ _ (by omega) (bi_t ⟨(bi_1 (h14 ▸ h_191)).1, lt_or (bi_1 (h14 ▸ h_191)).2 (fun g => absurd g.1 (Nat.not_le.mpr ((nI_ltI (by omega) (by omega)).mp h_202)))⟩).symm
          · exact absurd h_265 (by decide)
        · refine xv_il15 fL_placeFor_205 ?_
          refine xv_k fL_placeFor_207 ?_
          refine xv_irem fL_placeFor_208 (by decide) ?_
          refine xv_eqi (y := nI (k % 3)) (nI_rem (by omega) (by decide)) ?_
          refine xv_il13 fL_placeFor_209 ?_
          refine xv_k fL_placeFor_211 ?_
          refine xv_irem fL_placeFor_212 (by decide) ?_
          refine xv_eqi (y := nI (f % 3)) (nI_rem (by omega) (by decide)) ?_
          refine xv_il8 fL_placeFor_213 ?_
          refine xv_k fL_placeFor_215 ?_
          refine xv_idiv fL_placeFor_217 (by decide) ?_
          refine xv_eqi (y := nI (adv ct w h col sec zo / 10)) (nI_div aL0 (by decide)) ?_
          refine xv_k fL_placeFor_218 ?_
          refine xv_irem fL_placeFor_220 (by decide) ?_
          refine xv_eqi (y := nI w) (by rw [nI_rem (by omega) (by decide), aL2]) ?_
          refine xv_iadd fL_placeFor_221 ?_
          refine xv_eqi (y := nI (f % 3 + w)) (nI_add _ _) ?_
          refine xv_ic_ge fL_placeFor_222 (fun h_222 => ?_) (fun h_222 => ?_)
          · refine xv_k fL_placeFor_260 ?_
            refine xv_is16 fL_placeFor_261 ?_
            refine xv_il16 fL_placeFor_263 ?_
            refine xv_if_eq fL_placeFor_265 (fun h_265 => ?_) (fun h_265 => ?_)
            · refine xv_k fL_placeFor_282 ?_
              refine xv_goto fL_placeFor_283 ?_
              refine xv_is14 fL_placeFor_287 ?_
              refine xv_iincN15 (a := 1) fL_placeFor_289 (by decide) ?_
              refine xv_goto fL_placeFor_292 ?_
              exact ih (k + 1) _ _ (by omega) (bi_t ⟨(bi_1 (h14 ▸ h_191)).1, lt_or (bi_1 (h14 ▸ h_191)).2 (fun g => absurd g.2.1 (Nat.not_lt.mpr ((nI_leI (by omega) (by omega)).mp h_222)))⟩).symm
            · exact absurd h_265 (by decide)
          · refine xv_il15 fL_placeFor_225 ?_
            refine xv_k fL_placeFor_227 ?_
            refine xv_idiv fL_placeFor_228 (by decide) ?_
            refine xv_eqi (y := nI (k / 3)) (nI_div (by omega) (by decide)) ?_
            refine xv_il13 fL_placeFor_229 ?_
            refine xv_k fL_placeFor_231 ?_
            refine xv_idiv fL_placeFor_232 (by decide) ?_
            refine xv_eqi (y := nI (f / 3)) (nI_div (by omega) (by decide)) ?_
            refine xv_ic_lt fL_placeFor_233 (fun h_233 => ?_) (fun h_233 => ?_)
            · refine xv_k fL_placeFor_260 ?_
              refine xv_is16 fL_placeFor_261 ?_
              refine xv_il16 fL_placeFor_263 ?_
              refine xv_if_eq fL_placeFor_265 (fun h_265 => ?_) (fun h_265 => ?_)
              · refine xv_k fL_placeFor_282 ?_
                refine xv_goto fL_placeFor_283 ?_
                refine xv_is14 fL_placeFor_287 ?_
                refine xv_iincN15 (a := 1) fL_placeFor_289 (by decide) ?_
                refine xv_goto fL_placeFor_292 ?_
                exact ih (k + 1) _ _ (by omega) (bi_t ⟨(bi_1 (h14 ▸ h_191)).1, lt_or (bi_1 (h14 ▸ h_191)).2 (fun g => absurd g.2.2.1 (Nat.not_le.mpr ((nI_ltI (by omega) (by omega)).mp h_233)))⟩).symm
              · exact absurd h_265 (by decide)
            · refine xv_il15 fL_placeFor_236 ?_
              refine xv_k fL_placeFor_238 ?_
              refine xv_idiv fL_placeFor_239 (by decide) ?_
              refine xv_eqi (y := nI (k / 3)) (nI_div (by omega) (by decide)) ?_
              refine xv_il13 fL_placeFor_240 ?_
              refine xv_k fL_placeFor_242 ?_
              refine xv_idiv fL_placeFor_243 (by decide) ?_
              refine xv_eqi (y := nI (f / 3)) (nI_div (by omega) (by decide)) ?_
              refine xv_il8 fL_placeFor_244 ?_
              refine xv_k fL_placeFor_246 ?_
              refine xv_idiv fL_placeFor_248 (by decide) ?_
              refine xv_eqi (y := nI (adv ct w h col sec zo / 100)) (nI_div aL0 (by decide)) ?_
              refine xv_k fL_placeFor_249 ?_
              refine xv_irem fL_placeFor_251 (by decide) ?_
              refine xv_eqi (y := nI h) (by rw [nI_rem (by omega) (by decide), aL3]) ?_
              refine xv_iadd fL_placeFor_252 ?_
              refine xv_eqi (y := nI (f / 3 + h)) (nI_add _ _) ?_
              refine xv_ic_ge fL_placeFor_253 (fun h_253 => ?_) (fun h_253 => ?_)
              · refine xv_k fL_placeFor_260 ?_
                refine xv_is16 fL_placeFor_261 ?_
                refine xv_il16 fL_placeFor_263 ?_
                refine xv_if_eq fL_placeFor_265 (fun h_265 => ?_) (fun h_265 => ?_)
                · refine xv_k fL_placeFor_282 ?_
                  refine xv_goto fL_placeFor_283 ?_
                  refine xv_is14 fL_placeFor_287 ?_
                  refine xv_iincN15 (a := 1) fL_placeFor_289 (by decide) ?_
                  refine xv_goto fL_placeFor_292 ?_
                  exact ih (k + 1) _ _ (by omega) (bi_t ⟨(bi_1 (h14 ▸ h_191)).1, lt_or (bi_1 (h14 ▸ h_191)).2 (fun g => absurd g.2.2.2 (Nat.not_lt.mpr ((nI_leI (by omega) (by omega)).mp h_253)))⟩).symm
                · exact absurd h_265 (by decide)
              · refine xv_k fL_placeFor_256 ?_
                refine xv_goto fL_placeFor_257 ?_
                refine xv_is16 fL_placeFor_261 ?_
                refine xv_il16 fL_placeFor_263 ?_
                refine xv_if_eq fL_placeFor_265 (fun h_265 => ?_) (fun h_265 => ?_)
                · exact absurd h_265 (by decide)
                · refine xv_al4 fL_placeFor_268 ?_
                  refine xv_al5 fL_placeFor_270 ?_
                  refine xv_il11 fL_placeFor_272 ?_
                  refine xv_il15 fL_placeFor_274 ?_
                  refine xv_callS4R (c_cell n c I J hp hk) fL_placeFor_276 YL_cell VL_cell lL_96 rfl (Nat.le_of_ble_eq_true rfl) (by decide) (by decide) (by decide) ?_
                  refine xv_if_ne fL_placeFor_279 (fun h_279 => ?_) (fun h_279 => ?_)
                  · refine xv_k fL_placeFor_286 ?_
                    refine xv_is14 fL_placeFor_287 ?_
                    refine xv_iincN15 (a := 1) fL_placeFor_289 (by decide) ?_
                    refine xv_goto fL_placeFor_292 ?_
                    exact ih (k + 1) _ _ (by omega) (bi_f (fun q => h_279 (q.2 k (Nat.lt_succ_self k) ⟨lt_of (by omega) (by omega) h_202, len_of (by omega) (by omega) h_222, lt_of (by omega) (by omega) h_233, len_of (by omega) (by omega) h_253⟩))).symm
                  · refine xv_k fL_placeFor_282 ?_
                    refine xv_goto fL_placeFor_283 ?_
                    refine xv_is14 fL_placeFor_287 ?_
                    refine xv_iincN15 (a := 1) fL_placeFor_289 (by decide) ?_
                    refine xv_goto fL_placeFor_292 ?_
                    exact ih (k + 1) _ _ (by omega) (bi_t ⟨(bi_1 (h14 ▸ h_191)).1, lt_or (bi_1 (h14 ▸ h_191)).2 (fun _ => h_279)⟩).symm

theorem l_pf2 (n : Nat) (c : Nat × Nat) (I : xv_I) (J : xv_J) {Q : xv_Q} {a ct w h col sec zo lo hi : Nat} (ha : a < c.1) (hct : ct < 4) (hw : 1 ≤ w ∧ w ≤ 3) (hh : 1 ≤ h ∧ h ≤ 4) (hcol : col < 2) (hsec : sec ≤ 4) (hzo : zo ≤ 3) (g0 : I (100 + a) 0 = nI ct) (g3 : I (100 + a) 3 = nI col) (g4 : opt (I (100 + a) 4) sec) (g5 : opt (I (100 + a) 5) zo) (g61 : I 61 a = nI (adv ct w h col sec zo)) (hz : zone (I (100 + a) 5) lo hi) (hA : gAd c I) (hD : gDist I) (hP : gPage I) (hC : gC I) {p : Nat} (hp : p < 10) (hr : ∀ f, f < 12 → FP c I a ct lo hi p → xFits I p w h f → (∀ j, j < f → ¬ xFits I p w h j) → Q (.inl (some (.int (nI (100 * p + f))))) (sx n c) I (rx c) J) (kk : ∀ l12 l13 l14 l15 l16, (¬ FP c I a ct lo hi p ∨ ∀ j, j < 12 → ¬ xFits I p w h j) → xv_W mL_placeFor 1 0 0 Q 0 0 (sx n c) I (rx c) J 315 (some (.ref 60) :: some (.ref 61) :: some (.ref 62) :: some (.ref 65) :: some (.ref 66) :: some (.ref 67) :: some (.ref 69) :: some (.int (nI a)) :: some (.int (nI (adv ct w h col sec zo))) :: some (.int (I (100 + a) 5)) :: some (.int (I (100 + a) 4)) :: some (.int (nI p)) :: l12 :: l13 :: l14 :: l15 :: l16 :: []) []) : ∀ (m f : Nat) (l12 : Int32) (l14 l15 l16 : Option Value), f + m = 12 → l12 = bi (FP c I a ct lo hi p) → (∀ j, j < f → ¬ xFits I p w h j) → xv_W mL_placeFor 1 0 0 Q 0 0 (sx n c) I (rx c) J 126 (some (.ref 60) :: some (.ref 61) :: some (.ref 62) :: some (.ref 65) :: some (.ref 66) :: some (.ref 67) :: some (.ref 69) :: some (.int (nI a)) :: some (.int (nI (adv ct w h col sec zo))) :: some (.int (I (100 + a) 5)) :: some (.int (I (100 + a) 4)) :: some (.int (nI p)) :: some (.int (l12)) :: some (.int (nI f)) :: l14 :: l15 :: l16 :: []) [] := by
  intro m
  induction m with
  | zero =>
    intro f l12 l14 l15 l16 hm h12 hns
    obtain rfl : f = 12 := by omega
    show xv_W mL_placeFor 1 0 0 _ 0 0 (sx n c) I (rx c) J 126 (some (.ref 60) :: some (.ref 61) :: some (.ref 62) :: some (.ref 65) :: some (.ref 66) :: some (.ref 67) :: some (.ref 69) :: some (.int (nI a)) :: some (.int (nI (adv ct w h col sec zo))) :: some (.int (I (100 + a) 5)) :: some (.int (I (100 + a) 4)) :: some (.int (nI p)) :: some (.int (l12)) :: some (.int (nI 12)) :: l14 :: l15 :: l16 :: []) []
    refine xv_il13 fL_placeFor_126 ?_
    refine xv_k fL_placeFor_128 ?_
    refine xv_ic_ge fL_placeFor_130 (fun h_130 => ?_) (fun h_130 => ?_)
    · exact kk _ _ _ _ _ (Or.inr hns)
    · exact absurd (by decide) h_130
  | succ m ih =>
    intro f l12 l14 l15 l16 hm h12 hns
    have hf : f < 12 := by omega
    have aL := adv_lt hct hw.2 hh.2 hcol hsec hzo
    obtain ⟨aL0, aL1, aL2, aL3, aL4, aL5, aL6⟩ := aL
    show xv_W mL_placeFor 1 0 0 _ 0 0 (sx n c) I (rx c) J 126 (some (.ref 60) :: some (.ref 61) :: some (.ref 62) :: some (.ref 65) :: some (.ref 66) :: some (.ref 67) :: some (.ref 69) :: some (.int (nI a)) :: some (.int (nI (adv ct w h col sec zo))) :: some (.int (I (100 + a) 5)) :: some (.int (I (100 + a) 4)) :: some (.int (nI p)) :: some (.int (l12)) :: some (.int (nI f)) :: l14 :: l15 :: l16 :: []) []
    refine xv_il13 fL_placeFor_126 ?_
    refine xv_k fL_placeFor_128 ?_
    refine xv_ic_ge fL_placeFor_130 (fun h_130 => ?_) (fun h_130 => ?_)
    · exact absurd h_130 (nI_ge hf (by decide))
    · refine xv_il12 fL_placeFor_133 ?_
      refine xv_if_eq fL_placeFor_135 (fun h_135 => ?_) (fun h_135 => ?_)
      · exact kk _ _ _ _ _ (Or.inl (bi_0 (h12 ▸ h_135)))
      · refine xv_il13 fL_placeFor_138 ?_
        refine xv_k fL_placeFor_140 ?_
        refine xv_irem fL_placeFor_141 (by decide) ?_
        refine xv_eqi (y := nI (f % 3)) (nI_rem (by omega) (by decide)) ?_
        refine xv_il8 fL_placeFor_142 ?_
        refine xv_k fL_placeFor_144 ?_
        refine xv_idiv fL_placeFor_146 (by decide) ?_
        refine xv_eqi (y := nI (adv ct w h col sec zo / 10)) (nI_div aL0 (by decide)) ?_
        refine xv_k fL_placeFor_147 ?_
        refine xv_irem fL_placeFor_149 (by decide) ?_
        refine xv_eqi (y := nI w) (by rw [nI_rem (by omega) (by decide), aL2]) ?_
        refine xv_iadd fL_placeFor_150 ?_
        refine xv_eqi (y := nI (f % 3 + w)) (nI_add _ _) ?_
        refine xv_k fL_placeFor_151 ?_
        refine xv_ic_ge fL_placeFor_152 (fun h_152 => ?_) (fun h_152 => ?_)
        · refine xv_k fL_placeFor_176 ?_
          refine xv_is14 fL_placeFor_177 ?_
          refine xv_k fL_placeFor_179 ?_
          refine xv_is15 fL_placeFor_180 ?_
          refine l_pf1 n c I J ha hct hw hh hcol hsec hzo g0 g3 g4 g5 g61 hz hA hD hP hC hp hf (fun l14 l15 l16 h14 => ?_) 12 0 _ _ rfl (bi_f (fun q => Nat.not_lt.mpr ((nI_leI (by decide) (by omega)).mp h_152) q.1.1)).symm
          refine xv_il14 fL_placeFor_295 ?_
          refine xv_if_eq fL_placeFor_297 (fun h_297 => ?_) (fun h_297 => ?_)
          · refine xv_iincN13 (a := 1) fL_placeFor_309 (by decide) ?_
            refine xv_goto fL_placeFor_312 ?_
            exact ih (f + 1) _ _ _ _ (by omega) h12 (lt_or hns (fun q => bi_0 (h14 ▸ h_297) ((rect_ok hC hp hf).mpr q)))
          · refine xv_k fL_placeFor_300 ?_
            refine xv_il11 fL_placeFor_302 ?_
            refine xv_imul fL_placeFor_304 ?_
            refine xv_eqi (y := nI (100 * p)) (nI_mul _ _) ?_
            refine xv_il13 fL_placeFor_305 ?_
            refine xv_iadd fL_placeFor_307 ?_
            refine xv_eqi (y := nI (100 * p + f)) (nI_add _ _) ?_
            exact xv_iret fL_placeFor_308 rfl rfl (hr f hf (bi_1 (h12 ▸ h_135)) ((rect_ok hC hp hf).mp (bi_1 (h14 ▸ h_297))) hns)
        · refine xv_il13 fL_placeFor_155 ?_
          refine xv_k fL_placeFor_157 ?_
          refine xv_idiv fL_placeFor_158 (by decide) ?_
          refine xv_eqi (y := nI (f / 3)) (nI_div (by omega) (by decide)) ?_
          refine xv_il8 fL_placeFor_159 ?_
          refine xv_k fL_placeFor_161 ?_
          refine xv_idiv fL_placeFor_163 (by decide) ?_
          refine xv_eqi (y := nI (adv ct w h col sec zo / 100)) (nI_div aL0 (by decide)) ?_
          refine xv_k fL_placeFor_164 ?_
          refine xv_irem fL_placeFor_166 (by decide) ?_
          refine xv_eqi (y := nI h) (by rw [nI_rem (by omega) (by decide), aL3]) ?_
          refine xv_iadd fL_placeFor_167 ?_
          refine xv_eqi (y := nI (f / 3 + h)) (nI_add _ _) ?_
          refine xv_k fL_placeFor_168 ?_
          refine xv_ic_ge fL_placeFor_169 (fun h_169 => ?_) (fun h_169 => ?_)
          · refine xv_k fL_placeFor_176 ?_
            refine xv_is14 fL_placeFor_177 ?_
            refine xv_k fL_placeFor_179 ?_
            refine xv_is15 fL_placeFor_180 ?_
            refine l_pf1 n c I J ha hct hw hh hcol hsec hzo g0 g3 g4 g5 g61 hz hA hD hP hC hp hf (fun l14 l15 l16 h14 => ?_) 12 0 _ _ rfl (bi_f (fun q => Nat.not_lt.mpr ((nI_leI (by decide) (by omega)).mp h_169) q.1.2)).symm
            refine xv_il14 fL_placeFor_295 ?_
            refine xv_if_eq fL_placeFor_297 (fun h_297 => ?_) (fun h_297 => ?_)
            · refine xv_iincN13 (a := 1) fL_placeFor_309 (by decide) ?_
              refine xv_goto fL_placeFor_312 ?_
              exact ih (f + 1) _ _ _ _ (by omega) h12 (lt_or hns (fun q => bi_0 (h14 ▸ h_297) ((rect_ok hC hp hf).mpr q)))
            · refine xv_k fL_placeFor_300 ?_
              refine xv_il11 fL_placeFor_302 ?_
              refine xv_imul fL_placeFor_304 ?_
              refine xv_eqi (y := nI (100 * p)) (nI_mul _ _) ?_
              refine xv_il13 fL_placeFor_305 ?_
              refine xv_iadd fL_placeFor_307 ?_
              refine xv_eqi (y := nI (100 * p + f)) (nI_add _ _) ?_
              exact xv_iret fL_placeFor_308 rfl rfl (hr f hf (bi_1 (h12 ▸ h_135)) ((rect_ok hC hp hf).mp (bi_1 (h14 ▸ h_297))) hns)
          · refine xv_k fL_placeFor_172 ?_
            refine xv_goto fL_placeFor_173 ?_
            refine xv_is14 fL_placeFor_177 ?_
            refine xv_k fL_placeFor_179 ?_
            refine xv_is15 fL_placeFor_180 ?_
            refine l_pf1 n c I J ha hct hw hh hcol hsec hzo g0 g3 g4 g5 g61 hz hA hD hP hC hp hf (fun l14 l15 l16 h14 => ?_) 12 0 _ _ rfl (bi_t ⟨⟨len_of (by decide) (by omega) h_152, len_of (by decide) (by omega) h_169⟩, lt_no⟩).symm
            refine xv_il14 fL_placeFor_295 ?_
            refine xv_if_eq fL_placeFor_297 (fun h_297 => ?_) (fun h_297 => ?_)
            · refine xv_iincN13 (a := 1) fL_placeFor_309 (by decide) ?_
              refine xv_goto fL_placeFor_312 ?_
              exact ih (f + 1) _ _ _ _ (by omega) h12 (lt_or hns (fun q => bi_0 (h14 ▸ h_297) ((rect_ok hC hp hf).mpr q)))
            · refine xv_k fL_placeFor_300 ?_
              refine xv_il11 fL_placeFor_302 ?_
              refine xv_imul fL_placeFor_304 ?_
              refine xv_eqi (y := nI (100 * p)) (nI_mul _ _) ?_
              refine xv_il13 fL_placeFor_305 ?_
              refine xv_iadd fL_placeFor_307 ?_
              refine xv_eqi (y := nI (100 * p + f)) (nI_add _ _) ?_
              exact xv_iret fL_placeFor_308 rfl rfl (hr f hf (bi_1 (h12 ▸ h_135)) ((rect_ok hC hp hf).mp (bi_1 (h14 ▸ h_297))) hns)

theorem l_pf3 (n : Nat) (c : Nat × Nat) (I : xv_I) (J : xv_J) {a ct w h col sec zo lo hi : Nat} (ha : a < c.1) (hct : ct < 4) (hw : 1 ≤ w ∧ w ≤ 3) (hh : 1 ≤ h ∧ h ≤ 4) (hcol : col < 2) (hsec : sec ≤ 4) (hzo : zo ≤ 3) (g0 : I (100 + a) 0 = nI ct) (g3 : I (100 + a) 3 = nI col) (g4 : opt (I (100 + a) 4) sec) (g5 : opt (I (100 + a) 5) zo) (g61 : I 61 a = nI (adv ct w h col sec zo)) (hz : zone (I (100 + a) 5) lo hi) (hA : gAd c I) (hD : gDist I) (hP : gPage I) (hC : gC I) : ∀ (m p : Nat) (l12 l13 l14 l15 l16 : Option Value), p + m = 10 → (∀ q, lo ≤ q → q ≤ hi → q < p → ∀ g, ¬ xSpot I c a ct w h q g) → xv_W mL_placeFor 1 0 0 (fun o s i r j => (∃ v, PlV c I a ct w h lo hi v ∧ o = .inl (some (.int v))) ∧ s = sx n c ∧ i = I ∧ r = rx c ∧ j = J) 0 0 (sx n c) I (rx c) J 31 (some (.ref 60) :: some (.ref 61) :: some (.ref 62) :: some (.ref 65) :: some (.ref 66) :: some (.ref 67) :: some (.ref 69) :: some (.int (nI a)) :: some (.int (nI (adv ct w h col sec zo))) :: some (.int (I (100 + a) 5)) :: some (.int (I (100 + a) 4)) :: some (.int (nI p)) :: l12 :: l13 :: l14 :: l15 :: l16 :: []) [] := by
  intro m
  induction m with
  | zero =>
    intro p l12 l13 l14 l15 l16 hm hns
    obtain rfl : p = 10 := by omega
    have hhi : hi < 10 := by rcases hz with ⟨_, _, e⟩ | ⟨z, e1, _, _, e⟩ <;> omega
    show xv_W mL_placeFor 1 0 0 _ 0 0 (sx n c) I (rx c) J 31 (some (.ref 60) :: some (.ref 61) :: some (.ref 62) :: some (.ref 65) :: some (.ref 66) :: some (.ref 67) :: some (.ref 69) :: some (.int (nI a)) :: some (.int (nI (adv ct w h col sec zo))) :: some (.int (I (100 + a) 5)) :: some (.int (I (100 + a) 4)) :: some (.int (nI 10)) :: l12 :: l13 :: l14 :: l15 :: l16 :: []) []
    refine xv_il11 fL_placeFor_31 ?_
    refine xv_k fL_placeFor_33 ?_
    refine xv_ic_ge fL_placeFor_35 (fun h_35 => ?_) (fun h_35 => ?_)
    · refine xv_k fL_placeFor_321 ?_
      exact xv_iret fL_placeFor_322 rfl rfl ⟨⟨_, Or.inl ⟨rfl, fun p h1 h2 => hns p h1 h2 (by omega)⟩, rfl⟩, rfl, rfl, rfl, rfl⟩
    · exact absurd (by decide) h_35
  | succ m ih =>
    intro p l12 l13 l14 l15 l16 hm hns
    have hp : p < 10 := by omega
    have aL := adv_lt hct hw.2 hh.2 hcol hsec hzo
    obtain ⟨aL0, aL1, aL2, aL3, aL4, aL5, aL6⟩ := aL
    obtain ⟨ps, pk, p1, p2, p3, p4, p5⟩ := hP p hp
    obtain hn9 := hA.2.2.1
    show xv_W mL_placeFor 1 0 0 _ 0 0 (sx n c) I (rx c) J 31 (some (.ref 60) :: some (.ref 61) :: some (.ref 62) :: some (.ref 65) :: some (.ref 66) :: some (.ref 67) :: some (.ref 69) :: some (.int (nI a)) :: some (.int (nI (adv ct w h col sec zo))) :: some (.int (I (100 + a) 5)) :: some (.int (I (100 + a) 4)) :: some (.int (nI p)) :: l12 :: l13 :: l14 :: l15 :: l16 :: []) []
    refine xv_il11 fL_placeFor_31 ?_
    refine xv_k fL_placeFor_33 ?_
    refine xv_ic_ge fL_placeFor_35 (fun h_35 => ?_) (fun h_35 => ?_)
    · exact absurd h_35 (nI_ge hp (by decide))
    · refine xv_il9 fL_placeFor_38 ?_
      refine xv_if_ge fL_placeFor_40 (fun h_40 => ?_) (fun h_40 => ?_)
      · refine xv_il11 fL_placeFor_53 ?_
        refine xv_k fL_placeFor_55 ?_
        refine xv_il9 fL_placeFor_57 ?_
        refine xv_iadd fL_placeFor_59 ?_
        refine xv_ic_ne fL_placeFor_60 (fun h_60 => ?_) (fun h_60 => ?_)
        · refine xv_k fL_placeFor_120 ?_
          refine xv_is12 fL_placeFor_121 ?_
          refine xv_k fL_placeFor_123 ?_
          refine xv_is13 fL_placeFor_124 ?_
          refine l_pf2 n c I J ha hct hw hh hcol hsec hzo g0 g3 g4 g5 g61 hz hA hD hP hC hp (fun f hf hF h1 h2 => ⟨⟨_, Or.inr ⟨p, f, hF.1, hF.2.1, ⟨hF.2.2, hf, h1, h2⟩, fun q g1 g2 => hns q g1 (by have := hF.2.1; omega) g2, rfl⟩, rfl⟩, rfl, rfl, rfl, rfl⟩) (fun l12 l13 l14 l15 l16 hno => ?_) 12 0 _ _ _ _ rfl (bi_f (fun q => h_60 ((zone_t hz hp h_40).mpr ⟨q.1, q.2.1⟩))).symm lt_no
          refine xv_iincN11 (a := 1) fL_placeFor_315 (by decide) ?_
          refine xv_goto fL_placeFor_318 ?_
          refine ih (p + 1) _ _ _ _ _ (by omega) (fun q g1 g2 g3 g => ?_)
          rcases Nat.lt_or_ge q p with e | e
          · exact hns q g1 g2 e g
          · obtain rfl : q = p := by omega
            exact fun s => hno.elim (fun r => r ⟨g1, g2, s.1⟩) (fun r => r g s.2.1 s.2.2.1)
        · refine xv_il10 fL_placeFor_63 ?_
          refine xv_if_lt fL_placeFor_65 (fun h_65 => ?_) (fun h_65 => ?_)
          · refine xv_il8 fL_placeFor_80 ?_
            refine xv_k fL_placeFor_82 ?_
            refine xv_idiv fL_placeFor_85 (by decide) ?_
            refine xv_eqi (y := nI (adv ct w h col sec zo / 1000)) (nI_div aL0 (by decide)) ?_
            refine xv_k fL_placeFor_86 ?_
            refine xv_irem fL_placeFor_88 (by decide) ?_
            refine xv_eqi (y := nI col) (by rw [nI_rem (by omega) (by decide), aL4]) ?_
            refine xv_if_eq fL_placeFor_89 (fun h_89 => ?_) (fun h_89 => ?_)
            · refine xv_al1 fL_placeFor_101 ?_
              refine xv_al2 fL_placeFor_102 ?_
              refine xv_al3 fL_placeFor_103 ?_
              refine xv_al6 fL_placeFor_104 ?_
              refine xv_il7 fL_placeFor_106 ?_
              refine xv_il11 fL_placeFor_108 ?_
              refine xv_callS6R (c_isFar n c I J (by omega) hp ⟨hct, g0, ⟨_, aL0, aL1, g61⟩, (by obtain ⟨ct9, f1, f2, f3, f4⟩ := (hA.2.2.2 a ha).f; exact f4)⟩ hD hA) fL_placeFor_110 YL_isFar VL_isFar lL_118 rfl (Nat.le_of_ble_eq_true rfl) (by decide) (by decide) (by decide) ?_
              refine xv_if_eq fL_placeFor_113 (fun h_113 => ?_) (fun h_113 => ?_)
              · refine xv_k fL_placeFor_120 ?_
                refine xv_is12 fL_placeFor_121 ?_
                refine xv_k fL_placeFor_123 ?_
                refine xv_is13 fL_placeFor_124 ?_
                refine l_pf2 n c I J ha hct hw hh hcol hsec hzo g0 g3 g4 g5 g61 hz hA hD hP hC hp (fun f hf hF h1 h2 => ⟨⟨_, Or.inr ⟨p, f, hF.1, hF.2.1, ⟨hF.2.2, hf, h1, h2⟩, fun q g1 g2 => hns q g1 (by have := hF.2.1; omega) g2, rfl⟩, rfl⟩, rfl, rfl, rfl, rfl⟩) (fun l12 l13 l14 l15 l16 hno => ?_) 12 0 _ _ _ _ rfl (bi_f (fun q => bi_0 h_113 q.2.2.2.2)).symm lt_no
                refine xv_iincN11 (a := 1) fL_placeFor_315 (by decide) ?_
                refine xv_goto fL_placeFor_318 ?_
                refine ih (p + 1) _ _ _ _ _ (by omega) (fun q g1 g2 g3 g => ?_)
                rcases Nat.lt_or_ge q p with e | e
                · exact hns q g1 g2 e g
                · obtain rfl : q = p := by omega
                  exact fun s => hno.elim (fun r => r ⟨g1, g2, s.1⟩) (fun r => r g s.2.1 s.2.2.1)
              · refine xv_k fL_placeFor_116 ?_
                refine xv_goto fL_placeFor_117 ?_
                refine xv_is12 fL_placeFor_121 ?_
                refine xv_k fL_placeFor_123 ?_
                refine xv_is13 fL_placeFor_124 ?_
                refine l_pf2 n c I J ha hct hw hh hcol hsec hzo g0 g3 g4 g5 g61 hz hA hD hP hC hp (fun f hf hF h1 h2 => ⟨⟨_, Or.inr ⟨p, f, hF.1, hF.2.1, ⟨hF.2.2, hf, h1, h2⟩, fun q g1 g2 => hns q g1 (by have := hF.2.1; omega) g2, rfl⟩, rfl⟩, rfl, rfl, rfl, rfl⟩) (fun l12 l13 l14 l15 l16 hno => ?_) 12 0 _ _ _ _ rfl (bi_t ⟨((zone_t hz hp h_40).mp h_60).1, ((zone_t hz hp h_40).mp h_60).2, (Or.inl (opt_lt g4 (by omega) h_65)), (Or.inl (g3.trans h_89)), bi_1 h_113⟩).symm lt_no
                refine xv_iincN11 (a := 1) fL_placeFor_315 (by decide) ?_
                refine xv_goto fL_placeFor_318 ?_
                refine ih (p + 1) _ _ _ _ _ (by omega) (fun q g1 g2 g3 g => ?_)
                rcases Nat.lt_or_ge q p with e | e
                · exact hns q g1 g2 e g
                · obtain rfl : q = p := by omega
                  exact fun s => hno.elim (fun r => r ⟨g1, g2, s.1⟩) (fun r => r g s.2.1 s.2.2.1)
            · refine xv_al0 fL_placeFor_92 ?_
              refine xv_il11 fL_placeFor_93 ?_
              refine xv_ialdN fL_placeFor_95 (sx_60 _ _) (⟨hp, by decide⟩) ?_
              rw [p5]
              refine xv_k fL_placeFor_96 ?_
              refine xv_ic_le fL_placeFor_98 (fun h_98 => ?_) (fun h_98 => ?_)
              · refine xv_k fL_placeFor_120 ?_
                refine xv_is12 fL_placeFor_121 ?_
                refine xv_k fL_placeFor_123 ?_
                refine xv_is13 fL_placeFor_124 ?_
                refine l_pf2 n c I J ha hct hw hh hcol hsec hzo g0 g3 g4 g5 g61 hz hA hD hP hC hp (fun f hf hF h1 h2 => ⟨⟨_, Or.inr ⟨p, f, hF.1, hF.2.1, ⟨hF.2.2, hf, h1, h2⟩, fun q g1 g2 => hns q g1 (by have := hF.2.1; omega) g2, rfl⟩, rfl⟩, rfl, rfl, rfl, rfl⟩) (fun l12 l13 l14 l15 l16 hno => ?_) 12 0 _ _ _ _ rfl (bi_f (fun q => q.2.2.2.1.elim (fun e => h_89 (g3.symm.trans e)) (fun e => e (by rw [p4]; have := (nI_leI (by omega) (by decide)).mp h_98; rw [show pk = 0 by omega]; rfl)))).symm lt_no
                refine xv_iincN11 (a := 1) fL_placeFor_315 (by decide) ?_
                refine xv_goto fL_placeFor_318 ?_
                refine ih (p + 1) _ _ _ _ _ (by omega) (fun q g1 g2 g3 g => ?_)
                rcases Nat.lt_or_ge q p with e | e
                · exact hns q g1 g2 e g
                · obtain rfl : q = p := by omega
                  exact fun s => hno.elim (fun r => r ⟨g1, g2, s.1⟩) (fun r => r g s.2.1 s.2.2.1)
              · refine xv_al1 fL_placeFor_101 ?_
                refine xv_al2 fL_placeFor_102 ?_
                refine xv_al3 fL_placeFor_103 ?_
                refine xv_al6 fL_placeFor_104 ?_
                refine xv_il7 fL_placeFor_106 ?_
                refine xv_il11 fL_placeFor_108 ?_
                refine xv_callS6R (c_isFar n c I J (by omega) hp ⟨hct, g0, ⟨_, aL0, aL1, g61⟩, (by obtain ⟨ct9, f1, f2, f3, f4⟩ := (hA.2.2.2 a ha).f; exact f4)⟩ hD hA) fL_placeFor_110 YL_isFar VL_isFar lL_118 rfl (Nat.le_of_ble_eq_true rfl) (by decide) (by decide) (by decide) ?_
                refine xv_if_eq fL_placeFor_113 (fun h_113 => ?_) (fun h_113 => ?_)
                · refine xv_k fL_placeFor_120 ?_
                  refine xv_is12 fL_placeFor_121 ?_
                  refine xv_k fL_placeFor_123 ?_
                  refine xv_is13 fL_placeFor_124 ?_
                  refine l_pf2 n c I J ha hct hw hh hcol hsec hzo g0 g3 g4 g5 g61 hz hA hD hP hC hp (fun f hf hF h1 h2 => ⟨⟨_, Or.inr ⟨p, f, hF.1, hF.2.1, ⟨hF.2.2, hf, h1, h2⟩, fun q g1 g2 => hns q g1 (by have := hF.2.1; omega) g2, rfl⟩, rfl⟩, rfl, rfl, rfl, rfl⟩) (fun l12 l13 l14 l15 l16 hno => ?_) 12 0 _ _ _ _ rfl (bi_f (fun q => bi_0 h_113 q.2.2.2.2)).symm lt_no
                  refine xv_iincN11 (a := 1) fL_placeFor_315 (by decide) ?_
                  refine xv_goto fL_placeFor_318 ?_
                  refine ih (p + 1) _ _ _ _ _ (by omega) (fun q g1 g2 g3 g => ?_)
                  rcases Nat.lt_or_ge q p with e | e
                  · exact hns q g1 g2 e g
                  · obtain rfl : q = p := by omega
                    exact fun s => hno.elim (fun r => r ⟨g1, g2, s.1⟩) (fun r => r g s.2.1 s.2.2.1)
                · refine xv_k fL_placeFor_116 ?_
                  refine xv_goto fL_placeFor_117 ?_
                  refine xv_is12 fL_placeFor_121 ?_
                  refine xv_k fL_placeFor_123 ?_
                  refine xv_is13 fL_placeFor_124 ?_
                  refine l_pf2 n c I J ha hct hw hh hcol hsec hzo g0 g3 g4 g5 g61 hz hA hD hP hC hp (fun f hf hF h1 h2 => ⟨⟨_, Or.inr ⟨p, f, hF.1, hF.2.1, ⟨hF.2.2, hf, h1, h2⟩, fun q g1 g2 => hns q g1 (by have := hF.2.1; omega) g2, rfl⟩, rfl⟩, rfl, rfl, rfl, rfl⟩) (fun l12 l13 l14 l15 l16 hno => ?_) 12 0 _ _ _ _ rfl (bi_t ⟨((zone_t hz hp h_40).mp h_60).1, ((zone_t hz hp h_40).mp h_60).2, (Or.inl (opt_lt g4 (by omega) h_65)), (Or.inr (fun q => h_98 (by have : pk = 0 := Classical.byContradiction fun z => nI_ne0 (Nat.pos_of_ne_zero z) (by omega) (p4.symm.trans q); exact nI_le (by omega) (by decide)))), bi_1 h_113⟩).symm lt_no
                  refine xv_iincN11 (a := 1) fL_placeFor_315 (by decide) ?_
                  refine xv_goto fL_placeFor_318 ?_
                  refine ih (p + 1) _ _ _ _ _ (by omega) (fun q g1 g2 g3 g => ?_)
                  rcases Nat.lt_or_ge q p with e | e
                  · exact hns q g1 g2 e g
                  · obtain rfl : q = p := by omega
                    exact fun s => hno.elim (fun r => r ⟨g1, g2, s.1⟩) (fun r => r g s.2.1 s.2.2.1)
          · refine xv_al0 fL_placeFor_68 ?_
            refine xv_il11 fL_placeFor_69 ?_
            refine xv_ialdN fL_placeFor_71 (sx_60 _ _) (⟨hp, by decide⟩) ?_
            rw [p5]
            refine xv_k fL_placeFor_72 ?_
            refine xv_irem fL_placeFor_74 (by decide) ?_
            refine xv_eqi (y := nI ps) (by rw [nI_rem (by omega) (by decide)]; congr 1; omega) ?_
            refine xv_il10 fL_placeFor_75 ?_
            refine xv_ic_ne fL_placeFor_77 (fun h_77 => ?_) (fun h_77 => ?_)
            · refine xv_k fL_placeFor_120 ?_
              refine xv_is12 fL_placeFor_121 ?_
              refine xv_k fL_placeFor_123 ?_
              refine xv_is13 fL_placeFor_124 ?_
              refine l_pf2 n c I J ha hct hw hh hcol hsec hzo g0 g3 g4 g5 g61 hz hA hD hP hC hp (fun f hf hF h1 h2 => ⟨⟨_, Or.inr ⟨p, f, hF.1, hF.2.1, ⟨hF.2.2, hf, h1, h2⟩, fun q g1 g2 => hns q g1 (by have := hF.2.1; omega) g2, rfl⟩, rfl⟩, rfl, rfl, rfl, rfl⟩) (fun l12 l13 l14 l15 l16 hno => ?_) 12 0 _ _ _ _ rfl (bi_f (fun q => q.2.2.1.elim (opt_nlt g4 h_65) (fun e => h_77 (p3.symm.trans e.symm)))).symm lt_no
              refine xv_iincN11 (a := 1) fL_placeFor_315 (by decide) ?_
              refine xv_goto fL_placeFor_318 ?_
              refine ih (p + 1) _ _ _ _ _ (by omega) (fun q g1 g2 g3 g => ?_)
              rcases Nat.lt_or_ge q p with e | e
              · exact hns q g1 g2 e g
              · obtain rfl : q = p := by omega
                exact fun s => hno.elim (fun r => r ⟨g1, g2, s.1⟩) (fun r => r g s.2.1 s.2.2.1)
            · refine xv_il8 fL_placeFor_80 ?_
              refine xv_k fL_placeFor_82 ?_
              refine xv_idiv fL_placeFor_85 (by decide) ?_
              refine xv_eqi (y := nI (adv ct w h col sec zo / 1000)) (nI_div aL0 (by decide)) ?_
              refine xv_k fL_placeFor_86 ?_
              refine xv_irem fL_placeFor_88 (by decide) ?_
              refine xv_eqi (y := nI col) (by rw [nI_rem (by omega) (by decide), aL4]) ?_
              refine xv_if_eq fL_placeFor_89 (fun h_89 => ?_) (fun h_89 => ?_)
              · refine xv_al1 fL_placeFor_101 ?_
                refine xv_al2 fL_placeFor_102 ?_
                refine xv_al3 fL_placeFor_103 ?_
                refine xv_al6 fL_placeFor_104 ?_
                refine xv_il7 fL_placeFor_106 ?_
                refine xv_il11 fL_placeFor_108 ?_
                refine xv_callS6R (c_isFar n c I J (by omega) hp ⟨hct, g0, ⟨_, aL0, aL1, g61⟩, (by obtain ⟨ct9, f1, f2, f3, f4⟩ := (hA.2.2.2 a ha).f; exact f4)⟩ hD hA) fL_placeFor_110 YL_isFar VL_isFar lL_118 rfl (Nat.le_of_ble_eq_true rfl) (by decide) (by decide) (by decide) ?_
                refine xv_if_eq fL_placeFor_113 (fun h_113 => ?_) (fun h_113 => ?_)
                · refine xv_k fL_placeFor_120 ?_
                  refine xv_is12 fL_placeFor_121 ?_
                  refine xv_k fL_placeFor_123 ?_
                  refine xv_is13 fL_placeFor_124 ?_
                  refine l_pf2 n c I J ha hct hw hh hcol hsec hzo g0 g3 g4 g5 g61 hz hA hD hP hC hp (fun f hf hF h1 h2 => ⟨⟨_, Or.inr ⟨p, f, hF.1, hF.2.1, ⟨hF.2.2, hf, h1, h2⟩, fun q g1 g2 => hns q g1 (by have := hF.2.1; omega) g2, rfl⟩, rfl⟩, rfl, rfl, rfl, rfl⟩) (fun l12 l13 l14 l15 l16 hno => ?_) 12 0 _ _ _ _ rfl (bi_f (fun q => bi_0 h_113 q.2.2.2.2)).symm lt_no
                  refine xv_iincN11 (a := 1) fL_placeFor_315 (by decide) ?_
                  refine xv_goto fL_placeFor_318 ?_
                  refine ih (p + 1) _ _ _ _ _ (by omega) (fun q g1 g2 g3 g => ?_)
                  rcases Nat.lt_or_ge q p with e | e
                  · exact hns q g1 g2 e g
                  · obtain rfl : q = p := by omega
                    exact fun s => hno.elim (fun r => r ⟨g1, g2, s.1⟩) (fun r => r g s.2.1 s.2.2.1)
                · refine xv_k fL_placeFor_116 ?_
                  refine xv_goto fL_placeFor_117 ?_
                  refine xv_is12 fL_placeFor_121 ?_
                  refine xv_k fL_placeFor_123 ?_
                  refine xv_is13 fL_placeFor_124 ?_
                  refine l_pf2 n c I J ha hct hw hh hcol hsec hzo g0 g3 g4 g5 g61 hz hA hD hP hC hp (fun f hf hF h1 h2 => ⟨⟨_, Or.inr ⟨p, f, hF.1, hF.2.1, ⟨hF.2.2, hf, h1, h2⟩, fun q g1 g2 => hns q g1 (by have := hF.2.1; omega) g2, rfl⟩, rfl⟩, rfl, rfl, rfl, rfl⟩) (fun l12 l13 l14 l15 l16 hno => ?_) 12 0 _ _ _ _ rfl (bi_t ⟨((zone_t hz hp h_40).mp h_60).1, ((zone_t hz hp h_40).mp h_60).2, (Or.inr (h_77.symm.trans p3.symm)), (Or.inl (g3.trans h_89)), bi_1 h_113⟩).symm lt_no
                  refine xv_iincN11 (a := 1) fL_placeFor_315 (by decide) ?_
                  refine xv_goto fL_placeFor_318 ?_
                  refine ih (p + 1) _ _ _ _ _ (by omega) (fun q g1 g2 g3 g => ?_)
                  rcases Nat.lt_or_ge q p with e | e
                  · exact hns q g1 g2 e g
                  · obtain rfl : q = p := by omega
                    exact fun s => hno.elim (fun r => r ⟨g1, g2, s.1⟩) (fun r => r g s.2.1 s.2.2.1)
              · refine xv_al0 fL_placeFor_92 ?_
                refine xv_il11 fL_placeFor_93 ?_
                refine xv_ialdN fL_placeFor_95 (sx_60 _ _) (⟨hp, by decide⟩) ?_
                rw [p5]
                refine xv_k fL_placeFor_96 ?_
                refine xv_ic_le fL_placeFor_98 (fun h_98 => ?_) (fun h_98 => ?_)
                · refine xv_k fL_placeFor_120 ?_
                  refine xv_is12 fL_placeFor_121 ?_
                  refine xv_k fL_placeFor_123 ?_
                  refine xv_is13 fL_placeFor_124 ?_
                  refine l_pf2 n c I J ha hct hw hh hcol hsec hzo g0 g3 g4 g5 g61 hz hA hD hP hC hp (fun f hf hF h1 h2 => ⟨⟨_, Or.inr ⟨p, f, hF.1, hF.2.1, ⟨hF.2.2, hf, h1, h2⟩, fun q g1 g2 => hns q g1 (by have := hF.2.1; omega) g2, rfl⟩, rfl⟩, rfl, rfl, rfl, rfl⟩) (fun l12 l13 l14 l15 l16 hno => ?_) 12 0 _ _ _ _ rfl (bi_f (fun q => q.2.2.2.1.elim (fun e => h_89 (g3.symm.trans e)) (fun e => e (by rw [p4]; have := (nI_leI (by omega) (by decide)).mp h_98; rw [show pk = 0 by omega]; rfl)))).symm lt_no
                  refine xv_iincN11 (a := 1) fL_placeFor_315 (by decide) ?_
                  refine xv_goto fL_placeFor_318 ?_
                  refine ih (p + 1) _ _ _ _ _ (by omega) (fun q g1 g2 g3 g => ?_)
                  rcases Nat.lt_or_ge q p with e | e
                  · exact hns q g1 g2 e g
                  · obtain rfl : q = p := by omega
                    exact fun s => hno.elim (fun r => r ⟨g1, g2, s.1⟩) (fun r => r g s.2.1 s.2.2.1)
                · refine xv_al1 fL_placeFor_101 ?_
                  refine xv_al2 fL_placeFor_102 ?_
                  refine xv_al3 fL_placeFor_103 ?_
                  refine xv_al6 fL_placeFor_104 ?_
                  refine xv_il7 fL_placeFor_106 ?_
                  refine xv_il11 fL_placeFor_108 ?_
                  refine xv_callS6R (c_isFar n c I J (by omega) hp ⟨hct, g0, ⟨_, aL0, aL1, g61⟩, (by obtain ⟨ct9, f1, f2, f3, f4⟩ := (hA.2.2.2 a ha).f; exact f4)⟩ hD hA) fL_placeFor_110 YL_isFar VL_isFar lL_118 rfl (Nat.le_of_ble_eq_true rfl) (by decide) (by decide) (by decide) ?_
                  refine xv_if_eq fL_placeFor_113 (fun h_113 => ?_) (fun h_113 => ?_)
                  · refine xv_k fL_placeFor_120 ?_
                    refine xv_is12 fL_placeFor_121 ?_
                    refine xv_k fL_placeFor_123 ?_
                    refine xv_is13 fL_placeFor_124 ?_
                    refine l_pf2 n c I J ha hct hw hh hcol hsec hzo g0 g3 g4 g5 g61 hz hA hD hP hC hp (fun f hf hF h1 h2 => ⟨⟨_, Or.inr ⟨p, f, hF.1, hF.2.1, ⟨hF.2.2, hf, h1, h2⟩, fun q g1 g2 => hns q g1 (by have := hF.2.1; omega) g2, rfl⟩, rfl⟩, rfl, rfl, rfl, rfl⟩) (fun l12 l13 l14 l15 l16 hno => ?_) 12 0 _ _ _ _ rfl (bi_f (fun q => bi_0 h_113 q.2.2.2.2)).symm lt_no
                    refine xv_iincN11 (a := 1) fL_placeFor_315 (by decide) ?_
                    refine xv_goto fL_placeFor_318 ?_
                    refine ih (p + 1) _ _ _ _ _ (by omega) (fun q g1 g2 g3 g => ?_)
                    rcases Nat.lt_or_ge q p with e | e
                    · exact hns q g1 g2 e g
                    · obtain rfl : q = p := by omega
                      exact fun s => hno.elim (fun r => r ⟨g1, g2, s.1⟩) (fun r => r g s.2.1 s.2.2.1)
                  · refine xv_k fL_placeFor_116 ?_
                    refine xv_goto fL_placeFor_117 ?_
                    refine xv_is12 fL_placeFor_121 ?_
                    refine xv_k fL_placeFor_123 ?_
                    refine xv_is13 fL_placeFor_124 ?_
                    refine l_pf2 n c I J ha hct hw hh hcol hsec hzo g0 g3 g4 g5 g61 hz hA hD hP hC hp (fun f hf hF h1 h2 => ⟨⟨_, Or.inr ⟨p, f, hF.1, hF.2.1, ⟨hF.2.2, hf, h1, h2⟩, fun q g1 g2 => hns q g1 (by have := hF.2.1; omega) g2, rfl⟩, rfl⟩, rfl, rfl, rfl, rfl⟩) (fun l12 l13 l14 l15 l16 hno => ?_) 12 0 _ _ _ _ rfl (bi_t ⟨((zone_t hz hp h_40).mp h_60).1, ((zone_t hz hp h_40).mp h_60).2, (Or.inr (h_77.symm.trans p3.symm)), (Or.inr (fun q => h_98 (by have : pk = 0 := Classical.byContradiction fun z => nI_ne0 (Nat.pos_of_ne_zero z) (by omega) (p4.symm.trans q); exact nI_le (by omega) (by decide)))), bi_1 h_113⟩).symm lt_no
                    refine xv_iincN11 (a := 1) fL_placeFor_315 (by decide) ?_
                    refine xv_goto fL_placeFor_318 ?_
                    refine ih (p + 1) _ _ _ _ _ (by omega) (fun q g1 g2 g3 g => ?_)
                    rcases Nat.lt_or_ge q p with e | e
                    · exact hns q g1 g2 e g
                    · obtain rfl : q = p := by omega
                      exact fun s => hno.elim (fun r => r ⟨g1, g2, s.1⟩) (fun r => r g s.2.1 s.2.2.1)
      · refine xv_il11 fL_placeFor_43 ?_
        refine xv_k fL_placeFor_45 ?_
        refine xv_ic_ge fL_placeFor_47 (fun h_47 => ?_) (fun h_47 => ?_)
        · refine xv_k fL_placeFor_120 ?_
          refine xv_is12 fL_placeFor_121 ?_
          refine xv_k fL_placeFor_123 ?_
          refine xv_is13 fL_placeFor_124 ?_
          refine l_pf2 n c I J ha hct hw hh hcol hsec hzo g0 g3 g4 g5 g61 hz hA hD hP hC hp (fun f hf hF h1 h2 => ⟨⟨_, Or.inr ⟨p, f, hF.1, hF.2.1, ⟨hF.2.2, hf, h1, h2⟩, fun q g1 g2 => hns q g1 (by have := hF.2.1; omega) g2, rfl⟩, rfl⟩, rfl, rfl, rfl, rfl⟩) (fun l12 l13 l14 l15 l16 hno => ?_) 12 0 _ _ _ _ rfl (bi_f (fun q => Nat.not_lt.mpr ((nI_leI (by decide) (by omega)).mp h_47) ((zone_f hz h_40).mpr ⟨q.1, q.2.1⟩))).symm lt_no
          refine xv_iincN11 (a := 1) fL_placeFor_315 (by decide) ?_
          refine xv_goto fL_placeFor_318 ?_
          refine ih (p + 1) _ _ _ _ _ (by omega) (fun q g1 g2 g3 g => ?_)
          rcases Nat.lt_or_ge q p with e | e
          · exact hns q g1 g2 e g
          · obtain rfl : q = p := by omega
            exact fun s => hno.elim (fun r => r ⟨g1, g2, s.1⟩) (fun r => r g s.2.1 s.2.2.1)
        · refine xv_goto fL_placeFor_50 ?_
          refine xv_il10 fL_placeFor_63 ?_
          refine xv_if_lt fL_placeFor_65 (fun h_65 => ?_) (fun h_65 => ?_)
          · refine xv_il8 fL_placeFor_80 ?_
            refine xv_k fL_placeFor_82 ?_
            refine xv_idiv fL_placeFor_85 (by decide) ?_
            refine xv_eqi (y := nI (adv ct w h col sec zo / 1000)) (nI_div aL0 (by decide)) ?_
            refine xv_k fL_placeFor_86 ?_
            refine xv_irem fL_placeFor_88 (by decide) ?_
            refine xv_eqi (y := nI col) (by rw [nI_rem (by omega) (by decide), aL4]) ?_
            refine xv_if_eq fL_placeFor_89 (fun h_89 => ?_) (fun h_89 => ?_)
            · refine xv_al1 fL_placeFor_101 ?_
              refine xv_al2 fL_placeFor_102 ?_
              refine xv_al3 fL_placeFor_103 ?_
              refine xv_al6 fL_placeFor_104 ?_
              refine xv_il7 fL_placeFor_106 ?_
              refine xv_il11 fL_placeFor_108 ?_
              refine xv_callS6R (c_isFar n c I J (by omega) hp ⟨hct, g0, ⟨_, aL0, aL1, g61⟩, (by obtain ⟨ct9, f1, f2, f3, f4⟩ := (hA.2.2.2 a ha).f; exact f4)⟩ hD hA) fL_placeFor_110 YL_isFar VL_isFar lL_118 rfl (Nat.le_of_ble_eq_true rfl) (by decide) (by decide) (by decide) ?_
              refine xv_if_eq fL_placeFor_113 (fun h_113 => ?_) (fun h_113 => ?_)
              · refine xv_k fL_placeFor_120 ?_
                refine xv_is12 fL_placeFor_121 ?_
                refine xv_k fL_placeFor_123 ?_
                refine xv_is13 fL_placeFor_124 ?_
                refine l_pf2 n c I J ha hct hw hh hcol hsec hzo g0 g3 g4 g5 g61 hz hA hD hP hC hp (fun f hf hF h1 h2 => ⟨⟨_, Or.inr ⟨p, f, hF.1, hF.2.1, ⟨hF.2.2, hf, h1, h2⟩, fun q g1 g2 => hns q g1 (by have := hF.2.1; omega) g2, rfl⟩, rfl⟩, rfl, rfl, rfl, rfl⟩) (fun l12 l13 l14 l15 l16 hno => ?_) 12 0 _ _ _ _ rfl (bi_f (fun q => bi_0 h_113 q.2.2.2.2)).symm lt_no
                refine xv_iincN11 (a := 1) fL_placeFor_315 (by decide) ?_
                refine xv_goto fL_placeFor_318 ?_
                refine ih (p + 1) _ _ _ _ _ (by omega) (fun q g1 g2 g3 g => ?_)
                rcases Nat.lt_or_ge q p with e | e
                · exact hns q g1 g2 e g
                · obtain rfl : q = p := by omega
                  exact fun s => hno.elim (fun r => r ⟨g1, g2, s.1⟩) (fun r => r g s.2.1 s.2.2.1)
              · refine xv_k fL_placeFor_116 ?_
                refine xv_goto fL_placeFor_117 ?_
                refine xv_is12 fL_placeFor_121 ?_
                refine xv_k fL_placeFor_123 ?_
                refine xv_is13 fL_placeFor_124 ?_
                refine l_pf2 n c I J ha hct hw hh hcol hsec hzo g0 g3 g4 g5 g61 hz hA hD hP hC hp (fun f hf hF h1 h2 => ⟨⟨_, Or.inr ⟨p, f, hF.1, hF.2.1, ⟨hF.2.2, hf, h1, h2⟩, fun q g1 g2 => hns q g1 (by have := hF.2.1; omega) g2, rfl⟩, rfl⟩, rfl, rfl, rfl, rfl⟩) (fun l12 l13 l14 l15 l16 hno => ?_) 12 0 _ _ _ _ rfl (bi_t ⟨((zone_f hz h_40).mp (len_of (by decide) (by omega) h_47)).1, ((zone_f hz h_40).mp (len_of (by decide) (by omega) h_47)).2, (Or.inl (opt_lt g4 (by omega) h_65)), (Or.inl (g3.trans h_89)), bi_1 h_113⟩).symm lt_no
                refine xv_iincN11 (a := 1) fL_placeFor_315 (by decide) ?_
                refine xv_goto fL_placeFor_318 ?_
                refine ih (p + 1) _ _ _ _ _ (by omega) (fun q g1 g2 g3 g => ?_)
                rcases Nat.lt_or_ge q p with e | e
                · exact hns q g1 g2 e g
                · obtain rfl : q = p := by omega
                  exact fun s => hno.elim (fun r => r ⟨g1, g2, s.1⟩) (fun r => r g s.2.1 s.2.2.1)
            · refine xv_al0 fL_placeFor_92 ?_
              refine xv_il11 fL_placeFor_93 ?_
              refine xv_ialdN fL_placeFor_95 (sx_60 _ _) (⟨hp, by decide⟩) ?_
              rw [p5]
              refine xv_k fL_placeFor_96 ?_
              refine xv_ic_le fL_placeFor_98 (fun h_98 => ?_) (fun h_98 => ?_)
              · refine xv_k fL_placeFor_120 ?_
                refine xv_is12 fL_placeFor_121 ?_
                refine xv_k fL_placeFor_123 ?_
                refine xv_is13 fL_placeFor_124 ?_
                refine l_pf2 n c I J ha hct hw hh hcol hsec hzo g0 g3 g4 g5 g61 hz hA hD hP hC hp (fun f hf hF h1 h2 => ⟨⟨_, Or.inr ⟨p, f, hF.1, hF.2.1, ⟨hF.2.2, hf, h1, h2⟩, fun q g1 g2 => hns q g1 (by have := hF.2.1; omega) g2, rfl⟩, rfl⟩, rfl, rfl, rfl, rfl⟩) (fun l12 l13 l14 l15 l16 hno => ?_) 12 0 _ _ _ _ rfl (bi_f (fun q => q.2.2.2.1.elim (fun e => h_89 (g3.symm.trans e)) (fun e => e (by rw [p4]; have := (nI_leI (by omega) (by decide)).mp h_98; rw [show pk = 0 by omega]; rfl)))).symm lt_no
                refine xv_iincN11 (a := 1) fL_placeFor_315 (by decide) ?_
                refine xv_goto fL_placeFor_318 ?_
                refine ih (p + 1) _ _ _ _ _ (by omega) (fun q g1 g2 g3 g => ?_)
                rcases Nat.lt_or_ge q p with e | e
                · exact hns q g1 g2 e g
                · obtain rfl : q = p := by omega
                  exact fun s => hno.elim (fun r => r ⟨g1, g2, s.1⟩) (fun r => r g s.2.1 s.2.2.1)
              · refine xv_al1 fL_placeFor_101 ?_
                refine xv_al2 fL_placeFor_102 ?_
                refine xv_al3 fL_placeFor_103 ?_
                refine xv_al6 fL_placeFor_104 ?_
                refine xv_il7 fL_placeFor_106 ?_
                refine xv_il11 fL_placeFor_108 ?_
                refine xv_callS6R (c_isFar n c I J (by omega) hp ⟨hct, g0, ⟨_, aL0, aL1, g61⟩, (by obtain ⟨ct9, f1, f2, f3, f4⟩ := (hA.2.2.2 a ha).f; exact f4)⟩ hD hA) fL_placeFor_110 YL_isFar VL_isFar lL_118 rfl (Nat.le_of_ble_eq_true rfl) (by decide) (by decide) (by decide) ?_
                refine xv_if_eq fL_placeFor_113 (fun h_113 => ?_) (fun h_113 => ?_)
                · refine xv_k fL_placeFor_120 ?_
                  refine xv_is12 fL_placeFor_121 ?_
                  refine xv_k fL_placeFor_123 ?_
                  refine xv_is13 fL_placeFor_124 ?_
                  refine l_pf2 n c I J ha hct hw hh hcol hsec hzo g0 g3 g4 g5 g61 hz hA hD hP hC hp (fun f hf hF h1 h2 => ⟨⟨_, Or.inr ⟨p, f, hF.1, hF.2.1, ⟨hF.2.2, hf, h1, h2⟩, fun q g1 g2 => hns q g1 (by have := hF.2.1; omega) g2, rfl⟩, rfl⟩, rfl, rfl, rfl, rfl⟩) (fun l12 l13 l14 l15 l16 hno => ?_) 12 0 _ _ _ _ rfl (bi_f (fun q => bi_0 h_113 q.2.2.2.2)).symm lt_no
                  refine xv_iincN11 (a := 1) fL_placeFor_315 (by decide) ?_
                  refine xv_goto fL_placeFor_318 ?_
                  refine ih (p + 1) _ _ _ _ _ (by omega) (fun q g1 g2 g3 g => ?_)
                  rcases Nat.lt_or_ge q p with e | e
                  · exact hns q g1 g2 e g
                  · obtain rfl : q = p := by omega
                    exact fun s => hno.elim (fun r => r ⟨g1, g2, s.1⟩) (fun r => r g s.2.1 s.2.2.1)
                · refine xv_k fL_placeFor_116 ?_
                  refine xv_goto fL_placeFor_117 ?_
                  refine xv_is12 fL_placeFor_121 ?_
                  refine xv_k fL_placeFor_123 ?_
                  refine xv_is13 fL_placeFor_124 ?_
                  refine l_pf2 n c I J ha hct hw hh hcol hsec hzo g0 g3 g4 g5 g61 hz hA hD hP hC hp (fun f hf hF h1 h2 => ⟨⟨_, Or.inr ⟨p, f, hF.1, hF.2.1, ⟨hF.2.2, hf, h1, h2⟩, fun q g1 g2 => hns q g1 (by have := hF.2.1; omega) g2, rfl⟩, rfl⟩, rfl, rfl, rfl, rfl⟩) (fun l12 l13 l14 l15 l16 hno => ?_) 12 0 _ _ _ _ rfl (bi_t ⟨((zone_f hz h_40).mp (len_of (by decide) (by omega) h_47)).1, ((zone_f hz h_40).mp (len_of (by decide) (by omega) h_47)).2, (Or.inl (opt_lt g4 (by omega) h_65)), (Or.inr (fun q => h_98 (by have : pk = 0 := Classical.byContradiction fun z => nI_ne0 (Nat.pos_of_ne_zero z) (by omega) (p4.symm.trans q); exact nI_le (by omega) (by decide)))), bi_1 h_113⟩).symm lt_no
                  refine xv_iincN11 (a := 1) fL_placeFor_315 (by decide) ?_
                  refine xv_goto fL_placeFor_318 ?_
                  refine ih (p + 1) _ _ _ _ _ (by omega) (fun q g1 g2 g3 g => ?_)
                  rcases Nat.lt_or_ge q p with e | e
                  · exact hns q g1 g2 e g
                  · obtain rfl : q = p := by omega
                    exact fun s => hno.elim (fun r => r ⟨g1, g2, s.1⟩) (fun r => r g s.2.1 s.2.2.1)
          · refine xv_al0 fL_placeFor_68 ?_
            refine xv_il11 fL_placeFor_69 ?_
            refine xv_ialdN fL_placeFor_71 (sx_60 _ _) (⟨hp, by decide⟩) ?_
            rw [p5]
            refine xv_k fL_placeFor_72 ?_
            refine xv_irem fL_placeFor_74 (by decide) ?_
            refine xv_eqi (y := nI ps) (by rw [nI_rem (by omega) (by decide)]; congr 1; omega) ?_
            refine xv_il10 fL_placeFor_75 ?_
            refine xv_ic_ne fL_placeFor_77 (fun h_77 => ?_) (fun h_77 => ?_)
            · refine xv_k fL_placeFor_120 ?_
              refine xv_is12 fL_placeFor_121 ?_
              refine xv_k fL_placeFor_123 ?_
              refine xv_is13 fL_placeFor_124 ?_
              refine l_pf2 n c I J ha hct hw hh hcol hsec hzo g0 g3 g4 g5 g61 hz hA hD hP hC hp (fun f hf hF h1 h2 => ⟨⟨_, Or.inr ⟨p, f, hF.1, hF.2.1, ⟨hF.2.2, hf, h1, h2⟩, fun q g1 g2 => hns q g1 (by have := hF.2.1; omega) g2, rfl⟩, rfl⟩, rfl, rfl, rfl, rfl⟩) (fun l12 l13 l14 l15 l16 hno => ?_) 12 0 _ _ _ _ rfl (bi_f (fun q => q.2.2.1.elim (opt_nlt g4 h_65) (fun e => h_77 (p3.symm.trans e.symm)))).symm lt_no
              refine xv_iincN11 (a := 1) fL_placeFor_315 (by decide) ?_
              refine xv_goto fL_placeFor_318 ?_
              refine ih (p + 1) _ _ _ _ _ (by omega) (fun q g1 g2 g3 g => ?_)
              rcases Nat.lt_or_ge q p with e | e
              · exact hns q g1 g2 e g
              · obtain rfl : q = p := by omega
                exact fun s => hno.elim (fun r => r ⟨g1, g2, s.1⟩) (fun r => r g s.2.1 s.2.2.1)
            · refine xv_il8 fL_placeFor_80 ?_
              refine xv_k fL_placeFor_82 ?_
              refine xv_idiv fL_placeFor_85 (by decide) ?_
              refine xv_eqi (y := nI (adv ct w h col sec zo / 1000)) (nI_div aL0 (by decide)) ?_
              refine xv_k fL_placeFor_86 ?_
              refine xv_irem fL_placeFor_88 (by decide) ?_
              refine xv_eqi (y := nI col) (by rw [nI_rem (by omega) (by decide), aL4]) ?_
              refine xv_if_eq fL_placeFor_89 (fun h_89 => ?_) (fun h_89 => ?_)
              · refine xv_al1 fL_placeFor_101 ?_
                refine xv_al2 fL_placeFor_102 ?_
                refine xv_al3 fL_placeFor_103 ?_
                refine xv_al6 fL_placeFor_104 ?_
                refine xv_il7 fL_placeFor_106 ?_
                refine xv_il11 fL_placeFor_108 ?_
                refine xv_callS6R (c_isFar n c I J (by omega) hp ⟨hct, g0, ⟨_, aL0, aL1, g61⟩, (by obtain ⟨ct9, f1, f2, f3, f4⟩ := (hA.2.2.2 a ha).f; exact f4)⟩ hD hA) fL_placeFor_110 YL_isFar VL_isFar lL_118 rfl (Nat.le_of_ble_eq_true rfl) (by decide) (by decide) (by decide) ?_
                refine xv_if_eq fL_placeFor_113 (fun h_113 => ?_) (fun h_113 => ?_)
                · refine xv_k fL_placeFor_120 ?_
                  refine xv_is12 fL_placeFor_121 ?_
                  refine xv_k fL_placeFor_123 ?_
                  refine xv_is13 fL_placeFor_124 ?_
                  refine l_pf2 n c I J ha hct hw hh hcol hsec hzo g0 g3 g4 g5 g61 hz hA hD hP hC hp (fun f hf hF h1 h2 => ⟨⟨_, Or.inr ⟨p, f, hF.1, hF.2.1, ⟨hF.2.2, hf, h1, h2⟩, fun q g1 g2 => hns q g1 (by have := hF.2.1; omega) g2, rfl⟩, rfl⟩, rfl, rfl, rfl, rfl⟩) (fun l12 l13 l14 l15 l16 hno => ?_) 12 0 _ _ _ _ rfl (bi_f (fun q => bi_0 h_113 q.2.2.2.2)).symm lt_no
                  refine xv_iincN11 (a := 1) fL_placeFor_315 (by decide) ?_
                  refine xv_goto fL_placeFor_318 ?_
                  refine ih (p + 1) _ _ _ _ _ (by omega) (fun q g1 g2 g3 g => ?_)
                  rcases Nat.lt_or_ge q p with e | e
                  · exact hns q g1 g2 e g
                  · obtain rfl : q = p := by omega
                    exact fun s => hno.elim (fun r => r ⟨g1, g2, s.1⟩) (fun r => r g s.2.1 s.2.2.1)
                · refine xv_k fL_placeFor_116 ?_
                  refine xv_goto fL_placeFor_117 ?_
                  refine xv_is12 fL_placeFor_121 ?_
                  refine xv_k fL_placeFor_123 ?_
                  refine xv_is13 fL_placeFor_124 ?_
                  refine l_pf2 n c I J ha hct hw hh hcol hsec hzo g0 g3 g4 g5 g61 hz hA hD hP hC hp (fun f hf hF h1 h2 => ⟨⟨_, Or.inr ⟨p, f, hF.1, hF.2.1, ⟨hF.2.2, hf, h1, h2⟩, fun q g1 g2 => hns q g1 (by have := hF.2.1; omega) g2, rfl⟩, rfl⟩, rfl, rfl, rfl, rfl⟩) (fun l12 l13 l14 l15 l16 hno => ?_) 12 0 _ _ _ _ rfl (bi_t ⟨((zone_f hz h_40).mp (len_of (by decide) (by omega) h_47)).1, ((zone_f hz h_40).mp (len_of (by decide) (by omega) h_47)).2, (Or.inr (h_77.symm.trans p3.symm)), (Or.inl (g3.trans h_89)), bi_1 h_113⟩).symm lt_no
                  refine xv_iincN11 (a := 1) fL_placeFor_315 (by decide) ?_
                  refine xv_goto fL_placeFor_318 ?_
                  refine ih (p + 1) _ _ _ _ _ (by omega) (fun q g1 g2 g3 g => ?_)
                  rcases Nat.lt_or_ge q p with e | e
                  · exact hns q g1 g2 e g
                  · obtain rfl : q = p := by omega
                    exact fun s => hno.elim (fun r => r ⟨g1, g2, s.1⟩) (fun r => r g s.2.1 s.2.2.1)
              · refine xv_al0 fL_placeFor_92 ?_
                refine xv_il11 fL_placeFor_93 ?_
                refine xv_ialdN fL_placeFor_95 (sx_60 _ _) (⟨hp, by decide⟩) ?_
                rw [p5]
                refine xv_k fL_placeFor_96 ?_
                refine xv_ic_le fL_placeFor_98 (fun h_98 => ?_) (fun h_98 => ?_)
                · refine xv_k fL_placeFor_120 ?_
                  refine xv_is12 fL_placeFor_121 ?_
                  refine xv_k fL_placeFor_123 ?_
                  refine xv_is13 fL_placeFor_124 ?_
                  refine l_pf2 n c I J ha hct hw hh hcol hsec hzo g0 g3 g4 g5 g61 hz hA hD hP hC hp (fun f hf hF h1 h2 => ⟨⟨_, Or.inr ⟨p, f, hF.1, hF.2.1, ⟨hF.2.2, hf, h1, h2⟩, fun q g1 g2 => hns q g1 (by have := hF.2.1; omega) g2, rfl⟩, rfl⟩, rfl, rfl, rfl, rfl⟩) (fun l12 l13 l14 l15 l16 hno => ?_) 12 0 _ _ _ _ rfl (bi_f (fun q => q.2.2.2.1.elim (fun e => h_89 (g3.symm.trans e)) (fun e => e (by rw [p4]; have := (nI_leI (by omega) (by decide)).mp h_98; rw [show pk = 0 by omega]; rfl)))).symm lt_no
                  refine xv_iincN11 (a := 1) fL_placeFor_315 (by decide) ?_
                  refine xv_goto fL_placeFor_318 ?_
                  refine ih (p + 1) _ _ _ _ _ (by omega) (fun q g1 g2 g3 g => ?_)
                  rcases Nat.lt_or_ge q p with e | e
                  · exact hns q g1 g2 e g
                  · obtain rfl : q = p := by omega
                    exact fun s => hno.elim (fun r => r ⟨g1, g2, s.1⟩) (fun r => r g s.2.1 s.2.2.1)
                · refine xv_al1 fL_placeFor_101 ?_
                  refine xv_al2 fL_placeFor_102 ?_
                  refine xv_al3 fL_placeFor_103 ?_
                  refine xv_al6 fL_placeFor_104 ?_
                  refine xv_il7 fL_placeFor_106 ?_
                  refine xv_il11 fL_placeFor_108 ?_
                  refine xv_callS6R (c_isFar n c I J (by omega) hp ⟨hct, g0, ⟨_, aL0, aL1, g61⟩, (by obtain ⟨ct9, f1, f2, f3, f4⟩ := (hA.2.2.2 a ha).f; exact f4)⟩ hD hA) fL_placeFor_110 YL_isFar VL_isFar lL_118 rfl (Nat.le_of_ble_eq_true rfl) (by decide) (by decide) (by decide) ?_
                  refine xv_if_eq fL_placeFor_113 (fun h_113 => ?_) (fun h_113 => ?_)
                  · refine xv_k fL_placeFor_120 ?_
                    refine xv_is12 fL_placeFor_121 ?_
                    refine xv_k fL_placeFor_123 ?_
                    refine xv_is13 fL_placeFor_124 ?_
                    refine l_pf2 n c I J ha hct hw hh hcol hsec hzo g0 g3 g4 g5 g61 hz hA hD hP hC hp (fun f hf hF h1 h2 => ⟨⟨_, Or.inr ⟨p, f, hF.1, hF.2.1, ⟨hF.2.2, hf, h1, h2⟩, fun q g1 g2 => hns q g1 (by have := hF.2.1; omega) g2, rfl⟩, rfl⟩, rfl, rfl, rfl, rfl⟩) (fun l12 l13 l14 l15 l16 hno => ?_) 12 0 _ _ _ _ rfl (bi_f (fun q => bi_0 h_113 q.2.2.2.2)).symm lt_no
                    refine xv_iincN11 (a := 1) fL_placeFor_315 (by decide) ?_
                    refine xv_goto fL_placeFor_318 ?_
                    refine ih (p + 1) _ _ _ _ _ (by omega) (fun q g1 g2 g3 g => ?_)
                    rcases Nat.lt_or_ge q p with e | e
                    · exact hns q g1 g2 e g
                    · obtain rfl : q = p := by omega
                      exact fun s => hno.elim (fun r => r ⟨g1, g2, s.1⟩) (fun r => r g s.2.1 s.2.2.1)
                  · refine xv_k fL_placeFor_116 ?_
                    refine xv_goto fL_placeFor_117 ?_
                    refine xv_is12 fL_placeFor_121 ?_
                    refine xv_k fL_placeFor_123 ?_
                    refine xv_is13 fL_placeFor_124 ?_
                    refine l_pf2 n c I J ha hct hw hh hcol hsec hzo g0 g3 g4 g5 g61 hz hA hD hP hC hp (fun f hf hF h1 h2 => ⟨⟨_, Or.inr ⟨p, f, hF.1, hF.2.1, ⟨hF.2.2, hf, h1, h2⟩, fun q g1 g2 => hns q g1 (by have := hF.2.1; omega) g2, rfl⟩, rfl⟩, rfl, rfl, rfl, rfl⟩) (fun l12 l13 l14 l15 l16 hno => ?_) 12 0 _ _ _ _ rfl (bi_t ⟨((zone_f hz h_40).mp (len_of (by decide) (by omega) h_47)).1, ((zone_f hz h_40).mp (len_of (by decide) (by omega) h_47)).2, (Or.inr (h_77.symm.trans p3.symm)), (Or.inr (fun q => h_98 (by have : pk = 0 := Classical.byContradiction fun z => nI_ne0 (Nat.pos_of_ne_zero z) (by omega) (p4.symm.trans q); exact nI_le (by omega) (by decide)))), bi_1 h_113⟩).symm lt_no
                    refine xv_iincN11 (a := 1) fL_placeFor_315 (by decide) ?_
                    refine xv_goto fL_placeFor_318 ?_
                    refine ih (p + 1) _ _ _ _ _ (by omega) (fun q g1 g2 g3 g => ?_)
                    rcases Nat.lt_or_ge q p with e | e
                    · exact hns q g1 g2 e g
                    · obtain rfl : q = p := by omega
                      exact fun s => hno.elim (fun r => r ⟨g1, g2, s.1⟩) (fun r => r g s.2.1 s.2.2.1)

theorem c_placeFor (n : Nat) (c : Nat × Nat) (I : xv_I) (J : xv_J) {a ct w h col sec zo lo hi : Nat} (ha : a < c.1) (hct : ct < 4) (hw : 1 ≤ w ∧ w ≤ 3) (hh : 1 ≤ h ∧ h ≤ 4) (hcol : col < 2) (hsec : sec ≤ 4) (hzo : zo ≤ 3) (g0 : I (100 + a) 0 = nI ct) (g3 : I (100 + a) 3 = nI col) (g4 : opt (I (100 + a) 4) sec) (g5 : opt (I (100 + a) 5) zo) (g61 : I 61 a = nI (adv ct w h col sec zo)) (hz : zone (I (100 + a) 5) lo hi) (hA : gAd c I) (hD : gDist I) (hP : gPage I) (hC : gC I) : xv_Met mL_placeFor 1 0 0 (sx n c) I (rx c) J [.ref 60, .ref 61, .ref 62, .ref 65, .ref 66, .ref 67, .ref 69, .int (nI a)] (fun o s i r j => (∃ v, PlV c I a ct w h lo hi v ∧ o = .inl (some (.int v))) ∧ s = sx n c ∧ i = I ∧ r = rx c ∧ j = J) := by
  refine xv_Met.of (by decide +kernel) (Nat.le_of_ble_eq_true rfl) (List.forall_mem_cons.mpr ⟨rfl, List.forall_mem_cons.mpr ⟨rfl, List.forall_mem_cons.mpr ⟨rfl, List.forall_mem_cons.mpr ⟨rfl, List.forall_mem_cons.mpr ⟨rfl, List.forall_mem_cons.mpr ⟨rfl, List.forall_mem_cons.mpr ⟨rfl, List.forall_mem_cons.mpr ⟨rfl, fun _ h => nomatch h⟩⟩⟩⟩⟩⟩⟩⟩) ?_
  have hn9 := hA.2.2.1
  have aL := adv_lt hct hw.2 hh.2 hcol hsec hzo
  obtain ⟨aL0, aL1, aL2, aL3, aL4, aL5, aL6⟩ := aL
  show xv_W mL_placeFor 1 0 0 _ 0 0 (sx n c) I (rx c) J 0 [some (.ref 60), some (.ref 61), some (.ref 62), some (.ref 65), some (.ref 66), some (.ref 67), some (.ref 69), some (.int (nI a)), none, none, none, none, none, none, none, none, none] []
  refine xv_al1 fL_placeFor_0 ?_
  refine xv_il7 fL_placeFor_1 ?_
  refine xv_ialdN fL_placeFor_3 (sx_61 _ _) (⟨by omega, by decide⟩) ?_
  rw [g61]
  refine xv_is8 fL_placeFor_4 ?_
  refine xv_il8 fL_placeFor_6 ?_
  refine xv_k fL_placeFor_8 ?_
  refine xv_idiv fL_placeFor_10 (by decide) ?_
  refine xv_eqi (y := nI zo) (by rw [nI_div aL0 (by decide), aL6]) ?_
  refine xv_k fL_placeFor_11 ?_
  refine xv_isub fL_placeFor_12 ?_
  refine xv_eqi (y := I (100 + a) 5) (opt_eq opt_sub g5) ?_
  refine xv_is9 fL_placeFor_13 ?_
  refine xv_il8 fL_placeFor_15 ?_
  refine xv_k fL_placeFor_17 ?_
  refine xv_idiv fL_placeFor_20 (by decide) ?_
  refine xv_eqi (y := nI (adv ct w h col sec zo / 10000)) (nI_div aL0 (by decide)) ?_
  refine xv_k fL_placeFor_21 ?_
  refine xv_irem fL_placeFor_23 (by decide) ?_
  refine xv_eqi (y := nI sec) (by rw [nI_rem (by omega) (by decide), aL5]) ?_
  refine xv_k fL_placeFor_24 ?_
  refine xv_isub fL_placeFor_25 ?_
  refine xv_eqi (y := I (100 + a) 4) (opt_eq opt_sub g4) ?_
  refine xv_is10 fL_placeFor_26 ?_
  refine xv_k fL_placeFor_28 ?_
  refine xv_is11 fL_placeFor_29 ?_
  exact l_pf3 n c I J ha hct hw hh hcol hsec hzo g0 g3 g4 g5 g61 hz hA hD hP hC 10 0 _ _ _ _ _ rfl (fun q _ _ h => absurd h (Nat.not_lt_zero q))
