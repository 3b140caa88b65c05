theorem l_clsum (n : Nat) (c : Nat × Nat) (I : xv_I) (J : xv_J) {D MC MS : Nat} {Q : xv_Q} (hDD : 12 ≤ D + 1) (hI : Inv c I) {p kc ks : Nat} (hp : p < 10) {l8 l9 l10 l11 l15 l16 : Option Value} (kk : ∀ s l14, s < 5000 → (s = 0 ↔ ∀ j, j < 12 → I (3 + p) j = 0) → xv_W mL_isClosed D MC MS Q kc ks (sx n c) I (rx c) J 73 (some (.ref 0) :: some (.ref 60) :: some (.ref 63) :: some (.ref 64) :: some (.ref 66) :: some (.ref 67) :: some (.ref 68) :: some (.ref 69) :: l8 :: l9 :: l10 :: l11 :: some (.int (nI p)) :: some (.int (nI s)) :: l14 :: l15 :: l16 :: []) []) : ∀ (u k s : Nat), k + u = 12 → s ≤ 320 * k → (s = 0 ↔ ∀ j, j < k → I (3 + p) j = 0) → xv_W mL_isClosed D MC MS Q kc ks (sx n c) I (rx c) J 44 (some (.ref 0) :: some (.ref 60) :: some (.ref 63) :: some (.ref 64) :: some (.ref 66) :: some (.ref 67) :: some (.ref 68) :: some (.ref 69) :: l8 :: l9 :: l10 :: l11 :: some (.int (nI p)) :: some (.int (nI s)) :: some (.int (nI k)) :: l15 :: l16 :: []) [] := by
  intro u
  induction u with
  | zero =>
    intro k s hu hs hz
    obtain rfl : k = 12 := by omega
    show xv_W mL_isClosed D MC MS _ kc ks (sx n c) I (rx c) J 44 (some (.ref 0) :: some (.ref 60) :: some (.ref 63) :: some (.ref 64) :: some (.ref 66) :: some (.ref 67) :: some (.ref 68) :: some (.ref 69) :: l8 :: l9 :: l10 :: l11 :: some (.int (nI p)) :: some (.int (nI s)) :: some (.int (nI 12)) :: l15 :: l16 :: []) []
    refine xv_il14 fL_isClosed_44 ?_
    refine xv_k fL_isClosed_46 ?_
    refine xv_ic_ge fL_isClosed_48 (fun h_48 => ?_) (fun h_48 => ?_)
    · exact kk s _ (by omega) hz
    · exact absurd (by decide) h_48
  | succ u ih =>
    intro k s hu hs hz
    have hk : k < 12 := by omega
    obtain ⟨v, v1, v2, v3⟩ := hI.ok p hp k hk
    have hv := gOk.lt v1 hI.ad.2.2.1 hI.st.2.2.1
    have e := (hI.2.1 p hp k hk).symm.trans v3
    show xv_W mL_isClosed D MC MS _ kc ks (sx n c) I (rx c) J 44 (some (.ref 0) :: some (.ref 60) :: some (.ref 63) :: some (.ref 64) :: some (.ref 66) :: some (.ref 67) :: some (.ref 68) :: some (.ref 69) :: l8 :: l9 :: l10 :: l11 :: some (.int (nI p)) :: some (.int (nI s)) :: some (.int (nI k)) :: l15 :: l16 :: []) []
    refine xv_il14 fL_isClosed_44 ?_
    refine xv_k fL_isClosed_46 ?_
    refine xv_ic_ge fL_isClosed_48 (fun h_48 => ?_) (fun h_48 => ?_)
    · exact absurd h_48 (nI_ge hk (by decide))
    · refine xv_il13 fL_isClosed_51 ?_
      refine xv_al4 fL_isClosed_53 ?_
      refine xv_al5 fL_isClosed_55 ?_
      refine xv_il12 fL_isClosed_57 ?_
      refine xv_il14 fL_isClosed_59 ?_
      refine xv_callS4R (c_cell n c I J hp hk) fL_isClosed_61 YL_cell VL_cell lL_96 rfl (Nat.le_of_ble_eq_true rfl) (by omega) (by omega) (by omega) ?_
      rw [e]
      refine xv_iadd fL_isClosed_64 ?_
      refine xv_eqi (y := nI (s + v)) (nI_add _ _) ?_
      refine xv_is13 fL_isClosed_65 ?_
      refine xv_iincN14 (a := 1) fL_isClosed_67 (by decide) ?_
      refine xv_goto fL_isClosed_70 ?_
      exact ih (k + 1) (s + v) (by omega) (by omega) ⟨fun q => lt_or (hz.mp (by omega)) (by rw [v3, show v = 0 by omega]; rfl), fun q => by
        have h0 := hz.mpr (fun j hj => q j (by omega))
        have h9 := q k (Nat.lt_succ_self k)
        rw [v3] at h9
        have : v = 0 := Classical.byContradiction fun z => nI_ne0 (Nat.pos_of_ne_zero z) (by omega) h9
        omega⟩

theorem l_clcan (n : Nat) (c : Nat × Nat) (I : xv_I) (J : xv_J) {D MC MS : Nat} {Q : xv_Q} (hDD : 12 ≤ D + 1) (hI : Inv c I) {w e kc ks : Nat} {l8 l9 l10 l15 l16 : Option Value} (kk : ∀ l12 l13 l14, xv_W mL_isClosed D MC MS Q kc ks (sx n c) I (rx c) J 117 (some (.ref 0) :: some (.ref 60) :: some (.ref 63) :: some (.ref 64) :: some (.ref 66) :: some (.ref 67) :: some (.ref 68) :: some (.ref 69) :: l8 :: l9 :: l10 :: some (.int (bi ((w = 0 ∧ e < 8) ∧ ∀ p, p < 10 → xReady I p))) :: l12 :: l13 :: l14 :: l15 :: l16 :: []) []) : ∀ (u k : Nat) (l11 : Int32) (l13 l14 : Option Value), k + u = 10 → l11 = bi ((w = 0 ∧ e < 8) ∧ ∀ p, p < k → xReady I p) → xv_W mL_isClosed D MC MS Q kc ks (sx n c) I (rx c) J 31 (some (.ref 0) :: some (.ref 60) :: some (.ref 63) :: some (.ref 64) :: some (.ref 66) :: some (.ref 67) :: some (.ref 68) :: some (.ref 69) :: l8 :: l9 :: l10 :: some (.int (l11)) :: some (.int (nI k)) :: l13 :: l14 :: l15 :: l16 :: []) [] := by
  intro u
  induction u with
  | zero =>
    intro k l11 l13 l14 hu h11
    obtain rfl : k = 10 := by omega
    subst h11
    show xv_W mL_isClosed D MC MS _ kc ks (sx n c) I (rx c) J 31 (some (.ref 0) :: some (.ref 60) :: some (.ref 63) :: some (.ref 64) :: some (.ref 66) :: some (.ref 67) :: some (.ref 68) :: some (.ref 69) :: l8 :: l9 :: l10 :: some (.int (bi ((w = 0 ∧ e < 8) ∧ ∀ p, p < 10 → xReady I p))) :: some (.int (nI 10)) :: l13 :: l14 :: l15 :: l16 :: []) []
    refine xv_il12 fL_isClosed_31 ?_
    refine xv_k fL_isClosed_33 ?_
    refine xv_ic_ge fL_isClosed_35 (fun h_35 => ?_) (fun h_35 => ?_)
    · exact kk _ _ _
    · exact absurd (by decide) h_35
  | succ u ih =>
    intro k l11 l13 l14 hu h11
    have hk : k < 10 := by omega
    obtain ⟨b, hb, e15, e64, _⟩ := hI.2.2.2 k hk
    obtain ⟨bh, hbh, e16, eH, _⟩ := hI.hold k hk
    have hpl := pop_le b
    show xv_W mL_isClosed D MC MS _ kc ks (sx n c) I (rx c) J 31 (some (.ref 0) :: some (.ref 60) :: some (.ref 63) :: some (.ref 64) :: some (.ref 66) :: some (.ref 67) :: some (.ref 68) :: some (.ref 69) :: l8 :: l9 :: l10 :: some (.int (l11)) :: some (.int (nI k)) :: l13 :: l14 :: l15 :: l16 :: []) []
    refine xv_il12 fL_isClosed_31 ?_
    refine xv_k fL_isClosed_33 ?_
    refine xv_ic_ge fL_isClosed_35 (fun h_35 => ?_) (fun h_35 => ?_)
    · exact absurd h_35 (nI_ge hk (by decide))
    · refine xv_k fL_isClosed_38 ?_
      refine xv_is13 fL_isClosed_39 ?_
      refine xv_k fL_isClosed_41 ?_
      refine xv_is14 fL_isClosed_42 ?_
      refine l_clsum n c I J hDD hI hk (fun s l14 hs hz => ?_) 12 0 0 rfl (Nat.le_refl _) ⟨fun _ => lt_no, fun _ => rfl⟩
      refine xv_il11 fL_isClosed_73 ?_
      refine xv_if_eq fL_isClosed_75 (fun h_75 => ?_) (fun h_75 => ?_)
      · refine xv_k fL_isClosed_108 ?_
        refine xv_is11 fL_isClosed_109 ?_
        refine xv_iincN12 (a := 1) fL_isClosed_111 (by decide) ?_
        refine xv_goto fL_isClosed_114 ?_
        exact ih (k + 1) _ _ _ (by omega) (bi_f (fun q => bi_0 (h11 ▸ h_75) ⟨q.1, fun p hp => q.2 p (by omega)⟩)).symm
      · refine xv_al3 fL_isClosed_78 ?_
        refine xv_k fL_isClosed_79 ?_
        refine xv_il12 fL_isClosed_81 ?_
        refine xv_iadd fL_isClosed_83 ?_
        refine xv_eqi (y := nI (10 + k)) (nI_add _ _) ?_
        refine xv_ialdN fL_isClosed_84 (sx_64 _ _) (⟨by omega, by decide⟩) ?_
        rw [eH]
        refine xv_if_ne fL_isClosed_85 (fun h_85 => ?_) (fun h_85 => ?_)
        · refine xv_k fL_isClosed_108 ?_
          refine xv_is11 fL_isClosed_109 ?_
          refine xv_iincN12 (a := 1) fL_isClosed_111 (by decide) ?_
          refine xv_goto fL_isClosed_114 ?_
          exact ih (k + 1) _ _ _ (by omega) (bi_f (fun q => h_85 (e16.symm.trans (q.2 k (Nat.lt_succ_self k)).1))).symm
        · refine xv_il13 fL_isClosed_88 ?_
          refine xv_if_eq fL_isClosed_90 (fun h_90 => ?_) (fun h_90 => ?_)
          · refine xv_k fL_isClosed_104 ?_
            refine xv_goto fL_isClosed_105 ?_
            refine xv_is11 fL_isClosed_109 ?_
            refine xv_iincN12 (a := 1) fL_isClosed_111 (by decide) ?_
            refine xv_goto fL_isClosed_114 ?_
            exact ih (k + 1) _ _ _ (by omega) (bi_t ⟨(bi_1 (h11 ▸ h_75)).1, lt_or (bi_1 (h11 ▸ h_75)).2 ⟨e16.trans h_85, Or.inl (hz.mp (Classical.byContradiction fun z => nI_ne0 (Nat.pos_of_ne_zero z) (by omega) h_90))⟩⟩).symm
          · refine xv_al3 fL_isClosed_93 ?_
            refine xv_il12 fL_isClosed_94 ?_
            refine xv_ialdN fL_isClosed_96 (sx_64 _ _) (⟨by omega, by decide⟩) ?_
            rw [e64]
            refine xv_callS1R (c_count n c I J) fL_isClosed_97 YL_count VL_count lL_103 rfl (Nat.le_of_ble_eq_true rfl) (by omega) (by omega) (by omega) ?_
            rw [xCn_n b hb]
            refine xv_k fL_isClosed_100 ?_
            refine xv_ic_le fL_isClosed_101 (fun h_101 => ?_) (fun h_101 => ?_)
            · refine xv_k fL_isClosed_108 ?_
              refine xv_is11 fL_isClosed_109 ?_
              refine xv_iincN12 (a := 1) fL_isClosed_111 (by decide) ?_
              refine xv_goto fL_isClosed_114 ?_
              exact ih (k + 1) _ _ _ (by omega) (bi_f (fun q => (q.2 k (Nat.lt_succ_self k)).2.elim (fun z => h_90 (by rw [hz.mpr z]; rfl)) (fun z => z (by rw [e15, xBC_n b hb]; exact nI_lt (by have := (nI_leI (by omega) (by decide)).mp h_101; omega) (by decide))))).symm
            · refine xv_k fL_isClosed_104 ?_
              refine xv_goto fL_isClosed_105 ?_
              refine xv_is11 fL_isClosed_109 ?_
              refine xv_iincN12 (a := 1) fL_isClosed_111 (by decide) ?_
              refine xv_goto fL_isClosed_114 ?_
              exact ih (k + 1) _ _ _ (by omega) (bi_t ⟨(bi_1 (h11 ▸ h_75)).1, lt_or (bi_1 (h11 ▸ h_75)).2 ⟨e16.trans h_85, Or.inr (fun z => h_101 (by rw [e15, xBC_n b hb] at z; exact nI_le (by have := (nI_ltI (by omega) (by decide)).mp z; omega) (by decide)))⟩⟩).symm

theorem l_clpr (n : Nat) (c : Nat × Nat) (J : xv_J) {D MC MS : Nat} {Q : xv_Q} (hDD : 12 ≤ D + 1) {K : xv_I} {e k0 s0 : Nat} (he : e < 8) (h29 : K 29 2 = nI (e + 1)) (hp : ∀ p, p < 10 → ∀ k, k < 12 → K (31 + e) (12 * p + k) = cE K p k) {l8 l9 l10 l15 l16 : Option Value} (kk : ∀ l14, xv_W mL_isClosed D MC MS Q k0 s0 (sx n c) K (rx c) J 226 (some (.ref 0) :: some (.ref 60) :: some (.ref 63) :: some (.ref 64) :: some (.ref 66) :: some (.ref 67) :: some (.ref 68) :: some (.ref 69) :: l8 :: l9 :: l10 :: some (.int (nI 1)) :: some (.int (nI e)) :: some (.int (nI 1)) :: l14 :: l15 :: l16 :: []) []) : ∀ (u k kc ks : Nat), k + u = 120 → k0 + 16 * u ≤ kc → s0 + 128 * u ≤ ks → xv_W mL_isClosed D MC MS Q kc ks (sx n c) K (rx c) J 160 (some (.ref 0) :: some (.ref 60) :: some (.ref 63) :: some (.ref 64) :: some (.ref 66) :: some (.ref 67) :: some (.ref 68) :: some (.ref 69) :: l8 :: l9 :: l10 :: some (.int (nI 1)) :: some (.int (nI e)) :: some (.int (nI 1)) :: some (.int (nI k)) :: l15 :: l16 :: []) [] := by
  intro u
  induction u with
  | zero =>
    intro k kc ks hu hkc hks
    obtain rfl : k = 120 := by omega
    show xv_W mL_isClosed D MC MS _ kc ks (sx n c) K (rx c) J 160 (some (.ref 0) :: some (.ref 60) :: some (.ref 63) :: some (.ref 64) :: some (.ref 66) :: some (.ref 67) :: some (.ref 68) :: some (.ref 69) :: l8 :: l9 :: l10 :: some (.int (nI 1)) :: some (.int (nI e)) :: some (.int (nI 1)) :: some (.int (nI 120)) :: l15 :: l16 :: []) []
    refine xv_il14 fL_isClosed_160 ?_
    refine xv_k fL_isClosed_162 ?_
    refine xv_ic_ge fL_isClosed_164 (fun h_164 => ?_) (fun h_164 => ?_)
    · exact xv_less (by omega) (by omega) (kk _)
    · exact absurd (by decide) h_164
  | succ u ih =>
    intro k kc ks hu hkc hks
    have hk : k < 120 := by omega
    have hpk := hp (k / 12) (by omega) (k % 12) (by omega)
    show xv_W mL_isClosed D MC MS _ kc ks (sx n c) K (rx c) J 160 (some (.ref 0) :: some (.ref 60) :: some (.ref 63) :: some (.ref 64) :: some (.ref 66) :: some (.ref 67) :: some (.ref 68) :: some (.ref 69) :: l8 :: l9 :: l10 :: some (.int (nI 1)) :: some (.int (nI e)) :: some (.int (nI 1)) :: some (.int (nI k)) :: l15 :: l16 :: []) []
    refine xv_il14 fL_isClosed_160 ?_
    refine xv_k fL_isClosed_162 ?_
    refine xv_ic_ge fL_isClosed_164 (fun h_164 => ?_) (fun h_164 => ?_)
    · exact absurd h_164 (nI_ge hk (by decide))
    · refine xv_il11 fL_isClosed_167 ?_
      refine xv_if_eq fL_isClosed_169 (fun h_169 => ?_) (fun h_169 => ?_)
      · exact absurd h_169 (by decide)
      · refine xv_il13 fL_isClosed_172 ?_
        refine xv_if_eq fL_isClosed_174 (fun h_174 => ?_) (fun h_174 => ?_)
        · exact absurd h_174 (by decide)
        · refine xv_al0 fL_isClosed_177 ?_
          refine xv_il12 fL_isClosed_178 ?_
          refine xv_il14 fL_isClosed_180 ?_
          refine xv_k fL_isClosed_182 ?_
          refine xv_idiv fL_isClosed_184 (by decide) ?_
          refine xv_eqi (y := nI (k / 12)) (nI_div (by omega) (by decide)) ?_
          refine xv_il14 fL_isClosed_185 ?_
          refine xv_k fL_isClosed_187 ?_
          refine xv_irem fL_isClosed_189 (by decide) ?_
          refine xv_eqi (y := nI (k % 12)) (nI_rem (by omega) (by decide)) ?_
          refine xv_callV3R (p_printed_ok n c K J (e := e) (w := e + 1) (by omega) (by omega) h29 (p := k / 12) (by omega) (k := k % 12) (by omega)) fL_isClosed_190 YX10_printed VX10_printed lL_71 rfl rfl (sx_0 _ _) (Nat.le_of_ble_eq_true rfl) (by omega) (by omega) (by omega) ?_
          rw [hpk]
          refine xv_al4 fL_isClosed_193 ?_
          refine xv_al5 fL_isClosed_195 ?_
          refine xv_il14 fL_isClosed_197 ?_
          refine xv_k fL_isClosed_199 ?_
          refine xv_idiv fL_isClosed_201 (by decide) ?_
          refine xv_eqi (y := nI (k / 12)) (nI_div (by omega) (by decide)) ?_
          refine xv_il14 fL_isClosed_202 ?_
          refine xv_k fL_isClosed_204 ?_
          refine xv_irem fL_isClosed_206 (by decide) ?_
          refine xv_eqi (y := nI (k % 12)) (nI_rem (by omega) (by decide)) ?_
          refine xv_callS4R (c_cell n c K J (p := k / 12) (by omega) (k := k % 12) (by omega)) fL_isClosed_207 YL_cell VL_cell lL_96 rfl (Nat.le_of_ble_eq_true rfl) (by omega) (by omega) (by omega) ?_
          refine xv_ic_ne fL_isClosed_210 (fun h_210 => ?_) (fun h_210 => ?_)
          · exact absurd rfl h_210
          · refine xv_k fL_isClosed_213 ?_
            refine xv_goto fL_isClosed_214 ?_
            refine xv_is13 fL_isClosed_218 ?_
            refine xv_iincN14 (a := 1) fL_isClosed_220 (by decide) ?_
            refine xv_goto fL_isClosed_223 ?_
            exact ih (k + 1) _ _ (by omega) (by omega) (by omega)

theorem k_close_ok (n : Nat) (c : Nat × Nat) (I : xv_I) (J : xv_J) {one two : Nat} (h1 : one < 2 ^ 31) (h2 : two < 2 ^ 31) (hn : n < 1000) (hI : Inv c I) (hcan0 : ∀ w e, I 29 4 = nI w → I 29 2 = nI e → w ≤ 5 → e ≤ 8 → (w = 0 ∧ e < 8) ∧ ∀ p, p < 10 → xReady I p) : xv_Met mL_isClosed 11 2100 16800 (sx n c) I (rx c) J [.ref 0, .ref 60, .ref 63, .ref 64, .ref 66, .ref 67, .ref 68, .ref 69, .int (nI 0), .int (nI one), .int (nI two)] (qI n J) := by
  have hn8 := hI.st.2.2.1
  have e691 := hI.st.2.1
  have hn9 := hI.ad.2.2.1
  obtain ⟨e, he8, e29, e693⟩ := hI.ed
  obtain ⟨w, hw5, e294, e694, ho⟩ := hI.owe
  obtain ⟨t9, ht9, t16, t692⟩ := hI.2.2.1
  have hcan := hcan0 w e e294 e29 hw5 he8
  have hx : ((∀ p, p < 10 → xReady I p) ∧ ¬ nI 0 < I 29 4 ∧ I 29 2 < nI 8) := ⟨hcan.2, by rw [e294, hcan.1.1]; decide, by rw [e29]; exact nI_lt hcan.1.2 (by decide)⟩
  obtain ⟨K1, hK1⟩ : ∃ K1, K1 = xv_u (xKept e (I 0 9) I) 1 6 (nI 0) := ⟨_, rfl⟩
  have A1 := cl_at e (I 0 9) I
  rw [← hK1] at A1
  have k29 : K1 29 2 = nI (e + 1) := by rw [A1, if_neg (by omega), if_pos ⟨rfl, rfl⟩]
  have kO : ∀ v j, (v ≠ 1 ∨ j ≠ 6) → (v ≠ 29 ∨ j ≠ 2) → v ≠ 39 → v ≠ 31 + e → K1 v j = I v j := fun v j g1 g2 g3 g4 => by rw [A1, if_neg (by omega), if_neg (by omega), if_neg (by omega), if_neg (by omega)]
  have k693 : K1 69 3 = nI e := (kO _ _ (by omega) (by omega) (by omega) (by omega)).trans e693
  have kP : ∀ p, p < 10 → ∀ k, k < 12 → K1 (31 + e) (12 * p + k) = cE K1 p k := fun p hp k hk => by
    rw [A1, if_neg (by omega), if_neg (by omega), if_neg (by omega), if_pos ⟨rfl, by omega⟩, show (12 * p + k) / 12 = p by omega, show (12 * p + k) % 12 = k by omega, cE_to (I := I) fun v j g => kO v j (by omega) (by omega) (by omega) (by omega)]
    exact hI.2.1 p hp k hk
  have hN : Inv c (xv_u (xv_u K1 69 3 (nI (e + 1))) 69 2 (nI 0)) := by
    refine hI.closed hcan.1.2 ?_ ?_ ?_ (xv_u_eq _ _ _ _) (fun v j g1 g2 g3 g4 g5 => ?_)
    · rw [xv_u_ne _ _ _ (by decide), xv_u_ne _ _ _ (by decide), A1, if_pos ⟨rfl, rfl⟩]
    · rw [xv_u_ne _ _ _ (by decide), xv_u_ne _ _ _ (by decide)]; exact k29
    · rw [xv_u_nk _ _ _ (by decide), xv_u_eq]
    · rw [show xv_u (xv_u K1 69 3 (nI (e + 1))) 69 2 (nI 0) v j = K1 v j from (if_neg (by omega)).trans (if_neg (by omega))]
      exact kO v j g1 g2 g3 g4
  refine xv_Met.of (by decide +kernel) (Nat.le_of_ble_eq_true rfl) (List.forall_mem_cons.mpr ⟨rfl, List.forall_mem_cons.mpr ⟨rfl, List.forall_mem_cons.mpr ⟨rfl, List.forall_mem_cons.mpr ⟨rfl, List.forall_mem_cons.mpr ⟨rfl, List.forall_mem_cons.mpr ⟨rfl, List.forall_mem_cons.mpr ⟨rfl, List.forall_mem_cons.mpr ⟨rfl, List.forall_mem_cons.mpr ⟨rfl, List.forall_mem_cons.mpr ⟨rfl, List.forall_mem_cons.mpr ⟨rfl, fun _ h => nomatch h⟩⟩⟩⟩⟩⟩⟩⟩⟩⟩⟩) ?_
  show xv_W mL_isClosed 11 2100 16800 _ 2100 16800 (sx n c) I (rx c) J 0 [some (.ref 0), some (.ref 60), some (.ref 63), some (.ref 64), some (.ref 66), some (.ref 67), some (.ref 68), some (.ref 69), some (.int (nI 0)), some (.int (nI one)), some (.int (nI two)), none, none, none, none, none, none] []
  refine xv_il8 fL_isClosed_0 ?_
  refine xv_if_ne fL_isClosed_2 (fun h_2 => ?_) (fun h_2 => ?_)
  · exact absurd h_2 (by decide)
  · refine xv_al7 fL_isClosed_5 ?_
    refine xv_k fL_isClosed_7 ?_
    refine xv_ialdN fL_isClosed_8 (sx_69 _ _) (⟨by omega, by decide⟩) ?_
    rw [e694]
    refine xv_if_ne fL_isClosed_9 (fun h_9 => ?_) (fun h_9 => ?_)
    · refine xv_k fL_isClosed_25 ?_
      refine xv_is11 fL_isClosed_26 ?_
      refine xv_k fL_isClosed_28 ?_
      refine xv_is12 fL_isClosed_29 ?_
      refine l_clcan n c I J (by decide) hI (w := w) (e := e) (fun l12 l13 l14 => ?_) 10 0 _ _ _ rfl (bi_f (fun q => h_9 (by rw [q.1.1]; rfl))).symm
      rw [bi_t hcan]
      refine xv_al0 fL_isClosed_117 ?_
      refine xv_k fL_isClosed_118 ?_
      refine xv_k fL_isClosed_120 ?_
      refine xv_k fL_isClosed_121 ?_
      refine xv_k fL_isClosed_122 ?_
      refine xv_k fL_isClosed_123 ?_
      refine xv_k fL_isClosed_124 ?_
      refine xv_callS7R (w_close_ok n c c J (I' := K1) (by rw [hK1]; exact p_close_ok n c I J e29 hcan.1.2 hx)) fL_isClosed_125 YL_does VL_does lL_113 rfl (Nat.le_of_ble_eq_true rfl) (by decide) (by decide) (by decide) ?_
      refine xv_is12 fL_isClosed_128 ?_
      refine xv_il12 fL_isClosed_130 ?_
      refine xv_il11 fL_isClosed_132 ?_
      refine xv_if_eq fL_isClosed_134 (fun h_134 => ?_) (fun h_134 => ?_)
      · exact absurd h_134 (by decide)
      · refine xv_al7 fL_isClosed_137 ?_
        refine xv_k fL_isClosed_139 ?_
        refine xv_ialdN fL_isClosed_140 (sx_69 _ _) (⟨by omega, by decide⟩) ?_
        rw [k693]
        refine xv_goto fL_isClosed_141 ?_
        refine xv_ic_ne fL_isClosed_147 (fun h_147 => ?_) (fun h_147 => ?_)
        · exact absurd rfl h_147
        · refine xv_k fL_isClosed_150 ?_
          refine xv_goto fL_isClosed_151 ?_
          refine xv_is13 fL_isClosed_155 ?_
          refine xv_k fL_isClosed_157 ?_
          refine xv_is14 fL_isClosed_158 ?_
          refine l_clpr n c J (by decide) hcan.1.2 k29 kP (k0 := 100) (s0 := 1000) (fun l14 => ?_) 120 0 _ _ rfl (by decide) (by decide)
          refine xv_al7 fL_isClosed_226 ?_
          refine xv_k fL_isClosed_228 ?_
          refine xv_dup2 fL_isClosed_229 ?_
          refine xv_ialdN fL_isClosed_230 (sx_69 _ _) (⟨by omega, by decide⟩) ?_
          rw [k693]
          refine xv_il11 fL_isClosed_231 ?_
          refine xv_if_eq fL_isClosed_233 (fun h_233 => ?_) (fun h_233 => ?_)
          · exact absurd h_233 (by decide)
          · refine xv_k fL_isClosed_236 ?_
            refine xv_goto fL_isClosed_237 ?_
            refine xv_iadd fL_isClosed_241 ?_
            refine xv_eqi (y := nI (e + 1)) (nI_add _ _) ?_
            refine xv_iastN fL_isClosed_242 (sx_69 _ _) (⟨by omega, by decide⟩) ?_
            refine xv_al7 fL_isClosed_243 ?_
            refine xv_k fL_isClosed_245 ?_
            refine xv_il11 fL_isClosed_246 ?_
            refine xv_if_eq fL_isClosed_248 (fun h_248 => ?_) (fun h_248 => ?_)
            · exact absurd h_248 (by decide)
            · refine xv_k fL_isClosed_251 ?_
              refine xv_goto fL_isClosed_252 ?_
              refine xv_iastN fL_isClosed_259 (sx_69 _ _) (⟨by omega, by decide⟩) ?_
              refine xv_il13 fL_isClosed_260 ?_
              refine xv_if_eq fL_isClosed_262 (fun h_262 => ?_) (fun h_262 => ?_)
              · exact absurd h_262 (by decide)
              · refine xv_al0 fL_isClosed_265 ?_
                refine xv_k fL_isClosed_266 ?_
                refine xv_al7 fL_isClosed_268 ?_
                refine xv_k fL_isClosed_270 ?_
                refine xv_ialdN fL_isClosed_271 (sx_69 _ _) (⟨by omega, by decide⟩) ?_
                rw [xv_u_nk _ _ _ (by decide), xv_u_eq]
                refine xv_k fL_isClosed_272 ?_
                refine xv_k fL_isClosed_273 ?_
                refine xv_k fL_isClosed_274 ?_
                refine xv_k fL_isClosed_275 ?_
                refine xv_callS7R (w_printed_I n c c J (p_printed_a n c _ J (x := nI (e + 1)) (Or.inr (by rw [xv_u_ne _ _ _ (by decide), xv_u_ne _ _ _ (by decide), k29]; exact nI_nlt (Nat.le_refl _) (by omega))) (y := nI 0) (z := nI 0))) fL_isClosed_276 YL_does VL_does lL_113 rfl (Nat.le_of_ble_eq_true rfl) (by decide) (by decide) (by decide) ?_
                refine xv_k fL_isClosed_279 ?_
                refine xv_ic_ne fL_isClosed_282 (fun h_282 => ?_) (fun h_282 => ?_)
                · exact absurd rfl h_282
                · refine xv_k fL_isClosed_285 ?_
                  refine xv_goto fL_isClosed_286 ?_
                  exact xv_iret fL_isClosed_290 rfl rfl ⟨rfl, c, rfl, rfl, rfl, hN⟩
    · refine xv_al7 fL_isClosed_12 ?_
      refine xv_k fL_isClosed_14 ?_
      refine xv_ialdN fL_isClosed_15 (sx_69 _ _) (⟨by omega, by decide⟩) ?_
      rw [e693]
      refine xv_k fL_isClosed_16 ?_
      refine xv_ic_ge fL_isClosed_18 (fun h_18 => ?_) (fun h_18 => ?_)
      · refine xv_k fL_isClosed_25 ?_
        refine xv_is11 fL_isClosed_26 ?_
        refine xv_k fL_isClosed_28 ?_
        refine xv_is12 fL_isClosed_29 ?_
        refine l_clcan n c I J (by decide) hI (w := w) (e := e) (fun l12 l13 l14 => ?_) 10 0 _ _ _ rfl (bi_f (fun q => absurd q.1.2 (Nat.not_lt.mpr ((nI_leI (by decide) (by omega)).mp h_18)))).symm
        rw [bi_t hcan]
        refine xv_al0 fL_isClosed_117 ?_
        refine xv_k fL_isClosed_118 ?_
        refine xv_k fL_isClosed_120 ?_
        refine xv_k fL_isClosed_121 ?_
        refine xv_k fL_isClosed_122 ?_
        refine xv_k fL_isClosed_123 ?_
        refine xv_k fL_isClosed_124 ?_
        refine xv_callS7R (w_close_ok n c c J (I' := K1) (by rw [hK1]; exact p_close_ok n c I J e29 hcan.1.2 hx)) fL_isClosed_125 YL_does VL_does lL_113 rfl (Nat.le_of_ble_eq_true rfl) (by decide) (by decide) (by decide) ?_
        refine xv_is12 fL_isClosed_128 ?_
        refine xv_il12 fL_isClosed_130 ?_
        refine xv_il11 fL_isClosed_132 ?_
        refine xv_if_eq fL_isClosed_134 (fun h_134 => ?_) (fun h_134 => ?_)
        · exact absurd h_134 (by decide)
        · refine xv_al7 fL_isClosed_137 ?_
          refine xv_k fL_isClosed_139 ?_
          refine xv_ialdN fL_isClosed_140 (sx_69 _ _) (⟨by omega, by decide⟩) ?_
          rw [k693]
          refine xv_goto fL_isClosed_141 ?_
          refine xv_ic_ne fL_isClosed_147 (fun h_147 => ?_) (fun h_147 => ?_)
          · exact absurd rfl h_147
          · refine xv_k fL_isClosed_150 ?_
            refine xv_goto fL_isClosed_151 ?_
            refine xv_is13 fL_isClosed_155 ?_
            refine xv_k fL_isClosed_157 ?_
            refine xv_is14 fL_isClosed_158 ?_
            refine l_clpr n c J (by decide) hcan.1.2 k29 kP (k0 := 100) (s0 := 1000) (fun l14 => ?_) 120 0 _ _ rfl (by decide) (by decide)
            refine xv_al7 fL_isClosed_226 ?_
            refine xv_k fL_isClosed_228 ?_
            refine xv_dup2 fL_isClosed_229 ?_
            refine xv_ialdN fL_isClosed_230 (sx_69 _ _) (⟨by omega, by decide⟩) ?_
            rw [k693]
            refine xv_il11 fL_isClosed_231 ?_
            refine xv_if_eq fL_isClosed_233 (fun h_233 => ?_) (fun h_233 => ?_)
            · exact absurd h_233 (by decide)
            · refine xv_k fL_isClosed_236 ?_
              refine xv_goto fL_isClosed_237 ?_
              refine xv_iadd fL_isClosed_241 ?_
              refine xv_eqi (y := nI (e + 1)) (nI_add _ _) ?_
              refine xv_iastN fL_isClosed_242 (sx_69 _ _) (⟨by omega, by decide⟩) ?_
              refine xv_al7 fL_isClosed_243 ?_
              refine xv_k fL_isClosed_245 ?_
              refine xv_il11 fL_isClosed_246 ?_
              refine xv_if_eq fL_isClosed_248 (fun h_248 => ?_) (fun h_248 => ?_)
              · exact absurd h_248 (by decide)
              · refine xv_k fL_isClosed_251 ?_
                refine xv_goto fL_isClosed_252 ?_
                refine xv_iastN fL_isClosed_259 (sx_69 _ _) (⟨by omega, by decide⟩) ?_
                refine xv_il13 fL_isClosed_260 ?_
                refine xv_if_eq fL_isClosed_262 (fun h_262 => ?_) (fun h_262 => ?_)
                · exact absurd h_262 (by decide)
                · refine xv_al0 fL_isClosed_265 ?_
                  refine xv_k fL_isClosed_266 ?_
                  refine xv_al7 fL_isClosed_268 ?_
                  refine xv_k fL_isClosed_270 ?_
                  refine xv_ialdN fL_isClosed_271 (sx_69 _ _) (⟨by omega, by decide⟩) ?_
                  rw [xv_u_nk _ _ _ (by decide), xv_u_eq]
                  refine xv_k fL_isClosed_272 ?_
                  refine xv_k fL_isClosed_273 ?_
                  refine xv_k fL_isClosed_274 ?_
                  refine xv_k fL_isClosed_275 ?_
                  refine xv_callS7R (w_printed_I n c c J (p_printed_a n c _ J (x := nI (e + 1)) (Or.inr (by rw [xv_u_ne _ _ _ (by decide), xv_u_ne _ _ _ (by decide), k29]; exact nI_nlt (Nat.le_refl _) (by omega))) (y := nI 0) (z := nI 0))) fL_isClosed_276 YL_does VL_does lL_113 rfl (Nat.le_of_ble_eq_true rfl) (by decide) (by decide) (by decide) ?_
                  refine xv_k fL_isClosed_279 ?_
                  refine xv_ic_ne fL_isClosed_282 (fun h_282 => ?_) (fun h_282 => ?_)
                  · exact absurd rfl h_282
                  · refine xv_k fL_isClosed_285 ?_
                    refine xv_goto fL_isClosed_286 ?_
                    exact xv_iret fL_isClosed_290 rfl rfl ⟨rfl, c, rfl, rfl, rfl, hN⟩
      · refine xv_k fL_isClosed_21 ?_
        refine xv_goto fL_isClosed_22 ?_
        refine xv_is11 fL_isClosed_26 ?_
        refine xv_k fL_isClosed_28 ?_
        refine xv_is12 fL_isClosed_29 ?_
        refine l_clcan n c I J (by decide) hI (w := w) (e := e) (fun l12 l13 l14 => ?_) 10 0 _ _ _ rfl (bi_t ⟨⟨Classical.byContradiction fun z => nI_ne0 (Nat.pos_of_ne_zero z) (by omega) h_9, len_of (by decide) (by omega) h_18⟩, lt_no⟩).symm
        rw [bi_t hcan]
        refine xv_al0 fL_isClosed_117 ?_
        refine xv_k fL_isClosed_118 ?_
        refine xv_k fL_isClosed_120 ?_
        refine xv_k fL_isClosed_121 ?_
        refine xv_k fL_isClosed_122 ?_
        refine xv_k fL_isClosed_123 ?_
        refine xv_k fL_isClosed_124 ?_
        refine xv_callS7R (w_close_ok n c c J (I' := K1) (by rw [hK1]; exact p_close_ok n c I J e29 hcan.1.2 hx)) fL_isClosed_125 YL_does VL_does lL_113 rfl (Nat.le_of_ble_eq_true rfl) (by decide) (by decide) (by decide) ?_
        refine xv_is12 fL_isClosed_128 ?_
        refine xv_il12 fL_isClosed_130 ?_
        refine xv_il11 fL_isClosed_132 ?_
        refine xv_if_eq fL_isClosed_134 (fun h_134 => ?_) (fun h_134 => ?_)
        · exact absurd h_134 (by decide)
        · refine xv_al7 fL_isClosed_137 ?_
          refine xv_k fL_isClosed_139 ?_
          refine xv_ialdN fL_isClosed_140 (sx_69 _ _) (⟨by omega, by decide⟩) ?_
          rw [k693]
          refine xv_goto fL_isClosed_141 ?_
          refine xv_ic_ne fL_isClosed_147 (fun h_147 => ?_) (fun h_147 => ?_)
          · exact absurd rfl h_147
          · refine xv_k fL_isClosed_150 ?_
            refine xv_goto fL_isClosed_151 ?_
            refine xv_is13 fL_isClosed_155 ?_
            refine xv_k fL_isClosed_157 ?_
            refine xv_is14 fL_isClosed_158 ?_
            refine l_clpr n c J (by decide) hcan.1.2 k29 kP (k0 := 100) (s0 := 1000) (fun l14 => ?_) 120 0 _ _ rfl (by decide) (by decide)
            refine xv_al7 fL_isClosed_226 ?_
            refine xv_k fL_isClosed_228 ?_
            refine xv_dup2 fL_isClosed_229 ?_
            refine xv_ialdN fL_isClosed_230 (sx_69 _ _) (⟨by omega, by decide⟩) ?_
            rw [k693]
            refine xv_il11 fL_isClosed_231 ?_
            refine xv_if_eq fL_isClosed_233 (fun h_233 => ?_) (fun h_233 => ?_)
            · exact absurd h_233 (by decide)
            · refine xv_k fL_isClosed_236 ?_
              refine xv_goto fL_isClosed_237 ?_
              refine xv_iadd fL_isClosed_241 ?_
              refine xv_eqi (y := nI (e + 1)) (nI_add _ _) ?_
              refine xv_iastN fL_isClosed_242 (sx_69 _ _) (⟨by omega, by decide⟩) ?_
              refine xv_al7 fL_isClosed_243 ?_
              refine xv_k fL_isClosed_245 ?_
              refine xv_il11 fL_isClosed_246 ?_
              refine xv_if_eq fL_isClosed_248 (fun h_248 => ?_) (fun h_248 => ?_)
              · exact absurd h_248 (by decide)
              · refine xv_k fL_isClosed_251 ?_
                refine xv_goto fL_isClosed_252 ?_
                refine xv_iastN fL_isClosed_259 (sx_69 _ _) (⟨by omega, by decide⟩) ?_
                refine xv_il13 fL_isClosed_260 ?_
                refine xv_if_eq fL_isClosed_262 (fun h_262 => ?_) (fun h_262 => ?_)
                · exact absurd h_262 (by decide)
                · refine xv_al0 fL_isClosed_265 ?_
                  refine xv_k fL_isClosed_266 ?_
                  refine xv_al7 fL_isClosed_268 ?_
                  refine xv_k fL_isClosed_270 ?_
                  refine xv_ialdN fL_isClosed_271 (sx_69 _ _) (⟨by omega, by decide⟩) ?_
                  rw [xv_u_nk _ _ _ (by decide), xv_u_eq]
                  refine xv_k fL_isClosed_272 ?_
                  refine xv_k fL_isClosed_273 ?_
                  refine xv_k fL_isClosed_274 ?_
                  refine xv_k fL_isClosed_275 ?_
                  refine xv_callS7R (w_printed_I n c c J (p_printed_a n c _ J (x := nI (e + 1)) (Or.inr (by rw [xv_u_ne _ _ _ (by decide), xv_u_ne _ _ _ (by decide), k29]; exact nI_nlt (Nat.le_refl _) (by omega))) (y := nI 0) (z := nI 0))) fL_isClosed_276 YL_does VL_does lL_113 rfl (Nat.le_of_ble_eq_true rfl) (by decide) (by decide) (by decide) ?_
                  refine xv_k fL_isClosed_279 ?_
                  refine xv_ic_ne fL_isClosed_282 (fun h_282 => ?_) (fun h_282 => ?_)
                  · exact absurd rfl h_282
                  · refine xv_k fL_isClosed_285 ?_
                    refine xv_goto fL_isClosed_286 ?_
                    exact xv_iret fL_isClosed_290 rfl rfl ⟨rfl, c, rfl, rfl, rfl, hN⟩
theorem k_close_no (n : Nat) (c : Nat × Nat) (I : xv_I) (J : xv_J) {one two : Nat} (h1 : one < 2 ^ 31) (h2 : two < 2 ^ 31) (hn : n < 1000) (hI : Inv c I) (hcan0 : ∀ w e, I 29 4 = nI w → I 29 2 = nI e → w ≤ 5 → e ≤ 8 → ¬ ((w = 0 ∧ e < 8) ∧ ∀ p, p < 10 → xReady I p)) : xv_Met mL_isClosed 11 2100 16800 (sx n c) I (rx c) J [.ref 0, .ref 60, .ref 63, .ref 64, .ref 66, .ref 67, .ref 68, .ref 69, .int (nI 0), .int (nI one), .int (nI two)] (qI n J) := by
  have hn8 := hI.st.2.2.1
  have e691 := hI.st.2.1
  have hn9 := hI.ad.2.2.1
  obtain ⟨e, he8, e29, e693⟩ := hI.ed
  obtain ⟨w, hw5, e294, e694, ho⟩ := hI.owe
  obtain ⟨t9, ht9, t16, t692⟩ := hI.2.2.1
  have hcan := hcan0 w e e294 e29 hw5 he8
  have hx : ¬ ((∀ p, p < 10 → xReady I p) ∧ ¬ nI 0 < I 29 4 ∧ I 29 2 < nI 8) := fun q => hcan ⟨⟨Classical.byContradiction fun z => q.2.1 (by rw [e294]; exact nI_lt (Nat.pos_of_ne_zero z) (by omega)), (nI_ltI (by omega) (by decide)).mp (by rw [← e29]; exact q.2.2)⟩, q.1⟩
  have hid3 : xv_u I 69 3 (nI e) = I := by rw [← e693, xv_u_id]
  have hid2 : xv_u I 69 2 (nI t9) = I := by rw [← t692, xv_u_id]
  refine xv_Met.of (by decide +kernel) (Nat.le_of_ble_eq_true rfl) (List.forall_mem_cons.mpr ⟨rfl, List.forall_mem_cons.mpr ⟨rfl, List.forall_mem_cons.mpr ⟨rfl, List.forall_mem_cons.mpr ⟨rfl, List.forall_mem_cons.mpr ⟨rfl, List.forall_mem_cons.mpr ⟨rfl, List.forall_mem_cons.mpr ⟨rfl, List.forall_mem_cons.mpr ⟨rfl, List.forall_mem_cons.mpr ⟨rfl, List.forall_mem_cons.mpr ⟨rfl, List.forall_mem_cons.mpr ⟨rfl, fun _ h => nomatch h⟩⟩⟩⟩⟩⟩⟩⟩⟩⟩⟩) ?_
  show xv_W mL_isClosed 11 2100 16800 _ 2100 16800 (sx n c) I (rx c) J 0 [some (.ref 0), some (.ref 60), some (.ref 63), some (.ref 64), some (.ref 66), some (.ref 67), some (.ref 68), some (.ref 69), some (.int (nI 0)), some (.int (nI one)), some (.int (nI two)), none, none, none, none, none, none] []
  refine xv_il8 fL_isClosed_0 ?_
  refine xv_if_ne fL_isClosed_2 (fun h_2 => ?_) (fun h_2 => ?_)
  · exact absurd h_2 (by decide)
  · refine xv_al7 fL_isClosed_5 ?_
    refine xv_k fL_isClosed_7 ?_
    refine xv_ialdN fL_isClosed_8 (sx_69 _ _) (⟨by omega, by decide⟩) ?_
    rw [e694]
    refine xv_if_ne fL_isClosed_9 (fun h_9 => ?_) (fun h_9 => ?_)
    · refine xv_k fL_isClosed_25 ?_
      refine xv_is11 fL_isClosed_26 ?_
      refine xv_k fL_isClosed_28 ?_
      refine xv_is12 fL_isClosed_29 ?_
      refine l_clcan n c I J (by decide) hI (w := w) (e := e) (fun l12 l13 l14 => ?_) 10 0 _ _ _ rfl (bi_f (fun q => h_9 (by rw [q.1.1]; rfl))).symm
      rw [bi_f hcan]
      refine xv_al0 fL_isClosed_117 ?_
      refine xv_k fL_isClosed_118 ?_
      refine xv_k fL_isClosed_120 ?_
      refine xv_k fL_isClosed_121 ?_
      refine xv_k fL_isClosed_122 ?_
      refine xv_k fL_isClosed_123 ?_
      refine xv_k fL_isClosed_124 ?_
      refine xv_callS7R (w_close_S n c c J (p_close_a n c I J hx)) fL_isClosed_125 YL_does VL_does lL_113 rfl (Nat.le_of_ble_eq_true rfl) (by decide) (by decide) (by decide) ?_
      refine xv_is12 fL_isClosed_128 ?_
      refine xv_il12 fL_isClosed_130 ?_
      refine xv_il11 fL_isClosed_132 ?_
      refine xv_if_eq fL_isClosed_134 (fun h_134 => ?_) (fun h_134 => ?_)
      · refine xv_k fL_isClosed_144 ?_
        refine xv_ic_ne fL_isClosed_147 (fun h_147 => ?_) (fun h_147 => ?_)
        · exact absurd rfl h_147
        · refine xv_k fL_isClosed_150 ?_
          refine xv_goto fL_isClosed_151 ?_
          refine xv_is13 fL_isClosed_155 ?_
          refine xv_k fL_isClosed_157 ?_
          refine xv_is14 fL_isClosed_158 ?_
          refine xv_il14 fL_isClosed_160 ?_
          refine xv_k fL_isClosed_162 ?_
          refine xv_ic_ge fL_isClosed_164 (fun h_164 => ?_) (fun h_164 => ?_)
          · exact absurd h_164 (by decide)
          · refine xv_il11 fL_isClosed_167 ?_
            refine xv_if_eq fL_isClosed_169 (fun h_169 => ?_) (fun h_169 => ?_)
            · refine xv_al7 fL_isClosed_226 ?_
              refine xv_k fL_isClosed_228 ?_
              refine xv_dup2 fL_isClosed_229 ?_
              refine xv_ialdN fL_isClosed_230 (sx_69 _ _) (⟨by omega, by decide⟩) ?_
              rw [e693]
              refine xv_il11 fL_isClosed_231 ?_
              refine xv_if_eq fL_isClosed_233 (fun h_233 => ?_) (fun h_233 => ?_)
              · refine xv_k fL_isClosed_240 ?_
                refine xv_iadd fL_isClosed_241 ?_
                refine xv_eqi (y := nI e) (by rw [nI_add]; rfl) ?_
                refine xv_iastN fL_isClosed_242 (sx_69 _ _) (⟨by omega, by decide⟩) ?_
                rw [hid3]
                refine xv_al7 fL_isClosed_243 ?_
                refine xv_k fL_isClosed_245 ?_
                refine xv_il11 fL_isClosed_246 ?_
                refine xv_if_eq fL_isClosed_248 (fun h_248 => ?_) (fun h_248 => ?_)
                · refine xv_al7 fL_isClosed_255 ?_
                  refine xv_k fL_isClosed_257 ?_
                  refine xv_ialdN fL_isClosed_258 (sx_69 _ _) (⟨by omega, by decide⟩) ?_
                  rw [t692]
                  refine xv_iastN fL_isClosed_259 (sx_69 _ _) (⟨by omega, by decide⟩) ?_
                  rw [hid2]
                  refine xv_il13 fL_isClosed_260 ?_
                  refine xv_if_eq fL_isClosed_262 (fun h_262 => ?_) (fun h_262 => ?_)
                  · exact absurd h_262 (by decide)
                  · refine xv_al0 fL_isClosed_265 ?_
                    refine xv_k fL_isClosed_266 ?_
                    refine xv_al7 fL_isClosed_268 ?_
                    refine xv_k fL_isClosed_270 ?_
                    refine xv_ialdN fL_isClosed_271 (sx_69 _ _) (⟨by omega, by decide⟩) ?_
                    rw [e693]
                    refine xv_k fL_isClosed_272 ?_
                    refine xv_k fL_isClosed_273 ?_
                    refine xv_k fL_isClosed_274 ?_
                    refine xv_k fL_isClosed_275 ?_
                    refine xv_callS7R (w_printed_I n c c J (p_printed_a n c I J (x := nI e) (Or.inr (by rw [e29]; exact nI_nlt (Nat.le_refl _) (by omega))) (y := nI 0) (z := nI 0))) fL_isClosed_276 YL_does VL_does lL_113 rfl (Nat.le_of_ble_eq_true rfl) (by decide) (by decide) (by decide) ?_
                    refine xv_k fL_isClosed_279 ?_
                    refine xv_ic_ne fL_isClosed_282 (fun h_282 => ?_) (fun h_282 => ?_)
                    · exact absurd rfl h_282
                    · refine xv_k fL_isClosed_285 ?_
                      refine xv_goto fL_isClosed_286 ?_
                      exact xv_iret fL_isClosed_290 rfl rfl ⟨rfl, c, rfl, rfl, rfl, hI⟩
                · exact absurd h_248 (by decide)
              · exact absurd h_233 (by decide)
            · exact absurd h_169 (by decide)
      · exact absurd h_134 (by decide)
    · refine xv_al7 fL_isClosed_12 ?_
      refine xv_k fL_isClosed_14 ?_
      refine xv_ialdN fL_isClosed_15 (sx_69 _ _) (⟨by omega, by decide⟩) ?_
      rw [e693]
      refine xv_k fL_isClosed_16 ?_
      refine xv_ic_ge fL_isClosed_18 (fun h_18 => ?_) (fun h_18 => ?_)
      · refine xv_k fL_isClosed_25 ?_
        refine xv_is11 fL_isClosed_26 ?_
        refine xv_k fL_isClosed_28 ?_
        refine xv_is12 fL_isClosed_29 ?_
        refine l_clcan n c I J (by decide) hI (w := w) (e := e) (fun l12 l13 l14 => ?_) 10 0 _ _ _ rfl (bi_f (fun q => absurd q.1.2 (Nat.not_lt.mpr ((nI_leI (by decide) (by omega)).mp h_18)))).symm
        rw [bi_f hcan]
        refine xv_al0 fL_isClosed_117 ?_
        refine xv_k fL_isClosed_118 ?_
        refine xv_k fL_isClosed_120 ?_
        refine xv_k fL_isClosed_121 ?_
        refine xv_k fL_isClosed_122 ?_
        refine xv_k fL_isClosed_123 ?_
        refine xv_k fL_isClosed_124 ?_
        refine xv_callS7R (w_close_S n c c J (p_close_a n c I J hx)) fL_isClosed_125 YL_does VL_does lL_113 rfl (Nat.le_of_ble_eq_true rfl) (by decide) (by decide) (by decide) ?_
        refine xv_is12 fL_isClosed_128 ?_
        refine xv_il12 fL_isClosed_130 ?_
        refine xv_il11 fL_isClosed_132 ?_
        refine xv_if_eq fL_isClosed_134 (fun h_134 => ?_) (fun h_134 => ?_)
        · refine xv_k fL_isClosed_144 ?_
          refine xv_ic_ne fL_isClosed_147 (fun h_147 => ?_) (fun h_147 => ?_)
          · exact absurd rfl h_147
          · refine xv_k fL_isClosed_150 ?_
            refine xv_goto fL_isClosed_151 ?_
            refine xv_is13 fL_isClosed_155 ?_
            refine xv_k fL_isClosed_157 ?_
            refine xv_is14 fL_isClosed_158 ?_
            refine xv_il14 fL_isClosed_160 ?_
            refine xv_k fL_isClosed_162 ?_
            refine xv_ic_ge fL_isClosed_164 (fun h_164 => ?_) (fun h_164 => ?_)
            · exact absurd h_164 (by decide)
            · refine xv_il11 fL_isClosed_167 ?_
              refine xv_if_eq fL_isClosed_169 (fun h_169 => ?_) (fun h_169 => ?_)
              · refine xv_al7 fL_isClosed_226 ?_
                refine xv_k fL_isClosed_228 ?_
                refine xv_dup2 fL_isClosed_229 ?_
                refine xv_ialdN fL_isClosed_230 (sx_69 _ _) (⟨by omega, by decide⟩) ?_
                rw [e693]
                refine xv_il11 fL_isClosed_231 ?_
                refine xv_if_eq fL_isClosed_233 (fun h_233 => ?_) (fun h_233 => ?_)
                · refine xv_k fL_isClosed_240 ?_
                  refine xv_iadd fL_isClosed_241 ?_
                  refine xv_eqi (y := nI e) (by rw [nI_add]; rfl) ?_
                  refine xv_iastN fL_isClosed_242 (sx_69 _ _) (⟨by omega, by decide⟩) ?_
                  rw [hid3]
                  refine xv_al7 fL_isClosed_243 ?_
                  refine xv_k fL_isClosed_245 ?_
                  refine xv_il11 fL_isClosed_246 ?_
                  refine xv_if_eq fL_isClosed_248 (fun h_248 => ?_) (fun h_248 => ?_)
                  · refine xv_al7 fL_isClosed_255 ?_
                    refine xv_k fL_isClosed_257 ?_
                    refine xv_ialdN fL_isClosed_258 (sx_69 _ _) (⟨by omega, by decide⟩) ?_
                    rw [t692]
                    refine xv_iastN fL_isClosed_259 (sx_69 _ _) (⟨by omega, by decide⟩) ?_
                    rw [hid2]
                    refine xv_il13 fL_isClosed_260 ?_
                    refine xv_if_eq fL_isClosed_262 (fun h_262 => ?_) (fun h_262 => ?_)
                    · exact absurd h_262 (by decide)
                    · refine xv_al0 fL_isClosed_265 ?_
                      refine xv_k fL_isClosed_266 ?_
                      refine xv_al7 fL_isClosed_268 ?_
                      refine xv_k fL_isClosed_270 ?_
                      refine xv_ialdN fL_isClosed_271 (sx_69 _ _) (⟨by omega, by decide⟩) ?_
                      rw [e693]
                      refine xv_k fL_isClosed_272 ?_
                      refine xv_k fL_isClosed_273 ?_
                      refine xv_k fL_isClosed_274 ?_
                      refine xv_k fL_isClosed_275 ?_
                      refine xv_callS7R (w_printed_I n c c J (p_printed_a n c I J (x := nI e) (Or.inr (by rw [e29]; exact nI_nlt (Nat.le_refl _) (by omega))) (y := nI 0) (z := nI 0))) fL_isClosed_276 YL_does VL_does lL_113 rfl (Nat.le_of_ble_eq_true rfl) (by decide) (by decide) (by decide) ?_
                      refine xv_k fL_isClosed_279 ?_
                      refine xv_ic_ne fL_isClosed_282 (fun h_282 => ?_) (fun h_282 => ?_)
                      · exact absurd rfl h_282
                      · refine xv_k fL_isClosed_285 ?_
                        refine xv_goto fL_isClosed_286 ?_
                        exact xv_iret fL_isClosed_290 rfl rfl ⟨rfl, c, rfl, rfl, rfl, hI⟩
                  · exact absurd h_248 (by decide)
                · exact absurd h_233 (by decide)
              · exact absurd h_169 (by decide)
        · exact absurd h_134 (by decide)
      · refine xv_k fL_isClosed_21 ?_
        refine xv_goto fL_isClosed_22 ?_
        refine xv_is11 fL_isClosed_26 ?_
        refine xv_k fL_isClosed_28 ?_
        refine xv_is12 fL_isClosed_29 ?_
        refine l_clcan n c I J (by decide) hI (w := w) (e := e) (fun l12 l13 l14 => ?_) 10 0 _ _ _ rfl (bi_t ⟨⟨Classical.byContradiction fun z => nI_ne0 (Nat.pos_of_ne_zero z) (by omega) h_9, len_of (by decide) (by omega) h_18⟩, lt_no⟩).symm
        rw [bi_f hcan]
        refine xv_al0 fL_isClosed_117 ?_
        refine xv_k fL_isClosed_118 ?_
        refine xv_k fL_isClosed_120 ?_
        refine xv_k fL_isClosed_121 ?_
        refine xv_k fL_isClosed_122 ?_
        refine xv_k fL_isClosed_123 ?_
        refine xv_k fL_isClosed_124 ?_
        refine xv_callS7R (w_close_S n c c J (p_close_a n c I J hx)) fL_isClosed_125 YL_does VL_does lL_113 rfl (Nat.le_of_ble_eq_true rfl) (by decide) (by decide) (by decide) ?_
        refine xv_is12 fL_isClosed_128 ?_
        refine xv_il12 fL_isClosed_130 ?_
        refine xv_il11 fL_isClosed_132 ?_
        refine xv_if_eq fL_isClosed_134 (fun h_134 => ?_) (fun h_134 => ?_)
        · refine xv_k fL_isClosed_144 ?_
          refine xv_ic_ne fL_isClosed_147 (fun h_147 => ?_) (fun h_147 => ?_)
          · exact absurd rfl h_147
          · refine xv_k fL_isClosed_150 ?_
            refine xv_goto fL_isClosed_151 ?_
            refine xv_is13 fL_isClosed_155 ?_
            refine xv_k fL_isClosed_157 ?_
            refine xv_is14 fL_isClosed_158 ?_
            refine xv_il14 fL_isClosed_160 ?_
            refine xv_k fL_isClosed_162 ?_
            refine xv_ic_ge fL_isClosed_164 (fun h_164 => ?_) (fun h_164 => ?_)
            · exact absurd h_164 (by decide)
            · refine xv_il11 fL_isClosed_167 ?_
              refine xv_if_eq fL_isClosed_169 (fun h_169 => ?_) (fun h_169 => ?_)
              · refine xv_al7 fL_isClosed_226 ?_
                refine xv_k fL_isClosed_228 ?_
                refine xv_dup2 fL_isClosed_229 ?_
                refine xv_ialdN fL_isClosed_230 (sx_69 _ _) (⟨by omega, by decide⟩) ?_
                rw [e693]
                refine xv_il11 fL_isClosed_231 ?_
                refine xv_if_eq fL_isClosed_233 (fun h_233 => ?_) (fun h_233 => ?_)
                · refine xv_k fL_isClosed_240 ?_
                  refine xv_iadd fL_isClosed_241 ?_
                  refine xv_eqi (y := nI e) (by rw [nI_add]; rfl) ?_
                  refine xv_iastN fL_isClosed_242 (sx_69 _ _) (⟨by omega, by decide⟩) ?_
                  rw [hid3]
                  refine xv_al7 fL_isClosed_243 ?_
                  refine xv_k fL_isClosed_245 ?_
                  refine xv_il11 fL_isClosed_246 ?_
                  refine xv_if_eq fL_isClosed_248 (fun h_248 => ?_) (fun h_248 => ?_)
                  · refine xv_al7 fL_isClosed_255 ?_
                    refine xv_k fL_isClosed_257 ?_
                    refine xv_ialdN fL_isClosed_258 (sx_69 _ _) (⟨by omega, by decide⟩) ?_
                    rw [t692]
                    refine xv_iastN fL_isClosed_259 (sx_69 _ _) (⟨by omega, by decide⟩) ?_
                    rw [hid2]
                    refine xv_il13 fL_isClosed_260 ?_
                    refine xv_if_eq fL_isClosed_262 (fun h_262 => ?_) (fun h_262 => ?_)
                    · exact absurd h_262 (by decide)
                    · refine xv_al0 fL_isClosed_265 ?_
                      refine xv_k fL_isClosed_266 ?_
                      refine xv_al7 fL_isClosed_268 ?_
                      refine xv_k fL_isClosed_270 ?_
                      refine xv_ialdN fL_isClosed_271 (sx_69 _ _) (⟨by omega, by decide⟩) ?_
                      rw [e693]
                      refine xv_k fL_isClosed_272 ?_
                      refine xv_k fL_isClosed_273 ?_
                      refine xv_k fL_isClosed_274 ?_
                      refine xv_k fL_isClosed_275 ?_
                      refine xv_callS7R (w_printed_I n c c J (p_printed_a n c I J (x := nI e) (Or.inr (by rw [e29]; exact nI_nlt (Nat.le_refl _) (by omega))) (y := nI 0) (z := nI 0))) fL_isClosed_276 YL_does VL_does lL_113 rfl (Nat.le_of_ble_eq_true rfl) (by decide) (by decide) (by decide) ?_
                      refine xv_k fL_isClosed_279 ?_
                      refine xv_ic_ne fL_isClosed_282 (fun h_282 => ?_) (fun h_282 => ?_)
                      · exact absurd rfl h_282
                      · refine xv_k fL_isClosed_285 ?_
                        refine xv_goto fL_isClosed_286 ?_
                        exact xv_iret fL_isClosed_290 rfl rfl ⟨rfl, c, rfl, rfl, rfl, hI⟩
                  · exact absurd h_248 (by decide)
                · exact absurd h_233 (by decide)
              · exact absurd h_169 (by decide)
        · exact absurd h_134 (by decide)
theorem k_cor_a (n : Nat) (c : Nat × Nat) (I : xv_I) (J : xv_J) {one two : Nat} (h1 : one < 2 ^ 31) (h2 : two < 2 ^ 31) (hn : n < 1000) (hI : Inv c I) {ed a e : Nat} (e29 : I 29 2 = nI e) (he8 : e ≤ 8) (e693 : I 69 3 = nI e) (eed : one % (e + 1) = ed) (ea : two % (c.2 + 1) = a) (h : ed = e) : xv_Met mL_isClosed 11 2100 16800 (sx n c) I (rx c) J [.ref 0, .ref 60, .ref 63, .ref 64, .ref 66, .ref 67, .ref 68, .ref 69, .int (nI 1), .int (nI one), .int (nI two)] (qI n J) := by
  have hn8 := hI.st.2.2.1
  have e691 := hI.st.2.1
  have hn9 := hI.ad.2.2.1
  have hed : ed < e + 1 := by rw [← eed]; exact Nat.mod_lt _ (by omega)
  have ha : a < c.2 + 1 := by rw [← ea]; exact Nat.mod_lt _ (by omega)
  obtain ⟨w, hw5, e294, e694, ho⟩ := hI.owe
  refine xv_Met.of (by decide +kernel) (Nat.le_of_ble_eq_true rfl) (List.forall_mem_cons.mpr ⟨rfl, List.forall_mem_cons.mpr ⟨rfl, List.forall_mem_cons.mpr ⟨rfl, List.forall_mem_cons.mpr ⟨rfl, List.forall_mem_cons.mpr ⟨rfl, List.forall_mem_cons.mpr ⟨rfl, List.forall_mem_cons.mpr ⟨rfl, List.forall_mem_cons.mpr ⟨rfl, List.forall_mem_cons.mpr ⟨rfl, List.forall_mem_cons.mpr ⟨rfl, List.forall_mem_cons.mpr ⟨rfl, fun _ h => nomatch h⟩⟩⟩⟩⟩⟩⟩⟩⟩⟩⟩) ?_
  show xv_W mL_isClosed 11 2100 16800 _ 2100 16800 (sx n c) I (rx c) J 0 [some (.ref 0), some (.ref 60), some (.ref 63), some (.ref 64), some (.ref 66), some (.ref 67), some (.ref 68), some (.ref 69), some (.int (nI 1)), some (.int (nI one)), some (.int (nI two)), none, none, none, none, none, none] []
  refine xv_il8 fL_isClosed_0 ?_
  refine xv_if_ne fL_isClosed_2 (fun h_2 => ?_) (fun h_2 => ?_)
  · refine xv_il8 fL_isClosed_291 ?_
    refine xv_k fL_isClosed_293 ?_
    refine xv_ic_ne fL_isClosed_294 (fun h_294 => ?_) (fun h_294 => ?_)
    · exact absurd h_294 (by decide)
    · refine xv_il9 fL_isClosed_297 ?_
      refine xv_al7 fL_isClosed_299 ?_
      refine xv_k fL_isClosed_301 ?_
      refine xv_ialdN fL_isClosed_302 (sx_69 _ _) (⟨by omega, by decide⟩) ?_
      rw [e693]
      refine xv_k fL_isClosed_303 ?_
      refine xv_iadd fL_isClosed_304 ?_
      refine xv_eqi (y := nI (e + 1)) (nI_add _ _) ?_
      refine xv_irem fL_isClosed_305 (nI_ne0 (by omega) (by omega)) ?_
      refine xv_eqi (y := nI ed) (by rw [nI_rem h1 (by omega), eed]) ?_
      refine xv_is11 fL_isClosed_306 ?_
      refine xv_il10 fL_isClosed_308 ?_
      refine xv_al7 fL_isClosed_310 ?_
      refine xv_k fL_isClosed_312 ?_
      refine xv_ialdN fL_isClosed_313 (sx_69 _ _) (⟨by omega, by decide⟩) ?_
      rw [e691]
      refine xv_k fL_isClosed_314 ?_
      refine xv_iadd fL_isClosed_315 ?_
      refine xv_eqi (y := nI (c.2 + 1)) (nI_add _ _) ?_
      refine xv_irem fL_isClosed_316 (nI_ne0 (by omega) (by omega)) ?_
      refine xv_eqi (y := nI a) (by rw [nI_rem h2 (by omega), ea]) ?_
      refine xv_is12 fL_isClosed_317 ?_
      refine xv_al0 fL_isClosed_319 ?_
      refine xv_k fL_isClosed_320 ?_
      refine xv_il11 fL_isClosed_322 ?_
      refine xv_il12 fL_isClosed_324 ?_
      refine xv_k fL_isClosed_326 ?_
      refine xv_k fL_isClosed_327 ?_
      refine xv_k fL_isClosed_328 ?_
      refine xv_callS7R (w_correct_I n c c J (p_correct_a n c I J (x := nI ed) (Or.inr (by rw [e29]; exact nI_nlt (by omega) (by omega))) (y := nI a))) fL_isClosed_329 YL_does VL_does lL_113 rfl (Nat.le_of_ble_eq_true rfl) (by decide) (by decide) (by decide) ?_
      refine xv_is13 fL_isClosed_332 ?_
      refine xv_il11 fL_isClosed_334 ?_
      refine xv_al7 fL_isClosed_336 ?_
      refine xv_k fL_isClosed_338 ?_
      refine xv_ialdN fL_isClosed_339 (sx_69 _ _) (⟨by omega, by decide⟩) ?_
      rw [e693]
      refine xv_ic_eq fL_isClosed_340 (fun h_340 => ?_) (fun h_340 => ?_)
      · refine xv_il13 fL_isClosed_352 ?_
        refine xv_k fL_isClosed_354 ?_
        refine xv_ic_ne fL_isClosed_357 (fun h_357 => ?_) (fun h_357 => ?_)
        · exact absurd rfl h_357
        · refine xv_k fL_isClosed_360 ?_
          refine xv_goto fL_isClosed_361 ?_
          exact xv_iret fL_isClosed_365 rfl rfl ⟨rfl, c, rfl, rfl, rfl, hI⟩
      · exact absurd ((nI_eq (by omega) (by omega)).mpr (by omega)) h_340
  · exact absurd h_2 (by decide)
theorem k_cor_b (n : Nat) (c : Nat × Nat) (I : xv_I) (J : xv_J) {one two : Nat} (h1 : one < 2 ^ 31) (h2 : two < 2 ^ 31) (hn : n < 1000) (hI : Inv c I) {ed a e : Nat} (e29 : I 29 2 = nI e) (he8 : e ≤ 8) (e693 : I 69 3 = nI e) (eed : one % (e + 1) = ed) (ea : two % (c.2 + 1) = a) (h : ed < e) (hac : a = c.2) : xv_Met mL_isClosed 11 2100 16800 (sx n c) I (rx c) J [.ref 0, .ref 60, .ref 63, .ref 64, .ref 66, .ref 67, .ref 68, .ref 69, .int (nI 1), .int (nI one), .int (nI two)] (qI n J) := by
  have hn8 := hI.st.2.2.1
  have e691 := hI.st.2.1
  have hn9 := hI.ad.2.2.1
  have hed : ed < e + 1 := by rw [← eed]; exact Nat.mod_lt _ (by omega)
  have ha : a < c.2 + 1 := by rw [← ea]; exact Nat.mod_lt _ (by omega)
  obtain ⟨w, hw5, e294, e694, ho⟩ := hI.owe
  refine xv_Met.of (by decide +kernel) (Nat.le_of_ble_eq_true rfl) (List.forall_mem_cons.mpr ⟨rfl, List.forall_mem_cons.mpr ⟨rfl, List.forall_mem_cons.mpr ⟨rfl, List.forall_mem_cons.mpr ⟨rfl, List.forall_mem_cons.mpr ⟨rfl, List.forall_mem_cons.mpr ⟨rfl, List.forall_mem_cons.mpr ⟨rfl, List.forall_mem_cons.mpr ⟨rfl, List.forall_mem_cons.mpr ⟨rfl, List.forall_mem_cons.mpr ⟨rfl, List.forall_mem_cons.mpr ⟨rfl, fun _ h => nomatch h⟩⟩⟩⟩⟩⟩⟩⟩⟩⟩⟩) ?_
  show xv_W mL_isClosed 11 2100 16800 _ 2100 16800 (sx n c) I (rx c) J 0 [some (.ref 0), some (.ref 60), some (.ref 63), some (.ref 64), some (.ref 66), some (.ref 67), some (.ref 68), some (.ref 69), some (.int (nI 1)), some (.int (nI one)), some (.int (nI two)), none, none, none, none, none, none] []
  refine xv_il8 fL_isClosed_0 ?_
  refine xv_if_ne fL_isClosed_2 (fun h_2 => ?_) (fun h_2 => ?_)
  · refine xv_il8 fL_isClosed_291 ?_
    refine xv_k fL_isClosed_293 ?_
    refine xv_ic_ne fL_isClosed_294 (fun h_294 => ?_) (fun h_294 => ?_)
    · exact absurd h_294 (by decide)
    · refine xv_il9 fL_isClosed_297 ?_
      refine xv_al7 fL_isClosed_299 ?_
      refine xv_k fL_isClosed_301 ?_
      refine xv_ialdN fL_isClosed_302 (sx_69 _ _) (⟨by omega, by decide⟩) ?_
      rw [e693]
      refine xv_k fL_isClosed_303 ?_
      refine xv_iadd fL_isClosed_304 ?_
      refine xv_eqi (y := nI (e + 1)) (nI_add _ _) ?_
      refine xv_irem fL_isClosed_305 (nI_ne0 (by omega) (by omega)) ?_
      refine xv_eqi (y := nI ed) (by rw [nI_rem h1 (by omega), eed]) ?_
      refine xv_is11 fL_isClosed_306 ?_
      refine xv_il10 fL_isClosed_308 ?_
      refine xv_al7 fL_isClosed_310 ?_
      refine xv_k fL_isClosed_312 ?_
      refine xv_ialdN fL_isClosed_313 (sx_69 _ _) (⟨by omega, by decide⟩) ?_
      rw [e691]
      refine xv_k fL_isClosed_314 ?_
      refine xv_iadd fL_isClosed_315 ?_
      refine xv_eqi (y := nI (c.2 + 1)) (nI_add _ _) ?_
      refine xv_irem fL_isClosed_316 (nI_ne0 (by omega) (by omega)) ?_
      refine xv_eqi (y := nI a) (by rw [nI_rem h2 (by omega), ea]) ?_
      refine xv_is12 fL_isClosed_317 ?_
      refine xv_al0 fL_isClosed_319 ?_
      refine xv_k fL_isClosed_320 ?_
      refine xv_il11 fL_isClosed_322 ?_
      refine xv_il12 fL_isClosed_324 ?_
      refine xv_k fL_isClosed_326 ?_
      refine xv_k fL_isClosed_327 ?_
      refine xv_k fL_isClosed_328 ?_
      refine xv_callS7R (w_correct_I n c c J (p_correct_b n c I J (e := ed) (w := e) (by omega) he8 e29 (x := nI a) (fun k z hk => by have := nI_inj2 z (by omega) (by omega); omega))) fL_isClosed_329 YL_does VL_does lL_113 rfl (Nat.le_of_ble_eq_true rfl) (by decide) (by decide) (by decide) ?_
      refine xv_is13 fL_isClosed_332 ?_
      refine xv_il11 fL_isClosed_334 ?_
      refine xv_al7 fL_isClosed_336 ?_
      refine xv_k fL_isClosed_338 ?_
      refine xv_ialdN fL_isClosed_339 (sx_69 _ _) (⟨by omega, by decide⟩) ?_
      rw [e693]
      refine xv_ic_eq fL_isClosed_340 (fun h_340 => ?_) (fun h_340 => ?_)
      · exact absurd ((nI_eq (by omega) (by omega)).mp h_340) (by omega)
      · refine xv_il12 fL_isClosed_343 ?_
        refine xv_al7 fL_isClosed_345 ?_
        refine xv_k fL_isClosed_347 ?_
        refine xv_ialdN fL_isClosed_348 (sx_69 _ _) (⟨by omega, by decide⟩) ?_
        rw [e691]
        refine xv_ic_ne fL_isClosed_349 (fun h_349 => ?_) (fun h_349 => ?_)
        · exact absurd ((nI_eq (by omega) (by omega)).mpr (by omega)) h_349
        · refine xv_il13 fL_isClosed_352 ?_
          refine xv_k fL_isClosed_354 ?_
          refine xv_ic_ne fL_isClosed_357 (fun h_357 => ?_) (fun h_357 => ?_)
          · exact absurd rfl h_357
          · refine xv_k fL_isClosed_360 ?_
            refine xv_goto fL_isClosed_361 ?_
            exact xv_iret fL_isClosed_365 rfl rfl ⟨rfl, c, rfl, rfl, rfl, hI⟩
  · exact absurd h_2 (by decide)
theorem l_clhas (n : Nat) (c : Nat × Nat) (J : xv_J) {D MC MS : Nat} {Q : xv_Q} (hDD : 12 ≤ D + 1) {K : xv_I} {ed e a k0 s0 : Nat} (hed : ed < e) (he8 : e ≤ 8) (h29 : K 29 2 = nI e) (ha20 : a < 20) {l8 l9 l10 l13 l16 : Option Value} (kk : ∀ l15, xv_W mL_isClosed D MC MS Q k0 s0 (sx n c) K (rx c) J 422 (some (.ref 0) :: some (.ref 60) :: some (.ref 63) :: some (.ref 64) :: some (.ref 66) :: some (.ref 67) :: some (.ref 68) :: some (.ref 69) :: l8 :: l9 :: l10 :: some (.int (nI ed)) :: some (.int (nI a)) :: l13 :: some (.int (bi (∃ j, j < 120 ∧ K (31 + ed) j = nI (200 + a)))) :: l15 :: l16 :: []) []) : ∀ (u k kc ks : Nat) (l14 : Int32), k + u = 120 → k0 + 16 * u ≤ kc → s0 + 128 * u ≤ ks → l14 = bi (∃ j, j < k ∧ K (31 + ed) j = nI (200 + a)) → xv_W mL_isClosed D MC MS Q kc ks (sx n c) K (rx c) J 372 (some (.ref 0) :: some (.ref 60) :: some (.ref 63) :: some (.ref 64) :: some (.ref 66) :: some (.ref 67) :: some (.ref 68) :: some (.ref 69) :: l8 :: l9 :: l10 :: some (.int (nI ed)) :: some (.int (nI a)) :: l13 :: some (.int (l14)) :: some (.int (nI k)) :: l16 :: []) [] := by
  intro u
  induction u with
  | zero =>
    intro k kc ks l14 hu hkc hks h14
    obtain rfl : k = 120 := by omega
    subst h14
    show xv_W mL_isClosed D MC MS _ kc ks (sx n c) K (rx c) J 372 (some (.ref 0) :: some (.ref 60) :: some (.ref 63) :: some (.ref 64) :: some (.ref 66) :: some (.ref 67) :: some (.ref 68) :: some (.ref 69) :: l8 :: l9 :: l10 :: some (.int (nI ed)) :: some (.int (nI a)) :: l13 :: some (.int (bi (∃ j, j < 120 ∧ K (31 + ed) j = nI (200 + a)))) :: some (.int (nI 120)) :: l16 :: []) []
    refine xv_il15 fL_isClosed_372 ?_
    refine xv_k fL_isClosed_374 ?_
    refine xv_ic_ge fL_isClosed_376 (fun h_376 => ?_) (fun h_376 => ?_)
    · exact xv_less (by omega) (by omega) (kk _)
    · exact absurd (by decide) h_376
  | succ u ih =>
    intro k kc ks l14 hu hkc hks h14
    have hk : k < 120 := by omega
    show xv_W mL_isClosed D MC MS _ kc ks (sx n c) K (rx c) J 372 (some (.ref 0) :: some (.ref 60) :: some (.ref 63) :: some (.ref 64) :: some (.ref 66) :: some (.ref 67) :: some (.ref 68) :: some (.ref 69) :: l8 :: l9 :: l10 :: some (.int (nI ed)) :: some (.int (nI a)) :: l13 :: some (.int (l14)) :: some (.int (nI k)) :: l16 :: []) []
    refine xv_il15 fL_isClosed_372 ?_
    refine xv_k fL_isClosed_374 ?_
    refine xv_ic_ge fL_isClosed_376 (fun h_376 => ?_) (fun h_376 => ?_)
    · exact absurd h_376 (nI_ge hk (by decide))
    · refine xv_il14 fL_isClosed_379 ?_
      refine xv_if_ne fL_isClosed_381 (fun h_381 => ?_) (fun h_381 => ?_)
      · refine xv_k fL_isClosed_409 ?_
        refine xv_goto fL_isClosed_410 ?_
        refine xv_is14 fL_isClosed_414 ?_
        refine xv_iincN15 (a := 1) fL_isClosed_416 (by decide) ?_
        refine xv_goto fL_isClosed_419 ?_
        exact ih (k + 1) _ _ _ (by omega) (by omega) (by omega) (bi_t (by obtain ⟨j, j1, j2⟩ := bi_1 (h14 ▸ h_381); exact ⟨j, by omega, j2⟩)).symm
      · refine xv_al0 fL_isClosed_384 ?_
        refine xv_il11 fL_isClosed_385 ?_
        refine xv_il15 fL_isClosed_387 ?_
        refine xv_k fL_isClosed_389 ?_
        refine xv_idiv fL_isClosed_391 (by decide) ?_
        refine xv_eqi (y := nI (k / 12)) (nI_div (by omega) (by decide)) ?_
        refine xv_il15 fL_isClosed_392 ?_
        refine xv_k fL_isClosed_394 ?_
        refine xv_irem fL_isClosed_396 (by decide) ?_
        refine xv_eqi (y := nI (k % 12)) (nI_rem (by omega) (by decide)) ?_
        obtain hpk : K (31 + ed) (12 * (k / 12) + k % 12) = K (31 + ed) k := by rw [show 12 * (k / 12) + k % 12 = k by omega]
        refine xv_callV3R (p_printed_ok n c K J (e := ed) (w := e) hed he8 h29 (p := k / 12) (by omega) (k := k % 12) (by omega)) fL_isClosed_397 YX10_printed VX10_printed lL_71 rfl rfl (sx_0 _ _) (Nat.le_of_ble_eq_true rfl) (by omega) (by omega) (by omega) ?_
        refine xv_k fL_isClosed_400 ?_
        refine xv_il12 fL_isClosed_403 ?_
        refine xv_iadd fL_isClosed_405 ?_
        refine xv_eqi (y := nI (200 + a)) (nI_add _ _) ?_
        refine xv_ic_ne fL_isClosed_406 (fun h_406 => ?_) (fun h_406 => ?_)
        · refine xv_k fL_isClosed_413 ?_
          refine xv_is14 fL_isClosed_414 ?_
          refine xv_iincN15 (a := 1) fL_isClosed_416 (by decide) ?_
          refine xv_goto fL_isClosed_419 ?_
          exact ih (k + 1) _ _ _ (by omega) (by omega) (by omega) (bi_f (fun ⟨j, j1, j2⟩ => by
            rcases Nat.lt_or_ge j k with q | q
            · exact bi_0 (h14 ▸ h_381) ⟨j, q, j2⟩
            · obtain rfl : j = k := by omega
              exact h_406 (by rw [hpk]; exact j2))).symm
        · refine xv_k fL_isClosed_409 ?_
          refine xv_goto fL_isClosed_410 ?_
          refine xv_is14 fL_isClosed_414 ?_
          refine xv_iincN15 (a := 1) fL_isClosed_416 (by decide) ?_
          refine xv_goto fL_isClosed_419 ?_
          exact ih (k + 1) _ _ _ (by omega) (by omega) (by omega) (bi_t ⟨k, Nat.lt_succ_self k, by rw [← hpk]; exact h_406⟩).symm

theorem l_clowe (n : Nat) (c : Nat × Nat) (J : xv_J) {D MC MS : Nat} {Q : xv_Q} (hDD : 12 ≤ D + 1) {K : xv_I} {a w kc ks : Nat} (hw5 : w ≤ 5) (h694 : K 69 4 = nI w) {l8 l9 l10 l11 l13 l14 : Option Value} (kk : ∀ l16, xv_W mL_isClosed D MC MS Q kc ks (sx n c) K (rx c) J 465 (some (.ref 0) :: some (.ref 60) :: some (.ref 63) :: some (.ref 64) :: some (.ref 66) :: some (.ref 67) :: some (.ref 68) :: some (.ref 69) :: l8 :: l9 :: l10 :: l11 :: some (.int (nI a)) :: l13 :: l14 :: some (.int (bi (∃ j, j < w ∧ K 68 j = nI a))) :: l16 :: []) []) : ∀ (u k : Nat) (l15 : Int32), k + u = w → l15 = bi (∃ j, j < k ∧ K 68 j = nI a) → xv_W mL_isClosed D MC MS Q kc ks (sx n c) K (rx c) J 428 (some (.ref 0) :: some (.ref 60) :: some (.ref 63) :: some (.ref 64) :: some (.ref 66) :: some (.ref 67) :: some (.ref 68) :: some (.ref 69) :: l8 :: l9 :: l10 :: l11 :: some (.int (nI a)) :: l13 :: l14 :: some (.int (l15)) :: some (.int (nI k)) :: []) [] := by
  intro u
  induction u with
  | zero =>
    intro k l15 hu h15
    obtain rfl : k = w := by omega
    subst h15
    show xv_W mL_isClosed D MC MS _ kc ks (sx n c) K (rx c) J 428 (some (.ref 0) :: some (.ref 60) :: some (.ref 63) :: some (.ref 64) :: some (.ref 66) :: some (.ref 67) :: some (.ref 68) :: some (.ref 69) :: l8 :: l9 :: l10 :: l11 :: some (.int (nI a)) :: l13 :: l14 :: some (.int (bi (∃ j, j < k ∧ K 68 j = nI a))) :: some (.int (nI k)) :: []) []
    refine xv_il16 fL_isClosed_428 ?_
    refine xv_al7 fL_isClosed_430 ?_
    refine xv_k fL_isClosed_432 ?_
    refine xv_ialdN fL_isClosed_433 (sx_69 _ _) (⟨by omega, by decide⟩) ?_
    rw [h694]
    refine xv_ic_ge fL_isClosed_434 (fun h_434 => ?_) (fun h_434 => ?_)
    · exact kk _
    · exact absurd (nI_le (Nat.le_refl _) (by omega)) h_434
  | succ u ih =>
    intro k l15 hu h15
    have hk : k < w := by omega
    show xv_W mL_isClosed D MC MS _ kc ks (sx n c) K (rx c) J 428 (some (.ref 0) :: some (.ref 60) :: some (.ref 63) :: some (.ref 64) :: some (.ref 66) :: some (.ref 67) :: some (.ref 68) :: some (.ref 69) :: l8 :: l9 :: l10 :: l11 :: some (.int (nI a)) :: l13 :: l14 :: some (.int (l15)) :: some (.int (nI k)) :: []) []
    refine xv_il16 fL_isClosed_428 ?_
    refine xv_al7 fL_isClosed_430 ?_
    refine xv_k fL_isClosed_432 ?_
    refine xv_ialdN fL_isClosed_433 (sx_69 _ _) (⟨by omega, by decide⟩) ?_
    rw [h694]
    refine xv_ic_ge fL_isClosed_434 (fun h_434 => ?_) (fun h_434 => ?_)
    · exact absurd h_434 (nI_ge hk (by omega))
    · refine xv_il15 fL_isClosed_437 ?_
      refine xv_if_ne fL_isClosed_439 (fun h_439 => ?_) (fun h_439 => ?_)
      · refine xv_k fL_isClosed_452 ?_
        refine xv_goto fL_isClosed_453 ?_
        refine xv_is15 fL_isClosed_457 ?_
        refine xv_iincN16 (a := 1) fL_isClosed_459 (by decide) ?_
        refine xv_goto fL_isClosed_462 ?_
        exact ih (k + 1) _ (by omega) (bi_t (by obtain ⟨j, j1, j2⟩ := bi_1 (h15 ▸ h_439); exact ⟨j, by omega, j2⟩)).symm
      · refine xv_al6 fL_isClosed_442 ?_
        refine xv_il16 fL_isClosed_444 ?_
        refine xv_ialdN fL_isClosed_446 (sx_68 _ _) (⟨by omega, by decide⟩) ?_
        refine xv_il12 fL_isClosed_447 ?_
        refine xv_ic_ne fL_isClosed_449 (fun h_449 => ?_) (fun h_449 => ?_)
        · refine xv_k fL_isClosed_456 ?_
          refine xv_is15 fL_isClosed_457 ?_
          refine xv_iincN16 (a := 1) fL_isClosed_459 (by decide) ?_
          refine xv_goto fL_isClosed_462 ?_
          exact ih (k + 1) _ (by omega) (bi_f (fun ⟨j, j1, j2⟩ => by
            rcases Nat.lt_or_ge j k with q | q
            · exact bi_0 (h15 ▸ h_439) ⟨j, q, j2⟩
            · obtain rfl : j = k := by omega
              exact h_449 j2)).symm
        · refine xv_k fL_isClosed_452 ?_
          refine xv_goto fL_isClosed_453 ?_
          refine xv_is15 fL_isClosed_457 ?_
          refine xv_iincN16 (a := 1) fL_isClosed_459 (by decide) ?_
          refine xv_goto fL_isClosed_462 ?_
          exact ih (k + 1) _ (by omega) (bi_t ⟨k, Nat.lt_succ_self k, h_449⟩).symm

theorem k_cor_c (n : Nat) (c : Nat × Nat) (I : xv_I) (J : xv_J) {one two : Nat} (h1 : one < 2 ^ 31) (h2 : two < 2 ^ 31) (hn : n < 1000) (hI : Inv c I) {ed a e : Nat} (e29 : I 29 2 = nI e) (he8 : e ≤ 8) (e693 : I 69 3 = nI e) (eed : one % (e + 1) = ed) (ea : two % (c.2 + 1) = a) (h : ed < e) (hac : a < c.2) (hx : ∀ w, w ≤ 5 → I 29 4 = nI w → ¬ ((∃ j, j < 120 ∧ I (31 + ed) j = nI (200 + a)) ∧ (¬ ∃ j, j < w ∧ I 40 j = nI a) ∧ w < 5)) : xv_Met mL_isClosed 11 2100 16800 (sx n c) I (rx c) J [.ref 0, .ref 60, .ref 63, .ref 64, .ref 66, .ref 67, .ref 68, .ref 69, .int (nI 1), .int (nI one), .int (nI two)] (qI n J) := by
  have hn8 := hI.st.2.2.1
  have e691 := hI.st.2.1
  have hn9 := hI.ad.2.2.1
  have hed : ed < e + 1 := by rw [← eed]; exact Nat.mod_lt _ (by omega)
  have ha : a < c.2 + 1 := by rw [← ea]; exact Nat.mod_lt _ (by omega)
  obtain ⟨w, hw5, e294, e694, ho⟩ := hI.owe
  have hx := hx w hw5 e294
  have hoI : (∃ j, j < w ∧ I 40 j = nI a) ↔ ∃ j, j < w ∧ I 68 j = nI a := ⟨fun ⟨j, j1, j2⟩ => ⟨j, j1, by rw [← (ho j j1).1]; exact j2⟩, fun ⟨j, j1, j2⟩ => ⟨j, j1, by rw [(ho j j1).1]; exact j2⟩⟩
  refine xv_Met.of (by decide +kernel) (Nat.le_of_ble_eq_true rfl) (List.forall_mem_cons.mpr ⟨rfl, List.forall_mem_cons.mpr ⟨rfl, List.forall_mem_cons.mpr ⟨rfl, List.forall_mem_cons.mpr ⟨rfl, List.forall_mem_cons.mpr ⟨rfl, List.forall_mem_cons.mpr ⟨rfl, List.forall_mem_cons.mpr ⟨rfl, List.forall_mem_cons.mpr ⟨rfl, List.forall_mem_cons.mpr ⟨rfl, List.forall_mem_cons.mpr ⟨rfl, List.forall_mem_cons.mpr ⟨rfl, fun _ h => nomatch h⟩⟩⟩⟩⟩⟩⟩⟩⟩⟩⟩) ?_
  show xv_W mL_isClosed 11 2100 16800 _ 2100 16800 (sx n c) I (rx c) J 0 [some (.ref 0), some (.ref 60), some (.ref 63), some (.ref 64), some (.ref 66), some (.ref 67), some (.ref 68), some (.ref 69), some (.int (nI 1)), some (.int (nI one)), some (.int (nI two)), none, none, none, none, none, none] []
  refine xv_il8 fL_isClosed_0 ?_
  refine xv_if_ne fL_isClosed_2 (fun h_2 => ?_) (fun h_2 => ?_)
  · refine xv_il8 fL_isClosed_291 ?_
    refine xv_k fL_isClosed_293 ?_
    refine xv_ic_ne fL_isClosed_294 (fun h_294 => ?_) (fun h_294 => ?_)
    · exact absurd h_294 (by decide)
    · refine xv_il9 fL_isClosed_297 ?_
      refine xv_al7 fL_isClosed_299 ?_
      refine xv_k fL_isClosed_301 ?_
      refine xv_ialdN fL_isClosed_302 (sx_69 _ _) (⟨by omega, by decide⟩) ?_
      rw [e693]
      refine xv_k fL_isClosed_303 ?_
      refine xv_iadd fL_isClosed_304 ?_
      refine xv_eqi (y := nI (e + 1)) (nI_add _ _) ?_
      refine xv_irem fL_isClosed_305 (nI_ne0 (by omega) (by omega)) ?_
      refine xv_eqi (y := nI ed) (by rw [nI_rem h1 (by omega), eed]) ?_
      refine xv_is11 fL_isClosed_306 ?_
      refine xv_il10 fL_isClosed_308 ?_
      refine xv_al7 fL_isClosed_310 ?_
      refine xv_k fL_isClosed_312 ?_
      refine xv_ialdN fL_isClosed_313 (sx_69 _ _) (⟨by omega, by decide⟩) ?_
      rw [e691]
      refine xv_k fL_isClosed_314 ?_
      refine xv_iadd fL_isClosed_315 ?_
      refine xv_eqi (y := nI (c.2 + 1)) (nI_add _ _) ?_
      refine xv_irem fL_isClosed_316 (nI_ne0 (by omega) (by omega)) ?_
      refine xv_eqi (y := nI a) (by rw [nI_rem h2 (by omega), ea]) ?_
      refine xv_is12 fL_isClosed_317 ?_
      refine xv_al0 fL_isClosed_319 ?_
      refine xv_k fL_isClosed_320 ?_
      refine xv_il11 fL_isClosed_322 ?_
      refine xv_il12 fL_isClosed_324 ?_
      refine xv_k fL_isClosed_326 ?_
      refine xv_k fL_isClosed_327 ?_
      refine xv_k fL_isClosed_328 ?_
      refine xv_callS7R (w_correct_S n c c J (p_correct_c n c I J (e := ed) (w := e) h he8 e29 hac (by omega) hw5 e294 hx)) fL_isClosed_329 YL_does VL_does lL_113 rfl (Nat.le_of_ble_eq_true rfl) (by decide) (by decide) (by decide) ?_
      refine xv_is13 fL_isClosed_332 ?_
      refine xv_il11 fL_isClosed_334 ?_
      refine xv_al7 fL_isClosed_336 ?_
      refine xv_k fL_isClosed_338 ?_
      refine xv_ialdN fL_isClosed_339 (sx_69 _ _) (⟨by omega, by decide⟩) ?_
      rw [e693]
      refine xv_ic_eq fL_isClosed_340 (fun h_340 => ?_) (fun h_340 => ?_)
      · exact absurd ((nI_eq (by omega) (by omega)).mp h_340) (by omega)
      · refine xv_il12 fL_isClosed_343 ?_
        refine xv_al7 fL_isClosed_345 ?_
        refine xv_k fL_isClosed_347 ?_
        refine xv_ialdN fL_isClosed_348 (sx_69 _ _) (⟨by omega, by decide⟩) ?_
        rw [e691]
        refine xv_ic_ne fL_isClosed_349 (fun h_349 => ?_) (fun h_349 => ?_)
        · refine xv_k fL_isClosed_366 ?_
          refine xv_is14 fL_isClosed_367 ?_
          refine xv_k fL_isClosed_369 ?_
          refine xv_is15 fL_isClosed_370 ?_
          refine l_clhas n c J (by decide) (ed := ed) (e := e) (a := a) h he8 e29 (by omega) (k0 := 100) (s0 := 1000) (fun l15 => ?_) 120 0 _ _ _ rfl (by decide) (by decide) (bi_f (fun ⟨j, j1, _⟩ => absurd j1 (Nat.not_lt_zero _))).symm
          refine xv_k fL_isClosed_422 ?_
          refine xv_is15 fL_isClosed_423 ?_
          refine xv_k fL_isClosed_425 ?_
          refine xv_is16 fL_isClosed_426 ?_
          refine l_clowe n c J (by decide) (a := a) hw5 e694 (fun l16 => ?_) w 0 _ (by omega) (bi_f (fun ⟨j, j1, _⟩ => absurd j1 (Nat.not_lt_zero _))).symm
          refine xv_il14 fL_isClosed_465 ?_
          refine xv_if_eq fL_isClosed_467 (fun h_467 => ?_) (fun h_467 => ?_)
          · refine xv_il13 fL_isClosed_483 ?_
            refine xv_k fL_isClosed_485 ?_
            refine xv_ic_ne fL_isClosed_488 (fun h_488 => ?_) (fun h_488 => ?_)
            · exact absurd rfl h_488
            · refine xv_k fL_isClosed_491 ?_
              refine xv_goto fL_isClosed_492 ?_
              exact xv_iret fL_isClosed_496 rfl rfl ⟨rfl, c, rfl, rfl, rfl, hI⟩
          · refine xv_il15 fL_isClosed_470 ?_
            refine xv_if_ne fL_isClosed_472 (fun h_472 => ?_) (fun h_472 => ?_)
            · refine xv_il13 fL_isClosed_483 ?_
              refine xv_k fL_isClosed_485 ?_
              refine xv_ic_ne fL_isClosed_488 (fun h_488 => ?_) (fun h_488 => ?_)
              · exact absurd rfl h_488
              · refine xv_k fL_isClosed_491 ?_
                refine xv_goto fL_isClosed_492 ?_
                exact xv_iret fL_isClosed_496 rfl rfl ⟨rfl, c, rfl, rfl, rfl, hI⟩
            · refine xv_al7 fL_isClosed_475 ?_
              refine xv_k fL_isClosed_477 ?_
              refine xv_ialdN fL_isClosed_478 (sx_69 _ _) (⟨by omega, by decide⟩) ?_
              rw [e694]
              refine xv_k fL_isClosed_479 ?_
              refine xv_ic_ne fL_isClosed_480 (fun h_480 => ?_) (fun h_480 => ?_)
              · exact absurd ⟨bi_1 h_467, fun q => bi_0 h_472 (hoI.mp q), Nat.lt_of_le_of_ne hw5 (fun z => h_480 (by rw [z]))⟩ hx
              · refine xv_il13 fL_isClosed_483 ?_
                refine xv_k fL_isClosed_485 ?_
                refine xv_ic_ne fL_isClosed_488 (fun h_488 => ?_) (fun h_488 => ?_)
                · exact absurd rfl h_488
                · refine xv_k fL_isClosed_491 ?_
                  refine xv_goto fL_isClosed_492 ?_
                  exact xv_iret fL_isClosed_496 rfl rfl ⟨rfl, c, rfl, rfl, rfl, hI⟩
        · exact absurd ((nI_eq (by omega) (by omega)).mp h_349) (by omega)
  · exact absurd h_2 (by decide)
theorem k_cor_ok (n : Nat) (c : Nat × Nat) (I : xv_I) (J : xv_J) {one two : Nat} (h1 : one < 2 ^ 31) (h2 : two < 2 ^ 31) (hn : n < 1000) (hI : Inv c I) {ed a e : Nat} (e29 : I 29 2 = nI e) (he8 : e ≤ 8) (e693 : I 69 3 = nI e) (eed : one % (e + 1) = ed) (ea : two % (c.2 + 1) = a) (h : ed < e) (hac : a < c.2) (hx : ∀ w, w ≤ 5 → I 29 4 = nI w → ((∃ j, j < 120 ∧ I (31 + ed) j = nI (200 + a)) ∧ (¬ ∃ j, j < w ∧ I 40 j = nI a) ∧ w < 5)) : xv_Met mL_isClosed 11 2100 16800 (sx n c) I (rx c) J [.ref 0, .ref 60, .ref 63, .ref 64, .ref 66, .ref 67, .ref 68, .ref 69, .int (nI 1), .int (nI one), .int (nI two)] (qI n J) := by
  have hn8 := hI.st.2.2.1
  have e691 := hI.st.2.1
  have hn9 := hI.ad.2.2.1
  have hed : ed < e + 1 := by rw [← eed]; exact Nat.mod_lt _ (by omega)
  have ha : a < c.2 + 1 := by rw [← ea]; exact Nat.mod_lt _ (by omega)
  obtain ⟨w, hw5, e294, e694, ho⟩ := hI.owe
  have hx := hx w hw5 e294
  have hoI : (∃ j, j < w ∧ I 40 j = nI a) ↔ ∃ j, j < w ∧ I 68 j = nI a := ⟨fun ⟨j, j1, j2⟩ => ⟨j, j1, by rw [← (ho j j1).1]; exact j2⟩, fun ⟨j, j1, j2⟩ => ⟨j, j1, by rw [(ho j j1).1]; exact j2⟩⟩
  obtain ⟨K1, hK1⟩ : ∃ K1, K1 = xv_u (xv_u I 40 w (nI a)) 29 4 (nI (w + 1)) := ⟨_, rfl⟩
  have kO : ∀ v j, v ≠ 40 → (v ≠ 29 ∨ j ≠ 4) → K1 v j = I v j := fun v j g1 g2 => by
    rw [hK1]
    exact (if_neg (by omega)).trans (if_neg (by omega))
  have kH : ∃ j, j < 120 ∧ K1 (31 + ed) j = nI (200 + a) := by
    obtain ⟨j, j1, j2⟩ := hx.1
    exact ⟨j, j1, (kO _ _ (by omega) (by omega)).trans j2⟩
  have kN : ¬ ∃ j, j < w ∧ K1 68 j = nI a := fun ⟨j, j1, j2⟩ => hx.2.1 (hoI.mpr ⟨j, j1, (kO _ _ (by omega) (by omega)).symm.trans j2⟩)
  have k694 : K1 69 4 = nI w := (kO _ _ (by omega) (by omega)).trans e694
  have k29 : K1 29 2 = nI e := (kO _ _ (by omega) (by omega)).trans e29
  have hN : Inv c (xv_u (xv_u K1 68 w (nI a)) 69 4 (nI (w + 1))) := by
    rw [hK1]
    exact hI.corr hx.2.2 hac e294
  refine xv_Met.of (by decide +kernel) (Nat.le_of_ble_eq_true rfl) (List.forall_mem_cons.mpr ⟨rfl, List.forall_mem_cons.mpr ⟨rfl, List.forall_mem_cons.mpr ⟨rfl, List.forall_mem_cons.mpr ⟨rfl, List.forall_mem_cons.mpr ⟨rfl, List.forall_mem_cons.mpr ⟨rfl, List.forall_mem_cons.mpr ⟨rfl, List.forall_mem_cons.mpr ⟨rfl, List.forall_mem_cons.mpr ⟨rfl, List.forall_mem_cons.mpr ⟨rfl, List.forall_mem_cons.mpr ⟨rfl, fun _ h => nomatch h⟩⟩⟩⟩⟩⟩⟩⟩⟩⟩⟩) ?_
  show xv_W mL_isClosed 11 2100 16800 _ 2100 16800 (sx n c) I (rx c) J 0 [some (.ref 0), some (.ref 60), some (.ref 63), some (.ref 64), some (.ref 66), some (.ref 67), some (.ref 68), some (.ref 69), some (.int (nI 1)), some (.int (nI one)), some (.int (nI two)), none, none, none, none, none, none] []
  refine xv_il8 fL_isClosed_0 ?_
  refine xv_if_ne fL_isClosed_2 (fun h_2 => ?_) (fun h_2 => ?_)
  · refine xv_il8 fL_isClosed_291 ?_
    refine xv_k fL_isClosed_293 ?_
    refine xv_ic_ne fL_isClosed_294 (fun h_294 => ?_) (fun h_294 => ?_)
    · exact absurd h_294 (by decide)
    · refine xv_il9 fL_isClosed_297 ?_
      refine xv_al7 fL_isClosed_299 ?_
      refine xv_k fL_isClosed_301 ?_
      refine xv_ialdN fL_isClosed_302 (sx_69 _ _) (⟨by omega, by decide⟩) ?_
      rw [e693]
      refine xv_k fL_isClosed_303 ?_
      refine xv_iadd fL_isClosed_304 ?_
      refine xv_eqi (y := nI (e + 1)) (nI_add _ _) ?_
      refine xv_irem fL_isClosed_305 (nI_ne0 (by omega) (by omega)) ?_
      refine xv_eqi (y := nI ed) (by rw [nI_rem h1 (by omega), eed]) ?_
      refine xv_is11 fL_isClosed_306 ?_
      refine xv_il10 fL_isClosed_308 ?_
      refine xv_al7 fL_isClosed_310 ?_
      refine xv_k fL_isClosed_312 ?_
      refine xv_ialdN fL_isClosed_313 (sx_69 _ _) (⟨by omega, by decide⟩) ?_
      rw [e691]
      refine xv_k fL_isClosed_314 ?_
      refine xv_iadd fL_isClosed_315 ?_
      refine xv_eqi (y := nI (c.2 + 1)) (nI_add _ _) ?_
      refine xv_irem fL_isClosed_316 (nI_ne0 (by omega) (by omega)) ?_
      refine xv_eqi (y := nI a) (by rw [nI_rem h2 (by omega), ea]) ?_
      refine xv_is12 fL_isClosed_317 ?_
      refine xv_al0 fL_isClosed_319 ?_
      refine xv_k fL_isClosed_320 ?_
      refine xv_il11 fL_isClosed_322 ?_
      refine xv_il12 fL_isClosed_324 ?_
      refine xv_k fL_isClosed_326 ?_
      refine xv_k fL_isClosed_327 ?_
      refine xv_k fL_isClosed_328 ?_
      refine xv_callS7R (w_correct_ok n c c J (I' := K1) (by rw [hK1]; exact p_correct_ok n c I J (e := ed) (w := e) h he8 e29 hac (by omega) hw5 e294 hx)) fL_isClosed_329 YL_does VL_does lL_113 rfl (Nat.le_of_ble_eq_true rfl) (by decide) (by decide) (by decide) ?_
      refine xv_is13 fL_isClosed_332 ?_
      refine xv_il11 fL_isClosed_334 ?_
      refine xv_al7 fL_isClosed_336 ?_
      refine xv_k fL_isClosed_338 ?_
      refine xv_ialdN fL_isClosed_339 (sx_69 _ _) (⟨by omega, by decide⟩) ?_
      rw [(kO _ _ (by omega) (by omega)).trans e693]
      refine xv_ic_eq fL_isClosed_340 (fun h_340 => ?_) (fun h_340 => ?_)
      · exact absurd ((nI_eq (by omega) (by omega)).mp h_340) (by omega)
      · refine xv_il12 fL_isClosed_343 ?_
        refine xv_al7 fL_isClosed_345 ?_
        refine xv_k fL_isClosed_347 ?_
        refine xv_ialdN fL_isClosed_348 (sx_69 _ _) (⟨by omega, by decide⟩) ?_
        rw [(kO _ _ (by omega) (by omega)).trans e691]
        refine xv_ic_ne fL_isClosed_349 (fun h_349 => ?_) (fun h_349 => ?_)
        · refine xv_k fL_isClosed_366 ?_
          refine xv_is14 fL_isClosed_367 ?_
          refine xv_k fL_isClosed_369 ?_
          refine xv_is15 fL_isClosed_370 ?_
          refine l_clhas n c J (by decide) (ed := ed) (e := e) (a := a) h he8 k29 (by omega) (k0 := 100) (s0 := 1000) (fun l15 => ?_) 120 0 _ _ _ rfl (by decide) (by decide) (bi_f (fun ⟨j, j1, _⟩ => absurd j1 (Nat.not_lt_zero _))).symm
          refine xv_k fL_isClosed_422 ?_
          refine xv_is15 fL_isClosed_423 ?_
          refine xv_k fL_isClosed_425 ?_
          refine xv_is16 fL_isClosed_426 ?_
          refine l_clowe n c J (by decide) (a := a) hw5 k694 (fun l16 => ?_) w 0 _ (by omega) (bi_f (fun ⟨j, j1, _⟩ => absurd j1 (Nat.not_lt_zero _))).symm
          rw [bi_t kH, bi_f kN]
          refine xv_il14 fL_isClosed_465 ?_
          refine xv_if_eq fL_isClosed_467 (fun h_467 => ?_) (fun h_467 => ?_)
          · exact absurd h_467 (by decide)
          · refine xv_il15 fL_isClosed_470 ?_
            refine xv_if_ne fL_isClosed_472 (fun h_472 => ?_) (fun h_472 => ?_)
            · exact absurd h_472 (by decide)
            · refine xv_al7 fL_isClosed_475 ?_
              refine xv_k fL_isClosed_477 ?_
              refine xv_ialdN fL_isClosed_478 (sx_69 _ _) (⟨by omega, by decide⟩) ?_
              rw [k694]
              refine xv_k fL_isClosed_479 ?_
              refine xv_ic_ne fL_isClosed_480 (fun h_480 => ?_) (fun h_480 => ?_)
              · refine xv_al6 fL_isClosed_497 ?_
                refine xv_al7 fL_isClosed_499 ?_
                refine xv_k fL_isClosed_501 ?_
                refine xv_ialdN fL_isClosed_502 (sx_69 _ _) (⟨by omega, by decide⟩) ?_
                rw [k694]
                refine xv_il12 fL_isClosed_503 ?_
                refine xv_iastN fL_isClosed_505 (sx_68 _ _) (⟨by omega, by decide⟩) ?_
                refine xv_al7 fL_isClosed_506 ?_
                refine xv_k fL_isClosed_508 ?_
                refine xv_dup2 fL_isClosed_509 ?_
                refine xv_ialdN fL_isClosed_510 (sx_69 _ _) (⟨by omega, by decide⟩) ?_
                rw [xv_u_ne _ _ _ (by decide), k694]
                refine xv_k fL_isClosed_511 ?_
                refine xv_iadd fL_isClosed_512 ?_
                refine xv_eqi (y := nI (w + 1)) (nI_add _ _) ?_
                refine xv_iastN fL_isClosed_513 (sx_69 _ _) (⟨by omega, by decide⟩) ?_
                refine xv_il13 fL_isClosed_514 ?_
                refine xv_al7 fL_isClosed_516 ?_
                refine xv_k fL_isClosed_518 ?_
                refine xv_ialdN fL_isClosed_519 (sx_69 _ _) (⟨by omega, by decide⟩) ?_
                rw [xv_u_eq]
                refine xv_ic_ne fL_isClosed_520 (fun h_520 => ?_) (fun h_520 => ?_)
                · exact absurd rfl h_520
                · refine xv_k fL_isClosed_523 ?_
                  refine xv_goto fL_isClosed_524 ?_
                  exact xv_iret fL_isClosed_528 rfl rfl ⟨rfl, c, rfl, rfl, rfl, hN⟩
              · exact absurd ((nI_eq (by omega) (by omega)).mp h_480) (by omega)
        · exact absurd ((nI_eq (by omega) (by omega)).mp h_349) (by omega)
  · exact absurd h_2 (by decide)
theorem k_plc_a (n : Nat) (c : Nat × Nat) (I : xv_I) (J : xv_J) {one two : Nat} (h1 : one < 2 ^ 31) (h2 : two < 2 ^ 31) (hn : n < 1000) (hI : Inv c I) (h0 : I 69 4 = nI 0) (h29 : I 29 4 = 0) : xv_Met mL_isClosed 11 2100 16800 (sx n c) I (rx c) J [.ref 0, .ref 60, .ref 63, .ref 64, .ref 66, .ref 67, .ref 68, .ref 69, .int (nI 2), .int (nI one), .int (nI two)] (qI n J) := by
  have hn8 := hI.st.2.2.1
  have e691 := hI.st.2.1
  have hn9 := hI.ad.2.2.1
  refine xv_Met.of (by decide +kernel) (Nat.le_of_ble_eq_true rfl) (List.forall_mem_cons.mpr ⟨rfl, List.forall_mem_cons.mpr ⟨rfl, List.forall_mem_cons.mpr ⟨rfl, List.forall_mem_cons.mpr ⟨rfl, List.forall_mem_cons.mpr ⟨rfl, List.forall_mem_cons.mpr ⟨rfl, List.forall_mem_cons.mpr ⟨rfl, List.forall_mem_cons.mpr ⟨rfl, List.forall_mem_cons.mpr ⟨rfl, List.forall_mem_cons.mpr ⟨rfl, List.forall_mem_cons.mpr ⟨rfl, fun _ h => nomatch h⟩⟩⟩⟩⟩⟩⟩⟩⟩⟩⟩) ?_
  show xv_W mL_isClosed 11 2100 16800 _ 2100 16800 (sx n c) I (rx c) J 0 [some (.ref 0), some (.ref 60), some (.ref 63), some (.ref 64), some (.ref 66), some (.ref 67), some (.ref 68), some (.ref 69), some (.int (nI 2)), some (.int (nI one)), some (.int (nI two)), none, none, none, none, none, none] []
  refine xv_il8 fL_isClosed_0 ?_
  refine xv_if_ne fL_isClosed_2 (fun h_2 => ?_) (fun h_2 => ?_)
  · refine xv_il8 fL_isClosed_291 ?_
    refine xv_k fL_isClosed_293 ?_
    refine xv_ic_ne fL_isClosed_294 (fun h_294 => ?_) (fun h_294 => ?_)
    · refine xv_il8 fL_isClosed_529 ?_
      refine xv_k fL_isClosed_531 ?_
      refine xv_ic_ne fL_isClosed_532 (fun h_532 => ?_) (fun h_532 => ?_)
      · exact absurd h_532 (by decide)
      · refine xv_al7 fL_isClosed_535 ?_
        refine xv_k fL_isClosed_537 ?_
        refine xv_ialdN fL_isClosed_538 (sx_69 _ _) (⟨by omega, by decide⟩) ?_
        rw [h0]
        refine xv_if_ne fL_isClosed_539 (fun h_539 => ?_) (fun h_539 => ?_)
        · exact absurd rfl h_539
        · refine xv_k fL_isClosed_542 ?_
          refine xv_goto fL_isClosed_545 ?_
          refine xv_is11 fL_isClosed_549 ?_
          refine xv_k fL_isClosed_551 ?_
          refine xv_is12 fL_isClosed_553 ?_
          refine xv_il12 fL_isClosed_555 ?_
          refine xv_if_lt fL_isClosed_557 (fun h_557 => ?_) (fun h_557 => ?_)
          · exact absurd h_557 (by decide)
          · refine xv_al7 fL_isClosed_560 ?_
            refine xv_k fL_isClosed_562 ?_
            refine xv_ialdN fL_isClosed_563 (sx_69 _ _) (⟨by omega, by decide⟩) ?_
            rw [h0]
            refine xv_if_le fL_isClosed_564 (fun h_564 => ?_) (fun h_564 => ?_)
            · refine xv_al6 fL_isClosed_636 ?_
              refine xv_k fL_isClosed_638 ?_
              refine xv_ialdN fL_isClosed_639 (sx_68 _ _) (⟨by omega, by decide⟩) ?_
              refine xv_is12 fL_isClosed_640 ?_
              refine xv_al0 fL_isClosed_642 ?_
              refine xv_k fL_isClosed_643 ?_
              refine xv_k fL_isClosed_645 ?_
              refine xv_k fL_isClosed_646 ?_
              refine xv_k fL_isClosed_647 ?_
              refine xv_k fL_isClosed_648 ?_
              refine xv_k fL_isClosed_649 ?_
              refine xv_callS7R (w_placeCorrection_S n c c J (p_plC_a n c I J h29)) fL_isClosed_650 YL_does VL_does lL_113 rfl (Nat.le_of_ble_eq_true rfl) (by decide) (by decide) (by decide) ?_
              refine xv_is13 fL_isClosed_653 ?_
              refine xv_il11 fL_isClosed_655 ?_
              refine xv_if_lt fL_isClosed_657 (fun h_657 => ?_) (fun h_657 => ?_)
              · refine xv_il13 fL_isClosed_698 ?_
                refine xv_il11 fL_isClosed_700 ?_
                refine xv_ic_ne fL_isClosed_702 (fun h_702 => ?_) (fun h_702 => ?_)
                · exact absurd rfl h_702
                · refine xv_il11 fL_isClosed_705 ?_
                  refine xv_if_lt fL_isClosed_707 (fun h_707 => ?_) (fun h_707 => ?_)
                  · refine xv_k fL_isClosed_733 ?_
                    refine xv_goto fL_isClosed_734 ?_
                    exact xv_iret fL_isClosed_738 rfl rfl ⟨rfl, c, rfl, rfl, rfl, hI⟩
                  · exact absurd (by decide) h_707
              · exact absurd (by decide) h_657
            · exact absurd (by decide) h_564
    · exact absurd h_294 (by decide)
  · exact absurd h_2 (by decide)
theorem l_cldue (n : Nat) (c : Nat × Nat) (I : xv_I) (J : xv_J) {D MC MS : Nat} {Q : xv_Q} (hDD : 12 ≤ D + 1) (hI : Inv c I) {w a sec X kc ks : Nat} (hw0 : 0 < w) (hw5 : w ≤ 5) (e694 : I 69 4 = nI w) (h68 : I 68 0 = nI a) (ha : a < 20) (h63 : I 63 a = nI X) (hX : X < 2 ^ 31) (hX2 : X % 10 = sec) (hsec : sec < 4) {l8 l9 l10 l13 l14 l15 l16 : Option Value} (kk : ∀ (dv : Int32) l12, ((dv = -1 ∧ ∀ j, 0 ≤ j → j < 84 → ¬ (I (3 + j / 12) (j % 12) = 0 ∧ I 13 (j / 12) = nI sec)) ∨ ∃ j, 0 ≤ j ∧ j < 84 ∧ (I (3 + j / 12) (j % 12) = 0 ∧ I 13 (j / 12) = nI sec) ∧ (∀ i, 0 ≤ i → i < j → ¬ (I (3 + i / 12) (i % 12) = 0 ∧ I 13 (i / 12) = nI sec)) ∧ dv = nI (100 * (j / 12) + j % 12)) → xv_W mL_isClosed D MC MS Q kc ks (sx n c) I (rx c) J 636 (some (.ref 0) :: some (.ref 60) :: some (.ref 63) :: some (.ref 64) :: some (.ref 66) :: some (.ref 67) :: some (.ref 68) :: some (.ref 69) :: l8 :: l9 :: l10 :: some (.int (dv)) :: l12 :: l13 :: l14 :: l15 :: l16 :: []) []) : ∀ (k : Nat) (dv x12 : Int32), k ≤ 84 → x12 = nI k - nI 1 → ((dv = -1 ∧ ∀ j, k ≤ j → j < 84 → ¬ (I (3 + j / 12) (j % 12) = 0 ∧ I 13 (j / 12) = nI sec)) ∨ ∃ j, k ≤ j ∧ j < 84 ∧ (I (3 + j / 12) (j % 12) = 0 ∧ I 13 (j / 12) = nI sec) ∧ (∀ i, k ≤ i → i < j → ¬ (I (3 + i / 12) (i % 12) = 0 ∧ I 13 (i / 12) = nI sec)) ∧ dv = nI (100 * (j / 12) + j % 12)) → xv_W mL_isClosed D MC MS Q kc ks (sx n c) I (rx c) J 555 (some (.ref 0) :: some (.ref 60) :: some (.ref 63) :: some (.ref 64) :: some (.ref 66) :: some (.ref 67) :: some (.ref 68) :: some (.ref 69) :: l8 :: l9 :: l10 :: some (.int (dv)) :: some (.int (x12)) :: l13 :: l14 :: l15 :: l16 :: []) [] := by
  intro k
  induction k with
  | zero =>
    intro dv x12 hk hx hd
    subst hx
    show xv_W mL_isClosed D MC MS _ kc ks (sx n c) I (rx c) J 555 (some (.ref 0) :: some (.ref 60) :: some (.ref 63) :: some (.ref 64) :: some (.ref 66) :: some (.ref 67) :: some (.ref 68) :: some (.ref 69) :: l8 :: l9 :: l10 :: some (.int (dv)) :: some (.int (nI 0 - nI 1)) :: l13 :: l14 :: l15 :: l16 :: []) []
    refine xv_il12 fL_isClosed_555 ?_
    refine xv_if_lt fL_isClosed_557 (fun h_557 => ?_) (fun h_557 => ?_)
    · exact kk dv _ hd
    · exact absurd (by decide) h_557
  | succ k ih =>
    intro dv x12 hk hx hd
    obtain rfl : x12 = nI k := m1_neg (by omega) hx
    have hp : k / 12 < 10 := by omega
    have hc9 := (hI.2.1 (k / 12) hp (k % 12) (by omega)).symm
    obtain ⟨s9, z9, g1, g2, g3, g4, g5⟩ := hI.page (k / 12) hp
    show xv_W mL_isClosed D MC MS _ kc ks (sx n c) I (rx c) J 555 (some (.ref 0) :: some (.ref 60) :: some (.ref 63) :: some (.ref 64) :: some (.ref 66) :: some (.ref 67) :: some (.ref 68) :: some (.ref 69) :: l8 :: l9 :: l10 :: some (.int (dv)) :: some (.int (nI k)) :: l13 :: l14 :: l15 :: l16 :: []) []
    refine xv_il12 fL_isClosed_555 ?_
    refine xv_if_lt fL_isClosed_557 (fun h_557 => ?_) (fun h_557 => ?_)
    · exact absurd h_557 (nI_pos (by omega))
    · refine xv_al7 fL_isClosed_560 ?_
      refine xv_k fL_isClosed_562 ?_
      refine xv_ialdN fL_isClosed_563 (sx_69 _ _) (⟨by omega, by decide⟩) ?_
      rw [e694]
      refine xv_if_le fL_isClosed_564 (fun h_564 => ?_) (fun h_564 => ?_)
      · exact absurd h_564 (nI_nle hw0 (by omega))
      · refine xv_al4 fL_isClosed_567 ?_
        refine xv_al5 fL_isClosed_569 ?_
        refine xv_il12 fL_isClosed_571 ?_
        refine xv_k fL_isClosed_573 ?_
        refine xv_idiv fL_isClosed_575 (by decide) ?_
        refine xv_eqi (y := nI (k / 12)) (nI_div (by omega) (by decide)) ?_
        refine xv_il12 fL_isClosed_576 ?_
        refine xv_k fL_isClosed_578 ?_
        refine xv_irem fL_isClosed_580 (by decide) ?_
        refine xv_eqi (y := nI (k % 12)) (nI_rem (by omega) (by decide)) ?_
        refine xv_callS4R (c_cell n c I J hp (k := k % 12) (by omega)) fL_isClosed_581 YL_cell VL_cell lL_96 rfl (Nat.le_of_ble_eq_true rfl) (by omega) (by omega) (by omega) ?_
        rw [hc9]
        refine xv_if_ne fL_isClosed_584 (fun h_584 => ?_) (fun h_584 => ?_)
        · refine xv_il11 fL_isClosed_626 ?_
          refine xv_is11 fL_isClosed_628 ?_
          refine xv_iinc12 (v := -1) fL_isClosed_630 (by decide) ?_
          refine xv_goto fL_isClosed_633 ?_
          refine ih _ _ (by omega) (m1_dec k) ?_
          have hno : ¬ (I (3 + k / 12) (k % 12) = 0 ∧ I 13 (k / 12) = nI sec) := (fun q => h_584 q.1)
          rcases hd with ⟨d1, d2⟩ | ⟨j, j1, j2, j3, j4, j5⟩
          · exact Or.inl ⟨d1, fun j q1 q2 => by
              rcases Nat.eq_or_lt_of_le q1 with r | r
              · rw [← r]; exact hno
              · exact d2 j r q2⟩
          · exact Or.inr ⟨j, by omega, j2, j3, fun i q1 q2 => by
              rcases Nat.eq_or_lt_of_le q1 with r | r
              · rw [← r]; exact hno
              · exact j4 i r q2, j5⟩
        · refine xv_al1 fL_isClosed_587 ?_
          refine xv_il12 fL_isClosed_588 ?_
          refine xv_k fL_isClosed_590 ?_
          refine xv_idiv fL_isClosed_592 (by decide) ?_
          refine xv_eqi (y := nI (k / 12)) (nI_div (by omega) (by decide)) ?_
          refine xv_ialdN fL_isClosed_593 (sx_60 _ _) (⟨by omega, by decide⟩) ?_
          rw [g5]
          refine xv_k fL_isClosed_594 ?_
          refine xv_irem fL_isClosed_596 (by decide) ?_
          refine xv_eqi (y := nI s9) (by rw [nI_rem (by omega) (by decide)]; congr 1; omega) ?_
          refine xv_al2 fL_isClosed_597 ?_
          refine xv_al6 fL_isClosed_598 ?_
          refine xv_k fL_isClosed_600 ?_
          refine xv_ialdN fL_isClosed_601 (sx_68 _ _) (⟨by omega, by decide⟩) ?_
          rw [h68]
          refine xv_ialdN fL_isClosed_602 (sx_63 _ _) (⟨by omega, by decide⟩) ?_
          rw [h63]
          refine xv_k fL_isClosed_603 ?_
          refine xv_irem fL_isClosed_605 (by decide) ?_
          refine xv_eqi (y := nI sec) (by rw [nI_rem hX (by decide), hX2]) ?_
          refine xv_ic_ne fL_isClosed_606 (fun h_606 => ?_) (fun h_606 => ?_)
          · refine xv_il11 fL_isClosed_626 ?_
            refine xv_is11 fL_isClosed_628 ?_
            refine xv_iinc12 (v := -1) fL_isClosed_630 (by decide) ?_
            refine xv_goto fL_isClosed_633 ?_
            refine ih _ _ (by omega) (m1_dec k) ?_
            have hno : ¬ (I (3 + k / 12) (k % 12) = 0 ∧ I 13 (k / 12) = nI sec) := (fun q => h_606 (g3.symm.trans q.2))
            rcases hd with ⟨d1, d2⟩ | ⟨j, j1, j2, j3, j4, j5⟩
            · exact Or.inl ⟨d1, fun j q1 q2 => by
                rcases Nat.eq_or_lt_of_le q1 with r | r
                · rw [← r]; exact hno
                · exact d2 j r q2⟩
            · exact Or.inr ⟨j, by omega, j2, j3, fun i q1 q2 => by
                rcases Nat.eq_or_lt_of_le q1 with r | r
                · rw [← r]; exact hno
                · exact j4 i r q2, j5⟩
          · refine xv_k fL_isClosed_609 ?_
            refine xv_il12 fL_isClosed_611 ?_
            refine xv_k fL_isClosed_613 ?_
            refine xv_idiv fL_isClosed_615 (by decide) ?_
            refine xv_eqi (y := nI (k / 12)) (nI_div (by omega) (by decide)) ?_
            refine xv_imul fL_isClosed_616 ?_
            refine xv_eqi (y := nI (100 * (k / 12))) (nI_mul _ _) ?_
            refine xv_il12 fL_isClosed_617 ?_
            refine xv_k fL_isClosed_619 ?_
            refine xv_irem fL_isClosed_621 (by decide) ?_
            refine xv_eqi (y := nI (k % 12)) (nI_rem (by omega) (by decide)) ?_
            refine xv_iadd fL_isClosed_622 ?_
            refine xv_eqi (y := nI (100 * (k / 12) + k % 12)) (nI_add _ _) ?_
            refine xv_goto fL_isClosed_623 ?_
            refine xv_is11 fL_isClosed_628 ?_
            refine xv_iinc12 (v := -1) fL_isClosed_630 (by decide) ?_
            refine xv_goto fL_isClosed_633 ?_
            exact ih _ _ (by omega) (m1_dec k) (Or.inr ⟨k, Nat.le_refl _, by omega, ⟨h_584, g3.trans h_606⟩, fun i i1 i2 => by omega, rfl⟩)

theorem l_clsh (n : Nat) (c : Nat × Nat) (J : xv_J) {D MC MS : Nat} {Q : xv_Q} (hDD : 12 ≤ D + 1) {K0 : xv_I} {w kc ks : Nat} (hw5 : w ≤ 5) {l8 l9 l10 l11 l12 l13 l15 l16 : Option Value} (kk : ∀ l14, xv_W mL_isClosed D MC MS Q kc ks (sx n c) (it lSh1 (w - 1) 0 K0) (rx c) J 698 (some (.ref 0) :: some (.ref 60) :: some (.ref 63) :: some (.ref 64) :: some (.ref 66) :: some (.ref 67) :: some (.ref 68) :: some (.ref 69) :: l8 :: l9 :: l10 :: l11 :: l12 :: l13 :: l14 :: l15 :: l16 :: []) []) : ∀ (u k : Nat) (K : xv_I), k + u = w - 1 → K 69 4 = nI (w - 1) → it lSh1 u k K = it lSh1 (w - 1) 0 K0 → xv_W mL_isClosed D MC MS Q kc ks (sx n c) K (rx c) J 671 (some (.ref 0) :: some (.ref 60) :: some (.ref 63) :: some (.ref 64) :: some (.ref 66) :: some (.ref 67) :: some (.ref 68) :: some (.ref 69) :: l8 :: l9 :: l10 :: l11 :: l12 :: l13 :: some (.int (nI k)) :: l15 :: l16 :: []) [] := by
  intro u
  induction u with
  | zero =>
    intro k K hu h4 he
    obtain rfl : k = w - 1 := by omega
    rw [← he] at kk
    show xv_W mL_isClosed D MC MS _ kc ks (sx n c) K (rx c) J 671 (some (.ref 0) :: some (.ref 60) :: some (.ref 63) :: some (.ref 64) :: some (.ref 66) :: some (.ref 67) :: some (.ref 68) :: some (.ref 69) :: l8 :: l9 :: l10 :: l11 :: l12 :: l13 :: some (.int (nI (w - 1))) :: l15 :: l16 :: []) []
    refine xv_il14 fL_isClosed_671 ?_
    refine xv_al7 fL_isClosed_673 ?_
    refine xv_k fL_isClosed_675 ?_
    refine xv_ialdN fL_isClosed_676 (sx_69 _ _) (⟨by omega, by decide⟩) ?_
    rw [h4]
    refine xv_ic_ge fL_isClosed_677 (fun h_677 => ?_) (fun h_677 => ?_)
    · exact kk _
    · exact absurd (nI_le (Nat.le_refl _) (by omega)) h_677
  | succ u ih =>
    intro k K hu h4 he
    have hk : k < w - 1 := by omega
    show xv_W mL_isClosed D MC MS _ kc ks (sx n c) K (rx c) J 671 (some (.ref 0) :: some (.ref 60) :: some (.ref 63) :: some (.ref 64) :: some (.ref 66) :: some (.ref 67) :: some (.ref 68) :: some (.ref 69) :: l8 :: l9 :: l10 :: l11 :: l12 :: l13 :: some (.int (nI k)) :: l15 :: l16 :: []) []
    refine xv_il14 fL_isClosed_671 ?_
    refine xv_al7 fL_isClosed_673 ?_
    refine xv_k fL_isClosed_675 ?_
    refine xv_ialdN fL_isClosed_676 (sx_69 _ _) (⟨by omega, by decide⟩) ?_
    rw [h4]
    refine xv_ic_ge fL_isClosed_677 (fun h_677 => ?_) (fun h_677 => ?_)
    · exact absurd h_677 (nI_ge hk (by omega))
    · refine xv_al6 fL_isClosed_680 ?_
      refine xv_il14 fL_isClosed_682 ?_
      refine xv_al6 fL_isClosed_684 ?_
      refine xv_il14 fL_isClosed_686 ?_
      refine xv_k fL_isClosed_688 ?_
      refine xv_iadd fL_isClosed_689 ?_
      refine xv_eqi (y := nI (k + 1)) (nI_add _ _) ?_
      refine xv_ialdN fL_isClosed_690 (sx_68 _ _) (⟨by omega, by decide⟩) ?_
      refine xv_iastN fL_isClosed_691 (sx_68 _ _) (⟨by omega, by decide⟩) ?_
      refine xv_iincN14 (a := 1) fL_isClosed_692 (by decide) ?_
      refine xv_goto fL_isClosed_695 ?_
      exact ih (k + 1) (lSh1 k K) (by omega) ((xv_u_ne _ _ _ (by decide)).trans h4) he

theorem k_plc_ok (n : Nat) (c : Nat × Nat) (I : xv_I) (J : xv_J) {one two : Nat} (h1 : one < 2 ^ 31) (h2 : two < 2 ^ 31) (hn : n < 1000) (hI : Inv c I) (h29 : ¬ I 29 4 = 0) : xv_Met mL_isClosed 11 2100 16800 (sx n c) I (rx c) J [.ref 0, .ref 60, .ref 63, .ref 64, .ref 66, .ref 67, .ref 68, .ref 69, .int (nI 2), .int (nI one), .int (nI two)] (qM n J) := by
  have hn8 := hI.st.2.2.1
  have e691 := hI.st.2.1
  have hn9 := hI.ad.2.2.1
  obtain ⟨w, hw5, e294, e694, ho⟩ := hI.owe
  have hw0 : 0 < w := Nat.pos_of_ne_zero fun z => h29 (by rw [e294, z]; rfl)
  obtain ⟨a, hac, e40⟩ := (ho 0 hw0).2
  have h68 : I 68 0 = nI a := (ho 0 hw0).1.symm.trans e40
  obtain ⟨sec, d, np, lo, sh, a1, a2, a3, a4, a5, a6, a7, a8, a9, b1, b2, b3, b4, b5, b6⟩ := hI.st.2.2.2 a hac
  refine xv_Met.of (by decide +kernel) (Nat.le_of_ble_eq_true rfl) (List.forall_mem_cons.mpr ⟨rfl, List.forall_mem_cons.mpr ⟨rfl, List.forall_mem_cons.mpr ⟨rfl, List.forall_mem_cons.mpr ⟨rfl, List.forall_mem_cons.mpr ⟨rfl, List.forall_mem_cons.mpr ⟨rfl, List.forall_mem_cons.mpr ⟨rfl, List.forall_mem_cons.mpr ⟨rfl, List.forall_mem_cons.mpr ⟨rfl, List.forall_mem_cons.mpr ⟨rfl, List.forall_mem_cons.mpr ⟨rfl, fun _ h => nomatch h⟩⟩⟩⟩⟩⟩⟩⟩⟩⟩⟩) ?_
  show xv_W mL_isClosed 11 2100 16800 _ 2100 16800 (sx n c) I (rx c) J 0 [some (.ref 0), some (.ref 60), some (.ref 63), some (.ref 64), some (.ref 66), some (.ref 67), some (.ref 68), some (.ref 69), some (.int (nI 2)), some (.int (nI one)), some (.int (nI two)), none, none, none, none, none, none] []
  refine xv_il8 fL_isClosed_0 ?_
  refine xv_if_ne fL_isClosed_2 (fun h_2 => ?_) (fun h_2 => ?_)
  · refine xv_il8 fL_isClosed_291 ?_
    refine xv_k fL_isClosed_293 ?_
    refine xv_ic_ne fL_isClosed_294 (fun h_294 => ?_) (fun h_294 => ?_)
    · refine xv_il8 fL_isClosed_529 ?_
      refine xv_k fL_isClosed_531 ?_
      refine xv_ic_ne fL_isClosed_532 (fun h_532 => ?_) (fun h_532 => ?_)
      · exact absurd h_532 (by decide)
      · refine xv_al7 fL_isClosed_535 ?_
        refine xv_k fL_isClosed_537 ?_
        refine xv_ialdN fL_isClosed_538 (sx_69 _ _) (⟨by omega, by decide⟩) ?_
        rw [e694]
        refine xv_if_ne fL_isClosed_539 (fun h_539 => ?_) (fun h_539 => ?_)
        · refine xv_k fL_isClosed_548 ?_
          refine xv_is11 fL_isClosed_549 ?_
          refine xv_k fL_isClosed_551 ?_
          refine xv_is12 fL_isClosed_553 ?_
          refine l_cldue n c I J (by decide) hI hw0 hw5 e694 h68 (by omega) b5 (by omega) (by omega) a1 (fun dv l12 hdv => ?_) 84 _ _ (Nat.le_refl _) (by decide) (Or.inl ⟨rfl, fun j q1 q2 => by omega⟩)
          refine xv_al6 fL_isClosed_636 ?_
          refine xv_k fL_isClosed_638 ?_
          refine xv_ialdN fL_isClosed_639 (sx_68 _ _) (⟨by omega, by decide⟩) ?_
          rw [h68]
          refine xv_is12 fL_isClosed_640 ?_
          refine xv_al0 fL_isClosed_642 ?_
          refine xv_k fL_isClosed_643 ?_
          refine xv_k fL_isClosed_645 ?_
          refine xv_k fL_isClosed_646 ?_
          refine xv_k fL_isClosed_647 ?_
          refine xv_k fL_isClosed_648 ?_
          refine xv_k fL_isClosed_649 ?_
          refine xv_callS7G (w_placeCorrection_g n c c J (I' := I) (Q9 := xQcorr n c I J a w) (p_plC_ok n c I J hac (by omega) hw0 hw5 e294 e40) (fun r s i rf j h => by
            obtain ⟨_, _, _, ⟨ho9, _⟩ | ⟨_, _, _, _, _, _, _, ho9, _⟩⟩ := h
            · cases ho9; exact ⟨_, rfl⟩
            · cases ho9; exact ⟨_, rfl⟩) (fun E s i rf j h => by
            obtain ⟨_, _, _, ⟨ho9, _⟩ | ⟨_, _, _, _, _, _, _, ho9, _⟩⟩ := h
            · cases ho9
            · cases ho9)) fL_isClosed_650 YL_does VL_does lL_113 rfl (Nat.le_of_ble_eq_true rfl) (by decide) (by decide) (by decide) ?_ ?_
          · intro r s i rf j h _
            obtain ⟨x1, x2, x3, h⟩ := h
            rcases h with ⟨hoo, x4, hno⟩ | ⟨p, f, hp, q1, q2, q4, q5, hoo, x4⟩
            · cases hoo
              rw [x1, x2, x3, x4]
              rcases hdv with ⟨rfl, _⟩ | ⟨j9, j1, j2, j3, j4, rfl⟩
              · refine xv_is13 fL_isClosed_653 ?_
                refine xv_il11 fL_isClosed_655 ?_
                refine xv_if_lt fL_isClosed_657 (fun h_657 => ?_) (fun h_657 => ?_)
                · refine xv_il13 fL_isClosed_698 ?_
                  refine xv_il11 fL_isClosed_700 ?_
                  refine xv_ic_ne fL_isClosed_702 (fun h_702 => ?_) (fun h_702 => ?_)
                  · exact absurd rfl h_702
                  · refine xv_il11 fL_isClosed_705 ?_
                    refine xv_if_lt fL_isClosed_707 (fun h_707 => ?_) (fun h_707 => ?_)
                    · refine xv_k fL_isClosed_733 ?_
                      refine xv_goto fL_isClosed_734 ?_
                      exact xv_iret fL_isClosed_738 rfl rfl ⟨rfl, c, rfl, rfl, rfl, hI.mid⟩
                    · exact absurd (by decide) h_707
                · exact absurd (by decide) h_657
              · exact absurd ⟨by rw [a9]; exact j3.2, xLow_ex j3.1 (by omega)⟩ (hno (j9 / 12) (by omega))
            · cases hoo
              obtain ⟨u1, u2⟩ := xLow_spec q5 q4
              obtain hcd : I (3 + (12 * p + f) / 12) ((12 * p + f) % 12) = 0 ∧ I 13 ((12 * p + f) / 12) = nI sec := by
                rw [show (12 * p + f) / 12 = p by omega, show (12 * p + f) % 12 = f by omega]
                exact ⟨u1, by rw [← a9]; exact q1.1⟩
              rcases hdv with ⟨_, hd2⟩ | ⟨j9, j1, j2, j3, j4, rfl⟩
              · exact absurd hcd (hd2 (12 * p + f) (Nat.zero_le _) (by omega))
              · obtain rfl : j9 = 12 * p + f := by
                  rcases Nat.lt_trichotomy j9 (12 * p + f) with g | g | g
                  · rcases Nat.lt_or_ge (j9 / 12) p with g2 | g2
                    · exact absurd ⟨by rw [a9]; exact j3.2, xLow_ex j3.1 (by omega)⟩ (q2 (j9 / 12) g2)
                    · obtain y := j3.1
                      rw [show j9 / 12 = p by omega] at y
                      exact absurd y (u2 (j9 % 12) (by omega))
                  · exact g
                  · exact absurd hcd (j4 _ (Nat.zero_le _) g)
                rw [x1, x2, x3, x4]
                obtain e9 : 100 * ((12 * p + f) / 12) + (12 * p + f) % 12 = 100 * p + f := by omega
                rw [e9]
                obtain hM9 := Mid.plc hI hw0 hw5 hac e294 hp q4 u1
                obtain kc9 : it lSh1 (w - 1) 0 (xv_u (xDrop w (xPut I p f (nI (300 + a)))) 69 4 (nI (w - 1))) (3 + p) f = nI (300 + a) := by
                  rw [lSh_at, if_neg (by omega), xv_u_ne _ _ _ (by omega), xDrop_at hw0, if_neg (by omega), if_neg (by omega)]
                  exact (((cC.nil I (nI (300 + a))).put (by omega : p < 10) q4).1 p (by omega) f q4).1 (Or.inr ⟨rfl, rfl⟩)
                obtain k694 : xDrop w (xPut I p f (nI (300 + a))) 69 4 = nI w := by
                  rw [xDrop_at hw0, if_neg (by omega), if_neg (by omega), xPut_o I (by omega) _ (by omega)]
                  exact e694
                generalize xDrop w (xPut I p f (nI (300 + a))) = K1 at hM9 kc9 k694
                refine xv_is13 fL_isClosed_653 ?_
                refine xv_il11 fL_isClosed_655 ?_
                refine xv_if_lt fL_isClosed_657 (fun h_657 => ?_) (fun h_657 => ?_)
                · exact absurd h_657 (nI_pos (by omega))
                · refine xv_al7 fL_isClosed_660 ?_
                  refine xv_k fL_isClosed_662 ?_
                  refine xv_dup2 fL_isClosed_663 ?_
                  refine xv_ialdN fL_isClosed_664 (sx_69 _ _) (⟨by omega, by decide⟩) ?_
                  rw [k694]
                  refine xv_k fL_isClosed_665 ?_
                  refine xv_isub fL_isClosed_666 ?_
                  refine xv_eqi (y := nI (w - 1)) (nI_sub hw0) ?_
                  refine xv_iastN fL_isClosed_667 (sx_69 _ _) (⟨by omega, by decide⟩) ?_
                  refine xv_k fL_isClosed_668 ?_
                  refine xv_is14 fL_isClosed_669 ?_
                  refine l_clsh n c J (by decide) (K0 := xv_u K1 69 4 (nI (w - 1))) hw5 (fun l14 => ?_) (w - 1) 0 _ (by omega) (xv_u_eq _ _ _ _) rfl
                  refine xv_il13 fL_isClosed_698 ?_
                  refine xv_il11 fL_isClosed_700 ?_
                  refine xv_ic_ne fL_isClosed_702 (fun h_702 => ?_) (fun h_702 => ?_)
                  · exact absurd rfl h_702
                  · refine xv_il11 fL_isClosed_705 ?_
                    refine xv_if_lt fL_isClosed_707 (fun h_707 => ?_) (fun h_707 => ?_)
                    · exact absurd h_707 (nI_pos (by omega))
                    · refine xv_al0 fL_isClosed_710 ?_
                      refine xv_il11 fL_isClosed_711 ?_
                      refine xv_k fL_isClosed_713 ?_
                      refine xv_idiv fL_isClosed_715 (by decide) ?_
                      refine xv_eqi (y := nI p) (by rw [nI_div (by omega) (by decide)]; congr 1; omega) ?_
                      refine xv_il11 fL_isClosed_716 ?_
                      refine xv_k fL_isClosed_718 ?_
                      refine xv_irem fL_isClosed_720 (by decide) ?_
                      refine xv_eqi (y := nI f) (by rw [nI_rem (by omega) (by decide)]; congr 1; omega) ?_
                      refine xv_callV2R (p_cell_ok n c _ J (p := p) (by omega) q4) fL_isClosed_721 YX10_cell VX10_cell lL_14 rfl rfl (sx_0 _ _) (Nat.le_of_ble_eq_true rfl) (by decide) (by decide) (by decide) ?_
                      rw [kc9]
                      refine xv_k fL_isClosed_724 ?_
                      refine xv_il12 fL_isClosed_727 ?_
                      refine xv_iadd fL_isClosed_729 ?_
                      refine xv_eqi (y := nI (300 + a)) (nI_add _ _) ?_
                      refine xv_ic_ne fL_isClosed_730 (fun h_730 => ?_) (fun h_730 => ?_)
                      · exact absurd rfl h_730
                      · refine xv_k fL_isClosed_733 ?_
                        refine xv_goto fL_isClosed_734 ?_
                        exact xv_iret fL_isClosed_738 rfl rfl ⟨rfl, c, rfl, rfl, rfl, hM9⟩
          · intro E s i rf j h
            obtain ⟨_, _, _, ⟨hoo, _⟩ | ⟨_, _, _, _, _, _, _, hoo, _⟩⟩ := h
            · cases hoo
            · cases hoo
        · exact absurd h_539 (nI_ne0 hw0 (by omega))
    · exact absurd h_294 (by decide)
  · exact absurd h_2 (by decide)
theorem k_cln_a (n : Nat) (c : Nat × Nat) (I : xv_I) (J : xv_J) {one two : Nat} (h1 : one < 2 ^ 31) (h2 : two < 2 ^ 31) (hn : n < 1000) (hI : Inv c I) {p : Nat} (ep : one % 11 = p) (h : 10 ≤ p) : xv_Met mL_isClosed 11 2100 16800 (sx n c) I (rx c) J [.ref 0, .ref 60, .ref 63, .ref 64, .ref 66, .ref 67, .ref 68, .ref 69, .int (nI 3), .int (nI one), .int (nI two)] (qI n J) := by
  have hn8 := hI.st.2.2.1
  have e691 := hI.st.2.1
  have hn9 := hI.ad.2.2.1
  have hp11 : p < 11 := by omega
  refine xv_Met.of (by decide +kernel) (Nat.le_of_ble_eq_true rfl) (List.forall_mem_cons.mpr ⟨rfl, List.forall_mem_cons.mpr ⟨rfl, List.forall_mem_cons.mpr ⟨rfl, List.forall_mem_cons.mpr ⟨rfl, List.forall_mem_cons.mpr ⟨rfl, List.forall_mem_cons.mpr ⟨rfl, List.forall_mem_cons.mpr ⟨rfl, List.forall_mem_cons.mpr ⟨rfl, List.forall_mem_cons.mpr ⟨rfl, List.forall_mem_cons.mpr ⟨rfl, List.forall_mem_cons.mpr ⟨rfl, fun _ h => nomatch h⟩⟩⟩⟩⟩⟩⟩⟩⟩⟩⟩) ?_
  show xv_W mL_isClosed 11 2100 16800 _ 2100 16800 (sx n c) I (rx c) J 0 [some (.ref 0), some (.ref 60), some (.ref 63), some (.ref 64), some (.ref 66), some (.ref 67), some (.ref 68), some (.ref 69), some (.int (nI 3)), some (.int (nI one)), some (.int (nI two)), none, none, none, none, none, none] []
  refine xv_il8 fL_isClosed_0 ?_
  refine xv_if_ne fL_isClosed_2 (fun h_2 => ?_) (fun h_2 => ?_)
  · refine xv_il8 fL_isClosed_291 ?_
    refine xv_k fL_isClosed_293 ?_
    refine xv_ic_ne fL_isClosed_294 (fun h_294 => ?_) (fun h_294 => ?_)
    · refine xv_il8 fL_isClosed_529 ?_
      refine xv_k fL_isClosed_531 ?_
      refine xv_ic_ne fL_isClosed_532 (fun h_532 => ?_) (fun h_532 => ?_)
      · refine xv_il9 fL_isClosed_739 ?_
        refine xv_k fL_isClosed_741 ?_
        refine xv_irem fL_isClosed_743 (by decide) ?_
        refine xv_eqi (y := nI p) (by rw [nI_rem h1 (by decide), ep]) ?_
        refine xv_is11 fL_isClosed_744 ?_
        refine xv_k fL_isClosed_746 ?_
        refine xv_is12 fL_isClosed_747 ?_
        refine xv_k fL_isClosed_749 ?_
        refine xv_is13 fL_isClosed_750 ?_
        refine xv_il13 fL_isClosed_752 ?_
        refine xv_k fL_isClosed_754 ?_
        refine xv_ic_ge fL_isClosed_756 (fun h_756 => ?_) (fun h_756 => ?_)
        · exact absurd h_756 (by decide)
        · refine xv_il11 fL_isClosed_759 ?_
          refine xv_k fL_isClosed_761 ?_
          refine xv_ic_ge fL_isClosed_763 (fun h_763 => ?_) (fun h_763 => ?_)
          · refine xv_al0 fL_isClosed_799 ?_
            refine xv_k fL_isClosed_800 ?_
            refine xv_il11 fL_isClosed_802 ?_
            refine xv_k fL_isClosed_804 ?_
            refine xv_k fL_isClosed_805 ?_
            refine xv_k fL_isClosed_806 ?_
            refine xv_k fL_isClosed_807 ?_
            refine xv_callS7R (w_clean_I n c c J (p_clean_a n c I J (x := nI p) (fun z => z.2 (nI_le (by omega) (by omega))))) fL_isClosed_808 YL_does VL_does lL_113 rfl (Nat.le_of_ble_eq_true rfl) (by decide) (by decide) (by decide) ?_
            refine xv_il11 fL_isClosed_811 ?_
            refine xv_k fL_isClosed_813 ?_
            refine xv_ic_ne fL_isClosed_815 (fun h_815 => ?_) (fun h_815 => ?_)
            · exact absurd ((nI_eq (by omega) (by omega)).mpr (by omega)) h_815
            · refine xv_k fL_isClosed_818 ?_
              refine xv_goto fL_isClosed_821 ?_
              refine xv_ic_ne fL_isClosed_826 (fun h_826 => ?_) (fun h_826 => ?_)
              · exact absurd rfl h_826
              · refine xv_k fL_isClosed_829 ?_
                refine xv_goto fL_isClosed_830 ?_
                exact xv_iret fL_isClosed_834 rfl rfl ⟨rfl, c, rfl, rfl, rfl, hI⟩
          · exact absurd ((nI_leI (by omega) (by omega)).mpr (by omega)) h_763
      · exact absurd h_532 (by decide)
    · exact absurd h_294 (by decide)
  · exact absurd h_2 (by decide)
theorem l_clcl (n : Nat) (c : Nat × Nat) (I : xv_I) (J : xv_J) {D MC MS : Nat} {Q : xv_Q} (hDD : 12 ≤ D + 1) (hI : Inv c I) {p kc ks : Nat} (hp : p < 10) {l8 l9 l10 l14 l15 l16 : Option Value} (kk : ∀ l13, xv_W mL_isClosed D MC MS Q kc ks (sx n c) I (rx c) J 799 (some (.ref 0) :: some (.ref 60) :: some (.ref 63) :: some (.ref 64) :: some (.ref 66) :: some (.ref 67) :: some (.ref 68) :: some (.ref 69) :: l8 :: l9 :: l10 :: some (.int (nI p)) :: some (.int (nI (cn (fun k => ¬ I (3 + p) k < nI 300) 12))) :: l13 :: l14 :: l15 :: l16 :: []) []) : ∀ (u k s : Nat), k + u = 12 → s = cn (fun k => ¬ I (3 + p) k < nI 300) k → xv_W mL_isClosed D MC MS Q kc ks (sx n c) I (rx c) J 752 (some (.ref 0) :: some (.ref 60) :: some (.ref 63) :: some (.ref 64) :: some (.ref 66) :: some (.ref 67) :: some (.ref 68) :: some (.ref 69) :: l8 :: l9 :: l10 :: some (.int (nI p)) :: some (.int (nI s)) :: some (.int (nI k)) :: l14 :: l15 :: l16 :: []) [] := by
  intro u
  induction u with
  | zero =>
    intro k s hu hs
    obtain rfl : k = 12 := by omega
    subst hs
    show xv_W mL_isClosed D MC MS _ kc ks (sx n c) I (rx c) J 752 (some (.ref 0) :: some (.ref 60) :: some (.ref 63) :: some (.ref 64) :: some (.ref 66) :: some (.ref 67) :: some (.ref 68) :: some (.ref 69) :: l8 :: l9 :: l10 :: some (.int (nI p)) :: some (.int (nI (cn (fun k => ¬ I (3 + p) k < nI 300) 12))) :: some (.int (nI 12)) :: l14 :: l15 :: l16 :: []) []
    refine xv_il13 fL_isClosed_752 ?_
    refine xv_k fL_isClosed_754 ?_
    refine xv_ic_ge fL_isClosed_756 (fun h_756 => ?_) (fun h_756 => ?_)
    · exact kk _
    · exact absurd (by decide) h_756
  | succ u ih =>
    intro k s hu hs
    have hk : k < 12 := by omega
    obtain ⟨v, v1, v2, v3⟩ := hI.ok p hp k hk
    have hv := gOk.lt v1 hI.ad.2.2.1 hI.st.2.2.1
    have e := (hI.2.1 p hp k hk).symm.trans v3
    show xv_W mL_isClosed D MC MS _ kc ks (sx n c) I (rx c) J 752 (some (.ref 0) :: some (.ref 60) :: some (.ref 63) :: some (.ref 64) :: some (.ref 66) :: some (.ref 67) :: some (.ref 68) :: some (.ref 69) :: l8 :: l9 :: l10 :: some (.int (nI p)) :: some (.int (nI s)) :: some (.int (nI k)) :: l14 :: l15 :: l16 :: []) []
    refine xv_il13 fL_isClosed_752 ?_
    refine xv_k fL_isClosed_754 ?_
    refine xv_ic_ge fL_isClosed_756 (fun h_756 => ?_) (fun h_756 => ?_)
    · exact absurd h_756 (nI_ge hk (by decide))
    · refine xv_il11 fL_isClosed_759 ?_
      refine xv_k fL_isClosed_761 ?_
      refine xv_ic_ge fL_isClosed_763 (fun h_763 => ?_) (fun h_763 => ?_)
      · exact absurd h_763 (nI_ge hp (by decide))
      · refine xv_il12 fL_isClosed_766 ?_
        refine xv_al4 fL_isClosed_768 ?_
        refine xv_al5 fL_isClosed_770 ?_
        refine xv_il11 fL_isClosed_772 ?_
        refine xv_il13 fL_isClosed_774 ?_
        refine xv_callS4R (c_cell n c I J hp hk) fL_isClosed_776 YL_cell VL_cell lL_96 rfl (Nat.le_of_ble_eq_true rfl) (by omega) (by omega) (by omega) ?_
        rw [e]
        refine xv_k fL_isClosed_779 ?_
        refine xv_ic_le fL_isClosed_782 (fun h_782 => ?_) (fun h_782 => ?_)
        · refine xv_k fL_isClosed_789 ?_
          refine xv_iadd fL_isClosed_790 ?_
          refine xv_eqi (y := nI s) (by rw [nI_add]; rfl) ?_
          refine xv_is12 fL_isClosed_791 ?_
          refine xv_iincN13 (a := 1) fL_isClosed_793 (by decide) ?_
          refine xv_goto fL_isClosed_796 ?_
          exact ih (k + 1) _ (by omega) (by rw [cn, iteP_f (fun q => q (by rw [v3]; exact nI_lt (by have := (nI_leI (by omega) (by decide)).mp h_782; omega) (by decide)))]; exact hs)
        · refine xv_k fL_isClosed_785 ?_
          refine xv_goto fL_isClosed_786 ?_
          refine xv_iadd fL_isClosed_790 ?_
          refine xv_eqi (y := nI (s + 1)) (nI_add _ _) ?_
          refine xv_is12 fL_isClosed_791 ?_
          refine xv_iincN13 (a := 1) fL_isClosed_793 (by decide) ?_
          refine xv_goto fL_isClosed_796 ?_
          exact ih (k + 1) _ (by omega) (by rw [cn, iteP_t (by rw [v3]; exact nI_nlt (by have := len_of (by omega) (by decide) h_782; omega) (by omega)), hs])

theorem k_cln_ok (n : Nat) (c : Nat × Nat) (I : xv_I) (J : xv_J) {one two : Nat} (h1 : one < 2 ^ 31) (h2 : two < 2 ^ 31) (hn : n < 1000) (hI : Inv c I) {p : Nat} (ep : one % 11 = p) (h : p < 10) : xv_Met mL_isClosed 11 2100 16800 (sx n c) I (rx c) J [.ref 0, .ref 60, .ref 63, .ref 64, .ref 66, .ref 67, .ref 68, .ref 69, .int (nI 3), .int (nI one), .int (nI two)] (qM n J) := by
  have hn8 := hI.st.2.2.1
  have e691 := hI.st.2.1
  have hn9 := hI.ad.2.2.1
  refine xv_Met.of (by decide +kernel) (Nat.le_of_ble_eq_true rfl) (List.forall_mem_cons.mpr ⟨rfl, List.forall_mem_cons.mpr ⟨rfl, List.forall_mem_cons.mpr ⟨rfl, List.forall_mem_cons.mpr ⟨rfl, List.forall_mem_cons.mpr ⟨rfl, List.forall_mem_cons.mpr ⟨rfl, List.forall_mem_cons.mpr ⟨rfl, List.forall_mem_cons.mpr ⟨rfl, List.forall_mem_cons.mpr ⟨rfl, List.forall_mem_cons.mpr ⟨rfl, List.forall_mem_cons.mpr ⟨rfl, fun _ h => nomatch h⟩⟩⟩⟩⟩⟩⟩⟩⟩⟩⟩) ?_
  show xv_W mL_isClosed 11 2100 16800 _ 2100 16800 (sx n c) I (rx c) J 0 [some (.ref 0), some (.ref 60), some (.ref 63), some (.ref 64), some (.ref 66), some (.ref 67), some (.ref 68), some (.ref 69), some (.int (nI 3)), some (.int (nI one)), some (.int (nI two)), none, none, none, none, none, none] []
  refine xv_il8 fL_isClosed_0 ?_
  refine xv_if_ne fL_isClosed_2 (fun h_2 => ?_) (fun h_2 => ?_)
  · refine xv_il8 fL_isClosed_291 ?_
    refine xv_k fL_isClosed_293 ?_
    refine xv_ic_ne fL_isClosed_294 (fun h_294 => ?_) (fun h_294 => ?_)
    · refine xv_il8 fL_isClosed_529 ?_
      refine xv_k fL_isClosed_531 ?_
      refine xv_ic_ne fL_isClosed_532 (fun h_532 => ?_) (fun h_532 => ?_)
      · refine xv_il9 fL_isClosed_739 ?_
        refine xv_k fL_isClosed_741 ?_
        refine xv_irem fL_isClosed_743 (by decide) ?_
        refine xv_eqi (y := nI p) (by rw [nI_rem h1 (by decide), ep]) ?_
        refine xv_is11 fL_isClosed_744 ?_
        refine xv_k fL_isClosed_746 ?_
        refine xv_is12 fL_isClosed_747 ?_
        refine xv_k fL_isClosed_749 ?_
        refine xv_is13 fL_isClosed_750 ?_
        refine l_clcl n c I J (by decide) hI h (fun l13 => ?_) 12 0 0 rfl rfl
        refine xv_al0 fL_isClosed_799 ?_
        refine xv_k fL_isClosed_800 ?_
        refine xv_il11 fL_isClosed_802 ?_
        refine xv_k fL_isClosed_804 ?_
        refine xv_k fL_isClosed_805 ?_
        refine xv_k fL_isClosed_806 ?_
        refine xv_k fL_isClosed_807 ?_
        refine xv_callS7R (w_clean_ok n c c J (p_clean_ok n c I J h)) fL_isClosed_808 YL_does VL_does lL_113 rfl (Nat.le_of_ble_eq_true rfl) (by decide) (by decide) (by decide) ?_
        rw [(xCl_12 (I := I) h).1]
        refine xv_il11 fL_isClosed_811 ?_
        refine xv_k fL_isClosed_813 ?_
        refine xv_ic_ne fL_isClosed_815 (fun h_815 => ?_) (fun h_815 => ?_)
        · refine xv_il12 fL_isClosed_824 ?_
          refine xv_ic_ne fL_isClosed_826 (fun h_826 => ?_) (fun h_826 => ?_)
          · exact absurd rfl h_826
          · refine xv_k fL_isClosed_829 ?_
            refine xv_goto fL_isClosed_830 ?_
            exact xv_iret fL_isClosed_834 rfl rfl ⟨rfl, c, rfl, rfl, rfl, (Mid.clean hI h)⟩
        · exact absurd ((nI_eq (by omega) (by omega)).mp h_815) (by omega)
      · exact absurd h_532 (by decide)
    · exact absurd h_294 (by decide)
  · exact absurd h_2 (by decide)
theorem c_isClosed (n : Nat) (c : Nat × Nat) (I : xv_I) (J : xv_J) {what : Nat} {one two : Nat} (h1 : one < 2 ^ 31) (h2 : two < 2 ^ 31) (hn : n < 1000) (hI : Inv c I) (hw : what < 4) : xv_Met mL_isClosed 11 2100 16800 (sx n c) I (rx c) J [.ref 0, .ref 60, .ref 63, .ref 64, .ref 66, .ref 67, .ref 68, .ref 69, .int (nI what), .int (nI one), .int (nI two)] (qM n J) := by
  have hmI : ∀ {M d mc ms sh Rf As}, xv_Met M d mc ms sh I Rf J As (qI n J) → xv_Met M d mc ms sh I Rf J As (qM n J) := fun h => xv_Met.imp h (fun _ _ _ _ _ h => qI.m h)
  rcases (by omega : what = 0 ∨ what = 1 ∨ what = 2 ∨ what = 3) with rfl | rfl | rfl | rfl
  · obtain ⟨e, he8, e29, e693⟩ := hI.ed
    obtain ⟨w, hw5, e294, e694, ho⟩ := hI.owe
    by_cases hcan : (w = 0 ∧ e < 8) ∧ ∀ p, p < 10 → xReady I p
    · refine hmI (k_close_ok n c I J h1 h2 hn hI (fun w' e' q1 q2 q3 q4 => ?_))
      obtain rfl := nI_inj2 (q1.symm.trans e294) (by omega) (by omega)
      obtain rfl := nI_inj2 (q2.symm.trans e29) (by omega) (by omega)
      exact hcan
    · refine hmI (k_close_no n c I J h1 h2 hn hI (fun w' e' q1 q2 q3 q4 => ?_))
      obtain rfl := nI_inj2 (q1.symm.trans e294) (by omega) (by omega)
      obtain rfl := nI_inj2 (q2.symm.trans e29) (by omega) (by omega)
      exact hcan
  · obtain ⟨e, he8, e29, e693⟩ := hI.ed
    obtain ⟨w, hw5, e294, e694, ho⟩ := hI.owe
    have hed : one % (e + 1) < e + 1 := Nat.mod_lt _ (by omega)
    have ha : two % (c.2 + 1) < c.2 + 1 := Nat.mod_lt _ (by omega)
    by_cases h : one % (e + 1) < e
    · by_cases hac : two % (c.2 + 1) < c.2
      · by_cases hx : ((∃ j, j < 120 ∧ I (31 + one % (e + 1)) j = nI (200 + two % (c.2 + 1))) ∧ (¬ ∃ j, j < w ∧ I 40 j = nI (two % (c.2 + 1))) ∧ w < 5)
        · refine hmI (k_cor_ok n c I J h1 h2 hn hI e29 he8 e693 rfl rfl h hac (fun w' q1 q2 => ?_))
          obtain rfl := nI_inj2 (q2.symm.trans e294) (by omega) (by omega)
          exact hx
        · refine hmI (k_cor_c n c I J h1 h2 hn hI e29 he8 e693 rfl rfl h hac (fun w' q1 q2 => ?_))
          obtain rfl := nI_inj2 (q2.symm.trans e294) (by omega) (by omega)
          exact hx
      · exact hmI (k_cor_b n c I J h1 h2 hn hI e29 he8 e693 rfl rfl h (by omega))
    · exact hmI (k_cor_a n c I J h1 h2 hn hI e29 he8 e693 rfl rfl (by omega))
  · by_cases h29 : I 29 4 = 0
    · obtain ⟨w, hw5, e294, e694, ho⟩ := hI.owe
      have hw : w = 0 := Classical.byContradiction fun z => nI_ne0 (Nat.pos_of_ne_zero z) (by omega) (e294.symm.trans h29)
      exact hmI (k_plc_a n c I J h1 h2 hn hI (by rw [e694, hw]) h29)
    · exact k_plc_ok n c I J h1 h2 hn hI h29
  · by_cases h : one % 11 < 10
    · exact k_cln_ok n c I J h1 h2 hn hI rfl h
    · exact hmI (k_cln_a n c I J h1 h2 hn hI rfl (by omega))
