theorem sh_2 : ∀ j, j < 6 → ((nI (j + j) &&& 31).toBitVec.smod 32).toNat = j + j := by decide +kernel
theorem Dg_step {k d g : Nat} (h : Dg k d) (hg : g < 9) : Dg (k + 1) (10 * d + 1 + g) := by
  refine ⟨by omega, ?_⟩
  rw [show (10 * d + 1 + g) / 10 = d by omega]
  exact h
theorem l_dig (n : Nat) (c : Nat × Nat) (I : xv_I) (J : xv_J) {D MC MS kc ks : Nat} {Q : xv_Q} {many two : Nat} (h2 : two < 2 ^ 31) (hm6 : many ≤ 6) {l3 l4 l6 l10 l11 : Option Value} (kk : ∀ d, Dg many d → d < 10 ^ many → xv_W mL_isStory D MC MS Q kc ks (sx n c) I (rx c) J 61 (some (.ref 0) :: some (.ref 63) :: some (.ref 69) :: l3 :: l4 :: some (.int (nI two)) :: l6 :: some (.int (nI many)) :: some (.int (nI d)) :: some (.int (nI many)) :: l10 :: l11 :: []) []) : ∀ (u k d : Nat), k + u = many → Dg k d → d < 10 ^ k → xv_W mL_isStory D MC MS Q kc ks (sx n c) I (rx c) J 27 (some (.ref 0) :: some (.ref 63) :: some (.ref 69) :: l3 :: l4 :: some (.int (nI two)) :: l6 :: some (.int (nI many)) :: some (.int (nI d)) :: some (.int (nI k)) :: l10 :: l11 :: []) [] := by
  intro u
  induction u with
  | zero =>
    intro k d hu hd hd2
    obtain rfl : k = many := by omega
    show xv_W mL_isStory D MC MS _ kc ks (sx n c) I (rx c) J 27 (some (.ref 0) :: some (.ref 63) :: some (.ref 69) :: l3 :: l4 :: some (.int (nI two)) :: l6 :: some (.int (nI k)) :: some (.int (nI d)) :: some (.int (nI k)) :: l10 :: l11 :: []) []
    refine xv_il9 fL_isStory_27 ?_
    refine xv_il7 fL_isStory_29 ?_
    refine xv_ic_ge fL_isStory_31 (fun h_31 => ?_) (fun h_31 => ?_)
    · exact kk d hd hd2
    · exact absurd (nI_le (Nat.le_refl _) (by omega)) h_31
  | succ u ih =>
    intro k d hu hd hd2
    have hk : k < many := by omega
    have hdb : d < 1000000 := Nat.lt_of_lt_of_le hd2 (Nat.pow_le_pow_right (by decide) (by omega : k ≤ 6))
    have hq := Nat.div_le_self two (2 ^ (k + k))
    obtain ⟨g, hg⟩ : ∃ g, g = two / 2 ^ (k + k) % 9 := ⟨_, rfl⟩
    have hg9 : g < 9 := by omega
    show xv_W mL_isStory D MC MS _ kc ks (sx n c) I (rx c) J 27 (some (.ref 0) :: some (.ref 63) :: some (.ref 69) :: l3 :: l4 :: some (.int (nI two)) :: l6 :: some (.int (nI many)) :: some (.int (nI d)) :: some (.int (nI k)) :: l10 :: l11 :: []) []
    refine xv_il9 fL_isStory_27 ?_
    refine xv_il7 fL_isStory_29 ?_
    refine xv_ic_ge fL_isStory_31 (fun h_31 => ?_) (fun h_31 => ?_)
    · exact absurd h_31 (nI_ge hk (by omega))
    · refine xv_k fL_isStory_34 ?_
      refine xv_il8 fL_isStory_36 ?_
      refine xv_imul fL_isStory_38 ?_
      refine xv_eqi (y := nI (10 * d)) (nI_mul _ _) ?_
      refine xv_k fL_isStory_39 ?_
      refine xv_iadd fL_isStory_40 ?_
      refine xv_eqi (y := nI (10 * d + 1)) (nI_add _ _) ?_
      refine xv_il5 fL_isStory_41 ?_
      refine xv_il9 fL_isStory_43 ?_
      refine xv_il9 fL_isStory_45 ?_
      refine xv_iadd fL_isStory_47 ?_
      refine xv_eqi (y := nI (k + k)) (nI_add _ _) ?_
      refine xv_ishr fL_isStory_48 ?_
      refine xv_eqi (y := nI (two / 2 ^ (k + k))) (pk_shrN h2 _ _ (sh_2 k (by omega))) ?_
      refine xv_k fL_isStory_49 ?_
      refine xv_irem fL_isStory_51 (by decide) ?_
      refine xv_eqi (y := nI g) (by rw [nI_rem (by omega) (by decide), ← hg]) ?_
      refine xv_iadd fL_isStory_52 ?_
      refine xv_eqi (y := nI (10 * d + 1 + g)) (nI_add _ _) ?_
      refine xv_is8 fL_isStory_53 ?_
      refine xv_iincN9 (a := 1) fL_isStory_55 (by decide) ?_
      refine xv_goto fL_isStory_58 ?_
      exact ih (k + 1) _ (by omega) (Dg_step hd hg9) (by rw [Nat.pow_succ]; omega)

theorem s_new_a (n : Nat) (c : Nat × Nat) (I : xv_I) (J : xv_J) {one two : Nat} (h1 : one < 2 ^ 31) (h2 : two < 2 ^ 31) (hn : n < 1000) (hI : Inv c I) {sec many : Nat} (es : one % 4 = sec) (em : 1 + one / 4 % 6 = many) {least : Nat} (el : 1 + one / 24 % (many + 1) = least) (hlm : many < least) : xv_Met mL_isStory 11 400 3200 (sx n c) I (rx c) J [.ref 0, .ref 63, .ref 69, .int (nI 0), .int (nI one), .int (nI two)] (qI n J) := by
  have hn8 := hI.st.2.2.1
  have e691 := hI.st.2.1
  have hs4 : sec < 4 := by omega
  have hm6 : 1 ≤ many ∧ many ≤ 6 := by omega
  have hl : 1 ≤ least ∧ least ≤ many + 1 := ⟨by omega, by rw [← el]; have := Nat.mod_lt (one / 24) (show 0 < many + 1 by omega); omega⟩
  refine xv_Met.of (by decide +kernel) (Nat.le_of_ble_eq_true rfl) (List.forall_mem_cons.mpr ⟨rfl, List.forall_mem_cons.mpr ⟨rfl, List.forall_mem_cons.mpr ⟨rfl, List.forall_mem_cons.mpr ⟨rfl, List.forall_mem_cons.mpr ⟨rfl, List.forall_mem_cons.mpr ⟨rfl, fun _ h => nomatch h⟩⟩⟩⟩⟩⟩) ?_
  show xv_W mL_isStory 11 400 3200 _ 400 3200 (sx n c) I (rx c) J 0 [some (.ref 0), some (.ref 63), some (.ref 69), some (.int (nI 0)), some (.int (nI one)), some (.int (nI two)), none, none, none, none, none, none] []
  refine xv_il3 fL_isStory_0 ?_
  refine xv_if_ne fL_isStory_1 (fun h_1 => ?_) (fun h_1 => ?_)
  · exact absurd h_1 (by decide)
  · refine xv_il4 fL_isStory_4 ?_
    refine xv_k fL_isStory_6 ?_
    refine xv_irem fL_isStory_7 (by decide) ?_
    refine xv_eqi (y := nI sec) (by rw [nI_rem h1 (by decide), es]) ?_
    refine xv_is6 fL_isStory_8 ?_
    refine xv_k fL_isStory_10 ?_
    refine xv_il4 fL_isStory_11 ?_
    refine xv_k fL_isStory_13 ?_
    refine xv_idiv fL_isStory_14 (by decide) ?_
    refine xv_eqi (y := nI (one / 4)) (nI_div h1 (by decide)) ?_
    refine xv_k fL_isStory_15 ?_
    refine xv_irem fL_isStory_17 (by decide) ?_
    refine xv_eqi (y := nI (one / 4 % 6)) (nI_rem (by omega) (by decide)) ?_
    refine xv_iadd fL_isStory_18 ?_
    refine xv_eqi (y := nI many) (by rw [nI_add, em]) ?_
    refine xv_is7 fL_isStory_19 ?_
    refine xv_k fL_isStory_21 ?_
    refine xv_is8 fL_isStory_22 ?_
    refine xv_k fL_isStory_24 ?_
    refine xv_is9 fL_isStory_25 ?_
    refine l_dig n c I J h2 hm6.2 (fun d hd hd2 => ?_) many 0 0 (by omega) rfl (by decide)
    obtain hd6 : d ≤ 999999 := by
      have := Nat.lt_of_lt_of_le hd2 (Nat.pow_le_pow_right (by decide) hm6.2 : 10 ^ many ≤ 10 ^ 6)
      omega
    obtain hpar : xPar (nI d) = nI many := Dg_xPar hd hm6.2 (by omega)
    refine xv_k fL_isStory_61 ?_
    refine xv_il4 fL_isStory_62 ?_
    refine xv_k fL_isStory_64 ?_
    refine xv_idiv fL_isStory_66 (by decide) ?_
    refine xv_eqi (y := nI (one / 24)) (nI_div h1 (by decide)) ?_
    refine xv_il7 fL_isStory_67 ?_
    refine xv_k fL_isStory_69 ?_
    refine xv_iadd fL_isStory_70 ?_
    refine xv_eqi (y := nI (many + 1)) (nI_add _ _) ?_
    refine xv_irem fL_isStory_71 (nI_ne0 (by omega) (by omega)) ?_
    refine xv_eqi (y := nI (one / 24 % (many + 1))) (nI_rem (by omega) (by omega)) ?_
    refine xv_iadd fL_isStory_72 ?_
    refine xv_eqi (y := nI least) (by rw [nI_add, el]) ?_
    refine xv_is9 fL_isStory_73 ?_
    refine xv_al0 fL_isStory_75 ?_
    refine xv_k fL_isStory_76 ?_
    refine xv_il6 fL_isStory_78 ?_
    refine xv_il8 fL_isStory_80 ?_
    refine xv_il9 fL_isStory_82 ?_
    refine xv_k fL_isStory_84 ?_
    refine xv_k fL_isStory_85 ?_
    refine xv_callS7R (w_story_A n c c J (p_story_c n c I J (x1 := nI sec) (x2 := nI d) (x3 := nI least) (okR_n (by omega) (by omega) (by decide)) (by rw [hpar]; exact okR_n (by omega) (by omega) (by decide)) (Or.inr (by rw [hpar]; exact nI_ge (by omega) (by omega))))) fL_isStory_86 YL_does VL_does lL_113 rfl (Nat.le_of_ble_eq_true rfl) (by decide) (by decide) (by decide) ?_
    refine xv_is10 fL_isStory_89 ?_
    refine xv_il9 fL_isStory_91 ?_
    refine xv_il7 fL_isStory_93 ?_
    refine xv_ic_gt fL_isStory_95 (fun h_95 => ?_) (fun h_95 => ?_)
    · refine xv_il10 fL_isStory_106 ?_
      refine xv_il9 fL_isStory_108 ?_
      refine xv_il7 fL_isStory_110 ?_
      refine xv_ic_le fL_isStory_112 (fun h_112 => ?_) (fun h_112 => ?_)
      · exact absurd ((nI_leI (by omega) (by omega)).mp h_112) (by omega)
      · refine xv_k fL_isStory_115 ?_
        refine xv_goto fL_isStory_118 ?_
        refine xv_ic_ne fL_isStory_124 (fun h_124 => ?_) (fun h_124 => ?_)
        · exact absurd rfl h_124
        · refine xv_k fL_isStory_127 ?_
          refine xv_goto fL_isStory_128 ?_
          exact xv_iret fL_isStory_132 rfl rfl ⟨rfl, c, rfl, rfl, rfl, hI⟩
    · exact absurd ((nI_ltI (by omega) (by omega)).mpr (by omega)) h_95
theorem s_new_d (n : Nat) (c : Nat × Nat) (I : xv_I) (J : xv_J) {one two : Nat} (h1 : one < 2 ^ 31) (h2 : two < 2 ^ 31) (hn : n < 1000) (hI : Inv c I) {sec many : Nat} (es : one % 4 = sec) (em : 1 + one / 4 % 6 = many) {least : Nat} (el : 1 + one / 24 % (many + 1) = least) (hlm : least ≤ many) (h20 : c.2 = 20) : xv_Met mL_isStory 11 400 3200 (sx n c) I (rx c) J [.ref 0, .ref 63, .ref 69, .int (nI 0), .int (nI one), .int (nI two)] (qI n J) := by
  have hn8 := hI.st.2.2.1
  have e691 := hI.st.2.1
  have hs4 : sec < 4 := by omega
  have hm6 : 1 ≤ many ∧ many ≤ 6 := by omega
  have hl : 1 ≤ least ∧ least ≤ many + 1 := ⟨by omega, by rw [← el]; have := Nat.mod_lt (one / 24) (show 0 < many + 1 by omega); omega⟩
  refine xv_Met.of (by decide +kernel) (Nat.le_of_ble_eq_true rfl) (List.forall_mem_cons.mpr ⟨rfl, List.forall_mem_cons.mpr ⟨rfl, List.forall_mem_cons.mpr ⟨rfl, List.forall_mem_cons.mpr ⟨rfl, List.forall_mem_cons.mpr ⟨rfl, List.forall_mem_cons.mpr ⟨rfl, fun _ h => nomatch h⟩⟩⟩⟩⟩⟩) ?_
  show xv_W mL_isStory 11 400 3200 _ 400 3200 (sx n c) I (rx c) J 0 [some (.ref 0), some (.ref 63), some (.ref 69), some (.int (nI 0)), some (.int (nI one)), some (.int (nI two)), none, none, none, none, none, none] []
  refine xv_il3 fL_isStory_0 ?_
  refine xv_if_ne fL_isStory_1 (fun h_1 => ?_) (fun h_1 => ?_)
  · exact absurd h_1 (by decide)
  · refine xv_il4 fL_isStory_4 ?_
    refine xv_k fL_isStory_6 ?_
    refine xv_irem fL_isStory_7 (by decide) ?_
    refine xv_eqi (y := nI sec) (by rw [nI_rem h1 (by decide), es]) ?_
    refine xv_is6 fL_isStory_8 ?_
    refine xv_k fL_isStory_10 ?_
    refine xv_il4 fL_isStory_11 ?_
    refine xv_k fL_isStory_13 ?_
    refine xv_idiv fL_isStory_14 (by decide) ?_
    refine xv_eqi (y := nI (one / 4)) (nI_div h1 (by decide)) ?_
    refine xv_k fL_isStory_15 ?_
    refine xv_irem fL_isStory_17 (by decide) ?_
    refine xv_eqi (y := nI (one / 4 % 6)) (nI_rem (by omega) (by decide)) ?_
    refine xv_iadd fL_isStory_18 ?_
    refine xv_eqi (y := nI many) (by rw [nI_add, em]) ?_
    refine xv_is7 fL_isStory_19 ?_
    refine xv_k fL_isStory_21 ?_
    refine xv_is8 fL_isStory_22 ?_
    refine xv_k fL_isStory_24 ?_
    refine xv_is9 fL_isStory_25 ?_
    refine l_dig n c I J h2 hm6.2 (fun d hd hd2 => ?_) many 0 0 (by omega) rfl (by decide)
    obtain hd6 : d ≤ 999999 := by
      have := Nat.lt_of_lt_of_le hd2 (Nat.pow_le_pow_right (by decide) hm6.2 : 10 ^ many ≤ 10 ^ 6)
      omega
    obtain hpar : xPar (nI d) = nI many := Dg_xPar hd hm6.2 (by omega)
    refine xv_k fL_isStory_61 ?_
    refine xv_il4 fL_isStory_62 ?_
    refine xv_k fL_isStory_64 ?_
    refine xv_idiv fL_isStory_66 (by decide) ?_
    refine xv_eqi (y := nI (one / 24)) (nI_div h1 (by decide)) ?_
    refine xv_il7 fL_isStory_67 ?_
    refine xv_k fL_isStory_69 ?_
    refine xv_iadd fL_isStory_70 ?_
    refine xv_eqi (y := nI (many + 1)) (nI_add _ _) ?_
    refine xv_irem fL_isStory_71 (nI_ne0 (by omega) (by omega)) ?_
    refine xv_eqi (y := nI (one / 24 % (many + 1))) (nI_rem (by omega) (by omega)) ?_
    refine xv_iadd fL_isStory_72 ?_
    refine xv_eqi (y := nI least) (by rw [nI_add, el]) ?_
    refine xv_is9 fL_isStory_73 ?_
    refine xv_al0 fL_isStory_75 ?_
    refine xv_k fL_isStory_76 ?_
    refine xv_il6 fL_isStory_78 ?_
    refine xv_il8 fL_isStory_80 ?_
    refine xv_il9 fL_isStory_82 ?_
    refine xv_k fL_isStory_84 ?_
    refine xv_k fL_isStory_85 ?_
    refine xv_callS7R (w_story_S n c c J (p_story_d n c I J (x1 := nI sec) (x2 := nI d) (x3 := nI least) (okR_n (by omega) (by omega) (by decide)) (by rw [hpar]; exact okR_n (by omega) (by omega) (by decide)) ⟨nI_nlt (by omega) (by omega), by rw [hpar]; exact nI_le (by omega) (by omega)⟩ (by rw [hI.st.1, h20]))) fL_isStory_86 YL_does VL_does lL_113 rfl (Nat.le_of_ble_eq_true rfl) (by decide) (by decide) (by decide) ?_
    refine xv_is10 fL_isStory_89 ?_
    refine xv_il9 fL_isStory_91 ?_
    refine xv_il7 fL_isStory_93 ?_
    refine xv_ic_gt fL_isStory_95 (fun h_95 => ?_) (fun h_95 => ?_)
    · exact absurd ((nI_ltI (by omega) (by omega)).mp h_95) (by omega)
    · refine xv_al2 fL_isStory_98 ?_
      refine xv_k fL_isStory_99 ?_
      refine xv_ialdN fL_isStory_100 (sx_69 _ _) (⟨by omega, by decide⟩) ?_
      rw [e691]
      refine xv_k fL_isStory_101 ?_
      refine xv_ic_ne fL_isStory_103 (fun h_103 => ?_) (fun h_103 => ?_)
      · exact absurd ((nI_eq (by omega) (by omega)).mpr (by omega)) h_103
      · refine xv_il10 fL_isStory_106 ?_
        refine xv_il9 fL_isStory_108 ?_
        refine xv_il7 fL_isStory_110 ?_
        refine xv_ic_le fL_isStory_112 (fun h_112 => ?_) (fun h_112 => ?_)
        · refine xv_k fL_isStory_121 ?_
          refine xv_ic_ne fL_isStory_124 (fun h_124 => ?_) (fun h_124 => ?_)
          · exact absurd rfl h_124
          · refine xv_k fL_isStory_127 ?_
            refine xv_goto fL_isStory_128 ?_
            exact xv_iret fL_isStory_132 rfl rfl ⟨rfl, c, rfl, rfl, rfl, hI⟩
        · exact absurd ((nI_leI (by omega) (by omega)).mpr (by omega)) h_112
theorem par_105 : ¬ okR 1 6 (xPar (nI 105)) := by
  rw [show xPar (nI 105) = nI 0 by decide +kernel]
  exact fun z => z.1 (by decide)
theorem par_0 : ¬ okR 1 6 (xPar (nI 0)) := by
  rw [show xPar (nI 0) = nI 0 by decide +kernel]
  exact fun z => z.1 (by decide)
theorem st_born {c : Nat × Nat} {I I1 : xv_I} (hI : Inv c I) (hc : c.2 < 20) {sec d np lo : Nat} (a1 : sec < 4) (a2 : Dg np d) (a3 : d ≤ 999999) (a4 : 1 ≤ np) (a5 : np ≤ 6) (a6 : 1 ≤ lo) (a7 : lo ≤ np) (hO : ∀ v j, (v < 200 + 5 * c.2 ∨ 205 + 5 * c.2 ≤ v) → (v ≠ 0 ∨ j ≠ 5) → I1 v j = I v j) (hI1 : I1 = xv_u (sI (xv_z I (200 + 5 * c.2) 0) (200 + 5 * c.2) (nI sec) (nI d) (nI np) (nI lo)) 0 5 (nI (c.2 + 1))) : Inv (c.1, c.2 + 1) (xv_u (xv_u I1 63 c.2 (nI (sec + 1000 * d))) 69 1 (nI (c.2 + 1))) := by
  have hk : ∀ v j, 200 ≤ v → xv_u (xv_u I1 63 c.2 (nI (sec + 1000 * d))) 69 1 (nI (c.2 + 1)) v j = sI (xv_z I (200 + 5 * c.2) 0) (200 + 5 * c.2) (nI sec) (nI d) (nI np) (nI lo) v j := fun v j hv => by
    rw [xv_u_ne _ _ _ (by omega), xv_u_ne _ _ _ (by omega), hI1]
    exact xv_u_ne _ _ _ (by omega)
  refine hI.newSt hc a1 a2 a3 a4 a5 a6 a7 ?_ ?_ ?_ ?_ ?_ (fun i hi => ?_) ?_ ?_ ?_ (fun v j g1 g2 g3 g4 => ?_)
  · rw [hk _ _ (by omega)]; simp [sI, wI, xv_z, xv_u]; repeat rw [if_neg (by omega)]
  · rw [hk _ _ (by omega)]; simp [sI, wI, xv_z, xv_u]; repeat rw [if_neg (by omega)]
  · rw [hk _ _ (by omega)]; simp [sI, wI, xv_z, xv_u]; repeat rw [if_neg (by omega)]
  · rw [hk _ _ (by omega)]; simp [sI, wI, xv_z, xv_u]; repeat rw [if_neg (by omega)]
  · rw [hk _ _ (by omega), show 201 + 5 * c.2 = 200 + 5 * c.2 + 1 by omega]; simp [sI, wI, xv_z, xv_u]; rfl
  · rw [hk _ _ (by omega), show 201 + 5 * c.2 + 3 = 200 + 5 * c.2 + 1 + 3 by omega]; simp [sI, wI, xv_z, xv_u]; rfl
  · rw [xv_u_ne _ _ _ (by decide), xv_u_eq]
  · rw [xv_u_ne _ _ _ (by decide), xv_u_ne _ _ _ (by decide), hI1, xv_u_eq]
  · rw [xv_u_eq]
  · unfold xv_u
    rw [if_neg (by omega), if_neg (by omega)]
    exact hO v j g1 g2
theorem s_new_ok (n : Nat) (c : Nat × Nat) (I : xv_I) (J : xv_J) {one two : Nat} (h1 : one < 2 ^ 31) (h2 : two < 2 ^ 31) (hn : n < 1000) (hI : Inv c I) {sec many : Nat} (es : one % 4 = sec) (em : 1 + one / 4 % 6 = many) {least : Nat} (el : 1 + one / 24 % (many + 1) = least) (hlm : least ≤ many) (h20 : c.2 < 20) : xv_Met mL_isStory 11 400 3200 (sx n c) I (rx c) J [.ref 0, .ref 63, .ref 69, .int (nI 0), .int (nI one), .int (nI two)] (qI n J) := by
  have hn8 := hI.st.2.2.1
  have e691 := hI.st.2.1
  have hs4 : sec < 4 := by omega
  have hm6 : 1 ≤ many ∧ many ≤ 6 := by omega
  have hl : 1 ≤ least ∧ least ≤ many + 1 := ⟨by omega, by rw [← el]; have := Nat.mod_lt (one / 24) (show 0 < many + 1 by omega); omega⟩
  refine xv_Met.of (by decide +kernel) (Nat.le_of_ble_eq_true rfl) (List.forall_mem_cons.mpr ⟨rfl, List.forall_mem_cons.mpr ⟨rfl, List.forall_mem_cons.mpr ⟨rfl, List.forall_mem_cons.mpr ⟨rfl, List.forall_mem_cons.mpr ⟨rfl, List.forall_mem_cons.mpr ⟨rfl, fun _ h => nomatch h⟩⟩⟩⟩⟩⟩) ?_
  show xv_W mL_isStory 11 400 3200 _ 400 3200 (sx n c) I (rx c) J 0 [some (.ref 0), some (.ref 63), some (.ref 69), some (.int (nI 0)), some (.int (nI one)), some (.int (nI two)), none, none, none, none, none, none] []
  refine xv_il3 fL_isStory_0 ?_
  refine xv_if_ne fL_isStory_1 (fun h_1 => ?_) (fun h_1 => ?_)
  · exact absurd h_1 (by decide)
  · refine xv_il4 fL_isStory_4 ?_
    refine xv_k fL_isStory_6 ?_
    refine xv_irem fL_isStory_7 (by decide) ?_
    refine xv_eqi (y := nI sec) (by rw [nI_rem h1 (by decide), es]) ?_
    refine xv_is6 fL_isStory_8 ?_
    refine xv_k fL_isStory_10 ?_
    refine xv_il4 fL_isStory_11 ?_
    refine xv_k fL_isStory_13 ?_
    refine xv_idiv fL_isStory_14 (by decide) ?_
    refine xv_eqi (y := nI (one / 4)) (nI_div h1 (by decide)) ?_
    refine xv_k fL_isStory_15 ?_
    refine xv_irem fL_isStory_17 (by decide) ?_
    refine xv_eqi (y := nI (one / 4 % 6)) (nI_rem (by omega) (by decide)) ?_
    refine xv_iadd fL_isStory_18 ?_
    refine xv_eqi (y := nI many) (by rw [nI_add, em]) ?_
    refine xv_is7 fL_isStory_19 ?_
    refine xv_k fL_isStory_21 ?_
    refine xv_is8 fL_isStory_22 ?_
    refine xv_k fL_isStory_24 ?_
    refine xv_is9 fL_isStory_25 ?_
    refine l_dig n c I J h2 hm6.2 (fun d hd hd2 => ?_) many 0 0 (by omega) rfl (by decide)
    obtain hd6 : d ≤ 999999 := by
      have := Nat.lt_of_lt_of_le hd2 (Nat.pow_le_pow_right (by decide) hm6.2 : 10 ^ many ≤ 10 ^ 6)
      omega
    obtain hpar : xPar (nI d) = nI many := Dg_xPar hd hm6.2 (by omega)
    refine xv_k fL_isStory_61 ?_
    refine xv_il4 fL_isStory_62 ?_
    refine xv_k fL_isStory_64 ?_
    refine xv_idiv fL_isStory_66 (by decide) ?_
    refine xv_eqi (y := nI (one / 24)) (nI_div h1 (by decide)) ?_
    refine xv_il7 fL_isStory_67 ?_
    refine xv_k fL_isStory_69 ?_
    refine xv_iadd fL_isStory_70 ?_
    refine xv_eqi (y := nI (many + 1)) (nI_add _ _) ?_
    refine xv_irem fL_isStory_71 (nI_ne0 (by omega) (by omega)) ?_
    refine xv_eqi (y := nI (one / 24 % (many + 1))) (nI_rem (by omega) (by omega)) ?_
    refine xv_iadd fL_isStory_72 ?_
    refine xv_eqi (y := nI least) (by rw [nI_add, el]) ?_
    refine xv_is9 fL_isStory_73 ?_
    refine xv_al0 fL_isStory_75 ?_
    refine xv_k fL_isStory_76 ?_
    refine xv_il6 fL_isStory_78 ?_
    refine xv_il8 fL_isStory_80 ?_
    refine xv_il9 fL_isStory_82 ?_
    refine xv_k fL_isStory_84 ?_
    refine xv_k fL_isStory_85 ?_
    obtain ⟨I1, hI1⟩ : ∃ I1, I1 = xv_u (sI (xv_z I (200 + 5 * c.2) 0) (200 + 5 * c.2) (nI sec) (nI d) (nI many) (nI least)) 0 5 (nI (c.2 + 1)) := ⟨_, rfl⟩
    obtain hO : ∀ v j, (v < 200 + 5 * c.2 ∨ 205 + 5 * c.2 ≤ v) → (v ≠ 0 ∨ j ≠ 5) → I1 v j = I v j := fun v j g1 g2 => by
      rw [hI1]
      simp only [sI, wI, xv_z, xv_u]
      repeat rw [if_neg (by omega)]
    obtain e69 : I1 69 1 = nI c.2 := (hO _ _ (by omega) (by omega)).trans e691
    refine xv_callS7R (w_story_ok n c (c.1, c.2 + 1) J (I' := I1) (by rw [hI1]; have r := p_story_ok n c I J (x1 := nI sec) (x2 := nI d) (x3 := nI least) (okR_n (by omega) (by omega) (by decide)) (by rw [hpar]; exact okR_n (by omega) (by omega) (by decide)) ⟨nI_nlt (by omega) (by omega), by rw [hpar]; exact nI_le (by omega) (by omega)⟩ hI.st.1 h20; rw [hpar] at r; exact r)) fL_isStory_86 YL_does VL_does lL_113 rfl (Nat.le_of_ble_eq_true rfl) (by decide) (by decide) (by decide) ?_
    refine xv_is10 fL_isStory_89 ?_
    refine xv_il9 fL_isStory_91 ?_
    refine xv_il7 fL_isStory_93 ?_
    refine xv_ic_gt fL_isStory_95 (fun h_95 => ?_) (fun h_95 => ?_)
    · exact absurd ((nI_ltI (by omega) (by omega)).mp h_95) (by omega)
    · refine xv_al2 fL_isStory_98 ?_
      refine xv_k fL_isStory_99 ?_
      refine xv_ialdN fL_isStory_100 (sx_69 _ _) (⟨by omega, by decide⟩) ?_
      rw [e69]
      refine xv_k fL_isStory_101 ?_
      refine xv_ic_ne fL_isStory_103 (fun h_103 => ?_) (fun h_103 => ?_)
      · refine xv_al1 fL_isStory_133 ?_
        refine xv_al2 fL_isStory_134 ?_
        refine xv_k fL_isStory_135 ?_
        refine xv_ialdN fL_isStory_136 (sx_69 _ _) (⟨by omega, by decide⟩) ?_
        rw [e69]
        refine xv_il6 fL_isStory_137 ?_
        refine xv_k fL_isStory_139 ?_
        refine xv_il8 fL_isStory_142 ?_
        refine xv_imul fL_isStory_144 ?_
        refine xv_eqi (y := nI (1000 * d)) (nI_mul _ _) ?_
        refine xv_iadd fL_isStory_145 ?_
        refine xv_eqi (y := nI (sec + 1000 * d)) (nI_add _ _) ?_
        refine xv_iastN fL_isStory_146 (sx_63 _ _) (⟨by omega, by decide⟩) ?_
        refine xv_al2 fL_isStory_147 ?_
        refine xv_k fL_isStory_148 ?_
        refine xv_dup2 fL_isStory_149 ?_
        refine xv_ialdN fL_isStory_150 (sx_69 _ _) (⟨by omega, by decide⟩) ?_
        rw [xv_u_ne _ _ _ (by decide), e69]
        refine xv_k fL_isStory_151 ?_
        refine xv_iadd fL_isStory_152 ?_
        refine xv_eqi (y := nI (c.2 + 1)) (nI_add _ _) ?_
        refine xv_iastN fL_isStory_153 (sx_69 _ _) (⟨by omega, by decide⟩) ?_
        refine xv_il10 fL_isStory_154 ?_
        refine xv_al2 fL_isStory_156 ?_
        refine xv_k fL_isStory_157 ?_
        refine xv_ialdN fL_isStory_158 (sx_69 _ _) (⟨by omega, by decide⟩) ?_
        rw [xv_u_eq]
        refine xv_k fL_isStory_159 ?_
        refine xv_isub fL_isStory_160 ?_
        refine xv_eqi (y := nI c.2) (nI_pred c.2) ?_
        refine xv_ic_ne fL_isStory_161 (fun h_161 => ?_) (fun h_161 => ?_)
        · exact absurd rfl h_161
        · refine xv_al0 fL_isStory_164 ?_
          refine xv_k fL_isStory_165 ?_
          refine xv_k fL_isStory_167 ?_
          refine xv_k fL_isStory_168 ?_
          refine xv_k fL_isStory_170 ?_
          refine xv_k fL_isStory_171 ?_
          refine xv_k fL_isStory_172 ?_
          refine xv_callS7R (w_story_A n (c.1, c.2 + 1) (c.1, c.2 + 1) J (p_story_b n (c.1, c.2 + 1) _ J (x1 := nI 0) (x2 := nI 105) (x3 := nI 1) (okR_n (by decide) (by decide) (by decide)) par_105)) fL_isStory_173 YL_does VL_does lL_113 rfl (Nat.le_of_ble_eq_true rfl) (by decide) (by decide) (by decide) ?_
          refine xv_k fL_isStory_176 ?_
          refine xv_ic_ne fL_isStory_179 (fun h_179 => ?_) (fun h_179 => ?_)
          · exact absurd rfl h_179
          · refine xv_al0 fL_isStory_182 ?_
            refine xv_k fL_isStory_183 ?_
            refine xv_k fL_isStory_185 ?_
            refine xv_k fL_isStory_186 ?_
            refine xv_k fL_isStory_187 ?_
            refine xv_k fL_isStory_188 ?_
            refine xv_k fL_isStory_189 ?_
            refine xv_callS7R (w_story_A n (c.1, c.2 + 1) (c.1, c.2 + 1) J (p_story_b n (c.1, c.2 + 1) _ J (x1 := nI 0) (x2 := nI 0) (x3 := nI 1) (okR_n (by decide) (by decide) (by decide)) par_0)) fL_isStory_190 YL_does VL_does lL_113 rfl (Nat.le_of_ble_eq_true rfl) (by decide) (by decide) (by decide) ?_
            refine xv_k fL_isStory_193 ?_
            refine xv_ic_ne fL_isStory_196 (fun h_196 => ?_) (fun h_196 => ?_)
            · exact absurd rfl h_196
            · refine xv_k fL_isStory_199 ?_
              refine xv_goto fL_isStory_200 ?_
              exact xv_iret fL_isStory_204 rfl rfl ⟨rfl, (c.1, c.2 + 1), rfl, rfl, rfl, st_born hI h20 hs4 hd hd6 hm6.1 hm6.2 hl.1 hlm hO hI1⟩
      · exact absurd ((nI_eq (by omega) (by omega)).mp h_103) (by omega)
theorem s_lay_a (n : Nat) (c : Nat × Nat) (I : xv_I) (J : xv_J) {one two : Nat} (h1 : one < 2 ^ 31) (h2 : two < 2 ^ 31) (hn : n < 1000) (hI : Inv c I) {a : Nat} (ea : one % (c.2 + 1) = a) (hac : a = c.2) : xv_Met mL_isStory 11 400 3200 (sx n c) I (rx c) J [.ref 0, .ref 63, .ref 69, .int (nI 1), .int (nI one), .int (nI two)] (qI n J) := by
  have hn8 := hI.st.2.2.1
  have e691 := hI.st.2.1
  have ha : a < c.2 + 1 := by rw [← ea]; exact Nat.mod_lt _ (by omega)
  refine xv_Met.of (by decide +kernel) (Nat.le_of_ble_eq_true rfl) (List.forall_mem_cons.mpr ⟨rfl, List.forall_mem_cons.mpr ⟨rfl, List.forall_mem_cons.mpr ⟨rfl, List.forall_mem_cons.mpr ⟨rfl, List.forall_mem_cons.mpr ⟨rfl, List.forall_mem_cons.mpr ⟨rfl, fun _ h => nomatch h⟩⟩⟩⟩⟩⟩) ?_
  show xv_W mL_isStory 11 400 3200 _ 400 3200 (sx n c) I (rx c) J 0 [some (.ref 0), some (.ref 63), some (.ref 69), some (.int (nI 1)), some (.int (nI one)), some (.int (nI two)), none, none, none, none, none, none] []
  refine xv_il3 fL_isStory_0 ?_
  refine xv_if_ne fL_isStory_1 (fun h_1 => ?_) (fun h_1 => ?_)
  · refine xv_il4 fL_isStory_205 ?_
    refine xv_al2 fL_isStory_207 ?_
    refine xv_k fL_isStory_208 ?_
    refine xv_ialdN fL_isStory_209 (sx_69 _ _) (⟨by omega, by decide⟩) ?_
    rw [e691]
    refine xv_k fL_isStory_210 ?_
    refine xv_iadd fL_isStory_211 ?_
    refine xv_eqi (y := nI (c.2 + 1)) (nI_add _ _) ?_
    refine xv_irem fL_isStory_212 (nI_ne0 (by omega) (by omega)) ?_
    refine xv_eqi (y := nI a) (by rw [nI_rem h1 (by omega), ea]) ?_
    refine xv_is6 fL_isStory_213 ?_
    refine xv_il6 fL_isStory_215 ?_
    refine xv_al2 fL_isStory_217 ?_
    refine xv_k fL_isStory_218 ?_
    refine xv_ialdN fL_isStory_219 (sx_69 _ _) (⟨by omega, by decide⟩) ?_
    rw [e691]
    refine xv_ic_ge fL_isStory_220 (fun h_220 => ?_) (fun h_220 => ?_)
    · refine xv_k fL_isStory_240 ?_
      refine xv_is7 fL_isStory_241 ?_
      refine xv_il3 fL_isStory_243 ?_
      refine xv_k fL_isStory_244 ?_
      refine xv_ic_ne fL_isStory_245 (fun h_245 => ?_) (fun h_245 => ?_)
      · exact absurd h_245 (by decide)
      · refine xv_al0 fL_isStory_248 ?_
        refine xv_k fL_isStory_249 ?_
        refine xv_il6 fL_isStory_251 ?_
        refine xv_k fL_isStory_253 ?_
        refine xv_k fL_isStory_254 ?_
        refine xv_k fL_isStory_255 ?_
        refine xv_k fL_isStory_256 ?_
        refine xv_callS7R (w_lay_I n c c J (p_lay_a n c I J (x := nI a) (fun k z hk => by have := (nI_eq (by omega) (by omega)).mp z; omega))) fL_isStory_257 YL_does VL_does lL_113 rfl (Nat.le_of_ble_eq_true rfl) (by decide) (by decide) (by decide) ?_
        refine xv_is8 fL_isStory_260 ?_
        refine xv_il6 fL_isStory_262 ?_
        refine xv_al2 fL_isStory_264 ?_
        refine xv_k fL_isStory_265 ?_
        refine xv_ialdN fL_isStory_266 (sx_69 _ _) (⟨by omega, by decide⟩) ?_
        rw [e691]
        refine xv_ic_eq fL_isStory_267 (fun h_267 => ?_) (fun h_267 => ?_)
        · refine xv_il8 fL_isStory_275 ?_
          refine xv_il6 fL_isStory_277 ?_
          refine xv_al2 fL_isStory_279 ?_
          refine xv_k fL_isStory_280 ?_
          refine xv_ialdN fL_isStory_281 (sx_69 _ _) (⟨by omega, by decide⟩) ?_
          rw [e691]
          refine xv_ic_ne fL_isStory_282 (fun h_282 => ?_) (fun h_282 => ?_)
          · exact absurd ((nI_eq (by omega) (by omega)).mpr (by omega)) h_282
          · refine xv_k fL_isStory_285 ?_
            refine xv_goto fL_isStory_288 ?_
            refine xv_ic_ne fL_isStory_294 (fun h_294 => ?_) (fun h_294 => ?_)
            · exact absurd rfl h_294
            · refine xv_k fL_isStory_297 ?_
              refine xv_goto fL_isStory_298 ?_
              exact xv_iret fL_isStory_302 rfl rfl ⟨rfl, c, rfl, rfl, rfl, hI⟩
        · exact absurd ((nI_eq (by omega) (by omega)).mpr (by omega)) h_267
    · exact absurd ((nI_leI (by omega) (by omega)).mpr (by omega)) h_220
  · exact absurd h_1 (by decide)
theorem s_lay_b (n : Nat) (c : Nat × Nat) (I : xv_I) (J : xv_J) {one two : Nat} (h1 : one < 2 ^ 31) (h2 : two < 2 ^ 31) (hn : n < 1000) (hI : Inv c I) {a : Nat} (ea : one % (c.2 + 1) = a) (hac : a < c.2) (hsh : ∀ sh, sh ≤ 6 → I (201 + 5 * a) 0 = nI sh → 0 < sh) : xv_Met mL_isStory 11 400 3200 (sx n c) I (rx c) J [.ref 0, .ref 63, .ref 69, .int (nI 1), .int (nI one), .int (nI two)] (qI n J) := by
  have hn8 := hI.st.2.2.1
  have e691 := hI.st.2.1
  have ha : a < c.2 + 1 := by rw [← ea]; exact Nat.mod_lt _ (by omega)
  obtain ⟨sec, d, np, lo, sh, a1, a2, a3, a4, a5, a6, a7, a8, a9, b1, b2, b3, b4, b5, b6⟩ := hI.st.2.2.2 a hac
  have hsh := hsh sh (by omega) b4
  refine xv_Met.of (by decide +kernel) (Nat.le_of_ble_eq_true rfl) (List.forall_mem_cons.mpr ⟨rfl, List.forall_mem_cons.mpr ⟨rfl, List.forall_mem_cons.mpr ⟨rfl, List.forall_mem_cons.mpr ⟨rfl, List.forall_mem_cons.mpr ⟨rfl, List.forall_mem_cons.mpr ⟨rfl, fun _ h => nomatch h⟩⟩⟩⟩⟩⟩) ?_
  show xv_W mL_isStory 11 400 3200 _ 400 3200 (sx n c) I (rx c) J 0 [some (.ref 0), some (.ref 63), some (.ref 69), some (.int (nI 1)), some (.int (nI one)), some (.int (nI two)), none, none, none, none, none, none] []
  refine xv_il3 fL_isStory_0 ?_
  refine xv_if_ne fL_isStory_1 (fun h_1 => ?_) (fun h_1 => ?_)
  · refine xv_il4 fL_isStory_205 ?_
    refine xv_al2 fL_isStory_207 ?_
    refine xv_k fL_isStory_208 ?_
    refine xv_ialdN fL_isStory_209 (sx_69 _ _) (⟨by omega, by decide⟩) ?_
    rw [e691]
    refine xv_k fL_isStory_210 ?_
    refine xv_iadd fL_isStory_211 ?_
    refine xv_eqi (y := nI (c.2 + 1)) (nI_add _ _) ?_
    refine xv_irem fL_isStory_212 (nI_ne0 (by omega) (by omega)) ?_
    refine xv_eqi (y := nI a) (by rw [nI_rem h1 (by omega), ea]) ?_
    refine xv_is6 fL_isStory_213 ?_
    refine xv_il6 fL_isStory_215 ?_
    refine xv_al2 fL_isStory_217 ?_
    refine xv_k fL_isStory_218 ?_
    refine xv_ialdN fL_isStory_219 (sx_69 _ _) (⟨by omega, by decide⟩) ?_
    rw [e691]
    refine xv_ic_ge fL_isStory_220 (fun h_220 => ?_) (fun h_220 => ?_)
    · exact absurd ((nI_leI (by omega) (by omega)).mp h_220) (by omega)
    · refine xv_al1 fL_isStory_223 ?_
      refine xv_il6 fL_isStory_224 ?_
      refine xv_ialdN fL_isStory_226 (sx_63 _ _) (⟨by omega, by decide⟩) ?_
      rw [b5]
      refine xv_k fL_isStory_227 ?_
      refine xv_idiv fL_isStory_229 (by decide) ?_
      refine xv_eqi (y := nI ((sec + 10 * sh + 1000 * d) / 10)) (nI_div (by omega) (by decide)) ?_
      refine xv_k fL_isStory_230 ?_
      refine xv_irem fL_isStory_232 (by decide) ?_
      refine xv_eqi (y := nI sh) (by rw [nI_rem (by omega) (by decide)]; congr 1; omega) ?_
      refine xv_if_le fL_isStory_233 (fun h_233 => ?_) (fun h_233 => ?_)
      · exact absurd h_233 (nI_nle hsh (by omega))
      · refine xv_k fL_isStory_236 ?_
        refine xv_goto fL_isStory_237 ?_
        refine xv_is7 fL_isStory_241 ?_
        refine xv_il3 fL_isStory_243 ?_
        refine xv_k fL_isStory_244 ?_
        refine xv_ic_ne fL_isStory_245 (fun h_245 => ?_) (fun h_245 => ?_)
        · exact absurd h_245 (by decide)
        · refine xv_al0 fL_isStory_248 ?_
          refine xv_k fL_isStory_249 ?_
          refine xv_il6 fL_isStory_251 ?_
          refine xv_k fL_isStory_253 ?_
          refine xv_k fL_isStory_254 ?_
          refine xv_k fL_isStory_255 ?_
          refine xv_k fL_isStory_256 ?_
          refine xv_callS7R (w_lay_S n c c J (p_lay_b n c I J hac (by omega) (by rw [b4]; exact nI_nle hsh (by omega)))) fL_isStory_257 YL_does VL_does lL_113 rfl (Nat.le_of_ble_eq_true rfl) (by decide) (by decide) (by decide) ?_
          refine xv_is8 fL_isStory_260 ?_
          refine xv_il6 fL_isStory_262 ?_
          refine xv_al2 fL_isStory_264 ?_
          refine xv_k fL_isStory_265 ?_
          refine xv_ialdN fL_isStory_266 (sx_69 _ _) (⟨by omega, by decide⟩) ?_
          rw [e691]
          refine xv_ic_eq fL_isStory_267 (fun h_267 => ?_) (fun h_267 => ?_)
          · exact absurd ((nI_eq (by omega) (by omega)).mp h_267) (by omega)
          · refine xv_il7 fL_isStory_270 ?_
            refine xv_if_eq fL_isStory_272 (fun h_272 => ?_) (fun h_272 => ?_)
            · exact absurd h_272 (by decide)
            · refine xv_il8 fL_isStory_275 ?_
              refine xv_il6 fL_isStory_277 ?_
              refine xv_al2 fL_isStory_279 ?_
              refine xv_k fL_isStory_280 ?_
              refine xv_ialdN fL_isStory_281 (sx_69 _ _) (⟨by omega, by decide⟩) ?_
              rw [e691]
              refine xv_ic_ne fL_isStory_282 (fun h_282 => ?_) (fun h_282 => ?_)
              · refine xv_k fL_isStory_291 ?_
                refine xv_ic_ne fL_isStory_294 (fun h_294 => ?_) (fun h_294 => ?_)
                · exact absurd rfl h_294
                · refine xv_k fL_isStory_297 ?_
                  refine xv_goto fL_isStory_298 ?_
                  exact xv_iret fL_isStory_302 rfl rfl ⟨rfl, c, rfl, rfl, rfl, hI⟩
              · exact absurd ((nI_eq (by omega) (by omega)).mp h_282) (by omega)
  · exact absurd h_1 (by decide)
theorem s_lay_no (n : Nat) (c : Nat × Nat) (I : xv_I) (J : xv_J) {one two : Nat} (h1 : one < 2 ^ 31) (h2 : two < 2 ^ 31) (hn : n < 1000) (hI : Inv c I) {a : Nat} (ea : one % (c.2 + 1) = a) (hac : a < c.2) (hsh : ∀ sh, sh ≤ 6 → I (201 + 5 * a) 0 = nI sh → sh = 0) (hF : ∀ sec d np lo, I (200 + 5 * a) 0 = nI sec → I (200 + 5 * a) 1 = nI d → I (200 + 5 * a) 2 = nI np → I (200 + 5 * a) 3 = nI lo → sec < 4 → d ≤ 999999 → np ≤ 6 → lo ≤ np → (xFind (nI sec) (czf d np) np lo (nI 0) (nI 31) I).1 = nI 0) : xv_Met mL_isStory 11 400 3200 (sx n c) I (rx c) J [.ref 0, .ref 63, .ref 69, .int (nI 1), .int (nI one), .int (nI two)] (qI n J) := by
  have hn8 := hI.st.2.2.1
  have e691 := hI.st.2.1
  have ha : a < c.2 + 1 := by rw [← ea]; exact Nat.mod_lt _ (by omega)
  obtain ⟨sec, d, np, lo, sh, a1, a2, a3, a4, a5, a6, a7, a8, a9, b1, b2, b3, b4, b5, b6⟩ := hI.st.2.2.2 a hac
  have hsh := hsh sh (by omega) b4
  have hxs := st_x (I := I) (s := a) a2 a3 a4 a5 a6 a7 a9 b1 b2 b3
  have hl1 : ¬ ¬ I (201 + 5 * a) 0 ≤ 0 := by rw [b4, hsh]; decide
  obtain ⟨d1, d2, d3⟩ := (b6.resolve_right (fun q => by omega))
  have e7 : I 63 a = nI (sec + 10 * sh + 1000 * d) := b5
  have hF := hF sec d np lo a9 b1 b2 b3 a1 a3 a5 a7
  obtain ⟨F1, F2⟩ := find_st (I := I) (gm := nI 0) (sc := nI sec) (cl := nI 31) (cz := czf d np) (np := np) (lo := lo) a6 a7 a5 (fun f t hf ht => (czf_ok (Dg_pos a2) hf ht a5).1)
  refine xv_Met.of (by decide +kernel) (Nat.le_of_ble_eq_true rfl) (List.forall_mem_cons.mpr ⟨rfl, List.forall_mem_cons.mpr ⟨rfl, List.forall_mem_cons.mpr ⟨rfl, List.forall_mem_cons.mpr ⟨rfl, List.forall_mem_cons.mpr ⟨rfl, List.forall_mem_cons.mpr ⟨rfl, fun _ h => nomatch h⟩⟩⟩⟩⟩⟩) ?_
  show xv_W mL_isStory 11 400 3200 _ 400 3200 (sx n c) I (rx c) J 0 [some (.ref 0), some (.ref 63), some (.ref 69), some (.int (nI 1)), some (.int (nI one)), some (.int (nI two)), none, none, none, none, none, none] []
  refine xv_il3 fL_isStory_0 ?_
  refine xv_if_ne fL_isStory_1 (fun h_1 => ?_) (fun h_1 => ?_)
  · refine xv_il4 fL_isStory_205 ?_
    refine xv_al2 fL_isStory_207 ?_
    refine xv_k fL_isStory_208 ?_
    refine xv_ialdN fL_isStory_209 (sx_69 _ _) (⟨by omega, by decide⟩) ?_
    rw [e691]
    refine xv_k fL_isStory_210 ?_
    refine xv_iadd fL_isStory_211 ?_
    refine xv_eqi (y := nI (c.2 + 1)) (nI_add _ _) ?_
    refine xv_irem fL_isStory_212 (nI_ne0 (by omega) (by omega)) ?_
    refine xv_eqi (y := nI a) (by rw [nI_rem h1 (by omega), ea]) ?_
    refine xv_is6 fL_isStory_213 ?_
    refine xv_il6 fL_isStory_215 ?_
    refine xv_al2 fL_isStory_217 ?_
    refine xv_k fL_isStory_218 ?_
    refine xv_ialdN fL_isStory_219 (sx_69 _ _) (⟨by omega, by decide⟩) ?_
    rw [e691]
    refine xv_ic_ge fL_isStory_220 (fun h_220 => ?_) (fun h_220 => ?_)
    · exact absurd ((nI_leI (by omega) (by omega)).mp h_220) (by omega)
    · refine xv_al1 fL_isStory_223 ?_
      refine xv_il6 fL_isStory_224 ?_
      refine xv_ialdN fL_isStory_226 (sx_63 _ _) (⟨by omega, by decide⟩) ?_
      rw [b5]
      refine xv_k fL_isStory_227 ?_
      refine xv_idiv fL_isStory_229 (by decide) ?_
      refine xv_eqi (y := nI ((sec + 10 * sh + 1000 * d) / 10)) (nI_div (by omega) (by decide)) ?_
      refine xv_k fL_isStory_230 ?_
      refine xv_irem fL_isStory_232 (by decide) ?_
      refine xv_eqi (y := nI sh) (by rw [nI_rem (by omega) (by decide)]; congr 1; omega) ?_
      refine xv_if_le fL_isStory_233 (fun h_233 => ?_) (fun h_233 => ?_)
      · refine xv_k fL_isStory_240 ?_
        refine xv_is7 fL_isStory_241 ?_
        refine xv_il3 fL_isStory_243 ?_
        refine xv_k fL_isStory_244 ?_
        refine xv_ic_ne fL_isStory_245 (fun h_245 => ?_) (fun h_245 => ?_)
        · exact absurd h_245 (by decide)
        · refine xv_al0 fL_isStory_248 ?_
          refine xv_k fL_isStory_249 ?_
          refine xv_il6 fL_isStory_251 ?_
          refine xv_k fL_isStory_253 ?_
          refine xv_k fL_isStory_254 ?_
          refine xv_k fL_isStory_255 ?_
          refine xv_k fL_isStory_256 ?_
          obtain P1 := p_lay_no n c I J hac (by omega) hxs hl1 (by rw [hF]; rfl)
          obtain ⟨C, hC⟩ : ∃ C, C = (xFind (nI sec) (czf d np) np lo (nI 0) (nI 31) I).2 := ⟨_, rfl⟩
          rw [← hC] at P1
          obtain F1 : ∀ v j, (v < 20 ∨ 28 < v) → C v j = I v j := fun v j h => by rw [hC]; exact F1 v j h
          obtain k69 : C 69 1 = nI c.2 := (F1 _ _ (by omega)).trans e691
          obtain k63 : C 63 a = nI (sec + 10 * sh + 1000 * d) := (F1 _ _ (by omega)).trans b5
          refine xv_callS7R (w_lay_ok n c c J P1) fL_isStory_257 YL_does VL_does lL_113 rfl (Nat.le_of_ble_eq_true rfl) (by decide) (by decide) (by decide) ?_
          refine xv_is8 fL_isStory_260 ?_
          refine xv_il6 fL_isStory_262 ?_
          refine xv_al2 fL_isStory_264 ?_
          refine xv_k fL_isStory_265 ?_
          refine xv_ialdN fL_isStory_266 (sx_69 _ _) (⟨by omega, by decide⟩) ?_
          rw [k69]
          refine xv_ic_eq fL_isStory_267 (fun h_267 => ?_) (fun h_267 => ?_)
          · exact absurd ((nI_eq (by omega) (by omega)).mp h_267) (by omega)
          · refine xv_il7 fL_isStory_270 ?_
            refine xv_if_eq fL_isStory_272 (fun h_272 => ?_) (fun h_272 => ?_)
            · refine xv_al1 fL_isStory_303 ?_
              refine xv_il6 fL_isStory_304 ?_
              refine xv_dup2 fL_isStory_306 ?_
              refine xv_ialdN fL_isStory_307 (sx_63 _ _) (⟨by omega, by decide⟩) ?_
              rw [k63]
              refine xv_k fL_isStory_308 ?_
              refine xv_il8 fL_isStory_310 ?_
              refine xv_imul fL_isStory_312 ?_
              refine xv_eqi (y := nI 0) (nI_mul 10 0) ?_
              refine xv_iadd fL_isStory_313 ?_
              refine xv_eqi (y := nI (sec + 10 * sh + 1000 * d)) (by rw [nI_add]; rfl) ?_
              refine xv_iastN fL_isStory_314 (sx_63 _ _) (⟨by omega, by decide⟩) ?_
              obtain ⟨K, hK⟩ : ∃ K, K = xv_u C 63 a (nI (sec + 10 * sh + 1000 * d)) := ⟨_, rfl⟩
              rw [← hK]
              obtain hKI : ∀ v j, (v < 20 ∨ 28 < v) → K v j = I v j := fun v j h => by
                rw [hK]
                by_cases g : v = 63 ∧ j = a
                · rw [g.1, g.2, xv_u_eq, b5]
                · exact (if_neg g).trans (F1 v j h)
              obtain hW0 : xWy K (201 + 5 * a) (fun _ => 0) (fun _ => 0) (fun _ => 0) := fun i hi => ⟨(hKI _ _ (by omega)).trans (d2 i hi), Nat.zero_le _, fun z => absurd z (Nat.lt_irrefl 0)⟩
              obtain q63 : K 63 a = nI (sec + 10 * sh + 1000 * d) := (hKI _ _ (by omega)).trans b5
              refine xv_il8 fL_isStory_315 ?_
              refine xv_if_lt fL_isStory_317 (fun h_317 => ?_) (fun h_317 => ?_)
              · exact absurd h_317 (by decide)
              · refine xv_il8 fL_isStory_320 ?_
                refine xv_al1 fL_isStory_322 ?_
                refine xv_il6 fL_isStory_323 ?_
                refine xv_ialdN fL_isStory_325 (sx_63 _ _) (⟨by omega, by decide⟩) ?_
                rw [q63]
                refine xv_k fL_isStory_326 ?_
                refine xv_idiv fL_isStory_329 (by decide) ?_
                refine xv_eqi (y := nI d) (by rw [nI_div (by omega) (by decide)]; congr 1; omega) ?_
                refine xv_callS1R (c_lawLines n c K J a2 (by omega)) fL_isStory_330 YL_lines VL_lines lL_126 rfl (Nat.le_of_ble_eq_true rfl) (by decide) (by decide) (by decide) ?_
                refine xv_ic_gt fL_isStory_333 (fun h_333 => ?_) (fun h_333 => ?_)
                · exact absurd h_333 (nI_nlt (Nat.zero_le _) (by omega))
                · refine xv_al0 fL_isStory_336 ?_
                  refine xv_al1 fL_isStory_337 ?_
                  refine xv_il6 fL_isStory_338 ?_
                  refine xv_ialdN fL_isStory_340 (sx_63 _ _) (⟨by omega, by decide⟩) ?_
                  rw [q63]
                  refine xv_il6 fL_isStory_341 ?_
                  refine xv_il8 fL_isStory_343 ?_
                  refine xv_callS4R (c_fits0 n c K J hac (by omega) (pg := fun _ => 0) (st := fun _ => 0) (sz := fun _ => 0) hW0 rfl) fL_isStory_345 YL_fitsIn VL_fitsIn lL_129 rfl (Nat.le_of_ble_eq_true rfl) (by decide) (by decide) (by decide) ?_
                  refine xv_if_eq fL_isStory_348 (fun h_348 => ?_) (fun h_348 => ?_)
                  · exact absurd h_348 (by decide)
                  · refine xv_k fL_isStory_351 ?_
                    refine xv_goto fL_isStory_352 ?_
                    exact xv_iret fL_isStory_356 rfl rfl ⟨rfl, c, rfl, rfl, rfl, hI.scr hKI⟩
            · exact absurd h_272 (by decide)
      · exact absurd (by rw [hsh]; decide) h_233
  · exact absurd h_1 (by decide)
theorem way_xWy {I C : xv_I} {gm sc : Int32} {cz : Nat → Nat → Nat} {u : Nat} {pg st sz : Nat → Nat} (h : wayC I gm sc cz u pg st sz) (rows : ∀ i, i < 2 → C 24 i = nI (sz i) ∧ (0 < sz i → C 22 i = nI (pg i) ∧ C 23 i = nI (st i))) : xWy C 21 pg st sz := fun i hi => ⟨(rows i hi).1, (h.2.1 i hi).1, fun hs => ⟨((rows i hi).2 hs).1, by have := ((h.2.1 i hi).2 hs).1; omega, ((rows i hi).2 hs).2, ((h.2.1 i hi).2 hs).2.1⟩⟩
theorem xOut63 {C : xv_I} {a : Nat} {pg st sz : Nat → Nat} {x : Int32} {v j : Nat} (hv : 15 < v ∧ v < 200) (h : ∀ i, i < 2 → 0 < sz i → pg i < 10) : xOut (201 + 5 * a) pg st sz x C v j = C v j := by
  unfold xOut
  simp only [it]
  rw [xOut2_o _ (fun s => h _ (by decide) s) _ (by omega), xOut2_o _ (fun s => h _ (by decide) s) _ (by omega)]
  exact xCopy_o _ _ (by omega)
theorem s_lay_ok (n : Nat) (c : Nat × Nat) (I : xv_I) (J : xv_J) {one two : Nat} (h1 : one < 2 ^ 31) (h2 : two < 2 ^ 31) (hn : n < 1000) (hI : Inv c I) {a : Nat} (ea : one % (c.2 + 1) = a) (hac : a < c.2) (hsh : ∀ sh, sh ≤ 6 → I (201 + 5 * a) 0 = nI sh → sh = 0) (hF : ∀ sec d np lo, I (200 + 5 * a) 0 = nI sec → I (200 + 5 * a) 1 = nI d → I (200 + 5 * a) 2 = nI np → I (200 + 5 * a) 3 = nI lo → sec < 4 → d ≤ 999999 → np ≤ 6 → lo ≤ np → ¬ (xFind (nI sec) (czf d np) np lo (nI 0) (nI 31) I).1 = nI 0) : xv_Met mL_isStory 11 400 3200 (sx n c) I (rx c) J [.ref 0, .ref 63, .ref 69, .int (nI 1), .int (nI one), .int (nI two)] (qM n J) := by
  have hn8 := hI.st.2.2.1
  have e691 := hI.st.2.1
  have ha : a < c.2 + 1 := by rw [← ea]; exact Nat.mod_lt _ (by omega)
  obtain ⟨sec, d, np, lo, sh, a1, a2, a3, a4, a5, a6, a7, a8, a9, b1, b2, b3, b4, b5, b6⟩ := hI.st.2.2.2 a hac
  have hsh := hsh sh (by omega) b4
  have hxs := st_x (I := I) (s := a) a2 a3 a4 a5 a6 a7 a9 b1 b2 b3
  have hl1 : ¬ ¬ I (201 + 5 * a) 0 ≤ 0 := by rw [b4, hsh]; decide
  obtain ⟨d1, d2, d3⟩ := (b6.resolve_right (fun q => by omega))
  have e7 : I 63 a = nI (sec + 10 * sh + 1000 * d) := b5
  have hF := hF sec d np lo a9 b1 b2 b3 a1 a3 a5 a7
  obtain ⟨F1, F2⟩ := find_st (I := I) (gm := nI 0) (sc := nI sec) (cl := nI 31) (cz := czf d np) (np := np) (lo := lo) a6 a7 a5 (fun f t hf ht => (czf_ok (Dg_pos a2) hf ht a5).1)
  obtain ⟨hF, u, hu0, hu2, ⟨hbest, pg, st, sz, hway, hrows⟩, hmost⟩ := F2.resolve_left hF
  have hu1 : 1 ≤ u := by omega
  have hwayb : ∀ i, i < 2 → 0 < sz i → pg i < 10 := fun i hi hs => by have := ((hway.2.1 i hi).2 hs).1; omega
  have hwy := way_xWy hway hrows
  refine xv_Met.of (by decide +kernel) (Nat.le_of_ble_eq_true rfl) (List.forall_mem_cons.mpr ⟨rfl, List.forall_mem_cons.mpr ⟨rfl, List.forall_mem_cons.mpr ⟨rfl, List.forall_mem_cons.mpr ⟨rfl, List.forall_mem_cons.mpr ⟨rfl, List.forall_mem_cons.mpr ⟨rfl, fun _ h => nomatch h⟩⟩⟩⟩⟩⟩) ?_
  show xv_W mL_isStory 11 400 3200 _ 400 3200 (sx n c) I (rx c) J 0 [some (.ref 0), some (.ref 63), some (.ref 69), some (.int (nI 1)), some (.int (nI one)), some (.int (nI two)), none, none, none, none, none, none] []
  refine xv_il3 fL_isStory_0 ?_
  refine xv_if_ne fL_isStory_1 (fun h_1 => ?_) (fun h_1 => ?_)
  · refine xv_il4 fL_isStory_205 ?_
    refine xv_al2 fL_isStory_207 ?_
    refine xv_k fL_isStory_208 ?_
    refine xv_ialdN fL_isStory_209 (sx_69 _ _) (⟨by omega, by decide⟩) ?_
    rw [e691]
    refine xv_k fL_isStory_210 ?_
    refine xv_iadd fL_isStory_211 ?_
    refine xv_eqi (y := nI (c.2 + 1)) (nI_add _ _) ?_
    refine xv_irem fL_isStory_212 (nI_ne0 (by omega) (by omega)) ?_
    refine xv_eqi (y := nI a) (by rw [nI_rem h1 (by omega), ea]) ?_
    refine xv_is6 fL_isStory_213 ?_
    refine xv_il6 fL_isStory_215 ?_
    refine xv_al2 fL_isStory_217 ?_
    refine xv_k fL_isStory_218 ?_
    refine xv_ialdN fL_isStory_219 (sx_69 _ _) (⟨by omega, by decide⟩) ?_
    rw [e691]
    refine xv_ic_ge fL_isStory_220 (fun h_220 => ?_) (fun h_220 => ?_)
    · exact absurd ((nI_leI (by omega) (by omega)).mp h_220) (by omega)
    · refine xv_al1 fL_isStory_223 ?_
      refine xv_il6 fL_isStory_224 ?_
      refine xv_ialdN fL_isStory_226 (sx_63 _ _) (⟨by omega, by decide⟩) ?_
      rw [b5]
      refine xv_k fL_isStory_227 ?_
      refine xv_idiv fL_isStory_229 (by decide) ?_
      refine xv_eqi (y := nI ((sec + 10 * sh + 1000 * d) / 10)) (nI_div (by omega) (by decide)) ?_
      refine xv_k fL_isStory_230 ?_
      refine xv_irem fL_isStory_232 (by decide) ?_
      refine xv_eqi (y := nI sh) (by rw [nI_rem (by omega) (by decide)]; congr 1; omega) ?_
      refine xv_if_le fL_isStory_233 (fun h_233 => ?_) (fun h_233 => ?_)
      · refine xv_k fL_isStory_240 ?_
        refine xv_is7 fL_isStory_241 ?_
        refine xv_il3 fL_isStory_243 ?_
        refine xv_k fL_isStory_244 ?_
        refine xv_ic_ne fL_isStory_245 (fun h_245 => ?_) (fun h_245 => ?_)
        · exact absurd h_245 (by decide)
        · refine xv_al0 fL_isStory_248 ?_
          refine xv_k fL_isStory_249 ?_
          refine xv_il6 fL_isStory_251 ?_
          refine xv_k fL_isStory_253 ?_
          refine xv_k fL_isStory_254 ?_
          refine xv_k fL_isStory_255 ?_
          refine xv_k fL_isStory_256 ?_
          obtain P1 := p_lay_ok n c I J hac (by omega) hxs hl1 (by rw [hF]; decide) hwy
          obtain ⟨C, hC⟩ : ∃ C, C = (xFind (nI sec) (czf d np) np lo (nI 0) (nI 31) I).2 := ⟨_, rfl⟩
          rw [← hC] at P1 hbest hrows
          obtain F1 : ∀ v j, (v < 20 ∨ 28 < v) → C v j = I v j := fun v j h => by rw [hC]; exact F1 v j h
          obtain ⟨M1, M2⟩ := Mid.laid hI hac a1 a2 a3 a4 a5 a6 a7 hu1 hu2 a9 b1 b2 b3 F1 hbest hrows hway hmost d3
          obtain ⟨K1, hK1⟩ : ∃ K1, K1 = xOut (201 + 5 * a) pg st sz (nI (200 + a)) C := ⟨_, rfl⟩
          rw [← hK1] at P1 M1 M2
          obtain ⟨sec9, d9, np9, lo9, sh9, y1, y2, y3, y4, y5, y6, y7, y8, y9, z1, z2, z3, z4, z5, z6⟩ := M1.1.2.2.2.2.2.2.1.2.2.2 a hac
          obtain v63 : K1 63 a = nI (sec + 10 * sh + 1000 * d) := by
            rw [hK1, xOut63 (by omega) hwayb, F1 _ _ (by omega), b5]
          obtain k69 : K1 69 1 = nI c.2 := (xv_u_ne _ _ _ (by decide)).symm.trans M1.1.2.2.2.2.2.2.1.2.1
          obtain hval : K1 (201 + 5 * a) 0 = nI u := by
            rw [xv_u_ne _ _ _ (by omega)] at z4
            rw [xv_u_eq] at z5
            obtain w := (nI_eq (by omega) (by omega)).mp z5
            rw [z4]
            congr 1
            omega
          refine xv_callS7R (w_lay_ok n c c J P1) fL_isStory_257 YL_does VL_does lL_113 rfl (Nat.le_of_ble_eq_true rfl) (by decide) (by decide) (by decide) ?_
          rw [hval]
          refine xv_is8 fL_isStory_260 ?_
          refine xv_il6 fL_isStory_262 ?_
          refine xv_al2 fL_isStory_264 ?_
          refine xv_k fL_isStory_265 ?_
          refine xv_ialdN fL_isStory_266 (sx_69 _ _) (⟨by omega, by decide⟩) ?_
          rw [k69]
          refine xv_ic_eq fL_isStory_267 (fun h_267 => ?_) (fun h_267 => ?_)
          · exact absurd ((nI_eq (by omega) (by omega)).mp h_267) (by omega)
          · refine xv_il7 fL_isStory_270 ?_
            refine xv_if_eq fL_isStory_272 (fun h_272 => ?_) (fun h_272 => ?_)
            · refine xv_al1 fL_isStory_303 ?_
              refine xv_il6 fL_isStory_304 ?_
              refine xv_dup2 fL_isStory_306 ?_
              refine xv_ialdN fL_isStory_307 (sx_63 _ _) (⟨by omega, by decide⟩) ?_
              rw [v63]
              refine xv_k fL_isStory_308 ?_
              refine xv_il8 fL_isStory_310 ?_
              refine xv_imul fL_isStory_312 ?_
              refine xv_eqi (y := nI (10 * u)) (nI_mul _ _) ?_
              refine xv_iadd fL_isStory_313 ?_
              refine xv_eqi (y := nI (sec + 10 * u + 1000 * d)) (by rw [nI_add]; congr 1; omega) ?_
              refine xv_iastN fL_isStory_314 (sx_63 _ _) (⟨by omega, by decide⟩) ?_
              refine xv_il8 fL_isStory_315 ?_
              refine xv_if_lt fL_isStory_317 (fun h_317 => ?_) (fun h_317 => ?_)
              · exact absurd h_317 (nI_pos (by omega))
              · refine xv_il8 fL_isStory_320 ?_
                refine xv_al1 fL_isStory_322 ?_
                refine xv_il6 fL_isStory_323 ?_
                refine xv_ialdN fL_isStory_325 (sx_63 _ _) (⟨by omega, by decide⟩) ?_
                rw [xv_u_eq]
                refine xv_k fL_isStory_326 ?_
                refine xv_idiv fL_isStory_329 (by decide) ?_
                refine xv_eqi (y := nI d) (by rw [nI_div (by omega) (by decide)]; congr 1; omega) ?_
                refine xv_callS1R (c_lawLines n c _ J a2 (by omega)) fL_isStory_330 YL_lines VL_lines lL_126 rfl (Nat.le_of_ble_eq_true rfl) (by decide) (by decide) (by decide) ?_
                refine xv_ic_gt fL_isStory_333 (fun h_333 => ?_) (fun h_333 => ?_)
                · exact absurd ((nI_ltI (by omega) (by omega)).mp h_333) (by omega)
                · refine xv_al0 fL_isStory_336 ?_
                  refine xv_al1 fL_isStory_337 ?_
                  refine xv_il6 fL_isStory_338 ?_
                  refine xv_ialdN fL_isStory_340 (sx_63 _ _) (⟨by omega, by decide⟩) ?_
                  rw [xv_u_eq]
                  refine xv_il6 fL_isStory_341 ?_
                  refine xv_il8 fL_isStory_343 ?_
                  refine xv_callS4R (c_fitsIn n c _ J hac (by omega) a2 a3 a5 hu2 hu1 (V := sec + 10 * u + 1000 * d) (by omega) (by omega) M2 hway.1) fL_isStory_345 YL_fitsIn VL_fitsIn lL_129 rfl (Nat.le_of_ble_eq_true rfl) (by decide) (by decide) (by decide) ?_
                  rw [bi_t (hway.fit hu1)]
                  refine xv_if_eq fL_isStory_348 (fun h_348 => ?_) (fun h_348 => ?_)
                  · exact absurd h_348 (by decide)
                  · refine xv_k fL_isStory_351 ?_
                    refine xv_goto fL_isStory_352 ?_
                    exact xv_iret fL_isStory_356 rfl rfl ⟨rfl, c, rfl, rfl, rfl, M1⟩
            · exact absurd h_272 (by decide)
      · exact absurd (by rw [hsh]; decide) h_233
  · exact absurd h_1 (by decide)
theorem s_lift_a (n : Nat) (c : Nat × Nat) (I : xv_I) (J : xv_J) {one two : Nat} (h1 : one < 2 ^ 31) (h2 : two < 2 ^ 31) (hn : n < 1000) (hI : Inv c I) {a : Nat} (ea : one % (c.2 + 1) = a) (hac : a = c.2) : xv_Met mL_isStory 11 400 3200 (sx n c) I (rx c) J [.ref 0, .ref 63, .ref 69, .int (nI 2), .int (nI one), .int (nI two)] (qI n J) := by
  have hn8 := hI.st.2.2.1
  have e691 := hI.st.2.1
  have ha : a < c.2 + 1 := by rw [← ea]; exact Nat.mod_lt _ (by omega)
  refine xv_Met.of (by decide +kernel) (Nat.le_of_ble_eq_true rfl) (List.forall_mem_cons.mpr ⟨rfl, List.forall_mem_cons.mpr ⟨rfl, List.forall_mem_cons.mpr ⟨rfl, List.forall_mem_cons.mpr ⟨rfl, List.forall_mem_cons.mpr ⟨rfl, List.forall_mem_cons.mpr ⟨rfl, fun _ h => nomatch h⟩⟩⟩⟩⟩⟩) ?_
  show xv_W mL_isStory 11 400 3200 _ 400 3200 (sx n c) I (rx c) J 0 [some (.ref 0), some (.ref 63), some (.ref 69), some (.int (nI 2)), some (.int (nI one)), some (.int (nI two)), none, none, none, none, none, none] []
  refine xv_il3 fL_isStory_0 ?_
  refine xv_if_ne fL_isStory_1 (fun h_1 => ?_) (fun h_1 => ?_)
  · refine xv_il4 fL_isStory_205 ?_
    refine xv_al2 fL_isStory_207 ?_
    refine xv_k fL_isStory_208 ?_
    refine xv_ialdN fL_isStory_209 (sx_69 _ _) (⟨by omega, by decide⟩) ?_
    rw [e691]
    refine xv_k fL_isStory_210 ?_
    refine xv_iadd fL_isStory_211 ?_
    refine xv_eqi (y := nI (c.2 + 1)) (nI_add _ _) ?_
    refine xv_irem fL_isStory_212 (nI_ne0 (by omega) (by omega)) ?_
    refine xv_eqi (y := nI a) (by rw [nI_rem h1 (by omega), ea]) ?_
    refine xv_is6 fL_isStory_213 ?_
    refine xv_il6 fL_isStory_215 ?_
    refine xv_al2 fL_isStory_217 ?_
    refine xv_k fL_isStory_218 ?_
    refine xv_ialdN fL_isStory_219 (sx_69 _ _) (⟨by omega, by decide⟩) ?_
    rw [e691]
    refine xv_ic_ge fL_isStory_220 (fun h_220 => ?_) (fun h_220 => ?_)
    · refine xv_k fL_isStory_240 ?_
      refine xv_is7 fL_isStory_241 ?_
      refine xv_il3 fL_isStory_243 ?_
      refine xv_k fL_isStory_244 ?_
      refine xv_ic_ne fL_isStory_245 (fun h_245 => ?_) (fun h_245 => ?_)
      · refine xv_il3 fL_isStory_357 ?_
        refine xv_k fL_isStory_358 ?_
        refine xv_ic_ne fL_isStory_359 (fun h_359 => ?_) (fun h_359 => ?_)
        · exact absurd h_359 (by decide)
        · refine xv_al0 fL_isStory_362 ?_
          refine xv_k fL_isStory_363 ?_
          refine xv_il6 fL_isStory_365 ?_
          refine xv_k fL_isStory_367 ?_
          refine xv_k fL_isStory_368 ?_
          refine xv_k fL_isStory_369 ?_
          refine xv_k fL_isStory_370 ?_
          refine xv_callS7R (w_lift_I n c c J (p_lift_a n c I J (x := nI a) (fun k z hk => by have := (nI_eq (by omega) (by omega)).mp z; omega))) fL_isStory_371 YL_does VL_does lL_113 rfl (Nat.le_of_ble_eq_true rfl) (by decide) (by decide) (by decide) ?_
          refine xv_is8 fL_isStory_374 ?_
          refine xv_il7 fL_isStory_376 ?_
          refine xv_if_eq fL_isStory_378 (fun h_378 => ?_) (fun h_378 => ?_)
          · refine xv_k fL_isStory_394 ?_
            refine xv_is9 fL_isStory_395 ?_
            refine xv_al1 fL_isStory_397 ?_
            refine xv_il6 fL_isStory_398 ?_
            refine xv_al2 fL_isStory_400 ?_
            refine xv_k fL_isStory_401 ?_
            refine xv_ialdN fL_isStory_402 (sx_69 _ _) (⟨by omega, by decide⟩) ?_
            rw [e691]
            refine xv_ic_ge fL_isStory_403 (fun h_403 => ?_) (fun h_403 => ?_)
            · refine xv_k fL_isStory_411 ?_
              refine xv_dup2 fL_isStory_412 ?_
              refine xv_ialdN fL_isStory_413 (sx_63 _ _) (⟨by omega, by decide⟩) ?_
              refine xv_il6 fL_isStory_414 ?_
              refine xv_al2 fL_isStory_416 ?_
              refine xv_k fL_isStory_417 ?_
              refine xv_ialdN fL_isStory_418 (sx_69 _ _) (⟨by omega, by decide⟩) ?_
              rw [e691]
              refine xv_ic_ge fL_isStory_419 (fun h_419 => ?_) (fun h_419 => ?_)
              · refine xv_k fL_isStory_430 ?_
                refine xv_isub fL_isStory_431 ?_
                refine xv_eqi (y := I 63 0) (by show I 63 0 - 0 = I 63 0; exact Int32.sub_zero _) ?_
                refine xv_iastN fL_isStory_432 (sx_63 _ _) (⟨by omega, by decide⟩) ?_
                rw [xv_u_id]
                refine xv_il8 fL_isStory_433 ?_
                refine xv_il6 fL_isStory_435 ?_
                refine xv_al2 fL_isStory_437 ?_
                refine xv_k fL_isStory_438 ?_
                refine xv_ialdN fL_isStory_439 (sx_69 _ _) (⟨by omega, by decide⟩) ?_
                rw [e691]
                refine xv_ic_ne fL_isStory_440 (fun h_440 => ?_) (fun h_440 => ?_)
                · exact absurd ((nI_eq (by omega) (by omega)).mpr (by omega)) h_440
                · refine xv_k fL_isStory_443 ?_
                  refine xv_goto fL_isStory_446 ?_
                  refine xv_ic_ne fL_isStory_462 (fun h_462 => ?_) (fun h_462 => ?_)
                  · exact absurd rfl h_462
                  · refine xv_k fL_isStory_465 ?_
                    refine xv_goto fL_isStory_466 ?_
                    exact xv_iret fL_isStory_470 rfl rfl ⟨rfl, c, rfl, rfl, rfl, hI⟩
              · exact absurd ((nI_leI (by omega) (by omega)).mpr (by omega)) h_419
            · exact absurd ((nI_leI (by omega) (by omega)).mpr (by omega)) h_403
          · exact absurd h_378 (by decide)
      · exact absurd h_245 (by decide)
    · exact absurd ((nI_leI (by omega) (by omega)).mpr (by omega)) h_220
  · exact absurd h_1 (by decide)
theorem s_lift_b (n : Nat) (c : Nat × Nat) (I : xv_I) (J : xv_J) {one two : Nat} (h1 : one < 2 ^ 31) (h2 : two < 2 ^ 31) (hn : n < 1000) (hI : Inv c I) {a : Nat} (ea : one % (c.2 + 1) = a) (hac : a < c.2) (hsh : ∀ sh, sh ≤ 6 → I (201 + 5 * a) 0 = nI sh → sh = 0) : xv_Met mL_isStory 11 400 3200 (sx n c) I (rx c) J [.ref 0, .ref 63, .ref 69, .int (nI 2), .int (nI one), .int (nI two)] (qI n J) := by
  have hn8 := hI.st.2.2.1
  have e691 := hI.st.2.1
  have ha : a < c.2 + 1 := by rw [← ea]; exact Nat.mod_lt _ (by omega)
  obtain ⟨sec, d, np, lo, sh, a1, a2, a3, a4, a5, a6, a7, a8, a9, b1, b2, b3, b4, b5, b6⟩ := hI.st.2.2.2 a hac
  have hsh := hsh sh (by omega) b4
  refine xv_Met.of (by decide +kernel) (Nat.le_of_ble_eq_true rfl) (List.forall_mem_cons.mpr ⟨rfl, List.forall_mem_cons.mpr ⟨rfl, List.forall_mem_cons.mpr ⟨rfl, List.forall_mem_cons.mpr ⟨rfl, List.forall_mem_cons.mpr ⟨rfl, List.forall_mem_cons.mpr ⟨rfl, fun _ h => nomatch h⟩⟩⟩⟩⟩⟩) ?_
  show xv_W mL_isStory 11 400 3200 _ 400 3200 (sx n c) I (rx c) J 0 [some (.ref 0), some (.ref 63), some (.ref 69), some (.int (nI 2)), some (.int (nI one)), some (.int (nI two)), none, none, none, none, none, none] []
  refine xv_il3 fL_isStory_0 ?_
  refine xv_if_ne fL_isStory_1 (fun h_1 => ?_) (fun h_1 => ?_)
  · refine xv_il4 fL_isStory_205 ?_
    refine xv_al2 fL_isStory_207 ?_
    refine xv_k fL_isStory_208 ?_
    refine xv_ialdN fL_isStory_209 (sx_69 _ _) (⟨by omega, by decide⟩) ?_
    rw [e691]
    refine xv_k fL_isStory_210 ?_
    refine xv_iadd fL_isStory_211 ?_
    refine xv_eqi (y := nI (c.2 + 1)) (nI_add _ _) ?_
    refine xv_irem fL_isStory_212 (nI_ne0 (by omega) (by omega)) ?_
    refine xv_eqi (y := nI a) (by rw [nI_rem h1 (by omega), ea]) ?_
    refine xv_is6 fL_isStory_213 ?_
    refine xv_il6 fL_isStory_215 ?_
    refine xv_al2 fL_isStory_217 ?_
    refine xv_k fL_isStory_218 ?_
    refine xv_ialdN fL_isStory_219 (sx_69 _ _) (⟨by omega, by decide⟩) ?_
    rw [e691]
    refine xv_ic_ge fL_isStory_220 (fun h_220 => ?_) (fun h_220 => ?_)
    · exact absurd ((nI_leI (by omega) (by omega)).mp h_220) (by omega)
    · refine xv_al1 fL_isStory_223 ?_
      refine xv_il6 fL_isStory_224 ?_
      refine xv_ialdN fL_isStory_226 (sx_63 _ _) (⟨by omega, by decide⟩) ?_
      rw [b5]
      refine xv_k fL_isStory_227 ?_
      refine xv_idiv fL_isStory_229 (by decide) ?_
      refine xv_eqi (y := nI ((sec + 10 * sh + 1000 * d) / 10)) (nI_div (by omega) (by decide)) ?_
      refine xv_k fL_isStory_230 ?_
      refine xv_irem fL_isStory_232 (by decide) ?_
      refine xv_eqi (y := nI sh) (by rw [nI_rem (by omega) (by decide)]; congr 1; omega) ?_
      refine xv_if_le fL_isStory_233 (fun h_233 => ?_) (fun h_233 => ?_)
      · refine xv_k fL_isStory_240 ?_
        refine xv_is7 fL_isStory_241 ?_
        refine xv_il3 fL_isStory_243 ?_
        refine xv_k fL_isStory_244 ?_
        refine xv_ic_ne fL_isStory_245 (fun h_245 => ?_) (fun h_245 => ?_)
        · refine xv_il3 fL_isStory_357 ?_
          refine xv_k fL_isStory_358 ?_
          refine xv_ic_ne fL_isStory_359 (fun h_359 => ?_) (fun h_359 => ?_)
          · exact absurd h_359 (by decide)
          · refine xv_al0 fL_isStory_362 ?_
            refine xv_k fL_isStory_363 ?_
            refine xv_il6 fL_isStory_365 ?_
            refine xv_k fL_isStory_367 ?_
            refine xv_k fL_isStory_368 ?_
            refine xv_k fL_isStory_369 ?_
            refine xv_k fL_isStory_370 ?_
            refine xv_callS7R (w_lift_S n c c J (p_lift_b n c I J hac (by omega) (by rw [b4, hsh]; decide))) fL_isStory_371 YL_does VL_does lL_113 rfl (Nat.le_of_ble_eq_true rfl) (by decide) (by decide) (by decide) ?_
            refine xv_is8 fL_isStory_374 ?_
            refine xv_il7 fL_isStory_376 ?_
            refine xv_if_eq fL_isStory_378 (fun h_378 => ?_) (fun h_378 => ?_)
            · refine xv_k fL_isStory_394 ?_
              refine xv_is9 fL_isStory_395 ?_
              refine xv_al1 fL_isStory_397 ?_
              refine xv_il6 fL_isStory_398 ?_
              refine xv_al2 fL_isStory_400 ?_
              refine xv_k fL_isStory_401 ?_
              refine xv_ialdN fL_isStory_402 (sx_69 _ _) (⟨by omega, by decide⟩) ?_
              rw [e691]
              refine xv_ic_ge fL_isStory_403 (fun h_403 => ?_) (fun h_403 => ?_)
              · exact absurd ((nI_leI (by omega) (by omega)).mp h_403) (by omega)
              · refine xv_il6 fL_isStory_406 ?_
                refine xv_goto fL_isStory_408 ?_
                refine xv_dup2 fL_isStory_412 ?_
                refine xv_ialdN fL_isStory_413 (sx_63 _ _) (⟨by omega, by decide⟩) ?_
                refine xv_il6 fL_isStory_414 ?_
                refine xv_al2 fL_isStory_416 ?_
                refine xv_k fL_isStory_417 ?_
                refine xv_ialdN fL_isStory_418 (sx_69 _ _) (⟨by omega, by decide⟩) ?_
                rw [e691]
                refine xv_ic_ge fL_isStory_419 (fun h_419 => ?_) (fun h_419 => ?_)
                · exact absurd ((nI_leI (by omega) (by omega)).mp h_419) (by omega)
                · refine xv_k fL_isStory_422 ?_
                  refine xv_il9 fL_isStory_424 ?_
                  refine xv_imul fL_isStory_426 ?_
                  refine xv_eqi (y := nI 0) (nI_mul 10 0) ?_
                  refine xv_goto fL_isStory_427 ?_
                  refine xv_isub fL_isStory_431 ?_
                  refine xv_eqi (y := I 63 a) (by show I 63 a - 0 = I 63 a; exact Int32.sub_zero _) ?_
                  refine xv_iastN fL_isStory_432 (sx_63 _ _) (⟨by omega, by decide⟩) ?_
                  rw [xv_u_id]
                  refine xv_il8 fL_isStory_433 ?_
                  refine xv_il6 fL_isStory_435 ?_
                  refine xv_al2 fL_isStory_437 ?_
                  refine xv_k fL_isStory_438 ?_
                  refine xv_ialdN fL_isStory_439 (sx_69 _ _) (⟨by omega, by decide⟩) ?_
                  rw [e691]
                  refine xv_ic_ne fL_isStory_440 (fun h_440 => ?_) (fun h_440 => ?_)
                  · refine xv_il7 fL_isStory_449 ?_
                    refine xv_if_eq fL_isStory_451 (fun h_451 => ?_) (fun h_451 => ?_)
                    · refine xv_k fL_isStory_459 ?_
                      refine xv_ic_ne fL_isStory_462 (fun h_462 => ?_) (fun h_462 => ?_)
                      · exact absurd rfl h_462
                      · refine xv_k fL_isStory_465 ?_
                        refine xv_goto fL_isStory_466 ?_
                        exact xv_iret fL_isStory_470 rfl rfl ⟨rfl, c, rfl, rfl, rfl, hI⟩
                    · exact absurd h_451 (by decide)
                  · exact absurd ((nI_eq (by omega) (by omega)).mp h_440) (by omega)
            · exact absurd h_378 (by decide)
        · exact absurd h_245 (by decide)
      · exact absurd (by rw [hsh]; decide) h_233
  · exact absurd h_1 (by decide)
theorem s_lift_ok (n : Nat) (c : Nat × Nat) (I : xv_I) (J : xv_J) {one two : Nat} (h1 : one < 2 ^ 31) (h2 : two < 2 ^ 31) (hn : n < 1000) (hI : Inv c I) {a : Nat} (ea : one % (c.2 + 1) = a) (hac : a < c.2) (hsh : ∀ sh, sh ≤ 6 → I (201 + 5 * a) 0 = nI sh → 0 < sh) : xv_Met mL_isStory 11 400 3200 (sx n c) I (rx c) J [.ref 0, .ref 63, .ref 69, .int (nI 2), .int (nI one), .int (nI two)] (qM n J) := by
  have hn8 := hI.st.2.2.1
  have e691 := hI.st.2.1
  have ha : a < c.2 + 1 := by rw [← ea]; exact Nat.mod_lt _ (by omega)
  obtain ⟨sec, d, np, lo, sh, a1, a2, a3, a4, a5, a6, a7, a8, a9, b1, b2, b3, b4, b5, b6⟩ := hI.st.2.2.2 a hac
  have hsh := hsh sh (by omega) b4
  obtain ⟨I1, hI1⟩ : ∃ I1, I1 = xClear (201 + 5 * a) (xFree (nI (200 + a)) I) := ⟨_, rfl⟩
  have hO : ∀ v j, 15 < v → (v < 201 + 5 * a ∨ 204 + 5 * a < v) → I1 v j = I v j := fun v j g1 g2 => by
    rw [hI1, xClear_o _ _ (by omega), xFree_o _ _ g1]
  have hM : Mid c (xv_u I1 63 a (nI (sec + 1000 * d))) := by
    rw [hI1]
    refine Mid.lift hI hac (fun sec9 d9 sh9 q1 q2 q3 q4 => ?_)
    have := (nI_eq (by omega) (by omega)).mp (b5.symm.trans q4)
    omega
  have k63 : I1 63 a = nI (sec + 10 * sh + 1000 * d) := (hO _ _ (by omega) (by omega)).trans b5
  have k69 : I1 69 1 = nI c.2 := (hO _ _ (by omega) (by omega)).trans e691
  refine xv_Met.of (by decide +kernel) (Nat.le_of_ble_eq_true rfl) (List.forall_mem_cons.mpr ⟨rfl, List.forall_mem_cons.mpr ⟨rfl, List.forall_mem_cons.mpr ⟨rfl, List.forall_mem_cons.mpr ⟨rfl, List.forall_mem_cons.mpr ⟨rfl, List.forall_mem_cons.mpr ⟨rfl, fun _ h => nomatch h⟩⟩⟩⟩⟩⟩) ?_
  show xv_W mL_isStory 11 400 3200 _ 400 3200 (sx n c) I (rx c) J 0 [some (.ref 0), some (.ref 63), some (.ref 69), some (.int (nI 2)), some (.int (nI one)), some (.int (nI two)), none, none, none, none, none, none] []
  refine xv_il3 fL_isStory_0 ?_
  refine xv_if_ne fL_isStory_1 (fun h_1 => ?_) (fun h_1 => ?_)
  · refine xv_il4 fL_isStory_205 ?_
    refine xv_al2 fL_isStory_207 ?_
    refine xv_k fL_isStory_208 ?_
    refine xv_ialdN fL_isStory_209 (sx_69 _ _) (⟨by omega, by decide⟩) ?_
    rw [e691]
    refine xv_k fL_isStory_210 ?_
    refine xv_iadd fL_isStory_211 ?_
    refine xv_eqi (y := nI (c.2 + 1)) (nI_add _ _) ?_
    refine xv_irem fL_isStory_212 (nI_ne0 (by omega) (by omega)) ?_
    refine xv_eqi (y := nI a) (by rw [nI_rem h1 (by omega), ea]) ?_
    refine xv_is6 fL_isStory_213 ?_
    refine xv_il6 fL_isStory_215 ?_
    refine xv_al2 fL_isStory_217 ?_
    refine xv_k fL_isStory_218 ?_
    refine xv_ialdN fL_isStory_219 (sx_69 _ _) (⟨by omega, by decide⟩) ?_
    rw [e691]
    refine xv_ic_ge fL_isStory_220 (fun h_220 => ?_) (fun h_220 => ?_)
    · exact absurd ((nI_leI (by omega) (by omega)).mp h_220) (by omega)
    · refine xv_al1 fL_isStory_223 ?_
      refine xv_il6 fL_isStory_224 ?_
      refine xv_ialdN fL_isStory_226 (sx_63 _ _) (⟨by omega, by decide⟩) ?_
      rw [b5]
      refine xv_k fL_isStory_227 ?_
      refine xv_idiv fL_isStory_229 (by decide) ?_
      refine xv_eqi (y := nI ((sec + 10 * sh + 1000 * d) / 10)) (nI_div (by omega) (by decide)) ?_
      refine xv_k fL_isStory_230 ?_
      refine xv_irem fL_isStory_232 (by decide) ?_
      refine xv_eqi (y := nI sh) (by rw [nI_rem (by omega) (by decide)]; congr 1; omega) ?_
      refine xv_if_le fL_isStory_233 (fun h_233 => ?_) (fun h_233 => ?_)
      · exact absurd h_233 (nI_nle hsh (by omega))
      · refine xv_k fL_isStory_236 ?_
        refine xv_goto fL_isStory_237 ?_
        refine xv_is7 fL_isStory_241 ?_
        refine xv_il3 fL_isStory_243 ?_
        refine xv_k fL_isStory_244 ?_
        refine xv_ic_ne fL_isStory_245 (fun h_245 => ?_) (fun h_245 => ?_)
        · refine xv_il3 fL_isStory_357 ?_
          refine xv_k fL_isStory_358 ?_
          refine xv_ic_ne fL_isStory_359 (fun h_359 => ?_) (fun h_359 => ?_)
          · exact absurd h_359 (by decide)
          · refine xv_al0 fL_isStory_362 ?_
            refine xv_k fL_isStory_363 ?_
            refine xv_il6 fL_isStory_365 ?_
            refine xv_k fL_isStory_367 ?_
            refine xv_k fL_isStory_368 ?_
            refine xv_k fL_isStory_369 ?_
            refine xv_k fL_isStory_370 ?_
            refine xv_callS7R (w_lift_ok n c c J (I' := I1) (by rw [hI1]; exact p_lift_ok n c I J hac (by omega) (by rw [b4]; exact nI_nle hsh (by omega)))) fL_isStory_371 YL_does VL_does lL_113 rfl (Nat.le_of_ble_eq_true rfl) (by decide) (by decide) (by decide) ?_
            rw [b4]
            refine xv_is8 fL_isStory_374 ?_
            refine xv_il7 fL_isStory_376 ?_
            refine xv_if_eq fL_isStory_378 (fun h_378 => ?_) (fun h_378 => ?_)
            · exact absurd h_378 (by decide)
            · refine xv_al1 fL_isStory_381 ?_
              refine xv_il6 fL_isStory_382 ?_
              refine xv_ialdN fL_isStory_384 (sx_63 _ _) (⟨by omega, by decide⟩) ?_
              rw [k63]
              refine xv_k fL_isStory_385 ?_
              refine xv_idiv fL_isStory_387 (by decide) ?_
              refine xv_eqi (y := nI ((sec + 10 * sh + 1000 * d) / 10)) (nI_div (by omega) (by decide)) ?_
              refine xv_k fL_isStory_388 ?_
              refine xv_irem fL_isStory_390 (by decide) ?_
              refine xv_eqi (y := nI sh) (by rw [nI_rem (by omega) (by decide)]; congr 1; omega) ?_
              refine xv_goto fL_isStory_391 ?_
              refine xv_is9 fL_isStory_395 ?_
              refine xv_al1 fL_isStory_397 ?_
              refine xv_il6 fL_isStory_398 ?_
              refine xv_al2 fL_isStory_400 ?_
              refine xv_k fL_isStory_401 ?_
              refine xv_ialdN fL_isStory_402 (sx_69 _ _) (⟨by omega, by decide⟩) ?_
              rw [k69]
              refine xv_ic_ge fL_isStory_403 (fun h_403 => ?_) (fun h_403 => ?_)
              · exact absurd ((nI_leI (by omega) (by omega)).mp h_403) (by omega)
              · refine xv_il6 fL_isStory_406 ?_
                refine xv_goto fL_isStory_408 ?_
                refine xv_dup2 fL_isStory_412 ?_
                refine xv_ialdN fL_isStory_413 (sx_63 _ _) (⟨by omega, by decide⟩) ?_
                rw [k63]
                refine xv_il6 fL_isStory_414 ?_
                refine xv_al2 fL_isStory_416 ?_
                refine xv_k fL_isStory_417 ?_
                refine xv_ialdN fL_isStory_418 (sx_69 _ _) (⟨by omega, by decide⟩) ?_
                rw [k69]
                refine xv_ic_ge fL_isStory_419 (fun h_419 => ?_) (fun h_419 => ?_)
                · exact absurd ((nI_leI (by omega) (by omega)).mp h_419) (by omega)
                · refine xv_k fL_isStory_422 ?_
                  refine xv_il9 fL_isStory_424 ?_
                  refine xv_imul fL_isStory_426 ?_
                  refine xv_eqi (y := nI (10 * sh)) (nI_mul _ _) ?_
                  refine xv_goto fL_isStory_427 ?_
                  refine xv_isub fL_isStory_431 ?_
                  refine xv_eqi (y := nI (sec + 1000 * d)) (by rw [nI_sub (by omega)]; congr 1; omega) ?_
                  refine xv_iastN fL_isStory_432 (sx_63 _ _) (⟨by omega, by decide⟩) ?_
                  refine xv_il8 fL_isStory_433 ?_
                  refine xv_il6 fL_isStory_435 ?_
                  refine xv_al2 fL_isStory_437 ?_
                  refine xv_k fL_isStory_438 ?_
                  refine xv_ialdN fL_isStory_439 (sx_69 _ _) (⟨by omega, by decide⟩) ?_
                  rw [xv_u_ne _ _ _ (by decide), k69]
                  refine xv_ic_ne fL_isStory_440 (fun h_440 => ?_) (fun h_440 => ?_)
                  · refine xv_il7 fL_isStory_449 ?_
                    refine xv_if_eq fL_isStory_451 (fun h_451 => ?_) (fun h_451 => ?_)
                    · exact absurd h_451 (by decide)
                    · refine xv_il9 fL_isStory_454 ?_
                      refine xv_goto fL_isStory_456 ?_
                      refine xv_ic_ne fL_isStory_462 (fun h_462 => ?_) (fun h_462 => ?_)
                      · exact absurd rfl h_462
                      · refine xv_k fL_isStory_465 ?_
                        refine xv_goto fL_isStory_466 ?_
                        exact xv_iret fL_isStory_470 rfl rfl ⟨rfl, c, rfl, rfl, rfl, hM⟩
                  · exact absurd ((nI_eq (by omega) (by omega)).mp h_440) (by omega)
        · exact absurd h_245 (by decide)
  · exact absurd h_1 (by decide)
theorem s_ch_a1 (n : Nat) (c : Nat × Nat) (I : xv_I) (J : xv_J) {one two : Nat} (h1 : one < 2 ^ 31) (h2 : two < 2 ^ 31) (hn : n < 1000) (hI : Inv c I) {a : Nat} (ea : one % (c.2 + 1) = a) {b : Nat} (eb : two % (c.2 + 1) = b) (hac : a = c.2) (hbc : b = c.2) : xv_Met mL_isStory 11 400 3200 (sx n c) I (rx c) J [.ref 0, .ref 63, .ref 69, .int (nI 3), .int (nI one), .int (nI two)] (qI n J) := by
  have hn8 := hI.st.2.2.1
  have e691 := hI.st.2.1
  have ha : a < c.2 + 1 := by rw [← ea]; exact Nat.mod_lt _ (by omega)
  have hb : b < c.2 + 1 := by rw [← eb]; exact Nat.mod_lt _ (by omega)
  refine xv_Met.of (by decide +kernel) (Nat.le_of_ble_eq_true rfl) (List.forall_mem_cons.mpr ⟨rfl, List.forall_mem_cons.mpr ⟨rfl, List.forall_mem_cons.mpr ⟨rfl, List.forall_mem_cons.mpr ⟨rfl, List.forall_mem_cons.mpr ⟨rfl, List.forall_mem_cons.mpr ⟨rfl, fun _ h => nomatch h⟩⟩⟩⟩⟩⟩) ?_
  show xv_W mL_isStory 11 400 3200 _ 400 3200 (sx n c) I (rx c) J 0 [some (.ref 0), some (.ref 63), some (.ref 69), some (.int (nI 3)), some (.int (nI one)), some (.int (nI two)), none, none, none, none, none, none] []
  refine xv_il3 fL_isStory_0 ?_
  refine xv_if_ne fL_isStory_1 (fun h_1 => ?_) (fun h_1 => ?_)
  · refine xv_il4 fL_isStory_205 ?_
    refine xv_al2 fL_isStory_207 ?_
    refine xv_k fL_isStory_208 ?_
    refine xv_ialdN fL_isStory_209 (sx_69 _ _) (⟨by omega, by decide⟩) ?_
    rw [e691]
    refine xv_k fL_isStory_210 ?_
    refine xv_iadd fL_isStory_211 ?_
    refine xv_eqi (y := nI (c.2 + 1)) (nI_add _ _) ?_
    refine xv_irem fL_isStory_212 (nI_ne0 (by omega) (by omega)) ?_
    refine xv_eqi (y := nI a) (by rw [nI_rem h1 (by omega), ea]) ?_
    refine xv_is6 fL_isStory_213 ?_
    refine xv_il6 fL_isStory_215 ?_
    refine xv_al2 fL_isStory_217 ?_
    refine xv_k fL_isStory_218 ?_
    refine xv_ialdN fL_isStory_219 (sx_69 _ _) (⟨by omega, by decide⟩) ?_
    rw [e691]
    refine xv_ic_ge fL_isStory_220 (fun h_220 => ?_) (fun h_220 => ?_)
    · refine xv_k fL_isStory_240 ?_
      refine xv_is7 fL_isStory_241 ?_
      refine xv_il3 fL_isStory_243 ?_
      refine xv_k fL_isStory_244 ?_
      refine xv_ic_ne fL_isStory_245 (fun h_245 => ?_) (fun h_245 => ?_)
      · refine xv_il3 fL_isStory_357 ?_
        refine xv_k fL_isStory_358 ?_
        refine xv_ic_ne fL_isStory_359 (fun h_359 => ?_) (fun h_359 => ?_)
        · refine xv_il5 fL_isStory_471 ?_
          refine xv_al2 fL_isStory_473 ?_
          refine xv_k fL_isStory_474 ?_
          refine xv_ialdN fL_isStory_475 (sx_69 _ _) (⟨by omega, by decide⟩) ?_
          rw [e691]
          refine xv_k fL_isStory_476 ?_
          refine xv_iadd fL_isStory_477 ?_
          refine xv_eqi (y := nI (c.2 + 1)) (nI_add _ _) ?_
          refine xv_irem fL_isStory_478 (nI_ne0 (by omega) (by omega)) ?_
          refine xv_eqi (y := nI b) (by rw [nI_rem h2 (by omega), eb]) ?_
          refine xv_is8 fL_isStory_479 ?_
          refine xv_il8 fL_isStory_481 ?_
          refine xv_al2 fL_isStory_483 ?_
          refine xv_k fL_isStory_484 ?_
          refine xv_ialdN fL_isStory_485 (sx_69 _ _) (⟨by omega, by decide⟩) ?_
          rw [e691]
          refine xv_ic_ge fL_isStory_486 (fun h_486 => ?_) (fun h_486 => ?_)
          · refine xv_k fL_isStory_506 ?_
            refine xv_is9 fL_isStory_507 ?_
            refine xv_al0 fL_isStory_509 ?_
            refine xv_k fL_isStory_510 ?_
            refine xv_il6 fL_isStory_512 ?_
            refine xv_il8 fL_isStory_514 ?_
            refine xv_k fL_isStory_516 ?_
            refine xv_k fL_isStory_517 ?_
            refine xv_k fL_isStory_518 ?_
            refine xv_callS7R (w_change_I n c c J (p_change_a n c I J (x := nI a) (fun k z hk => by have := (nI_eq (by omega) (by omega)).mp z; omega) (y := nI b))) fL_isStory_519 YL_does VL_does lL_113 rfl (Nat.le_of_ble_eq_true rfl) (by decide) (by decide) (by decide) ?_
            refine xv_is10 fL_isStory_522 ?_
            refine xv_il6 fL_isStory_524 ?_
            refine xv_al2 fL_isStory_526 ?_
            refine xv_k fL_isStory_527 ?_
            refine xv_ialdN fL_isStory_528 (sx_69 _ _) (⟨by omega, by decide⟩) ?_
            rw [e691]
            refine xv_ic_eq fL_isStory_529 (fun h_529 => ?_) (fun h_529 => ?_)
            · refine xv_il10 fL_isStory_550 ?_
              refine xv_il6 fL_isStory_552 ?_
              refine xv_al2 fL_isStory_554 ?_
              refine xv_k fL_isStory_555 ?_
              refine xv_ialdN fL_isStory_556 (sx_69 _ _) (⟨by omega, by decide⟩) ?_
              rw [e691]
              refine xv_ic_eq fL_isStory_557 (fun h_557 => ?_) (fun h_557 => ?_)
              · refine xv_k fL_isStory_568 ?_
                refine xv_goto fL_isStory_571 ?_
                refine xv_ic_ne fL_isStory_577 (fun h_577 => ?_) (fun h_577 => ?_)
                · exact absurd rfl h_577
                · refine xv_k fL_isStory_580 ?_
                  refine xv_goto fL_isStory_581 ?_
                  exact xv_iret fL_isStory_585 rfl rfl ⟨rfl, c, rfl, rfl, rfl, hI⟩
              · exact absurd ((nI_eq (by omega) (by omega)).mpr (by omega)) h_557
            · exact absurd ((nI_eq (by omega) (by omega)).mpr (by omega)) h_529
          · exact absurd ((nI_leI (by omega) (by omega)).mpr (by omega)) h_486
        · exact absurd h_359 (by decide)
      · exact absurd h_245 (by decide)
    · exact absurd ((nI_leI (by omega) (by omega)).mpr (by omega)) h_220
  · exact absurd h_1 (by decide)
theorem s_ch_a2 (n : Nat) (c : Nat × Nat) (I : xv_I) (J : xv_J) {one two : Nat} (h1 : one < 2 ^ 31) (h2 : two < 2 ^ 31) (hn : n < 1000) (hI : Inv c I) {a : Nat} (ea : one % (c.2 + 1) = a) {b : Nat} (eb : two % (c.2 + 1) = b) (hac : a = c.2) (hbc : b < c.2) : xv_Met mL_isStory 11 400 3200 (sx n c) I (rx c) J [.ref 0, .ref 63, .ref 69, .int (nI 3), .int (nI one), .int (nI two)] (qI n J) := by
  have hn8 := hI.st.2.2.1
  have e691 := hI.st.2.1
  have ha : a < c.2 + 1 := by rw [← ea]; exact Nat.mod_lt _ (by omega)
  have hb : b < c.2 + 1 := by rw [← eb]; exact Nat.mod_lt _ (by omega)
  obtain ⟨sec, d, np, lo, sh, a1, a2, a3, a4, a5, a6, a7, a8, a9, b1, b2, b3, b4, b5, b6⟩ := hI.st.2.2.2 b hbc
  refine xv_Met.of (by decide +kernel) (Nat.le_of_ble_eq_true rfl) (List.forall_mem_cons.mpr ⟨rfl, List.forall_mem_cons.mpr ⟨rfl, List.forall_mem_cons.mpr ⟨rfl, List.forall_mem_cons.mpr ⟨rfl, List.forall_mem_cons.mpr ⟨rfl, List.forall_mem_cons.mpr ⟨rfl, fun _ h => nomatch h⟩⟩⟩⟩⟩⟩) ?_
  show xv_W mL_isStory 11 400 3200 _ 400 3200 (sx n c) I (rx c) J 0 [some (.ref 0), some (.ref 63), some (.ref 69), some (.int (nI 3)), some (.int (nI one)), some (.int (nI two)), none, none, none, none, none, none] []
  refine xv_il3 fL_isStory_0 ?_
  refine xv_if_ne fL_isStory_1 (fun h_1 => ?_) (fun h_1 => ?_)
  · refine xv_il4 fL_isStory_205 ?_
    refine xv_al2 fL_isStory_207 ?_
    refine xv_k fL_isStory_208 ?_
    refine xv_ialdN fL_isStory_209 (sx_69 _ _) (⟨by omega, by decide⟩) ?_
    rw [e691]
    refine xv_k fL_isStory_210 ?_
    refine xv_iadd fL_isStory_211 ?_
    refine xv_eqi (y := nI (c.2 + 1)) (nI_add _ _) ?_
    refine xv_irem fL_isStory_212 (nI_ne0 (by omega) (by omega)) ?_
    refine xv_eqi (y := nI a) (by rw [nI_rem h1 (by omega), ea]) ?_
    refine xv_is6 fL_isStory_213 ?_
    refine xv_il6 fL_isStory_215 ?_
    refine xv_al2 fL_isStory_217 ?_
    refine xv_k fL_isStory_218 ?_
    refine xv_ialdN fL_isStory_219 (sx_69 _ _) (⟨by omega, by decide⟩) ?_
    rw [e691]
    refine xv_ic_ge fL_isStory_220 (fun h_220 => ?_) (fun h_220 => ?_)
    · refine xv_k fL_isStory_240 ?_
      refine xv_is7 fL_isStory_241 ?_
      refine xv_il3 fL_isStory_243 ?_
      refine xv_k fL_isStory_244 ?_
      refine xv_ic_ne fL_isStory_245 (fun h_245 => ?_) (fun h_245 => ?_)
      · refine xv_il3 fL_isStory_357 ?_
        refine xv_k fL_isStory_358 ?_
        refine xv_ic_ne fL_isStory_359 (fun h_359 => ?_) (fun h_359 => ?_)
        · refine xv_il5 fL_isStory_471 ?_
          refine xv_al2 fL_isStory_473 ?_
          refine xv_k fL_isStory_474 ?_
          refine xv_ialdN fL_isStory_475 (sx_69 _ _) (⟨by omega, by decide⟩) ?_
          rw [e691]
          refine xv_k fL_isStory_476 ?_
          refine xv_iadd fL_isStory_477 ?_
          refine xv_eqi (y := nI (c.2 + 1)) (nI_add _ _) ?_
          refine xv_irem fL_isStory_478 (nI_ne0 (by omega) (by omega)) ?_
          refine xv_eqi (y := nI b) (by rw [nI_rem h2 (by omega), eb]) ?_
          refine xv_is8 fL_isStory_479 ?_
          refine xv_il8 fL_isStory_481 ?_
          refine xv_al2 fL_isStory_483 ?_
          refine xv_k fL_isStory_484 ?_
          refine xv_ialdN fL_isStory_485 (sx_69 _ _) (⟨by omega, by decide⟩) ?_
          rw [e691]
          refine xv_ic_ge fL_isStory_486 (fun h_486 => ?_) (fun h_486 => ?_)
          · exact absurd ((nI_leI (by omega) (by omega)).mp h_486) (by omega)
          · refine xv_al1 fL_isStory_489 ?_
            refine xv_il8 fL_isStory_490 ?_
            refine xv_ialdN fL_isStory_492 (sx_63 _ _) (⟨by omega, by decide⟩) ?_
            rw [b5]
            refine xv_k fL_isStory_493 ?_
            refine xv_idiv fL_isStory_495 (by decide) ?_
            refine xv_eqi (y := nI ((sec + 10 * sh + 1000 * d) / 10)) (nI_div (by omega) (by decide)) ?_
            refine xv_k fL_isStory_496 ?_
            refine xv_irem fL_isStory_498 (by decide) ?_
            refine xv_eqi (y := nI sh) (by rw [nI_rem (by omega) (by decide)]; congr 1; omega) ?_
            refine xv_if_le fL_isStory_499 (fun h_499 => ?_) (fun h_499 => ?_)
            · refine xv_k fL_isStory_506 ?_
              refine xv_is9 fL_isStory_507 ?_
              refine xv_al0 fL_isStory_509 ?_
              refine xv_k fL_isStory_510 ?_
              refine xv_il6 fL_isStory_512 ?_
              refine xv_il8 fL_isStory_514 ?_
              refine xv_k fL_isStory_516 ?_
              refine xv_k fL_isStory_517 ?_
              refine xv_k fL_isStory_518 ?_
              refine xv_callS7R (w_change_I n c c J (p_change_a n c I J (x := nI a) (fun k z hk => by have := (nI_eq (by omega) (by omega)).mp z; omega) (y := nI b))) fL_isStory_519 YL_does VL_does lL_113 rfl (Nat.le_of_ble_eq_true rfl) (by decide) (by decide) (by decide) ?_
              refine xv_is10 fL_isStory_522 ?_
              refine xv_il6 fL_isStory_524 ?_
              refine xv_al2 fL_isStory_526 ?_
              refine xv_k fL_isStory_527 ?_
              refine xv_ialdN fL_isStory_528 (sx_69 _ _) (⟨by omega, by decide⟩) ?_
              rw [e691]
              refine xv_ic_eq fL_isStory_529 (fun h_529 => ?_) (fun h_529 => ?_)
              · refine xv_il10 fL_isStory_550 ?_
                refine xv_il6 fL_isStory_552 ?_
                refine xv_al2 fL_isStory_554 ?_
                refine xv_k fL_isStory_555 ?_
                refine xv_ialdN fL_isStory_556 (sx_69 _ _) (⟨by omega, by decide⟩) ?_
                rw [e691]
                refine xv_ic_eq fL_isStory_557 (fun h_557 => ?_) (fun h_557 => ?_)
                · refine xv_k fL_isStory_568 ?_
                  refine xv_goto fL_isStory_571 ?_
                  refine xv_ic_ne fL_isStory_577 (fun h_577 => ?_) (fun h_577 => ?_)
                  · exact absurd rfl h_577
                  · refine xv_k fL_isStory_580 ?_
                    refine xv_goto fL_isStory_581 ?_
                    exact xv_iret fL_isStory_585 rfl rfl ⟨rfl, c, rfl, rfl, rfl, hI⟩
                · exact absurd ((nI_eq (by omega) (by omega)).mpr (by omega)) h_557
              · exact absurd ((nI_eq (by omega) (by omega)).mpr (by omega)) h_529
            · refine xv_k fL_isStory_502 ?_
              refine xv_goto fL_isStory_503 ?_
              refine xv_is9 fL_isStory_507 ?_
              refine xv_al0 fL_isStory_509 ?_
              refine xv_k fL_isStory_510 ?_
              refine xv_il6 fL_isStory_512 ?_
              refine xv_il8 fL_isStory_514 ?_
              refine xv_k fL_isStory_516 ?_
              refine xv_k fL_isStory_517 ?_
              refine xv_k fL_isStory_518 ?_
              refine xv_callS7R (w_change_I n c c J (p_change_a n c I J (x := nI a) (fun k z hk => by have := (nI_eq (by omega) (by omega)).mp z; omega) (y := nI b))) fL_isStory_519 YL_does VL_does lL_113 rfl (Nat.le_of_ble_eq_true rfl) (by decide) (by decide) (by decide) ?_
              refine xv_is10 fL_isStory_522 ?_
              refine xv_il6 fL_isStory_524 ?_
              refine xv_al2 fL_isStory_526 ?_
              refine xv_k fL_isStory_527 ?_
              refine xv_ialdN fL_isStory_528 (sx_69 _ _) (⟨by omega, by decide⟩) ?_
              rw [e691]
              refine xv_ic_eq fL_isStory_529 (fun h_529 => ?_) (fun h_529 => ?_)
              · refine xv_il10 fL_isStory_550 ?_
                refine xv_il6 fL_isStory_552 ?_
                refine xv_al2 fL_isStory_554 ?_
                refine xv_k fL_isStory_555 ?_
                refine xv_ialdN fL_isStory_556 (sx_69 _ _) (⟨by omega, by decide⟩) ?_
                rw [e691]
                refine xv_ic_eq fL_isStory_557 (fun h_557 => ?_) (fun h_557 => ?_)
                · refine xv_k fL_isStory_568 ?_
                  refine xv_goto fL_isStory_571 ?_
                  refine xv_ic_ne fL_isStory_577 (fun h_577 => ?_) (fun h_577 => ?_)
                  · exact absurd rfl h_577
                  · refine xv_k fL_isStory_580 ?_
                    refine xv_goto fL_isStory_581 ?_
                    exact xv_iret fL_isStory_585 rfl rfl ⟨rfl, c, rfl, rfl, rfl, hI⟩
                · exact absurd ((nI_eq (by omega) (by omega)).mpr (by omega)) h_557
              · exact absurd ((nI_eq (by omega) (by omega)).mpr (by omega)) h_529
        · exact absurd h_359 (by decide)
      · exact absurd h_245 (by decide)
    · exact absurd ((nI_leI (by omega) (by omega)).mpr (by omega)) h_220
  · exact absurd h_1 (by decide)
theorem s_ch_b (n : Nat) (c : Nat × Nat) (I : xv_I) (J : xv_J) {one two : Nat} (h1 : one < 2 ^ 31) (h2 : two < 2 ^ 31) (hn : n < 1000) (hI : Inv c I) {a : Nat} (ea : one % (c.2 + 1) = a) {b : Nat} (eb : two % (c.2 + 1) = b) (hac : a < c.2) (hbc : b = c.2) : xv_Met mL_isStory 11 400 3200 (sx n c) I (rx c) J [.ref 0, .ref 63, .ref 69, .int (nI 3), .int (nI one), .int (nI two)] (qI n J) := by
  have hn8 := hI.st.2.2.1
  have e691 := hI.st.2.1
  have ha : a < c.2 + 1 := by rw [← ea]; exact Nat.mod_lt _ (by omega)
  have hb : b < c.2 + 1 := by rw [← eb]; exact Nat.mod_lt _ (by omega)
  obtain ⟨sec8, d8, np8, lo8, sh8, v1, v2, v3, v4, v5, v6, v7, v8, v9, w1, w2, w3, w4, w5, w6⟩ := hI.st.2.2.2 a hac
  refine xv_Met.of (by decide +kernel) (Nat.le_of_ble_eq_true rfl) (List.forall_mem_cons.mpr ⟨rfl, List.forall_mem_cons.mpr ⟨rfl, List.forall_mem_cons.mpr ⟨rfl, List.forall_mem_cons.mpr ⟨rfl, List.forall_mem_cons.mpr ⟨rfl, List.forall_mem_cons.mpr ⟨rfl, fun _ h => nomatch h⟩⟩⟩⟩⟩⟩) ?_
  show xv_W mL_isStory 11 400 3200 _ 400 3200 (sx n c) I (rx c) J 0 [some (.ref 0), some (.ref 63), some (.ref 69), some (.int (nI 3)), some (.int (nI one)), some (.int (nI two)), none, none, none, none, none, none] []
  refine xv_il3 fL_isStory_0 ?_
  refine xv_if_ne fL_isStory_1 (fun h_1 => ?_) (fun h_1 => ?_)
  · refine xv_il4 fL_isStory_205 ?_
    refine xv_al2 fL_isStory_207 ?_
    refine xv_k fL_isStory_208 ?_
    refine xv_ialdN fL_isStory_209 (sx_69 _ _) (⟨by omega, by decide⟩) ?_
    rw [e691]
    refine xv_k fL_isStory_210 ?_
    refine xv_iadd fL_isStory_211 ?_
    refine xv_eqi (y := nI (c.2 + 1)) (nI_add _ _) ?_
    refine xv_irem fL_isStory_212 (nI_ne0 (by omega) (by omega)) ?_
    refine xv_eqi (y := nI a) (by rw [nI_rem h1 (by omega), ea]) ?_
    refine xv_is6 fL_isStory_213 ?_
    refine xv_il6 fL_isStory_215 ?_
    refine xv_al2 fL_isStory_217 ?_
    refine xv_k fL_isStory_218 ?_
    refine xv_ialdN fL_isStory_219 (sx_69 _ _) (⟨by omega, by decide⟩) ?_
    rw [e691]
    refine xv_ic_ge fL_isStory_220 (fun h_220 => ?_) (fun h_220 => ?_)
    · exact absurd ((nI_leI (by omega) (by omega)).mp h_220) (by omega)
    · refine xv_al1 fL_isStory_223 ?_
      refine xv_il6 fL_isStory_224 ?_
      refine xv_ialdN fL_isStory_226 (sx_63 _ _) (⟨by omega, by decide⟩) ?_
      rw [w5]
      refine xv_k fL_isStory_227 ?_
      refine xv_idiv fL_isStory_229 (by decide) ?_
      refine xv_eqi (y := nI ((sec8 + 10 * sh8 + 1000 * d8) / 10)) (nI_div (by omega) (by decide)) ?_
      refine xv_k fL_isStory_230 ?_
      refine xv_irem fL_isStory_232 (by decide) ?_
      refine xv_eqi (y := nI sh8) (by rw [nI_rem (by omega) (by decide)]; congr 1; omega) ?_
      refine xv_if_le fL_isStory_233 (fun h_233 => ?_) (fun h_233 => ?_)
      · refine xv_k fL_isStory_240 ?_
        refine xv_is7 fL_isStory_241 ?_
        refine xv_il3 fL_isStory_243 ?_
        refine xv_k fL_isStory_244 ?_
        refine xv_ic_ne fL_isStory_245 (fun h_245 => ?_) (fun h_245 => ?_)
        · refine xv_il3 fL_isStory_357 ?_
          refine xv_k fL_isStory_358 ?_
          refine xv_ic_ne fL_isStory_359 (fun h_359 => ?_) (fun h_359 => ?_)
          · refine xv_il5 fL_isStory_471 ?_
            refine xv_al2 fL_isStory_473 ?_
            refine xv_k fL_isStory_474 ?_
            refine xv_ialdN fL_isStory_475 (sx_69 _ _) (⟨by omega, by decide⟩) ?_
            rw [e691]
            refine xv_k fL_isStory_476 ?_
            refine xv_iadd fL_isStory_477 ?_
            refine xv_eqi (y := nI (c.2 + 1)) (nI_add _ _) ?_
            refine xv_irem fL_isStory_478 (nI_ne0 (by omega) (by omega)) ?_
            refine xv_eqi (y := nI b) (by rw [nI_rem h2 (by omega), eb]) ?_
            refine xv_is8 fL_isStory_479 ?_
            refine xv_il8 fL_isStory_481 ?_
            refine xv_al2 fL_isStory_483 ?_
            refine xv_k fL_isStory_484 ?_
            refine xv_ialdN fL_isStory_485 (sx_69 _ _) (⟨by omega, by decide⟩) ?_
            rw [e691]
            refine xv_ic_ge fL_isStory_486 (fun h_486 => ?_) (fun h_486 => ?_)
            · refine xv_k fL_isStory_506 ?_
              refine xv_is9 fL_isStory_507 ?_
              refine xv_al0 fL_isStory_509 ?_
              refine xv_k fL_isStory_510 ?_
              refine xv_il6 fL_isStory_512 ?_
              refine xv_il8 fL_isStory_514 ?_
              refine xv_k fL_isStory_516 ?_
              refine xv_k fL_isStory_517 ?_
              refine xv_k fL_isStory_518 ?_
              refine xv_callS7R (w_change_I n c c J (p_change_b n c I J hac (by omega) (x := nI b) (fun k z hk => by have := (nI_eq (by omega) (by omega)).mp z; omega))) fL_isStory_519 YL_does VL_does lL_113 rfl (Nat.le_of_ble_eq_true rfl) (by decide) (by decide) (by decide) ?_
              refine xv_is10 fL_isStory_522 ?_
              refine xv_il6 fL_isStory_524 ?_
              refine xv_al2 fL_isStory_526 ?_
              refine xv_k fL_isStory_527 ?_
              refine xv_ialdN fL_isStory_528 (sx_69 _ _) (⟨by omega, by decide⟩) ?_
              rw [e691]
              refine xv_ic_eq fL_isStory_529 (fun h_529 => ?_) (fun h_529 => ?_)
              · exact absurd ((nI_eq (by omega) (by omega)).mp h_529) (by omega)
              · refine xv_il8 fL_isStory_532 ?_
                refine xv_al2 fL_isStory_534 ?_
                refine xv_k fL_isStory_535 ?_
                refine xv_ialdN fL_isStory_536 (sx_69 _ _) (⟨by omega, by decide⟩) ?_
                rw [e691]
                refine xv_ic_eq fL_isStory_537 (fun h_537 => ?_) (fun h_537 => ?_)
                · refine xv_il10 fL_isStory_550 ?_
                  refine xv_il6 fL_isStory_552 ?_
                  refine xv_al2 fL_isStory_554 ?_
                  refine xv_k fL_isStory_555 ?_
                  refine xv_ialdN fL_isStory_556 (sx_69 _ _) (⟨by omega, by decide⟩) ?_
                  rw [e691]
                  refine xv_ic_eq fL_isStory_557 (fun h_557 => ?_) (fun h_557 => ?_)
                  · exact absurd ((nI_eq (by omega) (by omega)).mp h_557) (by omega)
                  · refine xv_il8 fL_isStory_560 ?_
                    refine xv_al2 fL_isStory_562 ?_
                    refine xv_k fL_isStory_563 ?_
                    refine xv_ialdN fL_isStory_564 (sx_69 _ _) (⟨by omega, by decide⟩) ?_
                    rw [e691]
                    refine xv_ic_ne fL_isStory_565 (fun h_565 => ?_) (fun h_565 => ?_)
                    · exact absurd ((nI_eq (by omega) (by omega)).mpr (by omega)) h_565
                    · refine xv_k fL_isStory_568 ?_
                      refine xv_goto fL_isStory_571 ?_
                      refine xv_ic_ne fL_isStory_577 (fun h_577 => ?_) (fun h_577 => ?_)
                      · exact absurd rfl h_577
                      · refine xv_k fL_isStory_580 ?_
                        refine xv_goto fL_isStory_581 ?_
                        exact xv_iret fL_isStory_585 rfl rfl ⟨rfl, c, rfl, rfl, rfl, hI⟩
                · exact absurd ((nI_eq (by omega) (by omega)).mpr (by omega)) h_537
            · exact absurd ((nI_leI (by omega) (by omega)).mpr (by omega)) h_486
          · exact absurd h_359 (by decide)
        · exact absurd h_245 (by decide)
      · refine xv_k fL_isStory_236 ?_
        refine xv_goto fL_isStory_237 ?_
        refine xv_is7 fL_isStory_241 ?_
        refine xv_il3 fL_isStory_243 ?_
        refine xv_k fL_isStory_244 ?_
        refine xv_ic_ne fL_isStory_245 (fun h_245 => ?_) (fun h_245 => ?_)
        · refine xv_il3 fL_isStory_357 ?_
          refine xv_k fL_isStory_358 ?_
          refine xv_ic_ne fL_isStory_359 (fun h_359 => ?_) (fun h_359 => ?_)
          · refine xv_il5 fL_isStory_471 ?_
            refine xv_al2 fL_isStory_473 ?_
            refine xv_k fL_isStory_474 ?_
            refine xv_ialdN fL_isStory_475 (sx_69 _ _) (⟨by omega, by decide⟩) ?_
            rw [e691]
            refine xv_k fL_isStory_476 ?_
            refine xv_iadd fL_isStory_477 ?_
            refine xv_eqi (y := nI (c.2 + 1)) (nI_add _ _) ?_
            refine xv_irem fL_isStory_478 (nI_ne0 (by omega) (by omega)) ?_
            refine xv_eqi (y := nI b) (by rw [nI_rem h2 (by omega), eb]) ?_
            refine xv_is8 fL_isStory_479 ?_
            refine xv_il8 fL_isStory_481 ?_
            refine xv_al2 fL_isStory_483 ?_
            refine xv_k fL_isStory_484 ?_
            refine xv_ialdN fL_isStory_485 (sx_69 _ _) (⟨by omega, by decide⟩) ?_
            rw [e691]
            refine xv_ic_ge fL_isStory_486 (fun h_486 => ?_) (fun h_486 => ?_)
            · refine xv_k fL_isStory_506 ?_
              refine xv_is9 fL_isStory_507 ?_
              refine xv_al0 fL_isStory_509 ?_
              refine xv_k fL_isStory_510 ?_
              refine xv_il6 fL_isStory_512 ?_
              refine xv_il8 fL_isStory_514 ?_
              refine xv_k fL_isStory_516 ?_
              refine xv_k fL_isStory_517 ?_
              refine xv_k fL_isStory_518 ?_
              refine xv_callS7R (w_change_I n c c J (p_change_b n c I J hac (by omega) (x := nI b) (fun k z hk => by have := (nI_eq (by omega) (by omega)).mp z; omega))) fL_isStory_519 YL_does VL_does lL_113 rfl (Nat.le_of_ble_eq_true rfl) (by decide) (by decide) (by decide) ?_
              refine xv_is10 fL_isStory_522 ?_
              refine xv_il6 fL_isStory_524 ?_
              refine xv_al2 fL_isStory_526 ?_
              refine xv_k fL_isStory_527 ?_
              refine xv_ialdN fL_isStory_528 (sx_69 _ _) (⟨by omega, by decide⟩) ?_
              rw [e691]
              refine xv_ic_eq fL_isStory_529 (fun h_529 => ?_) (fun h_529 => ?_)
              · exact absurd ((nI_eq (by omega) (by omega)).mp h_529) (by omega)
              · refine xv_il8 fL_isStory_532 ?_
                refine xv_al2 fL_isStory_534 ?_
                refine xv_k fL_isStory_535 ?_
                refine xv_ialdN fL_isStory_536 (sx_69 _ _) (⟨by omega, by decide⟩) ?_
                rw [e691]
                refine xv_ic_eq fL_isStory_537 (fun h_537 => ?_) (fun h_537 => ?_)
                · refine xv_il10 fL_isStory_550 ?_
                  refine xv_il6 fL_isStory_552 ?_
                  refine xv_al2 fL_isStory_554 ?_
                  refine xv_k fL_isStory_555 ?_
                  refine xv_ialdN fL_isStory_556 (sx_69 _ _) (⟨by omega, by decide⟩) ?_
                  rw [e691]
                  refine xv_ic_eq fL_isStory_557 (fun h_557 => ?_) (fun h_557 => ?_)
                  · exact absurd ((nI_eq (by omega) (by omega)).mp h_557) (by omega)
                  · refine xv_il8 fL_isStory_560 ?_
                    refine xv_al2 fL_isStory_562 ?_
                    refine xv_k fL_isStory_563 ?_
                    refine xv_ialdN fL_isStory_564 (sx_69 _ _) (⟨by omega, by decide⟩) ?_
                    rw [e691]
                    refine xv_ic_ne fL_isStory_565 (fun h_565 => ?_) (fun h_565 => ?_)
                    · exact absurd ((nI_eq (by omega) (by omega)).mpr (by omega)) h_565
                    · refine xv_k fL_isStory_568 ?_
                      refine xv_goto fL_isStory_571 ?_
                      refine xv_ic_ne fL_isStory_577 (fun h_577 => ?_) (fun h_577 => ?_)
                      · exact absurd rfl h_577
                      · refine xv_k fL_isStory_580 ?_
                        refine xv_goto fL_isStory_581 ?_
                        exact xv_iret fL_isStory_585 rfl rfl ⟨rfl, c, rfl, rfl, rfl, hI⟩
                · exact absurd ((nI_eq (by omega) (by omega)).mpr (by omega)) h_537
            · exact absurd ((nI_leI (by omega) (by omega)).mpr (by omega)) h_486
          · exact absurd h_359 (by decide)
        · exact absurd h_245 (by decide)
  · exact absurd h_1 (by decide)
theorem s_ch_c (n : Nat) (c : Nat × Nat) (I : xv_I) (J : xv_J) {one two : Nat} (h1 : one < 2 ^ 31) (h2 : two < 2 ^ 31) (hn : n < 1000) (hI : Inv c I) {a : Nat} (ea : one % (c.2 + 1) = a) {b : Nat} (eb : two % (c.2 + 1) = b) (hac : a < c.2) (hbc : b < c.2) (hnl : ¬ (¬ I (201 + 5 * a) 0 ≤ 0 ∧ ¬ ¬ I (201 + 5 * b) 0 ≤ 0)) : xv_Met mL_isStory 11 400 3200 (sx n c) I (rx c) J [.ref 0, .ref 63, .ref 69, .int (nI 3), .int (nI one), .int (nI two)] (qI n J) := by
  have hn8 := hI.st.2.2.1
  have e691 := hI.st.2.1
  have ha : a < c.2 + 1 := by rw [← ea]; exact Nat.mod_lt _ (by omega)
  have hb : b < c.2 + 1 := by rw [← eb]; exact Nat.mod_lt _ (by omega)
  obtain ⟨sec8, d8, np8, lo8, sh8, v1, v2, v3, v4, v5, v6, v7, v8, v9, w1, w2, w3, w4, w5, w6⟩ := hI.st.2.2.2 a hac
  obtain ⟨sec, d, np, lo, sh, a1, a2, a3, a4, a5, a6, a7, a8, a9, b1, b2, b3, b4, b5, b6⟩ := hI.st.2.2.2 b hbc
  refine xv_Met.of (by decide +kernel) (Nat.le_of_ble_eq_true rfl) (List.forall_mem_cons.mpr ⟨rfl, List.forall_mem_cons.mpr ⟨rfl, List.forall_mem_cons.mpr ⟨rfl, List.forall_mem_cons.mpr ⟨rfl, List.forall_mem_cons.mpr ⟨rfl, List.forall_mem_cons.mpr ⟨rfl, fun _ h => nomatch h⟩⟩⟩⟩⟩⟩) ?_
  show xv_W mL_isStory 11 400 3200 _ 400 3200 (sx n c) I (rx c) J 0 [some (.ref 0), some (.ref 63), some (.ref 69), some (.int (nI 3)), some (.int (nI one)), some (.int (nI two)), none, none, none, none, none, none] []
  refine xv_il3 fL_isStory_0 ?_
  refine xv_if_ne fL_isStory_1 (fun h_1 => ?_) (fun h_1 => ?_)
  · refine xv_il4 fL_isStory_205 ?_
    refine xv_al2 fL_isStory_207 ?_
    refine xv_k fL_isStory_208 ?_
    refine xv_ialdN fL_isStory_209 (sx_69 _ _) (⟨by omega, by decide⟩) ?_
    rw [e691]
    refine xv_k fL_isStory_210 ?_
    refine xv_iadd fL_isStory_211 ?_
    refine xv_eqi (y := nI (c.2 + 1)) (nI_add _ _) ?_
    refine xv_irem fL_isStory_212 (nI_ne0 (by omega) (by omega)) ?_
    refine xv_eqi (y := nI a) (by rw [nI_rem h1 (by omega), ea]) ?_
    refine xv_is6 fL_isStory_213 ?_
    refine xv_il6 fL_isStory_215 ?_
    refine xv_al2 fL_isStory_217 ?_
    refine xv_k fL_isStory_218 ?_
    refine xv_ialdN fL_isStory_219 (sx_69 _ _) (⟨by omega, by decide⟩) ?_
    rw [e691]
    refine xv_ic_ge fL_isStory_220 (fun h_220 => ?_) (fun h_220 => ?_)
    · exact absurd ((nI_leI (by omega) (by omega)).mp h_220) (by omega)
    · refine xv_al1 fL_isStory_223 ?_
      refine xv_il6 fL_isStory_224 ?_
      refine xv_ialdN fL_isStory_226 (sx_63 _ _) (⟨by omega, by decide⟩) ?_
      rw [w5]
      refine xv_k fL_isStory_227 ?_
      refine xv_idiv fL_isStory_229 (by decide) ?_
      refine xv_eqi (y := nI ((sec8 + 10 * sh8 + 1000 * d8) / 10)) (nI_div (by omega) (by decide)) ?_
      refine xv_k fL_isStory_230 ?_
      refine xv_irem fL_isStory_232 (by decide) ?_
      refine xv_eqi (y := nI sh8) (by rw [nI_rem (by omega) (by decide)]; congr 1; omega) ?_
      refine xv_if_le fL_isStory_233 (fun h_233 => ?_) (fun h_233 => ?_)
      · refine xv_k fL_isStory_240 ?_
        refine xv_is7 fL_isStory_241 ?_
        refine xv_il3 fL_isStory_243 ?_
        refine xv_k fL_isStory_244 ?_
        refine xv_ic_ne fL_isStory_245 (fun h_245 => ?_) (fun h_245 => ?_)
        · refine xv_il3 fL_isStory_357 ?_
          refine xv_k fL_isStory_358 ?_
          refine xv_ic_ne fL_isStory_359 (fun h_359 => ?_) (fun h_359 => ?_)
          · refine xv_il5 fL_isStory_471 ?_
            refine xv_al2 fL_isStory_473 ?_
            refine xv_k fL_isStory_474 ?_
            refine xv_ialdN fL_isStory_475 (sx_69 _ _) (⟨by omega, by decide⟩) ?_
            rw [e691]
            refine xv_k fL_isStory_476 ?_
            refine xv_iadd fL_isStory_477 ?_
            refine xv_eqi (y := nI (c.2 + 1)) (nI_add _ _) ?_
            refine xv_irem fL_isStory_478 (nI_ne0 (by omega) (by omega)) ?_
            refine xv_eqi (y := nI b) (by rw [nI_rem h2 (by omega), eb]) ?_
            refine xv_is8 fL_isStory_479 ?_
            refine xv_il8 fL_isStory_481 ?_
            refine xv_al2 fL_isStory_483 ?_
            refine xv_k fL_isStory_484 ?_
            refine xv_ialdN fL_isStory_485 (sx_69 _ _) (⟨by omega, by decide⟩) ?_
            rw [e691]
            refine xv_ic_ge fL_isStory_486 (fun h_486 => ?_) (fun h_486 => ?_)
            · exact absurd ((nI_leI (by omega) (by omega)).mp h_486) (by omega)
            · refine xv_al1 fL_isStory_489 ?_
              refine xv_il8 fL_isStory_490 ?_
              refine xv_ialdN fL_isStory_492 (sx_63 _ _) (⟨by omega, by decide⟩) ?_
              rw [b5]
              refine xv_k fL_isStory_493 ?_
              refine xv_idiv fL_isStory_495 (by decide) ?_
              refine xv_eqi (y := nI ((sec + 10 * sh + 1000 * d) / 10)) (nI_div (by omega) (by decide)) ?_
              refine xv_k fL_isStory_496 ?_
              refine xv_irem fL_isStory_498 (by decide) ?_
              refine xv_eqi (y := nI sh) (by rw [nI_rem (by omega) (by decide)]; congr 1; omega) ?_
              refine xv_if_le fL_isStory_499 (fun h_499 => ?_) (fun h_499 => ?_)
              · refine xv_k fL_isStory_506 ?_
                refine xv_is9 fL_isStory_507 ?_
                refine xv_al0 fL_isStory_509 ?_
                refine xv_k fL_isStory_510 ?_
                refine xv_il6 fL_isStory_512 ?_
                refine xv_il8 fL_isStory_514 ?_
                refine xv_k fL_isStory_516 ?_
                refine xv_k fL_isStory_517 ?_
                refine xv_k fL_isStory_518 ?_
                refine xv_callS7R (w_change_S n c c J (p_change_c n c I J hac (by omega) hbc (by omega) hnl)) fL_isStory_519 YL_does VL_does lL_113 rfl (Nat.le_of_ble_eq_true rfl) (by decide) (by decide) (by decide) ?_
                refine xv_is10 fL_isStory_522 ?_
                refine xv_il6 fL_isStory_524 ?_
                refine xv_al2 fL_isStory_526 ?_
                refine xv_k fL_isStory_527 ?_
                refine xv_ialdN fL_isStory_528 (sx_69 _ _) (⟨by omega, by decide⟩) ?_
                rw [e691]
                refine xv_ic_eq fL_isStory_529 (fun h_529 => ?_) (fun h_529 => ?_)
                · exact absurd ((nI_eq (by omega) (by omega)).mp h_529) (by omega)
                · refine xv_il8 fL_isStory_532 ?_
                  refine xv_al2 fL_isStory_534 ?_
                  refine xv_k fL_isStory_535 ?_
                  refine xv_ialdN fL_isStory_536 (sx_69 _ _) (⟨by omega, by decide⟩) ?_
                  rw [e691]
                  refine xv_ic_eq fL_isStory_537 (fun h_537 => ?_) (fun h_537 => ?_)
                  · exact absurd ((nI_eq (by omega) (by omega)).mp h_537) (by omega)
                  · refine xv_il7 fL_isStory_540 ?_
                    refine xv_if_eq fL_isStory_542 (fun h_542 => ?_) (fun h_542 => ?_)
                    · refine xv_il10 fL_isStory_550 ?_
                      refine xv_il6 fL_isStory_552 ?_
                      refine xv_al2 fL_isStory_554 ?_
                      refine xv_k fL_isStory_555 ?_
                      refine xv_ialdN fL_isStory_556 (sx_69 _ _) (⟨by omega, by decide⟩) ?_
                      rw [e691]
                      refine xv_ic_eq fL_isStory_557 (fun h_557 => ?_) (fun h_557 => ?_)
                      · exact absurd ((nI_eq (by omega) (by omega)).mp h_557) (by omega)
                      · refine xv_il8 fL_isStory_560 ?_
                        refine xv_al2 fL_isStory_562 ?_
                        refine xv_k fL_isStory_563 ?_
                        refine xv_ialdN fL_isStory_564 (sx_69 _ _) (⟨by omega, by decide⟩) ?_
                        rw [e691]
                        refine xv_ic_ne fL_isStory_565 (fun h_565 => ?_) (fun h_565 => ?_)
                        · refine xv_k fL_isStory_574 ?_
                          refine xv_ic_ne fL_isStory_577 (fun h_577 => ?_) (fun h_577 => ?_)
                          · exact absurd rfl h_577
                          · refine xv_k fL_isStory_580 ?_
                            refine xv_goto fL_isStory_581 ?_
                            exact xv_iret fL_isStory_585 rfl rfl ⟨rfl, c, rfl, rfl, rfl, hI⟩
                        · exact absurd ((nI_eq (by omega) (by omega)).mp h_565) (by omega)
                    · exact absurd h_542 (by decide)
              · refine xv_k fL_isStory_502 ?_
                refine xv_goto fL_isStory_503 ?_
                refine xv_is9 fL_isStory_507 ?_
                refine xv_al0 fL_isStory_509 ?_
                refine xv_k fL_isStory_510 ?_
                refine xv_il6 fL_isStory_512 ?_
                refine xv_il8 fL_isStory_514 ?_
                refine xv_k fL_isStory_516 ?_
                refine xv_k fL_isStory_517 ?_
                refine xv_k fL_isStory_518 ?_
                refine xv_callS7R (w_change_S n c c J (p_change_c n c I J hac (by omega) hbc (by omega) hnl)) fL_isStory_519 YL_does VL_does lL_113 rfl (Nat.le_of_ble_eq_true rfl) (by decide) (by decide) (by decide) ?_
                refine xv_is10 fL_isStory_522 ?_
                refine xv_il6 fL_isStory_524 ?_
                refine xv_al2 fL_isStory_526 ?_
                refine xv_k fL_isStory_527 ?_
                refine xv_ialdN fL_isStory_528 (sx_69 _ _) (⟨by omega, by decide⟩) ?_
                rw [e691]
                refine xv_ic_eq fL_isStory_529 (fun h_529 => ?_) (fun h_529 => ?_)
                · exact absurd ((nI_eq (by omega) (by omega)).mp h_529) (by omega)
                · refine xv_il8 fL_isStory_532 ?_
                  refine xv_al2 fL_isStory_534 ?_
                  refine xv_k fL_isStory_535 ?_
                  refine xv_ialdN fL_isStory_536 (sx_69 _ _) (⟨by omega, by decide⟩) ?_
                  rw [e691]
                  refine xv_ic_eq fL_isStory_537 (fun h_537 => ?_) (fun h_537 => ?_)
                  · exact absurd ((nI_eq (by omega) (by omega)).mp h_537) (by omega)
                  · refine xv_il7 fL_isStory_540 ?_
                    refine xv_if_eq fL_isStory_542 (fun h_542 => ?_) (fun h_542 => ?_)
                    · refine xv_il10 fL_isStory_550 ?_
                      refine xv_il6 fL_isStory_552 ?_
                      refine xv_al2 fL_isStory_554 ?_
                      refine xv_k fL_isStory_555 ?_
                      refine xv_ialdN fL_isStory_556 (sx_69 _ _) (⟨by omega, by decide⟩) ?_
                      rw [e691]
                      refine xv_ic_eq fL_isStory_557 (fun h_557 => ?_) (fun h_557 => ?_)
                      · exact absurd ((nI_eq (by omega) (by omega)).mp h_557) (by omega)
                      · refine xv_il8 fL_isStory_560 ?_
                        refine xv_al2 fL_isStory_562 ?_
                        refine xv_k fL_isStory_563 ?_
                        refine xv_ialdN fL_isStory_564 (sx_69 _ _) (⟨by omega, by decide⟩) ?_
                        rw [e691]
                        refine xv_ic_ne fL_isStory_565 (fun h_565 => ?_) (fun h_565 => ?_)
                        · refine xv_k fL_isStory_574 ?_
                          refine xv_ic_ne fL_isStory_577 (fun h_577 => ?_) (fun h_577 => ?_)
                          · exact absurd rfl h_577
                          · refine xv_k fL_isStory_580 ?_
                            refine xv_goto fL_isStory_581 ?_
                            exact xv_iret fL_isStory_585 rfl rfl ⟨rfl, c, rfl, rfl, rfl, hI⟩
                        · exact absurd ((nI_eq (by omega) (by omega)).mp h_565) (by omega)
                    · exact absurd h_542 (by decide)
          · exact absurd h_359 (by decide)
        · exact absurd h_245 (by decide)
      · refine xv_k fL_isStory_236 ?_
        refine xv_goto fL_isStory_237 ?_
        refine xv_is7 fL_isStory_241 ?_
        refine xv_il3 fL_isStory_243 ?_
        refine xv_k fL_isStory_244 ?_
        refine xv_ic_ne fL_isStory_245 (fun h_245 => ?_) (fun h_245 => ?_)
        · refine xv_il3 fL_isStory_357 ?_
          refine xv_k fL_isStory_358 ?_
          refine xv_ic_ne fL_isStory_359 (fun h_359 => ?_) (fun h_359 => ?_)
          · refine xv_il5 fL_isStory_471 ?_
            refine xv_al2 fL_isStory_473 ?_
            refine xv_k fL_isStory_474 ?_
            refine xv_ialdN fL_isStory_475 (sx_69 _ _) (⟨by omega, by decide⟩) ?_
            rw [e691]
            refine xv_k fL_isStory_476 ?_
            refine xv_iadd fL_isStory_477 ?_
            refine xv_eqi (y := nI (c.2 + 1)) (nI_add _ _) ?_
            refine xv_irem fL_isStory_478 (nI_ne0 (by omega) (by omega)) ?_
            refine xv_eqi (y := nI b) (by rw [nI_rem h2 (by omega), eb]) ?_
            refine xv_is8 fL_isStory_479 ?_
            refine xv_il8 fL_isStory_481 ?_
            refine xv_al2 fL_isStory_483 ?_
            refine xv_k fL_isStory_484 ?_
            refine xv_ialdN fL_isStory_485 (sx_69 _ _) (⟨by omega, by decide⟩) ?_
            rw [e691]
            refine xv_ic_ge fL_isStory_486 (fun h_486 => ?_) (fun h_486 => ?_)
            · exact absurd ((nI_leI (by omega) (by omega)).mp h_486) (by omega)
            · refine xv_al1 fL_isStory_489 ?_
              refine xv_il8 fL_isStory_490 ?_
              refine xv_ialdN fL_isStory_492 (sx_63 _ _) (⟨by omega, by decide⟩) ?_
              rw [b5]
              refine xv_k fL_isStory_493 ?_
              refine xv_idiv fL_isStory_495 (by decide) ?_
              refine xv_eqi (y := nI ((sec + 10 * sh + 1000 * d) / 10)) (nI_div (by omega) (by decide)) ?_
              refine xv_k fL_isStory_496 ?_
              refine xv_irem fL_isStory_498 (by decide) ?_
              refine xv_eqi (y := nI sh) (by rw [nI_rem (by omega) (by decide)]; congr 1; omega) ?_
              refine xv_if_le fL_isStory_499 (fun h_499 => ?_) (fun h_499 => ?_)
              · refine xv_k fL_isStory_506 ?_
                refine xv_is9 fL_isStory_507 ?_
                refine xv_al0 fL_isStory_509 ?_
                refine xv_k fL_isStory_510 ?_
                refine xv_il6 fL_isStory_512 ?_
                refine xv_il8 fL_isStory_514 ?_
                refine xv_k fL_isStory_516 ?_
                refine xv_k fL_isStory_517 ?_
                refine xv_k fL_isStory_518 ?_
                refine xv_callS7R (w_change_S n c c J (p_change_c n c I J hac (by omega) hbc (by omega) hnl)) fL_isStory_519 YL_does VL_does lL_113 rfl (Nat.le_of_ble_eq_true rfl) (by decide) (by decide) (by decide) ?_
                refine xv_is10 fL_isStory_522 ?_
                refine xv_il6 fL_isStory_524 ?_
                refine xv_al2 fL_isStory_526 ?_
                refine xv_k fL_isStory_527 ?_
                refine xv_ialdN fL_isStory_528 (sx_69 _ _) (⟨by omega, by decide⟩) ?_
                rw [e691]
                refine xv_ic_eq fL_isStory_529 (fun h_529 => ?_) (fun h_529 => ?_)
                · exact absurd ((nI_eq (by omega) (by omega)).mp h_529) (by omega)
                · refine xv_il8 fL_isStory_532 ?_
                  refine xv_al2 fL_isStory_534 ?_
                  refine xv_k fL_isStory_535 ?_
                  refine xv_ialdN fL_isStory_536 (sx_69 _ _) (⟨by omega, by decide⟩) ?_
                  rw [e691]
                  refine xv_ic_eq fL_isStory_537 (fun h_537 => ?_) (fun h_537 => ?_)
                  · exact absurd ((nI_eq (by omega) (by omega)).mp h_537) (by omega)
                  · refine xv_il7 fL_isStory_540 ?_
                    refine xv_if_eq fL_isStory_542 (fun h_542 => ?_) (fun h_542 => ?_)
                    · exact absurd h_542 (by decide)
                    · refine xv_il9 fL_isStory_545 ?_
                      refine xv_if_eq fL_isStory_547 (fun h_547 => ?_) (fun h_547 => ?_)
                      · exact absurd ⟨(by rw [w4]; exact h_233), (by rw [b4]; exact fun z => z h_499)⟩ hnl
                      · exact absurd h_547 (by decide)
              · refine xv_k fL_isStory_502 ?_
                refine xv_goto fL_isStory_503 ?_
                refine xv_is9 fL_isStory_507 ?_
                refine xv_al0 fL_isStory_509 ?_
                refine xv_k fL_isStory_510 ?_
                refine xv_il6 fL_isStory_512 ?_
                refine xv_il8 fL_isStory_514 ?_
                refine xv_k fL_isStory_516 ?_
                refine xv_k fL_isStory_517 ?_
                refine xv_k fL_isStory_518 ?_
                refine xv_callS7R (w_change_S n c c J (p_change_c n c I J hac (by omega) hbc (by omega) hnl)) fL_isStory_519 YL_does VL_does lL_113 rfl (Nat.le_of_ble_eq_true rfl) (by decide) (by decide) (by decide) ?_
                refine xv_is10 fL_isStory_522 ?_
                refine xv_il6 fL_isStory_524 ?_
                refine xv_al2 fL_isStory_526 ?_
                refine xv_k fL_isStory_527 ?_
                refine xv_ialdN fL_isStory_528 (sx_69 _ _) (⟨by omega, by decide⟩) ?_
                rw [e691]
                refine xv_ic_eq fL_isStory_529 (fun h_529 => ?_) (fun h_529 => ?_)
                · exact absurd ((nI_eq (by omega) (by omega)).mp h_529) (by omega)
                · refine xv_il8 fL_isStory_532 ?_
                  refine xv_al2 fL_isStory_534 ?_
                  refine xv_k fL_isStory_535 ?_
                  refine xv_ialdN fL_isStory_536 (sx_69 _ _) (⟨by omega, by decide⟩) ?_
                  rw [e691]
                  refine xv_ic_eq fL_isStory_537 (fun h_537 => ?_) (fun h_537 => ?_)
                  · exact absurd ((nI_eq (by omega) (by omega)).mp h_537) (by omega)
                  · refine xv_il7 fL_isStory_540 ?_
                    refine xv_if_eq fL_isStory_542 (fun h_542 => ?_) (fun h_542 => ?_)
                    · exact absurd h_542 (by decide)
                    · refine xv_il9 fL_isStory_545 ?_
                      refine xv_if_eq fL_isStory_547 (fun h_547 => ?_) (fun h_547 => ?_)
                      · exact absurd h_547 (by decide)
                      · refine xv_il10 fL_isStory_550 ?_
                        refine xv_il6 fL_isStory_552 ?_
                        refine xv_al2 fL_isStory_554 ?_
                        refine xv_k fL_isStory_555 ?_
                        refine xv_ialdN fL_isStory_556 (sx_69 _ _) (⟨by omega, by decide⟩) ?_
                        rw [e691]
                        refine xv_ic_eq fL_isStory_557 (fun h_557 => ?_) (fun h_557 => ?_)
                        · exact absurd ((nI_eq (by omega) (by omega)).mp h_557) (by omega)
                        · refine xv_il8 fL_isStory_560 ?_
                          refine xv_al2 fL_isStory_562 ?_
                          refine xv_k fL_isStory_563 ?_
                          refine xv_ialdN fL_isStory_564 (sx_69 _ _) (⟨by omega, by decide⟩) ?_
                          rw [e691]
                          refine xv_ic_ne fL_isStory_565 (fun h_565 => ?_) (fun h_565 => ?_)
                          · refine xv_k fL_isStory_574 ?_
                            refine xv_ic_ne fL_isStory_577 (fun h_577 => ?_) (fun h_577 => ?_)
                            · exact absurd rfl h_577
                            · refine xv_k fL_isStory_580 ?_
                              refine xv_goto fL_isStory_581 ?_
                              exact xv_iret fL_isStory_585 rfl rfl ⟨rfl, c, rfl, rfl, rfl, hI⟩
                          · exact absurd ((nI_eq (by omega) (by omega)).mp h_565) (by omega)
          · exact absurd h_359 (by decide)
        · exact absurd h_245 (by decide)
  · exact absurd h_1 (by decide)
theorem s_ch_no (n : Nat) (c : Nat × Nat) (I : xv_I) (J : xv_J) {one two : Nat} (h1 : one < 2 ^ 31) (h2 : two < 2 ^ 31) (hn : n < 1000) (hI : Inv c I) {a : Nat} (ea : one % (c.2 + 1) = a) {b : Nat} (eb : two % (c.2 + 1) = b) (hac : a < c.2) (hbc : b < c.2) (hla : ¬ I (201 + 5 * a) 0 ≤ 0) (hlb : ¬ ¬ I (201 + 5 * b) 0 ≤ 0) (hF : ∀ sec d np lo, I (200 + 5 * b) 0 = nI sec → I (200 + 5 * b) 1 = nI d → I (200 + 5 * b) 2 = nI np → I (200 + 5 * b) 3 = nI lo → sec < 4 → d ≤ 999999 → np ≤ 6 → lo ≤ np → (xFind (nI sec) (czf d np) np lo (nI (200 + a)) (I 1 6 ||| xPl I (nI (200 + a))) I).1 = nI 0) : xv_Met mL_isStory 11 400 3200 (sx n c) I (rx c) J [.ref 0, .ref 63, .ref 69, .int (nI 3), .int (nI one), .int (nI two)] (qI n J) := by
  have hn8 := hI.st.2.2.1
  have e691 := hI.st.2.1
  have ha : a < c.2 + 1 := by rw [← ea]; exact Nat.mod_lt _ (by omega)
  have hb : b < c.2 + 1 := by rw [← eb]; exact Nat.mod_lt _ (by omega)
  obtain ⟨sec8, d8, np8, lo8, sh8, v1, v2, v3, v4, v5, v6, v7, v8, v9, w1, w2, w3, w4, w5, w6⟩ := hI.st.2.2.2 a hac
  obtain ⟨sec, d, np, lo, sh, a1, a2, a3, a4, a5, a6, a7, a8, a9, b1, b2, b3, b4, b5, b6⟩ := hI.st.2.2.2 b hbc
  have hsh8 : 0 < sh8 := Nat.pos_of_ne_zero fun z => hla (by rw [w4, z]; decide)
  have hsh : sh = 0 := Classical.byContradiction fun z => hlb (by rw [b4]; exact nI_nle (Nat.pos_of_ne_zero z) (by omega))
  have hxs := st_x (I := I) (s := b) a2 a3 a4 a5 a6 a7 a9 b1 b2 b3
  obtain ⟨d1, d2, d3⟩ := (b6.resolve_right (fun q => by omega))
  obtain ⟨f1, pgA, stA, szA, f2, f3, f4⟩ := w6.resolve_left (fun q => by omega)
  have hab : a ≠ b := fun q => by
    have := (nI_eq (by omega) (by omega)).mp (w4.symm.trans ((by rw [q] : I (201 + 5 * a) 0 = I (201 + 5 * b) 0).trans b4))
    omega
  have hF := hF sec d np lo a9 b1 b2 b3 a1 a3 a5 a7
  obtain ⟨F1, F2⟩ := find_st (I := I) (gm := (nI (200 + a))) (sc := nI sec) (cl := (I 1 6 ||| xPl I (nI (200 + a)))) (cz := czf d np) (np := np) (lo := lo) a6 a7 a5 (fun f t hf ht => (czf_ok (Dg_pos a2) hf ht a5).1)
  refine xv_Met.of (by decide +kernel) (Nat.le_of_ble_eq_true rfl) (List.forall_mem_cons.mpr ⟨rfl, List.forall_mem_cons.mpr ⟨rfl, List.forall_mem_cons.mpr ⟨rfl, List.forall_mem_cons.mpr ⟨rfl, List.forall_mem_cons.mpr ⟨rfl, List.forall_mem_cons.mpr ⟨rfl, fun _ h => nomatch h⟩⟩⟩⟩⟩⟩) ?_
  show xv_W mL_isStory 11 400 3200 _ 400 3200 (sx n c) I (rx c) J 0 [some (.ref 0), some (.ref 63), some (.ref 69), some (.int (nI 3)), some (.int (nI one)), some (.int (nI two)), none, none, none, none, none, none] []
  refine xv_il3 fL_isStory_0 ?_
  refine xv_if_ne fL_isStory_1 (fun h_1 => ?_) (fun h_1 => ?_)
  · refine xv_il4 fL_isStory_205 ?_
    refine xv_al2 fL_isStory_207 ?_
    refine xv_k fL_isStory_208 ?_
    refine xv_ialdN fL_isStory_209 (sx_69 _ _) (⟨by omega, by decide⟩) ?_
    rw [e691]
    refine xv_k fL_isStory_210 ?_
    refine xv_iadd fL_isStory_211 ?_
    refine xv_eqi (y := nI (c.2 + 1)) (nI_add _ _) ?_
    refine xv_irem fL_isStory_212 (nI_ne0 (by omega) (by omega)) ?_
    refine xv_eqi (y := nI a) (by rw [nI_rem h1 (by omega), ea]) ?_
    refine xv_is6 fL_isStory_213 ?_
    refine xv_il6 fL_isStory_215 ?_
    refine xv_al2 fL_isStory_217 ?_
    refine xv_k fL_isStory_218 ?_
    refine xv_ialdN fL_isStory_219 (sx_69 _ _) (⟨by omega, by decide⟩) ?_
    rw [e691]
    refine xv_ic_ge fL_isStory_220 (fun h_220 => ?_) (fun h_220 => ?_)
    · exact absurd ((nI_leI (by omega) (by omega)).mp h_220) (by omega)
    · refine xv_al1 fL_isStory_223 ?_
      refine xv_il6 fL_isStory_224 ?_
      refine xv_ialdN fL_isStory_226 (sx_63 _ _) (⟨by omega, by decide⟩) ?_
      rw [w5]
      refine xv_k fL_isStory_227 ?_
      refine xv_idiv fL_isStory_229 (by decide) ?_
      refine xv_eqi (y := nI ((sec8 + 10 * sh8 + 1000 * d8) / 10)) (nI_div (by omega) (by decide)) ?_
      refine xv_k fL_isStory_230 ?_
      refine xv_irem fL_isStory_232 (by decide) ?_
      refine xv_eqi (y := nI sh8) (by rw [nI_rem (by omega) (by decide)]; congr 1; omega) ?_
      refine xv_if_le fL_isStory_233 (fun h_233 => ?_) (fun h_233 => ?_)
      · exact absurd h_233 (nI_nle hsh8 (by omega))
      · refine xv_k fL_isStory_236 ?_
        refine xv_goto fL_isStory_237 ?_
        refine xv_is7 fL_isStory_241 ?_
        refine xv_il3 fL_isStory_243 ?_
        refine xv_k fL_isStory_244 ?_
        refine xv_ic_ne fL_isStory_245 (fun h_245 => ?_) (fun h_245 => ?_)
        · refine xv_il3 fL_isStory_357 ?_
          refine xv_k fL_isStory_358 ?_
          refine xv_ic_ne fL_isStory_359 (fun h_359 => ?_) (fun h_359 => ?_)
          · refine xv_il5 fL_isStory_471 ?_
            refine xv_al2 fL_isStory_473 ?_
            refine xv_k fL_isStory_474 ?_
            refine xv_ialdN fL_isStory_475 (sx_69 _ _) (⟨by omega, by decide⟩) ?_
            rw [e691]
            refine xv_k fL_isStory_476 ?_
            refine xv_iadd fL_isStory_477 ?_
            refine xv_eqi (y := nI (c.2 + 1)) (nI_add _ _) ?_
            refine xv_irem fL_isStory_478 (nI_ne0 (by omega) (by omega)) ?_
            refine xv_eqi (y := nI b) (by rw [nI_rem h2 (by omega), eb]) ?_
            refine xv_is8 fL_isStory_479 ?_
            refine xv_il8 fL_isStory_481 ?_
            refine xv_al2 fL_isStory_483 ?_
            refine xv_k fL_isStory_484 ?_
            refine xv_ialdN fL_isStory_485 (sx_69 _ _) (⟨by omega, by decide⟩) ?_
            rw [e691]
            refine xv_ic_ge fL_isStory_486 (fun h_486 => ?_) (fun h_486 => ?_)
            · exact absurd ((nI_leI (by omega) (by omega)).mp h_486) (by omega)
            · refine xv_al1 fL_isStory_489 ?_
              refine xv_il8 fL_isStory_490 ?_
              refine xv_ialdN fL_isStory_492 (sx_63 _ _) (⟨by omega, by decide⟩) ?_
              rw [b5]
              refine xv_k fL_isStory_493 ?_
              refine xv_idiv fL_isStory_495 (by decide) ?_
              refine xv_eqi (y := nI ((sec + 10 * sh + 1000 * d) / 10)) (nI_div (by omega) (by decide)) ?_
              refine xv_k fL_isStory_496 ?_
              refine xv_irem fL_isStory_498 (by decide) ?_
              refine xv_eqi (y := nI sh) (by rw [nI_rem (by omega) (by decide)]; congr 1; omega) ?_
              refine xv_if_le fL_isStory_499 (fun h_499 => ?_) (fun h_499 => ?_)
              · refine xv_k fL_isStory_506 ?_
                refine xv_is9 fL_isStory_507 ?_
                refine xv_al0 fL_isStory_509 ?_
                refine xv_k fL_isStory_510 ?_
                refine xv_il6 fL_isStory_512 ?_
                refine xv_il8 fL_isStory_514 ?_
                refine xv_k fL_isStory_516 ?_
                refine xv_k fL_isStory_517 ?_
                refine xv_k fL_isStory_518 ?_
                obtain P1 := p_change_no n c I J hac (by omega) hbc (by omega) hxs ⟨hla, hlb⟩ (by rw [hF]; rfl)
                obtain ⟨C, hC⟩ : ∃ C, C = (xFind (nI sec) (czf d np) np lo (nI (200 + a)) (I 1 6 ||| xPl I (nI (200 + a))) I).2 := ⟨_, rfl⟩
                rw [← hC] at P1
                obtain F1 : ∀ v j, (v < 20 ∨ 28 < v) → C v j = I v j := fun v j h => by rw [hC]; exact F1 v j h
                obtain k69 : C 69 1 = nI c.2 := (F1 _ _ (by omega)).trans e691
                obtain hWA : xWy C (201 + 5 * a) pgA stA szA := xWy_to2 f3 (fun v j h1 h2 => F1 v j (by omega))
                obtain hWB : xWy C (201 + 5 * b) (fun _ => 0) (fun _ => 0) (fun _ => 0) := fun i hi => ⟨(F1 _ _ (by omega)).trans (d2 i hi), Nat.zero_le _, fun z => absurd z (Nat.lt_irrefl 0)⟩
                obtain ⟨vA, p1, p2, _⟩ := pv_f hWA (i := 0) (by decide) f2
                refine xv_callS7R (w_change_ok n c c J P1) fL_isStory_519 YL_does VL_does lL_113 rfl (Nat.le_of_ble_eq_true rfl) (by decide) (by decide) (by decide) ?_
                refine xv_is10 fL_isStory_522 ?_
                refine xv_il6 fL_isStory_524 ?_
                refine xv_al2 fL_isStory_526 ?_
                refine xv_k fL_isStory_527 ?_
                refine xv_ialdN fL_isStory_528 (sx_69 _ _) (⟨by omega, by decide⟩) ?_
                rw [k69]
                refine xv_ic_eq fL_isStory_529 (fun h_529 => ?_) (fun h_529 => ?_)
                · exact absurd ((nI_eq (by omega) (by omega)).mp h_529) (by omega)
                · refine xv_il8 fL_isStory_532 ?_
                  refine xv_al2 fL_isStory_534 ?_
                  refine xv_k fL_isStory_535 ?_
                  refine xv_ialdN fL_isStory_536 (sx_69 _ _) (⟨by omega, by decide⟩) ?_
                  rw [k69]
                  refine xv_ic_eq fL_isStory_537 (fun h_537 => ?_) (fun h_537 => ?_)
                  · exact absurd ((nI_eq (by omega) (by omega)).mp h_537) (by omega)
                  · refine xv_il7 fL_isStory_540 ?_
                    refine xv_if_eq fL_isStory_542 (fun h_542 => ?_) (fun h_542 => ?_)
                    · exact absurd h_542 (by decide)
                    · refine xv_il9 fL_isStory_545 ?_
                      refine xv_if_eq fL_isStory_547 (fun h_547 => ?_) (fun h_547 => ?_)
                      · refine xv_il10 fL_isStory_586 ?_
                        refine xv_if_lt fL_isStory_588 (fun h_588 => ?_) (fun h_588 => ?_)
                        · refine xv_il10 fL_isStory_671 ?_
                          refine xv_k fL_isStory_673 ?_
                          refine xv_ic_ne fL_isStory_674 (fun h_674 => ?_) (fun h_674 => ?_)
                          · exact absurd rfl h_674
                          · refine xv_al0 fL_isStory_677 ?_
                            refine xv_il6 fL_isStory_678 ?_
                            refine xv_k fL_isStory_680 ?_
                            refine xv_callV2R (p_partW n c C J hac (by omega) hWA (i := 0) (by decide)) fL_isStory_681 YX10_part VX10_part lL_50 rfl rfl (sx_0 _ _) (Nat.le_of_ble_eq_true rfl) (by decide) (by decide) (by decide) ?_
                            rw [p2]
                            refine xv_if_lt fL_isStory_684 (fun h_684 => ?_) (fun h_684 => ?_)
                            · exact absurd h_684 (nI_pos p1)
                            · refine xv_al0 fL_isStory_687 ?_
                              refine xv_il8 fL_isStory_688 ?_
                              refine xv_k fL_isStory_690 ?_
                              refine xv_callV2R (p_partW n c C J hbc (by omega) hWB (i := 0) (by decide)) fL_isStory_691 YX10_part VX10_part lL_50 rfl rfl (sx_0 _ _) (Nat.le_of_ble_eq_true rfl) (by decide) (by decide) (by decide) ?_
                              rw [pv_n (sz := fun _ => 0) rfl]
                              refine xv_k fL_isStory_694 ?_
                              refine xv_ic_ne fL_isStory_695 (fun h_695 => ?_) (fun h_695 => ?_)
                              · exact absurd rfl h_695
                              · refine xv_k fL_isStory_698 ?_
                                refine xv_goto fL_isStory_699 ?_
                                exact xv_iret fL_isStory_703 rfl rfl ⟨rfl, c, rfl, rfl, rfl, hI.scr F1⟩
                        · exact absurd (by decide) h_588
                      · exact absurd h_547 (by decide)
              · exact absurd (by rw [hsh]; decide) h_499
          · exact absurd h_359 (by decide)
        · exact absurd h_245 (by decide)
  · exact absurd h_1 (by decide)
theorem s_ch_ok (n : Nat) (c : Nat × Nat) (I : xv_I) (J : xv_J) {one two : Nat} (h1 : one < 2 ^ 31) (h2 : two < 2 ^ 31) (hn : n < 1000) (hI : Inv c I) {a : Nat} (ea : one % (c.2 + 1) = a) {b : Nat} (eb : two % (c.2 + 1) = b) (hac : a < c.2) (hbc : b < c.2) (hla : ¬ I (201 + 5 * a) 0 ≤ 0) (hlb : ¬ ¬ I (201 + 5 * b) 0 ≤ 0) (hF : ∀ sec d np lo, I (200 + 5 * b) 0 = nI sec → I (200 + 5 * b) 1 = nI d → I (200 + 5 * b) 2 = nI np → I (200 + 5 * b) 3 = nI lo → sec < 4 → d ≤ 999999 → np ≤ 6 → lo ≤ np → ¬ (xFind (nI sec) (czf d np) np lo (nI (200 + a)) (I 1 6 ||| xPl I (nI (200 + a))) I).1 = nI 0) : xv_Met mL_isStory 11 400 3200 (sx n c) I (rx c) J [.ref 0, .ref 63, .ref 69, .int (nI 3), .int (nI one), .int (nI two)] (qM n J) := by
  have hn8 := hI.st.2.2.1
  have e691 := hI.st.2.1
  have ha : a < c.2 + 1 := by rw [← ea]; exact Nat.mod_lt _ (by omega)
  have hb : b < c.2 + 1 := by rw [← eb]; exact Nat.mod_lt _ (by omega)
  obtain ⟨sec8, d8, np8, lo8, sh8, v1, v2, v3, v4, v5, v6, v7, v8, v9, w1, w2, w3, w4, w5, w6⟩ := hI.st.2.2.2 a hac
  obtain ⟨sec, d, np, lo, sh, a1, a2, a3, a4, a5, a6, a7, a8, a9, b1, b2, b3, b4, b5, b6⟩ := hI.st.2.2.2 b hbc
  have hsh8 : 0 < sh8 := Nat.pos_of_ne_zero fun z => hla (by rw [w4, z]; decide)
  have hsh : sh = 0 := Classical.byContradiction fun z => hlb (by rw [b4]; exact nI_nle (Nat.pos_of_ne_zero z) (by omega))
  have hxs := st_x (I := I) (s := b) a2 a3 a4 a5 a6 a7 a9 b1 b2 b3
  obtain ⟨d1, d2, d3⟩ := (b6.resolve_right (fun q => by omega))
  obtain ⟨f1, pgA, stA, szA, f2, f3, f4⟩ := w6.resolve_left (fun q => by omega)
  have hab : a ≠ b := fun q => by
    have := (nI_eq (by omega) (by omega)).mp (w4.symm.trans ((by rw [q] : I (201 + 5 * a) 0 = I (201 + 5 * b) 0).trans b4))
    omega
  have hF := hF sec d np lo a9 b1 b2 b3 a1 a3 a5 a7
  obtain ⟨F1, F2⟩ := find_st (I := I) (gm := (nI (200 + a))) (sc := nI sec) (cl := (I 1 6 ||| xPl I (nI (200 + a)))) (cz := czf d np) (np := np) (lo := lo) a6 a7 a5 (fun f t hf ht => (czf_ok (Dg_pos a2) hf ht a5).1)
  obtain ⟨hF, u, hu0, hu2, ⟨hbest, pg, st, sz, hway, hrows⟩, hmost⟩ := F2.resolve_left hF
  have hu1 : 1 ≤ u := by omega
  have hwayb : ∀ i, i < 2 → 0 < sz i → pg i < 10 := fun i hi hs => by have := ((hway.2.1 i hi).2 hs).1; omega
  have hwy := way_xWy hway hrows
  refine xv_Met.of (by decide +kernel) (Nat.le_of_ble_eq_true rfl) (List.forall_mem_cons.mpr ⟨rfl, List.forall_mem_cons.mpr ⟨rfl, List.forall_mem_cons.mpr ⟨rfl, List.forall_mem_cons.mpr ⟨rfl, List.forall_mem_cons.mpr ⟨rfl, List.forall_mem_cons.mpr ⟨rfl, fun _ h => nomatch h⟩⟩⟩⟩⟩⟩) ?_
  show xv_W mL_isStory 11 400 3200 _ 400 3200 (sx n c) I (rx c) J 0 [some (.ref 0), some (.ref 63), some (.ref 69), some (.int (nI 3)), some (.int (nI one)), some (.int (nI two)), none, none, none, none, none, none] []
  refine xv_il3 fL_isStory_0 ?_
  refine xv_if_ne fL_isStory_1 (fun h_1 => ?_) (fun h_1 => ?_)
  · refine xv_il4 fL_isStory_205 ?_
    refine xv_al2 fL_isStory_207 ?_
    refine xv_k fL_isStory_208 ?_
    refine xv_ialdN fL_isStory_209 (sx_69 _ _) (⟨by omega, by decide⟩) ?_
    rw [e691]
    refine xv_k fL_isStory_210 ?_
    refine xv_iadd fL_isStory_211 ?_
    refine xv_eqi (y := nI (c.2 + 1)) (nI_add _ _) ?_
    refine xv_irem fL_isStory_212 (nI_ne0 (by omega) (by omega)) ?_
    refine xv_eqi (y := nI a) (by rw [nI_rem h1 (by omega), ea]) ?_
    refine xv_is6 fL_isStory_213 ?_
    refine xv_il6 fL_isStory_215 ?_
    refine xv_al2 fL_isStory_217 ?_
    refine xv_k fL_isStory_218 ?_
    refine xv_ialdN fL_isStory_219 (sx_69 _ _) (⟨by omega, by decide⟩) ?_
    rw [e691]
    refine xv_ic_ge fL_isStory_220 (fun h_220 => ?_) (fun h_220 => ?_)
    · exact absurd ((nI_leI (by omega) (by omega)).mp h_220) (by omega)
    · refine xv_al1 fL_isStory_223 ?_
      refine xv_il6 fL_isStory_224 ?_
      refine xv_ialdN fL_isStory_226 (sx_63 _ _) (⟨by omega, by decide⟩) ?_
      rw [w5]
      refine xv_k fL_isStory_227 ?_
      refine xv_idiv fL_isStory_229 (by decide) ?_
      refine xv_eqi (y := nI ((sec8 + 10 * sh8 + 1000 * d8) / 10)) (nI_div (by omega) (by decide)) ?_
      refine xv_k fL_isStory_230 ?_
      refine xv_irem fL_isStory_232 (by decide) ?_
      refine xv_eqi (y := nI sh8) (by rw [nI_rem (by omega) (by decide)]; congr 1; omega) ?_
      refine xv_if_le fL_isStory_233 (fun h_233 => ?_) (fun h_233 => ?_)
      · exact absurd h_233 (nI_nle hsh8 (by omega))
      · refine xv_k fL_isStory_236 ?_
        refine xv_goto fL_isStory_237 ?_
        refine xv_is7 fL_isStory_241 ?_
        refine xv_il3 fL_isStory_243 ?_
        refine xv_k fL_isStory_244 ?_
        refine xv_ic_ne fL_isStory_245 (fun h_245 => ?_) (fun h_245 => ?_)
        · refine xv_il3 fL_isStory_357 ?_
          refine xv_k fL_isStory_358 ?_
          refine xv_ic_ne fL_isStory_359 (fun h_359 => ?_) (fun h_359 => ?_)
          · refine xv_il5 fL_isStory_471 ?_
            refine xv_al2 fL_isStory_473 ?_
            refine xv_k fL_isStory_474 ?_
            refine xv_ialdN fL_isStory_475 (sx_69 _ _) (⟨by omega, by decide⟩) ?_
            rw [e691]
            refine xv_k fL_isStory_476 ?_
            refine xv_iadd fL_isStory_477 ?_
            refine xv_eqi (y := nI (c.2 + 1)) (nI_add _ _) ?_
            refine xv_irem fL_isStory_478 (nI_ne0 (by omega) (by omega)) ?_
            refine xv_eqi (y := nI b) (by rw [nI_rem h2 (by omega), eb]) ?_
            refine xv_is8 fL_isStory_479 ?_
            refine xv_il8 fL_isStory_481 ?_
            refine xv_al2 fL_isStory_483 ?_
            refine xv_k fL_isStory_484 ?_
            refine xv_ialdN fL_isStory_485 (sx_69 _ _) (⟨by omega, by decide⟩) ?_
            rw [e691]
            refine xv_ic_ge fL_isStory_486 (fun h_486 => ?_) (fun h_486 => ?_)
            · exact absurd ((nI_leI (by omega) (by omega)).mp h_486) (by omega)
            · refine xv_al1 fL_isStory_489 ?_
              refine xv_il8 fL_isStory_490 ?_
              refine xv_ialdN fL_isStory_492 (sx_63 _ _) (⟨by omega, by decide⟩) ?_
              rw [b5]
              refine xv_k fL_isStory_493 ?_
              refine xv_idiv fL_isStory_495 (by decide) ?_
              refine xv_eqi (y := nI ((sec + 10 * sh + 1000 * d) / 10)) (nI_div (by omega) (by decide)) ?_
              refine xv_k fL_isStory_496 ?_
              refine xv_irem fL_isStory_498 (by decide) ?_
              refine xv_eqi (y := nI sh) (by rw [nI_rem (by omega) (by decide)]; congr 1; omega) ?_
              refine xv_if_le fL_isStory_499 (fun h_499 => ?_) (fun h_499 => ?_)
              · refine xv_k fL_isStory_506 ?_
                refine xv_is9 fL_isStory_507 ?_
                refine xv_al0 fL_isStory_509 ?_
                refine xv_k fL_isStory_510 ?_
                refine xv_il6 fL_isStory_512 ?_
                refine xv_il8 fL_isStory_514 ?_
                refine xv_k fL_isStory_516 ?_
                refine xv_k fL_isStory_517 ?_
                refine xv_k fL_isStory_518 ?_
                obtain P1 := p_change_ok n c I J hac (by omega) hbc (by omega) hxs ⟨hla, hlb⟩ (by rw [hF]; decide) hwy
                obtain ⟨C, hC⟩ : ∃ C, C = (xFind (nI sec) (czf d np) np lo (nI (200 + a)) (I 1 6 ||| xPl I (nI (200 + a))) I).2 := ⟨_, rfl⟩
                rw [← hC] at P1 hbest hrows
                obtain F1 : ∀ v j, (v < 20 ∨ 28 < v) → C v j = I v j := fun v j h => by rw [hC]; exact F1 v j h
                obtain ⟨M1, M2, t9, u9, tt, uu, tI, uK, t4⟩ := Mid.change (X := sec8 + 1000 * d8) hI hac hbc hab a1 a2 a3 a4 a5 a6 a7 hu1 hu2 a9 b1 b2 b3 F1 hbest hrows hway hmost d3 (fun sec9 dd9 sh9 q1 q2 q3 q4 => by
                  have := (nI_eq (by omega) (by omega)).mp (w5.symm.trans q4)
                  omega)
                obtain kO : ∀ j, (xOut (201 + 5 * b) pg st sz (nI (200 + b)) (xClear (201 + 5 * a) (xFree (nI (200 + a)) C))) 63 j = I 63 j := fun j => by
                  rw [xOut63 (by omega) hwayb, xClear_o _ _ (by omega), xFree_o _ _ (by omega), F1 _ _ (by omega)]
                obtain kG : ∀ j, (xOut (201 + 5 * b) pg st sz (nI (200 + b)) (xClear (201 + 5 * a) (xFree (nI (200 + a)) C))) 69 j = I 69 j := fun j => by
                  rw [xOut63 (by omega) hwayb, xClear_o _ _ (by omega), xFree_o _ _ (by omega), F1 _ _ (by omega)]
                obtain ⟨K1, hK1⟩ : ∃ K1, K1 = xOut (201 + 5 * b) pg st sz (nI (200 + b)) (xClear (201 + 5 * a) (xFree (nI (200 + a)) C)) := ⟨_, rfl⟩
                rw [← hK1] at P1 M1 M2 uK kO kG
                obtain ⟨x9, x91, x92⟩ := few4 t9 tt u9 uu t4
                rw [uK, tI, x92] at P1
                obtain k69 : K1 69 1 = nI c.2 := (kG 1).trans e691
                obtain kA : K1 63 a = nI (sec8 + 10 * sh8 + 1000 * d8) := (kO a).trans w5
                obtain kB : xv_u K1 63 a (nI (sec8 + 1000 * d8)) 63 b = nI (sec + 10 * sh + 1000 * d) := (xv_u_nk _ _ _ (Ne.symm hab)).trans ((kO b).trans b5)
                obtain kW : xWy (xv_u K1 63 a (nI (sec8 + 1000 * d8))) (201 + 5 * b) pg st sz := xWy_to2 M2 (fun v j h1 h2 => xv_u_ne _ _ _ (by omega))
                obtain kW2 : xWy (xv_u (xv_u K1 63 a (nI (sec8 + 1000 * d8))) 63 b (nI (sec + 10 * u + 1000 * d))) (201 + 5 * b) pg st sz := xWy_to2 kW (fun v j h1 h2 => xv_u_ne _ _ _ (by omega))
                refine xv_callS7R (w_change_ok n c c J P1) fL_isStory_519 YL_does VL_does lL_113 rfl (Nat.le_of_ble_eq_true rfl) (by decide) (by decide) (by decide) ?_
                refine xv_is10 fL_isStory_522 ?_
                refine xv_il6 fL_isStory_524 ?_
                refine xv_al2 fL_isStory_526 ?_
                refine xv_k fL_isStory_527 ?_
                refine xv_ialdN fL_isStory_528 (sx_69 _ _) (⟨by omega, by decide⟩) ?_
                rw [k69]
                refine xv_ic_eq fL_isStory_529 (fun h_529 => ?_) (fun h_529 => ?_)
                · exact absurd ((nI_eq (by omega) (by omega)).mp h_529) (by omega)
                · refine xv_il8 fL_isStory_532 ?_
                  refine xv_al2 fL_isStory_534 ?_
                  refine xv_k fL_isStory_535 ?_
                  refine xv_ialdN fL_isStory_536 (sx_69 _ _) (⟨by omega, by decide⟩) ?_
                  rw [k69]
                  refine xv_ic_eq fL_isStory_537 (fun h_537 => ?_) (fun h_537 => ?_)
                  · exact absurd ((nI_eq (by omega) (by omega)).mp h_537) (by omega)
                  · refine xv_il7 fL_isStory_540 ?_
                    refine xv_if_eq fL_isStory_542 (fun h_542 => ?_) (fun h_542 => ?_)
                    · exact absurd h_542 (by decide)
                    · refine xv_il9 fL_isStory_545 ?_
                      refine xv_if_eq fL_isStory_547 (fun h_547 => ?_) (fun h_547 => ?_)
                      · refine xv_il10 fL_isStory_586 ?_
                        refine xv_if_lt fL_isStory_588 (fun h_588 => ?_) (fun h_588 => ?_)
                        · exact absurd h_588 (nI_pos (by omega))
                        · refine xv_al1 fL_isStory_591 ?_
                          refine xv_il6 fL_isStory_592 ?_
                          refine xv_dup2 fL_isStory_594 ?_
                          refine xv_ialdN fL_isStory_595 (sx_63 _ _) (⟨by omega, by decide⟩) ?_
                          rw [kA]
                          refine xv_al1 fL_isStory_596 ?_
                          refine xv_il6 fL_isStory_597 ?_
                          refine xv_ialdN fL_isStory_599 (sx_63 _ _) (⟨by omega, by decide⟩) ?_
                          rw [kA]
                          refine xv_k fL_isStory_600 ?_
                          refine xv_idiv fL_isStory_602 (by decide) ?_
                          refine xv_eqi (y := nI ((sec8 + 10 * sh8 + 1000 * d8) / 10)) (nI_div (by omega) (by decide)) ?_
                          refine xv_k fL_isStory_603 ?_
                          refine xv_irem fL_isStory_605 (by decide) ?_
                          refine xv_eqi (y := nI sh8) (by rw [nI_rem (by omega) (by decide)]; congr 1; omega) ?_
                          refine xv_k fL_isStory_606 ?_
                          refine xv_imul fL_isStory_608 ?_
                          refine xv_eqi (y := nI (sh8 * 10)) (nI_mul _ _) ?_
                          refine xv_isub fL_isStory_609 ?_
                          refine xv_eqi (y := nI (sec8 + 1000 * d8)) (by rw [nI_sub (by omega)]; congr 1; omega) ?_
                          refine xv_iastN fL_isStory_610 (sx_63 _ _) (⟨by omega, by decide⟩) ?_
                          refine xv_al0 fL_isStory_611 ?_
                          refine xv_al1 fL_isStory_612 ?_
                          refine xv_il8 fL_isStory_613 ?_
                          refine xv_ialdN fL_isStory_615 (sx_63 _ _) (⟨by omega, by decide⟩) ?_
                          rw [kB]
                          refine xv_k fL_isStory_616 ?_
                          refine xv_idiv fL_isStory_619 (by decide) ?_
                          refine xv_eqi (y := nI d) (by rw [nI_div (by omega) (by decide)]; congr 1; omega) ?_
                          refine xv_il8 fL_isStory_620 ?_
                          refine xv_callS3R (c_laid n c _ J hbc (by omega) a2 a3 a5 hu2 hu1 kW hway.1 (hway.fit hu1) (fun N h1 h2 => hway.most (hmost N h1 h2))) fL_isStory_622 YL_laid VL_laid lL_133 rfl (Nat.le_of_ble_eq_true rfl) (by decide) (by decide) (by decide) ?_
                          refine xv_is11 fL_isStory_625 ?_
                          refine xv_al1 fL_isStory_627 ?_
                          refine xv_il8 fL_isStory_628 ?_
                          refine xv_dup2 fL_isStory_630 ?_
                          refine xv_ialdN fL_isStory_631 (sx_63 _ _) (⟨by omega, by decide⟩) ?_
                          rw [kB]
                          refine xv_k fL_isStory_632 ?_
                          refine xv_il11 fL_isStory_634 ?_
                          refine xv_imul fL_isStory_636 ?_
                          refine xv_eqi (y := nI (10 * u)) (nI_mul _ _) ?_
                          refine xv_iadd fL_isStory_637 ?_
                          refine xv_eqi (y := nI (sec + 10 * u + 1000 * d)) (by rw [nI_add]; congr 1; omega) ?_
                          refine xv_iastN fL_isStory_638 (sx_63 _ _) (⟨by omega, by decide⟩) ?_
                          refine xv_il10 fL_isStory_639 ?_
                          refine xv_k fL_isStory_641 ?_
                          refine xv_ic_ge fL_isStory_642 (fun h_642 => ?_) (fun h_642 => ?_)
                          · exact absurd ((nI_leI (by omega) (by omega)).mp h_642) (by omega)
                          · refine xv_il11 fL_isStory_645 ?_
                            refine xv_if_le fL_isStory_647 (fun h_647 => ?_) (fun h_647 => ?_)
                            · exact absurd h_647 (nI_nle hu1 (by omega))
                            · refine xv_al0 fL_isStory_650 ?_
                              refine xv_al1 fL_isStory_651 ?_
                              refine xv_il8 fL_isStory_652 ?_
                              refine xv_ialdN fL_isStory_654 (sx_63 _ _) (⟨by omega, by decide⟩) ?_
                              rw [xv_u_eq]
                              refine xv_il8 fL_isStory_655 ?_
                              refine xv_il11 fL_isStory_657 ?_
                              refine xv_callS4R (c_fitsIn n c _ J hbc (by omega) a2 a3 a5 hu2 hu1 (V := sec + 10 * u + 1000 * d) (by omega) (by omega) kW2 hway.1) fL_isStory_659 YL_fitsIn VL_fitsIn lL_129 rfl (Nat.le_of_ble_eq_true rfl) (by decide) (by decide) (by decide) ?_
                              rw [bi_t (hway.fit hu1)]
                              refine xv_if_eq fL_isStory_662 (fun h_662 => ?_) (fun h_662 => ?_)
                              · exact absurd h_662 (by decide)
                              · refine xv_k fL_isStory_665 ?_
                                refine xv_goto fL_isStory_666 ?_
                                exact xv_iret fL_isStory_670 rfl rfl ⟨rfl, c, rfl, rfl, rfl, M1⟩
                      · exact absurd h_547 (by decide)
              · exact absurd (by rw [hsh]; decide) h_499
          · exact absurd h_359 (by decide)
        · exact absurd h_245 (by decide)
  · exact absurd h_1 (by decide)
theorem c_isStory (n : Nat) (c : Nat × Nat) (I : xv_I) (J : xv_J) {what : Nat} {one two : Nat} (h1 : one < 2 ^ 31) (h2 : two < 2 ^ 31) (hn : n < 1000) (hI : Inv c I) (hw : what < 4) : xv_Met mL_isStory 11 400 3200 (sx n c) I (rx c) J [.ref 0, .ref 63, .ref 69, .int (nI what), .int (nI one), .int (nI two)] (qM n J) := by
  have hmI : ∀ {M d mc ms sh Rf As}, xv_Met M d mc ms sh I Rf J As (qI n J) → xv_Met M d mc ms sh I Rf J As (qM n J) := fun h => xv_Met.imp h (fun _ _ _ _ _ h => qI.m h)
  have ha : one % (c.2 + 1) < c.2 + 1 := Nat.mod_lt _ (by omega)
  have hb : two % (c.2 + 1) < c.2 + 1 := Nat.mod_lt _ (by omega)
  rcases (by omega : what = 0 ∨ what = 1 ∨ what = 2 ∨ what = 3) with rfl | rfl | rfl | rfl
  · by_cases hl : 1 + one / 24 % (1 + one / 4 % 6 + 1) ≤ 1 + one / 4 % 6
    · by_cases h20 : c.2 = 20
      · exact hmI (s_new_d n c I J h1 h2 hn hI rfl rfl rfl hl h20)
      · exact hmI (s_new_ok n c I J h1 h2 hn hI rfl rfl rfl hl (by have := hI.st.2.2.1; omega))
    · exact hmI (s_new_a n c I J h1 h2 hn hI rfl rfl rfl (by omega))
  · by_cases hac : one % (c.2 + 1) = c.2
    · exact hmI (s_lay_a n c I J h1 h2 hn hI rfl hac)
    · obtain ⟨sec, d, np, lo, sh, a1, a2, a3, a4, a5, a6, a7, a8, a9, b1, b2, b3, b4, b5, b6⟩ := hI.st.2.2.2 _ (by omega : one % (c.2 + 1) < c.2)
      have us : ∀ sh', sh' ≤ 6 → I (201 + 5 * (one % (c.2 + 1))) 0 = nI sh' → sh' = sh := fun sh' h9 q => (nI_eq (by omega) (by omega)).mp (q.symm.trans b4)
      rcases Nat.eq_zero_or_pos sh with z | z
      · by_cases hF : (xFind (nI sec) (czf d np) np lo (nI 0) (nI 31) I).1 = nI 0
        · refine hmI (s_lay_no n c I J h1 h2 hn hI rfl (by omega) (fun sh' h9 q => by rw [us sh' h9 q, z]) (fun sec' d' np' lo' q0 q1 q2 q3 r0 r1 r2 r3 => ?_))
          rw [(nI_eq (by omega) (by omega)).mp (q0.symm.trans a9), (nI_eq (by omega) (by omega)).mp (q1.symm.trans b1), (nI_eq (by omega) (by omega)).mp (q2.symm.trans b2), (nI_eq (by omega) (by omega)).mp (q3.symm.trans b3)]
          exact hF
        · refine s_lay_ok n c I J h1 h2 hn hI rfl (by omega) (fun sh' h9 q => by rw [us sh' h9 q, z]) (fun sec' d' np' lo' q0 q1 q2 q3 r0 r1 r2 r3 => ?_)
          rw [(nI_eq (by omega) (by omega)).mp (q0.symm.trans a9), (nI_eq (by omega) (by omega)).mp (q1.symm.trans b1), (nI_eq (by omega) (by omega)).mp (q2.symm.trans b2), (nI_eq (by omega) (by omega)).mp (q3.symm.trans b3)]
          exact hF
      · exact hmI (s_lay_b n c I J h1 h2 hn hI rfl (by omega) (fun sh' h9 q => by rw [us sh' h9 q]; exact z))
  · by_cases hac : one % (c.2 + 1) = c.2
    · exact hmI (s_lift_a n c I J h1 h2 hn hI rfl hac)
    · obtain ⟨sec, d, np, lo, sh, a1, a2, a3, a4, a5, a6, a7, a8, a9, b1, b2, b3, b4, b5, b6⟩ := hI.st.2.2.2 _ (by omega : one % (c.2 + 1) < c.2)
      have us : ∀ sh', sh' ≤ 6 → I (201 + 5 * (one % (c.2 + 1))) 0 = nI sh' → sh' = sh := fun sh' h9 q => (nI_eq (by omega) (by omega)).mp (q.symm.trans b4)
      rcases Nat.eq_zero_or_pos sh with z | z
      · exact hmI (s_lift_b n c I J h1 h2 hn hI rfl (by omega) (fun sh' h9 q => by rw [us sh' h9 q, z]))
      · exact s_lift_ok n c I J h1 h2 hn hI rfl (by omega) (fun sh' h9 q => by rw [us sh' h9 q]; exact z)
  · by_cases hac : one % (c.2 + 1) = c.2
    · by_cases hbc : two % (c.2 + 1) = c.2
      · exact hmI (s_ch_a1 n c I J h1 h2 hn hI rfl rfl hac hbc)
      · exact hmI (s_ch_a2 n c I J h1 h2 hn hI rfl rfl hac (by omega))
    · by_cases hbc : two % (c.2 + 1) = c.2
      · exact hmI (s_ch_b n c I J h1 h2 hn hI rfl rfl (by omega) hbc)
      · by_cases hnl : ¬ I (201 + 5 * (one % (c.2 + 1))) 0 ≤ 0 ∧ ¬ ¬ I (201 + 5 * (two % (c.2 + 1))) 0 ≤ 0
        · obtain ⟨sec, d, np, lo, sh, a1, a2, a3, a4, a5, a6, a7, a8, a9, b1, b2, b3, b4, b5, b6⟩ := hI.st.2.2.2 _ (by omega : two % (c.2 + 1) < c.2)
          by_cases hF : (xFind (nI sec) (czf d np) np lo (nI (200 + one % (c.2 + 1))) (I 1 6 ||| xPl I (nI (200 + one % (c.2 + 1)))) I).1 = nI 0
          · refine hmI (s_ch_no n c I J h1 h2 hn hI rfl rfl (by omega) (by omega) hnl.1 hnl.2 (fun sec' d' np' lo' q0 q1 q2 q3 r0 r1 r2 r3 => ?_))
            rw [(nI_eq (by omega) (by omega)).mp (q0.symm.trans a9), (nI_eq (by omega) (by omega)).mp (q1.symm.trans b1), (nI_eq (by omega) (by omega)).mp (q2.symm.trans b2), (nI_eq (by omega) (by omega)).mp (q3.symm.trans b3)]
            exact hF
          · refine s_ch_ok n c I J h1 h2 hn hI rfl rfl (by omega) (by omega) hnl.1 hnl.2 (fun sec' d' np' lo' q0 q1 q2 q3 r0 r1 r2 r3 => ?_)
            rw [(nI_eq (by omega) (by omega)).mp (q0.symm.trans a9), (nI_eq (by omega) (by omega)).mp (q1.symm.trans b1), (nI_eq (by omega) (by omega)).mp (q2.symm.trans b2), (nI_eq (by omega) (by omega)).mp (q3.symm.trans b3)]
            exact hF
        · exact hmI (s_ch_c n c I J h1 h2 hn hI rfl rfl (by omega) (by omega) hnl)
