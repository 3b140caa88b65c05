theorem fa_asym {a b : Int32} (h1 : a ≤ b) (h2 : b ≤ a) : a = b := by
  rw [fa_le] at h1 h2
  rw [fa_eq]
  omega
theorem xApart_gt {x y : Int32} (h : y < x) (h2 : ¬ (¬ x < nI 7 ∧ ¬ y < nI 7 ∧ ¬ x = y)) : xApart x y = x - y := by
  unfold xApart
  rw [if_neg h2, if_pos (fa_of_lt h).1]
theorem xApart_le {x y : Int32} (h : ¬ y < x) (h2 : ¬ (¬ x < nI 7 ∧ ¬ y < nI 7 ∧ ¬ x = y)) : xApart x y = y - x := by
  unfold xApart
  rw [if_neg h2]
  by_cases h3 : y ≤ x
  · rw [if_pos h3, fa_asym h3 (fa_of_nlt h)]
  · rw [if_neg h3]
theorem xApart_comm (x y : Int32) : xApart x y = xApart y x := by
  by_cases h : ¬ x < nI 7 ∧ ¬ y < nI 7 ∧ ¬ x = y
  · unfold xApart
    rw [if_pos h, if_pos ⟨h.2.1, h.1, fun q => h.2.2 q.symm⟩]
  · have h' : ¬ (¬ y < nI 7 ∧ ¬ x < nI 7 ∧ ¬ y = x) := fun q => h ⟨q.2.1, q.1, fun r => q.2.2 r.symm⟩
    by_cases h3 : y < x
    · rw [xApart_gt h3 h, xApart_le (fa_of_lt h3).2.2.1 h']
    · rw [xApart_le h3 h]
      by_cases h4 : x < y
      · rw [xApart_gt h4 h']
      · rw [xApart_le h4 h', fa_asym (fa_of_nlt h3) (fa_of_nlt h4)]
theorem m_apart (n : Nat) (c : Nat × Nat) (I : xv_I) (J : xv_J) (x y : Int32) : xv_Met mX11_apart 0 0 0 (sx n c) I (rx c) J [.int x, .int y] (xv_eq (.inl (some (.int (xApart x y)))) (sx n c) (I) (rx c) J) := by
  refine xv_Met.of (by decide +kernel) (Nat.le_of_ble_eq_true rfl) (List.forall_mem_cons.mpr ⟨rfl, List.forall_mem_cons.mpr ⟨rfl, fun _ h => nomatch h⟩⟩) ?_
  show xv_W mX11_apart 0 0 0 _ 0 0 (sx n c) I (rx c) J 0 [some (.int x), some (.int y)] []
  refine xv_il0 fX11_apart_0 ?_
  refine xv_k fX11_apart_1 ?_
  refine xv_ic_lt fX11_apart_3 (fun h_3 => ?_) (fun h_3 => ?_)
  · refine xv_il0 fX11_apart_20 ?_
    refine xv_il1 fX11_apart_21 ?_
    refine xv_ic_le fX11_apart_22 (fun h_22 => ?_) (fun h_22 => ?_)
    · refine xv_il1 fX11_apart_31 ?_
      refine xv_il0 fX11_apart_32 ?_
      refine xv_isub fX11_apart_33 ?_
      exact xv_iret fX11_apart_34 rfl rfl (xv_eq_I (by rw [xApart_le (fa_le_nlt h_22) (fun q => q.1 h_3)]) rfl)
    · refine xv_il0 fX11_apart_25 ?_
      refine xv_il1 fX11_apart_26 ?_
      refine xv_isub fX11_apart_27 ?_
      refine xv_goto fX11_apart_28 ?_
      exact xv_iret fX11_apart_34 rfl rfl (xv_eq_I (by rw [xApart_gt (fa_of_nle h_22) (fun q => q.1 h_3)]) rfl)
  · refine xv_il1 fX11_apart_6 ?_
    refine xv_k fX11_apart_7 ?_
    refine xv_ic_lt fX11_apart_9 (fun h_9 => ?_) (fun h_9 => ?_)
    · refine xv_il0 fX11_apart_20 ?_
      refine xv_il1 fX11_apart_21 ?_
      refine xv_ic_le fX11_apart_22 (fun h_22 => ?_) (fun h_22 => ?_)
      · refine xv_il1 fX11_apart_31 ?_
        refine xv_il0 fX11_apart_32 ?_
        refine xv_isub fX11_apart_33 ?_
        exact xv_iret fX11_apart_34 rfl rfl (xv_eq_I (by rw [xApart_le (fa_le_nlt h_22) (fun q => q.2.1 h_9)]) rfl)
      · refine xv_il0 fX11_apart_25 ?_
        refine xv_il1 fX11_apart_26 ?_
        refine xv_isub fX11_apart_27 ?_
        refine xv_goto fX11_apart_28 ?_
        exact xv_iret fX11_apart_34 rfl rfl (xv_eq_I (by rw [xApart_gt (fa_of_nle h_22) (fun q => q.2.1 h_9)]) rfl)
    · refine xv_il0 fX11_apart_12 ?_
      refine xv_il1 fX11_apart_13 ?_
      refine xv_ic_eq fX11_apart_14 (fun h_14 => ?_) (fun h_14 => ?_)
      · refine xv_il0 fX11_apart_20 ?_
        refine xv_il1 fX11_apart_21 ?_
        refine xv_ic_le fX11_apart_22 (fun h_22 => ?_) (fun h_22 => ?_)
        · refine xv_il1 fX11_apart_31 ?_
          refine xv_il0 fX11_apart_32 ?_
          refine xv_isub fX11_apart_33 ?_
          exact xv_iret fX11_apart_34 rfl rfl (xv_eq_I (by rw [xApart_le (fa_le_nlt h_22) (fun q => q.2.2 h_14)]) rfl)
        · refine xv_il0 fX11_apart_25 ?_
          refine xv_il1 fX11_apart_26 ?_
          refine xv_isub fX11_apart_27 ?_
          refine xv_goto fX11_apart_28 ?_
          exact xv_iret fX11_apart_34 rfl rfl (xv_eq_I (by rw [xApart_gt (fa_of_nle h_22) (fun q => q.2.2 h_14)]) rfl)
      · refine xv_k fX11_apart_17 ?_
        exact xv_iret fX11_apart_19 rfl rfl (xv_eq_I (by rw [xApart, if_pos ⟨h_3, h_9, h_14⟩]) rfl)

abbrev mZone (I : xv_I) (a p : Nat) : Prop := (I 70 a = -1 ∧ nI p < nI 7) ∨ (¬ I 70 a = -1 ∧ nI p = nI 7 + I 70 a)
abbrev mKind (I : xv_I) (a p : Nat) : Prop := mZone I a p ∧ (I 69 a = -1 ∨ I 69 a = I 61 p) ∧ (¬ I 62 p = 0 ∨ I 68 a = 0)
abbrev mFar1 (I : xv_I) (a ct p k : Nat) : Prop := k = a ∨ I 71 k = -1 ∨ ¬ I 65 k = I 65 a ∨ ¬ xApart (I 71 k / nI 100) (nI p) < I 64 ct
abbrev mFitPg (I : xv_I) (na a ct p : Nat) : Prop := mKind I a p ∧ ∀ k, k < na → mFar1 I a ct p k
theorem nI_inj2 {a b : Nat} (h : nI a = nI b) (ha : a < 2 ^ 31) (hb : b < 2 ^ 31) : a = b := Classical.byContradiction fun q => nI_ne2 q ha hb h
theorem l_mfits (n : Nat) (c : Nat × Nat) (I : xv_I) (J : xv_J) {a ct p : Nat} (ha : a < c.1) (hc20 : c.1 ≤ 20) (hp : p < 10) (hct : I 65 a = nI ct) (hct2 : ct < 4) (hn : I 60 5 = nI c.1) : ∀ (m k : Nat) (s : Int32), k + m = c.1 → (s = bi (mKind I a p ∧ ∀ j, j < k → mFar1 I a ct p j)) → xv_W mX11_fits 1 0 0 (xv_eq (.inl (some (.int (bi (mFitPg I c.1 a ct p))))) (sx n c) (I) (rx c) J) 0 0 (sx n c) I (rx c) J 99 [some (.ref 60), some (.int (nI a)), some (.int (nI p)), some (.int s), some (.int (nI k))] [] := by
  intro m
  induction m with
  | zero =>
    intro k s hm i0
    obtain rfl : k = c.1 := by omega
    refine xv_il4 fX11_fits_99 ?_
    refine xv_al0 fX11_fits_101 ?_
    refine xv_getI fX11_fits_102 gX11_147 rfl (sx_60 _ _) ?_
    rw [hn]
    refine xv_ic_ge fX11_fits_105 (fun h_105 => ?_) (fun h_105 => ?_)
    · refine xv_il3 fX11_fits_185 ?_
      exact xv_iret fX11_fits_186 rfl (i0 ▸ narrow_bi _) (xv_eq_I (by rw [i0]) rfl)
    · exact absurd (nI_le (Nat.le_refl _) (by omega)) h_105
  | succ m ih =>
    intro k s hm i0
    have hk : k < c.1 := by omega
    show xv_W mX11_fits 1 0 0 _ 0 0 (sx n c) I (rx c) J 99 [some (.ref 60), some (.int (nI a)), some (.int (nI p)), some (.int s), some (.int (nI k))] []
    refine xv_il4 fX11_fits_99 ?_
    refine xv_al0 fX11_fits_101 ?_
    refine xv_getI fX11_fits_102 gX11_147 rfl (sx_60 _ _) ?_
    rw [hn]
    refine xv_ic_ge fX11_fits_105 (fun h_105 => ?_) (fun h_105 => ?_)
    · exact absurd h_105 (nI_ge hk (by omega))
    · refine xv_il3 fX11_fits_108 ?_
      refine xv_if_eq fX11_fits_109 (fun h_109 => ?_) (fun h_109 => ?_)
      · refine xv_il3 fX11_fits_185 ?_
        exact xv_iret fX11_fits_186 rfl (i0 ▸ narrow_bi _) (xv_eq_I (by rw [i0, bi_iff (P := mKind I a p ∧ ∀ j, j < k → mFar1 I a ct p j) (Q := mFitPg I c.1 a ct p) ⟨fun h => absurd h (bi_0 (i0.symm.trans h_109)), fun h => ⟨h.1, fun j hj => h.2 j (by omega)⟩⟩]) rfl)
      · refine xv_il4 fX11_fits_112 ?_
        refine xv_il1 fX11_fits_114 ?_
        refine xv_ic_eq fX11_fits_115 (fun h_115 => ?_) (fun h_115 => ?_)
        · refine xv_k fX11_fits_173 ?_
          refine xv_goto fX11_fits_174 ?_
          refine xv_is3 fX11_fits_178 ?_
          refine xv_iincN4 (a := 1) fX11_fits_179 (by decide) ?_
          refine xv_goto fX11_fits_182 ?_
          exact ih (k + 1) _ (by omega) (bi_t ⟨(bi_1 (fun q => h_109 (i0.trans q))).1, lt_or (bi_1 (fun q => h_109 (i0.trans q))).2 (Or.inl (nI_inj2 h_115 (by omega) (by omega)))⟩).symm
        · refine xv_al0 fX11_fits_118 ?_
          refine xv_getR fX11_fits_119 gX11_41 rfl (sx_60 _ _) (rx_60_12 _) ?_
          refine xv_il4 fX11_fits_122 ?_
          refine xv_ialdN fX11_fits_124 (sx_71 _ _) (⟨by omega, by decide⟩) ?_
          refine xv_k fX11_fits_125 ?_
          refine xv_ic_eq fX11_fits_126 (fun h_126 => ?_) (fun h_126 => ?_)
          · refine xv_k fX11_fits_173 ?_
            refine xv_goto fX11_fits_174 ?_
            refine xv_is3 fX11_fits_178 ?_
            refine xv_iincN4 (a := 1) fX11_fits_179 (by decide) ?_
            refine xv_goto fX11_fits_182 ?_
            exact ih (k + 1) _ (by omega) (bi_t ⟨(bi_1 (fun q => h_109 (i0.trans q))).1, lt_or (bi_1 (fun q => h_109 (i0.trans q))).2 (Or.inr (Or.inl h_126))⟩).symm
          · refine xv_al0 fX11_fits_129 ?_
            refine xv_getR fX11_fits_130 gX11_23 rfl (sx_60 _ _) (rx_60_6 _) ?_
            refine xv_il4 fX11_fits_133 ?_
            refine xv_ialdN fX11_fits_135 (sx_65 _ _) (⟨by omega, by decide⟩) ?_
            refine xv_al0 fX11_fits_136 ?_
            refine xv_getR fX11_fits_137 gX11_23 rfl (sx_60 _ _) (rx_60_6 _) ?_
            refine xv_il1 fX11_fits_140 ?_
            refine xv_ialdN fX11_fits_141 (sx_65 _ _) (⟨by omega, by decide⟩) ?_
            refine xv_ic_ne fX11_fits_142 (fun h_142 => ?_) (fun h_142 => ?_)
            · refine xv_k fX11_fits_173 ?_
              refine xv_goto fX11_fits_174 ?_
              refine xv_is3 fX11_fits_178 ?_
              refine xv_iincN4 (a := 1) fX11_fits_179 (by decide) ?_
              refine xv_goto fX11_fits_182 ?_
              exact ih (k + 1) _ (by omega) (bi_t ⟨(bi_1 (fun q => h_109 (i0.trans q))).1, lt_or (bi_1 (fun q => h_109 (i0.trans q))).2 (Or.inr (Or.inr (Or.inl h_142)))⟩).symm
            · refine xv_al0 fX11_fits_145 ?_
              refine xv_getR fX11_fits_146 gX11_41 rfl (sx_60 _ _) (rx_60_12 _) ?_
              refine xv_il4 fX11_fits_149 ?_
              refine xv_ialdN fX11_fits_151 (sx_71 _ _) (⟨by omega, by decide⟩) ?_
              refine xv_k fX11_fits_152 ?_
              refine xv_idiv fX11_fits_154 (by decide) ?_
              refine xv_il2 fX11_fits_155 ?_
              refine xv_callS2R (m_apart n c _ J _ _) fX11_fits_156 YX11_apart VX11_apart lX11_150 rfl (Nat.le_of_ble_eq_true rfl) (by decide) (by decide) (by decide) ?_
              refine xv_al0 fX11_fits_159 ?_
              refine xv_getR fX11_fits_160 gX11_20 rfl (sx_60 _ _) (rx_60_4 _) ?_
              refine xv_al0 fX11_fits_163 ?_
              refine xv_getR fX11_fits_164 gX11_23 rfl (sx_60 _ _) (rx_60_6 _) ?_
              refine xv_il1 fX11_fits_167 ?_
              refine xv_ialdN fX11_fits_168 (sx_65 _ _) (⟨by omega, by decide⟩) ?_
              rw [hct]
              refine xv_ialdN fX11_fits_169 (sx_64 _ _) (⟨hct2, by decide⟩) ?_
              refine xv_ic_lt fX11_fits_170 (fun h_170 => ?_) (fun h_170 => ?_)
              · refine xv_k fX11_fits_177 ?_
                refine xv_is3 fX11_fits_178 ?_
                refine xv_iincN4 (a := 1) fX11_fits_179 (by decide) ?_
                refine xv_goto fX11_fits_182 ?_
                exact ih (k + 1) _ (by omega) (bi_f (fun h => (h.2 k (by omega)).elim (fun q => h_115 (by rw [q])) (fun q => q.elim h_126 (fun q => q.elim (fun q => q h_142) (fun q => q h_170))))).symm
              · refine xv_k fX11_fits_173 ?_
                refine xv_goto fX11_fits_174 ?_
                refine xv_is3 fX11_fits_178 ?_
                refine xv_iincN4 (a := 1) fX11_fits_179 (by decide) ?_
                refine xv_goto fX11_fits_182 ?_
                exact ih (k + 1) _ (by omega) (bi_t ⟨(bi_1 (fun q => h_109 (i0.trans q))).1, lt_or (bi_1 (fun q => h_109 (i0.trans q))).2 (Or.inr (Or.inr (Or.inr h_170)))⟩).symm

theorem m_fits (n : Nat) (c : Nat × Nat) (I : xv_I) (J : xv_J) {a ct p : Nat} (ha : a < c.1) (hc20 : c.1 ≤ 20) (hp : p < 10) (hct : I 65 a = nI ct) (hct2 : ct < 4) (hn : I 60 5 = nI c.1) : xv_Met mX11_fits 1 0 0 (sx n c) I (rx c) J [.ref 60, .int (nI a), .int (nI p)] (xv_eq (.inl (some (.int (bi (mFitPg I c.1 a ct p))))) (sx n c) (I) (rx c) J) := by
  refine xv_Met.of (by decide +kernel) (Nat.le_of_ble_eq_true rfl) (List.forall_mem_cons.mpr ⟨rfl, List.forall_mem_cons.mpr ⟨rfl, List.forall_mem_cons.mpr ⟨rfl, fun _ h => nomatch h⟩⟩⟩) ?_
  show xv_W mX11_fits 1 0 0 _ 0 0 (sx n c) I (rx c) J 0 [some (.ref 60), some (.int (nI a)), some (.int (nI p)), none, none] []
  refine xv_al0 fX11_fits_0 ?_
  refine xv_getR fX11_fits_1 gX11_38 rfl (sx_60 _ _) (rx_60_11 _) ?_
  refine xv_il1 fX11_fits_4 ?_
  refine xv_ialdN fX11_fits_5 (sx_70 _ _) (⟨by omega, by decide⟩) ?_
  refine xv_k fX11_fits_6 ?_
  refine xv_ic_ne fX11_fits_7 (fun h_7 => ?_) (fun h_7 => ?_)
  · refine xv_il2 fX11_fits_24 ?_
    refine xv_k fX11_fits_25 ?_
    refine xv_al0 fX11_fits_27 ?_
    refine xv_getR fX11_fits_28 gX11_38 rfl (sx_60 _ _) (rx_60_11 _) ?_
    refine xv_il1 fX11_fits_31 ?_
    refine xv_ialdN fX11_fits_32 (sx_70 _ _) (⟨by omega, by decide⟩) ?_
    refine xv_iadd fX11_fits_33 ?_
    refine xv_ic_ne fX11_fits_34 (fun h_34 => ?_) (fun h_34 => ?_)
    · refine xv_k fX11_fits_41 ?_
      refine xv_eqi (y := bi (mZone I a p)) (by rw [bi_f (fun h => h.elim (fun q => h_7 q.1) (fun q => h_34 q.2))]) ?_
      refine xv_is3 fX11_fits_42 ?_
      refine xv_il3 fX11_fits_43 ?_
      refine xv_if_eq fX11_fits_44 (fun h_44 => ?_) (fun h_44 => ?_)
      · refine xv_k fX11_fits_94 ?_
        refine xv_eqi (y := bi (mKind I a p)) (by rw [bi_f (fun h => bi_0 h_44 h.1)]) ?_
        refine xv_is3 fX11_fits_95 ?_
        refine xv_k fX11_fits_96 ?_
        refine xv_is4 fX11_fits_97 ?_
        exact l_mfits n c I J ha hc20 hp hct hct2 hn c.1 0 _ (by omega) (bi_iff ⟨fun h => ⟨h, lt_no⟩, fun h => h.1⟩)
      · refine xv_al0 fX11_fits_47 ?_
        refine xv_getR fX11_fits_48 gX11_35 rfl (sx_60 _ _) (rx_60_10 _) ?_
        refine xv_il1 fX11_fits_51 ?_
        refine xv_ialdN fX11_fits_52 (sx_69 _ _) (⟨by omega, by decide⟩) ?_
        refine xv_k fX11_fits_53 ?_
        refine xv_ic_eq fX11_fits_54 (fun h_54 => ?_) (fun h_54 => ?_)
        · refine xv_al0 fX11_fits_72 ?_
          refine xv_getR fX11_fits_73 gX11_13 rfl (sx_60 _ _) (rx_60_1 _) ?_
          refine xv_il2 fX11_fits_76 ?_
          refine xv_zaldN fX11_fits_77 (sx_62 _ _) (⟨by omega, by decide⟩) ?_
          refine xv_if_ne fX11_fits_78 (fun h_78 => ?_) (fun h_78 => ?_)
          · refine xv_k fX11_fits_90 ?_
            refine xv_goto fX11_fits_91 ?_
            refine xv_eqi (y := bi (mKind I a p)) (by rw [bi_t ⟨bi_1 h_44, Or.inl h_54, Or.inl h_78⟩]) ?_
            refine xv_is3 fX11_fits_95 ?_
            refine xv_k fX11_fits_96 ?_
            refine xv_is4 fX11_fits_97 ?_
            exact l_mfits n c I J ha hc20 hp hct hct2 hn c.1 0 _ (by omega) (bi_iff ⟨fun h => ⟨h, lt_no⟩, fun h => h.1⟩)
          · refine xv_al0 fX11_fits_81 ?_
            refine xv_getR fX11_fits_82 gX11_32 rfl (sx_60 _ _) (rx_60_9 _) ?_
            refine xv_il1 fX11_fits_85 ?_
            refine xv_zaldN fX11_fits_86 (sx_68 _ _) (⟨by omega, by decide⟩) ?_
            refine xv_if_ne fX11_fits_87 (fun h_87 => ?_) (fun h_87 => ?_)
            · refine xv_k fX11_fits_94 ?_
              refine xv_eqi (y := bi (mKind I a p)) (by rw [bi_f (fun h => h.2.2.elim (fun q => q h_78) h_87)]) ?_
              refine xv_is3 fX11_fits_95 ?_
              refine xv_k fX11_fits_96 ?_
              refine xv_is4 fX11_fits_97 ?_
              exact l_mfits n c I J ha hc20 hp hct hct2 hn c.1 0 _ (by omega) (bi_iff ⟨fun h => ⟨h, lt_no⟩, fun h => h.1⟩)
            · refine xv_k fX11_fits_90 ?_
              refine xv_goto fX11_fits_91 ?_
              refine xv_eqi (y := bi (mKind I a p)) (by rw [bi_t ⟨bi_1 h_44, Or.inl h_54, Or.inr h_87⟩]) ?_
              refine xv_is3 fX11_fits_95 ?_
              refine xv_k fX11_fits_96 ?_
              refine xv_is4 fX11_fits_97 ?_
              exact l_mfits n c I J ha hc20 hp hct hct2 hn c.1 0 _ (by omega) (bi_iff ⟨fun h => ⟨h, lt_no⟩, fun h => h.1⟩)
        · refine xv_al0 fX11_fits_57 ?_
          refine xv_getR fX11_fits_58 gX11_35 rfl (sx_60 _ _) (rx_60_10 _) ?_
          refine xv_il1 fX11_fits_61 ?_
          refine xv_ialdN fX11_fits_62 (sx_69 _ _) (⟨by omega, by decide⟩) ?_
          refine xv_al0 fX11_fits_63 ?_
          refine xv_getR fX11_fits_64 gX11_7 rfl (sx_60 _ _) (rx_60_0 _) ?_
          refine xv_il2 fX11_fits_67 ?_
          refine xv_ialdN fX11_fits_68 (sx_61 _ _) (⟨by omega, by decide⟩) ?_
          refine xv_ic_ne fX11_fits_69 (fun h_69 => ?_) (fun h_69 => ?_)
          · refine xv_k fX11_fits_94 ?_
            refine xv_eqi (y := bi (mKind I a p)) (by rw [bi_f (fun h => h.2.1.elim h_54 h_69)]) ?_
            refine xv_is3 fX11_fits_95 ?_
            refine xv_k fX11_fits_96 ?_
            refine xv_is4 fX11_fits_97 ?_
            exact l_mfits n c I J ha hc20 hp hct hct2 hn c.1 0 _ (by omega) (bi_iff ⟨fun h => ⟨h, lt_no⟩, fun h => h.1⟩)
          · refine xv_al0 fX11_fits_72 ?_
            refine xv_getR fX11_fits_73 gX11_13 rfl (sx_60 _ _) (rx_60_1 _) ?_
            refine xv_il2 fX11_fits_76 ?_
            refine xv_zaldN fX11_fits_77 (sx_62 _ _) (⟨by omega, by decide⟩) ?_
            refine xv_if_ne fX11_fits_78 (fun h_78 => ?_) (fun h_78 => ?_)
            · refine xv_k fX11_fits_90 ?_
              refine xv_goto fX11_fits_91 ?_
              refine xv_eqi (y := bi (mKind I a p)) (by rw [bi_t ⟨bi_1 h_44, Or.inr h_69, Or.inl h_78⟩]) ?_
              refine xv_is3 fX11_fits_95 ?_
              refine xv_k fX11_fits_96 ?_
              refine xv_is4 fX11_fits_97 ?_
              exact l_mfits n c I J ha hc20 hp hct hct2 hn c.1 0 _ (by omega) (bi_iff ⟨fun h => ⟨h, lt_no⟩, fun h => h.1⟩)
            · refine xv_al0 fX11_fits_81 ?_
              refine xv_getR fX11_fits_82 gX11_32 rfl (sx_60 _ _) (rx_60_9 _) ?_
              refine xv_il1 fX11_fits_85 ?_
              refine xv_zaldN fX11_fits_86 (sx_68 _ _) (⟨by omega, by decide⟩) ?_
              refine xv_if_ne fX11_fits_87 (fun h_87 => ?_) (fun h_87 => ?_)
              · refine xv_k fX11_fits_94 ?_
                refine xv_eqi (y := bi (mKind I a p)) (by rw [bi_f (fun h => h.2.2.elim (fun q => q h_78) h_87)]) ?_
                refine xv_is3 fX11_fits_95 ?_
                refine xv_k fX11_fits_96 ?_
                refine xv_is4 fX11_fits_97 ?_
                exact l_mfits n c I J ha hc20 hp hct hct2 hn c.1 0 _ (by omega) (bi_iff ⟨fun h => ⟨h, lt_no⟩, fun h => h.1⟩)
              · refine xv_k fX11_fits_90 ?_
                refine xv_goto fX11_fits_91 ?_
                refine xv_eqi (y := bi (mKind I a p)) (by rw [bi_t ⟨bi_1 h_44, Or.inr h_69, Or.inr h_87⟩]) ?_
                refine xv_is3 fX11_fits_95 ?_
                refine xv_k fX11_fits_96 ?_
                refine xv_is4 fX11_fits_97 ?_
                exact l_mfits n c I J ha hc20 hp hct hct2 hn c.1 0 _ (by omega) (bi_iff ⟨fun h => ⟨h, lt_no⟩, fun h => h.1⟩)
    · refine xv_k fX11_fits_37 ?_
      refine xv_goto fX11_fits_38 ?_
      refine xv_eqi (y := bi (mZone I a p)) (by rw [bi_t (Or.inr ⟨h_7, h_34⟩)]) ?_
      refine xv_is3 fX11_fits_42 ?_
      refine xv_il3 fX11_fits_43 ?_
      refine xv_if_eq fX11_fits_44 (fun h_44 => ?_) (fun h_44 => ?_)
      · refine xv_k fX11_fits_94 ?_
        refine xv_eqi (y := bi (mKind I a p)) (by rw [bi_f (fun h => bi_0 h_44 h.1)]) ?_
        refine xv_is3 fX11_fits_95 ?_
        refine xv_k fX11_fits_96 ?_
        refine xv_is4 fX11_fits_97 ?_
        exact l_mfits n c I J ha hc20 hp hct hct2 hn c.1 0 _ (by omega) (bi_iff ⟨fun h => ⟨h, lt_no⟩, fun h => h.1⟩)
      · refine xv_al0 fX11_fits_47 ?_
        refine xv_getR fX11_fits_48 gX11_35 rfl (sx_60 _ _) (rx_60_10 _) ?_
        refine xv_il1 fX11_fits_51 ?_
        refine xv_ialdN fX11_fits_52 (sx_69 _ _) (⟨by omega, by decide⟩) ?_
        refine xv_k fX11_fits_53 ?_
        refine xv_ic_eq fX11_fits_54 (fun h_54 => ?_) (fun h_54 => ?_)
        · refine xv_al0 fX11_fits_72 ?_
          refine xv_getR fX11_fits_73 gX11_13 rfl (sx_60 _ _) (rx_60_1 _) ?_
          refine xv_il2 fX11_fits_76 ?_
          refine xv_zaldN fX11_fits_77 (sx_62 _ _) (⟨by omega, by decide⟩) ?_
          refine xv_if_ne fX11_fits_78 (fun h_78 => ?_) (fun h_78 => ?_)
          · refine xv_k fX11_fits_90 ?_
            refine xv_goto fX11_fits_91 ?_
            refine xv_eqi (y := bi (mKind I a p)) (by rw [bi_t ⟨bi_1 h_44, Or.inl h_54, Or.inl h_78⟩]) ?_
            refine xv_is3 fX11_fits_95 ?_
            refine xv_k fX11_fits_96 ?_
            refine xv_is4 fX11_fits_97 ?_
            exact l_mfits n c I J ha hc20 hp hct hct2 hn c.1 0 _ (by omega) (bi_iff ⟨fun h => ⟨h, lt_no⟩, fun h => h.1⟩)
          · refine xv_al0 fX11_fits_81 ?_
            refine xv_getR fX11_fits_82 gX11_32 rfl (sx_60 _ _) (rx_60_9 _) ?_
            refine xv_il1 fX11_fits_85 ?_
            refine xv_zaldN fX11_fits_86 (sx_68 _ _) (⟨by omega, by decide⟩) ?_
            refine xv_if_ne fX11_fits_87 (fun h_87 => ?_) (fun h_87 => ?_)
            · refine xv_k fX11_fits_94 ?_
              refine xv_eqi (y := bi (mKind I a p)) (by rw [bi_f (fun h => h.2.2.elim (fun q => q h_78) h_87)]) ?_
              refine xv_is3 fX11_fits_95 ?_
              refine xv_k fX11_fits_96 ?_
              refine xv_is4 fX11_fits_97 ?_
              exact l_mfits n c I J ha hc20 hp hct hct2 hn c.1 0 _ (by omega) (bi_iff ⟨fun h => ⟨h, lt_no⟩, fun h => h.1⟩)
            · refine xv_k fX11_fits_90 ?_
              refine xv_goto fX11_fits_91 ?_
              refine xv_eqi (y := bi (mKind I a p)) (by rw [bi_t ⟨bi_1 h_44, Or.inl h_54, Or.inr h_87⟩]) ?_
              refine xv_is3 fX11_fits_95 ?_
              refine xv_k fX11_fits_96 ?_
              refine xv_is4 fX11_fits_97 ?_
              exact l_mfits n c I J ha hc20 hp hct hct2 hn c.1 0 _ (by omega) (bi_iff ⟨fun h => ⟨h, lt_no⟩, fun h => h.1⟩)
        · refine xv_al0 fX11_fits_57 ?_
          refine xv_getR fX11_fits_58 gX11_35 rfl (sx_60 _ _) (rx_60_10 _) ?_
          refine xv_il1 fX11_fits_61 ?_
          refine xv_ialdN fX11_fits_62 (sx_69 _ _) (⟨by omega, by decide⟩) ?_
          refine xv_al0 fX11_fits_63 ?_
          refine xv_getR fX11_fits_64 gX11_7 rfl (sx_60 _ _) (rx_60_0 _) ?_
          refine xv_il2 fX11_fits_67 ?_
          refine xv_ialdN fX11_fits_68 (sx_61 _ _) (⟨by omega, by decide⟩) ?_
          refine xv_ic_ne fX11_fits_69 (fun h_69 => ?_) (fun h_69 => ?_)
          · refine xv_k fX11_fits_94 ?_
            refine xv_eqi (y := bi (mKind I a p)) (by rw [bi_f (fun h => h.2.1.elim h_54 h_69)]) ?_
            refine xv_is3 fX11_fits_95 ?_
            refine xv_k fX11_fits_96 ?_
            refine xv_is4 fX11_fits_97 ?_
            exact l_mfits n c I J ha hc20 hp hct hct2 hn c.1 0 _ (by omega) (bi_iff ⟨fun h => ⟨h, lt_no⟩, fun h => h.1⟩)
          · refine xv_al0 fX11_fits_72 ?_
            refine xv_getR fX11_fits_73 gX11_13 rfl (sx_60 _ _) (rx_60_1 _) ?_
            refine xv_il2 fX11_fits_76 ?_
            refine xv_zaldN fX11_fits_77 (sx_62 _ _) (⟨by omega, by decide⟩) ?_
            refine xv_if_ne fX11_fits_78 (fun h_78 => ?_) (fun h_78 => ?_)
            · refine xv_k fX11_fits_90 ?_
              refine xv_goto fX11_fits_91 ?_
              refine xv_eqi (y := bi (mKind I a p)) (by rw [bi_t ⟨bi_1 h_44, Or.inr h_69, Or.inl h_78⟩]) ?_
              refine xv_is3 fX11_fits_95 ?_
              refine xv_k fX11_fits_96 ?_
              refine xv_is4 fX11_fits_97 ?_
              exact l_mfits n c I J ha hc20 hp hct hct2 hn c.1 0 _ (by omega) (bi_iff ⟨fun h => ⟨h, lt_no⟩, fun h => h.1⟩)
            · refine xv_al0 fX11_fits_81 ?_
              refine xv_getR fX11_fits_82 gX11_32 rfl (sx_60 _ _) (rx_60_9 _) ?_
              refine xv_il1 fX11_fits_85 ?_
              refine xv_zaldN fX11_fits_86 (sx_68 _ _) (⟨by omega, by decide⟩) ?_
              refine xv_if_ne fX11_fits_87 (fun h_87 => ?_) (fun h_87 => ?_)
              · refine xv_k fX11_fits_94 ?_
                refine xv_eqi (y := bi (mKind I a p)) (by rw [bi_f (fun h => h.2.2.elim (fun q => q h_78) h_87)]) ?_
                refine xv_is3 fX11_fits_95 ?_
                refine xv_k fX11_fits_96 ?_
                refine xv_is4 fX11_fits_97 ?_
                exact l_mfits n c I J ha hc20 hp hct hct2 hn c.1 0 _ (by omega) (bi_iff ⟨fun h => ⟨h, lt_no⟩, fun h => h.1⟩)
              · refine xv_k fX11_fits_90 ?_
                refine xv_goto fX11_fits_91 ?_
                refine xv_eqi (y := bi (mKind I a p)) (by rw [bi_t ⟨bi_1 h_44, Or.inr h_69, Or.inr h_87⟩]) ?_
                refine xv_is3 fX11_fits_95 ?_
                refine xv_k fX11_fits_96 ?_
                refine xv_is4 fX11_fits_97 ?_
                exact l_mfits n c I J ha hc20 hp hct hct2 hn c.1 0 _ (by omega) (bi_iff ⟨fun h => ⟨h, lt_no⟩, fun h => h.1⟩)
  · refine xv_il2 fX11_fits_10 ?_
    refine xv_k fX11_fits_11 ?_
    refine xv_ic_ge fX11_fits_13 (fun h_13 => ?_) (fun h_13 => ?_)
    · refine xv_k fX11_fits_20 ?_
      refine xv_goto fX11_fits_21 ?_
      refine xv_eqi (y := bi (mZone I a p)) (by rw [bi_f (fun h => h.elim (fun q => fa_le_nlt h_13 q.2) (fun q => q.1 h_7))]) ?_
      refine xv_is3 fX11_fits_42 ?_
      refine xv_il3 fX11_fits_43 ?_
      refine xv_if_eq fX11_fits_44 (fun h_44 => ?_) (fun h_44 => ?_)
      · refine xv_k fX11_fits_94 ?_
        refine xv_eqi (y := bi (mKind I a p)) (by rw [bi_f (fun h => bi_0 h_44 h.1)]) ?_
        refine xv_is3 fX11_fits_95 ?_
        refine xv_k fX11_fits_96 ?_
        refine xv_is4 fX11_fits_97 ?_
        exact l_mfits n c I J ha hc20 hp hct hct2 hn c.1 0 _ (by omega) (bi_iff ⟨fun h => ⟨h, lt_no⟩, fun h => h.1⟩)
      · refine xv_al0 fX11_fits_47 ?_
        refine xv_getR fX11_fits_48 gX11_35 rfl (sx_60 _ _) (rx_60_10 _) ?_
        refine xv_il1 fX11_fits_51 ?_
        refine xv_ialdN fX11_fits_52 (sx_69 _ _) (⟨by omega, by decide⟩) ?_
        refine xv_k fX11_fits_53 ?_
        refine xv_ic_eq fX11_fits_54 (fun h_54 => ?_) (fun h_54 => ?_)
        · refine xv_al0 fX11_fits_72 ?_
          refine xv_getR fX11_fits_73 gX11_13 rfl (sx_60 _ _) (rx_60_1 _) ?_
          refine xv_il2 fX11_fits_76 ?_
          refine xv_zaldN fX11_fits_77 (sx_62 _ _) (⟨by omega, by decide⟩) ?_
          refine xv_if_ne fX11_fits_78 (fun h_78 => ?_) (fun h_78 => ?_)
          · refine xv_k fX11_fits_90 ?_
            refine xv_goto fX11_fits_91 ?_
            refine xv_eqi (y := bi (mKind I a p)) (by rw [bi_t ⟨bi_1 h_44, Or.inl h_54, Or.inl h_78⟩]) ?_
            refine xv_is3 fX11_fits_95 ?_
            refine xv_k fX11_fits_96 ?_
            refine xv_is4 fX11_fits_97 ?_
            exact l_mfits n c I J ha hc20 hp hct hct2 hn c.1 0 _ (by omega) (bi_iff ⟨fun h => ⟨h, lt_no⟩, fun h => h.1⟩)
          · refine xv_al0 fX11_fits_81 ?_
            refine xv_getR fX11_fits_82 gX11_32 rfl (sx_60 _ _) (rx_60_9 _) ?_
            refine xv_il1 fX11_fits_85 ?_
            refine xv_zaldN fX11_fits_86 (sx_68 _ _) (⟨by omega, by decide⟩) ?_
            refine xv_if_ne fX11_fits_87 (fun h_87 => ?_) (fun h_87 => ?_)
            · refine xv_k fX11_fits_94 ?_
              refine xv_eqi (y := bi (mKind I a p)) (by rw [bi_f (fun h => h.2.2.elim (fun q => q h_78) h_87)]) ?_
              refine xv_is3 fX11_fits_95 ?_
              refine xv_k fX11_fits_96 ?_
              refine xv_is4 fX11_fits_97 ?_
              exact l_mfits n c I J ha hc20 hp hct hct2 hn c.1 0 _ (by omega) (bi_iff ⟨fun h => ⟨h, lt_no⟩, fun h => h.1⟩)
            · refine xv_k fX11_fits_90 ?_
              refine xv_goto fX11_fits_91 ?_
              refine xv_eqi (y := bi (mKind I a p)) (by rw [bi_t ⟨bi_1 h_44, Or.inl h_54, Or.inr h_87⟩]) ?_
              refine xv_is3 fX11_fits_95 ?_
              refine xv_k fX11_fits_96 ?_
              refine xv_is4 fX11_fits_97 ?_
              exact l_mfits n c I J ha hc20 hp hct hct2 hn c.1 0 _ (by omega) (bi_iff ⟨fun h => ⟨h, lt_no⟩, fun h => h.1⟩)
        · refine xv_al0 fX11_fits_57 ?_
          refine xv_getR fX11_fits_58 gX11_35 rfl (sx_60 _ _) (rx_60_10 _) ?_
          refine xv_il1 fX11_fits_61 ?_
          refine xv_ialdN fX11_fits_62 (sx_69 _ _) (⟨by omega, by decide⟩) ?_
          refine xv_al0 fX11_fits_63 ?_
          refine xv_getR fX11_fits_64 gX11_7 rfl (sx_60 _ _) (rx_60_0 _) ?_
          refine xv_il2 fX11_fits_67 ?_
          refine xv_ialdN fX11_fits_68 (sx_61 _ _) (⟨by omega, by decide⟩) ?_
          refine xv_ic_ne fX11_fits_69 (fun h_69 => ?_) (fun h_69 => ?_)
          · refine xv_k fX11_fits_94 ?_
            refine xv_eqi (y := bi (mKind I a p)) (by rw [bi_f (fun h => h.2.1.elim h_54 h_69)]) ?_
            refine xv_is3 fX11_fits_95 ?_
            refine xv_k fX11_fits_96 ?_
            refine xv_is4 fX11_fits_97 ?_
            exact l_mfits n c I J ha hc20 hp hct hct2 hn c.1 0 _ (by omega) (bi_iff ⟨fun h => ⟨h, lt_no⟩, fun h => h.1⟩)
          · refine xv_al0 fX11_fits_72 ?_
            refine xv_getR fX11_fits_73 gX11_13 rfl (sx_60 _ _) (rx_60_1 _) ?_
            refine xv_il2 fX11_fits_76 ?_
            refine xv_zaldN fX11_fits_77 (sx_62 _ _) (⟨by omega, by decide⟩) ?_
            refine xv_if_ne fX11_fits_78 (fun h_78 => ?_) (fun h_78 => ?_)
            · refine xv_k fX11_fits_90 ?_
              refine xv_goto fX11_fits_91 ?_
              refine xv_eqi (y := bi (mKind I a p)) (by rw [bi_t ⟨bi_1 h_44, Or.inr h_69, Or.inl h_78⟩]) ?_
              refine xv_is3 fX11_fits_95 ?_
              refine xv_k fX11_fits_96 ?_
              refine xv_is4 fX11_fits_97 ?_
              exact l_mfits n c I J ha hc20 hp hct hct2 hn c.1 0 _ (by omega) (bi_iff ⟨fun h => ⟨h, lt_no⟩, fun h => h.1⟩)
            · refine xv_al0 fX11_fits_81 ?_
              refine xv_getR fX11_fits_82 gX11_32 rfl (sx_60 _ _) (rx_60_9 _) ?_
              refine xv_il1 fX11_fits_85 ?_
              refine xv_zaldN fX11_fits_86 (sx_68 _ _) (⟨by omega, by decide⟩) ?_
              refine xv_if_ne fX11_fits_87 (fun h_87 => ?_) (fun h_87 => ?_)
              · refine xv_k fX11_fits_94 ?_
                refine xv_eqi (y := bi (mKind I a p)) (by rw [bi_f (fun h => h.2.2.elim (fun q => q h_78) h_87)]) ?_
                refine xv_is3 fX11_fits_95 ?_
                refine xv_k fX11_fits_96 ?_
                refine xv_is4 fX11_fits_97 ?_
                exact l_mfits n c I J ha hc20 hp hct hct2 hn c.1 0 _ (by omega) (bi_iff ⟨fun h => ⟨h, lt_no⟩, fun h => h.1⟩)
              · refine xv_k fX11_fits_90 ?_
                refine xv_goto fX11_fits_91 ?_
                refine xv_eqi (y := bi (mKind I a p)) (by rw [bi_t ⟨bi_1 h_44, Or.inr h_69, Or.inr h_87⟩]) ?_
                refine xv_is3 fX11_fits_95 ?_
                refine xv_k fX11_fits_96 ?_
                refine xv_is4 fX11_fits_97 ?_
                exact l_mfits n c I J ha hc20 hp hct hct2 hn c.1 0 _ (by omega) (bi_iff ⟨fun h => ⟨h, lt_no⟩, fun h => h.1⟩)
    · refine xv_k fX11_fits_16 ?_
      refine xv_goto fX11_fits_17 ?_
      refine xv_eqi (y := bi (mZone I a p)) (by rw [bi_t (Or.inl ⟨h_7, fa_of_nle h_13⟩)]) ?_
      refine xv_is3 fX11_fits_42 ?_
      refine xv_il3 fX11_fits_43 ?_
      refine xv_if_eq fX11_fits_44 (fun h_44 => ?_) (fun h_44 => ?_)
      · refine xv_k fX11_fits_94 ?_
        refine xv_eqi (y := bi (mKind I a p)) (by rw [bi_f (fun h => bi_0 h_44 h.1)]) ?_
        refine xv_is3 fX11_fits_95 ?_
        refine xv_k fX11_fits_96 ?_
        refine xv_is4 fX11_fits_97 ?_
        exact l_mfits n c I J ha hc20 hp hct hct2 hn c.1 0 _ (by omega) (bi_iff ⟨fun h => ⟨h, lt_no⟩, fun h => h.1⟩)
      · refine xv_al0 fX11_fits_47 ?_
        refine xv_getR fX11_fits_48 gX11_35 rfl (sx_60 _ _) (rx_60_10 _) ?_
        refine xv_il1 fX11_fits_51 ?_
        refine xv_ialdN fX11_fits_52 (sx_69 _ _) (⟨by omega, by decide⟩) ?_
        refine xv_k fX11_fits_53 ?_
        refine xv_ic_eq fX11_fits_54 (fun h_54 => ?_) (fun h_54 => ?_)
        · refine xv_al0 fX11_fits_72 ?_
          refine xv_getR fX11_fits_73 gX11_13 rfl (sx_60 _ _) (rx_60_1 _) ?_
          refine xv_il2 fX11_fits_76 ?_
          refine xv_zaldN fX11_fits_77 (sx_62 _ _) (⟨by omega, by decide⟩) ?_
          refine xv_if_ne fX11_fits_78 (fun h_78 => ?_) (fun h_78 => ?_)
          · refine xv_k fX11_fits_90 ?_
            refine xv_goto fX11_fits_91 ?_
            refine xv_eqi (y := bi (mKind I a p)) (by rw [bi_t ⟨bi_1 h_44, Or.inl h_54, Or.inl h_78⟩]) ?_
            refine xv_is3 fX11_fits_95 ?_
            refine xv_k fX11_fits_96 ?_
            refine xv_is4 fX11_fits_97 ?_
            exact l_mfits n c I J ha hc20 hp hct hct2 hn c.1 0 _ (by omega) (bi_iff ⟨fun h => ⟨h, lt_no⟩, fun h => h.1⟩)
          · refine xv_al0 fX11_fits_81 ?_
            refine xv_getR fX11_fits_82 gX11_32 rfl (sx_60 _ _) (rx_60_9 _) ?_
            refine xv_il1 fX11_fits_85 ?_
            refine xv_zaldN fX11_fits_86 (sx_68 _ _) (⟨by omega, by decide⟩) ?_
            refine xv_if_ne fX11_fits_87 (fun h_87 => ?_) (fun h_87 => ?_)
            · refine xv_k fX11_fits_94 ?_
              refine xv_eqi (y := bi (mKind I a p)) (by rw [bi_f (fun h => h.2.2.elim (fun q => q h_78) h_87)]) ?_
              refine xv_is3 fX11_fits_95 ?_
              refine xv_k fX11_fits_96 ?_
              refine xv_is4 fX11_fits_97 ?_
              exact l_mfits n c I J ha hc20 hp hct hct2 hn c.1 0 _ (by omega) (bi_iff ⟨fun h => ⟨h, lt_no⟩, fun h => h.1⟩)
            · refine xv_k fX11_fits_90 ?_
              refine xv_goto fX11_fits_91 ?_
              refine xv_eqi (y := bi (mKind I a p)) (by rw [bi_t ⟨bi_1 h_44, Or.inl h_54, Or.inr h_87⟩]) ?_
              refine xv_is3 fX11_fits_95 ?_
              refine xv_k fX11_fits_96 ?_
              refine xv_is4 fX11_fits_97 ?_
              exact l_mfits n c I J ha hc20 hp hct hct2 hn c.1 0 _ (by omega) (bi_iff ⟨fun h => ⟨h, lt_no⟩, fun h => h.1⟩)
        · refine xv_al0 fX11_fits_57 ?_
          refine xv_getR fX11_fits_58 gX11_35 rfl (sx_60 _ _) (rx_60_10 _) ?_
          refine xv_il1 fX11_fits_61 ?_
          refine xv_ialdN fX11_fits_62 (sx_69 _ _) (⟨by omega, by decide⟩) ?_
          refine xv_al0 fX11_fits_63 ?_
          refine xv_getR fX11_fits_64 gX11_7 rfl (sx_60 _ _) (rx_60_0 _) ?_
          refine xv_il2 fX11_fits_67 ?_
          refine xv_ialdN fX11_fits_68 (sx_61 _ _) (⟨by omega, by decide⟩) ?_
          refine xv_ic_ne fX11_fits_69 (fun h_69 => ?_) (fun h_69 => ?_)
          · refine xv_k fX11_fits_94 ?_
            refine xv_eqi (y := bi (mKind I a p)) (by rw [bi_f (fun h => h.2.1.elim h_54 h_69)]) ?_
            refine xv_is3 fX11_fits_95 ?_
            refine xv_k fX11_fits_96 ?_
            refine xv_is4 fX11_fits_97 ?_
            exact l_mfits n c I J ha hc20 hp hct hct2 hn c.1 0 _ (by omega) (bi_iff ⟨fun h => ⟨h, lt_no⟩, fun h => h.1⟩)
          · refine xv_al0 fX11_fits_72 ?_
            refine xv_getR fX11_fits_73 gX11_13 rfl (sx_60 _ _) (rx_60_1 _) ?_
            refine xv_il2 fX11_fits_76 ?_
            refine xv_zaldN fX11_fits_77 (sx_62 _ _) (⟨by omega, by decide⟩) ?_
            refine xv_if_ne fX11_fits_78 (fun h_78 => ?_) (fun h_78 => ?_)
            · refine xv_k fX11_fits_90 ?_
              refine xv_goto fX11_fits_91 ?_
              refine xv_eqi (y := bi (mKind I a p)) (by rw [bi_t ⟨bi_1 h_44, Or.inr h_69, Or.inl h_78⟩]) ?_
              refine xv_is3 fX11_fits_95 ?_
              refine xv_k fX11_fits_96 ?_
              refine xv_is4 fX11_fits_97 ?_
              exact l_mfits n c I J ha hc20 hp hct hct2 hn c.1 0 _ (by omega) (bi_iff ⟨fun h => ⟨h, lt_no⟩, fun h => h.1⟩)
            · refine xv_al0 fX11_fits_81 ?_
              refine xv_getR fX11_fits_82 gX11_32 rfl (sx_60 _ _) (rx_60_9 _) ?_
              refine xv_il1 fX11_fits_85 ?_
              refine xv_zaldN fX11_fits_86 (sx_68 _ _) (⟨by omega, by decide⟩) ?_
              refine xv_if_ne fX11_fits_87 (fun h_87 => ?_) (fun h_87 => ?_)
              · refine xv_k fX11_fits_94 ?_
                refine xv_eqi (y := bi (mKind I a p)) (by rw [bi_f (fun h => h.2.2.elim (fun q => q h_78) h_87)]) ?_
                refine xv_is3 fX11_fits_95 ?_
                refine xv_k fX11_fits_96 ?_
                refine xv_is4 fX11_fits_97 ?_
                exact l_mfits n c I J ha hc20 hp hct hct2 hn c.1 0 _ (by omega) (bi_iff ⟨fun h => ⟨h, lt_no⟩, fun h => h.1⟩)
              · refine xv_k fX11_fits_90 ?_
                refine xv_goto fX11_fits_91 ?_
                refine xv_eqi (y := bi (mKind I a p)) (by rw [bi_t ⟨bi_1 h_44, Or.inr h_69, Or.inr h_87⟩]) ?_
                refine xv_is3 fX11_fits_95 ?_
                refine xv_k fX11_fits_96 ?_
                refine xv_is4 fX11_fits_97 ?_
                exact l_mfits n c I J ha hc20 hp hct hct2 hn c.1 0 _ (by omega) (bi_iff ⟨fun h => ⟨h, lt_no⟩, fun h => h.1⟩)

abbrev mFree (I : xv_I) (p f w h : Nat) : Prop := f % 3 + w ≤ 3 ∧ f / 3 + h ≤ 4 ∧ ∀ d, d < h → ∀ r, r < w → I 63 (12 * p + (f + 3 * d + r)) = 0
theorem l_mfree1 (n : Nat) (c : Nat × Nat) (I : xv_I) (J : xv_J) {a p f w h : Nat} (ha : a < 20) (hp : p < 10) (hf : f < 12) (hw : I 66 a = nI w) (hh : I 67 a = nI h) (hw2 : 1 ≤ w ∧ w ≤ 3) (hh2 : 1 ≤ h ∧ h ≤ 4) {g : Nat} (hg : g < h) {Q : xv_Q} : ∀ (m k : Nat) (s : Int32), k + m = w → (s = bi ((f % 3 + w ≤ 3 ∧ f / 3 + h ≤ 4) ∧ (∀ e, e < g → ∀ r, r < w → I 63 (12 * p + (f + 3 * e + r)) = 0) ∧ ∀ r, r < k → I 63 (12 * p + (f + 3 * g + r)) = 0)) → (∀ s, s = bi ((f % 3 + w ≤ 3 ∧ f / 3 + h ≤ 4) ∧ (∀ e, e < g → ∀ r, r < w → I 63 (12 * p + (f + 3 * e + r)) = 0) ∧ ∀ r, r < w → I 63 (12 * p + (f + 3 * g + r)) = 0) → xv_W mX11_isFree 1 0 0 Q 0 0 (sx n c) I (rx c) J 108 (some (.ref 60) :: some (.int (nI a)) :: some (.int (nI p)) :: some (.int (nI f)) :: some (.int s) :: some (.int (nI g)) :: some (.int (nI w)) :: []) []) → xv_W mX11_isFree 1 0 0 Q 0 0 (sx n c) I (rx c) J 57 (some (.ref 60) :: some (.int (nI a)) :: some (.int (nI p)) :: some (.int (nI f)) :: some (.int s) :: some (.int (nI g)) :: some (.int (nI k)) :: []) [] := by
  intro m
  induction m with
  | zero =>
    intro k s hm i0 i1
    obtain rfl : k = w := by omega
    refine xv_il6 fX11_isFree_57 ?_
    refine xv_al0 fX11_isFree_59 ?_
    refine xv_getR fX11_isFree_60 gX11_26 rfl (sx_60 _ _) (rx_60_7 _) ?_
    refine xv_il1 fX11_isFree_63 ?_
    refine xv_ialdN fX11_isFree_64 (sx_66 _ _) (⟨by omega, by decide⟩) ?_
    rw [hw]
    refine xv_ic_ge fX11_isFree_65 (fun h_65 => ?_) (fun h_65 => ?_)
    · exact i1 s i0
    · exact absurd (nI_le (Nat.le_refl _) (by omega)) h_65
  | succ m ih =>
    intro k s hm i0 i1
    have hk : k < w := by omega
    show xv_W mX11_isFree 1 0 0 _ 0 0 (sx n c) I (rx c) J 57 (some (.ref 60) :: some (.int (nI a)) :: some (.int (nI p)) :: some (.int (nI f)) :: some (.int s) :: some (.int (nI g)) :: some (.int (nI k)) :: []) []
    refine xv_il6 fX11_isFree_57 ?_
    refine xv_al0 fX11_isFree_59 ?_
    refine xv_getR fX11_isFree_60 gX11_26 rfl (sx_60 _ _) (rx_60_7 _) ?_
    refine xv_il1 fX11_isFree_63 ?_
    refine xv_ialdN fX11_isFree_64 (sx_66 _ _) (⟨by omega, by decide⟩) ?_
    rw [hw]
    refine xv_ic_ge fX11_isFree_65 (fun h_65 => ?_) (fun h_65 => ?_)
    · exact absurd h_65 (nI_ge hk (by omega))
    · refine xv_il4 fX11_isFree_68 ?_
      refine xv_if_eq fX11_isFree_70 (fun h_70 => ?_) (fun h_70 => ?_)
      · refine xv_k fX11_isFree_99 ?_
        refine xv_is4 fX11_isFree_100 ?_
        refine xv_iincN6 (a := 1) fX11_isFree_102 (by decide) ?_
        refine xv_goto fX11_isFree_105 ?_
        exact ih (k + 1) _ (by omega) (bi_f (fun h => bi_0 (i0.symm.trans h_70) ⟨h.1, h.2.1, fun r hr => h.2.2 r (by omega)⟩)).symm i1
      · obtain g9 := bi_1 (fun q => h_70 (i0.trans q))
        obtain g8 : 12 * p + f + 3 * g + k < 120 := by have := g9.1; omega
        refine xv_al0 fX11_isFree_73 ?_
        refine xv_getR fX11_isFree_74 gX11_17 rfl (sx_60 _ _) (rx_60_2 _) ?_
        refine xv_k fX11_isFree_77 ?_
        refine xv_il2 fX11_isFree_79 ?_
        refine xv_imul fX11_isFree_80 ?_
        rw [nI_mul]
        refine xv_il3 fX11_isFree_81 ?_
        refine xv_iadd fX11_isFree_82 ?_
        rw [nI_add]
        refine xv_k fX11_isFree_83 ?_
        refine xv_il5 fX11_isFree_84 ?_
        refine xv_imul fX11_isFree_86 ?_
        rw [nI_mul]
        refine xv_iadd fX11_isFree_87 ?_
        rw [nI_add]
        refine xv_il6 fX11_isFree_88 ?_
        refine xv_iadd fX11_isFree_90 ?_
        rw [nI_add]
        refine xv_ialdN fX11_isFree_91 (sx_63 _ _) (⟨g8, by decide⟩) ?_
        rw [show 12 * p + f + 3 * g + k = 12 * p + (f + 3 * g + k) by omega]
        refine xv_if_ne fX11_isFree_92 (fun h_92 => ?_) (fun h_92 => ?_)
        · refine xv_k fX11_isFree_99 ?_
          refine xv_is4 fX11_isFree_100 ?_
          refine xv_iincN6 (a := 1) fX11_isFree_102 (by decide) ?_
          refine xv_goto fX11_isFree_105 ?_
          exact ih (k + 1) _ (by omega) (bi_f (fun h => h_92 (h.2.2 k (by omega)))).symm i1
        · refine xv_k fX11_isFree_95 ?_
          refine xv_goto fX11_isFree_96 ?_
          refine xv_is4 fX11_isFree_100 ?_
          refine xv_iincN6 (a := 1) fX11_isFree_102 (by decide) ?_
          refine xv_goto fX11_isFree_105 ?_
          exact ih (k + 1) _ (by omega) (bi_t ⟨g9.1, g9.2.1, lt_or g9.2.2 h_92⟩).symm i1

theorem l_mfree (n : Nat) (c : Nat × Nat) (I : xv_I) (J : xv_J) {a p f w h : Nat} (ha : a < 20) (hp : p < 10) (hf : f < 12) (hw : I 66 a = nI w) (hh : I 67 a = nI h) (hw2 : 1 ≤ w ∧ w ≤ 3) (hh2 : 1 ≤ h ∧ h ≤ 4) : ∀ (m k : Nat) (s : Int32) (l6 : Option Value), k + m = h → (s = bi ((f % 3 + w ≤ 3 ∧ f / 3 + h ≤ 4) ∧ ∀ e, e < k → ∀ r, r < w → I 63 (12 * p + (f + 3 * e + r)) = 0)) → xv_W mX11_isFree 1 0 0 (xv_eq (.inl (some (.int (bi (mFree I p f w h))))) (sx n c) (I) (rx c) J) 0 0 (sx n c) I (rx c) J 38 (some (.ref 60) :: some (.int (nI a)) :: some (.int (nI p)) :: some (.int (nI f)) :: some (.int s) :: some (.int (nI k)) :: l6 :: []) [] := by
  intro m
  induction m with
  | zero =>
    intro k s l6 hm i0
    obtain rfl : k = h := by omega
    refine xv_il5 fX11_isFree_38 ?_
    refine xv_al0 fX11_isFree_40 ?_
    refine xv_getR fX11_isFree_41 gX11_29 rfl (sx_60 _ _) (rx_60_8 _) ?_
    refine xv_il1 fX11_isFree_44 ?_
    refine xv_ialdN fX11_isFree_45 (sx_67 _ _) (⟨by omega, by decide⟩) ?_
    rw [hh]
    refine xv_ic_ge fX11_isFree_46 (fun h_46 => ?_) (fun h_46 => ?_)
    · refine xv_il4 fX11_isFree_114 ?_
      exact xv_iret fX11_isFree_116 rfl (i0 ▸ narrow_bi _) (xv_eq_I (by rw [i0, bi_iff (Q := mFree I p f w _) ⟨fun q => ⟨q.1.1, q.1.2, q.2⟩, fun q => ⟨⟨q.1, q.2.1⟩, q.2.2⟩⟩]) rfl)
    · exact absurd (nI_le (Nat.le_refl _) (by omega)) h_46
  | succ m ih =>
    intro k s l6 hm i0
    have hk : k < h := by omega
    show xv_W mX11_isFree 1 0 0 _ 0 0 (sx n c) I (rx c) J 38 (some (.ref 60) :: some (.int (nI a)) :: some (.int (nI p)) :: some (.int (nI f)) :: some (.int s) :: some (.int (nI k)) :: l6 :: []) []
    refine xv_il5 fX11_isFree_38 ?_
    refine xv_al0 fX11_isFree_40 ?_
    refine xv_getR fX11_isFree_41 gX11_29 rfl (sx_60 _ _) (rx_60_8 _) ?_
    refine xv_il1 fX11_isFree_44 ?_
    refine xv_ialdN fX11_isFree_45 (sx_67 _ _) (⟨by omega, by decide⟩) ?_
    rw [hh]
    refine xv_ic_ge fX11_isFree_46 (fun h_46 => ?_) (fun h_46 => ?_)
    · exact absurd h_46 (nI_ge hk (by omega))
    · refine xv_il4 fX11_isFree_49 ?_
      refine xv_if_eq fX11_isFree_51 (fun h_51 => ?_) (fun h_51 => ?_)
      · refine xv_il4 fX11_isFree_114 ?_
        exact xv_iret fX11_isFree_116 rfl (i0 ▸ narrow_bi _) (xv_eq_I (by rw [i0, bi_iff (Q := mFree I p f w _) ⟨fun q => absurd q (bi_0 (i0.symm.trans h_51)), fun q => ⟨⟨q.1, q.2.1⟩, fun e he => q.2.2 e (by omega)⟩⟩]) rfl)
      · refine xv_k fX11_isFree_54 ?_
        refine xv_is6 fX11_isFree_55 ?_
        refine l_mfree1 n c I J ha hp hf hw hh hw2 hh2 (g := k) hk w 0 _ (by omega) (i0.trans (bi_iff ⟨fun q => ⟨q.1, q.2, lt_no⟩, fun q => ⟨q.1, q.2.1⟩⟩)) (fun s i1 => ?_)
        refine xv_iincN5 (a := 1) fX11_isFree_108 (by decide) ?_
        refine xv_goto fX11_isFree_111 ?_
        exact ih (k + 1) _ _ (by omega) (i1.trans (bi_iff ⟨fun q => ⟨q.1, lt_or q.2.1 q.2.2⟩, fun q => ⟨q.1, fun e he => q.2 e (by omega), q.2 k (by omega)⟩⟩))

theorem m_isFree (n : Nat) (c : Nat × Nat) (I : xv_I) (J : xv_J) {a p f w h : Nat} (ha : a < 20) (hp : p < 10) (hf : f < 12) (hw : I 66 a = nI w) (hh : I 67 a = nI h) (hw2 : 1 ≤ w ∧ w ≤ 3) (hh2 : 1 ≤ h ∧ h ≤ 4) : xv_Met mX11_isFree 1 0 0 (sx n c) I (rx c) J [.ref 60, .int (nI a), .int (nI p), .int (nI f)] (xv_eq (.inl (some (.int (bi (mFree I p f w h))))) (sx n c) (I) (rx c) J) := by
  refine xv_Met.of (by decide +kernel) (Nat.le_of_ble_eq_true rfl) (List.forall_mem_cons.mpr ⟨rfl, List.forall_mem_cons.mpr ⟨rfl, List.forall_mem_cons.mpr ⟨rfl, List.forall_mem_cons.mpr ⟨rfl, fun _ h => nomatch h⟩⟩⟩⟩) ?_
  show xv_W mX11_isFree 1 0 0 _ 0 0 (sx n c) I (rx c) J 0 [some (.ref 60), some (.int (nI a)), some (.int (nI p)), some (.int (nI f)), none, none, none] []
  refine xv_il3 fX11_isFree_0 ?_
  refine xv_k fX11_isFree_1 ?_
  refine xv_irem fX11_isFree_2 (by decide) ?_
  rw [nI_rem (by omega) (by decide)]
  refine xv_al0 fX11_isFree_3 ?_
  refine xv_getR fX11_isFree_4 gX11_26 rfl (sx_60 _ _) (rx_60_7 _) ?_
  refine xv_il1 fX11_isFree_7 ?_
  refine xv_ialdN fX11_isFree_8 (sx_66 _ _) (⟨by omega, by decide⟩) ?_
  rw [hw]
  refine xv_iadd fX11_isFree_9 ?_
  rw [nI_add]
  refine xv_k fX11_isFree_10 ?_
  refine xv_ic_gt fX11_isFree_11 (fun h_11 => ?_) (fun h_11 => ?_)
  · refine xv_k fX11_isFree_32 ?_
    refine xv_eqi (y := bi (f % 3 + w ≤ 3 ∧ f / 3 + h ≤ 4)) (by rw [bi_f (fun q => h_11 |> fun h => absurd h (nI_nlt q.1 (by omega)))]) ?_
    refine xv_is4 fX11_isFree_33 ?_
    refine xv_k fX11_isFree_35 ?_
    refine xv_is5 fX11_isFree_36 ?_
    exact l_mfree n c I J ha hp hf hw hh hw2 hh2 h 0 _ none (by omega) (bi_iff ⟨fun q => ⟨q, lt_no⟩, fun q => q.1⟩)
  · refine xv_il3 fX11_isFree_14 ?_
    refine xv_k fX11_isFree_15 ?_
    refine xv_idiv fX11_isFree_16 (by decide) ?_
    rw [nI_div (by omega) (by decide)]
    refine xv_al0 fX11_isFree_17 ?_
    refine xv_getR fX11_isFree_18 gX11_29 rfl (sx_60 _ _) (rx_60_8 _) ?_
    refine xv_il1 fX11_isFree_21 ?_
    refine xv_ialdN fX11_isFree_22 (sx_67 _ _) (⟨by omega, by decide⟩) ?_
    rw [hh]
    refine xv_iadd fX11_isFree_23 ?_
    rw [nI_add]
    refine xv_k fX11_isFree_24 ?_
    refine xv_ic_gt fX11_isFree_25 (fun h_25 => ?_) (fun h_25 => ?_)
    · refine xv_k fX11_isFree_32 ?_
      refine xv_eqi (y := bi (f % 3 + w ≤ 3 ∧ f / 3 + h ≤ 4)) (by rw [bi_f (fun q => h_25 |> fun h => absurd h (nI_nlt q.2 (by omega)))]) ?_
      refine xv_is4 fX11_isFree_33 ?_
      refine xv_k fX11_isFree_35 ?_
      refine xv_is5 fX11_isFree_36 ?_
      exact l_mfree n c I J ha hp hf hw hh hw2 hh2 h 0 _ none (by omega) (bi_iff ⟨fun q => ⟨q, lt_no⟩, fun q => q.1⟩)
    · refine xv_k fX11_isFree_28 ?_
      refine xv_goto fX11_isFree_29 ?_
      refine xv_eqi (y := bi (f % 3 + w ≤ 3 ∧ f / 3 + h ≤ 4)) (by rw [bi_t ⟨Nat.le_of_not_lt fun q => h_11 (nI_lt q (by omega)), Nat.le_of_not_lt fun q => h_25 (nI_lt q (by omega))⟩]) ?_
      refine xv_is4 fX11_isFree_33 ?_
      refine xv_k fX11_isFree_35 ?_
      refine xv_is5 fX11_isFree_36 ?_
      exact l_mfree n c I J ha hp hf hw hh hw2 hh2 h 0 _ none (by omega) (bi_iff ⟨fun q => ⟨q, lt_no⟩, fun q => q.1⟩)

def mFill1 (p f w : Nat) (x : Int32) (d : Nat) (I : xv_I) : xv_I := it (fun r I => mPut I p (f + 3 * d + r) x) w 0 I
def mFill (p f w h : Nat) (x : Int32) (I : xv_I) : xv_I := it (mFill1 p f w x) h 0 I
theorem mSg_o (I : xv_I) (p : Nat) {v : Nat} (j : Nat) (h : v ≠ 81) : mSg p I v j = I v j := it_inv (fun s : xv_I => s v j = I v j) (fun k s hs => (xv_u_ne _ _ _ h).trans hs) _ _ _ rfl
theorem mPut_o (I : xv_I) {p k : Nat} {x : Int32} {v : Nat} (j : Nat) (h : v ≠ 81) (h2 : v ≠ 63) (h3 : v ≠ 60 ∨ j ≠ 3) : mPut I p k x v j = I v j := by
  unfold mPut
  by_cases h9 : I 63 (12 * p + k) = x
  · rw [if_pos h9]
  · rw [if_neg h9]
    unfold mPut1
    rw [mSg_o _ _ _ h]
    rcases h3 with h3 | h3
    · rw [xv_u_ne _ _ _ h3, xv_u_ne _ _ _ h2]
    · rw [xv_u_nk _ _ _ h3, xv_u_ne _ _ _ h2]
theorem l_mfill1 (n : Nat) (c : Nat × Nat) (J : xv_J) {a p f w h : Nat} {x : Int32} (ha : a < 20) (hp : p < 10) (hb : f + 3 * h + w ≤ 15) (hw2 : 1 ≤ w ∧ w ≤ 3) (hh2 : 1 ≤ h ∧ h ≤ 4) {g : Nat} (hg : g < h) {Q : xv_Q} : ∀ (m k : Nat) (I : xv_I), k + m = w → (I 66 a = nI w) → xv_W mX11_fills 1 0 0 Q 0 0 (sx n c) (it (fun r I => mPut I p (f + 3 * g + r) x) m k I) (rx c) J 50 (some (.ref 60) :: some (.int (nI a)) :: some (.int (nI p)) :: some (.int (nI f)) :: some (.int x) :: some (.int (nI g)) :: some (.int (nI w)) :: []) [] → xv_W mX11_fills 1 0 0 Q 0 0 (sx n c) I (rx c) J 17 (some (.ref 60) :: some (.int (nI a)) :: some (.int (nI p)) :: some (.int (nI f)) :: some (.int x) :: some (.int (nI g)) :: some (.int (nI k)) :: []) [] := by
  intro m
  induction m with
  | zero =>
    intro k I hm i0 hx
    obtain rfl : k = w := by omega
    refine xv_il6 fX11_fills_17 ?_
    refine xv_al0 fX11_fills_19 ?_
    refine xv_getR fX11_fills_20 gX11_26 rfl (sx_60 _ _) (rx_60_7 _) ?_
    refine xv_il1 fX11_fills_23 ?_
    refine xv_ialdN fX11_fills_24 (sx_66 _ _) (⟨by omega, by decide⟩) ?_
    rw [i0]
    refine xv_ic_ge fX11_fills_25 (fun h_25 => ?_) (fun h_25 => ?_)
    · exact hx
    · exact absurd (nI_le (Nat.le_refl _) (by omega)) h_25
  | succ m ih =>
    intro k I hm i0 hx
    have hk : k < w := by omega
    show xv_W mX11_fills 1 0 0 _ 0 0 (sx n c) I (rx c) J 17 (some (.ref 60) :: some (.int (nI a)) :: some (.int (nI p)) :: some (.int (nI f)) :: some (.int x) :: some (.int (nI g)) :: some (.int (nI k)) :: []) []
    refine xv_il6 fX11_fills_17 ?_
    refine xv_al0 fX11_fills_19 ?_
    refine xv_getR fX11_fills_20 gX11_26 rfl (sx_60 _ _) (rx_60_7 _) ?_
    refine xv_il1 fX11_fills_23 ?_
    refine xv_ialdN fX11_fills_24 (sx_66 _ _) (⟨by omega, by decide⟩) ?_
    rw [i0]
    refine xv_ic_ge fX11_fills_25 (fun h_25 => ?_) (fun h_25 => ?_)
    · exact absurd h_25 (nI_ge hk (by omega))
    · refine xv_al0 fX11_fills_28 ?_
      refine xv_il2 fX11_fills_29 ?_
      refine xv_il3 fX11_fills_30 ?_
      refine xv_k fX11_fills_31 ?_
      refine xv_il5 fX11_fills_32 ?_
      refine xv_imul fX11_fills_34 ?_
      rw [nI_mul]
      refine xv_iadd fX11_fills_35 ?_
      rw [nI_add]
      refine xv_il6 fX11_fills_36 ?_
      refine xv_iadd fX11_fills_38 ?_
      rw [nI_add]
      refine xv_il4 fX11_fills_39 ?_
      refine xv_callV3V (m_puts n c _ J hp (k := f + 3 * g + k) (by omega)) fX11_fills_41 YX11_puts VX11_puts lX11_154 rfl rfl (sx_60 _ _) (Nat.le_of_ble_eq_true rfl) (by decide) (by decide) (by decide) ?_
      refine xv_iincN6 (a := 1) fX11_fills_44 (by decide) ?_
      refine xv_goto fX11_fills_47 ?_
      exact ih (k + 1) (mPut I p (f + 3 * g + k) x) (by omega) ((mPut_o _ _ (by decide) (by decide) (Or.inl (by decide))).trans i0) hx

theorem mFill1_o (I : xv_I) {p f w : Nat} {x : Int32} {d v : Nat} (j : Nat) (h : v ≠ 81) (h2 : v ≠ 63) (h3 : v ≠ 60 ∨ j ≠ 3) : mFill1 p f w x d I v j = I v j := it_inv (fun s : xv_I => s v j = I v j) (fun k s hs => (mPut_o _ _ h h2 h3).trans hs) _ _ _ rfl
theorem mFill_o (I : xv_I) {p f w h : Nat} {x : Int32} {v : Nat} (j : Nat) (h1 : v ≠ 81) (h2 : v ≠ 63) (h3 : v ≠ 60 ∨ j ≠ 3) : mFill p f w h x I v j = I v j := it_inv (fun s : xv_I => s v j = I v j) (fun k s hs => (mFill1_o _ _ h1 h2 h3).trans hs) _ _ _ rfl
theorem l_mfill (n : Nat) (c : Nat × Nat) (J : xv_J) {a p f w h : Nat} {x : Int32} (ha : a < 20) (hp : p < 10) (hb : f + 3 * h + w ≤ 15) (hw2 : 1 ≤ w ∧ w ≤ 3) (hh2 : 1 ≤ h ∧ h ≤ 4) {Q : xv_Q} : ∀ (m k : Nat) (I : xv_I) (l6 : Option Value), k + m = h → (I 66 a = nI w ∧ I 67 a = nI h) → (∀ l6, xv_W mX11_fills 1 0 0 Q 0 0 (sx n c) (it (mFill1 p f w x) m k I) (rx c) J 56 (some (.ref 60) :: some (.int (nI a)) :: some (.int (nI p)) :: some (.int (nI f)) :: some (.int x) :: some (.int (nI h)) :: l6 :: []) []) → xv_W mX11_fills 1 0 0 Q 0 0 (sx n c) I (rx c) J 3 (some (.ref 60) :: some (.int (nI a)) :: some (.int (nI p)) :: some (.int (nI f)) :: some (.int x) :: some (.int (nI k)) :: l6 :: []) [] := by
  intro m
  induction m with
  | zero =>
    intro k I l6 hm i0 i1
    obtain rfl : k = h := by omega
    refine xv_il5 fX11_fills_3 ?_
    refine xv_al0 fX11_fills_5 ?_
    refine xv_getR fX11_fills_6 gX11_29 rfl (sx_60 _ _) (rx_60_8 _) ?_
    refine xv_il1 fX11_fills_9 ?_
    refine xv_ialdN fX11_fills_10 (sx_67 _ _) (⟨by omega, by decide⟩) ?_
    rw [i0.2]
    refine xv_ic_ge fX11_fills_11 (fun h_11 => ?_) (fun h_11 => ?_)
    · exact i1 _
    · exact absurd (nI_le (Nat.le_refl _) (by omega)) h_11
  | succ m ih =>
    intro k I l6 hm i0 i1
    have hk : k < h := by omega
    show xv_W mX11_fills 1 0 0 _ 0 0 (sx n c) I (rx c) J 3 (some (.ref 60) :: some (.int (nI a)) :: some (.int (nI p)) :: some (.int (nI f)) :: some (.int x) :: some (.int (nI k)) :: l6 :: []) []
    refine xv_il5 fX11_fills_3 ?_
    refine xv_al0 fX11_fills_5 ?_
    refine xv_getR fX11_fills_6 gX11_29 rfl (sx_60 _ _) (rx_60_8 _) ?_
    refine xv_il1 fX11_fills_9 ?_
    refine xv_ialdN fX11_fills_10 (sx_67 _ _) (⟨by omega, by decide⟩) ?_
    rw [i0.2]
    refine xv_ic_ge fX11_fills_11 (fun h_11 => ?_) (fun h_11 => ?_)
    · exact absurd h_11 (nI_ge hk (by omega))
    · refine xv_k fX11_fills_14 ?_
      refine xv_is6 fX11_fills_15 ?_
      refine l_mfill1 n c J ha hp hb hw2 hh2 (g := k) hk w 0 _ (by omega) i0.1 ?_
      refine xv_iincN5 (a := 1) fX11_fills_50 (by decide) ?_
      refine xv_goto fX11_fills_53 ?_
      exact ih (k + 1) (mFill1 p f w x k I) _ (by omega) ⟨(mFill1_o _ _ (by decide) (by decide) (Or.inl (by decide))).trans i0.1, (mFill1_o _ _ (by decide) (by decide) (Or.inl (by decide))).trans i0.2⟩ i1

theorem m_fills (n : Nat) (c : Nat × Nat) (I : xv_I) (J : xv_J) {a p f w h : Nat} {x : Int32} (ha : a < 20) (hp : p < 10) (hb : f + 3 * h + w ≤ 15) (hw2 : 1 ≤ w ∧ w ≤ 3) (hh2 : 1 ≤ h ∧ h ≤ 4) (hw : I 66 a = nI w) (hh : I 67 a = nI h) : xv_Met mX11_fills 1 0 0 (sx n c) I (rx c) J [.ref 60, .int (nI a), .int (nI p), .int (nI f), .int x] (xv_eq (.inl none) (sx n c) (mFill p f w h x I) (rx c) J) := by
  refine xv_Met.of (by decide +kernel) (Nat.le_of_ble_eq_true rfl) (List.forall_mem_cons.mpr ⟨rfl, List.forall_mem_cons.mpr ⟨rfl, List.forall_mem_cons.mpr ⟨rfl, List.forall_mem_cons.mpr ⟨rfl, List.forall_mem_cons.mpr ⟨rfl, fun _ h => nomatch h⟩⟩⟩⟩⟩) ?_
  show xv_W mX11_fills 1 0 0 _ 0 0 (sx n c) I (rx c) J 0 [some (.ref 60), some (.int (nI a)), some (.int (nI p)), some (.int (nI f)), some (.int x), none, none] []
  refine xv_k fX11_fills_0 ?_
  refine xv_is5 fX11_fills_1 ?_
  exact l_mfill n c J ha hp hb hw2 hh2 h 0 _ none (by omega) ⟨hw, hh⟩ (fun l6 => by exact xv_vret fX11_fills_56 rfl (xv_eq_I rfl rfl))
