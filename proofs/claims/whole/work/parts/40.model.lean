abbrev mBes (k p : Nat) : Prop := k / 4 = p / 4 ∨ k % 4 = p % 4 ∨ (k / 8 = p / 8 ∧ k % 4 / 2 = p % 4 / 2)
abbrev mPoss (I : xv_I) (p : Nat) : Prop := (I 93 p = 0 ∨ I 93 p = I 94 p) ∧ ∀ k, k < p → ¬ (mBes k p ∧ I 94 k = I 94 p)
theorem l_poss (n : Nat) (c : Nat × Nat) (I : xv_I) (J : xv_J) {p : Nat} (hp : p < 16) : ∀ (m k : Nat) (s : Int32) (l4 : Option Value), k + m = p → (s = bi ((I 93 p = 0 ∨ I 93 p = I 94 p) ∧ ∀ e, e < k → ¬ (mBes e p ∧ I 94 e = I 94 p))) → xv_W mX11_isPossible 8 0 0 (xv_eq (.inl (some (.int (bi (mPoss I p))))) (sx n c) (I) (rx c) J) 0 0 (sx n c) I (rx c) J 32 (some (.ref 60) :: some (.int (nI p)) :: some (.int s) :: some (.int (nI k)) :: l4 :: []) [] := by
  intro m
  induction m with
  | zero =>
    intro k s l4 hm i0
    obtain rfl : k = p := by omega
    refine xv_il3 fX11_isPossible_32 ?_
    refine xv_il1 fX11_isPossible_33 ?_
    refine xv_ic_ge fX11_isPossible_34 (fun h_34 => ?_) (fun h_34 => ?_)
    · refine xv_il2 fX11_isPossible_122 ?_
      exact xv_iret fX11_isPossible_123 rfl (i0 ▸ narrow_bi _) (xv_eq_I (by rw [i0]) rfl)
    · exact absurd (nI_le (Nat.le_refl _) (by omega)) h_34
  | succ m ih =>
    intro k s l4 hm i0
    have hk : k < p := by omega
    show xv_W mX11_isPossible 8 0 0 _ 0 0 (sx n c) I (rx c) J 32 (some (.ref 60) :: some (.int (nI p)) :: some (.int s) :: some (.int (nI k)) :: l4 :: []) []
    refine xv_il3 fX11_isPossible_32 ?_
    refine xv_il1 fX11_isPossible_33 ?_
    refine xv_ic_ge fX11_isPossible_34 (fun h_34 => ?_) (fun h_34 => ?_)
    · exact absurd h_34 (nI_ge hk (by omega))
    · refine xv_il3 fX11_isPossible_37 ?_
      refine xv_k fX11_isPossible_38 ?_
      refine xv_idiv fX11_isPossible_39 (by decide) ?_
      rw [nI_div (by omega) (by decide)]
      refine xv_il1 fX11_isPossible_40 ?_
      refine xv_k fX11_isPossible_41 ?_
      refine xv_idiv fX11_isPossible_42 (by decide) ?_
      rw [nI_div (by omega) (by decide)]
      refine xv_ic_eq fX11_isPossible_43 (fun h_43 => ?_) (fun h_43 => ?_)
      · refine xv_k fX11_isPossible_79 ?_
        refine xv_goto fX11_isPossible_80 ?_
        refine xv_is4 fX11_isPossible_84 ?_
        refine xv_il2 fX11_isPossible_86 ?_
        refine xv_if_eq fX11_isPossible_87 (fun h_87 => ?_) (fun h_87 => ?_)
        · refine xv_k fX11_isPossible_114 ?_
          refine xv_is2 fX11_isPossible_115 ?_
          refine xv_iincN3 (a := 1) fX11_isPossible_116 (by decide) ?_
          refine xv_goto fX11_isPossible_119 ?_
          exact ih (k + 1) _ _ (by omega) (bi_f (fun h => bi_0 (i0.symm.trans h_87) ⟨h.1, fun j hj => h.2 j (by omega)⟩)).symm
        · refine xv_il4 fX11_isPossible_90 ?_
          refine xv_if_eq fX11_isPossible_92 (fun h_92 => ?_) (fun h_92 => ?_)
          · exact absurd h_92 (by decide)
          · refine xv_al0 fX11_isPossible_95 ?_
            refine xv_getR fX11_isPossible_96 gX11_110 rfl (sx_60 _ _) (rx_60_42 _) ?_
            refine xv_il3 fX11_isPossible_99 ?_
            refine xv_ialdN fX11_isPossible_100 (sx_94 _ _) (⟨by omega, by decide⟩) ?_
            refine xv_al0 fX11_isPossible_101 ?_
            refine xv_getR fX11_isPossible_102 gX11_110 rfl (sx_60 _ _) (rx_60_42 _) ?_
            refine xv_il1 fX11_isPossible_105 ?_
            refine xv_ialdN fX11_isPossible_106 (sx_94 _ _) (⟨by omega, by decide⟩) ?_
            refine xv_ic_eq fX11_isPossible_107 (fun h_107 => ?_) (fun h_107 => ?_)
            · refine xv_k fX11_isPossible_114 ?_
              refine xv_is2 fX11_isPossible_115 ?_
              refine xv_iincN3 (a := 1) fX11_isPossible_116 (by decide) ?_
              refine xv_goto fX11_isPossible_119 ?_
              exact ih (k + 1) _ _ (by omega) (bi_f (fun h => h.2 k (by omega) ⟨(Or.inl (nI_inj2 h_43 (by omega) (by omega))), h_107⟩)).symm
            · refine xv_k fX11_isPossible_110 ?_
              refine xv_goto fX11_isPossible_111 ?_
              refine xv_is2 fX11_isPossible_115 ?_
              refine xv_iincN3 (a := 1) fX11_isPossible_116 (by decide) ?_
              refine xv_goto fX11_isPossible_119 ?_
              exact ih (k + 1) _ _ (by omega) (bi_t ⟨(bi_1 (fun q => h_87 (i0.trans q))).1, lt_or (bi_1 (fun q => h_87 (i0.trans q))).2 (fun h => h_107 h.2)⟩).symm
      · refine xv_il3 fX11_isPossible_46 ?_
        refine xv_k fX11_isPossible_47 ?_
        refine xv_irem fX11_isPossible_48 (by decide) ?_
        rw [nI_rem (by omega) (by decide)]
        refine xv_il1 fX11_isPossible_49 ?_
        refine xv_k fX11_isPossible_50 ?_
        refine xv_irem fX11_isPossible_51 (by decide) ?_
        rw [nI_rem (by omega) (by decide)]
        refine xv_ic_eq fX11_isPossible_52 (fun h_52 => ?_) (fun h_52 => ?_)
        · refine xv_k fX11_isPossible_79 ?_
          refine xv_goto fX11_isPossible_80 ?_
          refine xv_is4 fX11_isPossible_84 ?_
          refine xv_il2 fX11_isPossible_86 ?_
          refine xv_if_eq fX11_isPossible_87 (fun h_87 => ?_) (fun h_87 => ?_)
          · refine xv_k fX11_isPossible_114 ?_
            refine xv_is2 fX11_isPossible_115 ?_
            refine xv_iincN3 (a := 1) fX11_isPossible_116 (by decide) ?_
            refine xv_goto fX11_isPossible_119 ?_
            exact ih (k + 1) _ _ (by omega) (bi_f (fun h => bi_0 (i0.symm.trans h_87) ⟨h.1, fun j hj => h.2 j (by omega)⟩)).symm
          · refine xv_il4 fX11_isPossible_90 ?_
            refine xv_if_eq fX11_isPossible_92 (fun h_92 => ?_) (fun h_92 => ?_)
            · exact absurd h_92 (by decide)
            · refine xv_al0 fX11_isPossible_95 ?_
              refine xv_getR fX11_isPossible_96 gX11_110 rfl (sx_60 _ _) (rx_60_42 _) ?_
              refine xv_il3 fX11_isPossible_99 ?_
              refine xv_ialdN fX11_isPossible_100 (sx_94 _ _) (⟨by omega, by decide⟩) ?_
              refine xv_al0 fX11_isPossible_101 ?_
              refine xv_getR fX11_isPossible_102 gX11_110 rfl (sx_60 _ _) (rx_60_42 _) ?_
              refine xv_il1 fX11_isPossible_105 ?_
              refine xv_ialdN fX11_isPossible_106 (sx_94 _ _) (⟨by omega, by decide⟩) ?_
              refine xv_ic_eq fX11_isPossible_107 (fun h_107 => ?_) (fun h_107 => ?_)
              · refine xv_k fX11_isPossible_114 ?_
                refine xv_is2 fX11_isPossible_115 ?_
                refine xv_iincN3 (a := 1) fX11_isPossible_116 (by decide) ?_
                refine xv_goto fX11_isPossible_119 ?_
                exact ih (k + 1) _ _ (by omega) (bi_f (fun h => h.2 k (by omega) ⟨(Or.inr (Or.inl (nI_inj2 h_52 (by omega) (by omega)))), h_107⟩)).symm
              · refine xv_k fX11_isPossible_110 ?_
                refine xv_goto fX11_isPossible_111 ?_
                refine xv_is2 fX11_isPossible_115 ?_
                refine xv_iincN3 (a := 1) fX11_isPossible_116 (by decide) ?_
                refine xv_goto fX11_isPossible_119 ?_
                exact ih (k + 1) _ _ (by omega) (bi_t ⟨(bi_1 (fun q => h_87 (i0.trans q))).1, lt_or (bi_1 (fun q => h_87 (i0.trans q))).2 (fun h => h_107 h.2)⟩).symm
        · refine xv_il3 fX11_isPossible_55 ?_
          refine xv_k fX11_isPossible_56 ?_
          refine xv_idiv fX11_isPossible_58 (by decide) ?_
          rw [nI_div (by omega) (by decide)]
          refine xv_il1 fX11_isPossible_59 ?_
          refine xv_k fX11_isPossible_60 ?_
          refine xv_idiv fX11_isPossible_62 (by decide) ?_
          rw [nI_div (by omega) (by decide)]
          refine xv_ic_ne fX11_isPossible_63 (fun h_63 => ?_) (fun h_63 => ?_)
          · refine xv_k fX11_isPossible_83 ?_
            refine xv_is4 fX11_isPossible_84 ?_
            refine xv_il2 fX11_isPossible_86 ?_
            refine xv_if_eq fX11_isPossible_87 (fun h_87 => ?_) (fun h_87 => ?_)
            · refine xv_k fX11_isPossible_114 ?_
              refine xv_is2 fX11_isPossible_115 ?_
              refine xv_iincN3 (a := 1) fX11_isPossible_116 (by decide) ?_
              refine xv_goto fX11_isPossible_119 ?_
              exact ih (k + 1) _ _ (by omega) (bi_f (fun h => bi_0 (i0.symm.trans h_87) ⟨h.1, fun j hj => h.2 j (by omega)⟩)).symm
            · refine xv_il4 fX11_isPossible_90 ?_
              refine xv_if_eq fX11_isPossible_92 (fun h_92 => ?_) (fun h_92 => ?_)
              · refine xv_k fX11_isPossible_110 ?_
                refine xv_goto fX11_isPossible_111 ?_
                refine xv_is2 fX11_isPossible_115 ?_
                refine xv_iincN3 (a := 1) fX11_isPossible_116 (by decide) ?_
                refine xv_goto fX11_isPossible_119 ?_
                exact ih (k + 1) _ _ (by omega) (bi_t ⟨(bi_1 (fun q => h_87 (i0.trans q))).1, lt_or (bi_1 (fun q => h_87 (i0.trans q))).2 (fun h => (fun h => h.elim (fun q => h_43 (by rw [q])) (fun h => h.elim (fun q => h_52 (by rw [q])) (fun h => h_63 (by rw [h.1])))) h.1)⟩).symm
              · exact absurd h_92 (by decide)
          · refine xv_il3 fX11_isPossible_66 ?_
            refine xv_k fX11_isPossible_67 ?_
            refine xv_irem fX11_isPossible_68 (by decide) ?_
            rw [nI_rem (by omega) (by decide)]
            refine xv_k fX11_isPossible_69 ?_
            refine xv_idiv fX11_isPossible_70 (by decide) ?_
            rw [nI_div (by omega) (by decide)]
            refine xv_il1 fX11_isPossible_71 ?_
            refine xv_k fX11_isPossible_72 ?_
            refine xv_irem fX11_isPossible_73 (by decide) ?_
            rw [nI_rem (by omega) (by decide)]
            refine xv_k fX11_isPossible_74 ?_
            refine xv_idiv fX11_isPossible_75 (by decide) ?_
            rw [nI_div (by omega) (by decide)]
            refine xv_ic_ne fX11_isPossible_76 (fun h_76 => ?_) (fun h_76 => ?_)
            · refine xv_k fX11_isPossible_83 ?_
              refine xv_is4 fX11_isPossible_84 ?_
              refine xv_il2 fX11_isPossible_86 ?_
              refine xv_if_eq fX11_isPossible_87 (fun h_87 => ?_) (fun h_87 => ?_)
              · refine xv_k fX11_isPossible_114 ?_
                refine xv_is2 fX11_isPossible_115 ?_
                refine xv_iincN3 (a := 1) fX11_isPossible_116 (by decide) ?_
                refine xv_goto fX11_isPossible_119 ?_
                exact ih (k + 1) _ _ (by omega) (bi_f (fun h => bi_0 (i0.symm.trans h_87) ⟨h.1, fun j hj => h.2 j (by omega)⟩)).symm
              · refine xv_il4 fX11_isPossible_90 ?_
                refine xv_if_eq fX11_isPossible_92 (fun h_92 => ?_) (fun h_92 => ?_)
                · refine xv_k fX11_isPossible_110 ?_
                  refine xv_goto fX11_isPossible_111 ?_
                  refine xv_is2 fX11_isPossible_115 ?_
                  refine xv_iincN3 (a := 1) fX11_isPossible_116 (by decide) ?_
                  refine xv_goto fX11_isPossible_119 ?_
                  exact ih (k + 1) _ _ (by omega) (bi_t ⟨(bi_1 (fun q => h_87 (i0.trans q))).1, lt_or (bi_1 (fun q => h_87 (i0.trans q))).2 (fun h => (fun h => h.elim (fun q => h_43 (by rw [q])) (fun h => h.elim (fun q => h_52 (by rw [q])) (fun h => h_76 (by rw [h.2])))) h.1)⟩).symm
                · exact absurd h_92 (by decide)
            · refine xv_k fX11_isPossible_79 ?_
              refine xv_goto fX11_isPossible_80 ?_
              refine xv_is4 fX11_isPossible_84 ?_
              refine xv_il2 fX11_isPossible_86 ?_
              refine xv_if_eq fX11_isPossible_87 (fun h_87 => ?_) (fun h_87 => ?_)
              · refine xv_k fX11_isPossible_114 ?_
                refine xv_is2 fX11_isPossible_115 ?_
                refine xv_iincN3 (a := 1) fX11_isPossible_116 (by decide) ?_
                refine xv_goto fX11_isPossible_119 ?_
                exact ih (k + 1) _ _ (by omega) (bi_f (fun h => bi_0 (i0.symm.trans h_87) ⟨h.1, fun j hj => h.2 j (by omega)⟩)).symm
              · refine xv_il4 fX11_isPossible_90 ?_
                refine xv_if_eq fX11_isPossible_92 (fun h_92 => ?_) (fun h_92 => ?_)
                · exact absurd h_92 (by decide)
                · refine xv_al0 fX11_isPossible_95 ?_
                  refine xv_getR fX11_isPossible_96 gX11_110 rfl (sx_60 _ _) (rx_60_42 _) ?_
                  refine xv_il3 fX11_isPossible_99 ?_
                  refine xv_ialdN fX11_isPossible_100 (sx_94 _ _) (⟨by omega, by decide⟩) ?_
                  refine xv_al0 fX11_isPossible_101 ?_
                  refine xv_getR fX11_isPossible_102 gX11_110 rfl (sx_60 _ _) (rx_60_42 _) ?_
                  refine xv_il1 fX11_isPossible_105 ?_
                  refine xv_ialdN fX11_isPossible_106 (sx_94 _ _) (⟨by omega, by decide⟩) ?_
                  refine xv_ic_eq fX11_isPossible_107 (fun h_107 => ?_) (fun h_107 => ?_)
                  · refine xv_k fX11_isPossible_114 ?_
                    refine xv_is2 fX11_isPossible_115 ?_
                    refine xv_iincN3 (a := 1) fX11_isPossible_116 (by decide) ?_
                    refine xv_goto fX11_isPossible_119 ?_
                    exact ih (k + 1) _ _ (by omega) (bi_f (fun h => h.2 k (by omega) ⟨(Or.inr (Or.inr ⟨nI_inj2 h_63 (by omega) (by omega), nI_inj2 h_76 (by omega) (by omega)⟩)), h_107⟩)).symm
                  · refine xv_k fX11_isPossible_110 ?_
                    refine xv_goto fX11_isPossible_111 ?_
                    refine xv_is2 fX11_isPossible_115 ?_
                    refine xv_iincN3 (a := 1) fX11_isPossible_116 (by decide) ?_
                    refine xv_goto fX11_isPossible_119 ?_
                    exact ih (k + 1) _ _ (by omega) (bi_t ⟨(bi_1 (fun q => h_87 (i0.trans q))).1, lt_or (bi_1 (fun q => h_87 (i0.trans q))).2 (fun h => h_107 h.2)⟩).symm

theorem m_poss (n : Nat) (c : Nat × Nat) (I : xv_I) (J : xv_J) {p : Nat} (hp : p < 16) : xv_Met mX11_isPossible 8 0 0 (sx n c) I (rx c) J [.ref 60, .int (nI p)] (xv_eq (.inl (some (.int (bi (mPoss I p))))) (sx n c) (I) (rx c) J) := by
  refine xv_Met.of (by decide +kernel) (Nat.le_of_ble_eq_true rfl) (List.forall_mem_cons.mpr ⟨rfl, List.forall_mem_cons.mpr ⟨rfl, fun _ h => nomatch h⟩⟩) ?_
  show xv_W mX11_isPossible 8 0 0 _ 0 0 (sx n c) I (rx c) J 0 [some (.ref 60), some (.int (nI p)), none, none, none] []
  refine xv_al0 fX11_isPossible_0 ?_
  refine xv_getR fX11_isPossible_1 gX11_107 rfl (sx_60 _ _) (rx_60_41 _) ?_
  refine xv_il1 fX11_isPossible_4 ?_
  refine xv_ialdN fX11_isPossible_5 (sx_93 _ _) (⟨by omega, by decide⟩) ?_
  refine xv_if_eq fX11_isPossible_6 (fun h_6 => ?_) (fun h_6 => ?_)
  · refine xv_k fX11_isPossible_24 ?_
    refine xv_goto fX11_isPossible_25 ?_
    refine xv_eqi (y := bi (I 93 p = 0 ∨ I 93 p = I 94 p)) (by rw [bi_t (Or.inl h_6)]) ?_
    refine xv_is2 fX11_isPossible_29 ?_
    refine xv_k fX11_isPossible_30 ?_
    refine xv_is3 fX11_isPossible_31 ?_
    exact l_poss n c I J hp p 0 _ none (by omega) (bi_iff ⟨fun h => ⟨h, lt_no⟩, fun h => h.1⟩)
  · refine xv_al0 fX11_isPossible_9 ?_
    refine xv_getR fX11_isPossible_10 gX11_107 rfl (sx_60 _ _) (rx_60_41 _) ?_
    refine xv_il1 fX11_isPossible_13 ?_
    refine xv_ialdN fX11_isPossible_14 (sx_93 _ _) (⟨by omega, by decide⟩) ?_
    refine xv_al0 fX11_isPossible_15 ?_
    refine xv_getR fX11_isPossible_16 gX11_110 rfl (sx_60 _ _) (rx_60_42 _) ?_
    refine xv_il1 fX11_isPossible_19 ?_
    refine xv_ialdN fX11_isPossible_20 (sx_94 _ _) (⟨by omega, by decide⟩) ?_
    refine xv_ic_ne fX11_isPossible_21 (fun h_21 => ?_) (fun h_21 => ?_)
    · refine xv_k fX11_isPossible_28 ?_
      refine xv_eqi (y := bi (I 93 p = 0 ∨ I 93 p = I 94 p)) (by rw [bi_f (fun h => h.elim h_6 h_21)]) ?_
      refine xv_is2 fX11_isPossible_29 ?_
      refine xv_k fX11_isPossible_30 ?_
      refine xv_is3 fX11_isPossible_31 ?_
      exact l_poss n c I J hp p 0 _ none (by omega) (bi_iff ⟨fun h => ⟨h, lt_no⟩, fun h => h.1⟩)
    · refine xv_k fX11_isPossible_24 ?_
      refine xv_goto fX11_isPossible_25 ?_
      refine xv_eqi (y := bi (I 93 p = 0 ∨ I 93 p = I 94 p)) (by rw [bi_t (Or.inr h_21)]) ?_
      refine xv_is2 fX11_isPossible_29 ?_
      refine xv_k fX11_isPossible_30 ?_
      refine xv_is3 fX11_isPossible_31 ?_
      exact l_poss n c I J hp p 0 _ none (by omega) (bi_iff ⟨fun h => ⟨h, lt_no⟩, fun h => h.1⟩)

/-- what the places from p on give, m of them, those before filled as tried says -/
noncomputable def mCF : Nat → Nat → xv_I → Nat
  | 0, _, _ => 1
  | m + 1, p, I => it (fun u s => s + iteP (mPoss (xv_u I 94 p (nI (u + 1))) p) (mCF m (p + 1) (xv_u I 94 p (nI (u + 1)))) 0) 4 0 0
noncomputable def mTerm (m p u : Nat) (I : xv_I) : Nat := iteP (mPoss (xv_u I 94 p (nI (u + 1))) p) (mCF m (p + 1) (xv_u I 94 p (nI (u + 1)))) 0
abbrev mAg (p : Nat) (I I' : xv_I) : Prop := ∀ w j, (w ≠ 94 ∨ j < p) → I' w j = I w j
theorem mAg.u {p : Nat} {I I' : xv_I} (h : mAg p I I') (x : Int32) : mAg (p + 1) (xv_u I 94 p x) (xv_u I' 94 p x) := fun w j hw => by
  unfold xv_u
  by_cases e : w = 94 ∧ j = p
  · rw [if_pos e, if_pos e]
  · rw [if_neg e, if_neg e]
    exact h w j (by omega)
theorem mPoss_ag {p : Nat} {I I' : xv_I} (h : mAg (p + 1) I I') : mPoss I' p ↔ mPoss I p := by
  unfold mPoss
  rw [h 93 p (Or.inl (by decide)), h 94 p (Or.inr (by omega))]
  constructor <;> intro q <;> refine ⟨q.1, fun k hk => ?_⟩
  · have := q.2 k hk
    rw [h 94 k (Or.inr (by omega))] at this
    exact this
  · rw [h 94 k (Or.inr (by omega))]
    exact q.2 k hk
theorem iteP_iff {α : Type} {P Q : Prop} (h : P ↔ Q) (a b : α) : iteP P a b = iteP Q a b := by rw [propext h]
theorem mCF_ag : ∀ (m p : Nat) {I I' : xv_I}, mAg p I I' → mCF m p I' = mCF m p I
  | 0, _, _, _, _ => rfl
  | m + 1, p, I, I', h => by
    unfold mCF
    congr 1
    funext u s
    rw [mCF_ag m (p + 1) (h.u _), iteP_iff (mPoss_ag (h.u _))]
theorem mTerm_ag {m p u : Nat} {I I' : xv_I} (h : mAg p I I') : mTerm m p u I' = mTerm m p u I := by
  unfold mTerm
  rw [mCF_ag m (p + 1) (h.u _), iteP_iff (mPoss_ag (h.u _))]
noncomputable def mSums (m p : Nat) : Nat → Nat → xv_I → Nat
  | 0, _, _ => 0
  | r + 1, v, I => mTerm m p v I + mSums m p r (v + 1) I
theorem mSums_ag {m p : Nat} {I I' : xv_I} (h : mAg p I I') : ∀ (r v : Nat), mSums m p r v I' = mSums m p r v I
  | 0, _ => rfl
  | r + 1, v => by rw [mSums, mSums, mTerm_ag h, mSums_ag h r]
theorem mCF_sums (m p : Nat) (I : xv_I) : mCF (m + 1) p I = mSums m p 4 0 I := by
  unfold mCF
  simp only [it, mSums, mTerm]
  omega
theorem mAg.rf {p : Nat} {I : xv_I} : mAg p I I := fun _ _ _ => rfl
theorem mAg.tr {p : Nat} {I I' I2 : xv_I} (h : mAg p I I') (h2 : mAg p I' I2) : mAg p I I2 := fun w j hw => (h2 w j hw).trans (h w j hw)
theorem mAg_u {p q : Nat} {I : xv_I} (x : Int32) (h : p ≤ q) : mAg p I (xv_u I 94 q x) := fun w j hw => by
  unfold xv_u
  rw [if_neg (by omega)]
theorem mAg.dn {p q : Nat} {I I' : xv_I} (h : mAg q I I') (hp : p ≤ q) : mAg p I I' := fun w j hw => h w j (by omega)
theorem l_sol (n : Nat) (c : Nat × Nat) (J : xv_J) {Q : xv_Q} : ∀ (m p r v s : Nat) (I : xv_I), p + m = 15 → v + r = 4 → I 94 p = nI v → (∀ I', mAg p I I' → xv_W mX11_solutions 9 0 0 Q 0 0 (sx n c) I' (rx c) J 16 [some (.ref 60), some (.int (nI (s + mSums m p r v I))), some (.int (nI p + -1))] []) → xv_W mX11_solutions 9 0 0 Q 0 0 (sx n c) I (rx c) J 16 [some (.ref 60), some (.int (nI s)), some (.int (nI p))] [] := by
  intro m
  induction m with
  | zero =>
    intro p r
    induction r with
    | zero =>
      intro v s I hm hv h94 hx
      show xv_W mX11_solutions 9 0 0 _ 0 0 (sx n c) I (rx c) J 16 [some (.ref 60), some (.int (nI s)), some (.int (nI p))] []
      refine xv_il2 fX11_solutions_16 ?_
      refine xv_if_lt fX11_solutions_17 (fun h_17 => ?_) (fun h_17 => ?_)
      · exact absurd h_17 (nI_pos (by omega))
      · refine xv_al0 fX11_solutions_20 ?_
        refine xv_getR fX11_solutions_21 gX11_110 rfl (sx_60 _ _) (rx_60_42 _) ?_
        refine xv_il2 fX11_solutions_24 ?_
        refine xv_dup2 fX11_solutions_25 ?_
        refine xv_ialdN fX11_solutions_26 (sx_94 _ _) (⟨by omega, by decide⟩) ?_
        rw [h94]
        refine xv_k fX11_solutions_27 ?_
        refine xv_iadd fX11_solutions_28 ?_
        rw [nI_add]
        refine xv_iastN fX11_solutions_29 (sx_94 _ _) (⟨by omega, by decide⟩) ?_
        refine xv_al0 fX11_solutions_30 ?_
        refine xv_getR fX11_solutions_31 gX11_110 rfl (sx_60 _ _) (rx_60_42 _) ?_
        refine xv_il2 fX11_solutions_34 ?_
        refine xv_ialdN fX11_solutions_35 (sx_94 _ _) (⟨by omega, by decide⟩) ?_
        rw [xv_u_eq]
        refine xv_k fX11_solutions_36 ?_
        refine xv_ic_le fX11_solutions_37 (fun h_37 => ?_) (fun h_37 => ?_)
        · exact absurd h_37 (by rw [show v = 4 by omega]; decide)
        · refine xv_iinc2 (v := -1) fX11_solutions_40 (by decide) ?_
          refine xv_goto fX11_solutions_43 ?_
          exact hx _ (mAg_u _ (Nat.le_refl _))
    | succ r ih =>
      intro v s I hm hv h94 hx
      show xv_W mX11_solutions 9 0 0 _ 0 0 (sx n c) I (rx c) J 16 [some (.ref 60), some (.int (nI s)), some (.int (nI p))] []
      refine xv_il2 fX11_solutions_16 ?_
      refine xv_if_lt fX11_solutions_17 (fun h_17 => ?_) (fun h_17 => ?_)
      · exact absurd h_17 (nI_pos (by omega))
      · refine xv_al0 fX11_solutions_20 ?_
        refine xv_getR fX11_solutions_21 gX11_110 rfl (sx_60 _ _) (rx_60_42 _) ?_
        refine xv_il2 fX11_solutions_24 ?_
        refine xv_dup2 fX11_solutions_25 ?_
        refine xv_ialdN fX11_solutions_26 (sx_94 _ _) (⟨by omega, by decide⟩) ?_
        rw [h94]
        refine xv_k fX11_solutions_27 ?_
        refine xv_iadd fX11_solutions_28 ?_
        rw [nI_add]
        refine xv_iastN fX11_solutions_29 (sx_94 _ _) (⟨by omega, by decide⟩) ?_
        refine xv_al0 fX11_solutions_30 ?_
        refine xv_getR fX11_solutions_31 gX11_110 rfl (sx_60 _ _) (rx_60_42 _) ?_
        refine xv_il2 fX11_solutions_34 ?_
        refine xv_ialdN fX11_solutions_35 (sx_94 _ _) (⟨by omega, by decide⟩) ?_
        rw [xv_u_eq]
        refine xv_k fX11_solutions_36 ?_
        refine xv_ic_le fX11_solutions_37 (fun h_37 => ?_) (fun h_37 => ?_)
        · refine xv_al0 fX11_solutions_46 ?_
          refine xv_il2 fX11_solutions_47 ?_
          refine xv_callV1R (m_poss n c _ J (p := p) (by omega)) fX11_solutions_48 YX11_isPossible VX11_isPossible lX11_259 rfl rfl (sx_60 _ _) (Nat.le_of_ble_eq_true rfl) (by decide) (by decide) (by decide) ?_
          refine xv_if_eq fX11_solutions_51 (fun h_51 => ?_) (fun h_51 => ?_)
          · refine ih (v + 1) s _ hm (by omega) (xv_u_eq _ _ _ _) (fun I' h9 => ?_)
            obtain k := @hx I' (mAg.tr (mAg_u _ (Nat.le_refl _)) h9)
            rw [mSums, mTerm, iteP_f (bi_0 h_51), Nat.zero_add] at k
            rw [mSums_ag (mAg_u _ (Nat.le_refl _))]
            exact k
          · refine xv_il2 fX11_solutions_54 ?_
            refine xv_k fX11_solutions_55 ?_
            refine xv_ic_ne fX11_solutions_57 (fun h_57 => ?_) (fun h_57 => ?_)
            · exact absurd h_57 (fun q => q (by rw [show p = 15 by omega]))
            · refine xv_iincN1 (a := 1) fX11_solutions_60 (by decide) ?_
              refine xv_goto fX11_solutions_63 ?_
              refine ih (v + 1) (s + 1) _ hm (by omega) (xv_u_eq _ _ _ _) (fun I' h9 => ?_)
              obtain k := @hx I' (mAg.tr (mAg_u _ (Nat.le_refl _)) h9)
              rw [mSums, mTerm, iteP_t (bi_1 h_51), show mCF 0 (p + 1) (xv_u I 94 p (nI (v + 1))) = 1 from rfl, ← Nat.add_assoc] at k
              rw [mSums_ag (mAg_u _ (Nat.le_refl _))]
              exact k
        · exact absurd (nI_le (by omega) (by decide)) h_37
  | succ m ihm =>
    intro p r
    induction r with
    | zero =>
      intro v s I hm hv h94 hx
      show xv_W mX11_solutions 9 0 0 _ 0 0 (sx n c) I (rx c) J 16 [some (.ref 60), some (.int (nI s)), some (.int (nI p))] []
      refine xv_il2 fX11_solutions_16 ?_
      refine xv_if_lt fX11_solutions_17 (fun h_17 => ?_) (fun h_17 => ?_)
      · exact absurd h_17 (nI_pos (by omega))
      · refine xv_al0 fX11_solutions_20 ?_
        refine xv_getR fX11_solutions_21 gX11_110 rfl (sx_60 _ _) (rx_60_42 _) ?_
        refine xv_il2 fX11_solutions_24 ?_
        refine xv_dup2 fX11_solutions_25 ?_
        refine xv_ialdN fX11_solutions_26 (sx_94 _ _) (⟨by omega, by decide⟩) ?_
        rw [h94]
        refine xv_k fX11_solutions_27 ?_
        refine xv_iadd fX11_solutions_28 ?_
        rw [nI_add]
        refine xv_iastN fX11_solutions_29 (sx_94 _ _) (⟨by omega, by decide⟩) ?_
        refine xv_al0 fX11_solutions_30 ?_
        refine xv_getR fX11_solutions_31 gX11_110 rfl (sx_60 _ _) (rx_60_42 _) ?_
        refine xv_il2 fX11_solutions_34 ?_
        refine xv_ialdN fX11_solutions_35 (sx_94 _ _) (⟨by omega, by decide⟩) ?_
        rw [xv_u_eq]
        refine xv_k fX11_solutions_36 ?_
        refine xv_ic_le fX11_solutions_37 (fun h_37 => ?_) (fun h_37 => ?_)
        · exact absurd h_37 (by rw [show v = 4 by omega]; decide)
        · refine xv_iinc2 (v := -1) fX11_solutions_40 (by decide) ?_
          refine xv_goto fX11_solutions_43 ?_
          exact hx _ (mAg_u _ (Nat.le_refl _))
    | succ r ih =>
      intro v s I hm hv h94 hx
      show xv_W mX11_solutions 9 0 0 _ 0 0 (sx n c) I (rx c) J 16 [some (.ref 60), some (.int (nI s)), some (.int (nI p))] []
      refine xv_il2 fX11_solutions_16 ?_
      refine xv_if_lt fX11_solutions_17 (fun h_17 => ?_) (fun h_17 => ?_)
      · exact absurd h_17 (nI_pos (by omega))
      · refine xv_al0 fX11_solutions_20 ?_
        refine xv_getR fX11_solutions_21 gX11_110 rfl (sx_60 _ _) (rx_60_42 _) ?_
        refine xv_il2 fX11_solutions_24 ?_
        refine xv_dup2 fX11_solutions_25 ?_
        refine xv_ialdN fX11_solutions_26 (sx_94 _ _) (⟨by omega, by decide⟩) ?_
        rw [h94]
        refine xv_k fX11_solutions_27 ?_
        refine xv_iadd fX11_solutions_28 ?_
        rw [nI_add]
        refine xv_iastN fX11_solutions_29 (sx_94 _ _) (⟨by omega, by decide⟩) ?_
        refine xv_al0 fX11_solutions_30 ?_
        refine xv_getR fX11_solutions_31 gX11_110 rfl (sx_60 _ _) (rx_60_42 _) ?_
        refine xv_il2 fX11_solutions_34 ?_
        refine xv_ialdN fX11_solutions_35 (sx_94 _ _) (⟨by omega, by decide⟩) ?_
        rw [xv_u_eq]
        refine xv_k fX11_solutions_36 ?_
        refine xv_ic_le fX11_solutions_37 (fun h_37 => ?_) (fun h_37 => ?_)
        · refine xv_al0 fX11_solutions_46 ?_
          refine xv_il2 fX11_solutions_47 ?_
          refine xv_callV1R (m_poss n c _ J (p := p) (by omega)) fX11_solutions_48 YX11_isPossible VX11_isPossible lX11_259 rfl rfl (sx_60 _ _) (Nat.le_of_ble_eq_true rfl) (by decide) (by decide) (by decide) ?_
          refine xv_if_eq fX11_solutions_51 (fun h_51 => ?_) (fun h_51 => ?_)
          · refine ih (v + 1) s _ hm (by omega) (xv_u_eq _ _ _ _) (fun I' h9 => ?_)
            obtain k := @hx I' (mAg.tr (mAg_u _ (Nat.le_refl _)) h9)
            rw [mSums, mTerm, iteP_f (bi_0 h_51), Nat.zero_add] at k
            rw [mSums_ag (mAg_u _ (Nat.le_refl _))]
            exact k
          · refine xv_il2 fX11_solutions_54 ?_
            refine xv_k fX11_solutions_55 ?_
            refine xv_ic_ne fX11_solutions_57 (fun h_57 => ?_) (fun h_57 => ?_)
            · refine xv_iincN2 (a := 1) fX11_solutions_66 (by decide) ?_
              refine xv_al0 fX11_solutions_69 ?_
              refine xv_getR fX11_solutions_70 gX11_110 rfl (sx_60 _ _) (rx_60_42 _) ?_
              refine xv_il2 fX11_solutions_73 ?_
              refine xv_k fX11_solutions_74 ?_
              refine xv_iastN fX11_solutions_75 (sx_94 _ _) (⟨by omega, by decide⟩) ?_
              refine xv_goto fX11_solutions_76 ?_
              refine ihm (p + 1) 4 0 s _ (by omega) rfl (xv_u_eq _ _ _ _) (fun I2 h2 => ?_)
              rw [nI_decr (Nat.succ_le_succ (Nat.zero_le p)), show p + 1 - 1 = p from rfl]
              obtain e2 : mAg (p + 1) (xv_u I 94 p (nI (v + 1))) I2 := mAg.tr (mAg_u _ (Nat.le_refl _)) h2
              refine ih (v + 1) _ I2 hm (by omega) ((e2 94 p (Or.inr (by omega))).trans (xv_u_eq _ _ _ _)) (fun I' h9 => ?_)
              obtain k := @hx I' (mAg.tr (mAg.tr (mAg_u _ (Nat.le_refl _)) (e2.dn (Nat.le_succ p))) h9)
              rw [mSums, mTerm, iteP_t (bi_1 h_51), ← Nat.add_assoc, mCF_sums] at k
              rw [mSums_ag (mAg.tr (mAg_u _ (Nat.le_refl _)) (e2.dn (Nat.le_succ p))), mSums_ag (I := xv_u I 94 p (nI (v + 1))) (mAg_u _ (Nat.le_refl _))]
              exact k
            · exact absurd h_57 (nI_ne2 (by omega) (by omega) (by decide))
        · exact absurd (nI_le (by omega) (by decide)) h_37

theorem mCF_t (m p : Nat) (I : xv_I) (x : Int32) : mCF m p (xv_u I 60 48 x) = mCF m p I := by
  have key : ∀ (m p : Nat) (I I' : xv_I), (∀ j, I' 93 j = I 93 j) → (∀ j, I' 94 j = I 94 j) → mCF m p I' = mCF m p I := by
    intro m
    induction m with
    | zero => intros; rfl
    | succ m ih =>
      intro p I I' h1 h2
      have e1 : ∀ z j, (xv_u I' 94 p z) 93 j = (xv_u I 94 p z) 93 j := fun z j => by rw [xv_u_ne _ _ _ (by decide), xv_u_ne _ _ _ (by decide), h1]
      have e2 : ∀ z j, (xv_u I' 94 p z) 94 j = (xv_u I 94 p z) 94 j := fun z j => by
        unfold xv_u
        by_cases e : 94 = 94 ∧ j = p
        · rw [if_pos e, if_pos e]
        · rw [if_neg e, if_neg e, h2]
      unfold mCF
      congr 1
      funext u s
      rw [ih (p + 1) _ _ (e1 _) (e2 _)]
      congr 1
      apply iteP_iff
      unfold mPoss
      simp only [e1, e2]
  exact key m p I _ (fun j => xv_u_ne _ _ _ (by decide)) (fun j => xv_u_ne _ _ _ (by decide))
theorem m_solutions (n : Nat) (c : Nat × Nat) (I : xv_I) (J : xv_J) : xv_Met mX11_solutions 9 0 0 (sx n c) I (rx c) J [.ref 60] (fun o s i r j => o = .inl (some (.int (nI (mCF 16 0 I)))) ∧ s = sx n c ∧ r = rx c ∧ j = J ∧ mAg 0 (xv_u I 60 48 (nI 0)) i) := by
  refine xv_Met.of (by decide +kernel) (Nat.le_of_ble_eq_true rfl) (List.forall_mem_cons.mpr ⟨rfl, fun _ h => nomatch h⟩) ?_
  show xv_W mX11_solutions 9 0 0 _ 0 0 (sx n c) I (rx c) J 0 [some (.ref 60), none, none] []
  refine xv_al0 fX11_solutions_0 ?_
  refine xv_k fX11_solutions_1 ?_
  refine xv_putI fX11_solutions_2 gX11_122 rfl (tp11_48 _) (sx_60 _ _) ⟨rfl, rfl⟩ ?_
  refine xv_k fX11_solutions_5 ?_
  refine xv_is1 fX11_solutions_6 ?_
  refine xv_k fX11_solutions_7 ?_
  refine xv_is2 fX11_solutions_8 ?_
  refine xv_al0 fX11_solutions_9 ?_
  refine xv_getR fX11_solutions_10 gX11_110 rfl (sx_60 _ _) (rx_60_42 _) ?_
  refine xv_k fX11_solutions_13 ?_
  refine xv_k fX11_solutions_14 ?_
  refine xv_iastN fX11_solutions_15 (sx_94 _ _) (⟨by omega, by decide⟩) ?_
  refine l_sol n c J 15 0 4 0 0 _ rfl rfl (xv_u_eq _ _ _ _) (fun I' h9 => ?_)
  rw [show nI 0 + -1 = -1 by decide, mSums_ag (I := xv_u I 60 48 (nI 0)) (mAg_u _ (Nat.le_refl _)), ← mCF_sums, Nat.zero_add, mCF_t]
  refine xv_il2 fX11_solutions_16 ?_
  refine xv_if_lt fX11_solutions_17 (fun h_17 => ?_) (fun h_17 => ?_)
  · refine xv_il1 fX11_solutions_79 ?_
    exact xv_iret fX11_solutions_80 rfl rfl ⟨rfl, rfl, rfl, rfl, mAg.tr (mAg_u _ (Nat.le_refl _)) h9⟩
  · exact absurd (by decide) h_17