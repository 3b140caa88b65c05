theorem adv_lt {ct w h col sec zo : Nat} (h1 : ct < 4) (h2 : w ≤ 3) (h3 : h ≤ 4) (h4 : col < 2) (h5 : sec ≤ 4) (h6 : zo ≤ 3) : adv ct w h col sec zo < 2 ^ 31 ∧ adv ct w h col sec zo % 10 = ct ∧ adv ct w h col sec zo / 10 % 10 = w ∧ adv ct w h col sec zo / 100 % 10 = h ∧ adv ct w h col sec zo / 1000 % 10 = col ∧ adv ct w h col sec zo / 10000 % 10 = sec ∧ adv ct w h col sec zo / 100000 = zo := by
  unfold adv
  omega
/-- what the law needs of an advertisement here -/
def fAd (I : xv_I) (i ct : Nat) : Prop := ct < 4 ∧ I (100 + i) 0 = nI ct ∧ (∃ y, y < 2 ^ 31 ∧ y % 10 = ct ∧ I 61 i = nI y) ∧ ((I (100 + i) 6 = -1 ∧ I 62 i = -1) ∨ ∃ p f, p < 10 ∧ f < 12 ∧ I (100 + i) 6 = nI p ∧ I 62 i = nI (100 * p + f))
theorem gAd1.f {I : xv_I} {i : Nat} (h : gAd1 I i) : ∃ ct, fAd I i ct := by
  obtain ⟨ct, w, h9, col, sec, zo, a1, a2, a3, a4, a5, a6, a7, a8, a9, b1, b2, b3, b4, b5⟩ := h
  have h := adv_lt a1 a2.2 a3.2 a4 a5 a6
  refine ⟨ct, a1, a7, ⟨_, h.1, h.2.1, b4⟩, ?_⟩
  rcases b5 with ⟨d1, d2, d3⟩ | ⟨p, f, d1, d2, d3, d4, d5, d6, d7⟩
  · exact Or.inl ⟨d1, d2⟩
  · exact Or.inr ⟨p, f, d1, by omega, d4, d6⟩
/-- an advertisement that is too near -/
abbrev bad (I : xv_I) (a ct p i : Nat) : Prop := i ≠ a ∧ ¬ I (100 + i) 6 = -1 ∧ I (100 + i) 0 = I (100 + a) 0 ∧ xApart (nI p) (I (100 + i) 6) < I 17 ct
theorem l_farT (n : Nat) (c : Nat × Nat) (I : xv_I) (J : xv_J) {Q : xv_Q} {a ct p : Nat} (ha : a < 20) (hp9 : p < 10) (hfa : fAd I a ct) (hD : gDist I) {k : Nat} (hk : k < 20) {ck : Nat} (hfk : fAd I k ck) {y l6 : Int32} {l8 l9 : Option Value} (hy : (I (100 + k) 6 = -1 ∧ y = nI 99) ∨ (¬ I (100 + k) 6 = -1 ∧ y = xApart (nI p) (I (100 + k) 6))) (h6 : l6 = bi (∀ i, i < k → ¬ bad I a ct p i)) (kk : ∀ l9 l6, l6 = bi (∀ i, i < (k + 1) → ¬ bad I a ct p i) → xv_W mL_isFar 0 0 0 Q 0 0 (sx n c) I (rx c) J 133 (some (.ref 61) :: some (.ref 62) :: some (.ref 65) :: some (.ref 69) :: some (.int (nI a)) :: some (.int (nI p)) :: some (.int l6) :: some (.int (nI k)) :: l8 :: l9 :: []) []) : xv_W mL_isFar 0 0 0 Q 0 0 (sx n c) I (rx c) J 81 (some (.ref 61) :: some (.ref 62) :: some (.ref 65) :: some (.ref 69) :: some (.int (nI a)) :: some (.int (nI p)) :: some (.int l6) :: some (.int (nI k)) :: l8 :: l9 :: []) [.int y] := by
  obtain ⟨f1, f2, ⟨ya, f3, f4, f5⟩, f6⟩ := hfa
  obtain ⟨g1, g2, ⟨yk, g3, g4, g5⟩, g6⟩ := hfk
  obtain ⟨x9, x1, x2, x3⟩ := hD ct f1
  refine xv_is9 fL_isFar_81 ?_
  refine xv_il6 fL_isFar_83 ?_
  refine xv_if_eq fL_isFar_85 (fun h_85 => ?_) (fun h_85 => ?_)
  · refine xv_k fL_isFar_130 ?_
    refine xv_is6 fL_isFar_131 ?_
    exact kk _ _ (bi_f (fun q => bi_0 (h6 ▸ h_85) (fun i hi => q i (by omega)))).symm
  · refine xv_il7 fL_isFar_88 ?_
    refine xv_il4 fL_isFar_90 ?_
    refine xv_ic_eq fL_isFar_92 (fun h_92 => ?_) (fun h_92 => ?_)
    · refine xv_k fL_isFar_126 ?_
      refine xv_goto fL_isFar_127 ?_
      refine xv_is6 fL_isFar_131 ?_
      exact kk _ _ (bi_t (lt_or (bi_1 (h6 ▸ h_85)) (fun g => g.1 ((nI_eq (by omega) (by omega)).mp h_92)))).symm
    · refine xv_al0 fL_isFar_95 ?_
      refine xv_il7 fL_isFar_96 ?_
      refine xv_ialdN fL_isFar_98 (sx_61 _ _) (⟨hk, by decide⟩) ?_
      rw [g5]
      refine xv_k fL_isFar_99 ?_
      refine xv_irem fL_isFar_101 (by decide) ?_
      refine xv_eqi (y := nI ck) (by rw [nI_rem g3 (by decide), g4]) ?_
      refine xv_al0 fL_isFar_102 ?_
      refine xv_il4 fL_isFar_103 ?_
      refine xv_ialdN fL_isFar_105 (sx_61 _ _) (⟨ha, by decide⟩) ?_
      rw [f5]
      refine xv_k fL_isFar_106 ?_
      refine xv_irem fL_isFar_108 (by decide) ?_
      refine xv_eqi (y := nI ct) (by rw [nI_rem f3 (by decide), f4]) ?_
      refine xv_ic_ne fL_isFar_109 (fun h_109 => ?_) (fun h_109 => ?_)
      · refine xv_k fL_isFar_126 ?_
        refine xv_goto fL_isFar_127 ?_
        refine xv_is6 fL_isFar_131 ?_
        exact kk _ _ (bi_t (lt_or (bi_1 (h6 ▸ h_85)) (fun g => h_109 (g2.symm.trans (g.2.2.1.trans f2))))).symm
      · refine xv_il9 fL_isFar_112 ?_
        refine xv_al2 fL_isFar_114 ?_
        refine xv_al0 fL_isFar_115 ?_
        refine xv_il4 fL_isFar_116 ?_
        refine xv_ialdN fL_isFar_118 (sx_61 _ _) (⟨ha, by decide⟩) ?_
        rw [f5]
        refine xv_k fL_isFar_119 ?_
        refine xv_irem fL_isFar_121 (by decide) ?_
        refine xv_eqi (y := nI ct) (by rw [nI_rem f3 (by decide), f4]) ?_
        refine xv_ialdN fL_isFar_122 (sx_65 _ _) (⟨f1, by decide⟩) ?_
        refine xv_ic_lt fL_isFar_123 (fun h_123 => ?_) (fun h_123 => ?_)
        · refine xv_k fL_isFar_130 ?_
          refine xv_is6 fL_isFar_131 ?_
          refine kk _ _ (bi_f (fun q => q k (Nat.lt_succ_self k) ?_)).symm
          rcases hy with ⟨e1, e2⟩ | ⟨e1, e2⟩
          · exact absurd h_123 (by rw [e2, x3]; exact nI_nlt (by omega) (by decide))
          · exact ⟨fun g => h_92 (by rw [g]), e1, by rw [g2, f2]; exact h_109, by rw [← e2, x2, ← x3]; exact h_123⟩
        · refine xv_k fL_isFar_126 ?_
          refine xv_goto fL_isFar_127 ?_
          refine xv_is6 fL_isFar_131 ?_
          refine kk _ _ (bi_t (lt_or (bi_1 (h6 ▸ h_85)) (fun g => ?_))).symm
          rcases hy with ⟨e1, e2⟩ | ⟨e1, e2⟩
          · exact g.2.1 e1
          · exact h_123 (by rw [e2, x3, ← x2]; exact g.2.2.2)
theorem fa_nle_le {x y : Int32} (h : ¬ x ≤ y) : y ≤ x := by
  rw [fa_le] at *
  omega
theorem apart_le {p q : Nat} (hp : p < 2 ^ 31) (hq : q < 2 ^ 31) (h : nI p ≤ nI q) : (if nI q ≤ nI p then nI p - nI q else nI q - nI p) = nI q - nI p := by
  have h2 := (nI_leI hp hq).mp h
  by_cases g : nI q ≤ nI p
  · have h3 := (nI_leI hq hp).mp g
    rw [if_pos g, show p = q by omega]
  · rw [if_neg g]
theorem l_far9 (n : Nat) (c : Nat × Nat) (I : xv_I) (J : xv_J) {Q : xv_Q} {a ct p : Nat} (ha : a < 20) (hp9 : p < 10) (hfa : fAd I a ct) (hD : gDist I) (hA : ∀ i, i < c.1 → ∃ ct, fAd I i ct) (hg : I 69 0 = nI c.1) (hn : c.1 ≤ 20) (kk : ∀ l8 l9, xv_W mL_isFar 0 0 0 Q 0 0 (sx n c) I (rx c) J 139 (some (.ref 61) :: some (.ref 62) :: some (.ref 65) :: some (.ref 69) :: some (.int (nI a)) :: some (.int (nI p)) :: some (.int (bi (∀ i, i < c.1 → ¬ bad I a ct p i))) :: some (.int (nI c.1)) :: l8 :: l9 :: []) []) : ∀ (m k : Nat) (l6 : Int32) (l8 l9 : Option Value), k + m = c.1 → l6 = bi (∀ i, i < k → ¬ bad I a ct p i) → xv_W mL_isFar 0 0 0 Q 0 0 (sx n c) I (rx c) J 6 (some (.ref 61) :: some (.ref 62) :: some (.ref 65) :: some (.ref 69) :: some (.int (nI a)) :: some (.int (nI p)) :: some (.int l6) :: some (.int (nI k)) :: l8 :: l9 :: []) [] := by
  intro m
  induction m with
  | zero =>
    intro k l6 l8 l9 hm h6
    obtain rfl : k = c.1 := by omega
    show xv_W mL_isFar 0 0 0 _ 0 0 (sx n c) I (rx c) J 6 (some (.ref 61) :: some (.ref 62) :: some (.ref 65) :: some (.ref 69) :: some (.int (nI a)) :: some (.int (nI p)) :: some (.int l6) :: some (.int (nI c.1)) :: l8 :: l9 :: []) []
    refine xv_il7 fL_isFar_6 ?_
    refine xv_al3 fL_isFar_8 ?_
    refine xv_k fL_isFar_9 ?_
    refine xv_ialdN fL_isFar_10 (sx_69 _ _) (⟨by decide, by decide⟩) ?_
    rw [hg]
    refine xv_ic_ge fL_isFar_11 (fun h_11 => ?_) (fun h_11 => ?_)
    · rw [h6]
      exact kk l8 l9
    · exact absurd (nI_le (Nat.le_refl _) (by omega)) h_11
  | succ m ih =>
    intro k l6 l8 l9 hm h6
    have hk : k < c.1 := by omega
    obtain ⟨ck, hfk⟩ := hA k hk
    show xv_W mL_isFar 0 0 0 _ 0 0 (sx n c) I (rx c) J 6 (some (.ref 61) :: some (.ref 62) :: some (.ref 65) :: some (.ref 69) :: some (.int (nI a)) :: some (.int (nI p)) :: some (.int l6) :: some (.int (nI k)) :: l8 :: l9 :: []) []
    rcases hfk.2.2.2 with ⟨e1, e2⟩ | ⟨q, f, e0, e4, e1, e2⟩
    · refine xv_il7 fL_isFar_6 ?_
      refine xv_al3 fL_isFar_8 ?_
      refine xv_k fL_isFar_9 ?_
      refine xv_ialdN fL_isFar_10 (sx_69 _ _) (⟨by decide, by decide⟩) ?_
      rw [hg]
      refine xv_ic_ge fL_isFar_11 (fun h_11 => ?_) (fun h_11 => ?_)
      · exact absurd h_11 (nI_ge hk (by omega))
      · refine xv_al1 fL_isFar_14 ?_
        refine xv_il7 fL_isFar_15 ?_
        refine xv_ialdN fL_isFar_17 (sx_62 _ _) (⟨by omega, by decide⟩) ?_
        rw [e2]
        refine xv_k fL_isFar_18 ?_
        refine xv_idiv fL_isFar_20 (by decide) ?_
        refine xv_is8 fL_isFar_21 ?_
        refine xv_al1 fL_isFar_23 ?_
        refine xv_il7 fL_isFar_24 ?_
        refine xv_ialdN fL_isFar_26 (sx_62 _ _) (⟨by omega, by decide⟩) ?_
        rw [e2]
        refine xv_if_ge fL_isFar_27 (fun h_27 => ?_) (fun h_27 => ?_)
        · exact absurd h_27 (by decide)
        · refine xv_k fL_isFar_30 ?_
          refine xv_goto fL_isFar_32 ?_
          exact l_farT n c I J ha hp9 hfa hD (by omega) hfk (Or.inl ⟨e1, rfl⟩) h6 (fun l9 l6 h6 => by
            refine xv_iincN7 (a := 1) fL_isFar_133 (by decide) ?_
            refine xv_goto fL_isFar_136 ?_
            exact ih (k + 1) l6 _ _ (by omega) h6)
    · refine xv_il7 fL_isFar_6 ?_
      refine xv_al3 fL_isFar_8 ?_
      refine xv_k fL_isFar_9 ?_
      refine xv_ialdN fL_isFar_10 (sx_69 _ _) (⟨by decide, by decide⟩) ?_
      rw [hg]
      refine xv_ic_ge fL_isFar_11 (fun h_11 => ?_) (fun h_11 => ?_)
      · exact absurd h_11 (nI_ge hk (by omega))
      · refine xv_al1 fL_isFar_14 ?_
        refine xv_il7 fL_isFar_15 ?_
        refine xv_ialdN fL_isFar_17 (sx_62 _ _) (⟨by omega, by decide⟩) ?_
        rw [e2]
        refine xv_k fL_isFar_18 ?_
        refine xv_idiv fL_isFar_20 (by decide) ?_
        refine xv_eqi (y := nI q) (by rw [nI_div (by omega) (by decide)]; congr 1; omega) ?_
        refine xv_is8 fL_isFar_21 ?_
        refine xv_al1 fL_isFar_23 ?_
        refine xv_il7 fL_isFar_24 ?_
        refine xv_ialdN fL_isFar_26 (sx_62 _ _) (⟨by omega, by decide⟩) ?_
        rw [e2]
        refine xv_if_ge fL_isFar_27 (fun h_27 => ?_) (fun h_27 => ?_)
        · refine xv_il5 fL_isFar_35 ?_
          refine xv_k fL_isFar_37 ?_
          refine xv_ic_le fL_isFar_39 (fun h_39 => ?_) (fun h_39 => ?_)
          · refine xv_il5 fL_isFar_61 ?_
            refine xv_il8 fL_isFar_63 ?_
            refine xv_ic_le fL_isFar_65 (fun h_65 => ?_) (fun h_65 => ?_)
            · refine xv_il8 fL_isFar_76 ?_
              refine xv_il5 fL_isFar_78 ?_
              refine xv_isub fL_isFar_80 ?_
              exact l_farT n c I J ha hp9 hfa hD (by omega) hfk (Or.inr ⟨by rw [e1]; exact nI_nm1 (by omega), by rw [e1]; unfold xApart; rw [if_neg (fun z => z.1 (nI_lt (by have := (nI_leI (by omega) (by decide)).mp h_39; omega) (by decide)))]; exact (apart_le (by omega) (by omega) h_65).symm⟩) h6 (fun l9 l6 h6 => by
                refine xv_iincN7 (a := 1) fL_isFar_133 (by decide) ?_
                refine xv_goto fL_isFar_136 ?_
                exact ih (k + 1) l6 _ _ (by omega) h6)
            · refine xv_il5 fL_isFar_68 ?_
              refine xv_il8 fL_isFar_70 ?_
              refine xv_isub fL_isFar_72 ?_
              refine xv_goto fL_isFar_73 ?_
              exact l_farT n c I J ha hp9 hfa hD (by omega) hfk (Or.inr ⟨by rw [e1]; exact nI_nm1 (by omega), by rw [e1]; unfold xApart; rw [if_neg (fun z => z.1 (nI_lt (by have := (nI_leI (by omega) (by decide)).mp h_39; omega) (by decide))), if_pos (fa_nle_le h_65)]⟩) h6 (fun l9 l6 h6 => by
                refine xv_iincN7 (a := 1) fL_isFar_133 (by decide) ?_
                refine xv_goto fL_isFar_136 ?_
                exact ih (k + 1) l6 _ _ (by omega) h6)
          · refine xv_il8 fL_isFar_42 ?_
            refine xv_k fL_isFar_44 ?_
            refine xv_ic_le fL_isFar_46 (fun h_46 => ?_) (fun h_46 => ?_)
            · refine xv_il5 fL_isFar_61 ?_
              refine xv_il8 fL_isFar_63 ?_
              refine xv_ic_le fL_isFar_65 (fun h_65 => ?_) (fun h_65 => ?_)
              · refine xv_il8 fL_isFar_76 ?_
                refine xv_il5 fL_isFar_78 ?_
                refine xv_isub fL_isFar_80 ?_
                exact l_farT n c I J ha hp9 hfa hD (by omega) hfk (Or.inr ⟨by rw [e1]; exact nI_nm1 (by omega), by rw [e1]; unfold xApart; rw [if_neg (fun z => z.2.1 (nI_lt (by have := (nI_leI (by omega) (by decide)).mp h_46; omega) (by decide)))]; exact (apart_le (by omega) (by omega) h_65).symm⟩) h6 (fun l9 l6 h6 => by
                  refine xv_iincN7 (a := 1) fL_isFar_133 (by decide) ?_
                  refine xv_goto fL_isFar_136 ?_
                  exact ih (k + 1) l6 _ _ (by omega) h6)
              · refine xv_il5 fL_isFar_68 ?_
                refine xv_il8 fL_isFar_70 ?_
                refine xv_isub fL_isFar_72 ?_
                refine xv_goto fL_isFar_73 ?_
                exact l_farT n c I J ha hp9 hfa hD (by omega) hfk (Or.inr ⟨by rw [e1]; exact nI_nm1 (by omega), by rw [e1]; unfold xApart; rw [if_neg (fun z => z.2.1 (nI_lt (by have := (nI_leI (by omega) (by decide)).mp h_46; omega) (by decide))), if_pos (fa_nle_le h_65)]⟩) h6 (fun l9 l6 h6 => by
                  refine xv_iincN7 (a := 1) fL_isFar_133 (by decide) ?_
                  refine xv_goto fL_isFar_136 ?_
                  exact ih (k + 1) l6 _ _ (by omega) h6)
            · refine xv_il5 fL_isFar_49 ?_
              refine xv_il8 fL_isFar_51 ?_
              refine xv_ic_eq fL_isFar_53 (fun h_53 => ?_) (fun h_53 => ?_)
              · refine xv_il5 fL_isFar_61 ?_
                refine xv_il8 fL_isFar_63 ?_
                refine xv_ic_le fL_isFar_65 (fun h_65 => ?_) (fun h_65 => ?_)
                · refine xv_il8 fL_isFar_76 ?_
                  refine xv_il5 fL_isFar_78 ?_
                  refine xv_isub fL_isFar_80 ?_
                  exact l_farT n c I J ha hp9 hfa hD (by omega) hfk (Or.inr ⟨by rw [e1]; exact nI_nm1 (by omega), by rw [e1]; unfold xApart; rw [if_neg (fun z => z.2.2 h_53)]; exact (apart_le (by omega) (by omega) h_65).symm⟩) h6 (fun l9 l6 h6 => by
                    refine xv_iincN7 (a := 1) fL_isFar_133 (by decide) ?_
                    refine xv_goto fL_isFar_136 ?_
                    exact ih (k + 1) l6 _ _ (by omega) h6)
                · refine xv_il5 fL_isFar_68 ?_
                  refine xv_il8 fL_isFar_70 ?_
                  refine xv_isub fL_isFar_72 ?_
                  refine xv_goto fL_isFar_73 ?_
                  exact l_farT n c I J ha hp9 hfa hD (by omega) hfk (Or.inr ⟨by rw [e1]; exact nI_nm1 (by omega), by rw [e1]; unfold xApart; rw [if_neg (fun z => z.2.2 h_53), if_pos (fa_nle_le h_65)]⟩) h6 (fun l9 l6 h6 => by
                    refine xv_iincN7 (a := 1) fL_isFar_133 (by decide) ?_
                    refine xv_goto fL_isFar_136 ?_
                    exact ih (k + 1) l6 _ _ (by omega) h6)
              · refine xv_k fL_isFar_56 ?_
                refine xv_goto fL_isFar_58 ?_
                exact l_farT n c I J ha hp9 hfa hD (by omega) hfk (Or.inr ⟨by rw [e1]; exact nI_nm1 (by omega), by rw [e1]; unfold xApart; rw [if_pos ⟨fun z => h_39 (nI_le (by have := (nI_ltI (by omega) (by decide)).mp z; omega) (by decide)), fun z => h_46 (nI_le (by have := (nI_ltI (by omega) (by decide)).mp z; omega) (by decide)), h_53⟩]⟩) h6 (fun l9 l6 h6 => by
                  refine xv_iincN7 (a := 1) fL_isFar_133 (by decide) ?_
                  refine xv_goto fL_isFar_136 ?_
                  exact ih (k + 1) l6 _ _ (by omega) h6)
        · exact absurd (nI_pos' (by omega)) h_27

theorem c_isFar (n : Nat) (c : Nat × Nat) (I : xv_I) (J : xv_J) {a ct p : Nat} (ha : a < 20) (hp9 : p < 10) (hfa : fAd I a ct) (hD : gDist I) (hA : gAd c I) : xv_Met mL_isFar 0 0 0 (sx n c) I (rx c) J [.ref 61, .ref 62, .ref 65, .ref 69, .int (nI a), .int (nI p)] (xv_eq (.inl (some (.int (bi (xFar I c a ct p))))) (sx n c) (I) (rx c) J) := by
  refine xv_Met.of (by decide +kernel) (Nat.le_of_ble_eq_true rfl) (List.forall_mem_cons.mpr ⟨rfl, List.forall_mem_cons.mpr ⟨rfl, List.forall_mem_cons.mpr ⟨rfl, List.forall_mem_cons.mpr ⟨rfl, List.forall_mem_cons.mpr ⟨rfl, List.forall_mem_cons.mpr ⟨rfl, fun _ h => nomatch h⟩⟩⟩⟩⟩⟩) ?_
  show xv_W mL_isFar 0 0 0 _ 0 0 (sx n c) I (rx c) J 0 [some (.ref 61), some (.ref 62), some (.ref 65), some (.ref 69), some (.int (nI a)), some (.int (nI p)), none, none, none, none] []
  refine xv_k fL_isFar_0 ?_
  refine xv_is6 fL_isFar_1 ?_
  refine xv_k fL_isFar_3 ?_
  refine xv_is7 fL_isFar_4 ?_
  exact l_far9 n c I J ha hp9 hfa hD (fun i hi => (hA.2.2.2 i hi).f) hA.2.1 hA.2.2.1 (fun l8 l9 => by exact xv_il6 fL_isFar_139 (xv_iret fL_isFar_141 rfl (narrow_bi _) xv_eq_i)) c.1 0 (nI 1) none none (by omega) (bi_t lt_no).symm
