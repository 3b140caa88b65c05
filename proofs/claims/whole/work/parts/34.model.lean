abbrev mOld (I : xv_I) (y g : Int32) : Prop := (y = -1 ∧ g = nI 0) ∨ ∃ a, a < 20 ∧ y = nI a ∧ g = mPla I a
theorem mPla_to {I I' : xv_I} {s : Nat} (h : ∀ v j, (v = 76 ∨ v = 77 ∨ v = 79) → I' v j = I v j) : mPla I' s = mPla I s := by
  unfold mPla
  rw [show mPla1 I' s = mPla1 I s from funext fun k => funext fun x => by unfold mPla1; rw [h _ _ (by omega), h _ _ (by omega), h _ _ (by omega)]]
theorem mOld_to {I I' : xv_I} {y g : Int32} (h : mOld I y g) (h2 : ∀ v j, (v = 76 ∨ v = 77 ∨ v = 79) → I' v j = I v j) : mOld I' y g := by
  rcases h with h | ⟨a, h3, h4, h5⟩
  · exact Or.inl h
  · exact Or.inr ⟨a, h3, h4, by rw [mPla_to h2]; exact h5⟩
theorem m_ways (n : Nat) (c : Nat × Nat) (I : xv_I) (J : xv_J) {s u np lo : Nat} {cz : Nat → Nat → Nat} {sc y b g : Int32} (hs : s < 20) (hS : mStH I s np lo cz sc) (hg : mOld I y g) (hu1 : 1 ≤ u) (hu : u ≤ np) : xv_Met mX11_ways 4 0 0 (sx n c) I (rx c) J [.ref 60, .int (nI s), .int (nI u), .int y, .int b] (xv_eq (.inl none) (sx n c) ((mWays sc y b g cz u I)) (rx c) J) := by
  refine xv_Met.of (by decide +kernel) (Nat.le_of_ble_eq_true rfl) (List.forall_mem_cons.mpr ⟨rfl, List.forall_mem_cons.mpr ⟨rfl, List.forall_mem_cons.mpr ⟨rfl, List.forall_mem_cons.mpr ⟨rfl, List.forall_mem_cons.mpr ⟨rfl, fun _ h => nomatch h⟩⟩⟩⟩⟩) ?_
  show xv_W mX11_ways 4 0 0 _ 0 0 (sx n c) I (rx c) J 0 [some (.ref 60), some (.int (nI s)), some (.int (nI u)), some (.int y), some (.int b), none, none, none, none, none, none, none, none, none, none] []
  obtain ⟨hc1, hc2, hc3⟩ := hS.2.2.2.2.2.2 0 u (by omega) hu
  obtain h6 := hS.2.2.2.2.2.1
  rcases hg with ⟨rfl, rfl⟩ | ⟨a, ha, rfl, rfl⟩
  · refine xv_il3 fX11_ways_0 ?_
    refine xv_k fX11_ways_1 ?_
    refine xv_ic_ne fX11_ways_2 (fun h_2 => ?_) (fun h_2 => ?_)
    · exact absurd rfl h_2
    · refine xv_k fX11_ways_5 ?_
      refine xv_goto fX11_ways_6 ?_
      refine xv_is5 fX11_ways_14 ?_
      refine xv_al0 fX11_ways_16 ?_
      refine xv_il1 fX11_ways_17 ?_
      refine xv_k fX11_ways_18 ?_
      refine xv_il2 fX11_ways_19 ?_
      refine xv_callV3R (m_cells n c _ J hs (Nat.zero_le _) (t := u) (by omega)) fX11_ways_20 YX11_cellsFor VX11_cellsFor lX11_191 rfl rfl (sx_60 _ _) (Nat.le_of_ble_eq_true rfl) (by decide) (by decide) (by decide) ?_
      rw [hc1]
      refine xv_is6 fX11_ways_23 ?_
      refine xv_al0 fX11_ways_25 ?_
      refine xv_k fX11_ways_26 ?_
      refine xv_putI fX11_ways_27 gX11_182 rfl (tp11_43 _) (sx_60 _ _) ⟨rfl, rfl⟩ ?_
      refine xv_k fX11_ways_30 ?_
      refine xv_is7 fX11_ways_31 ?_
      refine l_wA n c J hs hc2 hc3 7 0 _ _ rfl ((xv_u_ne _ _ _ (by decide)).trans hS.1) (fun l8 => ?_)
      show xv_W mX11_ways 4 0 0 _ 0 0 (sx n c) (mOneA sc (-1) b (nI 0) (cz 0 u) I) (rx c) J 111 (some (.ref 60) :: some (.int (nI s)) :: some (.int (nI u)) :: some (.int (-1)) :: some (.int b) :: some (.int (nI 0)) :: some (.int (nI (cz 0 u))) :: some (.int (nI 7)) :: l8 :: none :: none :: none :: none :: none :: none :: []) []
      refine xv_al0 fX11_ways_111 ?_
      refine xv_getI fX11_ways_112 gX11_182 rfl (sx_60 _ _) ?_
      refine xv_if_le fX11_ways_115 (fun h_115 => ?_) (fun h_115 => ?_)
      · obtain e115 : mWays sc (-1) b (nI 0) cz u I = mTwoL sc (-1) b (nI 0) cz u (u - 1) (mOneA sc (-1) b (nI 0) (cz 0 u) I) := if_pos h_115
        refine xv_k fX11_ways_122 ?_
        refine xv_is7 fX11_ways_123 ?_
        refine xv_il2 fX11_ways_125 ?_
        refine xv_k fX11_ways_126 ?_
        refine xv_isub fX11_ways_127 ?_
        rw [nI_sub hu1]
        refine xv_is8 fX11_ways_128 ?_
        exact l_wM n c J hs hu (u - 1) _ _ _ _ _ _ _ (by omega) (hS.to (fun v j hv => mOneA_o _ ⟨by omega, by omega⟩)) (fun l9 l10 l11 l12 l13 l14 => by exact xv_vret fX11_ways_300 rfl (xv_eq_I rfl e115.symm))
      · obtain e115 : mWays sc (-1) b (nI 0) cz u I = (mOneA sc (-1) b (nI 0) (cz 0 u) I) := if_neg h_115
        refine xv_k fX11_ways_118 ?_
        refine xv_goto fX11_ways_119 ?_
        refine xv_is7 fX11_ways_123 ?_
        refine xv_il2 fX11_ways_125 ?_
        refine xv_k fX11_ways_126 ?_
        refine xv_isub fX11_ways_127 ?_
        rw [nI_sub hu1]
        refine xv_is8 fX11_ways_128 ?_
        refine xv_il8 fX11_ways_130 ?_
        refine xv_if_le fX11_ways_132 (fun h_132 => ?_) (fun h_132 => ?_)
        · exact xv_vret fX11_ways_300 rfl (xv_eq_I rfl e115.symm)
        · refine xv_il7 fX11_ways_135 ?_
          refine xv_if_ne fX11_ways_137 (fun h_137 => ?_) (fun h_137 => ?_)
          · exact xv_vret fX11_ways_300 rfl (xv_eq_I rfl e115.symm)
          · exact absurd h_137 (by decide)
  · refine xv_il3 fX11_ways_0 ?_
    refine xv_k fX11_ways_1 ?_
    refine xv_ic_ne fX11_ways_2 (fun h_2 => ?_) (fun h_2 => ?_)
    · refine xv_al0 fX11_ways_9 ?_
      refine xv_il3 fX11_ways_10 ?_
      refine xv_callV1R (m_plates n c _ J ha) fX11_ways_11 YX11_platesOf VX11_platesOf lX11_188 rfl rfl (sx_60 _ _) (Nat.le_of_ble_eq_true rfl) (by decide) (by decide) (by decide) ?_
      refine xv_is5 fX11_ways_14 ?_
      refine xv_al0 fX11_ways_16 ?_
      refine xv_il1 fX11_ways_17 ?_
      refine xv_k fX11_ways_18 ?_
      refine xv_il2 fX11_ways_19 ?_
      refine xv_callV3R (m_cells n c _ J hs (Nat.zero_le _) (t := u) (by omega)) fX11_ways_20 YX11_cellsFor VX11_cellsFor lX11_191 rfl rfl (sx_60 _ _) (Nat.le_of_ble_eq_true rfl) (by decide) (by decide) (by decide) ?_
      rw [hc1]
      refine xv_is6 fX11_ways_23 ?_
      refine xv_al0 fX11_ways_25 ?_
      refine xv_k fX11_ways_26 ?_
      refine xv_putI fX11_ways_27 gX11_182 rfl (tp11_43 _) (sx_60 _ _) ⟨rfl, rfl⟩ ?_
      refine xv_k fX11_ways_30 ?_
      refine xv_is7 fX11_ways_31 ?_
      refine l_wA n c J hs hc2 hc3 7 0 _ _ rfl ((xv_u_ne _ _ _ (by decide)).trans hS.1) (fun l8 => ?_)
      show xv_W mX11_ways 4 0 0 _ 0 0 (sx n c) (mOneA sc (nI a) b (mPla I a) (cz 0 u) I) (rx c) J 111 (some (.ref 60) :: some (.int (nI s)) :: some (.int (nI u)) :: some (.int (nI a)) :: some (.int b) :: some (.int (mPla I a)) :: some (.int (nI (cz 0 u))) :: some (.int (nI 7)) :: l8 :: none :: none :: none :: none :: none :: none :: []) []
      refine xv_al0 fX11_ways_111 ?_
      refine xv_getI fX11_ways_112 gX11_182 rfl (sx_60 _ _) ?_
      refine xv_if_le fX11_ways_115 (fun h_115 => ?_) (fun h_115 => ?_)
      · obtain e115 : mWays sc (nI a) b (mPla I a) cz u I = mTwoL sc (nI a) b (mPla I a) cz u (u - 1) (mOneA sc (nI a) b (mPla I a) (cz 0 u) I) := if_pos h_115
        refine xv_k fX11_ways_122 ?_
        refine xv_is7 fX11_ways_123 ?_
        refine xv_il2 fX11_ways_125 ?_
        refine xv_k fX11_ways_126 ?_
        refine xv_isub fX11_ways_127 ?_
        rw [nI_sub hu1]
        refine xv_is8 fX11_ways_128 ?_
        exact l_wM n c J hs hu (u - 1) _ _ _ _ _ _ _ (by omega) (hS.to (fun v j hv => mOneA_o _ ⟨by omega, by omega⟩)) (fun l9 l10 l11 l12 l13 l14 => by exact xv_vret fX11_ways_300 rfl (xv_eq_I rfl e115.symm))
      · obtain e115 : mWays sc (nI a) b (mPla I a) cz u I = (mOneA sc (nI a) b (mPla I a) (cz 0 u) I) := if_neg h_115
        refine xv_k fX11_ways_118 ?_
        refine xv_goto fX11_ways_119 ?_
        refine xv_is7 fX11_ways_123 ?_
        refine xv_il2 fX11_ways_125 ?_
        refine xv_k fX11_ways_126 ?_
        refine xv_isub fX11_ways_127 ?_
        rw [nI_sub hu1]
        refine xv_is8 fX11_ways_128 ?_
        refine xv_il8 fX11_ways_130 ?_
        refine xv_if_le fX11_ways_132 (fun h_132 => ?_) (fun h_132 => ?_)
        · exact xv_vret fX11_ways_300 rfl (xv_eq_I rfl e115.symm)
        · refine xv_il7 fX11_ways_135 ?_
          refine xv_if_ne fX11_ways_137 (fun h_137 => ?_) (fun h_137 => ?_)
          · exact xv_vret fX11_ways_300 rfl (xv_eq_I rfl e115.symm)
          · exact absurd h_137 (by decide)
    · exact absurd h_2 (nI_nm1 (by omega))
