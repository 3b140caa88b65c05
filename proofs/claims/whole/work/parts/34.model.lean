abbrev mOld (I : xv_I) (y g : Int32) : Prop := (y = -1 ∧ g = nI 0) ∨ ∃ a, a < 20 ∧ y = nI a ∧ g = mPla I a
theorem mPla_to {I I' : xv_I} {s : Nat} (h : ∀ v j, (v = 76 ∨ v = 77 ∨ v = 79) → I' v j = I v j) : mPla I' s = mPla I s := by
  unfold mPla
  rw [show mPla1 I' s = mPla1 I s from funext fun k => funext fun x => by unfold mPla1; rw [h _ _ (by omega), h _ _ (by omega), h _ _ (by omega)]]
theorem mOld_to {I I' : xv_I} {y g : Int32} (h : mOld I y g) (h2 : ∀ v j, (v = 76 ∨ v = 77 ∨ v = 79) → I' v j = I v j) : mOld I' y g := by
  rcases h with h | ⟨a, h3, h4, h5⟩
  · exact Or.inl h
  · exact Or.inr ⟨a, h3, h4, by rw [mPla_to h2]; exact h5⟩
theorem m_ways (n : Nat) (c : Nat × Nat) (I : xv_I) (J : xv_J) {s u np lo : Nat} {cz : Nat → Nat → Nat} {sc y b g : Int32} (hs : s < 20) (hS : mStH I s np lo cz sc) (hg : mOld I y g) (hu1 : 1 ≤ u) (hu : u ≤ np) : xv_Met mX11_ways 4 0 0 (sx n c) I (rx c) J [.ref 60, .int (nI s), .int (nI u), .int y, .int b] (xv_eq (.inl none) (sx n c) ((mWays sc y b g cz u I)) (rx c) J) := by
  refine xv_Met.of (by decide +kernel) (Nat.le_of_ble_eq_true rfl) (List.forall_mem_cons.mpr ⟨rfl, List.forall_mem_cons.mpr ⟨rfl, List.forall_mem_cons.mpr ⟨rfl, List.forall_mem_cons.mpr ⟨rfl, List.forall_mem_cons.mpr ⟨rfl, fun _ h => nomatch h⟩⟩⟩⟩⟩) ?_
  show xv_W mX11_ways 4 0 0 _ 0 0 (sx n c) I (rx c) J 0 [some (.ref 60), some (.int (nI s)), some (.int (nI u)), some (.int y), some (.int b), none, none, none, none, none, none, none, none, none, none] []
  obtain ⟨hc1, hc2, hc3⟩ := hS.2.2.2.2.2.2 0 u (by omega) hu
  obtain h6 := hS.2.2.2.2.2.1
  rcases hg with ⟨rfl, rfl⟩ | ⟨a, ha, rfl, rfl⟩
  · refine xv_il3 fX11_ways_0 ?_
    refine xv_k fX11_ways_1 ?_
    refine xv_ic_ne fX11_ways_2 (fun h_2 => ?_) (fun h_2 => ?_)
    · exact absurd rfl h_2
    · refine xv_k fX11_ways_5 ?_
      refine xv_goto fX11_ways_6 ?_
      refine xv_is5 fX11_ways_14 ?_
      refine xv_al0 fX11_ways_16 ?_
      refine xv_il1 fX11_ways_17 ?_
      refine xv_k fX11_ways_18 ?_
      refine xv_il2 fX11_ways_19 ?_
      refine xv_callV3R (m_cells n c _ J hs (Nat.zero_le _) (t := u) (by omega)) fX11_ways_20 YX11_cellsFor VX11_cellsFor lX11_191 rfl rfl (sx_60 _ _) (Nat.le_of_ble_eq_true rfl) (by decide) (by decide) (by decide) ?_
      rw [hc1]
      refine xv_is6 fX11_ways_23 ?_
      refine xv_al0 fX11_ways_25 ?_
      refine xv_k fX11_ways_26 ?_
      refine xv_putI fX11_ways_27 gX11_182 rfl (tp11_43 _) (sx_60 _ _) ⟨rfl, rfl⟩ ?_
      refine xv_k fX11_ways_30 ?_
      refine xv_is7 fX11_ways_31 ?_
      refine l_wA n c J hs hc2 hc3 7 0 _ _ rfl ((xv_u_ne _ _ _ (by decide)).trans hS.1) (fun l8 => ?_)
      show xv_W mX11_ways 4 0 0 _ 0 0 (sx n c) (mOneA sc (-1) b (nI 0) (cz 0 u) I) (rx c) J 111 (some (.ref 60) :: some (.int (nI s)) :: some (.int (nI u)) :: some (.int (-1)) :: some (.int b) :: some (.int (nI 0)) :: some (.int (nI (cz 0 u))) :: some (.int (nI 7)) :: l8 :: none :: none :: none :: none :: none :: none :: []) []
      refine xv_al0 fX11_ways_111 ?_
      refine xv_getI fX11_ways_112 gX11_182 rfl (sx_60 _ _) ?_
      refine xv_if_le fX11_ways_115 (fun h_115 => ?_) (fun h_115 => ?_)
      · obtain e115 : mWays sc (-1) b (nI 0) cz u I = mTwoL sc (-1) b (nI 0) cz u (u - 1) (mOneA sc (-1) b (nI 0) (cz 0 u) I) := if_pos h_115
        refine xv_k fX11_ways_122 ?_
        refine xv_is7 fX11_ways_123 ?_
        refine xv_il2 fX11_ways_125 ?_
        refine xv_k fX11_ways_126 ?_
        refine xv_isub fX11_ways_127 ?_
        rw [nI_sub hu1]
        refine xv_is8 fX11_ways_128 ?_
        exact l_wM n c J hs hu (u - 1) _ _ _ _ _ _ _ (by omega) (hS.to (fun v j hv => mOneA_o _ ⟨by omega, by omega⟩)) (fun l9 l10 l11 l12 l13 l14 => by exact xv_vret fX11_ways_300 rfl (xv_eq_I rfl e115.symm))
      · obtain e115 : mWays sc (-1) b (nI 0) cz u I = (mOneA sc (-1) b (nI 0) (cz 0 u) I) := if_neg h_115
        refine xv_k fX11_ways_118 ?_
        refine xv_goto fX11_ways_119 ?_
        refine xv_is7 fX11_ways_123 ?_
        refine xv_il2 fX11_ways_125 ?_
        refine xv_k fX11_ways_126 ?_
        refine xv_isub fX11_ways_127 ?_
        rw [nI_sub hu1]
        refine xv_is8 fX11_ways_128 ?_
        refine xv_il8 fX11_ways_130 ?_
        refine xv_if_le fX11_ways_132 (fun h_132 => ?_) (fun h_132 => ?_)
        · exact xv_vret fX11_ways_300 rfl (xv_eq_I rfl e115.symm)
        · refine xv_il7 fX11_ways_135 ?_
          refine xv_if_ne fX11_ways_137 (fun h_137 => ?_) (fun h_137 => ?_)
          · exact xv_vret fX11_ways_300 rfl (xv_eq_I rfl e115.symm)
          · exact absurd h_137 (by decide)
  · refine xv_il3 fX11_ways_0 ?_
    refine xv_k fX11_ways_1 ?_
    refine xv_ic_ne fX11_ways_2 (fun h_2 => ?_) (fun h_2 => ?_)
    · refine xv_al0 fX11_ways_9 ?_
      refine xv_il3 fX11_ways_10 ?_
      refine xv_callV1R (m_plates n c _ J ha) fX11_ways_11 YX11_platesOf VX11_platesOf lX11_188 rfl rfl (sx_60 _ _) (Nat.le_of_ble_eq_true rfl) (by decide) (by decide) (by decide) ?_
      refine xv_is5 fX11_ways_14 ?_
      refine xv_al0 fX11_ways_16 ?_
      refine xv_il1 fX11_ways_17 ?_
      refine xv_k fX11_ways_18 ?_
      refine xv_il2 fX11_ways_19 ?_
      refine xv_callV3R (m_cells n c _ J hs (Nat.zero_le _) (t := u) (by omega)) fX11_ways_20 YX11_cellsFor VX11_cellsFor lX11_191 rfl rfl (sx_60 _ _) (Nat.le_of_ble_eq_true rfl) (by decide) (by decide) (by decide) ?_
      rw [hc1]
      refine xv_is6 fX11_ways_23 ?_
      refine xv_al0 fX11_ways_25 ?_
      refine xv_k fX11_ways_26 ?_
      refine xv_putI fX11_ways_27 gX11_182 rfl (tp11_43 _) (sx_60 _ _) ⟨rfl, rfl⟩ ?_
      refine xv_k fX11_ways_30 ?_
      refine xv_is7 fX11_ways_31 ?_
      refine l_wA n c J hs hc2 hc3 7 0 _ _ rfl ((xv_u_ne _ _ _ (by decide)).trans hS.1) (fun l8 => ?_)
      show xv_W mX11_ways 4 0 0 _ 0 0 (sx n c) (mOneA sc (nI a) b (mPla I a) (cz 0 u) I) (rx c) J 111 (some (.ref 60) :: some (.int (nI s)) :: some (.int (nI u)) :: some (.int (nI a)) :: some (.int b) :: some (.int (mPla I a)) :: some (.int (nI (cz 0 u))) :: some (.int (nI 7)) :: l8 :: none :: none :: none :: none :: none :: none :: []) []
      refine xv_al0 fX11_ways_111 ?_
      refine xv_getI fX11_ways_112 gX11_182 rfl (sx_60 _ _) ?_
      refine xv_if_le fX11_ways_115 (fun h_115 => ?_) (fun h_115 => ?_)
      · obtain e115 : mWays sc (nI a) b (mPla I a) cz u I = mTwoL sc (nI a) b (mPla I a) cz u (u - 1) (mOneA sc (nI a) b (mPla I a) (cz 0 u) I) := if_pos h_115
        refine xv_k fX11_ways_122 ?_
        refine xv_is7 fX11_ways_123 ?_
        refine xv_il2 fX11_ways_125 ?_
        refine xv_k fX11_ways_126 ?_
        refine xv_isub fX11_ways_127 ?_
        rw [nI_sub hu1]
        refine xv_is8 fX11_ways_128 ?_
        exact l_wM n c J hs hu (u - 1) _ _ _ _ _ _ _ (by omega) (hS.to (fun v j hv => mOneA_o _ ⟨by omega, by omega⟩)) (fun l9 l10 l11 l12 l13 l14 => by exact xv_vret fX11_ways_300 rfl (xv_eq_I rfl e115.symm))
      · obtain e115 : mWays sc (nI a) b (mPla I a) cz u I = (mOneA sc (nI a) b (mPla I a) (cz 0 u) I) := if_neg h_115
        refine xv_k fX11_ways_118 ?_
        refine xv_goto fX11_ways_119 ?_
        refine xv_is7 fX11_ways_123 ?_
        refine xv_il2 fX11_ways_125 ?_
        refine xv_k fX11_ways_126 ?_
        refine xv_isub fX11_ways_127 ?_
        rw [nI_sub hu1]
        refine xv_is8 fX11_ways_128 ?_
        refine xv_il8 fX11_ways_130 ?_
        refine xv_if_le fX11_ways_132 (fun h_132 => ?_) (fun h_132 => ?_)
        · exact xv_vret fX11_ways_300 rfl (xv_eq_I rfl e115.symm)
        · refine xv_il7 fX11_ways_135 ?_
          refine xv_if_ne fX11_ways_137 (fun h_137 => ?_) (fun h_137 => ?_)
          · exact xv_vret fX11_ways_300 rfl (xv_eq_I rfl e115.symm)
          · exact absurd h_137 (by decide)
    · exact absurd h_2 (nI_nm1 (by omega))

noncomputable def mFindL (sc y b g : Int32) (cz : Nat → Nat → Nat) : Nat → Nat → xv_I → Int32 × xv_I
  | 0, _, I => (nI 0, I)
  | m + 1, k, I => if mWays sc y b g cz k I 60 43 ≤ 0 then mFindL sc y b g cz m (k - 1) (mWays sc y b g cz k I) else (nI k, mWays sc y b g cz k I)
noncomputable def mFind (sc y b g : Int32) (cz : Nat → Nat → Nat) (np lo : Nat) (I : xv_I) : Int32 × xv_I := mFindL sc y b g cz (np + 1 - lo) np I
theorem mFindL_o {sc y b g : Int32} {cz : Nat → Nat → Nat} {v j : Nat} (h : mOut_ v j) : ∀ (m k : Nat) (I : xv_I), (mFindL sc y b g cz m k I).2 v j = I v j
  | 0, _, _ => rfl
  | m + 1, k, I => by
    rw [mFindL]
    split
    · rw [mFindL_o h m, mWays_o _ h]
    · exact mWays_o _ h
theorem l_finds (n : Nat) (c : Nat × Nat) (J : xv_J) {s np lo : Nat} {cz : Nat → Nat → Nat} {sc y b g : Int32} (hs : s < 20) : ∀ (m k : Nat) (I : xv_I), k + 1 = lo + m → k ≤ np → mStH I s np lo cz sc → mOld I y g → xv_W mX11_finds 5 0 0 (xv_eq (.inl (some (.int ((mFindL sc y b g cz m k I).1)))) (sx n c) ((mFindL sc y b g cz m k I).2) (rx c) J) 0 0 (sx n c) I (rx c) J 8 [some (.ref 60), some (.int (nI s)), some (.int y), some (.int b), some (.int (nI k))] [] := by
  intro m
  induction m with
  | zero =>
    intro k I hm hk hS hg
    obtain ⟨hS1, hS2, hS3, hS4, hS5, hS6, hS7⟩ := hS
    show xv_W mX11_finds 5 0 0 _ 0 0 (sx n c) I (rx c) J 8 [some (.ref 60), some (.int (nI s)), some (.int y), some (.int b), some (.int (nI k))] []
    refine xv_il4 fX11_finds_8 ?_
    refine xv_al0 fX11_finds_10 ?_
    refine xv_getR fX11_finds_11 gX11_53 rfl (sx_60 _ _) (rx_60_17 _) ?_
    refine xv_il1 fX11_finds_14 ?_
    refine xv_ialdN fX11_finds_15 (sx_75 _ _) (⟨by omega, by decide⟩) ?_
    rw [hS3]
    refine xv_ic_lt fX11_finds_16 (fun h_16 => ?_) (fun h_16 => ?_)
    · refine xv_k fX11_finds_44 ?_
      exact xv_iret fX11_finds_45 rfl rfl (xv_eq_I rfl rfl)
    · exact absurd (nI_lt (by omega) (by omega)) h_16
  | succ m ih =>
    intro k I hm hk hS hg
    obtain ⟨hS1, hS2, hS3, hS4, hS5, hS6, hS7⟩ := hS
    show xv_W mX11_finds 5 0 0 _ 0 0 (sx n c) I (rx c) J 8 [some (.ref 60), some (.int (nI s)), some (.int y), some (.int b), some (.int (nI k))] []
    refine xv_il4 fX11_finds_8 ?_
    refine xv_al0 fX11_finds_10 ?_
    refine xv_getR fX11_finds_11 gX11_53 rfl (sx_60 _ _) (rx_60_17 _) ?_
    refine xv_il1 fX11_finds_14 ?_
    refine xv_ialdN fX11_finds_15 (sx_75 _ _) (⟨by omega, by decide⟩) ?_
    rw [hS3]
    refine xv_ic_lt fX11_finds_16 (fun h_16 => ?_) (fun h_16 => ?_)
    · exact absurd h_16 (nI_nlt (by omega) (by omega))
    · refine xv_al0 fX11_finds_19 ?_
      refine xv_il1 fX11_finds_20 ?_
      refine xv_il4 fX11_finds_21 ?_
      refine xv_il2 fX11_finds_23 ?_
      refine xv_il3 fX11_finds_24 ?_
      refine xv_callV4V (m_ways n c I J hs ⟨hS1, hS2, hS3, hS4, hS5, hS6, hS7⟩ hg (u := k) (by omega) hk) fX11_finds_25 YX11_ways VX11_ways lX11_202 rfl rfl (sx_60 _ _) (Nat.le_of_ble_eq_true rfl) (by decide) (by decide) (by decide) ?_
      refine xv_al0 fX11_finds_28 ?_
      refine xv_getI fX11_finds_29 gX11_182 rfl (sx_60 _ _) ?_
      refine xv_if_le fX11_finds_32 (fun h_32 => ?_) (fun h_32 => ?_)
      · refine xv_iincD4 fX11_finds_38 (by omega) ?_
        refine xv_goto fX11_finds_41 ?_
        rw [mFindL, if_pos h_32]
        exact ih (k - 1) _ (by omega) (by omega) (mStH.to ⟨hS1, hS2, hS3, hS4, hS5, hS6, hS7⟩ (fun v j hv => mWays_o _ ⟨by omega, by omega⟩)) (mOld_to hg (fun v j hv => mWays_o _ ⟨by omega, by omega⟩))
      · refine xv_il4 fX11_finds_35 ?_
        exact xv_iret fX11_finds_37 rfl rfl (xv_eq_I (by rw [mFindL, if_neg h_32]) (by rw [mFindL, if_neg h_32]))

theorem m_finds (n : Nat) (c : Nat × Nat) (I : xv_I) (J : xv_J) {s np lo : Nat} {cz : Nat → Nat → Nat} {sc y b g : Int32} (hs : s < 20) (hS : mStH I s np lo cz sc) (hg : mOld I y g) : xv_Met mX11_finds 5 0 0 (sx n c) I (rx c) J [.ref 60, .int (nI s), .int y, .int b] (xv_eq (.inl (some (.int ((mFind sc y b g cz np lo I).1)))) (sx n c) ((mFind sc y b g cz np lo I).2) (rx c) J) := by
  refine xv_Met.of (by decide +kernel) (Nat.le_of_ble_eq_true rfl) (List.forall_mem_cons.mpr ⟨rfl, List.forall_mem_cons.mpr ⟨rfl, List.forall_mem_cons.mpr ⟨rfl, List.forall_mem_cons.mpr ⟨rfl, fun _ h => nomatch h⟩⟩⟩⟩) ?_
  show xv_W mX11_finds 5 0 0 _ 0 0 (sx n c) I (rx c) J 0 [some (.ref 60), some (.int (nI s)), some (.int y), some (.int b), none] []
  refine xv_al0 fX11_finds_0 ?_
  refine xv_getR fX11_finds_1 gX11_47 rfl (sx_60 _ _) (rx_60_15 _) ?_
  refine xv_il1 fX11_finds_4 ?_
  refine xv_ialdN fX11_finds_5 (sx_73 _ _) (⟨by omega, by decide⟩) ?_
  rw [hS.2.1]
  refine xv_is4 fX11_finds_6 ?_
  exact l_finds n c J hs (np + 1 - lo) np I (by have := hS.2.2.2.2.1; omega) (Nat.le_refl _) hS hg

abbrev mWy (I : xv_I) (pg st sz : Nat → Nat) : Prop := ∀ i, i < 2 → (if nI i < I 60 43 then I 97 i else nI 0) = nI (sz i) ∧ sz i ≤ 12 ∧ (0 < sz i → I 95 i = nI (pg i) ∧ pg i < 10 ∧ I 96 i = nI (st i) ∧ st i + sz i ≤ 12)
def mOutP (pg st : Nat) (x : Int32) (j : Nat) (I : xv_I) : xv_I := mPut I pg (cIn (st + j)) x
def mLayA (s i : Nat) (z : Int32) (I : xv_I) : xv_I := xv_u (xv_u (xv_u I 77 (2 * s + i) (I 95 i)) 78 (2 * s + i) (I 96 i)) 79 (2 * s + i) z
def mLay1 (s : Nat) (pg st sz : Nat → Nat) (i : Nat) (I : xv_I) : xv_I := it (mOutP (pg i) (st i) (nI (200 + s))) (sz i) 0 (mLayA s i (nI (sz i)) I)
def mLay (s k : Nat) (pg st sz : Nat → Nat) (I : xv_I) : xv_I := it (mLay1 s pg st sz) 2 0 (xv_u I 76 s (nI k))
theorem mOutP_o (I : xv_I) {p f : Nat} {x : Int32} {k v : Nat} (j : Nat) (h : v ≠ 81) (h2 : v ≠ 63) (h3 : v ≠ 60 ∨ j ≠ 3) : mOutP p f x k I v j = I v j := mPut_o _ _ h h2 h3
theorem mLayA_o (I : xv_I) {s i : Nat} {z : Int32} {v : Nat} (j : Nat) (h : v < 77 ∨ 79 < v) : mLayA s i z I v j = I v j := by
  unfold mLayA
  rw [xv_u_ne _ _ _ (by omega), xv_u_ne _ _ _ (by omega), xv_u_ne _ _ _ (by omega)]
theorem mLay1_o (I : xv_I) {s i : Nat} {pg st sz : Nat → Nat} {v : Nat} (j : Nat) (h : v ≠ 81) (h2 : v ≠ 63) (h3 : v ≠ 60 ∨ j ≠ 3) (h4 : v < 77 ∨ 79 < v) : mLay1 s pg st sz i I v j = I v j := it_inv (fun q : xv_I => q v j = I v j) (fun k q hs => (mOutP_o _ _ h h2 h3).trans hs) _ _ _ (mLayA_o _ _ h4)
theorem l_lays1 (n : Nat) (c : Nat × Nat) (J : xv_J) {s u : Nat} {pg st sz : Nat → Nat} (hs : s < 20) {i : Nat} (hi : i < 2) (hsz : sz i ≤ 12) (hpg : 0 < sz i → pg i < 10 ∧ st i + sz i ≤ 12) {Q : xv_Q} : ∀ (m k : Nat) (I : xv_I), k + m = (sz i) → (I 79 (2 * s + i) = nI (sz i) ∧ (0 < sz i → I 95 i = nI (pg i) ∧ I 96 i = nI (st i))) → xv_W mX11_lays 1 0 0 Q 0 0 (sx n c) (it (mOutP (pg i) (st i) (nI (200 + s))) m k I) (rx c) J 125 (some (.ref 60) :: some (.int (nI s)) :: some (.int (nI u)) :: some (.int (nI i)) :: some (.int (nI (sz i))) :: []) [] → xv_W mX11_lays 1 0 0 Q 0 0 (sx n c) I (rx c) J 77 (some (.ref 60) :: some (.int (nI s)) :: some (.int (nI u)) :: some (.int (nI i)) :: some (.int (nI k)) :: []) [] := by
  intro m
  induction m with
  | zero =>
    intro k I hm i0 hx
    obtain rfl : k = (sz i) := by omega
    refine xv_il4 fX11_lays_77 ?_
    refine xv_al0 fX11_lays_79 ?_
    refine xv_getR fX11_lays_80 gX11_65 rfl (sx_60 _ _) (rx_60_21 _) ?_
    refine xv_k fX11_lays_83 ?_
    refine xv_il1 fX11_lays_84 ?_
    refine xv_imul fX11_lays_85 ?_
    rw [nI_mul]
    refine xv_il3 fX11_lays_86 ?_
    refine xv_iadd fX11_lays_87 ?_
    rw [nI_add]
    refine xv_ialdN fX11_lays_88 (sx_79 _ _) (⟨by omega, by decide⟩) ?_
    rw [i0.1]
    refine xv_ic_ge fX11_lays_89 (fun h_89 => ?_) (fun h_89 => ?_)
    · exact hx
    · exact absurd (nI_le (Nat.le_refl _) (by omega)) h_89
  | succ m ih =>
    intro k I hm i0 hx
    have hk : k < (sz i) := by omega
    show xv_W mX11_lays 1 0 0 _ 0 0 (sx n c) I (rx c) J 77 (some (.ref 60) :: some (.int (nI s)) :: some (.int (nI u)) :: some (.int (nI i)) :: some (.int (nI k)) :: []) []
    refine xv_il4 fX11_lays_77 ?_
    refine xv_al0 fX11_lays_79 ?_
    refine xv_getR fX11_lays_80 gX11_65 rfl (sx_60 _ _) (rx_60_21 _) ?_
    refine xv_k fX11_lays_83 ?_
    refine xv_il1 fX11_lays_84 ?_
    refine xv_imul fX11_lays_85 ?_
    rw [nI_mul]
    refine xv_il3 fX11_lays_86 ?_
    refine xv_iadd fX11_lays_87 ?_
    rw [nI_add]
    refine xv_ialdN fX11_lays_88 (sx_79 _ _) (⟨by omega, by decide⟩) ?_
    rw [i0.1]
    refine xv_ic_ge fX11_lays_89 (fun h_89 => ?_) (fun h_89 => ?_)
    · exact absurd h_89 (nI_ge hk (by omega))
    · refine xv_al0 fX11_lays_92 ?_
      refine xv_al0 fX11_lays_93 ?_
      refine xv_getR fX11_lays_94 gX11_113 rfl (sx_60 _ _) (rx_60_44 _) ?_
      refine xv_il3 fX11_lays_97 ?_
      refine xv_ialdN fX11_lays_98 (sx_95 _ _) (⟨by omega, by decide⟩) ?_
      rw [(i0.2 (by omega)).1]
      refine xv_al0 fX11_lays_99 ?_
      refine xv_getR fX11_lays_100 gX11_116 rfl (sx_60 _ _) (rx_60_45 _) ?_
      refine xv_il3 fX11_lays_103 ?_
      refine xv_ialdN fX11_lays_104 (sx_96 _ _) (⟨by omega, by decide⟩) ?_
      rw [(i0.2 (by omega)).2]
      refine xv_il4 fX11_lays_105 ?_
      refine xv_iadd fX11_lays_107 ?_
      rw [nI_add]
      refine xv_callS1R (m_cellAt n c _ J (k := st i + k) (by have := (hpg (by omega)).2; omega)) fX11_lays_108 YX11_cellAt VX11_cellAt lX11_175 rfl (Nat.le_of_ble_eq_true rfl) (by decide) (by decide) (by decide) ?_
      refine xv_k fX11_lays_111 ?_
      refine xv_il1 fX11_lays_114 ?_
      refine xv_iadd fX11_lays_115 ?_
      rw [nI_add]
      refine xv_callV3V (m_puts n c _ J (hpg (by omega)).1 (k := cIn (st i + k)) (cIn_lt (by have := (hpg (by omega)).2; omega))) fX11_lays_116 YX11_puts VX11_puts lX11_154 rfl rfl (sx_60 _ _) (Nat.le_of_ble_eq_true rfl) (by decide) (by decide) (by decide) ?_
      refine xv_iincN4 (a := 1) fX11_lays_119 (by decide) ?_
      refine xv_goto fX11_lays_122 ?_
      exact ih (k + 1) (mOutP (pg i) (st i) (nI (200 + s)) k I) (by omega) ⟨(mOutP_o _ _ (by decide) (by decide) (Or.inl (by decide))).trans i0.1, fun h => ⟨(mOutP_o _ _ (by decide) (by decide) (Or.inl (by decide))).trans (i0.2 h).1, (mOutP_o _ _ (by decide) (by decide) (Or.inl (by decide))).trans (i0.2 h).2⟩⟩ hx

theorem mWy_to {I I' : xv_I} {pg st sz : Nat → Nat} (h : mWy I pg st sz) (h2 : ∀ v j, (v = 95 ∨ v = 96 ∨ v = 97 ∨ v = 60 ∧ j = 43) → I' v j = I v j) : mWy I' pg st sz := fun i hi => by
  rw [h2 60 43 (by omega), h2 97 _ (by omega), h2 95 _ (by omega), h2 96 _ (by omega)]
  exact h i hi
theorem l_lays (n : Nat) (c : Nat × Nat) (J : xv_J) {s u : Nat} {pg st sz : Nat → Nat} (hs : s < 20) {Q : xv_Q} : ∀ (m k : Nat) (I : xv_I) (l4 : Option Value), k + m = 2 → (mWy I pg st sz) → (∀ l4, xv_W mX11_lays 1 0 0 Q 0 0 (sx n c) (it (mLay1 s pg st sz) m k I) (rx c) J 131 (some (.ref 60) :: some (.int (nI s)) :: some (.int (nI u)) :: some (.int (nI 2)) :: l4 :: []) []) → xv_W mX11_lays 1 0 0 Q 0 0 (sx n c) I (rx c) J 9 (some (.ref 60) :: some (.int (nI s)) :: some (.int (nI u)) :: some (.int (nI k)) :: l4 :: []) [] := by
  intro m
  induction m with
  | zero =>
    intro k I l4 hm i0 i1
    obtain rfl : k = 2 := by omega
    refine xv_il3 fX11_lays_9 ?_
    refine xv_k fX11_lays_10 ?_
    refine xv_ic_ge fX11_lays_11 (fun h_11 => ?_) (fun h_11 => ?_)
    · exact i1 _
    · exact absurd (nI_le (Nat.le_refl _) (by decide)) h_11
  | succ m ih =>
    intro k I l4 hm i0 i1
    have hk : k < 2 := by omega
    show xv_W mX11_lays 1 0 0 _ 0 0 (sx n c) I (rx c) J 9 (some (.ref 60) :: some (.int (nI s)) :: some (.int (nI u)) :: some (.int (nI k)) :: l4 :: []) []
    refine xv_il3 fX11_lays_9 ?_
    refine xv_k fX11_lays_10 ?_
    refine xv_ic_ge fX11_lays_11 (fun h_11 => ?_) (fun h_11 => ?_)
    · exact absurd h_11 (nI_ge hk (by decide))
    · refine xv_al0 fX11_lays_14 ?_
      refine xv_getR fX11_lays_15 gX11_59 rfl (sx_60 _ _) (rx_60_19 _) ?_
      refine xv_k fX11_lays_18 ?_
      refine xv_il1 fX11_lays_19 ?_
      refine xv_imul fX11_lays_20 ?_
      rw [nI_mul]
      refine xv_il3 fX11_lays_21 ?_
      refine xv_iadd fX11_lays_22 ?_
      rw [nI_add]
      refine xv_al0 fX11_lays_23 ?_
      refine xv_getR fX11_lays_24 gX11_113 rfl (sx_60 _ _) (rx_60_44 _) ?_
      refine xv_il3 fX11_lays_27 ?_
      refine xv_ialdN fX11_lays_28 (sx_95 _ _) (⟨by omega, by decide⟩) ?_
      refine xv_iastN fX11_lays_29 (sx_77 _ _) (⟨by omega, by decide⟩) ?_
      refine xv_al0 fX11_lays_30 ?_
      refine xv_getR fX11_lays_31 gX11_62 rfl (sx_60 _ _) (rx_60_20 _) ?_
      refine xv_k fX11_lays_34 ?_
      refine xv_il1 fX11_lays_35 ?_
      refine xv_imul fX11_lays_36 ?_
      rw [nI_mul]
      refine xv_il3 fX11_lays_37 ?_
      refine xv_iadd fX11_lays_38 ?_
      rw [nI_add]
      refine xv_al0 fX11_lays_39 ?_
      refine xv_getR fX11_lays_40 gX11_116 rfl (sx_60 _ _) (rx_60_45 _) ?_
      refine xv_il3 fX11_lays_43 ?_
      refine xv_ialdN fX11_lays_44 (sx_96 _ _) (⟨by omega, by decide⟩) ?_
      rw [xv_u_ne _ _ _ (by decide)]
      refine xv_iastN fX11_lays_45 (sx_78 _ _) (⟨by omega, by decide⟩) ?_
      refine xv_al0 fX11_lays_46 ?_
      refine xv_getR fX11_lays_47 gX11_65 rfl (sx_60 _ _) (rx_60_21 _) ?_
      refine xv_k fX11_lays_50 ?_
      refine xv_il1 fX11_lays_51 ?_
      refine xv_imul fX11_lays_52 ?_
      rw [nI_mul]
      refine xv_il3 fX11_lays_53 ?_
      refine xv_iadd fX11_lays_54 ?_
      rw [nI_add]
      refine xv_il3 fX11_lays_55 ?_
      refine xv_al0 fX11_lays_56 ?_
      refine xv_getI fX11_lays_57 gX11_182 rfl (sx_60 _ _) ?_
      rw [xv_u_ne _ _ _ (by decide), xv_u_ne _ _ _ (by decide)]
      refine xv_ic_ge fX11_lays_60 (fun h_60 => ?_) (fun h_60 => ?_)
      · refine xv_k fX11_lays_72 ?_
        refine xv_eqi (y := nI (sz k)) (by have q := (i0 k hk).1; rw [if_neg (show ¬ nI k < I 60 43 from fun r => fa_le_nlt h_60 r)] at q; exact q) ?_
        refine xv_iastN fX11_lays_73 (sx_79 _ _) (⟨by omega, by decide⟩) ?_
        refine xv_k fX11_lays_74 ?_
        refine xv_is4 fX11_lays_75 ?_
        refine l_lays1 n c J hs (pg := pg) (st := st) (i := k) hk (i0 k hk).2.1 (fun h => ⟨((i0 k hk).2.2 h).2.1, ((i0 k hk).2.2 h).2.2.2⟩) (sz k) 0 _ (by omega) ⟨xv_u_eq _ _ _ _, fun h => ⟨(mLayA_o _ _ (by omega)).trans ((i0 k hk).2.2 h).1, (mLayA_o _ _ (by omega)).trans ((i0 k hk).2.2 h).2.2.1⟩⟩ ?_
        refine xv_iincN3 (a := 1) fX11_lays_125 (by decide) ?_
        refine xv_goto fX11_lays_128 ?_
        exact ih (k + 1) (mLay1 s pg st sz k I) _ (by omega) (mWy_to i0 (fun v j hv => mLay1_o _ _ (by omega) (by omega) (by omega) (by omega))) i1
      · refine xv_al0 fX11_lays_63 ?_
        refine xv_getR fX11_lays_64 gX11_119 rfl (sx_60 _ _) (rx_60_46 _) ?_
        refine xv_il3 fX11_lays_67 ?_
        refine xv_ialdN fX11_lays_68 (sx_97 _ _) (⟨by omega, by decide⟩) ?_
        rw [xv_u_ne _ _ _ (by decide), xv_u_ne _ _ _ (by decide)]
        refine xv_goto fX11_lays_69 ?_
        refine xv_eqi (y := nI (sz k)) (by have q := (i0 k hk).1; rw [if_pos (fa_of_nle h_60)] at q; exact q) ?_
        refine xv_iastN fX11_lays_73 (sx_79 _ _) (⟨by omega, by decide⟩) ?_
        refine xv_k fX11_lays_74 ?_
        refine xv_is4 fX11_lays_75 ?_
        refine l_lays1 n c J hs (pg := pg) (st := st) (i := k) hk (i0 k hk).2.1 (fun h => ⟨((i0 k hk).2.2 h).2.1, ((i0 k hk).2.2 h).2.2.2⟩) (sz k) 0 _ (by omega) ⟨xv_u_eq _ _ _ _, fun h => ⟨(mLayA_o _ _ (by omega)).trans ((i0 k hk).2.2 h).1, (mLayA_o _ _ (by omega)).trans ((i0 k hk).2.2 h).2.2.1⟩⟩ ?_
        refine xv_iincN3 (a := 1) fX11_lays_125 (by decide) ?_
        refine xv_goto fX11_lays_128 ?_
        exact ih (k + 1) (mLay1 s pg st sz k I) _ (by omega) (mWy_to i0 (fun v j hv => mLay1_o _ _ (by omega) (by omega) (by omega) (by omega))) i1

theorem m_lays (n : Nat) (c : Nat × Nat) (I : xv_I) (J : xv_J) {s u : Nat} {pg st sz : Nat → Nat} (hs : s < 20) (hwy : mWy I pg st sz) : xv_Met mX11_lays 1 0 0 (sx n c) I (rx c) J [.ref 60, .int (nI s), .int (nI u)] (xv_eq (.inl none) (sx n c) (mLay s u pg st sz I) (rx c) J) := by
  refine xv_Met.of (by decide +kernel) (Nat.le_of_ble_eq_true rfl) (List.forall_mem_cons.mpr ⟨rfl, List.forall_mem_cons.mpr ⟨rfl, List.forall_mem_cons.mpr ⟨rfl, fun _ h => nomatch h⟩⟩⟩) ?_
  show xv_W mX11_lays 1 0 0 _ 0 0 (sx n c) I (rx c) J 0 [some (.ref 60), some (.int (nI s)), some (.int (nI u)), none, none] []
  refine xv_al0 fX11_lays_0 ?_
  refine xv_getR fX11_lays_1 gX11_56 rfl (sx_60 _ _) (rx_60_18 _) ?_
  refine xv_il1 fX11_lays_4 ?_
  refine xv_il2 fX11_lays_5 ?_
  refine xv_iastN fX11_lays_6 (sx_76 _ _) (⟨by omega, by decide⟩) ?_
  refine xv_k fX11_lays_7 ?_
  refine xv_is3 fX11_lays_8 ?_
  exact l_lays n c J hs 2 0 _ none rfl (mWy_to hwy (fun v j hv => xv_u_ne _ _ _ (by omega))) (fun l4 => by exact xv_vret fX11_lays_131 rfl (xv_eq_I rfl rfl))

def mClr1 (p : Nat) (x : Int32) (k : Nat) (s : Nat × xv_I) : Nat × xv_I := if s.2 63 (12 * p + k) = x then (s.1 + 1, mPut s.2 p k (nI 0)) else s
def mClr (p : Nat) (x : Int32) (I : xv_I) : Nat × xv_I := it (mClr1 p x) 12 0 (0, I)
def mClrA (x : Int32) (I : xv_I) : xv_I := it (fun p I => (mClr p x I).2) 10 0 I
theorem l_clr (n : Nat) (c : Nat × Nat) (J : xv_J) {p : Nat} {x : Int32} (hp : p < 10) {Q : xv_Q} : ∀ (m k : Nat) (I : xv_I) (s : Nat), k + m = 12 → (xv_W mX11_clears 1 0 0 Q 0 0 (sx n c) (it (mClr1 p x) m k (s, I)).2 (rx c) J 45 [some (.ref 60), some (.int (nI p)), some (.int x), some (.int (nI (it (mClr1 p x) m k (s, I)).1)), some (.int (nI 12))] []) → xv_W mX11_clears 1 0 0 Q 0 0 (sx n c) I (rx c) J 5 [some (.ref 60), some (.int (nI p)), some (.int x), some (.int (nI s)), some (.int (nI k))] [] := by
  intro m
  induction m with
  | zero =>
    intro k I s hm i0
    obtain rfl : k = 12 := by omega
    refine xv_il4 fX11_clears_5 ?_
    refine xv_k fX11_clears_7 ?_
    refine xv_ic_ge fX11_clears_9 (fun h_9 => ?_) (fun h_9 => ?_)
    · exact i0
    · exact absurd (nI_le (Nat.le_refl _) (by decide)) h_9
  | succ m ih =>
    intro k I s hm i0
    have hk : k < 12 := by omega
    show xv_W mX11_clears 1 0 0 _ 0 0 (sx n c) I (rx c) J 5 [some (.ref 60), some (.int (nI p)), some (.int x), some (.int (nI s)), some (.int (nI k))] []
    refine xv_il4 fX11_clears_5 ?_
    refine xv_k fX11_clears_7 ?_
    refine xv_ic_ge fX11_clears_9 (fun h_9 => ?_) (fun h_9 => ?_)
    · exact absurd h_9 (nI_ge hk (by decide))
    · refine xv_al0 fX11_clears_12 ?_
      refine xv_getR fX11_clears_13 gX11_17 rfl (sx_60 _ _) (rx_60_2 _) ?_
      refine xv_k fX11_clears_16 ?_
      refine xv_il1 fX11_clears_18 ?_
      refine xv_imul fX11_clears_19 ?_
      rw [nI_mul]
      refine xv_il4 fX11_clears_20 ?_
      refine xv_iadd fX11_clears_22 ?_
      rw [nI_add]
      refine xv_ialdN fX11_clears_23 (sx_63 _ _) (⟨by omega, by decide⟩) ?_
      refine xv_il2 fX11_clears_24 ?_
      refine xv_ic_ne fX11_clears_25 (fun h_25 => ?_) (fun h_25 => ?_)
      · refine xv_iincN4 (a := 1) fX11_clears_39 (by decide) ?_
        refine xv_goto fX11_clears_42 ?_
        exact ih (k + 1) _ s (by omega) (by rw [show it (mClr1 p x) (m + 1) k (s, I) = it (mClr1 p x) m (k + 1) (mClr1 p x k (s, I)) from rfl, mClr1, if_neg h_25] at i0; exact i0)
      · refine xv_al0 fX11_clears_28 ?_
        refine xv_il1 fX11_clears_29 ?_
        refine xv_il4 fX11_clears_30 ?_
        refine xv_k fX11_clears_32 ?_
        refine xv_callV3V (m_puts n c _ J hp hk) fX11_clears_33 YX11_puts VX11_puts lX11_154 rfl rfl (sx_60 _ _) (Nat.le_of_ble_eq_true rfl) (by decide) (by decide) (by decide) ?_
        refine xv_iincN3 (a := 1) fX11_clears_36 (by decide) ?_
        refine xv_iincN4 (a := 1) fX11_clears_39 (by decide) ?_
        refine xv_goto fX11_clears_42 ?_
        exact ih (k + 1) _ (s + 1) (by omega) (by rw [show it (mClr1 p x) (m + 1) k (s, I) = it (mClr1 p x) m (k + 1) (mClr1 p x k (s, I)) from rfl, mClr1, if_pos h_25] at i0; exact i0)

theorem m_clr (n : Nat) (c : Nat × Nat) (I : xv_I) (J : xv_J) {p : Nat} {x : Int32} (hp : p < 10) : xv_Met mX11_clears 1 0 0 (sx n c) I (rx c) J [.ref 60, .int (nI p), .int x] (xv_eq (.inl (some (.int (nI (mClr p x I).1)))) (sx n c) ((mClr p x I).2) (rx c) J) := by
  refine xv_Met.of (by decide +kernel) (Nat.le_of_ble_eq_true rfl) (List.forall_mem_cons.mpr ⟨rfl, List.forall_mem_cons.mpr ⟨rfl, List.forall_mem_cons.mpr ⟨rfl, fun _ h => nomatch h⟩⟩⟩) ?_
  show xv_W mX11_clears 1 0 0 _ 0 0 (sx n c) I (rx c) J 0 [some (.ref 60), some (.int (nI p)), some (.int x), none, none] []
  refine xv_k fX11_clears_0 ?_
  refine xv_is3 fX11_clears_1 ?_
  refine xv_k fX11_clears_2 ?_
  refine xv_is4 fX11_clears_3 ?_
  exact l_clr n c J hp 12 0 _ 0 rfl (by exact xv_il3 fX11_clears_45 (xv_iret fX11_clears_46 rfl rfl (xv_eq_I rfl rfl)))

theorem l_lifts (n : Nat) (c : Nat × Nat) (J : xv_J) {s : Nat} {Q : xv_Q} : ∀ (m k : Nat) (I : xv_I), k + m = 10 → xv_W mX11_lifts 2 0 0 Q 0 0 (sx n c) (it (fun p I => (mClr p (nI (200 + s)) I).2) m k I) (rx c) J 25 [some (.ref 60), some (.int (nI s)), some (.int (nI 10))] [] → xv_W mX11_lifts 2 0 0 Q 0 0 (sx n c) I (rx c) J 2 [some (.ref 60), some (.int (nI s)), some (.int (nI k))] [] := by
  intro m
  induction m with
  | zero =>
    intro k I hm  hx
    obtain rfl : k = 10 := by omega
    refine xv_il2 fX11_lifts_2 ?_
    refine xv_k fX11_lifts_3 ?_
    refine xv_ic_ge fX11_lifts_5 (fun h_5 => ?_) (fun h_5 => ?_)
    · exact hx
    · exact absurd (nI_le (Nat.le_refl _) (by decide)) h_5
  | succ m ih =>
    intro k I hm  hx
    have hk : k < 10 := by omega
    show xv_W mX11_lifts 2 0 0 _ 0 0 (sx n c) I (rx c) J 2 [some (.ref 60), some (.int (nI s)), some (.int (nI k))] []
    refine xv_il2 fX11_lifts_2 ?_
    refine xv_k fX11_lifts_3 ?_
    refine xv_ic_ge fX11_lifts_5 (fun h_5 => ?_) (fun h_5 => ?_)
    · exact absurd h_5 (nI_ge hk (by decide))
    · refine xv_al0 fX11_lifts_8 ?_
      refine xv_il2 fX11_lifts_9 ?_
      refine xv_k fX11_lifts_10 ?_
      refine xv_il1 fX11_lifts_13 ?_
      refine xv_iadd fX11_lifts_14 ?_
      rw [nI_add]
      refine xv_callV2R (m_clr n c _ J hk) fX11_lifts_15 YX11_clears VX11_clears lX11_217 rfl rfl (sx_60 _ _) (Nat.le_of_ble_eq_true rfl) (by decide) (by decide) (by decide) ?_
      refine xv_pop_i fX11_lifts_18 ?_
      refine xv_iincN2 (a := 1) fX11_lifts_19 (by decide) ?_
      refine xv_goto fX11_lifts_22 ?_
      exact ih (k + 1) _ (by omega) hx

theorem m_lifts (n : Nat) (c : Nat × Nat) (I : xv_I) (J : xv_J) {s : Nat} (hs : s < 20) : xv_Met mX11_lifts 2 0 0 (sx n c) I (rx c) J [.ref 60, .int (nI s)] (xv_eq (.inl none) (sx n c) (xv_u (mClrA (nI (200 + s)) I) 76 s (nI 0)) (rx c) J) := by
  refine xv_Met.of (by decide +kernel) (Nat.le_of_ble_eq_true rfl) (List.forall_mem_cons.mpr ⟨rfl, List.forall_mem_cons.mpr ⟨rfl, fun _ h => nomatch h⟩⟩) ?_
  show xv_W mX11_lifts 2 0 0 _ 0 0 (sx n c) I (rx c) J 0 [some (.ref 60), some (.int (nI s)), none] []
  refine xv_k fX11_lifts_0 ?_
  refine xv_is2 fX11_lifts_1 ?_
  refine l_lifts n c J 10 0 _ rfl ?_
  refine xv_al0 fX11_lifts_25 ?_
  refine xv_getR fX11_lifts_26 gX11_56 rfl (sx_60 _ _) (rx_60_18 _) ?_
  refine xv_il1 fX11_lifts_29 ?_
  refine xv_k fX11_lifts_30 ?_
  refine xv_iastN fX11_lifts_31 (sx_76 _ _) (⟨by omega, by decide⟩) ?_
  exact xv_vret fX11_lifts_32 rfl xv_eq_i
