theorem m_lay_a (n : Nat) (c : Nat × Nat) (I : xv_I) (J : xv_J) {x : Int32} (hx : ∀ k, x = nI k → k < 20 → c.2 ≤ k) (hn : I 60 13 = nI c.2) (hn2 : c.2 ≤ 20) : xv_Met mX11_lay 8 0 0 (sx n c) I (rx c) J [.ref 60, .int x] (xv_eq (.inl (some (.int (nI 0)))) (sx n c) (xv_u I 60 48 (nI 1)) (rx c) J) := by
  refine xv_Met.of (by decide +kernel) (Nat.le_of_ble_eq_true rfl) (List.forall_mem_cons.mpr ⟨rfl, List.forall_mem_cons.mpr ⟨rfl, fun _ h => nomatch h⟩⟩) ?_
  show xv_W mX11_lay 8 0 0 _ 0 0 (sx n c) I (rx c) J 0 [some (.ref 60), some (.int x), none, none] []
  refine xv_al0 fX11_lay_0 ?_
  refine xv_il1 fX11_lay_1 ?_
  refine xv_callV1R (m_isStory_f n c _ J hx hn hn2) fX11_lay_2 YX11_isStory VX11_isStory lX11_206 rfl rfl (sx_60 _ _) (Nat.le_of_ble_eq_true rfl) (by decide) (by decide) (by decide) ?_
  refine xv_is2 fX11_lay_5 ?_
  refine xv_al0 fX11_lay_6 ?_
  refine xv_il2 fX11_lay_7 ?_
  refine xv_if_ne fX11_lay_8 (fun h_8 => ?_) (fun h_8 => ?_)
  · exact absurd h_8 (by decide)
  · refine xv_k fX11_lay_11 ?_
    refine xv_goto fX11_lay_12 ?_
    refine xv_callV1R (m_fails1 n c _ J) fX11_lay_29 YX11_fails VX11_fails lX11_137 rfl rfl (sx_60 _ _) (Nat.le_of_ble_eq_true rfl) (by decide) (by decide) (by decide) ?_
    refine xv_if_eq fX11_lay_32 (fun h_32 => ?_) (fun h_32 => ?_)
    · exact absurd h_32 (by decide)
    · refine xv_k fX11_lay_35 ?_
      exact xv_iret fX11_lay_36 rfl rfl xv_eq_i

theorem m_lay_b (n : Nat) (c : Nat × Nat) (I : xv_I) (J : xv_J) {s : Nat} (hs : s < c.2) (hn : I 60 13 = nI c.2) (hn2 : c.2 ≤ 20) (hl : ¬ I 76 s ≤ 0) : xv_Met mX11_lay 8 0 0 (sx n c) I (rx c) J [.ref 60, .int (nI s)] (xv_eq (.inl (some (.int (nI 0)))) (sx n c) (xv_u I 60 48 (nI 2)) (rx c) J) := by
  refine xv_Met.of (by decide +kernel) (Nat.le_of_ble_eq_true rfl) (List.forall_mem_cons.mpr ⟨rfl, List.forall_mem_cons.mpr ⟨rfl, fun _ h => nomatch h⟩⟩) ?_
  show xv_W mX11_lay 8 0 0 _ 0 0 (sx n c) I (rx c) J 0 [some (.ref 60), some (.int (nI s)), none, none] []
  refine xv_al0 fX11_lay_0 ?_
  refine xv_il1 fX11_lay_1 ?_
  refine xv_callV1R (m_isStory_t n c _ J hs hn hn2) fX11_lay_2 YX11_isStory VX11_isStory lX11_206 rfl rfl (sx_60 _ _) (Nat.le_of_ble_eq_true rfl) (by decide) (by decide) (by decide) ?_
  refine xv_is2 fX11_lay_5 ?_
  refine xv_al0 fX11_lay_6 ?_
  refine xv_il2 fX11_lay_7 ?_
  refine xv_if_ne fX11_lay_8 (fun h_8 => ?_) (fun h_8 => ?_)
  · refine xv_al0 fX11_lay_15 ?_
    refine xv_getR fX11_lay_16 gX11_56 rfl (sx_60 _ _) (rx_60_18 _) ?_
    refine xv_il1 fX11_lay_19 ?_
    refine xv_ialdN fX11_lay_20 (sx_76 _ _) (⟨by omega, by decide⟩) ?_
    refine xv_if_le fX11_lay_21 (fun h_21 => ?_) (fun h_21 => ?_)
    · exact absurd h_21 hl
    · refine xv_k fX11_lay_24 ?_
      refine xv_goto fX11_lay_25 ?_
      refine xv_callV1R (m_fails2 n c _ J) fX11_lay_29 YX11_fails VX11_fails lX11_137 rfl rfl (sx_60 _ _) (Nat.le_of_ble_eq_true rfl) (by decide) (by decide) (by decide) ?_
      refine xv_if_eq fX11_lay_32 (fun h_32 => ?_) (fun h_32 => ?_)
      · exact absurd h_32 (by decide)
      · refine xv_k fX11_lay_35 ?_
        exact xv_iret fX11_lay_36 rfl rfl xv_eq_i
  · exact absurd h_8 (by decide)

theorem m_lay_no (n : Nat) (c : Nat × Nat) (I : xv_I) (J : xv_J) {s : Nat} (hs : s < c.2) (hn : I 60 13 = nI c.2) (hn2 : c.2 ≤ 20) {np lo : Nat} {cz : Nat → Nat → Nat} {sc : Int32} (hS : mStH I s np lo cz sc) (hl : I 76 s ≤ 0) (hf : (mFind sc (-1) (nI 1) (nI 0) cz np lo (xv_u I 60 48 (nI 0))).1 ≤ 0) : xv_Met mX11_lay 8 0 0 (sx n c) I (rx c) J [.ref 60, .int (nI s)] (xv_eq (.inl (some (.int ((mFind sc (-1) (nI 1) (nI 0) cz np lo (xv_u I 60 48 (nI 0))).1)))) (sx n c) ((mFind sc (-1) (nI 1) (nI 0) cz np lo (xv_u I 60 48 (nI 0))).2) (rx c) J) := by
  refine xv_Met.of (by decide +kernel) (Nat.le_of_ble_eq_true rfl) (List.forall_mem_cons.mpr ⟨rfl, List.forall_mem_cons.mpr ⟨rfl, fun _ h => nomatch h⟩⟩) ?_
  show xv_W mX11_lay 8 0 0 _ 0 0 (sx n c) I (rx c) J 0 [some (.ref 60), some (.int (nI s)), none, none] []
  refine xv_al0 fX11_lay_0 ?_
  refine xv_il1 fX11_lay_1 ?_
  refine xv_callV1R (m_isStory_t n c _ J hs hn hn2) fX11_lay_2 YX11_isStory VX11_isStory lX11_206 rfl rfl (sx_60 _ _) (Nat.le_of_ble_eq_true rfl) (by decide) (by decide) (by decide) ?_
  refine xv_is2 fX11_lay_5 ?_
  refine xv_al0 fX11_lay_6 ?_
  refine xv_il2 fX11_lay_7 ?_
  refine xv_if_ne fX11_lay_8 (fun h_8 => ?_) (fun h_8 => ?_)
  · refine xv_al0 fX11_lay_15 ?_
    refine xv_getR fX11_lay_16 gX11_56 rfl (sx_60 _ _) (rx_60_18 _) ?_
    refine xv_il1 fX11_lay_19 ?_
    refine xv_ialdN fX11_lay_20 (sx_76 _ _) (⟨by omega, by decide⟩) ?_
    refine xv_if_le fX11_lay_21 (fun h_21 => ?_) (fun h_21 => ?_)
    · refine xv_k fX11_lay_28 ?_
      refine xv_callV1R (m_fails0 n c _ J) fX11_lay_29 YX11_fails VX11_fails lX11_137 rfl rfl (sx_60 _ _) (Nat.le_of_ble_eq_true rfl) (by decide) (by decide) (by decide) ?_
      refine xv_if_eq fX11_lay_32 (fun h_32 => ?_) (fun h_32 => ?_)
      · refine xv_al0 fX11_lay_37 ?_
        refine xv_il1 fX11_lay_38 ?_
        refine xv_k fX11_lay_39 ?_
        refine xv_k fX11_lay_40 ?_
        refine xv_callV3R (m_finds n c _ J (by omega) (hS.to (fun v j hv => xv_u_ne _ _ _ (by omega))) (Or.inl ⟨rfl, rfl⟩)) fX11_lay_41 YX11_finds VX11_finds lX11_209 rfl rfl (sx_60 _ _) (Nat.le_of_ble_eq_true rfl) (by decide) (by decide) (by decide) ?_
        refine xv_is3 fX11_lay_44 ?_
        refine xv_il3 fX11_lay_45 ?_
        refine xv_if_le fX11_lay_46 (fun h_46 => ?_) (fun h_46 => ?_)
        · refine xv_il3 fX11_lay_55 ?_
          exact xv_iret fX11_lay_56 rfl rfl xv_eq_i
        · exact absurd hf h_46
      · exact absurd h_32 (by decide)
    · exact absurd hl h_21
  · exact absurd h_8 (by decide)

theorem m_lay_ok (n : Nat) (c : Nat × Nat) (I : xv_I) (J : xv_J) {s : Nat} (hs : s < c.2) (hn : I 60 13 = nI c.2) (hn2 : c.2 ≤ 20) {np lo : Nat} {cz : Nat → Nat → Nat} {sc : Int32} (hS : mStH I s np lo cz sc) (hl : I 76 s ≤ 0) {u : Nat} {pg st sz : Nat → Nat} (hf : (mFind sc (-1) (nI 1) (nI 0) cz np lo (xv_u I 60 48 (nI 0))).1 = nI u) (hu : 0 < u ∧ u ≤ 6) (hwy : mWy (mFind sc (-1) (nI 1) (nI 0) cz np lo (xv_u I 60 48 (nI 0))).2 pg st sz) : xv_Met mX11_lay 8 0 0 (sx n c) I (rx c) J [.ref 60, .int (nI s)] (xv_eq (.inl (some (.int (nI u)))) (sx n c) (mLay s u pg st sz (mFind sc (-1) (nI 1) (nI 0) cz np lo (xv_u I 60 48 (nI 0))).2) (rx c) J) := by
  refine xv_Met.of (by decide +kernel) (Nat.le_of_ble_eq_true rfl) (List.forall_mem_cons.mpr ⟨rfl, List.forall_mem_cons.mpr ⟨rfl, fun _ h => nomatch h⟩⟩) ?_
  show xv_W mX11_lay 8 0 0 _ 0 0 (sx n c) I (rx c) J 0 [some (.ref 60), some (.int (nI s)), none, none] []
  refine xv_al0 fX11_lay_0 ?_
  refine xv_il1 fX11_lay_1 ?_
  refine xv_callV1R (m_isStory_t n c _ J hs hn hn2) fX11_lay_2 YX11_isStory VX11_isStory lX11_206 rfl rfl (sx_60 _ _) (Nat.le_of_ble_eq_true rfl) (by decide) (by decide) (by decide) ?_
  refine xv_is2 fX11_lay_5 ?_
  refine xv_al0 fX11_lay_6 ?_
  refine xv_il2 fX11_lay_7 ?_
  refine xv_if_ne fX11_lay_8 (fun h_8 => ?_) (fun h_8 => ?_)
  · refine xv_al0 fX11_lay_15 ?_
    refine xv_getR fX11_lay_16 gX11_56 rfl (sx_60 _ _) (rx_60_18 _) ?_
    refine xv_il1 fX11_lay_19 ?_
    refine xv_ialdN fX11_lay_20 (sx_76 _ _) (⟨by omega, by decide⟩) ?_
    refine xv_if_le fX11_lay_21 (fun h_21 => ?_) (fun h_21 => ?_)
    · refine xv_k fX11_lay_28 ?_
      refine xv_callV1R (m_fails0 n c _ J) fX11_lay_29 YX11_fails VX11_fails lX11_137 rfl rfl (sx_60 _ _) (Nat.le_of_ble_eq_true rfl) (by decide) (by decide) (by decide) ?_
      refine xv_if_eq fX11_lay_32 (fun h_32 => ?_) (fun h_32 => ?_)
      · refine xv_al0 fX11_lay_37 ?_
        refine xv_il1 fX11_lay_38 ?_
        refine xv_k fX11_lay_39 ?_
        refine xv_k fX11_lay_40 ?_
        refine xv_callV3R (m_finds n c _ J (by omega) (hS.to (fun v j hv => xv_u_ne _ _ _ (by omega))) (Or.inl ⟨rfl, rfl⟩)) fX11_lay_41 YX11_finds VX11_finds lX11_209 rfl rfl (sx_60 _ _) (Nat.le_of_ble_eq_true rfl) (by decide) (by decide) (by decide) ?_
        rw [hf]
        refine xv_is3 fX11_lay_44 ?_
        refine xv_il3 fX11_lay_45 ?_
        refine xv_if_le fX11_lay_46 (fun h_46 => ?_) (fun h_46 => ?_)
        · exact absurd h_46 (nI_nle0 hu.1 (by omega))
        · refine xv_al0 fX11_lay_49 ?_
          refine xv_il1 fX11_lay_50 ?_
          refine xv_il3 fX11_lay_51 ?_
          refine xv_callV2V (m_lays n c _ J (by omega) hwy) fX11_lay_52 YX11_lays VX11_lays lX11_213 rfl rfl (sx_60 _ _) (Nat.le_of_ble_eq_true rfl) (by decide) (by decide) (by decide) ?_
          refine xv_il3 fX11_lay_55 ?_
          exact xv_iret fX11_lay_56 rfl rfl xv_eq_i
      · exact absurd h_32 (by decide)
    · exact absurd hl h_21
  · exact absurd h_8 (by decide)

theorem m_lift_a (n : Nat) (c : Nat × Nat) (I : xv_I) (J : xv_J) {x : Int32} (hx : ∀ k, x = nI k → k < 20 → c.2 ≤ k) (hn : I 60 13 = nI c.2) (hn2 : c.2 ≤ 20) : xv_Met mX11_lift 8 0 0 (sx n c) I (rx c) J [.ref 60, .int x] (xv_eq (.inl (some (.int (nI 0)))) (sx n c) (xv_u I 60 48 (nI 1)) (rx c) J) := by
  refine xv_Met.of (by decide +kernel) (Nat.le_of_ble_eq_true rfl) (List.forall_mem_cons.mpr ⟨rfl, List.forall_mem_cons.mpr ⟨rfl, fun _ h => nomatch h⟩⟩) ?_
  show xv_W mX11_lift 8 0 0 _ 0 0 (sx n c) I (rx c) J 0 [some (.ref 60), some (.int x), none, none] []
  refine xv_al0 fX11_lift_0 ?_
  refine xv_il1 fX11_lift_1 ?_
  refine xv_callV1R (m_isStory_f n c _ J hx hn hn2) fX11_lift_2 YX11_isStory VX11_isStory lX11_206 rfl rfl (sx_60 _ _) (Nat.le_of_ble_eq_true rfl) (by decide) (by decide) (by decide) ?_
  refine xv_is2 fX11_lift_5 ?_
  refine xv_al0 fX11_lift_6 ?_
  refine xv_il2 fX11_lift_7 ?_
  refine xv_if_ne fX11_lift_8 (fun h_8 => ?_) (fun h_8 => ?_)
  · exact absurd h_8 (by decide)
  · refine xv_k fX11_lift_11 ?_
    refine xv_goto fX11_lift_12 ?_
    refine xv_callV1R (m_fails1 n c _ J) fX11_lift_29 YX11_fails VX11_fails lX11_137 rfl rfl (sx_60 _ _) (Nat.le_of_ble_eq_true rfl) (by decide) (by decide) (by decide) ?_
    refine xv_if_eq fX11_lift_32 (fun h_32 => ?_) (fun h_32 => ?_)
    · exact absurd h_32 (by decide)
    · refine xv_k fX11_lift_35 ?_
      exact xv_iret fX11_lift_36 rfl rfl xv_eq_i

theorem m_lift_b (n : Nat) (c : Nat × Nat) (I : xv_I) (J : xv_J) {s : Nat} (hs : s < c.2) (hn : I 60 13 = nI c.2) (hn2 : c.2 ≤ 20) (hl : I 76 s = 0) : xv_Met mX11_lift 8 0 0 (sx n c) I (rx c) J [.ref 60, .int (nI s)] (xv_eq (.inl (some (.int (nI 0)))) (sx n c) (xv_u I 60 48 (nI 2)) (rx c) J) := by
  refine xv_Met.of (by decide +kernel) (Nat.le_of_ble_eq_true rfl) (List.forall_mem_cons.mpr ⟨rfl, List.forall_mem_cons.mpr ⟨rfl, fun _ h => nomatch h⟩⟩) ?_
  show xv_W mX11_lift 8 0 0 _ 0 0 (sx n c) I (rx c) J 0 [some (.ref 60), some (.int (nI s)), none, none] []
  refine xv_al0 fX11_lift_0 ?_
  refine xv_il1 fX11_lift_1 ?_
  refine xv_callV1R (m_isStory_t n c _ J hs hn hn2) fX11_lift_2 YX11_isStory VX11_isStory lX11_206 rfl rfl (sx_60 _ _) (Nat.le_of_ble_eq_true rfl) (by decide) (by decide) (by decide) ?_
  refine xv_is2 fX11_lift_5 ?_
  refine xv_al0 fX11_lift_6 ?_
  refine xv_il2 fX11_lift_7 ?_
  refine xv_if_ne fX11_lift_8 (fun h_8 => ?_) (fun h_8 => ?_)
  · refine xv_al0 fX11_lift_15 ?_
    refine xv_getR fX11_lift_16 gX11_56 rfl (sx_60 _ _) (rx_60_18 _) ?_
    refine xv_il1 fX11_lift_19 ?_
    refine xv_ialdN fX11_lift_20 (sx_76 _ _) (⟨by omega, by decide⟩) ?_
    refine xv_if_ne fX11_lift_21 (fun h_21 => ?_) (fun h_21 => ?_)
    · exact absurd hl h_21
    · refine xv_k fX11_lift_24 ?_
      refine xv_goto fX11_lift_25 ?_
      refine xv_callV1R (m_fails2 n c _ J) fX11_lift_29 YX11_fails VX11_fails lX11_137 rfl rfl (sx_60 _ _) (Nat.le_of_ble_eq_true rfl) (by decide) (by decide) (by decide) ?_
      refine xv_if_eq fX11_lift_32 (fun h_32 => ?_) (fun h_32 => ?_)
      · exact absurd h_32 (by decide)
      · refine xv_k fX11_lift_35 ?_
        exact xv_iret fX11_lift_36 rfl rfl xv_eq_i
  · exact absurd h_8 (by decide)

theorem m_lift_ok (n : Nat) (c : Nat × Nat) (I : xv_I) (J : xv_J) {s : Nat} (hs : s < c.2) (hn : I 60 13 = nI c.2) (hn2 : c.2 ≤ 20) (hl : ¬ I 76 s = 0) : xv_Met mX11_lift 8 0 0 (sx n c) I (rx c) J [.ref 60, .int (nI s)] (xv_eq (.inl (some (.int (I 76 s)))) (sx n c) (xv_u (mClrA (nI (200 + s)) (xv_u I 60 48 (nI 0))) 76 s (nI 0)) (rx c) J) := by
  refine xv_Met.of (by decide +kernel) (Nat.le_of_ble_eq_true rfl) (List.forall_mem_cons.mpr ⟨rfl, List.forall_mem_cons.mpr ⟨rfl, fun _ h => nomatch h⟩⟩) ?_
  show xv_W mX11_lift 8 0 0 _ 0 0 (sx n c) I (rx c) J 0 [some (.ref 60), some (.int (nI s)), none, none] []
  refine xv_al0 fX11_lift_0 ?_
  refine xv_il1 fX11_lift_1 ?_
  refine xv_callV1R (m_isStory_t n c _ J hs hn hn2) fX11_lift_2 YX11_isStory VX11_isStory lX11_206 rfl rfl (sx_60 _ _) (Nat.le_of_ble_eq_true rfl) (by decide) (by decide) (by decide) ?_
  refine xv_is2 fX11_lift_5 ?_
  refine xv_al0 fX11_lift_6 ?_
  refine xv_il2 fX11_lift_7 ?_
  refine xv_if_ne fX11_lift_8 (fun h_8 => ?_) (fun h_8 => ?_)
  · refine xv_al0 fX11_lift_15 ?_
    refine xv_getR fX11_lift_16 gX11_56 rfl (sx_60 _ _) (rx_60_18 _) ?_
    refine xv_il1 fX11_lift_19 ?_
    refine xv_ialdN fX11_lift_20 (sx_76 _ _) (⟨by omega, by decide⟩) ?_
    refine xv_if_ne fX11_lift_21 (fun h_21 => ?_) (fun h_21 => ?_)
    · refine xv_k fX11_lift_28 ?_
      refine xv_callV1R (m_fails0 n c _ J) fX11_lift_29 YX11_fails VX11_fails lX11_137 rfl rfl (sx_60 _ _) (Nat.le_of_ble_eq_true rfl) (by decide) (by decide) (by decide) ?_
      refine xv_if_eq fX11_lift_32 (fun h_32 => ?_) (fun h_32 => ?_)
      · refine xv_al0 fX11_lift_37 ?_
        refine xv_getR fX11_lift_38 gX11_56 rfl (sx_60 _ _) (rx_60_18 _) ?_
        refine xv_il1 fX11_lift_41 ?_
        refine xv_ialdN fX11_lift_42 (sx_76 _ _) (⟨by omega, by decide⟩) ?_
        rw [xv_u_ne _ _ _ (by decide)]
        refine xv_is3 fX11_lift_43 ?_
        refine xv_al0 fX11_lift_44 ?_
        refine xv_il1 fX11_lift_45 ?_
        refine xv_callV1V (m_lifts n c _ J (by omega)) fX11_lift_46 YX11_lifts VX11_lifts lX11_220 rfl rfl (sx_60 _ _) (Nat.le_of_ble_eq_true rfl) (by decide) (by decide) (by decide) ?_
        refine xv_il3 fX11_lift_49 ?_
        exact xv_iret fX11_lift_50 rfl rfl xv_eq_i
      · exact absurd h_32 (by decide)
    · exact absurd h_21 hl
  · exact absurd h_8 (by decide)

theorem m_change_a (n : Nat) (c : Nat × Nat) (I : xv_I) (J : xv_J) {x : Int32} (hx : ∀ k, x = nI k → k < 20 → c.2 ≤ k) (hn : I 60 13 = nI c.2) (hn2 : c.2 ≤ 20) {y : Int32} : xv_Met mX11_change 8 0 0 (sx n c) I (rx c) J [.ref 60, .int x, .int y] (xv_eq (.inl (some (.int (nI 0)))) (sx n c) (xv_u I 60 48 (nI 1)) (rx c) J) := by
  refine xv_Met.of (by decide +kernel) (Nat.le_of_ble_eq_true rfl) (List.forall_mem_cons.mpr ⟨rfl, List.forall_mem_cons.mpr ⟨rfl, List.forall_mem_cons.mpr ⟨rfl, fun _ h => nomatch h⟩⟩⟩) ?_
  show xv_W mX11_change 8 0 0 _ 0 0 (sx n c) I (rx c) J 0 [some (.ref 60), some (.int x), some (.int y), none, none, none] []
  refine xv_al0 fX11_change_0 ?_
  refine xv_il1 fX11_change_1 ?_
  refine xv_callV1R (m_isStory_f n c _ J hx hn hn2) fX11_change_2 YX11_isStory VX11_isStory lX11_206 rfl rfl (sx_60 _ _) (Nat.le_of_ble_eq_true rfl) (by decide) (by decide) (by decide) ?_
  refine xv_if_eq fX11_change_5 (fun h_5 => ?_) (fun h_5 => ?_)
  · refine xv_k fX11_change_20 ?_
    refine xv_is3 fX11_change_21 ?_
    refine xv_al0 fX11_change_22 ?_
    refine xv_il3 fX11_change_23 ?_
    refine xv_if_ne fX11_change_24 (fun h_24 => ?_) (fun h_24 => ?_)
    · exact absurd h_24 (by decide)
    · refine xv_k fX11_change_27 ?_
      refine xv_goto fX11_change_28 ?_
      refine xv_callV1R (m_fails1 n c _ J) fX11_change_54 YX11_fails VX11_fails lX11_137 rfl rfl (sx_60 _ _) (Nat.le_of_ble_eq_true rfl) (by decide) (by decide) (by decide) ?_
      refine xv_if_eq fX11_change_57 (fun h_57 => ?_) (fun h_57 => ?_)
      · exact absurd h_57 (by decide)
      · refine xv_k fX11_change_60 ?_
        exact xv_iret fX11_change_61 rfl rfl xv_eq_i
  · exact absurd h_5 (by decide)

theorem m_change_b (n : Nat) (c : Nat × Nat) (I : xv_I) (J : xv_J) {s : Nat} (hs : s < c.2) (hn : I 60 13 = nI c.2) (hn2 : c.2 ≤ 20) {x : Int32} (hx : ∀ k, x = nI k → k < 20 → c.2 ≤ k) : xv_Met mX11_change 8 0 0 (sx n c) I (rx c) J [.ref 60, .int (nI s), .int x] (xv_eq (.inl (some (.int (nI 0)))) (sx n c) (xv_u I 60 48 (nI 1)) (rx c) J) := by
  refine xv_Met.of (by decide +kernel) (Nat.le_of_ble_eq_true rfl) (List.forall_mem_cons.mpr ⟨rfl, List.forall_mem_cons.mpr ⟨rfl, List.forall_mem_cons.mpr ⟨rfl, fun _ h => nomatch h⟩⟩⟩) ?_
  show xv_W mX11_change 8 0 0 _ 0 0 (sx n c) I (rx c) J 0 [some (.ref 60), some (.int (nI s)), some (.int x), none, none, none] []
  refine xv_al0 fX11_change_0 ?_
  refine xv_il1 fX11_change_1 ?_
  refine xv_callV1R (m_isStory_t n c _ J hs hn hn2) fX11_change_2 YX11_isStory VX11_isStory lX11_206 rfl rfl (sx_60 _ _) (Nat.le_of_ble_eq_true rfl) (by decide) (by decide) (by decide) ?_
  refine xv_if_eq fX11_change_5 (fun h_5 => ?_) (fun h_5 => ?_)
  · exact absurd h_5 (by decide)
  · refine xv_al0 fX11_change_8 ?_
    refine xv_il2 fX11_change_9 ?_
    refine xv_callV1R (m_isStory_f n c _ J hx hn hn2) fX11_change_10 YX11_isStory VX11_isStory lX11_206 rfl rfl (sx_60 _ _) (Nat.le_of_ble_eq_true rfl) (by decide) (by decide) (by decide) ?_
    refine xv_if_eq fX11_change_13 (fun h_13 => ?_) (fun h_13 => ?_)
    · refine xv_k fX11_change_20 ?_
      refine xv_is3 fX11_change_21 ?_
      refine xv_al0 fX11_change_22 ?_
      refine xv_il3 fX11_change_23 ?_
      refine xv_if_ne fX11_change_24 (fun h_24 => ?_) (fun h_24 => ?_)
      · exact absurd h_24 (by decide)
      · refine xv_k fX11_change_27 ?_
        refine xv_goto fX11_change_28 ?_
        refine xv_callV1R (m_fails1 n c _ J) fX11_change_54 YX11_fails VX11_fails lX11_137 rfl rfl (sx_60 _ _) (Nat.le_of_ble_eq_true rfl) (by decide) (by decide) (by decide) ?_
        refine xv_if_eq fX11_change_57 (fun h_57 => ?_) (fun h_57 => ?_)
        · exact absurd h_57 (by decide)
        · refine xv_k fX11_change_60 ?_
          exact xv_iret fX11_change_61 rfl rfl xv_eq_i
    · exact absurd h_13 (by decide)

theorem m_change_c (n : Nat) (c : Nat × Nat) (I : xv_I) (J : xv_J) {s : Nat} (hs : s < c.2) (hn : I 60 13 = nI c.2) (hn2 : c.2 ≤ 20) {t : Nat} (ht : t < c.2) (hl : I 76 s = 0 ∨ ¬ I 76 t ≤ 0) : xv_Met mX11_change 8 0 0 (sx n c) I (rx c) J [.ref 60, .int (nI s), .int (nI t)] (xv_eq (.inl (some (.int (nI 0)))) (sx n c) (xv_u I 60 48 (nI 2)) (rx c) J) := by
  refine xv_Met.of (by decide +kernel) (Nat.le_of_ble_eq_true rfl) (List.forall_mem_cons.mpr ⟨rfl, List.forall_mem_cons.mpr ⟨rfl, List.forall_mem_cons.mpr ⟨rfl, fun _ h => nomatch h⟩⟩⟩) ?_
  show xv_W mX11_change 8 0 0 _ 0 0 (sx n c) I (rx c) J 0 [some (.ref 60), some (.int (nI s)), some (.int (nI t)), none, none, none] []
  refine xv_al0 fX11_change_0 ?_
  refine xv_il1 fX11_change_1 ?_
  refine xv_callV1R (m_isStory_t n c _ J hs hn hn2) fX11_change_2 YX11_isStory VX11_isStory lX11_206 rfl rfl (sx_60 _ _) (Nat.le_of_ble_eq_true rfl) (by decide) (by decide) (by decide) ?_
  refine xv_if_eq fX11_change_5 (fun h_5 => ?_) (fun h_5 => ?_)
  · exact absurd h_5 (by decide)
  · refine xv_al0 fX11_change_8 ?_
    refine xv_il2 fX11_change_9 ?_
    refine xv_callV1R (m_isStory_t n c _ J ht hn hn2) fX11_change_10 YX11_isStory VX11_isStory lX11_206 rfl rfl (sx_60 _ _) (Nat.le_of_ble_eq_true rfl) (by decide) (by decide) (by decide) ?_
    refine xv_if_eq fX11_change_13 (fun h_13 => ?_) (fun h_13 => ?_)
    · exact absurd h_13 (by decide)
    · refine xv_k fX11_change_16 ?_
      refine xv_goto fX11_change_17 ?_
      refine xv_is3 fX11_change_21 ?_
      refine xv_al0 fX11_change_22 ?_
      refine xv_il3 fX11_change_23 ?_
      refine xv_if_ne fX11_change_24 (fun h_24 => ?_) (fun h_24 => ?_)
      · refine xv_al0 fX11_change_31 ?_
        refine xv_getR fX11_change_32 gX11_56 rfl (sx_60 _ _) (rx_60_18 _) ?_
        refine xv_il1 fX11_change_35 ?_
        refine xv_ialdN fX11_change_36 (sx_76 _ _) (⟨by omega, by decide⟩) ?_
        refine xv_if_eq fX11_change_37 (fun h_37 => ?_) (fun h_37 => ?_)
        · refine xv_k fX11_change_49 ?_
          refine xv_goto fX11_change_50 ?_
          refine xv_callV1R (m_fails2 n c _ J) fX11_change_54 YX11_fails VX11_fails lX11_137 rfl rfl (sx_60 _ _) (Nat.le_of_ble_eq_true rfl) (by decide) (by decide) (by decide) ?_
          refine xv_if_eq fX11_change_57 (fun h_57 => ?_) (fun h_57 => ?_)
          · exact absurd h_57 (by decide)
          · refine xv_k fX11_change_60 ?_
            exact xv_iret fX11_change_61 rfl rfl xv_eq_i
        · refine xv_al0 fX11_change_40 ?_
          refine xv_getR fX11_change_41 gX11_56 rfl (sx_60 _ _) (rx_60_18 _) ?_
          refine xv_il2 fX11_change_44 ?_
          refine xv_ialdN fX11_change_45 (sx_76 _ _) (⟨by omega, by decide⟩) ?_
          refine xv_if_le fX11_change_46 (fun h_46 => ?_) (fun h_46 => ?_)
          · exact absurd h_46 (hl.resolve_left h_37)
          · refine xv_k fX11_change_49 ?_
            refine xv_goto fX11_change_50 ?_
            refine xv_callV1R (m_fails2 n c _ J) fX11_change_54 YX11_fails VX11_fails lX11_137 rfl rfl (sx_60 _ _) (Nat.le_of_ble_eq_true rfl) (by decide) (by decide) (by decide) ?_
            refine xv_if_eq fX11_change_57 (fun h_57 => ?_) (fun h_57 => ?_)
            · exact absurd h_57 (by decide)
            · refine xv_k fX11_change_60 ?_
              exact xv_iret fX11_change_61 rfl rfl xv_eq_i
      · exact absurd h_24 (by decide)

theorem m_change_no (n : Nat) (c : Nat × Nat) (I : xv_I) (J : xv_J) {s : Nat} (hs : s < c.2) (hn : I 60 13 = nI c.2) (hn2 : c.2 ≤ 20) {t : Nat} (ht : t < c.2) {np lo : Nat} {cz : Nat → Nat → Nat} {sc : Int32} (hS : mStH I t np lo cz sc) (hl : ¬ I 76 s = 0 ∧ I 76 t ≤ 0) (hf : (mFind sc (nI s) (nI 0) (mPla I s) cz np lo (xv_u I 60 48 (nI 0))).1 = 0) : xv_Met mX11_change 8 0 0 (sx n c) I (rx c) J [.ref 60, .int (nI s), .int (nI t)] (xv_eq (.inl (some (.int (-1)))) (sx n c) ((mFind sc (nI s) (nI 0) (mPla I s) cz np lo (xv_u I 60 48 (nI 0))).2) (rx c) J) := by
  refine xv_Met.of (by decide +kernel) (Nat.le_of_ble_eq_true rfl) (List.forall_mem_cons.mpr ⟨rfl, List.forall_mem_cons.mpr ⟨rfl, List.forall_mem_cons.mpr ⟨rfl, fun _ h => nomatch h⟩⟩⟩) ?_
  show xv_W mX11_change 8 0 0 _ 0 0 (sx n c) I (rx c) J 0 [some (.ref 60), some (.int (nI s)), some (.int (nI t)), none, none, none] []
  refine xv_al0 fX11_change_0 ?_
  refine xv_il1 fX11_change_1 ?_
  refine xv_callV1R (m_isStory_t n c _ J hs hn hn2) fX11_change_2 YX11_isStory VX11_isStory lX11_206 rfl rfl (sx_60 _ _) (Nat.le_of_ble_eq_true rfl) (by decide) (by decide) (by decide) ?_
  refine xv_if_eq fX11_change_5 (fun h_5 => ?_) (fun h_5 => ?_)
  · exact absurd h_5 (by decide)
  · refine xv_al0 fX11_change_8 ?_
    refine xv_il2 fX11_change_9 ?_
    refine xv_callV1R (m_isStory_t n c _ J ht hn hn2) fX11_change_10 YX11_isStory VX11_isStory lX11_206 rfl rfl (sx_60 _ _) (Nat.le_of_ble_eq_true rfl) (by decide) (by decide) (by decide) ?_
    refine xv_if_eq fX11_change_13 (fun h_13 => ?_) (fun h_13 => ?_)
    · exact absurd h_13 (by decide)
    · refine xv_k fX11_change_16 ?_
      refine xv_goto fX11_change_17 ?_
      refine xv_is3 fX11_change_21 ?_
      refine xv_al0 fX11_change_22 ?_
      refine xv_il3 fX11_change_23 ?_
      refine xv_if_ne fX11_change_24 (fun h_24 => ?_) (fun h_24 => ?_)
      · refine xv_al0 fX11_change_31 ?_
        refine xv_getR fX11_change_32 gX11_56 rfl (sx_60 _ _) (rx_60_18 _) ?_
        refine xv_il1 fX11_change_35 ?_
        refine xv_ialdN fX11_change_36 (sx_76 _ _) (⟨by omega, by decide⟩) ?_
        refine xv_if_eq fX11_change_37 (fun h_37 => ?_) (fun h_37 => ?_)
        · exact absurd h_37 hl.1
        · refine xv_al0 fX11_change_40 ?_
          refine xv_getR fX11_change_41 gX11_56 rfl (sx_60 _ _) (rx_60_18 _) ?_
          refine xv_il2 fX11_change_44 ?_
          refine xv_ialdN fX11_change_45 (sx_76 _ _) (⟨by omega, by decide⟩) ?_
          refine xv_if_le fX11_change_46 (fun h_46 => ?_) (fun h_46 => ?_)
          · refine xv_k fX11_change_53 ?_
            refine xv_callV1R (m_fails0 n c _ J) fX11_change_54 YX11_fails VX11_fails lX11_137 rfl rfl (sx_60 _ _) (Nat.le_of_ble_eq_true rfl) (by decide) (by decide) (by decide) ?_
            refine xv_if_eq fX11_change_57 (fun h_57 => ?_) (fun h_57 => ?_)
            · refine xv_al0 fX11_change_62 ?_
              refine xv_il2 fX11_change_63 ?_
              refine xv_il1 fX11_change_64 ?_
              refine xv_k fX11_change_65 ?_
              refine xv_callV3R (m_finds n c _ J (by omega) (hS.to (fun v j hv => xv_u_ne _ _ _ (by omega))) (Or.inr ⟨s, by omega, rfl, (mPla_to (fun v j hv => xv_u_ne _ _ _ (by omega))).symm⟩)) fX11_change_66 YX11_finds VX11_finds lX11_209 rfl rfl (sx_60 _ _) (Nat.le_of_ble_eq_true rfl) (by decide) (by decide) (by decide) ?_
              refine xv_is4 fX11_change_69 ?_
              refine xv_il4 fX11_change_71 ?_
              refine xv_if_ne fX11_change_73 (fun h_73 => ?_) (fun h_73 => ?_)
              · exact absurd hf h_73
              · refine xv_k fX11_change_76 ?_
                exact xv_iret fX11_change_77 rfl rfl xv_eq_i
            · exact absurd h_57 (by decide)
          · exact absurd hl.2 h_46
      · exact absurd h_24 (by decide)

theorem mClrA_o (I : xv_I) {x : Int32} {v : Nat} (j : Nat) (h : v ≠ 81) (h2 : v ≠ 63) (h3 : v ≠ 60 ∨ j ≠ 3) : mClrA x I v j = I v j := by
  unfold mClrA
  refine it_inv (fun s : xv_I => s v j = I v j) (fun k s hs => ?_) _ _ _ rfl
  unfold mClr
  refine it_inv (fun q : Nat × xv_I => q.2 v j = I v j) (fun k q hq => ?_) _ _ _ hs
  unfold mClr1
  split
  · exact (mPut_o _ _ h h2 h3).trans hq
  · exact hq
theorem m_change_ok (n : Nat) (c : Nat × Nat) (I : xv_I) (J : xv_J) {s : Nat} (hs : s < c.2) (hn : I 60 13 = nI c.2) (hn2 : c.2 ≤ 20) {t : Nat} (ht : t < c.2) {np lo : Nat} {cz : Nat → Nat → Nat} {sc : Int32} (hS : mStH I t np lo cz sc) (hl : ¬ I 76 s = 0 ∧ I 76 t ≤ 0) {u : Nat} {pg st sz : Nat → Nat} (hf : (mFind sc (nI s) (nI 0) (mPla I s) cz np lo (xv_u I 60 48 (nI 0))).1 = nI u) (hu : 0 < u ∧ u ≤ 6) (hwy : mWy (mFind sc (nI s) (nI 0) (mPla I s) cz np lo (xv_u I 60 48 (nI 0))).2 pg st sz) : xv_Met mX11_change 8 0 0 (sx n c) I (rx c) J [.ref 60, .int (nI s), .int (nI t)] (xv_eq (.inl (some (.int ((mFind sc (nI s) (nI 0) (mPla I s) cz np lo (xv_u I 60 48 (nI 0))).2 60 47)))) (sx n c) (mLay t u pg st sz (xv_u (mClrA (nI (200 + s)) (mFind sc (nI s) (nI 0) (mPla I s) cz np lo (xv_u I 60 48 (nI 0))).2) 76 s (nI 0))) (rx c) J) := by
  refine xv_Met.of (by decide +kernel) (Nat.le_of_ble_eq_true rfl) (List.forall_mem_cons.mpr ⟨rfl, List.forall_mem_cons.mpr ⟨rfl, List.forall_mem_cons.mpr ⟨rfl, fun _ h => nomatch h⟩⟩⟩) ?_
  show xv_W mX11_change 8 0 0 _ 0 0 (sx n c) I (rx c) J 0 [some (.ref 60), some (.int (nI s)), some (.int (nI t)), none, none, none] []
  refine xv_al0 fX11_change_0 ?_
  refine xv_il1 fX11_change_1 ?_
  refine xv_callV1R (m_isStory_t n c _ J hs hn hn2) fX11_change_2 YX11_isStory VX11_isStory lX11_206 rfl rfl (sx_60 _ _) (Nat.le_of_ble_eq_true rfl) (by decide) (by decide) (by decide) ?_
  refine xv_if_eq fX11_change_5 (fun h_5 => ?_) (fun h_5 => ?_)
  · exact absurd h_5 (by decide)
  · refine xv_al0 fX11_change_8 ?_
    refine xv_il2 fX11_change_9 ?_
    refine xv_callV1R (m_isStory_t n c _ J ht hn hn2) fX11_change_10 YX11_isStory VX11_isStory lX11_206 rfl rfl (sx_60 _ _) (Nat.le_of_ble_eq_true rfl) (by decide) (by decide) (by decide) ?_
    refine xv_if_eq fX11_change_13 (fun h_13 => ?_) (fun h_13 => ?_)
    · exact absurd h_13 (by decide)
    · refine xv_k fX11_change_16 ?_
      refine xv_goto fX11_change_17 ?_
      refine xv_is3 fX11_change_21 ?_
      refine xv_al0 fX11_change_22 ?_
      refine xv_il3 fX11_change_23 ?_
      refine xv_if_ne fX11_change_24 (fun h_24 => ?_) (fun h_24 => ?_)
      · refine xv_al0 fX11_change_31 ?_
        refine xv_getR fX11_change_32 gX11_56 rfl (sx_60 _ _) (rx_60_18 _) ?_
        refine xv_il1 fX11_change_35 ?_
        refine xv_ialdN fX11_change_36 (sx_76 _ _) (⟨by omega, by decide⟩) ?_
        refine xv_if_eq fX11_change_37 (fun h_37 => ?_) (fun h_37 => ?_)
        · exact absurd h_37 hl.1
        · refine xv_al0 fX11_change_40 ?_
          refine xv_getR fX11_change_41 gX11_56 rfl (sx_60 _ _) (rx_60_18 _) ?_
          refine xv_il2 fX11_change_44 ?_
          refine xv_ialdN fX11_change_45 (sx_76 _ _) (⟨by omega, by decide⟩) ?_
          refine xv_if_le fX11_change_46 (fun h_46 => ?_) (fun h_46 => ?_)
          · refine xv_k fX11_change_53 ?_
            refine xv_callV1R (m_fails0 n c _ J) fX11_change_54 YX11_fails VX11_fails lX11_137 rfl rfl (sx_60 _ _) (Nat.le_of_ble_eq_true rfl) (by decide) (by decide) (by decide) ?_
            refine xv_if_eq fX11_change_57 (fun h_57 => ?_) (fun h_57 => ?_)
            · refine xv_al0 fX11_change_62 ?_
              refine xv_il2 fX11_change_63 ?_
              refine xv_il1 fX11_change_64 ?_
              refine xv_k fX11_change_65 ?_
              refine xv_callV3R (m_finds n c _ J (by omega) (hS.to (fun v j hv => xv_u_ne _ _ _ (by omega))) (Or.inr ⟨s, by omega, rfl, (mPla_to (fun v j hv => xv_u_ne _ _ _ (by omega))).symm⟩)) fX11_change_66 YX11_finds VX11_finds lX11_209 rfl rfl (sx_60 _ _) (Nat.le_of_ble_eq_true rfl) (by decide) (by decide) (by decide) ?_
              rw [hf]
              refine xv_is4 fX11_change_69 ?_
              refine xv_il4 fX11_change_71 ?_
              refine xv_if_ne fX11_change_73 (fun h_73 => ?_) (fun h_73 => ?_)
              · refine xv_al0 fX11_change_78 ?_
                refine xv_getI fX11_change_79 gX11_185 rfl (sx_60 _ _) ?_
                refine xv_is5 fX11_change_82 ?_
                refine xv_al0 fX11_change_84 ?_
                refine xv_il1 fX11_change_85 ?_
                refine xv_callV1V (m_lifts n c _ J (by omega)) fX11_change_86 YX11_lifts VX11_lifts lX11_220 rfl rfl (sx_60 _ _) (Nat.le_of_ble_eq_true rfl) (by decide) (by decide) (by decide) ?_
                refine xv_al0 fX11_change_89 ?_
                refine xv_il2 fX11_change_90 ?_
                refine xv_il4 fX11_change_91 ?_
                refine xv_callV2V (m_lays n c _ J (by omega) (mWy_to hwy (fun v j hv => (xv_u_ne _ _ _ (by omega)).trans (mClrA_o _ _ (by omega) (by omega) (by omega))))) fX11_change_93 YX11_lays VX11_lays lX11_213 rfl rfl (sx_60 _ _) (Nat.le_of_ble_eq_true rfl) (by decide) (by decide) (by decide) ?_
                refine xv_il5 fX11_change_96 ?_
                exact xv_iret fX11_change_98 rfl rfl xv_eq_i
              · exact absurd h_73 (nI_n0 hu.1 (by omega))
            · exact absurd h_57 (by decide)
          · exact absurd hl.2 h_46
      · exact absurd h_24 (by decide)

theorem m_part_a (n : Nat) (c : Nat × Nat) (I : xv_I) (J : xv_J) {x : Int32} (hx : ∀ k, x = nI k → k < 20 → c.2 ≤ k) (hn : I 60 13 = nI c.2) (hn2 : c.2 ≤ 20) {y : Int32} : xv_Met mX11_part 8 0 0 (sx n c) I (rx c) J [.ref 60, .int x, .int y] (xv_eq (.inl (some (.int (nI 0)))) (sx n c) (xv_u I 60 48 (nI 1)) (rx c) J) := by
  refine xv_Met.of (by decide +kernel) (Nat.le_of_ble_eq_true rfl) (List.forall_mem_cons.mpr ⟨rfl, List.forall_mem_cons.mpr ⟨rfl, List.forall_mem_cons.mpr ⟨rfl, fun _ h => nomatch h⟩⟩⟩) ?_
  show xv_W mX11_part 8 0 0 _ 0 0 (sx n c) I (rx c) J 0 [some (.ref 60), some (.int x), some (.int y), none, none] []
  refine xv_al0 fX11_part_0 ?_
  refine xv_il1 fX11_part_1 ?_
  refine xv_callV1R (m_isStory_f n c _ J hx hn hn2) fX11_part_2 YX11_isStory VX11_isStory lX11_206 rfl rfl (sx_60 _ _) (Nat.le_of_ble_eq_true rfl) (by decide) (by decide) (by decide) ?_
  refine xv_is3 fX11_part_5 ?_
  refine xv_al0 fX11_part_6 ?_
  refine xv_il3 fX11_part_7 ?_
  refine xv_if_ne fX11_part_8 (fun h_8 => ?_) (fun h_8 => ?_)
  · exact absurd h_8 (by decide)
  · refine xv_k fX11_part_11 ?_
    refine xv_goto fX11_part_12 ?_
    refine xv_callV1R (m_fails1 n c _ J) fX11_part_29 YX11_fails VX11_fails lX11_137 rfl rfl (sx_60 _ _) (Nat.le_of_ble_eq_true rfl) (by decide) (by decide) (by decide) ?_
    refine xv_if_eq fX11_part_32 (fun h_32 => ?_) (fun h_32 => ?_)
    · exact absurd h_32 (by decide)
    · refine xv_k fX11_part_35 ?_
      exact xv_iret fX11_part_36 rfl rfl xv_eq_i

theorem m_part_b (n : Nat) (c : Nat × Nat) (I : xv_I) (J : xv_J) {s : Nat} (hs : s < c.2) (hn : I 60 13 = nI c.2) (hn2 : c.2 ≤ 20) {y : Int32} (hy : y < nI 0 ∨ ¬ y ≤ nI 1) : xv_Met mX11_part 8 0 0 (sx n c) I (rx c) J [.ref 60, .int (nI s), .int y] (xv_eq (.inl (some (.int (nI 0)))) (sx n c) (xv_u I 60 48 (nI 2)) (rx c) J) := by
  refine xv_Met.of (by decide +kernel) (Nat.le_of_ble_eq_true rfl) (List.forall_mem_cons.mpr ⟨rfl, List.forall_mem_cons.mpr ⟨rfl, List.forall_mem_cons.mpr ⟨rfl, fun _ h => nomatch h⟩⟩⟩) ?_
  show xv_W mX11_part 8 0 0 _ 0 0 (sx n c) I (rx c) J 0 [some (.ref 60), some (.int (nI s)), some (.int y), none, none] []
  refine xv_al0 fX11_part_0 ?_
  refine xv_il1 fX11_part_1 ?_
  refine xv_callV1R (m_isStory_t n c _ J hs hn hn2) fX11_part_2 YX11_isStory VX11_isStory lX11_206 rfl rfl (sx_60 _ _) (Nat.le_of_ble_eq_true rfl) (by decide) (by decide) (by decide) ?_
  refine xv_is3 fX11_part_5 ?_
  refine xv_al0 fX11_part_6 ?_
  refine xv_il3 fX11_part_7 ?_
  refine xv_if_ne fX11_part_8 (fun h_8 => ?_) (fun h_8 => ?_)
  · refine xv_il2 fX11_part_15 ?_
    refine xv_k fX11_part_16 ?_
    refine xv_k fX11_part_17 ?_
    refine xv_callS3R (m_isIn_f n c _ J (hy)) fX11_part_18 YX11_isIn VX11_isIn lX11_126 rfl (Nat.le_of_ble_eq_true rfl) (by decide) (by decide) (by decide) ?_
    refine xv_if_eq fX11_part_21 (fun h_21 => ?_) (fun h_21 => ?_)
    · refine xv_k fX11_part_28 ?_
      refine xv_callV1R (m_fails2 n c _ J) fX11_part_29 YX11_fails VX11_fails lX11_137 rfl rfl (sx_60 _ _) (Nat.le_of_ble_eq_true rfl) (by decide) (by decide) (by decide) ?_
      refine xv_if_eq fX11_part_32 (fun h_32 => ?_) (fun h_32 => ?_)
      · exact absurd h_32 (by decide)
      · refine xv_k fX11_part_35 ?_
        exact xv_iret fX11_part_36 rfl rfl xv_eq_i
    · exact absurd h_21 (by decide)
  · exact absurd h_8 (by decide)

theorem m_part_no (n : Nat) (c : Nat × Nat) (I : xv_I) (J : xv_J) {s : Nat} (hs : s < c.2) (hn : I 60 13 = nI c.2) (hn2 : c.2 ≤ 20) {k : Nat} (hk : k < 2) (hz : I 76 s = 0 ∨ I 79 (2 * s + k) = 0) : xv_Met mX11_part 8 0 0 (sx n c) I (rx c) J [.ref 60, .int (nI s), .int (nI k)] (xv_eq (.inl (some (.int (-1)))) (sx n c) (xv_u I 60 48 (nI 0)) (rx c) J) := by
  refine xv_Met.of (by decide +kernel) (Nat.le_of_ble_eq_true rfl) (List.forall_mem_cons.mpr ⟨rfl, List.forall_mem_cons.mpr ⟨rfl, List.forall_mem_cons.mpr ⟨rfl, fun _ h => nomatch h⟩⟩⟩) ?_
  show xv_W mX11_part 8 0 0 _ 0 0 (sx n c) I (rx c) J 0 [some (.ref 60), some (.int (nI s)), some (.int (nI k)), none, none] []
  refine xv_al0 fX11_part_0 ?_
  refine xv_il1 fX11_part_1 ?_
  refine xv_callV1R (m_isStory_t n c _ J hs hn hn2) fX11_part_2 YX11_isStory VX11_isStory lX11_206 rfl rfl (sx_60 _ _) (Nat.le_of_ble_eq_true rfl) (by decide) (by decide) (by decide) ?_
  refine xv_is3 fX11_part_5 ?_
  refine xv_al0 fX11_part_6 ?_
  refine xv_il3 fX11_part_7 ?_
  refine xv_if_ne fX11_part_8 (fun h_8 => ?_) (fun h_8 => ?_)
  · refine xv_il2 fX11_part_15 ?_
    refine xv_k fX11_part_16 ?_
    refine xv_k fX11_part_17 ?_
    refine xv_callS3R (m_isIn_t n c _ J ((okR_n (Nat.zero_le _) (by omega) (by decide) : okR 0 1 (nI k))).1 ((okR_n (Nat.zero_le _) (by omega) (by decide) : okR 0 1 (nI k))).2) fX11_part_18 YX11_isIn VX11_isIn lX11_126 rfl (Nat.le_of_ble_eq_true rfl) (by decide) (by decide) (by decide) ?_
    refine xv_if_eq fX11_part_21 (fun h_21 => ?_) (fun h_21 => ?_)
    · exact absurd h_21 (by decide)
    · refine xv_k fX11_part_24 ?_
      refine xv_goto fX11_part_25 ?_
      refine xv_callV1R (m_fails0 n c _ J) fX11_part_29 YX11_fails VX11_fails lX11_137 rfl rfl (sx_60 _ _) (Nat.le_of_ble_eq_true rfl) (by decide) (by decide) (by decide) ?_
      refine xv_if_eq fX11_part_32 (fun h_32 => ?_) (fun h_32 => ?_)
      · refine xv_k fX11_part_37 ?_
        refine xv_il1 fX11_part_38 ?_
        refine xv_imul fX11_part_39 ?_
        rw [nI_mul 2 s]
        refine xv_il2 fX11_part_40 ?_
        refine xv_iadd fX11_part_41 ?_
        rw [nI_add (2 * s) k]
        refine xv_is4 fX11_part_42 ?_
        refine xv_al0 fX11_part_44 ?_
        refine xv_getR fX11_part_45 gX11_56 rfl (sx_60 _ _) (rx_60_18 _) ?_
        refine xv_il1 fX11_part_48 ?_
        refine xv_ialdN fX11_part_49 (sx_76 _ _) (⟨by omega, by decide⟩) ?_
        rw [xv_u_ne _ _ _ (by decide)]
        refine xv_if_eq fX11_part_50 (fun h_50 => ?_) (fun h_50 => ?_)
        · refine xv_k fX11_part_63 ?_
          refine xv_goto fX11_part_64 ?_
          exact xv_iret fX11_part_100 rfl rfl xv_eq_i
        · refine xv_al0 fX11_part_53 ?_
          refine xv_getR fX11_part_54 gX11_65 rfl (sx_60 _ _) (rx_60_21 _) ?_
          refine xv_il4 fX11_part_57 ?_
          refine xv_ialdN fX11_part_59 (sx_79 _ _) (⟨by omega, by decide⟩) ?_
          rw [xv_u_ne _ _ _ (by decide)]
          refine xv_if_ne fX11_part_60 (fun h_60 => ?_) (fun h_60 => ?_)
          · exact absurd (hz.resolve_left h_50) h_60
          · refine xv_k fX11_part_63 ?_
            refine xv_goto fX11_part_64 ?_
            exact xv_iret fX11_part_100 rfl rfl xv_eq_i
      · exact absurd h_32 (by decide)
  · exact absurd h_8 (by decide)

theorem m_part_ok (n : Nat) (c : Nat × Nat) (I : xv_I) (J : xv_J) {s : Nat} (hs : s < c.2) (hn : I 60 13 = nI c.2) (hn2 : c.2 ≤ 20) {k st : Nat} (hk : k < 2) (hz : ¬ I 76 s = 0 ∧ ¬ I 79 (2 * s + k) = 0) (hst : I 78 (2 * s + k) = nI st) (hst2 : st < 12) : xv_Met mX11_part 8 0 0 (sx n c) I (rx c) J [.ref 60, .int (nI s), .int (nI k)] (xv_eq (.inl (some (.int (nI 10000 * I 77 (2 * s + k) + nI 100 * nI (cIn st) + I 79 (2 * s + k))))) (sx n c) (xv_u I 60 48 (nI 0)) (rx c) J) := by
  refine xv_Met.of (by decide +kernel) (Nat.le_of_ble_eq_true rfl) (List.forall_mem_cons.mpr ⟨rfl, List.forall_mem_cons.mpr ⟨rfl, List.forall_mem_cons.mpr ⟨rfl, fun _ h => nomatch h⟩⟩⟩) ?_
  show xv_W mX11_part 8 0 0 _ 0 0 (sx n c) I (rx c) J 0 [some (.ref 60), some (.int (nI s)), some (.int (nI k)), none, none] []
  refine xv_al0 fX11_part_0 ?_
  refine xv_il1 fX11_part_1 ?_
  refine xv_callV1R (m_isStory_t n c _ J hs hn hn2) fX11_part_2 YX11_isStory VX11_isStory lX11_206 rfl rfl (sx_60 _ _) (Nat.le_of_ble_eq_true rfl) (by decide) (by decide) (by decide) ?_
  refine xv_is3 fX11_part_5 ?_
  refine xv_al0 fX11_part_6 ?_
  refine xv_il3 fX11_part_7 ?_
  refine xv_if_ne fX11_part_8 (fun h_8 => ?_) (fun h_8 => ?_)
  · refine xv_il2 fX11_part_15 ?_
    refine xv_k fX11_part_16 ?_
    refine xv_k fX11_part_17 ?_
    refine xv_callS3R (m_isIn_t n c _ J ((okR_n (Nat.zero_le _) (by omega) (by decide) : okR 0 1 (nI k))).1 ((okR_n (Nat.zero_le _) (by omega) (by decide) : okR 0 1 (nI k))).2) fX11_part_18 YX11_isIn VX11_isIn lX11_126 rfl (Nat.le_of_ble_eq_true rfl) (by decide) (by decide) (by decide) ?_
    refine xv_if_eq fX11_part_21 (fun h_21 => ?_) (fun h_21 => ?_)
    · exact absurd h_21 (by decide)
    · refine xv_k fX11_part_24 ?_
      refine xv_goto fX11_part_25 ?_
      refine xv_callV1R (m_fails0 n c _ J) fX11_part_29 YX11_fails VX11_fails lX11_137 rfl rfl (sx_60 _ _) (Nat.le_of_ble_eq_true rfl) (by decide) (by decide) (by decide) ?_
      refine xv_if_eq fX11_part_32 (fun h_32 => ?_) (fun h_32 => ?_)
      · refine xv_k fX11_part_37 ?_
        refine xv_il1 fX11_part_38 ?_
        refine xv_imul fX11_part_39 ?_
        rw [nI_mul 2 s]
        refine xv_il2 fX11_part_40 ?_
        refine xv_iadd fX11_part_41 ?_
        rw [nI_add (2 * s) k]
        refine xv_is4 fX11_part_42 ?_
        refine xv_al0 fX11_part_44 ?_
        refine xv_getR fX11_part_45 gX11_56 rfl (sx_60 _ _) (rx_60_18 _) ?_
        refine xv_il1 fX11_part_48 ?_
        refine xv_ialdN fX11_part_49 (sx_76 _ _) (⟨by omega, by decide⟩) ?_
        rw [xv_u_ne _ _ _ (by decide)]
        refine xv_if_eq fX11_part_50 (fun h_50 => ?_) (fun h_50 => ?_)
        · exact absurd h_50 hz.1
        · refine xv_al0 fX11_part_53 ?_
          refine xv_getR fX11_part_54 gX11_65 rfl (sx_60 _ _) (rx_60_21 _) ?_
          refine xv_il4 fX11_part_57 ?_
          refine xv_ialdN fX11_part_59 (sx_79 _ _) (⟨by omega, by decide⟩) ?_
          rw [xv_u_ne _ _ _ (by decide)]
          refine xv_if_ne fX11_part_60 (fun h_60 => ?_) (fun h_60 => ?_)
          · refine xv_k fX11_part_67 ?_
            refine xv_al0 fX11_part_70 ?_
            refine xv_getR fX11_part_71 gX11_59 rfl (sx_60 _ _) (rx_60_19 _) ?_
            refine xv_il4 fX11_part_74 ?_
            refine xv_ialdN fX11_part_76 (sx_77 _ _) (⟨by omega, by decide⟩) ?_
            rw [xv_u_ne _ _ _ (by decide)]
            refine xv_imul fX11_part_77 ?_
            refine xv_k fX11_part_78 ?_
            refine xv_al0 fX11_part_80 ?_
            refine xv_getR fX11_part_81 gX11_62 rfl (sx_60 _ _) (rx_60_20 _) ?_
            refine xv_il4 fX11_part_84 ?_
            refine xv_ialdN fX11_part_86 (sx_78 _ _) (⟨by omega, by decide⟩) ?_
            rw [xv_u_ne _ _ _ (by decide), hst]
            refine xv_callS1R (m_cellAt n c _ J (by omega)) fX11_part_87 YX11_cellAt VX11_cellAt lX11_175 rfl (Nat.le_of_ble_eq_true rfl) (by decide) (by decide) (by decide) ?_
            refine xv_imul fX11_part_90 ?_
            refine xv_iadd fX11_part_91 ?_
            refine xv_al0 fX11_part_92 ?_
            refine xv_getR fX11_part_93 gX11_65 rfl (sx_60 _ _) (rx_60_21 _) ?_
            refine xv_il4 fX11_part_96 ?_
            refine xv_ialdN fX11_part_98 (sx_79 _ _) (⟨by omega, by decide⟩) ?_
            rw [xv_u_ne _ _ _ (by decide)]
            refine xv_iadd fX11_part_99 ?_
            exact xv_iret fX11_part_100 rfl rfl xv_eq_i
          · exact absurd h_60 hz.2
      · exact absurd h_32 (by decide)
  · exact absurd h_8 (by decide)

def mMany1 (I : xv_I) (v p k s : Nat) : Nat := if I v (6 * p + k) = 0 then s else s + 1
def mMany (I : xv_I) (v p : Nat) : Nat := it (mMany1 I v p) 6 0 0
theorem l_many (n : Nat) (c : Nat × Nat) (I : xv_I) (J : xv_J) {v p : Nat} (hv : sx n c v = some (.inr (.inl (.boolean, 60)))) (hp : p < 10) {Q : xv_Q} : ∀ (m k : Nat) (s : Nat), k + m = 6 → (xv_W mX11_many 1 0 0 Q 0 0 (sx n c) I (rx c) J 41 [some (.ref 60), some (.ref v), some (.int (nI p)), some (.int (nI (it (mMany1 I v p) m k s))), some (.int (nI (6 * p + 6)))] []) → xv_W mX11_many 1 0 0 Q 0 0 (sx n c) I (rx c) J 8 [some (.ref 60), some (.ref v), some (.int (nI p)), some (.int (nI s)), some (.int (nI (6 * p + k)))] [] := by
  intro m
  induction m with
  | zero =>
    intro k s hm i0
    obtain rfl : k = 6 := by omega
    refine xv_il4 fX11_many_8 ?_
    refine xv_k fX11_many_10 ?_
    refine xv_il2 fX11_many_12 ?_
    refine xv_imul fX11_many_13 ?_
    rw [nI_mul]
    refine xv_k fX11_many_14 ?_
    refine xv_iadd fX11_many_16 ?_
    rw [nI_add]
    refine xv_ic_ge fX11_many_17 (fun h_17 => ?_) (fun h_17 => ?_)
    · exact i0
    · exact absurd (nI_le (Nat.le_refl _) (by omega)) h_17
  | succ m ih =>
    intro k s hm i0
    have hk : k < 6 := by omega
    show xv_W mX11_many 1 0 0 _ 0 0 (sx n c) I (rx c) J 8 [some (.ref 60), some (.ref v), some (.int (nI p)), some (.int (nI s)), some (.int (nI (6 * p + k)))] []
    refine xv_il4 fX11_many_8 ?_
    refine xv_k fX11_many_10 ?_
    refine xv_il2 fX11_many_12 ?_
    refine xv_imul fX11_many_13 ?_
    rw [nI_mul]
    refine xv_k fX11_many_14 ?_
    refine xv_iadd fX11_many_16 ?_
    rw [nI_add]
    refine xv_ic_ge fX11_many_17 (fun h_17 => ?_) (fun h_17 => ?_)
    · exact absurd h_17 (nI_ge (by omega) (by omega))
    · refine xv_il3 fX11_many_20 ?_
      refine xv_al1 fX11_many_21 ?_
      refine xv_il4 fX11_many_22 ?_
      refine xv_zaldN fX11_many_24 hv (⟨by omega, by decide⟩) ?_
      refine xv_if_eq fX11_many_25 (fun h_25 => ?_) (fun h_25 => ?_)
      · refine xv_k fX11_many_32 ?_
        refine xv_iadd fX11_many_33 ?_
        rw [nI_add]
        refine xv_is3 fX11_many_34 ?_
        refine xv_iincN4 (a := 1) fX11_many_35 (by decide) ?_
        refine xv_goto fX11_many_38 ?_
        exact ih (k + 1) s (by omega) (by rw [show it (mMany1 I v p) (m + 1) k s = it (mMany1 I v p) m (k + 1) (mMany1 I v p k s) from rfl, mMany1, if_pos h_25] at i0; exact i0)
      · refine xv_k fX11_many_28 ?_
        refine xv_goto fX11_many_29 ?_
        refine xv_iadd fX11_many_33 ?_
        rw [nI_add]
        refine xv_is3 fX11_many_34 ?_
        refine xv_iincN4 (a := 1) fX11_many_35 (by decide) ?_
        refine xv_goto fX11_many_38 ?_
        exact ih (k + 1) (s + 1) (by omega) (by rw [show it (mMany1 I v p) (m + 1) k s = it (mMany1 I v p) m (k + 1) (mMany1 I v p k s) from rfl, mMany1, if_neg h_25] at i0; exact i0)

theorem m_many (n : Nat) (c : Nat × Nat) (I : xv_I) (J : xv_J) {v p : Nat} (hv : sx n c v = some (.inr (.inl (.boolean, 60)))) (hp : p < 10) : xv_Met mX11_many 1 0 0 (sx n c) I (rx c) J [.ref 60, .ref v, .int (nI p)] (xv_eq (.inl (some (.int (nI (mMany I v p))))) (sx n c) (I) (rx c) J) := by
  refine xv_Met.of (by decide +kernel) (Nat.le_of_ble_eq_true rfl) (List.forall_mem_cons.mpr ⟨rfl, List.forall_mem_cons.mpr ⟨rfl, List.forall_mem_cons.mpr ⟨rfl, fun _ h => nomatch h⟩⟩⟩) ?_
  show xv_W mX11_many 1 0 0 _ 0 0 (sx n c) I (rx c) J 0 [some (.ref 60), some (.ref v), some (.int (nI p)), none, none] []
  refine xv_k fX11_many_0 ?_
  refine xv_is3 fX11_many_1 ?_
  refine xv_k fX11_many_2 ?_
  refine xv_il2 fX11_many_4 ?_
  refine xv_imul fX11_many_5 ?_
  rw [nI_mul]
  refine xv_is4 fX11_many_6 ?_
  exact l_many n c I J hv hp 6 0 0 rfl (by exact xv_il3 fX11_many_41 (xv_iret fX11_many_42 rfl rfl (xv_eq_I rfl rfl)))

def mLv1 (q k : Nat) (I : xv_I) : xv_I := xv_u (xv_u I 81 (6 * k + q) (nI 0)) 82 (6 * k + q) (nI 0)
def mLv (q : Nat) (I : xv_I) : xv_I := it (mLv1 q) 10 0 (xv_u I 80 q (nI 1))
theorem m_person_a (n : Nat) (c : Nat × Nat) (I : xv_I) (J : xv_J) {x : Int32} (hx : x < 0 ∨ ¬ x ≤ nI 5) : xv_Met mX11_person 8 0 0 (sx n c) I (rx c) J [.ref 60, .int x] (xv_eq (.inl (some (.int (nI 0)))) (sx n c) (xv_u I 60 48 (nI 1)) (rx c) J) := by
  refine xv_Met.of (by decide +kernel) (Nat.le_of_ble_eq_true rfl) (List.forall_mem_cons.mpr ⟨rfl, List.forall_mem_cons.mpr ⟨rfl, fun _ h => nomatch h⟩⟩) ?_
  show xv_W mX11_person 8 0 0 _ 0 0 (sx n c) I (rx c) J 0 [some (.ref 60), some (.int x), none] []
  refine xv_al0 fX11_person_0 ?_
  refine xv_il1 fX11_person_1 ?_
  refine xv_callS1R (m_isPer_f n c _ J hx) fX11_person_2 YX11_isPerson VX11_isPerson lX11_224 rfl (Nat.le_of_ble_eq_true rfl) (by decide) (by decide) (by decide) ?_
  refine xv_if_eq fX11_person_5 (fun h_5 => ?_) (fun h_5 => ?_)
  · refine xv_k fX11_person_12 ?_
    refine xv_callV1R (m_fails1 n c _ J) fX11_person_13 YX11_fails VX11_fails lX11_137 rfl rfl (sx_60 _ _) (Nat.le_of_ble_eq_true rfl) (by decide) (by decide) (by decide) ?_
    refine xv_if_eq fX11_person_16 (fun h_16 => ?_) (fun h_16 => ?_)
    · exact absurd h_16 (by decide)
    · refine xv_k fX11_person_19 ?_
      exact xv_iret fX11_person_20 rfl rfl xv_eq_i
  · exact absurd h_5 (by decide)

theorem l_person (n : Nat) (c : Nat × Nat) (J : xv_J) {q : Nat} (hq : q < 6) {Q : xv_Q} : ∀ (m k : Nat) (I : xv_I), k + m = 10 → (I 80 q = nI 1) → xv_W mX11_person 8 0 0 Q 0 0 (sx n c) (it (mLv1 q) m k I) (rx c) J 88 [some (.ref 60), some (.int (nI q)), some (.int (nI 10))] [] → xv_W mX11_person 8 0 0 Q 0 0 (sx n c) I (rx c) J 43 [some (.ref 60), some (.int (nI q)), some (.int (nI k))] [] := by
  intro m
  induction m with
  | zero =>
    intro k I hm i0 hx
    obtain rfl : k = 10 := by omega
    refine xv_il2 fX11_person_43 ?_
    refine xv_k fX11_person_44 ?_
    refine xv_ic_ge fX11_person_46 (fun h_46 => ?_) (fun h_46 => ?_)
    · exact hx
    · exact absurd (nI_le (Nat.le_refl _) (by decide)) h_46
  | succ m ih =>
    intro k I hm i0 hx
    have hk : k < 10 := by omega
    show xv_W mX11_person 8 0 0 _ 0 0 (sx n c) I (rx c) J 43 [some (.ref 60), some (.int (nI q)), some (.int (nI k))] []
    refine xv_il2 fX11_person_43 ?_
    refine xv_k fX11_person_44 ?_
    refine xv_ic_ge fX11_person_46 (fun h_46 => ?_) (fun h_46 => ?_)
    · exact absurd h_46 (nI_ge hk (by decide))
    · refine xv_al0 fX11_person_49 ?_
      refine xv_getR fX11_person_50 gX11_68 rfl (sx_60 _ _) (rx_60_22 _) ?_
      refine xv_il1 fX11_person_53 ?_
      refine xv_zaldN fX11_person_54 (sx_80 _ _) (⟨by omega, by decide⟩) ?_
      rw [i0]
      refine xv_if_eq fX11_person_55 (fun h_55 => ?_) (fun h_55 => ?_)
      · exact absurd h_55 (by decide)
      · refine xv_al0 fX11_person_58 ?_
        refine xv_getR fX11_person_59 gX11_71 rfl (sx_60 _ _) (rx_60_23 _) ?_
        refine xv_k fX11_person_62 ?_
        refine xv_il2 fX11_person_64 ?_
        refine xv_imul fX11_person_65 ?_
        rw [nI_mul]
        refine xv_il1 fX11_person_66 ?_
        refine xv_iadd fX11_person_67 ?_
        rw [nI_add]
        refine xv_k fX11_person_68 ?_
        refine xv_zastN fX11_person_69 (sx_81 _ _) (⟨by omega, by decide⟩) ((by decide : narrow .boolean (.int (nI 0)) = .int (nI 0))) ?_
        refine xv_al0 fX11_person_70 ?_
        refine xv_getR fX11_person_71 gX11_74 rfl (sx_60 _ _) (rx_60_24 _) ?_
        refine xv_k fX11_person_74 ?_
        refine xv_il2 fX11_person_76 ?_
        refine xv_imul fX11_person_77 ?_
        rw [nI_mul]
        refine xv_il1 fX11_person_78 ?_
        refine xv_iadd fX11_person_79 ?_
        rw [nI_add]
        refine xv_k fX11_person_80 ?_
        refine xv_zastN fX11_person_81 (sx_82 _ _) (⟨by omega, by decide⟩) ((by decide : narrow .boolean (.int (nI 0)) = .int (nI 0))) ?_
        refine xv_iincN2 (a := 1) fX11_person_82 (by decide) ?_
        refine xv_goto fX11_person_85 ?_
        exact ih (k + 1) (mLv1 q k I) (by omega) (((xv_u_ne _ _ _ (by decide)).trans (xv_u_ne _ _ _ (by decide))).trans i0) hx

theorem mLv_80 (q : Nat) (I : xv_I) : mLv q I 80 q = nI 1 := it_inv (fun s : xv_I => s 80 q = nI 1) (fun k s hs => ((xv_u_ne _ _ _ (by decide)).trans (xv_u_ne _ _ _ (by decide))).trans hs) _ _ _ (xv_u_eq _ _ _ _)
theorem m_person_out (n : Nat) (c : Nat × Nat) (I : xv_I) (J : xv_J) {q : Nat} (hq : q < 6) (ht : I 80 q = 0) : xv_Met mX11_person 8 0 0 (sx n c) I (rx c) J [.ref 60, .int (nI q)] (xv_eq (.inl (some (.int (nI 0)))) (sx n c) (mLv q (xv_u I 60 48 (nI 0))) (rx c) J) := by
  refine xv_Met.of (by decide +kernel) (Nat.le_of_ble_eq_true rfl) (List.forall_mem_cons.mpr ⟨rfl, List.forall_mem_cons.mpr ⟨rfl, fun _ h => nomatch h⟩⟩) ?_
  show xv_W mX11_person 8 0 0 _ 0 0 (sx n c) I (rx c) J 0 [some (.ref 60), some (.int (nI q)), none] []
  refine xv_al0 fX11_person_0 ?_
  refine xv_il1 fX11_person_1 ?_
  refine xv_callS1R (m_isPer_t n c _ J hq) fX11_person_2 YX11_isPerson VX11_isPerson lX11_224 rfl (Nat.le_of_ble_eq_true rfl) (by decide) (by decide) (by decide) ?_
  refine xv_if_eq fX11_person_5 (fun h_5 => ?_) (fun h_5 => ?_)
  · exact absurd h_5 (by decide)
  · refine xv_k fX11_person_8 ?_
    refine xv_goto fX11_person_9 ?_
    refine xv_callV1R (m_fails0 n c _ J) fX11_person_13 YX11_fails VX11_fails lX11_137 rfl rfl (sx_60 _ _) (Nat.le_of_ble_eq_true rfl) (by decide) (by decide) (by decide) ?_
    refine xv_if_eq fX11_person_16 (fun h_16 => ?_) (fun h_16 => ?_)
    · refine xv_al0 fX11_person_21 ?_
      refine xv_getR fX11_person_22 gX11_68 rfl (sx_60 _ _) (rx_60_22 _) ?_
      refine xv_il1 fX11_person_25 ?_
      refine xv_al0 fX11_person_26 ?_
      refine xv_getR fX11_person_27 gX11_68 rfl (sx_60 _ _) (rx_60_22 _) ?_
      refine xv_il1 fX11_person_30 ?_
      refine xv_zaldN fX11_person_31 (sx_80 _ _) (⟨by omega, by decide⟩) ?_
      rw [xv_u_ne _ _ _ (by decide), ht]
      refine xv_if_ne fX11_person_32 (fun h_32 => ?_) (fun h_32 => ?_)
      · exact absurd rfl h_32
      · refine xv_k fX11_person_35 ?_
        refine xv_goto fX11_person_36 ?_
        refine xv_zastN fX11_person_40 (sx_80 _ _) (⟨by omega, by decide⟩) ((by decide : narrow .boolean (.int (nI 1)) = .int (nI 1))) ?_
        refine xv_k fX11_person_41 ?_
        refine xv_is2 fX11_person_42 ?_
        refine l_person n c J hq 10 0 _ rfl (xv_u_eq _ _ _ _) ?_
        refine xv_al0 fX11_person_88 ?_
        refine xv_getR fX11_person_89 gX11_68 rfl (sx_60 _ _) (rx_60_22 _) ?_
        refine xv_il1 fX11_person_92 ?_
        refine xv_zaldN fX11_person_93 (sx_80 _ _) (⟨by omega, by decide⟩) ?_
        rw [show it (mLv1 q) 10 0 (xv_u (xv_u I 60 48 (nI 0)) 80 q (nI 1)) 80 q = nI 1 from mLv_80 q _]
        refine xv_if_ne fX11_person_94 (fun h_94 => ?_) (fun h_94 => ?_)
        · refine xv_k fX11_person_101 ?_
          exact xv_iret fX11_person_102 rfl rfl (xv_eq_I rfl rfl)
        · exact absurd h_94 (by decide)
    · exact absurd h_16 (by decide)

theorem m_person_in (n : Nat) (c : Nat × Nat) (I : xv_I) (J : xv_J) {q : Nat} (hq : q < 6) (ht : ¬ I 80 q = 0) : xv_Met mX11_person 8 0 0 (sx n c) I (rx c) J [.ref 60, .int (nI q)] (xv_eq (.inl (some (.int (nI 1)))) (sx n c) (xv_u (xv_u I 60 48 (nI 0)) 80 q (nI 0)) (rx c) J) := by
  refine xv_Met.of (by decide +kernel) (Nat.le_of_ble_eq_true rfl) (List.forall_mem_cons.mpr ⟨rfl, List.forall_mem_cons.mpr ⟨rfl, fun _ h => nomatch h⟩⟩) ?_
  show xv_W mX11_person 8 0 0 _ 0 0 (sx n c) I (rx c) J 0 [some (.ref 60), some (.int (nI q)), none] []
  refine xv_al0 fX11_person_0 ?_
  refine xv_il1 fX11_person_1 ?_
  refine xv_callS1R (m_isPer_t n c _ J hq) fX11_person_2 YX11_isPerson VX11_isPerson lX11_224 rfl (Nat.le_of_ble_eq_true rfl) (by decide) (by decide) (by decide) ?_
  refine xv_if_eq fX11_person_5 (fun h_5 => ?_) (fun h_5 => ?_)
  · exact absurd h_5 (by decide)
  · refine xv_k fX11_person_8 ?_
    refine xv_goto fX11_person_9 ?_
    refine xv_callV1R (m_fails0 n c _ J) fX11_person_13 YX11_fails VX11_fails lX11_137 rfl rfl (sx_60 _ _) (Nat.le_of_ble_eq_true rfl) (by decide) (by decide) (by decide) ?_
    refine xv_if_eq fX11_person_16 (fun h_16 => ?_) (fun h_16 => ?_)
    · refine xv_al0 fX11_person_21 ?_
      refine xv_getR fX11_person_22 gX11_68 rfl (sx_60 _ _) (rx_60_22 _) ?_
      refine xv_il1 fX11_person_25 ?_
      refine xv_al0 fX11_person_26 ?_
      refine xv_getR fX11_person_27 gX11_68 rfl (sx_60 _ _) (rx_60_22 _) ?_
      refine xv_il1 fX11_person_30 ?_
      refine xv_zaldN fX11_person_31 (sx_80 _ _) (⟨by omega, by decide⟩) ?_
      rw [xv_u_ne _ _ _ (by decide)]
      refine xv_if_ne fX11_person_32 (fun h_32 => ?_) (fun h_32 => ?_)
      · refine xv_k fX11_person_39 ?_
        refine xv_zastN fX11_person_40 (sx_80 _ _) (⟨by omega, by decide⟩) ((by decide : narrow .boolean (.int (nI 0)) = .int (nI 0))) ?_
        refine xv_k fX11_person_41 ?_
        refine xv_is2 fX11_person_42 ?_
        refine xv_il2 fX11_person_43 ?_
        refine xv_k fX11_person_44 ?_
        refine xv_ic_ge fX11_person_46 (fun h_46 => ?_) (fun h_46 => ?_)
        · exact absurd h_46 (by decide)
        · refine xv_al0 fX11_person_49 ?_
          refine xv_getR fX11_person_50 gX11_68 rfl (sx_60 _ _) (rx_60_22 _) ?_
          refine xv_il1 fX11_person_53 ?_
          refine xv_zaldN fX11_person_54 (sx_80 _ _) (⟨by omega, by decide⟩) ?_
          rw [xv_u_eq]
          refine xv_if_eq fX11_person_55 (fun h_55 => ?_) (fun h_55 => ?_)
          · refine xv_al0 fX11_person_88 ?_
            refine xv_getR fX11_person_89 gX11_68 rfl (sx_60 _ _) (rx_60_22 _) ?_
            refine xv_il1 fX11_person_92 ?_
            refine xv_zaldN fX11_person_93 (sx_80 _ _) (⟨by omega, by decide⟩) ?_
            rw [xv_u_eq]
            refine xv_if_ne fX11_person_94 (fun h_94 => ?_) (fun h_94 => ?_)
            · exact absurd rfl h_94
            · refine xv_k fX11_person_97 ?_
              refine xv_goto fX11_person_98 ?_
              exact xv_iret fX11_person_102 rfl rfl xv_eq_i
          · exact absurd rfl h_55
      · exact absurd h_32 ht
    · exact absurd h_16 (by decide)

theorem m_sign_a (n : Nat) (c : Nat × Nat) (I : xv_I) (J : xv_J) {x : Int32} (hx : x < 0 ∨ ¬ x ≤ nI 9) {y : Int32} : xv_Met mX11_sign 8 0 0 (sx n c) I (rx c) J [.ref 60, .int x, .int y] (xv_eq (.inl (some (.int (nI 0)))) (sx n c) (xv_u I 60 48 (nI 1)) (rx c) J) := by
  refine xv_Met.of (by decide +kernel) (Nat.le_of_ble_eq_true rfl) (List.forall_mem_cons.mpr ⟨rfl, List.forall_mem_cons.mpr ⟨rfl, List.forall_mem_cons.mpr ⟨rfl, fun _ h => nomatch h⟩⟩⟩) ?_
  show xv_W mX11_sign 8 0 0 _ 0 0 (sx n c) I (rx c) J 0 [some (.ref 60), some (.int x), some (.int y), none] []
  refine xv_il1 fX11_sign_0 ?_
  refine xv_callS1R (m_isPage_f n c _ J hx) fX11_sign_1 YX11_isPage VX11_isPage lX11_130 rfl (Nat.le_of_ble_eq_true rfl) (by decide) (by decide) (by decide) ?_
  refine xv_if_eq fX11_sign_4 (fun h_4 => ?_) (fun h_4 => ?_)
  · refine xv_k fX11_sign_18 ?_
    refine xv_is3 fX11_sign_19 ?_
    refine xv_al0 fX11_sign_20 ?_
    refine xv_il3 fX11_sign_21 ?_
    refine xv_if_ne fX11_sign_22 (fun h_22 => ?_) (fun h_22 => ?_)
    · exact absurd h_22 (by decide)
    · refine xv_k fX11_sign_25 ?_
      refine xv_goto fX11_sign_26 ?_
      refine xv_callV1R (m_fails1 n c _ J) fX11_sign_57 YX11_fails VX11_fails lX11_137 rfl rfl (sx_60 _ _) (Nat.le_of_ble_eq_true rfl) (by decide) (by decide) (by decide) ?_
      refine xv_if_eq fX11_sign_60 (fun h_60 => ?_) (fun h_60 => ?_)
      · exact absurd h_60 (by decide)
      · refine xv_k fX11_sign_63 ?_
        exact xv_iret fX11_sign_64 rfl rfl xv_eq_i
  · exact absurd h_4 (by decide)

theorem m_sign_b (n : Nat) (c : Nat × Nat) (I : xv_I) (J : xv_J) {p : Nat} (hp : p < 10) {x : Int32} (hx : x < 0 ∨ ¬ x ≤ nI 5) : xv_Met mX11_sign 8 0 0 (sx n c) I (rx c) J [.ref 60, .int (nI p), .int x] (xv_eq (.inl (some (.int (nI 0)))) (sx n c) (xv_u I 60 48 (nI 1)) (rx c) J) := by
  refine xv_Met.of (by decide +kernel) (Nat.le_of_ble_eq_true rfl) (List.forall_mem_cons.mpr ⟨rfl, List.forall_mem_cons.mpr ⟨rfl, List.forall_mem_cons.mpr ⟨rfl, fun _ h => nomatch h⟩⟩⟩) ?_
  show xv_W mX11_sign 8 0 0 _ 0 0 (sx n c) I (rx c) J 0 [some (.ref 60), some (.int (nI p)), some (.int x), none] []
  refine xv_il1 fX11_sign_0 ?_
  refine xv_callS1R (m_isPage_t n c _ J hp) fX11_sign_1 YX11_isPage VX11_isPage lX11_130 rfl (Nat.le_of_ble_eq_true rfl) (by decide) (by decide) (by decide) ?_
  refine xv_if_eq fX11_sign_4 (fun h_4 => ?_) (fun h_4 => ?_)
  · exact absurd h_4 (by decide)
  · refine xv_il2 fX11_sign_7 ?_
    refine xv_callS1R (m_isPer_f n c _ J hx) fX11_sign_8 YX11_isPerson VX11_isPerson lX11_224 rfl (Nat.le_of_ble_eq_true rfl) (by decide) (by decide) (by decide) ?_
    refine xv_if_eq fX11_sign_11 (fun h_11 => ?_) (fun h_11 => ?_)
    · refine xv_k fX11_sign_18 ?_
      refine xv_is3 fX11_sign_19 ?_
      refine xv_al0 fX11_sign_20 ?_
      refine xv_il3 fX11_sign_21 ?_
      refine xv_if_ne fX11_sign_22 (fun h_22 => ?_) (fun h_22 => ?_)
      · exact absurd h_22 (by decide)
      · refine xv_k fX11_sign_25 ?_
        refine xv_goto fX11_sign_26 ?_
        refine xv_callV1R (m_fails1 n c _ J) fX11_sign_57 YX11_fails VX11_fails lX11_137 rfl rfl (sx_60 _ _) (Nat.le_of_ble_eq_true rfl) (by decide) (by decide) (by decide) ?_
        refine xv_if_eq fX11_sign_60 (fun h_60 => ?_) (fun h_60 => ?_)
        · exact absurd h_60 (by decide)
        · refine xv_k fX11_sign_63 ?_
          exact xv_iret fX11_sign_64 rfl rfl xv_eq_i
    · exact absurd h_11 (by decide)

theorem m_sign_c (n : Nat) (c : Nat × Nat) (I : xv_I) (J : xv_J) {p : Nat} (hp : p < 10) {q : Nat} (hq : q < 6) (hx : ¬ I 80 q = 0 ∨ ¬ I 81 (6 * p + q) = 0) : xv_Met mX11_sign 8 0 0 (sx n c) I (rx c) J [.ref 60, .int (nI p), .int (nI q)] (xv_eq (.inl (some (.int (nI 0)))) (sx n c) (xv_u I 60 48 (nI 2)) (rx c) J) := by
  refine xv_Met.of (by decide +kernel) (Nat.le_of_ble_eq_true rfl) (List.forall_mem_cons.mpr ⟨rfl, List.forall_mem_cons.mpr ⟨rfl, List.forall_mem_cons.mpr ⟨rfl, fun _ h => nomatch h⟩⟩⟩) ?_
  show xv_W mX11_sign 8 0 0 _ 0 0 (sx n c) I (rx c) J 0 [some (.ref 60), some (.int (nI p)), some (.int (nI q)), none] []
  refine xv_il1 fX11_sign_0 ?_
  refine xv_callS1R (m_isPage_t n c _ J hp) fX11_sign_1 YX11_isPage VX11_isPage lX11_130 rfl (Nat.le_of_ble_eq_true rfl) (by decide) (by decide) (by decide) ?_
  refine xv_if_eq fX11_sign_4 (fun h_4 => ?_) (fun h_4 => ?_)
  · exact absurd h_4 (by decide)
  · refine xv_il2 fX11_sign_7 ?_
    refine xv_callS1R (m_isPer_t n c _ J hq) fX11_sign_8 YX11_isPerson VX11_isPerson lX11_224 rfl (Nat.le_of_ble_eq_true rfl) (by decide) (by decide) (by decide) ?_
    refine xv_if_eq fX11_sign_11 (fun h_11 => ?_) (fun h_11 => ?_)
    · exact absurd h_11 (by decide)
    · refine xv_k fX11_sign_14 ?_
      refine xv_goto fX11_sign_15 ?_
      refine xv_is3 fX11_sign_19 ?_
      refine xv_al0 fX11_sign_20 ?_
      refine xv_il3 fX11_sign_21 ?_
      refine xv_if_ne fX11_sign_22 (fun h_22 => ?_) (fun h_22 => ?_)
      · refine xv_al0 fX11_sign_29 ?_
        refine xv_getR fX11_sign_30 gX11_68 rfl (sx_60 _ _) (rx_60_22 _) ?_
        refine xv_il2 fX11_sign_33 ?_
        refine xv_zaldN fX11_sign_34 (sx_80 _ _) (⟨by omega, by decide⟩) ?_
        refine xv_if_ne fX11_sign_35 (fun h_35 => ?_) (fun h_35 => ?_)
        · refine xv_k fX11_sign_52 ?_
          refine xv_goto fX11_sign_53 ?_
          refine xv_callV1R (m_fails2 n c _ J) fX11_sign_57 YX11_fails VX11_fails lX11_137 rfl rfl (sx_60 _ _) (Nat.le_of_ble_eq_true rfl) (by decide) (by decide) (by decide) ?_
          refine xv_if_eq fX11_sign_60 (fun h_60 => ?_) (fun h_60 => ?_)
          · exact absurd h_60 (by decide)
          · refine xv_k fX11_sign_63 ?_
            exact xv_iret fX11_sign_64 rfl rfl xv_eq_i
        · refine xv_al0 fX11_sign_38 ?_
          refine xv_getR fX11_sign_39 gX11_71 rfl (sx_60 _ _) (rx_60_23 _) ?_
          refine xv_k fX11_sign_42 ?_
          refine xv_il1 fX11_sign_44 ?_
          refine xv_imul fX11_sign_45 ?_
          rw [nI_mul]
          refine xv_il2 fX11_sign_46 ?_
          refine xv_iadd fX11_sign_47 ?_
          rw [nI_add]
          refine xv_zaldN fX11_sign_48 (sx_81 _ _) (⟨by omega, by decide⟩) ?_
          refine xv_if_eq fX11_sign_49 (fun h_49 => ?_) (fun h_49 => ?_)
          · exact absurd h_49 (hx.resolve_left (fun h => h h_35))
          · refine xv_k fX11_sign_52 ?_
            refine xv_goto fX11_sign_53 ?_
            refine xv_callV1R (m_fails2 n c _ J) fX11_sign_57 YX11_fails VX11_fails lX11_137 rfl rfl (sx_60 _ _) (Nat.le_of_ble_eq_true rfl) (by decide) (by decide) (by decide) ?_
            refine xv_if_eq fX11_sign_60 (fun h_60 => ?_) (fun h_60 => ?_)
            · exact absurd h_60 (by decide)
            · refine xv_k fX11_sign_63 ?_
              exact xv_iret fX11_sign_64 rfl rfl xv_eq_i
      · exact absurd h_22 (by decide)

theorem m_sign_ok (n : Nat) (c : Nat × Nat) (I : xv_I) (J : xv_J) {p : Nat} (hp : p < 10) {q : Nat} (hq : q < 6) (hx : I 80 q = 0 ∧ I 81 (6 * p + q) = 0) : xv_Met mX11_sign 8 0 0 (sx n c) I (rx c) J [.ref 60, .int (nI p), .int (nI q)] (xv_eq (.inl (some (.int (nI (mMany (xv_u (xv_u I 60 48 (nI 0)) 81 (6 * p + q) (nI 1)) 81 p))))) (sx n c) (xv_u (xv_u I 60 48 (nI 0)) 81 (6 * p + q) (nI 1)) (rx c) J) := by
  refine xv_Met.of (by decide +kernel) (Nat.le_of_ble_eq_true rfl) (List.forall_mem_cons.mpr ⟨rfl, List.forall_mem_cons.mpr ⟨rfl, List.forall_mem_cons.mpr ⟨rfl, fun _ h => nomatch h⟩⟩⟩) ?_
  show xv_W mX11_sign 8 0 0 _ 0 0 (sx n c) I (rx c) J 0 [some (.ref 60), some (.int (nI p)), some (.int (nI q)), none] []
  refine xv_il1 fX11_sign_0 ?_
  refine xv_callS1R (m_isPage_t n c _ J hp) fX11_sign_1 YX11_isPage VX11_isPage lX11_130 rfl (Nat.le_of_ble_eq_true rfl) (by decide) (by decide) (by decide) ?_
  refine xv_if_eq fX11_sign_4 (fun h_4 => ?_) (fun h_4 => ?_)
  · exact absurd h_4 (by decide)
  · refine xv_il2 fX11_sign_7 ?_
    refine xv_callS1R (m_isPer_t n c _ J hq) fX11_sign_8 YX11_isPerson VX11_isPerson lX11_224 rfl (Nat.le_of_ble_eq_true rfl) (by decide) (by decide) (by decide) ?_
    refine xv_if_eq fX11_sign_11 (fun h_11 => ?_) (fun h_11 => ?_)
    · exact absurd h_11 (by decide)
    · refine xv_k fX11_sign_14 ?_
      refine xv_goto fX11_sign_15 ?_
      refine xv_is3 fX11_sign_19 ?_
      refine xv_al0 fX11_sign_20 ?_
      refine xv_il3 fX11_sign_21 ?_
      refine xv_if_ne fX11_sign_22 (fun h_22 => ?_) (fun h_22 => ?_)
      · refine xv_al0 fX11_sign_29 ?_
        refine xv_getR fX11_sign_30 gX11_68 rfl (sx_60 _ _) (rx_60_22 _) ?_
        refine xv_il2 fX11_sign_33 ?_
        refine xv_zaldN fX11_sign_34 (sx_80 _ _) (⟨by omega, by decide⟩) ?_
        refine xv_if_ne fX11_sign_35 (fun h_35 => ?_) (fun h_35 => ?_)
        · exact absurd hx.1 h_35
        · refine xv_al0 fX11_sign_38 ?_
          refine xv_getR fX11_sign_39 gX11_71 rfl (sx_60 _ _) (rx_60_23 _) ?_
          refine xv_k fX11_sign_42 ?_
          refine xv_il1 fX11_sign_44 ?_
          refine xv_imul fX11_sign_45 ?_
          rw [nI_mul]
          refine xv_il2 fX11_sign_46 ?_
          refine xv_iadd fX11_sign_47 ?_
          rw [nI_add]
          refine xv_zaldN fX11_sign_48 (sx_81 _ _) (⟨by omega, by decide⟩) ?_
          refine xv_if_eq fX11_sign_49 (fun h_49 => ?_) (fun h_49 => ?_)
          · refine xv_k fX11_sign_56 ?_
            refine xv_callV1R (m_fails0 n c _ J) fX11_sign_57 YX11_fails VX11_fails lX11_137 rfl rfl (sx_60 _ _) (Nat.le_of_ble_eq_true rfl) (by decide) (by decide) (by decide) ?_
            refine xv_if_eq fX11_sign_60 (fun h_60 => ?_) (fun h_60 => ?_)
            · refine xv_al0 fX11_sign_65 ?_
              refine xv_getR fX11_sign_66 gX11_71 rfl (sx_60 _ _) (rx_60_23 _) ?_
              refine xv_k fX11_sign_69 ?_
              refine xv_il1 fX11_sign_71 ?_
              refine xv_imul fX11_sign_72 ?_
              rw [nI_mul]
              refine xv_il2 fX11_sign_73 ?_
              refine xv_iadd fX11_sign_74 ?_
              rw [nI_add]
              refine xv_k fX11_sign_75 ?_
              refine xv_zastN fX11_sign_76 (sx_81 _ _) (⟨by omega, by decide⟩) ((by decide : narrow .boolean (.int (nI 1)) = .int (nI 1))) ?_
              refine xv_al0 fX11_sign_77 ?_
              refine xv_al0 fX11_sign_78 ?_
              refine xv_getR fX11_sign_79 gX11_71 rfl (sx_60 _ _) (rx_60_23 _) ?_
              refine xv_il1 fX11_sign_82 ?_
              refine xv_callV2R (m_many n c _ J (sx_81 _ _) hp) fX11_sign_83 YX11_many VX11_many lX11_227 rfl rfl (sx_60 _ _) (Nat.le_of_ble_eq_true rfl) (by decide) (by decide) (by decide) ?_
              exact xv_iret fX11_sign_86 rfl rfl xv_eq_i
            · exact absurd h_60 (by decide)
          · exact absurd hx.2 h_49
      · exact absurd h_22 (by decide)

theorem m_hold_a (n : Nat) (c : Nat × Nat) (I : xv_I) (J : xv_J) {x : Int32} (hx : x < 0 ∨ ¬ x ≤ nI 9) {y : Int32} : xv_Met mX11_hold 8 0 0 (sx n c) I (rx c) J [.ref 60, .int x, .int y] (xv_eq (.inl (some (.int (nI 0)))) (sx n c) (xv_u I 60 48 (nI 1)) (rx c) J) := by
  refine xv_Met.of (by decide +kernel) (Nat.le_of_ble_eq_true rfl) (List.forall_mem_cons.mpr ⟨rfl, List.forall_mem_cons.mpr ⟨rfl, List.forall_mem_cons.mpr ⟨rfl, fun _ h => nomatch h⟩⟩⟩) ?_
  show xv_W mX11_hold 8 0 0 _ 0 0 (sx n c) I (rx c) J 0 [some (.ref 60), some (.int x), some (.int y), none] []
  refine xv_il1 fX11_hold_0 ?_
  refine xv_callS1R (m_isPage_f n c _ J hx) fX11_hold_1 YX11_isPage VX11_isPage lX11_130 rfl (Nat.le_of_ble_eq_true rfl) (by decide) (by decide) (by decide) ?_
  refine xv_if_eq fX11_hold_4 (fun h_4 => ?_) (fun h_4 => ?_)
  · refine xv_k fX11_hold_18 ?_
    refine xv_is3 fX11_hold_19 ?_
    refine xv_al0 fX11_hold_20 ?_
    refine xv_il3 fX11_hold_21 ?_
    refine xv_if_ne fX11_hold_22 (fun h_22 => ?_) (fun h_22 => ?_)
    · exact absurd h_22 (by decide)
    · refine xv_k fX11_hold_25 ?_
      refine xv_goto fX11_hold_26 ?_
      refine xv_callV1R (m_fails1 n c _ J) fX11_hold_43 YX11_fails VX11_fails lX11_137 rfl rfl (sx_60 _ _) (Nat.le_of_ble_eq_true rfl) (by decide) (by decide) (by decide) ?_
      refine xv_if_eq fX11_hold_46 (fun h_46 => ?_) (fun h_46 => ?_)
      · exact absurd h_46 (by decide)
      · refine xv_k fX11_hold_49 ?_
        exact xv_iret fX11_hold_50 rfl rfl xv_eq_i
  · exact absurd h_4 (by decide)

theorem m_hold_b (n : Nat) (c : Nat × Nat) (I : xv_I) (J : xv_J) {p : Nat} (hp : p < 10) {x : Int32} (hx : x < 0 ∨ ¬ x ≤ nI 5) : xv_Met mX11_hold 8 0 0 (sx n c) I (rx c) J [.ref 60, .int (nI p), .int x] (xv_eq (.inl (some (.int (nI 0)))) (sx n c) (xv_u I 60 48 (nI 1)) (rx c) J) := by
  refine xv_Met.of (by decide +kernel) (Nat.le_of_ble_eq_true rfl) (List.forall_mem_cons.mpr ⟨rfl, List.forall_mem_cons.mpr ⟨rfl, List.forall_mem_cons.mpr ⟨rfl, fun _ h => nomatch h⟩⟩⟩) ?_
  show xv_W mX11_hold 8 0 0 _ 0 0 (sx n c) I (rx c) J 0 [some (.ref 60), some (.int (nI p)), some (.int x), none] []
  refine xv_il1 fX11_hold_0 ?_
  refine xv_callS1R (m_isPage_t n c _ J hp) fX11_hold_1 YX11_isPage VX11_isPage lX11_130 rfl (Nat.le_of_ble_eq_true rfl) (by decide) (by decide) (by decide) ?_
  refine xv_if_eq fX11_hold_4 (fun h_4 => ?_) (fun h_4 => ?_)
  · exact absurd h_4 (by decide)
  · refine xv_il2 fX11_hold_7 ?_
    refine xv_callS1R (m_isPer_f n c _ J hx) fX11_hold_8 YX11_isPerson VX11_isPerson lX11_224 rfl (Nat.le_of_ble_eq_true rfl) (by decide) (by decide) (by decide) ?_
    refine xv_if_eq fX11_hold_11 (fun h_11 => ?_) (fun h_11 => ?_)
    · refine xv_k fX11_hold_18 ?_
      refine xv_is3 fX11_hold_19 ?_
      refine xv_al0 fX11_hold_20 ?_
      refine xv_il3 fX11_hold_21 ?_
      refine xv_if_ne fX11_hold_22 (fun h_22 => ?_) (fun h_22 => ?_)
      · exact absurd h_22 (by decide)
      · refine xv_k fX11_hold_25 ?_
        refine xv_goto fX11_hold_26 ?_
        refine xv_callV1R (m_fails1 n c _ J) fX11_hold_43 YX11_fails VX11_fails lX11_137 rfl rfl (sx_60 _ _) (Nat.le_of_ble_eq_true rfl) (by decide) (by decide) (by decide) ?_
        refine xv_if_eq fX11_hold_46 (fun h_46 => ?_) (fun h_46 => ?_)
        · exact absurd h_46 (by decide)
        · refine xv_k fX11_hold_49 ?_
          exact xv_iret fX11_hold_50 rfl rfl xv_eq_i
    · exact absurd h_11 (by decide)

theorem m_hold_c (n : Nat) (c : Nat × Nat) (I : xv_I) (J : xv_J) {p : Nat} (hp : p < 10) {q : Nat} (hq : q < 6) (hx : ¬ I 80 q = 0) : xv_Met mX11_hold 8 0 0 (sx n c) I (rx c) J [.ref 60, .int (nI p), .int (nI q)] (xv_eq (.inl (some (.int (nI 0)))) (sx n c) (xv_u I 60 48 (nI 2)) (rx c) J) := by
  refine xv_Met.of (by decide +kernel) (Nat.le_of_ble_eq_true rfl) (List.forall_mem_cons.mpr ⟨rfl, List.forall_mem_cons.mpr ⟨rfl, List.forall_mem_cons.mpr ⟨rfl, fun _ h => nomatch h⟩⟩⟩) ?_
  show xv_W mX11_hold 8 0 0 _ 0 0 (sx n c) I (rx c) J 0 [some (.ref 60), some (.int (nI p)), some (.int (nI q)), none] []
  refine xv_il1 fX11_hold_0 ?_
  refine xv_callS1R (m_isPage_t n c _ J hp) fX11_hold_1 YX11_isPage VX11_isPage lX11_130 rfl (Nat.le_of_ble_eq_true rfl) (by decide) (by decide) (by decide) ?_
  refine xv_if_eq fX11_hold_4 (fun h_4 => ?_) (fun h_4 => ?_)
  · exact absurd h_4 (by decide)
  · refine xv_il2 fX11_hold_7 ?_
    refine xv_callS1R (m_isPer_t n c _ J hq) fX11_hold_8 YX11_isPerson VX11_isPerson lX11_224 rfl (Nat.le_of_ble_eq_true rfl) (by decide) (by decide) (by decide) ?_
    refine xv_if_eq fX11_hold_11 (fun h_11 => ?_) (fun h_11 => ?_)
    · exact absurd h_11 (by decide)
    · refine xv_k fX11_hold_14 ?_
      refine xv_goto fX11_hold_15 ?_
      refine xv_is3 fX11_hold_19 ?_
      refine xv_al0 fX11_hold_20 ?_
      refine xv_il3 fX11_hold_21 ?_
      refine xv_if_ne fX11_hold_22 (fun h_22 => ?_) (fun h_22 => ?_)
      · refine xv_al0 fX11_hold_29 ?_
        refine xv_getR fX11_hold_30 gX11_68 rfl (sx_60 _ _) (rx_60_22 _) ?_
        refine xv_il2 fX11_hold_33 ?_
        refine xv_zaldN fX11_hold_34 (sx_80 _ _) (⟨by omega, by decide⟩) ?_
        refine xv_if_eq fX11_hold_35 (fun h_35 => ?_) (fun h_35 => ?_)
        · exact absurd h_35 hx
        · refine xv_k fX11_hold_38 ?_
          refine xv_goto fX11_hold_39 ?_
          refine xv_callV1R (m_fails2 n c _ J) fX11_hold_43 YX11_fails VX11_fails lX11_137 rfl rfl (sx_60 _ _) (Nat.le_of_ble_eq_true rfl) (by decide) (by decide) (by decide) ?_
          refine xv_if_eq fX11_hold_46 (fun h_46 => ?_) (fun h_46 => ?_)
          · exact absurd h_46 (by decide)
          · refine xv_k fX11_hold_49 ?_
            exact xv_iret fX11_hold_50 rfl rfl xv_eq_i
      · exact absurd h_22 (by decide)

theorem m_hold_on (n : Nat) (c : Nat × Nat) (I : xv_I) (J : xv_J) {p : Nat} (hp : p < 10) {q : Nat} (hq : q < 6) (hx : I 80 q = 0) (hh : I 82 (6 * p + q) = 0) : xv_Met mX11_hold 8 0 0 (sx n c) I (rx c) J [.ref 60, .int (nI p), .int (nI q)] (xv_eq (.inl (some (.int (nI 1)))) (sx n c) (xv_u (xv_u I 60 48 (nI 0)) 82 (6 * p + q) (nI 1)) (rx c) J) := by
  refine xv_Met.of (by decide +kernel) (Nat.le_of_ble_eq_true rfl) (List.forall_mem_cons.mpr ⟨rfl, List.forall_mem_cons.mpr ⟨rfl, List.forall_mem_cons.mpr ⟨rfl, fun _ h => nomatch h⟩⟩⟩) ?_
  show xv_W mX11_hold 8 0 0 _ 0 0 (sx n c) I (rx c) J 0 [some (.ref 60), some (.int (nI p)), some (.int (nI q)), none] []
  refine xv_il1 fX11_hold_0 ?_
  refine xv_callS1R (m_isPage_t n c _ J hp) fX11_hold_1 YX11_isPage VX11_isPage lX11_130 rfl (Nat.le_of_ble_eq_true rfl) (by decide) (by decide) (by decide) ?_
  refine xv_if_eq fX11_hold_4 (fun h_4 => ?_) (fun h_4 => ?_)
  · exact absurd h_4 (by decide)
  · refine xv_il2 fX11_hold_7 ?_
    refine xv_callS1R (m_isPer_t n c _ J hq) fX11_hold_8 YX11_isPerson VX11_isPerson lX11_224 rfl (Nat.le_of_ble_eq_true rfl) (by decide) (by decide) (by decide) ?_
    refine xv_if_eq fX11_hold_11 (fun h_11 => ?_) (fun h_11 => ?_)
    · exact absurd h_11 (by decide)
    · refine xv_k fX11_hold_14 ?_
      refine xv_goto fX11_hold_15 ?_
      refine xv_is3 fX11_hold_19 ?_
      refine xv_al0 fX11_hold_20 ?_
      refine xv_il3 fX11_hold_21 ?_
      refine xv_if_ne fX11_hold_22 (fun h_22 => ?_) (fun h_22 => ?_)
      · refine xv_al0 fX11_hold_29 ?_
        refine xv_getR fX11_hold_30 gX11_68 rfl (sx_60 _ _) (rx_60_22 _) ?_
        refine xv_il2 fX11_hold_33 ?_
        refine xv_zaldN fX11_hold_34 (sx_80 _ _) (⟨by omega, by decide⟩) ?_
        refine xv_if_eq fX11_hold_35 (fun h_35 => ?_) (fun h_35 => ?_)
        · refine xv_k fX11_hold_42 ?_
          refine xv_callV1R (m_fails0 n c _ J) fX11_hold_43 YX11_fails VX11_fails lX11_137 rfl rfl (sx_60 _ _) (Nat.le_of_ble_eq_true rfl) (by decide) (by decide) (by decide) ?_
          refine xv_if_eq fX11_hold_46 (fun h_46 => ?_) (fun h_46 => ?_)
          · refine xv_al0 fX11_hold_51 ?_
            refine xv_getR fX11_hold_52 gX11_74 rfl (sx_60 _ _) (rx_60_24 _) ?_
            refine xv_k fX11_hold_55 ?_
            refine xv_il1 fX11_hold_57 ?_
            refine xv_imul fX11_hold_58 ?_
            rw [nI_mul]
            refine xv_il2 fX11_hold_59 ?_
            refine xv_iadd fX11_hold_60 ?_
            rw [nI_add]
            refine xv_al0 fX11_hold_61 ?_
            refine xv_getR fX11_hold_62 gX11_74 rfl (sx_60 _ _) (rx_60_24 _) ?_
            refine xv_k fX11_hold_65 ?_
            refine xv_il1 fX11_hold_67 ?_
            refine xv_imul fX11_hold_68 ?_
            rw [nI_mul]
            refine xv_il2 fX11_hold_69 ?_
            refine xv_iadd fX11_hold_70 ?_
            rw [nI_add]
            refine xv_zaldN fX11_hold_71 (sx_82 _ _) (⟨by omega, by decide⟩) ?_
            rw [xv_u_ne _ _ _ (by decide)]
            refine xv_if_ne fX11_hold_72 (fun h_72 => ?_) (fun h_72 => ?_)
            · exact absurd hh h_72
            · refine xv_k fX11_hold_75 ?_
              refine xv_goto fX11_hold_76 ?_
              refine xv_zastN fX11_hold_80 (sx_82 _ _) (⟨by omega, by decide⟩) ((by decide : narrow .boolean (.int (nI 1)) = .int (nI 1))) ?_
              refine xv_al0 fX11_hold_81 ?_
              refine xv_getR fX11_hold_82 gX11_74 rfl (sx_60 _ _) (rx_60_24 _) ?_
              refine xv_k fX11_hold_85 ?_
              refine xv_il1 fX11_hold_87 ?_
              refine xv_imul fX11_hold_88 ?_
              rw [nI_mul]
              refine xv_il2 fX11_hold_89 ?_
              refine xv_iadd fX11_hold_90 ?_
              rw [nI_add]
              refine xv_zaldN fX11_hold_91 (sx_82 _ _) (⟨by omega, by decide⟩) ?_
              rw [xv_u_eq]
              exact xv_iret fX11_hold_92 rfl rfl xv_eq_i
          · exact absurd h_46 (by decide)
        · exact absurd hx h_35
      · exact absurd h_22 (by decide)

theorem m_hold_off (n : Nat) (c : Nat × Nat) (I : xv_I) (J : xv_J) {p : Nat} (hp : p < 10) {q : Nat} (hq : q < 6) (hx : I 80 q = 0) (hh : ¬ I 82 (6 * p + q) = 0) : xv_Met mX11_hold 8 0 0 (sx n c) I (rx c) J [.ref 60, .int (nI p), .int (nI q)] (xv_eq (.inl (some (.int (nI 0)))) (sx n c) (xv_u (xv_u I 60 48 (nI 0)) 82 (6 * p + q) (nI 0)) (rx c) J) := by
  refine xv_Met.of (by decide +kernel) (Nat.le_of_ble_eq_true rfl) (List.forall_mem_cons.mpr ⟨rfl, List.forall_mem_cons.mpr ⟨rfl, List.forall_mem_cons.mpr ⟨rfl, fun _ h => nomatch h⟩⟩⟩) ?_
  show xv_W mX11_hold 8 0 0 _ 0 0 (sx n c) I (rx c) J 0 [some (.ref 60), some (.int (nI p)), some (.int (nI q)), none] []
  refine xv_il1 fX11_hold_0 ?_
  refine xv_callS1R (m_isPage_t n c _ J hp) fX11_hold_1 YX11_isPage VX11_isPage lX11_130 rfl (Nat.le_of_ble_eq_true rfl) (by decide) (by decide) (by decide) ?_
  refine xv_if_eq fX11_hold_4 (fun h_4 => ?_) (fun h_4 => ?_)
  · exact absurd h_4 (by decide)
  · refine xv_il2 fX11_hold_7 ?_
    refine xv_callS1R (m_isPer_t n c _ J hq) fX11_hold_8 YX11_isPerson VX11_isPerson lX11_224 rfl (Nat.le_of_ble_eq_true rfl) (by decide) (by decide) (by decide) ?_
    refine xv_if_eq fX11_hold_11 (fun h_11 => ?_) (fun h_11 => ?_)
    · exact absurd h_11 (by decide)
    · refine xv_k fX11_hold_14 ?_
      refine xv_goto fX11_hold_15 ?_
      refine xv_is3 fX11_hold_19 ?_
      refine xv_al0 fX11_hold_20 ?_
      refine xv_il3 fX11_hold_21 ?_
      refine xv_if_ne fX11_hold_22 (fun h_22 => ?_) (fun h_22 => ?_)
      · refine xv_al0 fX11_hold_29 ?_
        refine xv_getR fX11_hold_30 gX11_68 rfl (sx_60 _ _) (rx_60_22 _) ?_
        refine xv_il2 fX11_hold_33 ?_
        refine xv_zaldN fX11_hold_34 (sx_80 _ _) (⟨by omega, by decide⟩) ?_
        refine xv_if_eq fX11_hold_35 (fun h_35 => ?_) (fun h_35 => ?_)
        · refine xv_k fX11_hold_42 ?_
          refine xv_callV1R (m_fails0 n c _ J) fX11_hold_43 YX11_fails VX11_fails lX11_137 rfl rfl (sx_60 _ _) (Nat.le_of_ble_eq_true rfl) (by decide) (by decide) (by decide) ?_
          refine xv_if_eq fX11_hold_46 (fun h_46 => ?_) (fun h_46 => ?_)
          · refine xv_al0 fX11_hold_51 ?_
            refine xv_getR fX11_hold_52 gX11_74 rfl (sx_60 _ _) (rx_60_24 _) ?_
            refine xv_k fX11_hold_55 ?_
            refine xv_il1 fX11_hold_57 ?_
            refine xv_imul fX11_hold_58 ?_
            rw [nI_mul]
            refine xv_il2 fX11_hold_59 ?_
            refine xv_iadd fX11_hold_60 ?_
            rw [nI_add]
            refine xv_al0 fX11_hold_61 ?_
            refine xv_getR fX11_hold_62 gX11_74 rfl (sx_60 _ _) (rx_60_24 _) ?_
            refine xv_k fX11_hold_65 ?_
            refine xv_il1 fX11_hold_67 ?_
            refine xv_imul fX11_hold_68 ?_
            rw [nI_mul]
            refine xv_il2 fX11_hold_69 ?_
            refine xv_iadd fX11_hold_70 ?_
            rw [nI_add]
            refine xv_zaldN fX11_hold_71 (sx_82 _ _) (⟨by omega, by decide⟩) ?_
            rw [xv_u_ne _ _ _ (by decide)]
            refine xv_if_ne fX11_hold_72 (fun h_72 => ?_) (fun h_72 => ?_)
            · refine xv_k fX11_hold_79 ?_
              refine xv_zastN fX11_hold_80 (sx_82 _ _) (⟨by omega, by decide⟩) ((by decide : narrow .boolean (.int (nI 0)) = .int (nI 0))) ?_
              refine xv_al0 fX11_hold_81 ?_
              refine xv_getR fX11_hold_82 gX11_74 rfl (sx_60 _ _) (rx_60_24 _) ?_
              refine xv_k fX11_hold_85 ?_
              refine xv_il1 fX11_hold_87 ?_
              refine xv_imul fX11_hold_88 ?_
              rw [nI_mul]
              refine xv_il2 fX11_hold_89 ?_
              refine xv_iadd fX11_hold_90 ?_
              rw [nI_add]
              refine xv_zaldN fX11_hold_91 (sx_82 _ _) (⟨by omega, by decide⟩) ?_
              rw [xv_u_eq]
              exact xv_iret fX11_hold_92 rfl rfl xv_eq_i
            · exact absurd h_72 hh
          · exact absurd h_46 (by decide)
        · exact absurd hx h_35
      · exact absurd h_22 (by decide)

abbrev mReady (I : xv_I) (p : Nat) : Prop := nI (mMany I 82 p) = 0 ∧ ((∀ k, k < 12 → I 63 (12 * p + k) = 0) ∨ ¬ nI (mMany I 81 p) < nI 2)
theorem m_ready (n : Nat) (c : Nat × Nat) (I : xv_I) (J : xv_J) {p : Nat} (hp : p < 10) : xv_Met mX11_ready 2 0 0 (sx n c) I (rx c) J [.ref 60, .int (nI p)] (xv_eq (.inl (some (.int (bi (mReady I p))))) (sx n c) (I) (rx c) J) := by
  refine xv_Met.of (by decide +kernel) (Nat.le_of_ble_eq_true rfl) (List.forall_mem_cons.mpr ⟨rfl, List.forall_mem_cons.mpr ⟨rfl, fun _ h => nomatch h⟩⟩) ?_
  show xv_W mX11_ready 2 0 0 _ 0 0 (sx n c) I (rx c) J 0 [some (.ref 60), some (.int (nI p))] []
  refine xv_al0 fX11_ready_0 ?_
  refine xv_al0 fX11_ready_1 ?_
  refine xv_getR fX11_ready_2 gX11_74 rfl (sx_60 _ _) (rx_60_24 _) ?_
  refine xv_il1 fX11_ready_5 ?_
  refine xv_callV2R (m_many n c _ J (sx_82 _ _) hp) fX11_ready_6 YX11_many VX11_many lX11_227 rfl rfl (sx_60 _ _) (Nat.le_of_ble_eq_true rfl) (by decide) (by decide) (by decide) ?_
  refine xv_if_ne fX11_ready_9 (fun h_9 => ?_) (fun h_9 => ?_)
  · refine xv_k fX11_ready_37 ?_
    exact xv_iret fX11_ready_38 rfl (by decide) (xv_eq_I (by rw [bi_f (fun h => h_9 h.1)]) rfl)
  · refine xv_al0 fX11_ready_12 ?_
    refine xv_il1 fX11_ready_13 ?_
    refine xv_callV1R (m_isEmpty n c _ J hp) fX11_ready_14 YX11_isEmpty VX11_isEmpty lX11_134 rfl rfl (sx_60 _ _) (Nat.le_of_ble_eq_true rfl) (by decide) (by decide) (by decide) ?_
    refine xv_if_ne fX11_ready_17 (fun h_17 => ?_) (fun h_17 => ?_)
    · refine xv_k fX11_ready_33 ?_
      refine xv_goto fX11_ready_34 ?_
      exact xv_iret fX11_ready_38 rfl (by decide) (xv_eq_I (by rw [bi_t ⟨h_9, Or.inl (bi_1 h_17)⟩]) rfl)
    · refine xv_al0 fX11_ready_20 ?_
      refine xv_al0 fX11_ready_21 ?_
      refine xv_getR fX11_ready_22 gX11_71 rfl (sx_60 _ _) (rx_60_23 _) ?_
      refine xv_il1 fX11_ready_25 ?_
      refine xv_callV2R (m_many n c _ J (sx_81 _ _) hp) fX11_ready_26 YX11_many VX11_many lX11_227 rfl rfl (sx_60 _ _) (Nat.le_of_ble_eq_true rfl) (by decide) (by decide) (by decide) ?_
      refine xv_k fX11_ready_29 ?_
      refine xv_ic_lt fX11_ready_30 (fun h_30 => ?_) (fun h_30 => ?_)
      · refine xv_k fX11_ready_37 ?_
        exact xv_iret fX11_ready_38 rfl (by decide) (xv_eq_I (by rw [bi_f (fun h => h.2.elim (bi_0 h_17) (fun q => q h_30))]) rfl)
      · refine xv_k fX11_ready_33 ?_
        refine xv_goto fX11_ready_34 ?_
        exact xv_iret fX11_ready_38 rfl (by decide) (xv_eq_I (by rw [bi_t ⟨h_9, Or.inr h_30⟩]) rfl)

theorem m_isReady_a (n : Nat) (c : Nat × Nat) (I : xv_I) (J : xv_J) {x : Int32} (hx : x < 0 ∨ ¬ x ≤ nI 9) : xv_Met mX11_isReady 8 0 0 (sx n c) I (rx c) J [.ref 60, .int x] (xv_eq (.inl (some (.int (nI 0)))) (sx n c) (xv_u I 60 48 (nI 1)) (rx c) J) := by
  refine xv_Met.of (by decide +kernel) (Nat.le_of_ble_eq_true rfl) (List.forall_mem_cons.mpr ⟨rfl, List.forall_mem_cons.mpr ⟨rfl, fun _ h => nomatch h⟩⟩) ?_
  show xv_W mX11_isReady 8 0 0 _ 0 0 (sx n c) I (rx c) J 0 [some (.ref 60), some (.int x)] []
  refine xv_al0 fX11_isReady_0 ?_
  refine xv_il1 fX11_isReady_1 ?_
  refine xv_callS1R (m_isPage_f n c _ J hx) fX11_isReady_2 YX11_isPage VX11_isPage lX11_130 rfl (Nat.le_of_ble_eq_true rfl) (by decide) (by decide) (by decide) ?_
  refine xv_if_eq fX11_isReady_5 (fun h_5 => ?_) (fun h_5 => ?_)
  · refine xv_k fX11_isReady_12 ?_
    refine xv_callV1R (m_fails1 n c _ J) fX11_isReady_13 YX11_fails VX11_fails lX11_137 rfl rfl (sx_60 _ _) (Nat.le_of_ble_eq_true rfl) (by decide) (by decide) (by decide) ?_
    refine xv_if_ne fX11_isReady_16 (fun h_16 => ?_) (fun h_16 => ?_)
    · refine xv_k fX11_isReady_31 ?_
      exact xv_iret fX11_isReady_32 rfl rfl xv_eq_i
    · exact absurd h_16 (by decide)
  · exact absurd h_5 (by decide)

theorem m_isReady_ok (n : Nat) (c : Nat × Nat) (I : xv_I) (J : xv_J) {p : Nat} (hp : p < 10) : xv_Met mX11_isReady 8 0 0 (sx n c) I (rx c) J [.ref 60, .int (nI p)] (xv_eq (.inl (some (.int (bi (mReady (xv_u I 60 48 (nI 0)) p))))) (sx n c) (xv_u I 60 48 (nI 0)) (rx c) J) := by
  refine xv_Met.of (by decide +kernel) (Nat.le_of_ble_eq_true rfl) (List.forall_mem_cons.mpr ⟨rfl, List.forall_mem_cons.mpr ⟨rfl, fun _ h => nomatch h⟩⟩) ?_
  show xv_W mX11_isReady 8 0 0 _ 0 0 (sx n c) I (rx c) J 0 [some (.ref 60), some (.int (nI p))] []
  refine xv_al0 fX11_isReady_0 ?_
  refine xv_il1 fX11_isReady_1 ?_
  refine xv_callS1R (m_isPage_t n c _ J hp) fX11_isReady_2 YX11_isPage VX11_isPage lX11_130 rfl (Nat.le_of_ble_eq_true rfl) (by decide) (by decide) (by decide) ?_
  refine xv_if_eq fX11_isReady_5 (fun h_5 => ?_) (fun h_5 => ?_)
  · exact absurd h_5 (by decide)
  · refine xv_k fX11_isReady_8 ?_
    refine xv_goto fX11_isReady_9 ?_
    refine xv_callV1R (m_fails0 n c _ J) fX11_isReady_13 YX11_fails VX11_fails lX11_137 rfl rfl (sx_60 _ _) (Nat.le_of_ble_eq_true rfl) (by decide) (by decide) (by decide) ?_
    refine xv_if_ne fX11_isReady_16 (fun h_16 => ?_) (fun h_16 => ?_)
    · exact absurd h_16 (by decide)
    · refine xv_al0 fX11_isReady_19 ?_
      refine xv_il1 fX11_isReady_20 ?_
      refine xv_callV1R (m_ready n c _ J hp) fX11_isReady_21 YX11_ready VX11_ready lX11_231 rfl rfl (sx_60 _ _) (Nat.le_of_ble_eq_true rfl) (by decide) (by decide) (by decide) ?_
      refine xv_if_eq fX11_isReady_24 (fun h_24 => ?_) (fun h_24 => ?_)
      · refine xv_k fX11_isReady_31 ?_
        exact xv_iret fX11_isReady_32 rfl (by decide) (xv_eq_I (by rw [bi_f (bi_0 h_24)]) rfl)
      · refine xv_k fX11_isReady_27 ?_
        refine xv_goto fX11_isReady_28 ?_
        exact xv_iret fX11_isReady_32 rfl (by decide) (xv_eq_I (by rw [bi_t (bi_1 h_24)]) rfl)
