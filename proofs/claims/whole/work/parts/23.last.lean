theorem nI_n0 {a : Nat} (h : 0 < a) (h2 : a < 2 ^ 31) : ¬ nI a = 0 := fun q => by
  have h1 := congrArg Int32.toInt q
  rw [nI_toInt h2] at h1
  have : (0 : Int32).toInt = 0 := by decide
  omega
abbrev xCS (I : xv_I) (a p : Nat) : Prop := I 13 p = I (200 + 5 * a) 0 ∧ ¬ xLow I p = -1
def xQcorr (n : Nat) (c : Nat × Nat) (I : xv_I) (J : xv_J) (a w : Nat) : xv_Q := fun o s i r j => s = sx n c ∧ r = rx c ∧ j = J ∧ ((o = .inl (some (.int (-1))) ∧ i = I ∧ ∀ p, p < 7 → ¬ xCS I a p) ∨ ∃ p f, p < 7 ∧ xCS I a p ∧ (∀ q, q < p → ¬ xCS I a q) ∧ f < 12 ∧ xLow I p = nI f ∧ o = .inl (some (.int (nI (100 * p + f)))) ∧ i = xDrop w (xPut I p f (nI (300 + a))))
theorem p_plC_a (n : Nat) (c : Nat × Nat) (I : xv_I) (J : xv_J) (hc : I 29 4 = 0) : xv_Met mX10_placeCorrection 8 16 128 (sx n c) I (rx c) J [.ref 0] (xv_eq (.inr "java/lang/IllegalStateException") (sx n c) (I) (rx c) J) := by
  refine xv_Met.of (by decide +kernel) (Nat.le_of_ble_eq_true rfl) (List.forall_mem_cons.mpr ⟨rfl, fun _ h => nomatch h⟩) ?_
  show xv_W mX10_placeCorrection 8 16 128 _ 16 128 (sx n c) I (rx c) J 0 [some (.ref 0), none, none, none, none] []
  refine xv_al0 fX10_placeCorrection_0 ?_
  refine xv_getR fX10_placeCorrection_1 gX10_44 rfl (sx_0 _ _) (rx_0_7 _) ?_
  refine xv_getI fX10_placeCorrection_4 gX10_279 rfl (sx_29 _ _) ?_
  refine xv_if_ne fX10_placeCorrection_7 (fun h_7 => ?_) (fun h_7 => ?_)
  · exact absurd hc h_7
  · exact xv_throw fX10_placeCorrection_10 hX10_310 rfl (by decide) (by decide) (by decide) (by decide) xv_eq_i

theorem xLow_or {I : xv_I} {p : Nat} (h : ¬ xLow I p = -1) : ∃ f, f < 12 ∧ xLow I p = nI f := by
  rcases fsP_cases (fun k => I (3 + p) k = 0) 12 with q | ⟨k, h1, _, _, h2⟩
  · exact absurd q.1 h
  · exact ⟨k, h1, h2⟩
theorem l_plC (n : Nat) (c : Nat × Nat) (I : xv_I) (J : xv_J) {a : Nat} (hs : a < c.2) (hs2 : a < 20) {w : Nat} (hw : 0 < w) (hw2 : w ≤ 5) (hc : I 29 4 = nI w) : ∀ (m p : Nat) (l4 : Option Value), p + m = 7 → (∀ q, q < p → ¬ xCS I a q) → xv_W mX10_placeCorrection 8 16 128 (xQcorr n c I J a w) 16 128 (sx n c) I (rx c) J 37 (some (.ref 0) :: some (.int (nI a)) :: some (.ref (200 + 5 * a)) :: some (.int (nI p)) :: l4 :: []) [] := by
  intro m
  induction m with
  | zero =>
    intro p l4 hm i0
    obtain rfl : p = 7 := by omega
    show xv_W mX10_placeCorrection 8 16 128 _ 16 128 (sx n c) I (rx c) J 37 (some (.ref 0) :: some (.int (nI a)) :: some (.ref (200 + 5 * a)) :: some (.int (nI 7)) :: l4 :: []) []
    refine xv_al2 fX10_placeCorrection_37 ?_
    refine xv_ifnull_r fX10_placeCorrection_38 ?_
    refine xv_il3 fX10_placeCorrection_41 ?_
    refine xv_k fX10_placeCorrection_42 ?_
    refine xv_ic_ge fX10_placeCorrection_44 (fun h_44 => ?_) (fun h_44 => ?_)
    · refine xv_k fX10_placeCorrection_118 ?_
      exact xv_iret fX10_placeCorrection_119 rfl rfl ⟨rfl, rfl, rfl, Or.inl ⟨rfl, rfl, i0⟩⟩
    · exact absurd (by decide) h_44
  | succ m ih =>
    intro p l4 hm i0
    show xv_W mX10_placeCorrection 8 16 128 _ 16 128 (sx n c) I (rx c) J 37 (some (.ref 0) :: some (.int (nI a)) :: some (.ref (200 + 5 * a)) :: some (.int (nI p)) :: l4 :: []) []
    refine xv_al2 fX10_placeCorrection_37 ?_
    refine xv_ifnull_r fX10_placeCorrection_38 ?_
    refine xv_il3 fX10_placeCorrection_41 ?_
    refine xv_k fX10_placeCorrection_42 ?_
    refine xv_ic_ge fX10_placeCorrection_44 (fun h_44 => ?_) (fun h_44 => ?_)
    · exact absurd h_44 (nI_ge (by omega) (by decide))
    · refine xv_al0 fX10_placeCorrection_47 ?_
      refine xv_getR fX10_placeCorrection_48 gX10_10 rfl (sx_0 _ _) (rx_0_0 _) ?_
      refine xv_il3 fX10_placeCorrection_51 ?_
      refine xv_callV1R (c_sectionOf n c I J (p := p) (by omega)) fX10_placeCorrection_52 YX5_sectionOf VX5_sectionOf lX10_318 rfl rfl (sx_1 _ _) (Nat.le_of_ble_eq_true rfl) (by decide) (by decide) (by decide) ?_
      refine xv_al2 fX10_placeCorrection_55 ?_
      refine xv_getI fX10_placeCorrection_56 gX10_321 rfl (sx_st _ _ hs hs2) ?_
      refine xv_ic_ne fX10_placeCorrection_59 (fun h_59 => ?_) (fun h_59 => ?_)
      · refine xv_k fX10_placeCorrection_73 ?_
        refine xv_is4 fX10_placeCorrection_74 ?_
        refine xv_il4 fX10_placeCorrection_76 ?_
        refine xv_k fX10_placeCorrection_78 ?_
        refine xv_ic_eq fX10_placeCorrection_79 (fun h_79 => ?_) (fun h_79 => ?_)
        · refine xv_iincN3 (a := 1) fX10_placeCorrection_112 (by decide) ?_
          refine xv_goto fX10_placeCorrection_115 ?_
          exact ih (p + 1) _ (by omega) (lt_or i0 (fun h => h_59 h.1))
        · exact absurd rfl h_79
      · refine xv_al0 fX10_placeCorrection_62 ?_
        refine xv_getR fX10_placeCorrection_63 gX10_10 rfl (sx_0 _ _) (rx_0_0 _) ?_
        refine xv_il3 fX10_placeCorrection_66 ?_
        refine xv_callV1R (c_lowestFree n c I J (p := p) (by omega)) fX10_placeCorrection_67 YX5_lowestFree VX5_lowestFree lX10_324 rfl rfl (sx_1 _ _) (Nat.le_of_ble_eq_true rfl) (by decide) (by decide) (by decide) ?_
        refine xv_goto fX10_placeCorrection_70 ?_
        refine xv_is4 fX10_placeCorrection_74 ?_
        refine xv_il4 fX10_placeCorrection_76 ?_
        refine xv_k fX10_placeCorrection_78 ?_
        refine xv_ic_eq fX10_placeCorrection_79 (fun h_79 => ?_) (fun h_79 => ?_)
        · refine xv_iincN3 (a := 1) fX10_placeCorrection_112 (by decide) ?_
          refine xv_goto fX10_placeCorrection_115 ?_
          exact ih (p + 1) _ (by omega) (lt_or i0 (fun h => h.2 h_79))
        · obtain ⟨f, hf1, hf2⟩ := xLow_or (show ¬ xLow I p = -1 from h_79)
          rw [hf2]
          refine xv_al0 fX10_placeCorrection_82 ?_
          refine xv_getR fX10_placeCorrection_83 gX10_10 rfl (sx_0 _ _) (rx_0_0 _) ?_
          refine xv_il3 fX10_placeCorrection_86 ?_
          refine xv_il4 fX10_placeCorrection_87 ?_
          refine xv_k fX10_placeCorrection_89 ?_
          refine xv_il1 fX10_placeCorrection_92 ?_
          refine xv_iadd fX10_placeCorrection_93 ?_
          rw [nI_add]
          refine xv_callV3V (c_put n c I J (p := p) (by omega) hf1) fX10_placeCorrection_94 YX5_put VX5_put lX10_327 rfl rfl (sx_1 _ _) (Nat.le_of_ble_eq_true rfl) (by decide) (by decide) (by decide) ?_
          refine xv_al0 fX10_placeCorrection_97 ?_
          refine xv_getR fX10_placeCorrection_98 gX10_44 rfl (sx_0 _ _) (rx_0_7 _) ?_
          refine xv_callV0V (c_drop n c _ J hw hw2 (by rw [xPut_o _ (by omega) _ (by omega)]; exact hc)) fX10_placeCorrection_101 YX1_dropLongestOwed VX1_dropLongestOwed lX10_330 rfl rfl (sx_29 _ _) (Nat.le_of_ble_eq_true rfl) (by decide) (by decide) (by decide) ?_
          refine xv_k fX10_placeCorrection_104 ?_
          refine xv_il3 fX10_placeCorrection_106 ?_
          refine xv_imul fX10_placeCorrection_107 ?_
          refine xv_il4 fX10_placeCorrection_108 ?_
          refine xv_iadd fX10_placeCorrection_110 ?_
          exact xv_iret fX10_placeCorrection_111 rfl rfl ⟨rfl, rfl, rfl, Or.inr ⟨p, f, by omega, ⟨h_59, h_79⟩, i0, hf1, hf2, by rw [nI_mul, nI_add], rfl⟩⟩

theorem p_plC_ok (n : Nat) (c : Nat × Nat) (I : xv_I) (J : xv_J) {a : Nat} (hs : a < c.2) (hs2 : a < 20) {w : Nat} (hw : 0 < w) (hw2 : w ≤ 5) (hc : I 29 4 = nI w) (h40 : I 40 0 = nI a) : xv_Met mX10_placeCorrection 8 16 128 (sx n c) I (rx c) J [.ref 0] (xQcorr n c I J a w) := by
  refine xv_Met.of (by decide +kernel) (Nat.le_of_ble_eq_true rfl) (List.forall_mem_cons.mpr ⟨rfl, fun _ h => nomatch h⟩) ?_
  show xv_W mX10_placeCorrection 8 16 128 _ 16 128 (sx n c) I (rx c) J 0 [some (.ref 0), none, none, none, none] []
  refine xv_al0 fX10_placeCorrection_0 ?_
  refine xv_getR fX10_placeCorrection_1 gX10_44 rfl (sx_0 _ _) (rx_0_7 _) ?_
  refine xv_getI fX10_placeCorrection_4 gX10_279 rfl (sx_29 _ _) ?_
  rw [hc]
  refine xv_if_ne fX10_placeCorrection_7 (fun h_7 => ?_) (fun h_7 => ?_)
  · refine xv_al0 fX10_placeCorrection_21 ?_
    refine xv_getR fX10_placeCorrection_22 gX10_44 rfl (sx_0 _ _) (rx_0_7 _) ?_
    refine xv_callV0R (c_longest n c I J hw hw2 hc) fX10_placeCorrection_25 YX1_longestOwed VX1_longestOwed lX10_312 rfl rfl (sx_29 _ _) (Nat.le_of_ble_eq_true rfl) (by decide) (by decide) (by decide) ?_
    rw [h40]
    refine xv_is1 fX10_placeCorrection_28 ?_
    refine xv_al0 fX10_placeCorrection_29 ?_
    refine xv_il1 fX10_placeCorrection_30 ?_
    refine xv_callV1R (c_stAt_in n c I J hs hs2) fX10_placeCorrection_31 YX10_storyAt VX10_storyAt lX10_315 rfl rfl (sx_0 _ _) (Nat.le_of_ble_eq_true rfl) (by decide) (by decide) (by decide) ?_
    refine xv_as2 fX10_placeCorrection_34 ?_
    refine xv_k fX10_placeCorrection_35 ?_
    refine xv_is3 fX10_placeCorrection_36 ?_
    exact l_plC n c I J hs hs2 hw hw2 hc 7 0 none rfl lt_no
  · exact absurd h_7 (nI_n0 (by omega) (by omega))
def xCl1 (p k : Nat) (s : Nat × xv_I) : Nat × xv_I := if s.2 (3 + p) k < nI 300 then s else (s.1 + 1, xPut s.2 p k (nI 0))
def xCl (p : Nat) (I : xv_I) : Nat × xv_I := it (xCl1 p) 12 0 (0, I)
theorem p_clean_a (n : Nat) (c : Nat × Nat) (I : xv_I) (J : xv_J) {x : Int32} (hx : ¬ (¬ x < 0 ∧ ¬ nI 10 ≤ x)) : xv_Met mX10_clean 8 16 128 (sx n c) I (rx c) J [.ref 0, .int x] (xv_eq (.inr "java/lang/IndexOutOfBoundsException") (sx n c) (I) (rx c) J) := by
  refine xv_Met.of (by decide +kernel) (Nat.le_of_ble_eq_true rfl) (List.forall_mem_cons.mpr ⟨rfl, List.forall_mem_cons.mpr ⟨rfl, fun _ h => nomatch h⟩⟩) ?_
  show xv_W mX10_clean 8 16 128 _ 16 128 (sx n c) I (rx c) J 0 [some (.ref 0), some (.int x), none, none] []
  refine xv_il1 fX10_clean_0 ?_
  exact xv_callS1X (c_needPage_out n c I J hx) fX10_clean_1 YX10_needPage VX10_needPage lX10_79 rfl (Nat.le_of_ble_eq_true rfl) (by decide) (by decide) (by decide) xv_eq_i

theorem l_clean (n : Nat) (c : Nat × Nat) (J : xv_J) {p : Nat} (hp : p < 10) {Q : xv_Q} : ∀ (m k : Nat) (I : xv_I) (s : Nat), k + m = 12 → (xv_W mX10_clean 8 16 128 Q 15 122 (sx n c) (it (xCl1 p) m k (s, I)).2 (rx c) J 48 [some (.ref 0), some (.int (nI p)), some (.int (nI (it (xCl1 p) m k (s, I)).1)), some (.int (nI 12))] []) → xv_W mX10_clean 8 16 128 Q 15 122 (sx n c) I (rx c) J 8 [some (.ref 0), some (.int (nI p)), some (.int (nI s)), some (.int (nI k))] [] := by
  intro m
  induction m with
  | zero =>
    intro k I s hm i0
    obtain rfl : k = 12 := by omega
    refine xv_il3 fX10_clean_8 ?_
    refine xv_k fX10_clean_9 ?_
    refine xv_ic_ge fX10_clean_11 (fun h_11 => ?_) (fun h_11 => ?_)
    · exact i0
    · exact absurd (nI_le (Nat.le_refl _) (by decide)) h_11
  | succ m ih =>
    intro k I s hm i0
    have hk : k < 12 := by omega
    show xv_W mX10_clean 8 16 128 _ 15 122 (sx n c) I (rx c) J 8 [some (.ref 0), some (.int (nI p)), some (.int (nI s)), some (.int (nI k))] []
    refine xv_il3 fX10_clean_8 ?_
    refine xv_k fX10_clean_9 ?_
    refine xv_ic_ge fX10_clean_11 (fun h_11 => ?_) (fun h_11 => ?_)
    · exact absurd h_11 (nI_ge hk (by decide))
    · refine xv_al0 fX10_clean_14 ?_
      refine xv_getR fX10_clean_15 gX10_10 rfl (sx_0 _ _) (rx_0_0 _) ?_
      refine xv_il1 fX10_clean_18 ?_
      refine xv_il3 fX10_clean_19 ?_
      refine xv_callV2R (c_at n c _ J hp hk) fX10_clean_20 YX5_at VX5_at lX10_105 rfl rfl (sx_1 _ _) (Nat.le_of_ble_eq_true rfl) (by decide) (by decide) (by decide) ?_
      refine xv_k fX10_clean_23 ?_
      refine xv_ic_lt fX10_clean_26 (fun h_26 => ?_) (fun h_26 => ?_)
      · refine xv_iincN3 (a := 1) fX10_clean_42 (by decide) ?_
        refine xv_goto fX10_clean_45 ?_
        exact ih (k + 1) _ s (by omega) (by rw [show it (xCl1 p) (m + 1) k (s, I) = it (xCl1 p) m (k + 1) (xCl1 p k (s, I)) from rfl, xCl1, if_pos h_26] at i0; exact i0)
      · refine xv_al0 fX10_clean_29 ?_
        refine xv_getR fX10_clean_30 gX10_10 rfl (sx_0 _ _) (rx_0_0 _) ?_
        refine xv_il1 fX10_clean_33 ?_
        refine xv_il3 fX10_clean_34 ?_
        refine xv_k fX10_clean_35 ?_
        refine xv_callV3V (c_put n c _ J hp hk) fX10_clean_36 YX5_put VX5_put lX10_327 rfl rfl (sx_1 _ _) (Nat.le_of_ble_eq_true rfl) (by decide) (by decide) (by decide) ?_
        refine xv_iincN2 (a := 1) fX10_clean_39 (by decide) ?_
        refine xv_iincN3 (a := 1) fX10_clean_42 (by decide) ?_
        refine xv_goto fX10_clean_45 ?_
        exact ih (k + 1) _ (s + 1) (by omega) (by rw [show it (xCl1 p) (m + 1) k (s, I) = it (xCl1 p) m (k + 1) (xCl1 p k (s, I)) from rfl, xCl1, if_neg h_26] at i0; exact i0)

theorem p_clean_ok (n : Nat) (c : Nat × Nat) (I : xv_I) (J : xv_J) {p : Nat} (hp : p < 10) : xv_Met mX10_clean 8 16 128 (sx n c) I (rx c) J [.ref 0, .int (nI p)] (xv_eq (.inl (some (.int (nI (xCl p I).1)))) (sx n c) ((xCl p I).2) (rx c) J) := by
  refine xv_Met.of (by decide +kernel) (Nat.le_of_ble_eq_true rfl) (List.forall_mem_cons.mpr ⟨rfl, List.forall_mem_cons.mpr ⟨rfl, fun _ h => nomatch h⟩⟩) ?_
  show xv_W mX10_clean 8 16 128 _ 16 128 (sx n c) I (rx c) J 0 [some (.ref 0), some (.int (nI p)), none, none] []
  refine xv_il1 fX10_clean_0 ?_
  refine xv_callS1V (c_needPage_in n c I J hp) fX10_clean_1 YX10_needPage VX10_needPage lX10_79 rfl (Nat.le_of_ble_eq_true rfl) (by decide) (by decide) (by decide) ?_
  refine xv_k fX10_clean_4 ?_
  refine xv_is2 fX10_clean_5 ?_
  refine xv_k fX10_clean_6 ?_
  refine xv_is3 fX10_clean_7 ?_
  exact l_clean n c J hp 12 0 _ 0 rfl (by exact xv_il2 fX10_clean_48 (xv_iret fX10_clean_49 rfl rfl (xv_eq_I rfl rfl)))

theorem p_pass_a (n : Nat) (c : Nat × Nat) (I : xv_I) (J : xv_J) {x : Int32} (hx : ¬ okR 1 100 x) : xv_Met mX10_pass 8 16 128 (sx n c) I (rx c) J [.ref 0, .int x] (xv_eq (.inr "java/lang/IllegalArgumentException") (sx n c) (I) (rx c) J) := by
  refine xv_Met.of (by decide +kernel) (Nat.le_of_ble_eq_true rfl) (List.forall_mem_cons.mpr ⟨rfl, List.forall_mem_cons.mpr ⟨rfl, fun _ h => nomatch h⟩⟩) ?_
  show xv_W mX10_pass 8 16 128 _ 16 128 (sx n c) I (rx c) J 0 [some (.ref 0), some (.int x)] []
  refine xv_il1 fX10_pass_0 ?_
  refine xv_k fX10_pass_1 ?_
  refine xv_k fX10_pass_2 ?_
  exact xv_callS3X (c_needRange_out n c I J (okR_x hx)) fX10_pass_4 YX10_needRange VX10_needRange lX10_83 rfl (Nat.le_of_ble_eq_true rfl) (by decide) (by decide) (by decide) xv_eq_i

theorem p_pass_ok (n : Nat) (c : Nat × Nat) (I : xv_I) (J : xv_J) {x : Int32} (hx : okR 1 100 x) : xv_Met mX10_pass 8 16 128 (sx n c) I (rx c) J [.ref 0, .int x] (xv_eq (.inl (some (.int (I 0 9 + x)))) (sx n c) (xv_u I 0 9 (I 0 9 + x)) (rx c) J) := by
  refine xv_Met.of (by decide +kernel) (Nat.le_of_ble_eq_true rfl) (List.forall_mem_cons.mpr ⟨rfl, List.forall_mem_cons.mpr ⟨rfl, fun _ h => nomatch h⟩⟩) ?_
  show xv_W mX10_pass 8 16 128 _ 16 128 (sx n c) I (rx c) J 0 [some (.ref 0), some (.int x)] []
  refine xv_il1 fX10_pass_0 ?_
  refine xv_k fX10_pass_1 ?_
  refine xv_k fX10_pass_2 ?_
  refine xv_callS3V (c_needRange_in n c I J (hx).1 (hx).2) fX10_pass_4 YX10_needRange VX10_needRange lX10_83 rfl (Nat.le_of_ble_eq_true rfl) (by decide) (by decide) (by decide) ?_
  refine xv_al0 fX10_pass_7 ?_
  refine xv_dup_r fX10_pass_8 ?_
  refine xv_getI fX10_pass_9 gX10_287 rfl (sx_0 _ _) ?_
  refine xv_il1 fX10_pass_12 ?_
  refine xv_iadd fX10_pass_13 ?_
  refine xv_putI fX10_pass_14 gX10_287 rfl (tp10_9 _) (sx_0 _ _) ⟨rfl, rfl⟩ ?_
  refine xv_al0 fX10_pass_17 ?_
  refine xv_getI fX10_pass_18 gX10_287 rfl (sx_0 _ _) ?_
  rw [xv_u_eq]
  exact xv_iret fX10_pass_21 rfl rfl xv_eq_i

theorem p_truck_a (n : Nat) (c : Nat × Nat) (I : xv_I) (J : xv_J) {x y : Int32} (hx : ¬ okR 0 1000 x) : xv_Met mX10_truck 8 16 128 (sx n c) I (rx c) J [.ref 0, .int x, .int y] (xv_eq (.inr "java/lang/IllegalArgumentException") (sx n c) (I) (rx c) J) := by
  refine xv_Met.of (by decide +kernel) (Nat.le_of_ble_eq_true rfl) (List.forall_mem_cons.mpr ⟨rfl, List.forall_mem_cons.mpr ⟨rfl, List.forall_mem_cons.mpr ⟨rfl, fun _ h => nomatch h⟩⟩⟩) ?_
  show xv_W mX10_truck 8 16 128 _ 16 128 (sx n c) I (rx c) J 0 [some (.ref 0), some (.int x), some (.int y)] []
  refine xv_il1 fX10_truck_0 ?_
  refine xv_k fX10_truck_1 ?_
  refine xv_k fX10_truck_2 ?_
  exact xv_callS3X (c_needRange_out n c I J (okR_x hx)) fX10_truck_5 YX10_needRange VX10_needRange lX10_83 rfl (Nat.le_of_ble_eq_true rfl) (by decide) (by decide) (by decide) xv_eq_i

theorem p_truck_b (n : Nat) (c : Nat × Nat) (I : xv_I) (J : xv_J) {x y : Int32} (hx : okR 0 1000 x) (hy : ¬ okR 1 5000 y) : xv_Met mX10_truck 8 16 128 (sx n c) I (rx c) J [.ref 0, .int x, .int y] (xv_eq (.inr "java/lang/IllegalArgumentException") (sx n c) (I) (rx c) J) := by
  refine xv_Met.of (by decide +kernel) (Nat.le_of_ble_eq_true rfl) (List.forall_mem_cons.mpr ⟨rfl, List.forall_mem_cons.mpr ⟨rfl, List.forall_mem_cons.mpr ⟨rfl, fun _ h => nomatch h⟩⟩⟩) ?_
  show xv_W mX10_truck 8 16 128 _ 16 128 (sx n c) I (rx c) J 0 [some (.ref 0), some (.int x), some (.int y)] []
  refine xv_il1 fX10_truck_0 ?_
  refine xv_k fX10_truck_1 ?_
  refine xv_k fX10_truck_2 ?_
  refine xv_callS3V (c_needRange_in n c I J (hx).1 (hx).2) fX10_truck_5 YX10_needRange VX10_needRange lX10_83 rfl (Nat.le_of_ble_eq_true rfl) (by decide) (by decide) (by decide) ?_
  refine xv_il2 fX10_truck_8 ?_
  refine xv_k fX10_truck_9 ?_
  refine xv_k fX10_truck_10 ?_
  exact xv_callS3X (c_needRange_out n c I J (okR_x hy)) fX10_truck_13 YX10_needRange VX10_needRange lX10_83 rfl (Nat.le_of_ble_eq_true rfl) (by decide) (by decide) (by decide) xv_eq_i

theorem p_truck_c (n : Nat) (c : Nat × Nat) (I : xv_I) (J : xv_J) {x y : Int32} (hx : okR 0 1000 x) (hy : okR 1 5000 y) (hc : I 41 2 = nI 6) : xv_Met mX10_truck 8 16 128 (sx n c) I (rx c) J [.ref 0, .int x, .int y] (xv_eq (.inr "java/lang/IllegalStateException") (sx n c) (I) (rx c) J) := by
  refine xv_Met.of (by decide +kernel) (Nat.le_of_ble_eq_true rfl) (List.forall_mem_cons.mpr ⟨rfl, List.forall_mem_cons.mpr ⟨rfl, List.forall_mem_cons.mpr ⟨rfl, fun _ h => nomatch h⟩⟩⟩) ?_
  show xv_W mX10_truck 8 16 128 _ 16 128 (sx n c) I (rx c) J 0 [some (.ref 0), some (.int x), some (.int y)] []
  refine xv_il1 fX10_truck_0 ?_
  refine xv_k fX10_truck_1 ?_
  refine xv_k fX10_truck_2 ?_
  refine xv_callS3V (c_needRange_in n c I J (hx).1 (hx).2) fX10_truck_5 YX10_needRange VX10_needRange lX10_83 rfl (Nat.le_of_ble_eq_true rfl) (by decide) (by decide) (by decide) ?_
  refine xv_il2 fX10_truck_8 ?_
  refine xv_k fX10_truck_9 ?_
  refine xv_k fX10_truck_10 ?_
  refine xv_callS3V (c_needRange_in n c I J (hy).1 (hy).2) fX10_truck_13 YX10_needRange VX10_needRange lX10_83 rfl (Nat.le_of_ble_eq_true rfl) (by decide) (by decide) (by decide) ?_
  refine xv_al0 fX10_truck_16 ?_
  refine xv_getR fX10_truck_17 gX10_51 rfl (sx_0 _ _) (rx_0_8 _) ?_
  refine xv_getI fX10_truck_20 gX10_333 rfl (sx_41 _ _) ?_
  rw [hc]
  refine xv_k fX10_truck_23 ?_
  refine xv_ic_lt fX10_truck_25 (fun h_25 => ?_) (fun h_25 => ?_)
  · exact absurd h_25 (by decide)
  · exact xv_throw fX10_truck_28 hX10_334 rfl (by decide) (by decide) (by decide) (by decide) xv_eq_i

theorem p_truck_ok (n : Nat) (c : Nat × Nat) (I : xv_I) (J : xv_J) {x y : Int32} (hx : okR 0 1000 x) (hy : okR 1 5000 y) {w : Nat} (hw : w < 6) (hc : I 41 2 = nI w) : xv_Met mX10_truck 8 16 128 (sx n c) I (rx c) J [.ref 0, .int x, .int y] (xv_eq (.inl (some (.int (nI w)))) (sx n c) (xv_u (xv_u (xv_u I 42 w x) 43 w y) 41 2 (nI (w + 1))) (rx c) J) := by
  refine xv_Met.of (by decide +kernel) (Nat.le_of_ble_eq_true rfl) (List.forall_mem_cons.mpr ⟨rfl, List.forall_mem_cons.mpr ⟨rfl, List.forall_mem_cons.mpr ⟨rfl, fun _ h => nomatch h⟩⟩⟩) ?_
  show xv_W mX10_truck 8 16 128 _ 16 128 (sx n c) I (rx c) J 0 [some (.ref 0), some (.int x), some (.int y)] []
  refine xv_il1 fX10_truck_0 ?_
  refine xv_k fX10_truck_1 ?_
  refine xv_k fX10_truck_2 ?_
  refine xv_callS3V (c_needRange_in n c I J (hx).1 (hx).2) fX10_truck_5 YX10_needRange VX10_needRange lX10_83 rfl (Nat.le_of_ble_eq_true rfl) (by decide) (by decide) (by decide) ?_
  refine xv_il2 fX10_truck_8 ?_
  refine xv_k fX10_truck_9 ?_
  refine xv_k fX10_truck_10 ?_
  refine xv_callS3V (c_needRange_in n c I J (hy).1 (hy).2) fX10_truck_13 YX10_needRange VX10_needRange lX10_83 rfl (Nat.le_of_ble_eq_true rfl) (by decide) (by decide) (by decide) ?_
  refine xv_al0 fX10_truck_16 ?_
  refine xv_getR fX10_truck_17 gX10_51 rfl (sx_0 _ _) (rx_0_8 _) ?_
  refine xv_getI fX10_truck_20 gX10_333 rfl (sx_41 _ _) ?_
  rw [hc]
  refine xv_k fX10_truck_23 ?_
  refine xv_ic_lt fX10_truck_25 (fun h_25 => ?_) (fun h_25 => ?_)
  · refine xv_al0 fX10_truck_39 ?_
    refine xv_getR fX10_truck_40 gX10_51 rfl (sx_0 _ _) (rx_0_8 _) ?_
    refine xv_il1 fX10_truck_43 ?_
    refine xv_il2 fX10_truck_44 ?_
    refine xv_callV2V (c_trAdd n c I J hw hc) fX10_truck_45 YX7_add VX7_add lX10_336 rfl rfl (sx_41 _ _) (Nat.le_of_ble_eq_true rfl) (by decide) (by decide) (by decide) ?_
    refine xv_al0 fX10_truck_48 ?_
    refine xv_getR fX10_truck_49 gX10_51 rfl (sx_0 _ _) (rx_0_8 _) ?_
    refine xv_getI fX10_truck_52 gX10_333 rfl (sx_41 _ _) ?_
    rw [xv_u_eq]
    refine xv_k fX10_truck_55 ?_
    refine xv_isub fX10_truck_56 ?_
    rw [show nI (w + 1) - nI 1 = nI w from nI_sub (Nat.succ_le_succ (Nat.zero_le w))]
    exact xv_iret fX10_truck_57 rfl rfl xv_eq_i
  · exact absurd (nI_lt hw (by decide)) h_25

theorem p_late_a (n : Nat) (c : Nat × Nat) (I : xv_I) (J : xv_J) {x : Int32} (hx : x < 0 ∨ ¬ x < I 29 2) {y : Int32} : xv_Met mX10_late 8 16 128 (sx n c) I (rx c) J [.ref 0, .int x, .int y] (xv_eq (.inr "java/lang/IndexOutOfBoundsException") (sx n c) (I) (rx c) J) := by
  refine xv_Met.of (by decide +kernel) (Nat.le_of_ble_eq_true rfl) (List.forall_mem_cons.mpr ⟨rfl, List.forall_mem_cons.mpr ⟨rfl, List.forall_mem_cons.mpr ⟨rfl, fun _ h => nomatch h⟩⟩⟩) ?_
  show xv_W mX10_late 8 16 128 _ 16 128 (sx n c) I (rx c) J 0 [some (.ref 0), some (.int x), some (.int y)] []
  refine xv_al0 fX10_late_0 ?_
  refine xv_il1 fX10_late_1 ?_
  exact xv_callV1X (c_needEd_out n c I J hx) fX10_late_2 YX10_needEdition VX10_needEdition lX10_294 rfl rfl (sx_0 _ _) (Nat.le_of_ble_eq_true rfl) (by decide) (by decide) (by decide) xv_eq_i

theorem p_late_b (n : Nat) (c : Nat × Nat) (I : xv_I) (J : xv_J) {e w : Nat} (he : e < w) (hw : w ≤ 8) (hc : I 29 2 = nI w) {y : Int32} (hy : y < 0 ∨ ¬ y < I 41 2) : xv_Met mX10_late 8 16 128 (sx n c) I (rx c) J [.ref 0, .int (nI e), .int y] (xv_eq (.inr "java/lang/IndexOutOfBoundsException") (sx n c) (I) (rx c) J) := by
  refine xv_Met.of (by decide +kernel) (Nat.le_of_ble_eq_true rfl) (List.forall_mem_cons.mpr ⟨rfl, List.forall_mem_cons.mpr ⟨rfl, List.forall_mem_cons.mpr ⟨rfl, fun _ h => nomatch h⟩⟩⟩) ?_
  show xv_W mX10_late 8 16 128 _ 16 128 (sx n c) I (rx c) J 0 [some (.ref 0), some (.int (nI e)), some (.int y)] []
  refine xv_al0 fX10_late_0 ?_
  refine xv_il1 fX10_late_1 ?_
  refine xv_callV1V (c_needEd_in n c I J (nI_pos (by omega)) (by rw [hc]; exact nI_lt he (by omega))) fX10_late_2 YX10_needEdition VX10_needEdition lX10_294 rfl rfl (sx_0 _ _) (Nat.le_of_ble_eq_true rfl) (by decide) (by decide) (by decide) ?_
  refine xv_il2 fX10_late_5 ?_
  refine xv_if_lt fX10_late_6 (fun h_6 => ?_) (fun h_6 => ?_)
  · exact xv_throw fX10_late_20 hX10_339 rfl (by decide) (by decide) (by decide) (by decide) xv_eq_i
  · refine xv_il2 fX10_late_9 ?_
    refine xv_al0 fX10_late_10 ?_
    refine xv_getR fX10_late_11 gX10_51 rfl (sx_0 _ _) (rx_0_8 _) ?_
    refine xv_getI fX10_late_14 gX10_333 rfl (sx_41 _ _) ?_
    refine xv_ic_lt fX10_late_17 (fun h_17 => ?_) (fun h_17 => ?_)
    · exact absurd h_17 (hy.resolve_left h_6)
    · exact xv_throw fX10_late_20 hX10_339 rfl (by decide) (by decide) (by decide) (by decide) xv_eq_i

theorem p_late_ok (n : Nat) (c : Nat × Nat) (I : xv_I) (J : xv_J) {e w : Nat} (he : e < w) (hw : w ≤ 8) (hc : I 29 2 = nI w) {b wt : Nat} (hb : b < wt) (hwt : wt ≤ 6) (hct : I 41 2 = nI wt) : xv_Met mX10_late 8 16 128 (sx n c) I (rx c) J [.ref 0, .int (nI e), .int (nI b)] (xv_eq (.inl (some (.int (xLate I wt b (I 39 e))))) (sx n c) (I) (rx c) J) := by
  refine xv_Met.of (by decide +kernel) (Nat.le_of_ble_eq_true rfl) (List.forall_mem_cons.mpr ⟨rfl, List.forall_mem_cons.mpr ⟨rfl, List.forall_mem_cons.mpr ⟨rfl, fun _ h => nomatch h⟩⟩⟩) ?_
  show xv_W mX10_late 8 16 128 _ 16 128 (sx n c) I (rx c) J 0 [some (.ref 0), some (.int (nI e)), some (.int (nI b))] []
  refine xv_al0 fX10_late_0 ?_
  refine xv_il1 fX10_late_1 ?_
  refine xv_callV1V (c_needEd_in n c I J (nI_pos (by omega)) (by rw [hc]; exact nI_lt he (by omega))) fX10_late_2 YX10_needEdition VX10_needEdition lX10_294 rfl rfl (sx_0 _ _) (Nat.le_of_ble_eq_true rfl) (by decide) (by decide) (by decide) ?_
  refine xv_il2 fX10_late_5 ?_
  refine xv_if_lt fX10_late_6 (fun h_6 => ?_) (fun h_6 => ?_)
  · exact absurd h_6 (nI_pos (by omega))
  · refine xv_il2 fX10_late_9 ?_
    refine xv_al0 fX10_late_10 ?_
    refine xv_getR fX10_late_11 gX10_51 rfl (sx_0 _ _) (rx_0_8 _) ?_
    refine xv_getI fX10_late_14 gX10_333 rfl (sx_41 _ _) ?_
    rw [hct]
    refine xv_ic_lt fX10_late_17 (fun h_17 => ?_) (fun h_17 => ?_)
    · refine xv_al0 fX10_late_31 ?_
      refine xv_getR fX10_late_32 gX10_51 rfl (sx_0 _ _) (rx_0_8 _) ?_
      refine xv_il2 fX10_late_35 ?_
      refine xv_al0 fX10_late_36 ?_
      refine xv_getR fX10_late_37 gX10_44 rfl (sx_0 _ _) (rx_0_7 _) ?_
      refine xv_il1 fX10_late_40 ?_
      refine xv_callV1R (c_minuteOf n c I J he hw hc) fX10_late_41 YX1_minuteOf VX1_minuteOf lX10_341 rfl rfl (sx_29 _ _) (Nat.le_of_ble_eq_true rfl) (by decide) (by decide) (by decide) ?_
      refine xv_callV2R (c_late0 n c I J hwt hct (b := b) (by omega)) fX10_late_44 YX7_minutesLate VX7_minutesLate lX10_344 rfl rfl (sx_41 _ _) (Nat.le_of_ble_eq_true rfl) (by decide) (by decide) (by decide) ?_
      exact xv_iret fX10_late_47 rfl rfl xv_eq_i
    · exact absurd (nI_lt hb (by omega)) h_17

theorem p_word_a (n : Nat) (c : Nat × Nat) (I : xv_I) (J : xv_J) {x y : Int32} (hx : ¬ okR 1 20 x) : xv_Met mX10_word 8 16 128 (sx n c) I (rx c) J [.ref 0, .int x, .int y] (xv_eq (.inr "java/lang/IllegalArgumentException") (sx n c) (I) (rx c) J) := by
  refine xv_Met.of (by decide +kernel) (Nat.le_of_ble_eq_true rfl) (List.forall_mem_cons.mpr ⟨rfl, List.forall_mem_cons.mpr ⟨rfl, List.forall_mem_cons.mpr ⟨rfl, fun _ h => nomatch h⟩⟩⟩) ?_
  show xv_W mX10_word 8 16 128 _ 16 128 (sx n c) I (rx c) J 0 [some (.ref 0), some (.int x), some (.int y)] []
  refine xv_il1 fX10_word_0 ?_
  refine xv_k fX10_word_1 ?_
  refine xv_k fX10_word_2 ?_
  exact xv_callS3X (c_needRange_out n c I J (okR_x hx)) fX10_word_4 YX10_needRange VX10_needRange lX10_83 rfl (Nat.le_of_ble_eq_true rfl) (by decide) (by decide) (by decide) xv_eq_i

theorem p_word_b (n : Nat) (c : Nat × Nat) (I : xv_I) (J : xv_J) {x y : Int32} (hx : okR 1 20 x) (hy : y < nI 1 ∨ ¬ y ≤ x) : xv_Met mX10_word 8 16 128 (sx n c) I (rx c) J [.ref 0, .int x, .int y] (xv_eq (.inr "java/lang/IllegalArgumentException") (sx n c) (I) (rx c) J) := by
  refine xv_Met.of (by decide +kernel) (Nat.le_of_ble_eq_true rfl) (List.forall_mem_cons.mpr ⟨rfl, List.forall_mem_cons.mpr ⟨rfl, List.forall_mem_cons.mpr ⟨rfl, fun _ h => nomatch h⟩⟩⟩) ?_
  show xv_W mX10_word 8 16 128 _ 16 128 (sx n c) I (rx c) J 0 [some (.ref 0), some (.int x), some (.int y)] []
  refine xv_il1 fX10_word_0 ?_
  refine xv_k fX10_word_1 ?_
  refine xv_k fX10_word_2 ?_
  refine xv_callS3V (c_needRange_in n c I J (hx).1 (hx).2) fX10_word_4 YX10_needRange VX10_needRange lX10_83 rfl (Nat.le_of_ble_eq_true rfl) (by decide) (by decide) (by decide) ?_
  refine xv_il2 fX10_word_7 ?_
  refine xv_k fX10_word_8 ?_
  refine xv_il1 fX10_word_9 ?_
  exact xv_callS3X (c_needRange_out n c I J hy) fX10_word_10 YX10_needRange VX10_needRange lX10_83 rfl (Nat.le_of_ble_eq_true rfl) (by decide) (by decide) (by decide) xv_eq_i

theorem p_word_c (n : Nat) (c : Nat × Nat) (I : xv_I) (J : xv_J) {x y : Int32} (hx : okR 1 20 x) (hy : ¬ y < nI 1 ∧ y ≤ x) (hc : I 44 2 = nI 5) : xv_Met mX10_word 8 16 128 (sx n c) I (rx c) J [.ref 0, .int x, .int y] (xv_eq (.inr "java/lang/IllegalStateException") (sx n c) (I) (rx c) J) := by
  refine xv_Met.of (by decide +kernel) (Nat.le_of_ble_eq_true rfl) (List.forall_mem_cons.mpr ⟨rfl, List.forall_mem_cons.mpr ⟨rfl, List.forall_mem_cons.mpr ⟨rfl, fun _ h => nomatch h⟩⟩⟩) ?_
  show xv_W mX10_word 8 16 128 _ 16 128 (sx n c) I (rx c) J 0 [some (.ref 0), some (.int x), some (.int y)] []
  refine xv_il1 fX10_word_0 ?_
  refine xv_k fX10_word_1 ?_
  refine xv_k fX10_word_2 ?_
  refine xv_callS3V (c_needRange_in n c I J (hx).1 (hx).2) fX10_word_4 YX10_needRange VX10_needRange lX10_83 rfl (Nat.le_of_ble_eq_true rfl) (by decide) (by decide) (by decide) ?_
  refine xv_il2 fX10_word_7 ?_
  refine xv_k fX10_word_8 ?_
  refine xv_il1 fX10_word_9 ?_
  refine xv_callS3V (c_needRange_in n c I J hy.1 hy.2) fX10_word_10 YX10_needRange VX10_needRange lX10_83 rfl (Nat.le_of_ble_eq_true rfl) (by decide) (by decide) (by decide) ?_
  refine xv_al0 fX10_word_13 ?_
  refine xv_getR fX10_word_14 gX10_58 rfl (sx_0 _ _) (rx_0_10 _) ?_
  refine xv_getI fX10_word_17 gX10_347 rfl (sx_44 _ _) ?_
  rw [hc]
  refine xv_k fX10_word_20 ?_
  refine xv_ic_lt fX10_word_21 (fun h_21 => ?_) (fun h_21 => ?_)
  · exact absurd h_21 (by decide)
  · exact xv_throw fX10_word_24 hX10_348 rfl (by decide) (by decide) (by decide) (by decide) xv_eq_i

theorem p_word_ok (n : Nat) (c : Nat × Nat) (I : xv_I) (J : xv_J) {x y : Int32} (hx : okR 1 20 x) (hy : ¬ y < nI 1 ∧ y ≤ x) {w : Nat} (hw : w < 5) (hc : I 44 2 = nI w) : xv_Met mX10_word 8 16 128 (sx n c) I (rx c) J [.ref 0, .int x, .int y] (xv_eq (.inl (some (.int (nI (w + 1))))) (sx n c) (xv_u (xv_u (xv_u I 45 w x) 46 w y) 44 2 (nI (w + 1))) (rx c) J) := by
  refine xv_Met.of (by decide +kernel) (Nat.le_of_ble_eq_true rfl) (List.forall_mem_cons.mpr ⟨rfl, List.forall_mem_cons.mpr ⟨rfl, List.forall_mem_cons.mpr ⟨rfl, fun _ h => nomatch h⟩⟩⟩) ?_
  show xv_W mX10_word 8 16 128 _ 16 128 (sx n c) I (rx c) J 0 [some (.ref 0), some (.int x), some (.int y)] []
  refine xv_il1 fX10_word_0 ?_
  refine xv_k fX10_word_1 ?_
  refine xv_k fX10_word_2 ?_
  refine xv_callS3V (c_needRange_in n c I J (hx).1 (hx).2) fX10_word_4 YX10_needRange VX10_needRange lX10_83 rfl (Nat.le_of_ble_eq_true rfl) (by decide) (by decide) (by decide) ?_
  refine xv_il2 fX10_word_7 ?_
  refine xv_k fX10_word_8 ?_
  refine xv_il1 fX10_word_9 ?_
  refine xv_callS3V (c_needRange_in n c I J hy.1 hy.2) fX10_word_10 YX10_needRange VX10_needRange lX10_83 rfl (Nat.le_of_ble_eq_true rfl) (by decide) (by decide) (by decide) ?_
  refine xv_al0 fX10_word_13 ?_
  refine xv_getR fX10_word_14 gX10_58 rfl (sx_0 _ _) (rx_0_10 _) ?_
  refine xv_getI fX10_word_17 gX10_347 rfl (sx_44 _ _) ?_
  rw [hc]
  refine xv_k fX10_word_20 ?_
  refine xv_ic_lt fX10_word_21 (fun h_21 => ?_) (fun h_21 => ?_)
  · refine xv_al0 fX10_word_35 ?_
    refine xv_getR fX10_word_36 gX10_58 rfl (sx_0 _ _) (rx_0_10 _) ?_
    refine xv_il1 fX10_word_39 ?_
    refine xv_il2 fX10_word_40 ?_
    refine xv_callV2V (c_hlAdd n c I J hw hc) fX10_word_41 YX2_add VX2_add lX10_350 rfl rfl (sx_44 _ _) (Nat.le_of_ble_eq_true rfl) (by decide) (by decide) (by decide) ?_
    refine xv_al0 fX10_word_44 ?_
    refine xv_getR fX10_word_45 gX10_58 rfl (sx_0 _ _) (rx_0_10 _) ?_
    refine xv_getI fX10_word_48 gX10_347 rfl (sx_44 _ _) ?_
    rw [xv_u_eq]
    exact xv_iret fX10_word_51 rfl rfl xv_eq_i
  · exact absurd (nI_lt hw (by decide)) h_21

theorem p_fit_a (n : Nat) (c : Nat × Nat) (I : xv_I) (J : xv_J) {x : Int32} (hx : ¬ okR 0 200 x) : xv_Met mX10_fit 8 16 128 (sx n c) I (rx c) J [.ref 0, .int x] (xv_eq (.inr "java/lang/IllegalArgumentException") (sx n c) (I) (rx c) J) := by
  refine xv_Met.of (by decide +kernel) (Nat.le_of_ble_eq_true rfl) (List.forall_mem_cons.mpr ⟨rfl, List.forall_mem_cons.mpr ⟨rfl, fun _ h => nomatch h⟩⟩) ?_
  show xv_W mX10_fit 8 16 128 _ 16 128 (sx n c) I (rx c) J 0 [some (.ref 0), some (.int x)] []
  refine xv_il1 fX10_fit_0 ?_
  refine xv_k fX10_fit_1 ?_
  refine xv_k fX10_fit_2 ?_
  exact xv_callS3X (c_needRange_out n c I J (okR_x hx)) fX10_fit_5 YX10_needRange VX10_needRange lX10_83 rfl (Nat.le_of_ble_eq_true rfl) (by decide) (by decide) (by decide) xv_eq_i

theorem p_fit_no (n : Nat) (c : Nat × Nat) (I : xv_I) (J : xv_J) {x : Int32} (hx : okR 0 200 x) (hc : I 44 2 = 0) : xv_Met mX10_fit 8 16 128 (sx n c) I (rx c) J [.ref 0, .int x] (xv_eq (.inl (some (.int (nI 0)))) (sx n c) (I) (rx c) J) := by
  refine xv_Met.of (by decide +kernel) (Nat.le_of_ble_eq_true rfl) (List.forall_mem_cons.mpr ⟨rfl, List.forall_mem_cons.mpr ⟨rfl, fun _ h => nomatch h⟩⟩) ?_
  show xv_W mX10_fit 8 16 128 _ 16 128 (sx n c) I (rx c) J 0 [some (.ref 0), some (.int x)] []
  refine xv_il1 fX10_fit_0 ?_
  refine xv_k fX10_fit_1 ?_
  refine xv_k fX10_fit_2 ?_
  refine xv_callS3V (c_needRange_in n c I J (hx).1 (hx).2) fX10_fit_5 YX10_needRange VX10_needRange lX10_83 rfl (Nat.le_of_ble_eq_true rfl) (by decide) (by decide) (by decide) ?_
  refine xv_al0 fX10_fit_8 ?_
  refine xv_getR fX10_fit_9 gX10_58 rfl (sx_0 _ _) (rx_0_10 _) ?_
  refine xv_getI fX10_fit_12 gX10_347 rfl (sx_44 _ _) ?_
  refine xv_if_ne fX10_fit_15 (fun h_15 => ?_) (fun h_15 => ?_)
  · exact absurd hc h_15
  · refine xv_k fX10_fit_18 ?_
    exact xv_iret fX10_fit_19 rfl rfl xv_eq_i

theorem p_fit_ok (n : Nat) (c : Nat × Nat) (I : xv_I) (J : xv_J) {x : Int32} (hx : okR 0 200 x) {w : Nat} (hw : w ≤ 5) (hw1 : 0 < w) (hc : I 44 2 = nI w) : xv_Met mX10_fit 8 16 128 (sx n c) I (rx c) J [.ref 0, .int x] (xv_eq (.inl (some (.int (xFit I w x)))) (sx n c) (I) (rx c) J) := by
  refine xv_Met.of (by decide +kernel) (Nat.le_of_ble_eq_true rfl) (List.forall_mem_cons.mpr ⟨rfl, List.forall_mem_cons.mpr ⟨rfl, fun _ h => nomatch h⟩⟩) ?_
  show xv_W mX10_fit 8 16 128 _ 16 128 (sx n c) I (rx c) J 0 [some (.ref 0), some (.int x)] []
  refine xv_il1 fX10_fit_0 ?_
  refine xv_k fX10_fit_1 ?_
  refine xv_k fX10_fit_2 ?_
  refine xv_callS3V (c_needRange_in n c I J (hx).1 (hx).2) fX10_fit_5 YX10_needRange VX10_needRange lX10_83 rfl (Nat.le_of_ble_eq_true rfl) (by decide) (by decide) (by decide) ?_
  refine xv_al0 fX10_fit_8 ?_
  refine xv_getR fX10_fit_9 gX10_58 rfl (sx_0 _ _) (rx_0_10 _) ?_
  refine xv_getI fX10_fit_12 gX10_347 rfl (sx_44 _ _) ?_
  refine xv_if_ne fX10_fit_15 (fun h_15 => ?_) (fun h_15 => ?_)
  · refine xv_al0 fX10_fit_20 ?_
    refine xv_getR fX10_fit_21 gX10_58 rfl (sx_0 _ _) (rx_0_10 _) ?_
    refine xv_il1 fX10_fit_24 ?_
    refine xv_callV1R (c_best n c I J hw hc) fX10_fit_25 YX2_bestWithin VX2_bestWithin lX10_351 rfl rfl (sx_44 _ _) (Nat.le_of_ble_eq_true rfl) (by decide) (by decide) (by decide) ?_
    exact xv_iret fX10_fit_28 rfl rfl xv_eq_i
  · exact absurd (hc.symm.trans h_15) (nI_n0 (by omega) (by omega))

theorem p_drop_ok (n : Nat) (c : Nat × Nat) (I : xv_I) (J : xv_J)  : xv_Met mX10_dropWords 8 16 128 (sx n c) I (rx c) J [.ref 0] (xv_eq (.inl (some (.int (I 44 2)))) (sx n c) (xv_u I 44 2 (nI 0)) (rx c) J) := by
  refine xv_Met.of (by decide +kernel) (Nat.le_of_ble_eq_true rfl) (List.forall_mem_cons.mpr ⟨rfl, fun _ h => nomatch h⟩) ?_
  show xv_W mX10_dropWords 8 16 128 _ 16 128 (sx n c) I (rx c) J 0 [some (.ref 0), none] []
  refine xv_al0 fX10_dropWords_0 ?_
  refine xv_getR fX10_dropWords_1 gX10_58 rfl (sx_0 _ _) (rx_0_10 _) ?_
  refine xv_getI fX10_dropWords_4 gX10_347 rfl (sx_44 _ _) ?_
  refine xv_is1 fX10_dropWords_7 ?_
  refine xv_al0 fX10_dropWords_8 ?_
  refine xv_getR fX10_dropWords_9 gX10_58 rfl (sx_0 _ _) (rx_0_10 _) ?_
  refine xv_k fX10_dropWords_12 ?_
  refine xv_putI fX10_dropWords_13 gX10_347 rfl (tp2_2 _) (sx_44 _ _) ⟨rfl, rfl⟩ ?_
  refine xv_il1 fX10_dropWords_16 ?_
  exact xv_iret fX10_dropWords_17 rfl rfl xv_eq_i

theorem p_weigh_a (n : Nat) (c : Nat × Nat) (I : xv_I) (J : xv_J) {x y : Int32} (hx : ¬ okR 0 5 x) : xv_Met mX10_weigh 8 16 128 (sx n c) I (rx c) J [.ref 0, .int x, .int y] (xv_eq (.inr "java/lang/IllegalArgumentException") (sx n c) (I) (rx c) J) := by
  refine xv_Met.of (by decide +kernel) (Nat.le_of_ble_eq_true rfl) (List.forall_mem_cons.mpr ⟨rfl, List.forall_mem_cons.mpr ⟨rfl, List.forall_mem_cons.mpr ⟨rfl, fun _ h => nomatch h⟩⟩⟩) ?_
  show xv_W mX10_weigh 8 16 128 _ 16 128 (sx n c) I (rx c) J 0 [some (.ref 0), some (.int x), some (.int y), none] []
  refine xv_il1 fX10_weigh_0 ?_
  refine xv_k fX10_weigh_1 ?_
  refine xv_k fX10_weigh_2 ?_
  exact xv_callS3X (c_needRange_out n c I J (okR_x hx)) fX10_weigh_3 YX10_needRange VX10_needRange lX10_83 rfl (Nat.le_of_ble_eq_true rfl) (by decide) (by decide) (by decide) xv_eq_i

theorem p_weigh_b (n : Nat) (c : Nat × Nat) (I : xv_I) (J : xv_J) {x y : Int32} (hx : okR 0 5 x) (hy : ¬ okR 0 999999 y) : xv_Met mX10_weigh 8 16 128 (sx n c) I (rx c) J [.ref 0, .int x, .int y] (xv_eq (.inr "java/lang/IllegalArgumentException") (sx n c) (I) (rx c) J) := by
  refine xv_Met.of (by decide +kernel) (Nat.le_of_ble_eq_true rfl) (List.forall_mem_cons.mpr ⟨rfl, List.forall_mem_cons.mpr ⟨rfl, List.forall_mem_cons.mpr ⟨rfl, fun _ h => nomatch h⟩⟩⟩) ?_
  show xv_W mX10_weigh 8 16 128 _ 16 128 (sx n c) I (rx c) J 0 [some (.ref 0), some (.int x), some (.int y), none] []
  refine xv_il1 fX10_weigh_0 ?_
  refine xv_k fX10_weigh_1 ?_
  refine xv_k fX10_weigh_2 ?_
  refine xv_callS3V (c_needRange_in n c I J (hx).1 (hx).2) fX10_weigh_3 YX10_needRange VX10_needRange lX10_83 rfl (Nat.le_of_ble_eq_true rfl) (by decide) (by decide) (by decide) ?_
  refine xv_il2 fX10_weigh_6 ?_
  refine xv_k fX10_weigh_7 ?_
  refine xv_kw fX10_weigh_8 cwX10_354 ?_
  exact xv_callS3X (c_needRange_out n c I J (okR_x hy)) fX10_weigh_11 YX10_needRange VX10_needRange lX10_83 rfl (Nat.le_of_ble_eq_true rfl) (by decide) (by decide) (by decide) xv_eq_i

theorem p_weigh_ok (n : Nat) (c : Nat × Nat) (I : xv_I) (J : xv_J) {k : Nat} {y : Int32} (hk : k < 6) (hy : okR 0 999999 y) : xv_Met mX10_weigh 8 16 128 (sx n c) I (rx c) J [.ref 0, .int (nI k), .int y] (xv_eq (.inl (some (.int (I 47 k)))) (sx n c) (xv_u I 47 k y) (rx c) J) := by
  refine xv_Met.of (by decide +kernel) (Nat.le_of_ble_eq_true rfl) (List.forall_mem_cons.mpr ⟨rfl, List.forall_mem_cons.mpr ⟨rfl, List.forall_mem_cons.mpr ⟨rfl, fun _ h => nomatch h⟩⟩⟩) ?_
  show xv_W mX10_weigh 8 16 128 _ 16 128 (sx n c) I (rx c) J 0 [some (.ref 0), some (.int (nI k)), some (.int y), none] []
  refine xv_il1 fX10_weigh_0 ?_
  refine xv_k fX10_weigh_1 ?_
  refine xv_k fX10_weigh_2 ?_
  refine xv_callS3V (c_needRange_in n c I J ((okR_n (Nat.zero_le _) (by omega) (by decide) : okR 0 5 (nI k))).1 ((okR_n (Nat.zero_le _) (by omega) (by decide) : okR 0 5 (nI k))).2) fX10_weigh_3 YX10_needRange VX10_needRange lX10_83 rfl (Nat.le_of_ble_eq_true rfl) (by decide) (by decide) (by decide) ?_
  refine xv_il2 fX10_weigh_6 ?_
  refine xv_k fX10_weigh_7 ?_
  refine xv_kw fX10_weigh_8 cwX10_354 ?_
  refine xv_callS3V (c_needRange_in n c I J (hy).1 (hy).2) fX10_weigh_11 YX10_needRange VX10_needRange lX10_83 rfl (Nat.le_of_ble_eq_true rfl) (by decide) (by decide) (by decide) ?_
  refine xv_al0 fX10_weigh_14 ?_
  refine xv_getR fX10_weigh_15 gX10_62 rfl (sx_0 _ _) (rx_0_11 _) ?_
  refine xv_il1 fX10_weigh_18 ?_
  refine xv_ialdN fX10_weigh_19 (sx_47 _ _) (⟨hk, by decide⟩) ?_
  refine xv_is3 fX10_weigh_20 ?_
  refine xv_al0 fX10_weigh_21 ?_
  refine xv_getR fX10_weigh_22 gX10_62 rfl (sx_0 _ _) (rx_0_11 _) ?_
  refine xv_il1 fX10_weigh_25 ?_
  refine xv_il2 fX10_weigh_26 ?_
  refine xv_iastN fX10_weigh_27 (sx_47 _ _) (⟨hk, by decide⟩) ?_
  refine xv_il3 fX10_weigh_28 ?_
  exact xv_iret fX10_weigh_29 rfl rfl xv_eq_i

def xWt1 (I : xv_I) (r k : Nat) (s : Int32) : Int32 := s + xDig (I 47 r) 6 k
def xWt2 (I : xv_I) (f w r : Nat) (s : Int32) : Int32 := it (xWt1 I r) w f s
/-- the weight of the cutting from row t and column f, w wide and h high -/
def xWt (I : xv_I) (t f w h : Nat) : Int32 := it (xWt2 I f w) h t (nI 0)
theorem l_wt1 (n : Nat) (c : Nat × Nat) (I : xv_I) (J : xv_J) {t f w h : Nat} (hr : t + h ≤ 6) (hf : f + w ≤ 6) {r : Nat} (hr2 : r < 6) {Q : xv_Q} : ∀ (m k : Nat) (s : Int32), k + m = f + w → (xv_W mX10_weightOf 1 0 0 Q 0 0 (sx n c) I (rx c) J 65 (some (.ref 0) :: some (.int (nI t)) :: some (.int (nI f)) :: some (.int (nI w)) :: some (.int (nI h)) :: some (.int (it (xWt1 I r) m k s)) :: some (.int (nI r)) :: some (.int (nI (f + w))) :: []) []) → xv_W mX10_weightOf 1 0 0 Q 0 0 (sx n c) I (rx c) J 25 (some (.ref 0) :: some (.int (nI t)) :: some (.int (nI f)) :: some (.int (nI w)) :: some (.int (nI h)) :: some (.int s) :: some (.int (nI r)) :: some (.int (nI k)) :: []) [] := by
  intro m
  induction m with
  | zero =>
    intro k s hm i0
    obtain rfl : k = f + w := by omega
    refine xv_il7 fX10_weightOf_25 ?_
    refine xv_il2 fX10_weightOf_27 ?_
    refine xv_il3 fX10_weightOf_28 ?_
    refine xv_iadd fX10_weightOf_29 ?_
    rw [nI_add]
    refine xv_ic_ge fX10_weightOf_30 (fun h_30 => ?_) (fun h_30 => ?_)
    · exact i0
    · exact absurd (nI_le (Nat.le_refl _) (by omega)) h_30
  | succ m ih =>
    intro k s hm i0
    have hk : k < f + w := by omega
    show xv_W mX10_weightOf 1 0 0 _ 0 0 (sx n c) I (rx c) J 25 (some (.ref 0) :: some (.int (nI t)) :: some (.int (nI f)) :: some (.int (nI w)) :: some (.int (nI h)) :: some (.int s) :: some (.int (nI r)) :: some (.int (nI k)) :: []) []
    refine xv_il7 fX10_weightOf_25 ?_
    refine xv_il2 fX10_weightOf_27 ?_
    refine xv_il3 fX10_weightOf_28 ?_
    refine xv_iadd fX10_weightOf_29 ?_
    rw [nI_add]
    refine xv_ic_ge fX10_weightOf_30 (fun h_30 => ?_) (fun h_30 => ?_)
    · exact absurd h_30 (nI_ge hk (by omega))
    · refine xv_il7 fX10_weightOf_33 ?_
      refine xv_k fX10_weightOf_35 ?_
      refine xv_ic_ge fX10_weightOf_37 (fun h_37 => ?_) (fun h_37 => ?_)
      · exact absurd h_37 (nI_ge (by omega) (by decide))
      · refine xv_il5 fX10_weightOf_40 ?_
        refine xv_al0 fX10_weightOf_42 ?_
        refine xv_getR fX10_weightOf_43 gX10_62 rfl (sx_0 _ _) (rx_0_11 _) ?_
        refine xv_il6 fX10_weightOf_46 ?_
        refine xv_ialdN fX10_weightOf_48 (sx_47 _ _) (⟨by omega, by decide⟩) ?_
        refine xv_k fX10_weightOf_49 ?_
        refine xv_il7 fX10_weightOf_51 ?_
        refine xv_callS3R (c_digit n c I J (by decide) (by omega)) fX10_weightOf_53 YX10_digitAt VX10_digitAt lX10_439 rfl (Nat.le_of_ble_eq_true rfl) (by decide) (by decide) (by decide) ?_
        refine xv_iadd fX10_weightOf_56 ?_
        refine xv_is5 fX10_weightOf_57 ?_
        refine xv_iincN7 (a := 1) fX10_weightOf_59 (by decide) ?_
        refine xv_goto fX10_weightOf_62 ?_
        exact ih (k + 1) _ (by omega) i0

theorem l_wt2 (n : Nat) (c : Nat × Nat) (I : xv_I) (J : xv_J) {t f w h : Nat} (hr : t + h ≤ 6) (hf : f + w ≤ 6) {Q : xv_Q} : ∀ (m k : Nat) (s : Int32) (l7 : Option Value), k + m = t + h → (∀ l7, xv_W mX10_weightOf 1 0 0 Q 0 0 (sx n c) I (rx c) J 71 (some (.ref 0) :: some (.int (nI t)) :: some (.int (nI f)) :: some (.int (nI w)) :: some (.int (nI h)) :: some (.int (it (xWt2 I f w) m k s)) :: some (.int (nI (t + h))) :: l7 :: []) []) → xv_W mX10_weightOf 1 0 0 Q 0 0 (sx n c) I (rx c) J 6 (some (.ref 0) :: some (.int (nI t)) :: some (.int (nI f)) :: some (.int (nI w)) :: some (.int (nI h)) :: some (.int s) :: some (.int (nI k)) :: l7 :: []) [] := by
  intro m
  induction m with
  | zero =>
    intro k s l7 hm i0
    obtain rfl : k = t + h := by omega
    refine xv_il6 fX10_weightOf_6 ?_
    refine xv_il1 fX10_weightOf_8 ?_
    refine xv_il4 fX10_weightOf_9 ?_
    refine xv_iadd fX10_weightOf_11 ?_
    rw [nI_add]
    refine xv_ic_ge fX10_weightOf_12 (fun h_12 => ?_) (fun h_12 => ?_)
    · exact i0 _
    · exact absurd (nI_le (Nat.le_refl _) (by omega)) h_12
  | succ m ih =>
    intro k s l7 hm i0
    have hk : k < t + h := by omega
    show xv_W mX10_weightOf 1 0 0 _ 0 0 (sx n c) I (rx c) J 6 (some (.ref 0) :: some (.int (nI t)) :: some (.int (nI f)) :: some (.int (nI w)) :: some (.int (nI h)) :: some (.int s) :: some (.int (nI k)) :: l7 :: []) []
    refine xv_il6 fX10_weightOf_6 ?_
    refine xv_il1 fX10_weightOf_8 ?_
    refine xv_il4 fX10_weightOf_9 ?_
    refine xv_iadd fX10_weightOf_11 ?_
    rw [nI_add]
    refine xv_ic_ge fX10_weightOf_12 (fun h_12 => ?_) (fun h_12 => ?_)
    · exact absurd h_12 (nI_ge hk (by omega))
    · refine xv_il6 fX10_weightOf_15 ?_
      refine xv_k fX10_weightOf_17 ?_
      refine xv_ic_ge fX10_weightOf_19 (fun h_19 => ?_) (fun h_19 => ?_)
      · exact absurd h_19 (nI_ge (by omega) (by decide))
      · refine xv_il2 fX10_weightOf_22 ?_
        refine xv_is7 fX10_weightOf_23 ?_
        refine l_wt1 n c I J hr hf (r := k) (by omega) w f _ rfl ?_
        refine xv_iincN6 (a := 1) fX10_weightOf_65 (by decide) ?_
        refine xv_goto fX10_weightOf_68 ?_
        exact ih (k + 1) _ _ (by omega) i0

theorem c_weight (n : Nat) (c : Nat × Nat) (I : xv_I) (J : xv_J) {t f w h : Nat} (hr : t + h ≤ 6) (hf : f + w ≤ 6) : xv_Met mX10_weightOf 1 0 0 (sx n c) I (rx c) J [.ref 0, .int (nI t), .int (nI f), .int (nI w), .int (nI h)] (xv_eq (.inl (some (.int (xWt I t f w h)))) (sx n c) (I) (rx c) J) := by
  refine xv_Met.of (by decide +kernel) (Nat.le_of_ble_eq_true rfl) (List.forall_mem_cons.mpr ⟨rfl, List.forall_mem_cons.mpr ⟨rfl, List.forall_mem_cons.mpr ⟨rfl, List.forall_mem_cons.mpr ⟨rfl, List.forall_mem_cons.mpr ⟨rfl, fun _ h => nomatch h⟩⟩⟩⟩⟩) ?_
  show xv_W mX10_weightOf 1 0 0 _ 0 0 (sx n c) I (rx c) J 0 [some (.ref 0), some (.int (nI t)), some (.int (nI f)), some (.int (nI w)), some (.int (nI h)), none, none, none] []
  refine xv_k fX10_weightOf_0 ?_
  refine xv_is5 fX10_weightOf_1 ?_
  refine xv_il1 fX10_weightOf_3 ?_
  refine xv_is6 fX10_weightOf_4 ?_
  exact l_wt2 n c I J hr hf h t _ none rfl (fun l7 => by exact xv_il5 fX10_weightOf_71 (xv_iret fX10_weightOf_73 rfl rfl (xv_eq_I rfl rfl)))

def xCr1 (I : xv_I) (w h t f : Nat) (b : Int32 × Nat) : Int32 × Nat := if xWt I t f w h ≤ b.1 then b else (xWt I t f w h, 10 * t + f)
def xCr2 (I : xv_I) (w h t : Nat) (b : Int32 × Nat) : Int32 × Nat := it (xCr1 I w h t) (7 - w) 0 b
def xCr (I : xv_I) (w h : Nat) : Int32 × Nat := it (xCr2 I w h) (7 - h) 0 (-1, 0)
theorem p_crop_a (n : Nat) (c : Nat × Nat) (I : xv_I) (J : xv_J) {x y : Int32} (hx : ¬ okR 1 6 x) : xv_Met mX10_crop 8 16 128 (sx n c) I (rx c) J [.ref 0, .int x, .int y] (xv_eq (.inr "java/lang/IllegalArgumentException") (sx n c) (I) (rx c) J) := by
  refine xv_Met.of (by decide +kernel) (Nat.le_of_ble_eq_true rfl) (List.forall_mem_cons.mpr ⟨rfl, List.forall_mem_cons.mpr ⟨rfl, List.forall_mem_cons.mpr ⟨rfl, fun _ h => nomatch h⟩⟩⟩) ?_
  show xv_W mX10_crop 8 16 128 _ 16 128 (sx n c) I (rx c) J 0 [some (.ref 0), some (.int x), some (.int y), none, none, none, none, none] []
  refine xv_il1 fX10_crop_0 ?_
  refine xv_k fX10_crop_1 ?_
  refine xv_k fX10_crop_2 ?_
  exact xv_callS3X (c_needRange_out n c I J (okR_x hx)) fX10_crop_4 YX10_needRange VX10_needRange lX10_83 rfl (Nat.le_of_ble_eq_true rfl) (by decide) (by decide) (by decide) xv_eq_i

theorem p_crop_b (n : Nat) (c : Nat × Nat) (I : xv_I) (J : xv_J) {x y : Int32} (hx : okR 1 6 x) (hy : ¬ okR 1 6 y) : xv_Met mX10_crop 8 16 128 (sx n c) I (rx c) J [.ref 0, .int x, .int y] (xv_eq (.inr "java/lang/IllegalArgumentException") (sx n c) (I) (rx c) J) := by
  refine xv_Met.of (by decide +kernel) (Nat.le_of_ble_eq_true rfl) (List.forall_mem_cons.mpr ⟨rfl, List.forall_mem_cons.mpr ⟨rfl, List.forall_mem_cons.mpr ⟨rfl, fun _ h => nomatch h⟩⟩⟩) ?_
  show xv_W mX10_crop 8 16 128 _ 16 128 (sx n c) I (rx c) J 0 [some (.ref 0), some (.int x), some (.int y), none, none, none, none, none] []
  refine xv_il1 fX10_crop_0 ?_
  refine xv_k fX10_crop_1 ?_
  refine xv_k fX10_crop_2 ?_
  refine xv_callS3V (c_needRange_in n c I J (hx).1 (hx).2) fX10_crop_4 YX10_needRange VX10_needRange lX10_83 rfl (Nat.le_of_ble_eq_true rfl) (by decide) (by decide) (by decide) ?_
  refine xv_il2 fX10_crop_7 ?_
  refine xv_k fX10_crop_8 ?_
  refine xv_k fX10_crop_9 ?_
  exact xv_callS3X (c_needRange_out n c I J (okR_x hy)) fX10_crop_11 YX10_needRange VX10_needRange lX10_83 rfl (Nat.le_of_ble_eq_true rfl) (by decide) (by decide) (by decide) xv_eq_i

theorem l_cr1 (n : Nat) (c : Nat × Nat) (I : xv_I) (J : xv_J) {w h : Nat} (hw : 1 ≤ w ∧ w ≤ 6) (hh : 1 ≤ h ∧ h ≤ 6) {t : Nat} (ht : t + h ≤ 6) {Q : xv_Q} : ∀ (m k : Nat) (b : Int32 × Nat) (l7 : Option Value), k + m = 7 - w → (∀ l7, xv_W mX10_crop 8 16 128 Q 14 116 (sx n c) I (rx c) J 80 (some (.ref 0) :: some (.int (nI w)) :: some (.int (nI h)) :: some (.int (it (xCr1 I w h t) m k b).1) :: some (.int (nI (it (xCr1 I w h t) m k b).2)) :: some (.int (nI t)) :: some (.int (nI (7 - w))) :: l7 :: []) []) → xv_W mX10_crop 8 16 128 Q 14 116 (sx n c) I (rx c) J 34 (some (.ref 0) :: some (.int (nI w)) :: some (.int (nI h)) :: some (.int b.1) :: some (.int (nI b.2)) :: some (.int (nI t)) :: some (.int (nI k)) :: l7 :: []) [] := by
  intro m
  induction m with
  | zero =>
    intro k b l7 hm i0
    obtain rfl : k = 7 - w := by omega
    refine xv_il6 fX10_crop_34 ?_
    refine xv_il1 fX10_crop_36 ?_
    refine xv_iadd fX10_crop_37 ?_
    rw [nI_add]
    refine xv_k fX10_crop_38 ?_
    refine xv_ic_gt fX10_crop_40 (fun h_40 => ?_) (fun h_40 => ?_)
    · exact i0 _
    · exact absurd (nI_lt (by omega) (by omega)) h_40
  | succ m ih =>
    intro k b l7 hm i0
    have hk : k < 7 - w := by omega
    show xv_W mX10_crop 8 16 128 _ 14 116 (sx n c) I (rx c) J 34 (some (.ref 0) :: some (.int (nI w)) :: some (.int (nI h)) :: some (.int b.1) :: some (.int (nI b.2)) :: some (.int (nI t)) :: some (.int (nI k)) :: l7 :: []) []
    refine xv_il6 fX10_crop_34 ?_
    refine xv_il1 fX10_crop_36 ?_
    refine xv_iadd fX10_crop_37 ?_
    rw [nI_add]
    refine xv_k fX10_crop_38 ?_
    refine xv_ic_gt fX10_crop_40 (fun h_40 => ?_) (fun h_40 => ?_)
    · exact absurd h_40 (nI_nlt (by omega) (by omega))
    · refine xv_al0 fX10_crop_43 ?_
      refine xv_il5 fX10_crop_44 ?_
      refine xv_il6 fX10_crop_46 ?_
      refine xv_il1 fX10_crop_48 ?_
      refine xv_il2 fX10_crop_49 ?_
      refine xv_callV4R (c_weight n c I J ht (f := k) (by omega)) fX10_crop_50 YX10_weightOf VX10_weightOf lX10_355 rfl rfl (sx_0 _ _) (Nat.le_of_ble_eq_true rfl) (by decide) (by decide) (by decide) ?_
      refine xv_is7 fX10_crop_53 ?_
      refine xv_il7 fX10_crop_55 ?_
      refine xv_il3 fX10_crop_57 ?_
      refine xv_ic_le fX10_crop_58 (fun h_58 => ?_) (fun h_58 => ?_)
      · refine xv_iincN6 (a := 1) fX10_crop_74 (by decide) ?_
        refine xv_goto fX10_crop_77 ?_
        exact ih (k + 1) b _ (by omega) (by rw [show it (xCr1 I w h t) (m + 1) k b = it (xCr1 I w h t) m (k + 1) (xCr1 I w h t k b) from rfl, xCr1, if_pos h_58] at i0; exact i0)
      · refine xv_il7 fX10_crop_61 ?_
        refine xv_is3 fX10_crop_63 ?_
        refine xv_k fX10_crop_64 ?_
        refine xv_il5 fX10_crop_66 ?_
        refine xv_imul fX10_crop_68 ?_
        refine xv_il6 fX10_crop_69 ?_
        refine xv_iadd fX10_crop_71 ?_
        rw [nI_mul, nI_add]
        refine xv_is4 fX10_crop_72 ?_
        refine xv_iincN6 (a := 1) fX10_crop_74 (by decide) ?_
        refine xv_goto fX10_crop_77 ?_
        exact ih (k + 1) (xWt I t k w h, 10 * t + k) _ (by omega) (by rw [show it (xCr1 I w h t) (m + 1) k b = it (xCr1 I w h t) m (k + 1) (xCr1 I w h t k b) from rfl, xCr1, if_neg h_58] at i0; exact i0)

theorem l_cr2 (n : Nat) (c : Nat × Nat) (I : xv_I) (J : xv_J) {w h : Nat} (hw : 1 ≤ w ∧ w ≤ 6) (hh : 1 ≤ h ∧ h ≤ 6) {Q : xv_Q} : ∀ (m k : Nat) (b : Int32 × Nat) (l6 l7 : Option Value), k + m = 7 - h → (∀ l6 l7, xv_W mX10_crop 8 16 128 Q 14 116 (sx n c) I (rx c) J 86 (some (.ref 0) :: some (.int (nI w)) :: some (.int (nI h)) :: some (.int (it (xCr2 I w h) m k b).1) :: some (.int (nI (it (xCr2 I w h) m k b).2)) :: some (.int (nI (7 - h))) :: l6 :: l7 :: []) []) → xv_W mX10_crop 8 16 128 Q 14 116 (sx n c) I (rx c) J 22 (some (.ref 0) :: some (.int (nI w)) :: some (.int (nI h)) :: some (.int b.1) :: some (.int (nI b.2)) :: some (.int (nI k)) :: l6 :: l7 :: []) [] := by
  intro m
  induction m with
  | zero =>
    intro k b l6 l7 hm i0
    obtain rfl : k = 7 - h := by omega
    refine xv_il5 fX10_crop_22 ?_
    refine xv_il2 fX10_crop_24 ?_
    refine xv_iadd fX10_crop_25 ?_
    rw [nI_add]
    refine xv_k fX10_crop_26 ?_
    refine xv_ic_gt fX10_crop_28 (fun h_28 => ?_) (fun h_28 => ?_)
    · exact i0 _ _
    · exact absurd (nI_lt (by omega) (by omega)) h_28
  | succ m ih =>
    intro k b l6 l7 hm i0
    have hk : k < 7 - h := by omega
    show xv_W mX10_crop 8 16 128 _ 14 116 (sx n c) I (rx c) J 22 (some (.ref 0) :: some (.int (nI w)) :: some (.int (nI h)) :: some (.int b.1) :: some (.int (nI b.2)) :: some (.int (nI k)) :: l6 :: l7 :: []) []
    refine xv_il5 fX10_crop_22 ?_
    refine xv_il2 fX10_crop_24 ?_
    refine xv_iadd fX10_crop_25 ?_
    rw [nI_add]
    refine xv_k fX10_crop_26 ?_
    refine xv_ic_gt fX10_crop_28 (fun h_28 => ?_) (fun h_28 => ?_)
    · exact absurd h_28 (nI_nlt (by omega) (by omega))
    · refine xv_k fX10_crop_31 ?_
      refine xv_is6 fX10_crop_32 ?_
      refine l_cr1 n c I J hw hh (t := k) (by omega) (7 - w) 0 _ _ (by omega) (fun l7 => ?_)
      refine xv_iincN5 (a := 1) fX10_crop_80 (by decide) ?_
      refine xv_goto fX10_crop_83 ?_
      exact ih (k + 1) _ _ _ (by omega) i0

theorem p_crop_ok (n : Nat) (c : Nat × Nat) (I : xv_I) (J : xv_J) {w h : Nat} (hw : 1 ≤ w ∧ w ≤ 6) (hh : 1 ≤ h ∧ h ≤ 6) : xv_Met mX10_crop 8 16 128 (sx n c) I (rx c) J [.ref 0, .int (nI w), .int (nI h)] (xv_eq (.inl (some (.int (nI 100 * (xCr I w h).1 + nI (xCr I w h).2)))) (sx n c) (I) (rx c) J) := by
  refine xv_Met.of (by decide +kernel) (Nat.le_of_ble_eq_true rfl) (List.forall_mem_cons.mpr ⟨rfl, List.forall_mem_cons.mpr ⟨rfl, List.forall_mem_cons.mpr ⟨rfl, fun _ h => nomatch h⟩⟩⟩) ?_
  show xv_W mX10_crop 8 16 128 _ 16 128 (sx n c) I (rx c) J 0 [some (.ref 0), some (.int (nI w)), some (.int (nI h)), none, none, none, none, none] []
  refine xv_il1 fX10_crop_0 ?_
  refine xv_k fX10_crop_1 ?_
  refine xv_k fX10_crop_2 ?_
  refine xv_callS3V (c_needRange_in n c I J ((okR_n hw.1 hw.2 (by decide) : okR 1 6 (nI w))).1 ((okR_n hw.1 hw.2 (by decide) : okR 1 6 (nI w))).2) fX10_crop_4 YX10_needRange VX10_needRange lX10_83 rfl (Nat.le_of_ble_eq_true rfl) (by decide) (by decide) (by decide) ?_
  refine xv_il2 fX10_crop_7 ?_
  refine xv_k fX10_crop_8 ?_
  refine xv_k fX10_crop_9 ?_
  refine xv_callS3V (c_needRange_in n c I J ((okR_n hh.1 hh.2 (by decide) : okR 1 6 (nI h))).1 ((okR_n hh.1 hh.2 (by decide) : okR 1 6 (nI h))).2) fX10_crop_11 YX10_needRange VX10_needRange lX10_83 rfl (Nat.le_of_ble_eq_true rfl) (by decide) (by decide) (by decide) ?_
  refine xv_k fX10_crop_14 ?_
  refine xv_is3 fX10_crop_15 ?_
  refine xv_k fX10_crop_16 ?_
  refine xv_is4 fX10_crop_17 ?_
  refine xv_k fX10_crop_19 ?_
  refine xv_is5 fX10_crop_20 ?_
  refine l_cr2 n c I J hw hh (7 - h) 0 (-1, 0) _ _ (by omega) (fun l6 l7 => ?_)
  show xv_W mX10_crop 8 16 128 _ 14 116 (sx n c) I (rx c) J 86 (some (.ref 0) :: some (.int (nI w)) :: some (.int (nI h)) :: some (.int (xCr I w h).1) :: some (.int (nI (xCr I w h).2)) :: some (.int (nI (7 - h))) :: l6 :: l7 :: []) []
  refine xv_k fX10_crop_86 ?_
  refine xv_il3 fX10_crop_88 ?_
  refine xv_imul fX10_crop_89 ?_
  refine xv_il4 fX10_crop_90 ?_
  refine xv_iadd fX10_crop_92 ?_
  exact xv_iret fX10_crop_93 rfl rfl (xv_eq_I rfl rfl)

theorem p_wire_a (n : Nat) (c : Nat × Nat) (I : xv_I) (J : xv_J) {x y : Int32} (hx : ¬ okR 0 65535 x) : xv_Met mX10_wire 8 16 128 (sx n c) I (rx c) J [.ref 0, .int x, .int y] (xv_eq (.inr "java/lang/IllegalArgumentException") (sx n c) (I) (rx c) J) := by
  refine xv_Met.of (by decide +kernel) (Nat.le_of_ble_eq_true rfl) (List.forall_mem_cons.mpr ⟨rfl, List.forall_mem_cons.mpr ⟨rfl, List.forall_mem_cons.mpr ⟨rfl, fun _ h => nomatch h⟩⟩⟩) ?_
  show xv_W mX10_wire 8 16 128 _ 16 128 (sx n c) I (rx c) J 0 [some (.ref 0), some (.int x), some (.int y), none] []
  refine xv_il1 fX10_wire_0 ?_
  refine xv_k fX10_wire_1 ?_
  refine xv_kw fX10_wire_2 cwX10_359 ?_
  exact xv_callS3X (c_needRange_out n c I J (okR_x hx)) fX10_wire_5 YX10_needRange VX10_needRange lX10_83 rfl (Nat.le_of_ble_eq_true rfl) (by decide) (by decide) (by decide) xv_eq_i

theorem p_wire_b (n : Nat) (c : Nat × Nat) (I : xv_I) (J : xv_J) {x y : Int32} (hx : okR 0 65535 x) (hy : ¬ okR 0 9 y) : xv_Met mX10_wire 8 16 128 (sx n c) I (rx c) J [.ref 0, .int x, .int y] (xv_eq (.inr "java/lang/IllegalArgumentException") (sx n c) (I) (rx c) J) := by
  refine xv_Met.of (by decide +kernel) (Nat.le_of_ble_eq_true rfl) (List.forall_mem_cons.mpr ⟨rfl, List.forall_mem_cons.mpr ⟨rfl, List.forall_mem_cons.mpr ⟨rfl, fun _ h => nomatch h⟩⟩⟩) ?_
  show xv_W mX10_wire 8 16 128 _ 16 128 (sx n c) I (rx c) J 0 [some (.ref 0), some (.int x), some (.int y), none] []
  refine xv_il1 fX10_wire_0 ?_
  refine xv_k fX10_wire_1 ?_
  refine xv_kw fX10_wire_2 cwX10_359 ?_
  refine xv_callS3V (c_needRange_in n c I J (hx).1 (hx).2) fX10_wire_5 YX10_needRange VX10_needRange lX10_83 rfl (Nat.le_of_ble_eq_true rfl) (by decide) (by decide) (by decide) ?_
  refine xv_il2 fX10_wire_8 ?_
  refine xv_k fX10_wire_9 ?_
  refine xv_k fX10_wire_10 ?_
  exact xv_callS3X (c_needRange_out n c I J (okR_x hy)) fX10_wire_12 YX10_needRange VX10_needRange lX10_83 rfl (Nat.le_of_ble_eq_true rfl) (by decide) (by decide) (by decide) xv_eq_i

theorem p_wire_old (n : Nat) (c : Nat × Nat) (I : xv_I) (J : xv_J) {x y : Int32} (hx : okR 0 65535 x) (hy : okR 0 9 y) {w : Nat} (hw : w ≤ 12) (hc : I 48 2 = nI w) {k : Nat} (hk : k < w) (hal : fsP (xAlike I x) w = nI k) : xv_Met mX10_wire 8 16 128 (sx n c) I (rx c) J [.ref 0, .int x, .int y] (xv_eq (.inl (some (.int (nI k)))) (sx n c) (xMerge k x y I) (rx c) J) := by
  refine xv_Met.of (by decide +kernel) (Nat.le_of_ble_eq_true rfl) (List.forall_mem_cons.mpr ⟨rfl, List.forall_mem_cons.mpr ⟨rfl, List.forall_mem_cons.mpr ⟨rfl, fun _ h => nomatch h⟩⟩⟩) ?_
  show xv_W mX10_wire 8 16 128 _ 16 128 (sx n c) I (rx c) J 0 [some (.ref 0), some (.int x), some (.int y), none] []
  refine xv_il1 fX10_wire_0 ?_
  refine xv_k fX10_wire_1 ?_
  refine xv_kw fX10_wire_2 cwX10_359 ?_
  refine xv_callS3V (c_needRange_in n c I J (hx).1 (hx).2) fX10_wire_5 YX10_needRange VX10_needRange lX10_83 rfl (Nat.le_of_ble_eq_true rfl) (by decide) (by decide) (by decide) ?_
  refine xv_il2 fX10_wire_8 ?_
  refine xv_k fX10_wire_9 ?_
  refine xv_k fX10_wire_10 ?_
  refine xv_callS3V (c_needRange_in n c I J (hy).1 (hy).2) fX10_wire_12 YX10_needRange VX10_needRange lX10_83 rfl (Nat.le_of_ble_eq_true rfl) (by decide) (by decide) (by decide) ?_
  refine xv_al0 fX10_wire_15 ?_
  refine xv_getR fX10_wire_16 gX10_68 rfl (sx_0 _ _) (rx_0_12 _) ?_
  refine xv_il1 fX10_wire_19 ?_
  refine xv_callV1R (c_alike n c I J hw hc) fX10_wire_20 YX9_firstAlike VX9_firstAlike lX10_360 rfl rfl (sx_48 _ _) (Nat.le_of_ble_eq_true rfl) (by decide) (by decide) (by decide) ?_
  rw [hal]
  refine xv_is3 fX10_wire_23 ?_
  refine xv_il3 fX10_wire_24 ?_
  refine xv_k fX10_wire_25 ?_
  refine xv_ic_eq fX10_wire_26 (fun h_26 => ?_) (fun h_26 => ?_)
  · exact absurd h_26 (nI_nm1 (by omega))
  · refine xv_al0 fX10_wire_29 ?_
    refine xv_getR fX10_wire_30 gX10_68 rfl (sx_0 _ _) (rx_0_12 _) ?_
    refine xv_il3 fX10_wire_33 ?_
    refine xv_il1 fX10_wire_34 ?_
    refine xv_il2 fX10_wire_35 ?_
    refine xv_callV3V (c_merge n c I J (i := k) (by omega)) fX10_wire_36 YX9_merge VX9_merge lX10_363 rfl rfl (sx_48 _ _) (Nat.le_of_ble_eq_true rfl) (by decide) (by decide) (by decide) ?_
    refine xv_il3 fX10_wire_39 ?_
    exact xv_iret fX10_wire_40 rfl rfl xv_eq_i

theorem p_wire_c (n : Nat) (c : Nat × Nat) (I : xv_I) (J : xv_J) {x y : Int32} (hx : okR 0 65535 x) (hy : okR 0 9 y) {w : Nat} (hw : w ≤ 12) (hc : I 48 2 = nI w) (hal : fsP (xAlike I x) w = -1) (hw2 : w = 12) : xv_Met mX10_wire 8 16 128 (sx n c) I (rx c) J [.ref 0, .int x, .int y] (xv_eq (.inr "java/lang/IllegalStateException") (sx n c) (I) (rx c) J) := by
  refine xv_Met.of (by decide +kernel) (Nat.le_of_ble_eq_true rfl) (List.forall_mem_cons.mpr ⟨rfl, List.forall_mem_cons.mpr ⟨rfl, List.forall_mem_cons.mpr ⟨rfl, fun _ h => nomatch h⟩⟩⟩) ?_
  show xv_W mX10_wire 8 16 128 _ 16 128 (sx n c) I (rx c) J 0 [some (.ref 0), some (.int x), some (.int y), none] []
  refine xv_il1 fX10_wire_0 ?_
  refine xv_k fX10_wire_1 ?_
  refine xv_kw fX10_wire_2 cwX10_359 ?_
  refine xv_callS3V (c_needRange_in n c I J (hx).1 (hx).2) fX10_wire_5 YX10_needRange VX10_needRange lX10_83 rfl (Nat.le_of_ble_eq_true rfl) (by decide) (by decide) (by decide) ?_
  refine xv_il2 fX10_wire_8 ?_
  refine xv_k fX10_wire_9 ?_
  refine xv_k fX10_wire_10 ?_
  refine xv_callS3V (c_needRange_in n c I J (hy).1 (hy).2) fX10_wire_12 YX10_needRange VX10_needRange lX10_83 rfl (Nat.le_of_ble_eq_true rfl) (by decide) (by decide) (by decide) ?_
  refine xv_al0 fX10_wire_15 ?_
  refine xv_getR fX10_wire_16 gX10_68 rfl (sx_0 _ _) (rx_0_12 _) ?_
  refine xv_il1 fX10_wire_19 ?_
  refine xv_callV1R (c_alike n c I J hw hc) fX10_wire_20 YX9_firstAlike VX9_firstAlike lX10_360 rfl rfl (sx_48 _ _) (Nat.le_of_ble_eq_true rfl) (by decide) (by decide) (by decide) ?_
  rw [hal]
  refine xv_is3 fX10_wire_23 ?_
  refine xv_il3 fX10_wire_24 ?_
  refine xv_k fX10_wire_25 ?_
  refine xv_ic_eq fX10_wire_26 (fun h_26 => ?_) (fun h_26 => ?_)
  · refine xv_al0 fX10_wire_41 ?_
    refine xv_getR fX10_wire_42 gX10_68 rfl (sx_0 _ _) (rx_0_12 _) ?_
    refine xv_getI fX10_wire_45 gX10_366 rfl (sx_48 _ _) ?_
    rw [hc]
    refine xv_k fX10_wire_48 ?_
    refine xv_ic_lt fX10_wire_50 (fun h_50 => ?_) (fun h_50 => ?_)
    · exact absurd h_50 (nI_nlt (by omega) (by omega))
    · exact xv_throw fX10_wire_53 hX10_367 rfl (by decide) (by decide) (by decide) (by decide) xv_eq_i
  · exact absurd rfl h_26

theorem p_wire_new (n : Nat) (c : Nat × Nat) (I : xv_I) (J : xv_J) {x y : Int32} (hx : okR 0 65535 x) (hy : okR 0 9 y) {w : Nat} (hw : w ≤ 12) (hc : I 48 2 = nI w) (hal : fsP (xAlike I x) w = -1) (hw2 : w < 12) : xv_Met mX10_wire 8 16 128 (sx n c) I (rx c) J [.ref 0, .int x, .int y] (xv_eq (.inl (some (.int (nI w)))) (sx n c) (xv_u (xv_u (xv_u I 49 w x) 50 w y) 48 2 (nI (w + 1))) (rx c) J) := by
  refine xv_Met.of (by decide +kernel) (Nat.le_of_ble_eq_true rfl) (List.forall_mem_cons.mpr ⟨rfl, List.forall_mem_cons.mpr ⟨rfl, List.forall_mem_cons.mpr ⟨rfl, fun _ h => nomatch h⟩⟩⟩) ?_
  show xv_W mX10_wire 8 16 128 _ 16 128 (sx n c) I (rx c) J 0 [some (.ref 0), some (.int x), some (.int y), none] []
  refine xv_il1 fX10_wire_0 ?_
  refine xv_k fX10_wire_1 ?_
  refine xv_kw fX10_wire_2 cwX10_359 ?_
  refine xv_callS3V (c_needRange_in n c I J (hx).1 (hx).2) fX10_wire_5 YX10_needRange VX10_needRange lX10_83 rfl (Nat.le_of_ble_eq_true rfl) (by decide) (by decide) (by decide) ?_
  refine xv_il2 fX10_wire_8 ?_
  refine xv_k fX10_wire_9 ?_
  refine xv_k fX10_wire_10 ?_
  refine xv_callS3V (c_needRange_in n c I J (hy).1 (hy).2) fX10_wire_12 YX10_needRange VX10_needRange lX10_83 rfl (Nat.le_of_ble_eq_true rfl) (by decide) (by decide) (by decide) ?_
  refine xv_al0 fX10_wire_15 ?_
  refine xv_getR fX10_wire_16 gX10_68 rfl (sx_0 _ _) (rx_0_12 _) ?_
  refine xv_il1 fX10_wire_19 ?_
  refine xv_callV1R (c_alike n c I J hw hc) fX10_wire_20 YX9_firstAlike VX9_firstAlike lX10_360 rfl rfl (sx_48 _ _) (Nat.le_of_ble_eq_true rfl) (by decide) (by decide) (by decide) ?_
  rw [hal]
  refine xv_is3 fX10_wire_23 ?_
  refine xv_il3 fX10_wire_24 ?_
  refine xv_k fX10_wire_25 ?_
  refine xv_ic_eq fX10_wire_26 (fun h_26 => ?_) (fun h_26 => ?_)
  · refine xv_al0 fX10_wire_41 ?_
    refine xv_getR fX10_wire_42 gX10_68 rfl (sx_0 _ _) (rx_0_12 _) ?_
    refine xv_getI fX10_wire_45 gX10_366 rfl (sx_48 _ _) ?_
    rw [hc]
    refine xv_k fX10_wire_48 ?_
    refine xv_ic_lt fX10_wire_50 (fun h_50 => ?_) (fun h_50 => ?_)
    · refine xv_al0 fX10_wire_64 ?_
      refine xv_getR fX10_wire_65 gX10_68 rfl (sx_0 _ _) (rx_0_12 _) ?_
      refine xv_il1 fX10_wire_68 ?_
      refine xv_il2 fX10_wire_69 ?_
      refine xv_callV2V (c_wiAdd n c I J hw2 hc) fX10_wire_70 YX9_add VX9_add lX10_369 rfl rfl (sx_48 _ _) (Nat.le_of_ble_eq_true rfl) (by decide) (by decide) (by decide) ?_
      refine xv_al0 fX10_wire_73 ?_
      refine xv_getR fX10_wire_74 gX10_68 rfl (sx_0 _ _) (rx_0_12 _) ?_
      refine xv_getI fX10_wire_77 gX10_366 rfl (sx_48 _ _) ?_
      rw [xv_u_eq]
      refine xv_k fX10_wire_80 ?_
      refine xv_isub fX10_wire_81 ?_
      rw [show nI (w + 1) - nI 1 = nI w from nI_sub (Nat.succ_le_succ (Nat.zero_le w))]
      exact xv_iret fX10_wire_82 rfl rfl xv_eq_i
    · exact absurd (nI_lt hw2 (by decide)) h_50
  · exact absurd rfl h_26

theorem p_take_a (n : Nat) (c : Nat × Nat) (I : xv_I) (J : xv_J) (hc : I 48 2 = 0) : xv_Met mX10_take 8 16 128 (sx n c) I (rx c) J [.ref 0] (xv_eq (.inr "java/lang/IllegalStateException") (sx n c) (I) (rx c) J) := by
  refine xv_Met.of (by decide +kernel) (Nat.le_of_ble_eq_true rfl) (List.forall_mem_cons.mpr ⟨rfl, fun _ h => nomatch h⟩) ?_
  show xv_W mX10_take 8 16 128 _ 16 128 (sx n c) I (rx c) J 0 [some (.ref 0)] []
  refine xv_al0 fX10_take_0 ?_
  refine xv_getR fX10_take_1 gX10_68 rfl (sx_0 _ _) (rx_0_12 _) ?_
  refine xv_getI fX10_take_4 gX10_366 rfl (sx_48 _ _) ?_
  refine xv_if_ne fX10_take_7 (fun h_7 => ?_) (fun h_7 => ?_)
  · exact absurd hc h_7
  · exact xv_throw fX10_take_10 hX10_370 rfl (by decide) (by decide) (by decide) (by decide) xv_eq_i

theorem p_take_ok (n : Nat) (c : Nat × Nat) (I : xv_I) (J : xv_J) {w : Nat} (hw : w ≤ 12) (hc : I 48 2 = nI w) (hw1 : 0 < w) : xv_Met mX10_take 8 16 128 (sx n c) I (rx c) J [.ref 0] (xv_eq (.inl (some (.int (I 49 (xUrg I w))))) (sx n c) (xRem w (xUrg I w) I) (rx c) J) := by
  refine xv_Met.of (by decide +kernel) (Nat.le_of_ble_eq_true rfl) (List.forall_mem_cons.mpr ⟨rfl, fun _ h => nomatch h⟩) ?_
  show xv_W mX10_take 8 16 128 _ 16 128 (sx n c) I (rx c) J 0 [some (.ref 0)] []
  refine xv_al0 fX10_take_0 ?_
  refine xv_getR fX10_take_1 gX10_68 rfl (sx_0 _ _) (rx_0_12 _) ?_
  refine xv_getI fX10_take_4 gX10_366 rfl (sx_48 _ _) ?_
  rw [hc]
  refine xv_if_ne fX10_take_7 (fun h_7 => ?_) (fun h_7 => ?_)
  · refine xv_al0 fX10_take_21 ?_
    refine xv_getR fX10_take_22 gX10_68 rfl (sx_0 _ _) (rx_0_12 _) ?_
    refine xv_al0 fX10_take_25 ?_
    refine xv_getR fX10_take_26 gX10_68 rfl (sx_0 _ _) (rx_0_12 _) ?_
    refine xv_callV0R (c_urgent n c I J hw hc hw1) fX10_take_29 YX9_mostUrgent VX9_mostUrgent lX10_372 rfl rfl (sx_48 _ _) (Nat.le_of_ble_eq_true rfl) (by decide) (by decide) (by decide) ?_
    refine xv_callV1R (c_remove n c I J hw hc (i := xUrg I w) (xUrg_lt (w - 1) 1 0 (by decide) (by omega) hw1)) fX10_take_32 YX9_remove VX9_remove lX10_375 rfl rfl (sx_48 _ _) (Nat.le_of_ble_eq_true rfl) (by decide) (by decide) (by decide) ?_
    exact xv_iret fX10_take_35 rfl rfl xv_eq_i
  · exact absurd h_7 (nI_n0 (by omega) (by omega))

theorem p_numb_a (n : Nat) (c : Nat × Nat) (I : xv_I) (J : xv_J) {x y : Int32} (hx : ¬ okR 0 3 x) : xv_Met mX10_numbers 8 16 128 (sx n c) I (rx c) J [.ref 0, .int x, .int y] (xv_eq (.inr "java/lang/IllegalArgumentException") (sx n c) (I) (rx c) J) := by
  refine xv_Met.of (by decide +kernel) (Nat.le_of_ble_eq_true rfl) (List.forall_mem_cons.mpr ⟨rfl, List.forall_mem_cons.mpr ⟨rfl, List.forall_mem_cons.mpr ⟨rfl, fun _ h => nomatch h⟩⟩⟩) ?_
  show xv_W mX10_numbers 8 16 128 _ 16 128 (sx n c) I (rx c) J 0 [some (.ref 0), some (.int x), some (.int y)] []
  refine xv_il1 fX10_numbers_0 ?_
  refine xv_k fX10_numbers_1 ?_
  refine xv_k fX10_numbers_2 ?_
  exact xv_callS3X (c_needRange_out n c I J (okR_x hx)) fX10_numbers_3 YX10_needRange VX10_needRange lX10_83 rfl (Nat.le_of_ble_eq_true rfl) (by decide) (by decide) (by decide) xv_eq_i

theorem p_numb_b (n : Nat) (c : Nat × Nat) (I : xv_I) (J : xv_J) {y x : Int32} (hy : okR 0 3 y) (hx : ¬ (¬ x < 0 ∧ x ≤ nI 4444 ∧ ∀ j, j < 4 → xDig x 4 j ≤ nI 4)) : xv_Met mX10_numbers 8 16 128 (sx n c) I (rx c) J [.ref 0, .int y, .int x] (xv_eq (.inr "java/lang/IllegalArgumentException") (sx n c) (I) (rx c) J) := by
  refine xv_Met.of (by decide +kernel) (Nat.le_of_ble_eq_true rfl) (List.forall_mem_cons.mpr ⟨rfl, List.forall_mem_cons.mpr ⟨rfl, List.forall_mem_cons.mpr ⟨rfl, fun _ h => nomatch h⟩⟩⟩) ?_
  show xv_W mX10_numbers 8 16 128 _ 16 128 (sx n c) I (rx c) J 0 [some (.ref 0), some (.int y), some (.int x)] []
  refine xv_il1 fX10_numbers_0 ?_
  refine xv_k fX10_numbers_1 ?_
  refine xv_k fX10_numbers_2 ?_
  refine xv_callS3V (c_needRange_in n c I J (hy).1 (hy).2) fX10_numbers_3 YX10_needRange VX10_needRange lX10_83 rfl (Nat.le_of_ble_eq_true rfl) (by decide) (by decide) (by decide) ?_
  refine xv_il2 fX10_numbers_6 ?_
  refine xv_callS1R (c_puzRow n c I J x) fX10_numbers_7 YX10_isPuzzleRow VX10_isPuzzleRow lX10_378 rfl (Nat.le_of_ble_eq_true rfl) (by decide) (by decide) (by decide) ?_
  refine xv_if_ne fX10_numbers_10 (fun h_10 => ?_) (fun h_10 => ?_)
  · exact absurd (bi_1 h_10) hx
  · exact xv_throw fX10_numbers_13 hX10_383 rfl (by decide) (by decide) (by decide) (by decide) xv_eq_i

theorem p_numb_ok (n : Nat) (c : Nat × Nat) (I : xv_I) (J : xv_J) {r : Nat} {x : Int32} (hr : r < 4) (hx : ¬ x < 0 ∧ x ≤ nI 4444 ∧ ∀ j, j < 4 → xDig x 4 j ≤ nI 4) : xv_Met mX10_numbers 8 16 128 (sx n c) I (rx c) J [.ref 0, .int (nI r), .int x] (xv_eq (.inl none) (sx n c) (xSetRow r x I) (rx c) J) := by
  refine xv_Met.of (by decide +kernel) (Nat.le_of_ble_eq_true rfl) (List.forall_mem_cons.mpr ⟨rfl, List.forall_mem_cons.mpr ⟨rfl, List.forall_mem_cons.mpr ⟨rfl, fun _ h => nomatch h⟩⟩⟩) ?_
  show xv_W mX10_numbers 8 16 128 _ 16 128 (sx n c) I (rx c) J 0 [some (.ref 0), some (.int (nI r)), some (.int x)] []
  refine xv_il1 fX10_numbers_0 ?_
  refine xv_k fX10_numbers_1 ?_
  refine xv_k fX10_numbers_2 ?_
  refine xv_callS3V (c_needRange_in n c I J ((okR_n (Nat.zero_le _) (by omega) (by decide) : okR 0 3 (nI r))).1 ((okR_n (Nat.zero_le _) (by omega) (by decide) : okR 0 3 (nI r))).2) fX10_numbers_3 YX10_needRange VX10_needRange lX10_83 rfl (Nat.le_of_ble_eq_true rfl) (by decide) (by decide) (by decide) ?_
  refine xv_il2 fX10_numbers_6 ?_
  refine xv_callS1R (c_puzRow n c I J x) fX10_numbers_7 YX10_isPuzzleRow VX10_isPuzzleRow lX10_378 rfl (Nat.le_of_ble_eq_true rfl) (by decide) (by decide) (by decide) ?_
  refine xv_if_ne fX10_numbers_10 (fun h_10 => ?_) (fun h_10 => ?_)
  · refine xv_al0 fX10_numbers_24 ?_
    refine xv_getR fX10_numbers_25 gX10_75 rfl (sx_0 _ _) (rx_0_13 _) ?_
    refine xv_il1 fX10_numbers_28 ?_
    refine xv_il2 fX10_numbers_29 ?_
    refine xv_callV2V (c_setRow n c I J hr) fX10_numbers_30 YX4_setRow VX4_setRow lX10_386 rfl rfl (sx_51 _ _) (Nat.le_of_ble_eq_true rfl) (by decide) (by decide) (by decide) ?_
    exact xv_vret fX10_numbers_33 rfl xv_eq_i
  · exact absurd hx (bi_0 h_10)
