theorem nI_n0 {a : Nat} (h : 0 < a) (h2 : a < 2 ^ 31) : ¬ nI a = 0 := fun q => by
  have h1 := congrArg Int32.toInt q
  rw [nI_toInt h2] at h1
  have : (0 : Int32).toInt = 0 := by decide
  omega
abbrev xCS (I : xv_I) (a p : Nat) : Prop := I 13 p = I (200 + 5 * a) 0 ∧ ¬ xLow I p = -1
def xQcorr (n : Nat) (c : Nat × Nat) (I : xv_I) (J : xv_J) (a w : Nat) : xv_Q := fun o s i r j => s = sx n c ∧ r = rx c ∧ j = J ∧ ((o = .inl (some (.int (-1))) ∧ i = I ∧ ∀ p, p < 7 → ¬ xCS I a p) ∨ ∃ p f, p < 7 ∧ xCS I a p ∧ (∀ q, q < p → ¬ xCS I a q) ∧ f < 12 ∧ xLow I p = nI f ∧ o = .inl (some (.int (nI (100 * p + f)))) ∧ i = xDrop w (xPut I p f (nI (300 + a))))
theorem p_plC_a (n : Nat) (c : Nat × Nat) (I : xv_I) (J : xv_J) (hc : I 29 4 = 0) : xv_Met mX10_placeCorrection 8 16 128 (sx n c) I (rx c) J [.ref 0] (xv_eq (.inr "java/lang/IllegalStateException") (sx n c) (I) (rx c) J) := by
  refine xv_Met.of (by decide +kernel) (Nat.le_of_ble_eq_true rfl) (List.forall_mem_cons.mpr ⟨rfl, fun _ h => nomatch h⟩) ?_
  show xv_W mX10_placeCorrection 8 16 128 _ 16 128 (sx n c) I (rx c) J 0 [some (.ref 0), none, none, none, none] []
  refine xv_al0 fX10_placeCorrection_0 ?_
  refine xv_getR fX10_placeCorrection_1 gX10_44 rfl (sx_0 _ _) (rx_0_7 _) ?_
  refine xv_getI fX10_placeCorrection_4 gX10_279 rfl (sx_29 _ _) ?_
  refine xv_if_ne fX10_placeCorrection_7 (fun h_7 => ?_) (fun h_7 => ?_)
  · exact absurd hc h_7
  · exact xv_throw fX10_placeCorrection_10 hX10_310 rfl (by decide) (by decide) (by decide) (by decide) xv_eq_i

theorem xLow_or {I : xv_I} {p : Nat} (h : ¬ xLow I p = -1) : ∃ f, f < 12 ∧ xLow I p = nI f := by
  rcases fsP_cases (fun k => I (3 + p) k = 0) 12 with q | ⟨k, h1, _, _, h2⟩
  · exact absurd q.1 h
  · exact ⟨k, h1, h2⟩
theorem l_plC (n : Nat) (c : Nat × Nat) (I : xv_I) (J : xv_J) {a : Nat} (hs : a < c.2) (hs2 : a < 20) {w : Nat} (hw : 0 < w) (hw2 : w ≤ 5) (hc : I 29 4 = nI w) : ∀ (m p : Nat) (l4 : Option Value), p + m = 7 → (∀ q, q < p → ¬ xCS I a q) → xv_W mX10_placeCorrection 8 16 128 (xQcorr n c I J a w) 16 128 (sx n c) I (rx c) J 37 (some (.ref 0) :: some (.int (nI a)) :: some (.ref (200 + 5 * a)) :: some (.int (nI p)) :: l4 :: []) [] := by
  intro m
  induction m with
  | zero =>
    intro p l4 hm i0
    obtain rfl : p = 7 := by omega
    show xv_W mX10_placeCorrection 8 16 128 _ 16 128 (sx n c) I (rx c) J 37 (some (.ref 0) :: some (.int (nI a)) :: some (.ref (200 + 5 * a)) :: some (.int (nI 7)) :: l4 :: []) []
    refine xv_al2 fX10_placeCorrection_37 ?_
    refine xv_ifnull_r fX10_placeCorrection_38 ?_
    refine xv_il3 fX10_placeCorrection_41 ?_
    refine xv_k fX10_placeCorrection_42 ?_
    refine xv_ic_ge fX10_placeCorrection_44 (fun h_44 => ?_) (fun h_44 => ?_)
    · refine xv_k fX10_placeCorrection_118 ?_
      exact xv_iret fX10_placeCorrection_119 rfl rfl ⟨rfl, rfl, rfl, Or.inl ⟨rfl, rfl, i0⟩⟩
    · exact absurd (by decide) h_44
  | succ m ih =>
    intro p l4 hm i0
    show xv_W mX10_placeCorrection 8 16 128 _ 16 128 (sx n c) I (rx c) J 37 (some (.ref 0) :: some (.int (nI a)) :: some (.ref (200 + 5 * a)) :: some (.int (nI p)) :: l4 :: []) []
    refine xv_al2 fX10_placeCorrection_37 ?_
    refine xv_ifnull_r fX10_placeCorrection_38 ?_
    refine xv_il3 fX10_placeCorrection_41 ?_
    refine xv_k fX10_placeCorrection_42 ?_
    refine xv_ic_ge fX10_placeCorrection_44 (fun h_44 => ?_) (fun h_44 => ?_)
    · exact absurd h_44 (nI_ge (by omega) (by decide))
    · refine xv_al0 fX10_placeCorrection_47 ?_
      refine xv_getR fX10_placeCorrection_48 gX10_10 rfl (sx_0 _ _) (rx_0_0 _) ?_
      refine xv_il3 fX10_placeCorrection_51 ?_
      refine xv_callV1R (c_sectionOf n c I J (p := p) (by omega)) fX10_placeCorrection_52 YX5_sectionOf VX5_sectionOf lX10_318 rfl rfl (sx_1 _ _) (Nat.le_of_ble_eq_true rfl) (by decide) (by decide) (by decide) ?_
      refine xv_al2 fX10_placeCorrection_55 ?_
      refine xv_getI fX10_placeCorrection_56 gX10_321 rfl (sx_st _ _ hs hs2) ?_
      refine xv_ic_ne fX10_placeCorrection_59 (fun h_59 => ?_) (fun h_59 => ?_)
      · refine xv_k fX10_placeCorrection_73 ?_
        refine xv_is4 fX10_placeCorrection_74 ?_
        refine xv_il4 fX10_placeCorrection_76 ?_
        refine xv_k fX10_placeCorrection_78 ?_
        refine xv_ic_eq fX10_placeCorrection_79 (fun h_79 => ?_) (fun h_79 => ?_)
        · refine xv_iincN3 (a := 1) fX10_placeCorrection_112 (by decide) ?_
          refine xv_goto fX10_placeCorrection_115 ?_
          exact ih (p + 1) _ (by omega) (lt_or i0 (fun h => h_59 h.1))
        · exact absurd rfl h_79
      · refine xv_al0 fX10_placeCorrection_62 ?_
        refine xv_getR fX10_placeCorrection_63 gX10_10 rfl (sx_0 _ _) (rx_0_0 _) ?_
        refine xv_il3 fX10_placeCorrection_66 ?_
        refine xv_callV1R (c_lowestFree n c I J (p := p) (by omega)) fX10_placeCorrection_67 YX5_lowestFree VX5_lowestFree lX10_324 rfl rfl (sx_1 _ _) (Nat.le_of_ble_eq_true rfl) (by decide) (by decide) (by decide) ?_
        refine xv_goto fX10_placeCorrection_70 ?_
        refine xv_is4 fX10_placeCorrection_74 ?_
        refine xv_il4 fX10_placeCorrection_76 ?_
        refine xv_k fX10_placeCorrection_78 ?_
        refine xv_ic_eq fX10_placeCorrection_79 (fun h_79 => ?_) (fun h_79 => ?_)
        · refine xv_iincN3 (a := 1) fX10_placeCorrection_112 (by decide) ?_
          refine xv_goto fX10_placeCorrection_115 ?_
          exact ih (p + 1) _ (by omega) (lt_or i0 (fun h => h.2 h_79))
        · obtain ⟨f, hf1, hf2⟩ := xLow_or (show ¬ xLow I p = -1 from h_79)
          rw [hf2]
          refine xv_al0 fX10_placeCorrection_82 ?_
          refine xv_getR fX10_placeCorrection_83 gX10_10 rfl (sx_0 _ _) (rx_0_0 _) ?_
          refine xv_il3 fX10_placeCorrection_86 ?_
          refine xv_il4 fX10_placeCorrection_87 ?_
          refine xv_k fX10_placeCorrection_89 ?_
          refine xv_il1 fX10_placeCorrection_92 ?_
          refine xv_iadd fX10_placeCorrection_93 ?_
          rw [nI_add]
          refine xv_callV3V (c_put n c I J (p := p) (by omega) hf1) fX10_placeCorrection_94 YX5_put VX5_put lX10_327 rfl rfl (sx_1 _ _) (Nat.le_of_ble_eq_true rfl) (by decide) (by decide) (by decide) ?_
          refine xv_al0 fX10_placeCorrection_97 ?_
          refine xv_getR fX10_placeCorrection_98 gX10_44 rfl (sx_0 _ _) (rx_0_7 _) ?_
          refine xv_callV0V (c_drop n c _ J hw hw2 (by rw [xPut_o _ (by omega) _ (by omega)]; exact hc)) fX10_placeCorrection_101 YX1_dropLongestOwed VX1_dropLongestOwed lX10_330 rfl rfl (sx_29 _ _) (Nat.le_of_ble_eq_true rfl) (by decide) (by decide) (by decide) ?_
          refine xv_k fX10_placeCorrection_104 ?_
          refine xv_il3 fX10_placeCorrection_106 ?_
          refine xv_imul fX10_placeCorrection_107 ?_
          refine xv_il4 fX10_placeCorrection_108 ?_
          refine xv_iadd fX10_placeCorrection_110 ?_
          exact xv_iret fX10_placeCorrection_111 rfl rfl ⟨rfl, rfl, rfl, Or.inr ⟨p, f, by omega, ⟨h_59, h_79⟩, i0, hf1, hf2, by rw [nI_mul, nI_add], rfl⟩⟩

theorem p_plC_ok (n : Nat) (c : Nat × Nat) (I : xv_I) (J : xv_J) {a : Nat} (hs : a < c.2) (hs2 : a < 20) {w : Nat} (hw : 0 < w) (hw2 : w ≤ 5) (hc : I 29 4 = nI w) (h40 : I 40 0 = nI a) : xv_Met mX10_placeCorrection 8 16 128 (sx n c) I (rx c) J [.ref 0] (xQcorr n c I J a w) := by
  refine xv_Met.of (by decide +kernel) (Nat.le_of_ble_eq_true rfl) (List.forall_mem_cons.mpr ⟨rfl, fun _ h => nomatch h⟩) ?_
  show xv_W mX10_placeCorrection 8 16 128 _ 16 128 (sx n c) I (rx c) J 0 [some (.ref 0), none, none, none, none] []
  refine xv_al0 fX10_placeCorrection_0 ?_
  refine xv_getR fX10_placeCorrection_1 gX10_44 rfl (sx_0 _ _) (rx_0_7 _) ?_
  refine xv_getI fX10_placeCorrection_4 gX10_279 rfl (sx_29 _ _) ?_
  rw [hc]
  refine xv_if_ne fX10_placeCorrection_7 (fun h_7 => ?_) (fun h_7 => ?_)
  · refine xv_al0 fX10_placeCorrection_21 ?_
    refine xv_getR fX10_placeCorrection_22 gX10_44 rfl (sx_0 _ _) (rx_0_7 _) ?_
    refine xv_callV0R (c_longest n c I J hw hw2 hc) fX10_placeCorrection_25 YX1_longestOwed VX1_longestOwed lX10_312 rfl rfl (sx_29 _ _) (Nat.le_of_ble_eq_true rfl) (by decide) (by decide) (by decide) ?_
    rw [h40]
    refine xv_is1 fX10_placeCorrection_28 ?_
    refine xv_al0 fX10_placeCorrection_29 ?_
    refine xv_il1 fX10_placeCorrection_30 ?_
    refine xv_callV1R (c_stAt_in n c I J hs hs2) fX10_placeCorrection_31 YX10_storyAt VX10_storyAt lX10_315 rfl rfl (sx_0 _ _) (Nat.le_of_ble_eq_true rfl) (by decide) (by decide) (by decide) ?_
    refine xv_as2 fX10_placeCorrection_34 ?_
    refine xv_k fX10_placeCorrection_35 ?_
    refine xv_is3 fX10_placeCorrection_36 ?_
    exact l_plC n c I J hs hs2 hw hw2 hc 7 0 none rfl lt_no
  · exact absurd h_7 (nI_n0 (by omega) (by omega))
def xCl1 (p k : Nat) (s : Nat × xv_I) : Nat × xv_I := if s.2 (3 + p) k < nI 300 then s else (s.1 + 1, xPut s.2 p k (nI 0))
def xCl (p : Nat) (I : xv_I) : Nat × xv_I := it (xCl1 p) 12 0 (0, I)
theorem p_clean_a (n : Nat) (c : Nat × Nat) (I : xv_I) (J : xv_J) {x : Int32} (hx : ¬ (¬ x < 0 ∧ ¬ nI 10 ≤ x)) : xv_Met mX10_clean 8 16 128 (sx n c) I (rx c) J [.ref 0, .int x] (xv_eq (.inr "java/lang/IndexOutOfBoundsException") (sx n c) (I) (rx c) J) := by
  refine xv_Met.of (by decide +kernel) (Nat.le_of_ble_eq_true rfl) (List.forall_mem_cons.mpr ⟨rfl, List.forall_mem_cons.mpr ⟨rfl, fun _ h => nomatch h⟩⟩) ?_
  show xv_W mX10_clean 8 16 128 _ 16 128 (sx n c) I (rx c) J 0 [some (.ref 0), some (.int x), none, none] []
  refine xv_il1 fX10_clean_0 ?_
  exact xv_callS1X (c_needPage_out n c I J hx) fX10_clean_1 YX10_needPage VX10_needPage lX10_79 rfl (Nat.le_of_ble_eq_true rfl) (by decide) (by decide) (by decide) xv_eq_i

theorem l_clean (n : Nat) (c : Nat × Nat) (J : xv_J) {p : Nat} (hp : p < 10) {Q : xv_Q} : ∀ (m k : Nat) (I : xv_I) (s : Nat), k + m = 12 → (xv_W mX10_clean 8 16 128 Q 15 122 (sx n c) (it (xCl1 p) m k (s, I)).2 (rx c) J 48 [some (.ref 0), some (.int (nI p)), some (.int (nI (it (xCl1 p) m k (s, I)).1)), some (.int (nI 12))] []) → xv_W mX10_clean 8 16 128 Q 15 122 (sx n c) I (rx c) J 8 [some (.ref 0), some (.int (nI p)), some (.int (nI s)), some (.int (nI k))] [] := by
  intro m
  induction m with
  | zero =>
    intro k I s hm i0
    obtain rfl : k = 12 := by omega
    refine xv_il3 fX10_clean_8 ?_
    refine xv_k fX10_clean_9 ?_
    refine xv_ic_ge fX10_clean_11 (fun h_11 => ?_) (fun h_11 => ?_)
    · exact i0
    · exact absurd (nI_le (Nat.le_refl _) (by decide)) h_11
  | succ m ih =>
    intro k I s hm i0
    have hk : k < 12 := by omega
    show xv_W mX10_clean 8 16 128 _ 15 122 (sx n c) I (rx c) J 8 [some (.ref 0), some (.int (nI p)), some (.int (nI s)), some (.int (nI k))] []
    refine xv_il3 fX10_clean_8 ?_
    refine xv_k fX10_clean_9 ?_
    refine xv_ic_ge fX10_clean_11 (fun h_11 => ?_) (fun h_11 => ?_)
    · exact absurd h_11 (nI_ge hk (by decide))
    · refine xv_al0 fX10_clean_14 ?_
      refine xv_getR fX10_clean_15 gX10_10 rfl (sx_0 _ _) (rx_0_0 _) ?_
      refine xv_il1 fX10_clean_18 ?_
      refine xv_il3 fX10_clean_19 ?_
      refine xv_callV2R (c_at n c _ J hp hk) fX10_clean_20 YX5_at VX5_at lX10_105 rfl rfl (sx_1 _ _) (Nat.le_of_ble_eq_true rfl) (by decide) (by decide) (by decide) ?_
      refine xv_k fX10_clean_23 ?_
      refine xv_ic_lt fX10_clean_26 (fun h_26 => ?_) (fun h_26 => ?_)
      · refine xv_iincN3 (a := 1) fX10_clean_42 (by decide) ?_
        refine xv_goto fX10_clean_45 ?_
        exact ih (k + 1) _ s (by omega) (by rw [show it (xCl1 p) (m + 1) k (s, I) = it (xCl1 p) m (k + 1) (xCl1 p k (s, I)) from rfl, xCl1, if_pos h_26] at i0; exact i0)
      · refine xv_al0 fX10_clean_29 ?_
        refine xv_getR fX10_clean_30 gX10_10 rfl (sx_0 _ _) (rx_0_0 _) ?_
        refine xv_il1 fX10_clean_33 ?_
        refine xv_il3 fX10_clean_34 ?_
        refine xv_k fX10_clean_35 ?_
        refine xv_callV3V (c_put n c _ J hp hk) fX10_clean_36 YX5_put VX5_put lX10_327 rfl rfl (sx_1 _ _) (Nat.le_of_ble_eq_true rfl) (by decide) (by decide) (by decide) ?_
        refine xv_iincN2 (a := 1) fX10_clean_39 (by decide) ?_
        refine xv_iincN3 (a := 1) fX10_clean_42 (by decide) ?_
        refine xv_goto fX10_clean_45 ?_
        exact ih (k + 1) _ (s + 1) (by omega) (by rw [show it (xCl1 p) (m + 1) k (s, I) = it (xCl1 p) m (k + 1) (xCl1 p k (s, I)) from rfl, xCl1, if_neg h_26] at i0; exact i0)

theorem p_clean_ok (n : Nat) (c : Nat × Nat) (I : xv_I) (J : xv_J) {p : Nat} (hp : p < 10) : xv_Met mX10_clean 8 16 128 (sx n c) I (rx c) J [.ref 0, .int (nI p)] (xv_eq (.inl (some (.int (nI (xCl p I).1)))) (sx n c) ((xCl p I).2) (rx c) J) := by
  refine xv_Met.of (by decide +kernel) (Nat.le_of_ble_eq_true rfl) (List.forall_mem_cons.mpr ⟨rfl, List.forall_mem_cons.mpr ⟨rfl, fun _ h => nomatch h⟩⟩) ?_
  show xv_W mX10_clean 8 16 128 _ 16 128 (sx n c) I (rx c) J 0 [some (.ref 0), some (.int (nI p)), none, none] []
  refine xv_il1 fX10_clean_0 ?_
  refine xv_callS1V (c_needPage_in n c I J hp) fX10_clean_1 YX10_needPage VX10_needPage lX10_79 rfl (Nat.le_of_ble_eq_true rfl) (by decide) (by decide) (by decide) ?_
  refine xv_k fX10_clean_4 ?_
  refine xv_is2 fX10_clean_5 ?_
  refine xv_k fX10_clean_6 ?_
  refine xv_is3 fX10_clean_7 ?_
  exact l_clean n c J hp 12 0 _ 0 rfl (by exact xv_il2 fX10_clean_48 (xv_iret fX10_clean_49 rfl rfl (xv_eq_I rfl rfl)))

theorem p_pass_a (n : Nat) (c : Nat × Nat) (I : xv_I) (J : xv_J) {x : Int32} (hx : ¬ okR 1 100 x) : xv_Met mX10_pass 8 16 128 (sx n c) I (rx c) J [.ref 0, .int x] (xv_eq (.inr "java/lang/IllegalArgumentException") (sx n c) (I) (rx c) J) := by
  refine xv_Met.of (by decide +kernel) (Nat.le_of_ble_eq_true rfl) (List.forall_mem_cons.mpr ⟨rfl, List.forall_mem_cons.mpr ⟨rfl, fun _ h => nomatch h⟩⟩) ?_
  show xv_W mX10_pass 8 16 128 _ 16 128 (sx n c) I (rx c) J 0 [some (.ref 0), some (.int x)] []
  refine xv_il1 fX10_pass_0 ?_
  refine xv_k fX10_pass_1 ?_
  refine xv_k fX10_pass_2 ?_
  exact xv_callS3X (c_needRange_out n c I J (okR_x hx)) fX10_pass_4 YX10_needRange VX10_needRange lX10_83 rfl (Nat.le_of_ble_eq_true rfl) (by decide) (by decide) (by decide) xv_eq_i

theorem p_pass_ok (n : Nat) (c : Nat × Nat) (I : xv_I) (J : xv_J) {x : Int32} (hx : okR 1 100 x) : xv_Met mX10_pass 8 16 128 (sx n c) I (rx c) J [.ref 0, .int x] (xv_eq (.inl (some (.int (I 0 9 + x)))) (sx n c) (xv_u I 0 9 (I 0 9 + x)) (rx c) J) := by
  refine xv_Met.of (by decide +kernel) (Nat.le_of_ble_eq_true rfl) (List.forall_mem_cons.mpr ⟨rfl, List.forall_mem_cons.mpr ⟨rfl, fun _ h => nomatch h⟩⟩) ?_
  show xv_W mX10_pass 8 16 128 _ 16 128 (sx n c) I (rx c) J 0 [some (.ref 0), some (.int x)] []
  refine xv_il1 fX10_pass_0 ?_
  refine xv_k fX10_pass_1 ?_
  refine xv_k fX10_pass_2 ?_
  refine xv_callS3V (c_needRange_in n c I J (hx).1 (hx).2) fX10_pass_4 YX10_needRange VX10_needRange lX10_83 rfl (Nat.le_of_ble_eq_true rfl) (by decide) (by decide) (by decide) ?_
  refine xv_al0 fX10_pass_7 ?_
  refine xv_dup_r fX10_pass_8 ?_
  refine xv_getI fX10_pass_9 gX10_287 rfl (sx_0 _ _) ?_
  refine xv_il1 fX10_pass_12 ?_
  refine xv_iadd fX10_pass_13 ?_
  refine xv_putI fX10_pass_14 gX10_287 rfl (tp10_9 _) (sx_0 _ _) ⟨rfl, rfl⟩ ?_
  refine xv_al0 fX10_pass_17 ?_
  refine xv_getI fX10_pass_18 gX10_287 rfl (sx_0 _ _) ?_
  rw [xv_u_eq]
  exact xv_iret fX10_pass_21 rfl rfl xv_eq_i

def xWt1 (I : xv_I) (r k : Nat) (s : Int32) : Int32 := s + xDig (I 47 r) 6 k
def xWt2 (I : xv_I) (f w r : Nat) (s : Int32) : Int32 := it (xWt1 I r) w f s
/-- the weight of the cutting from row t and column f, w wide and h high -/
def xWt (I : xv_I) (t f w h : Nat) : Int32 := it (xWt2 I f w) h t (nI 0)
def xCr1 (I : xv_I) (w h t f : Nat) (b : Int32 × Nat) : Int32 × Nat := if xWt I t f w h ≤ b.1 then b else (xWt I t f w h, 10 * t + f)
def xCr2 (I : xv_I) (w h t : Nat) (b : Int32 × Nat) : Int32 × Nat := it (xCr1 I w h t) (7 - w) 0 b
def xCr (I : xv_I) (w h : Nat) : Int32 × Nat := it (xCr2 I w h) (7 - h) 0 (-1, 0)