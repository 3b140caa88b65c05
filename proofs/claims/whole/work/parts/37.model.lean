abbrev mCS (I : xv_I) (a k : Nat) : Prop := I 61 (k / 12) = I 72 a ∧ I 63 k = 0
def mShift1 (k : Nat) (I : xv_I) : xv_I := xv_u I 85 k (I 85 (k + 1))
def mDrop (w : Nat) (I : xv_I) : xv_I := it mShift1 (w - 1) 0 (xv_u I 60 28 (nI (w - 1)))
theorem m_plC_a (n : Nat) (c : Nat × Nat) (I : xv_I) (J : xv_J) (hc : I 60 28 = 0) : xv_Met mX11_placeCorrection 8 0 0 (sx n c) I (rx c) J [.ref 60] (xv_eq (.inl (some (.int (nI 0)))) (sx n c) (xv_u I 60 48 (nI 1)) (rx c) J) := by
  refine xv_Met.of (by decide +kernel) (Nat.le_of_ble_eq_true rfl) (List.forall_mem_cons.mpr ⟨rfl, fun _ h => nomatch h⟩) ?_
  show xv_W mX11_placeCorrection 8 0 0 _ 0 0 (sx n c) I (rx c) J 0 [some (.ref 60), none, none, none] []
  refine xv_al0 fX11_placeCorrection_0 ?_
  refine xv_al0 fX11_placeCorrection_1 ?_
  refine xv_getI fX11_placeCorrection_2 gX11_234 rfl (sx_60 _ _) ?_
  refine xv_if_ne fX11_placeCorrection_5 (fun h_5 => ?_) (fun h_5 => ?_)
  · exact absurd hc h_5
  · refine xv_k fX11_placeCorrection_8 ?_
    refine xv_goto fX11_placeCorrection_9 ?_
    refine xv_callV1R (m_fails1 n c _ J) fX11_placeCorrection_13 YX11_fails VX11_fails lX11_137 rfl rfl (sx_60 _ _) (Nat.le_of_ble_eq_true rfl) (by decide) (by decide) (by decide) ?_
    refine xv_if_eq fX11_placeCorrection_16 (fun h_16 => ?_) (fun h_16 => ?_)
    · exact absurd h_16 (by decide)
    · refine xv_k fX11_placeCorrection_19 ?_
      exact xv_iret fX11_placeCorrection_20 rfl rfl xv_eq_i

theorem l_mplC (n : Nat) (c : Nat × Nat) (I : xv_I) (J : xv_J) {Q : xv_Q} {a : Nat} (ha : a < 20) : ∀ (m : Nat) (s : Int32), m ≤ 84 → mFnd (mCS I a) 84 m s → (∀ s, mFnd (mCS I a) 84 0 s → xv_W mX11_placeCorrection 8 0 0 Q 0 0 (sx n c) I (rx c) J 76 [some (.ref 60), some (.int (nI a)), some (.int s), some (.int (-1))] []) → xv_W mX11_placeCorrection 8 0 0 Q 0 0 (sx n c) I (rx c) J 33 [some (.ref 60), some (.int (nI a)), some (.int s), some (.int (nI m + -1))] [] := by
  intro m
  induction m with
  | zero =>
    intro s hm i0 i1
    show xv_W mX11_placeCorrection 8 0 0 _ 0 0 (sx n c) I (rx c) J 33 [some (.ref 60), some (.int (nI a)), some (.int s), some (.int (-1))] []
    refine xv_il3 fX11_placeCorrection_33 ?_
    refine xv_if_lt fX11_placeCorrection_34 (fun h_34 => ?_) (fun h_34 => ?_)
    · exact i1 s i0
    · exact absurd (by decide) h_34
  | succ m ih =>
    intro s hm i0 i1
    show xv_W mX11_placeCorrection 8 0 0 _ 0 0 (sx n c) I (rx c) J 33 [some (.ref 60), some (.int (nI a)), some (.int s), some (.int (nI (m + 1) + -1))] []
    rw [show nI (m + 1) + -1 = nI m from nI_decr (Nat.succ_le_succ (Nat.zero_le m))]
    refine xv_il3 fX11_placeCorrection_33 ?_
    refine xv_if_lt fX11_placeCorrection_34 (fun h_34 => ?_) (fun h_34 => ?_)
    · exact absurd h_34 (nI_pos (by omega))
    · refine xv_al0 fX11_placeCorrection_37 ?_
      refine xv_getR fX11_placeCorrection_38 gX11_7 rfl (sx_60 _ _) (rx_60_0 _) ?_
      refine xv_il3 fX11_placeCorrection_41 ?_
      refine xv_k fX11_placeCorrection_42 ?_
      refine xv_idiv fX11_placeCorrection_44 (by decide) ?_
      rw [nI_div (by omega) (by decide)]
      refine xv_ialdN fX11_placeCorrection_45 (sx_61 _ _) (⟨by omega, by decide⟩) ?_
      refine xv_al0 fX11_placeCorrection_46 ?_
      refine xv_getR fX11_placeCorrection_47 gX11_44 rfl (sx_60 _ _) (rx_60_14 _) ?_
      refine xv_il1 fX11_placeCorrection_50 ?_
      refine xv_ialdN fX11_placeCorrection_51 (sx_72 _ _) (⟨by omega, by decide⟩) ?_
      refine xv_ic_ne fX11_placeCorrection_52 (fun h_52 => ?_) (fun h_52 => ?_)
      · refine xv_il2 fX11_placeCorrection_68 ?_
        refine xv_is2 fX11_placeCorrection_69 ?_
        refine xv_iinc3 (v := -1) fX11_placeCorrection_70 (by decide) ?_
        refine xv_goto fX11_placeCorrection_73 ?_
        exact ih _ (by omega) (mFnd_f (fun h => h_52 h.1) i0) i1
      · refine xv_al0 fX11_placeCorrection_55 ?_
        refine xv_getR fX11_placeCorrection_56 gX11_17 rfl (sx_60 _ _) (rx_60_2 _) ?_
        refine xv_il3 fX11_placeCorrection_59 ?_
        refine xv_ialdN fX11_placeCorrection_60 (sx_63 _ _) (⟨by omega, by decide⟩) ?_
        refine xv_if_ne fX11_placeCorrection_61 (fun h_61 => ?_) (fun h_61 => ?_)
        · refine xv_il2 fX11_placeCorrection_68 ?_
          refine xv_is2 fX11_placeCorrection_69 ?_
          refine xv_iinc3 (v := -1) fX11_placeCorrection_70 (by decide) ?_
          refine xv_goto fX11_placeCorrection_73 ?_
          exact ih _ (by omega) (mFnd_f (fun h => h_61 h.2) i0) i1
        · refine xv_il3 fX11_placeCorrection_64 ?_
          refine xv_goto fX11_placeCorrection_65 ?_
          refine xv_is2 fX11_placeCorrection_69 ?_
          refine xv_iinc3 (v := -1) fX11_placeCorrection_70 (by decide) ?_
          refine xv_goto fX11_placeCorrection_73 ?_
          exact ih _ (by omega) (mFnd_t (by omega) ⟨h_52, h_61⟩) i1

theorem l_mshift (n : Nat) (c : Nat × Nat) (J : xv_J) {a j w : Nat} (hw5 : w ≤ 5) {Q : xv_Q} : ∀ (m k : Nat) (I : xv_I), k + m = w - 1 → (I 60 28 = nI (w - 1)) → xv_W mX11_placeCorrection 8 0 0 Q 0 0 (sx n c) (it mShift1 m k I) (rx c) J 140 [some (.ref 60), some (.int (nI a)), some (.int (nI j)), some (.int (nI (w - 1)))] [] → xv_W mX11_placeCorrection 8 0 0 Q 0 0 (sx n c) I (rx c) J 112 [some (.ref 60), some (.int (nI a)), some (.int (nI j)), some (.int (nI k))] [] := by
  intro m
  induction m with
  | zero =>
    intro k I hm i0 hx
    obtain rfl : k = w - 1 := by omega
    refine xv_il3 fX11_placeCorrection_112 ?_
    refine xv_al0 fX11_placeCorrection_113 ?_
    refine xv_getI fX11_placeCorrection_114 gX11_234 rfl (sx_60 _ _) ?_
    rw [i0]
    refine xv_ic_ge fX11_placeCorrection_117 (fun h_117 => ?_) (fun h_117 => ?_)
    · exact hx
    · exact absurd (nI_le (Nat.le_refl _) (by omega)) h_117
  | succ m ih =>
    intro k I hm i0 hx
    have hk : k < w - 1 := by omega
    show xv_W mX11_placeCorrection 8 0 0 _ 0 0 (sx n c) I (rx c) J 112 [some (.ref 60), some (.int (nI a)), some (.int (nI j)), some (.int (nI k))] []
    refine xv_il3 fX11_placeCorrection_112 ?_
    refine xv_al0 fX11_placeCorrection_113 ?_
    refine xv_getI fX11_placeCorrection_114 gX11_234 rfl (sx_60 _ _) ?_
    rw [i0]
    refine xv_ic_ge fX11_placeCorrection_117 (fun h_117 => ?_) (fun h_117 => ?_)
    · exact absurd h_117 (nI_ge hk (by omega))
    · refine xv_al0 fX11_placeCorrection_120 ?_
      refine xv_getR fX11_placeCorrection_121 gX11_83 rfl (sx_60 _ _) (rx_60_29 _) ?_
      refine xv_il3 fX11_placeCorrection_124 ?_
      refine xv_al0 fX11_placeCorrection_125 ?_
      refine xv_getR fX11_placeCorrection_126 gX11_83 rfl (sx_60 _ _) (rx_60_29 _) ?_
      refine xv_il3 fX11_placeCorrection_129 ?_
      refine xv_k fX11_placeCorrection_130 ?_
      refine xv_iadd fX11_placeCorrection_131 ?_
      rw [nI_add]
      refine xv_ialdN fX11_placeCorrection_132 (sx_85 _ _) (⟨by omega, by decide⟩) ?_
      refine xv_iastN fX11_placeCorrection_133 (sx_85 _ _) (⟨by omega, by decide⟩) ?_
      refine xv_iincN3 (a := 1) fX11_placeCorrection_134 (by decide) ?_
      refine xv_goto fX11_placeCorrection_137 ?_
      exact ih (k + 1) (mShift1 k I) (by omega) ((xv_u_ne _ _ _ (by decide)).trans i0) hx

theorem m_plC_no (n : Nat) (c : Nat × Nat) (I : xv_I) (J : xv_J) {w a : Nat} (hw : 0 < w) (hw5 : w ≤ 5) (hc : I 60 28 = nI w) (ho : I 85 0 = nI a) (ha : a < 20) (hno : ∀ j, j < 84 → ¬ (mCS (xv_u I 60 48 (nI 0)) a) j) : xv_Met mX11_placeCorrection 8 0 0 (sx n c) I (rx c) J [.ref 60] (xv_eq (.inl (some (.int (-1)))) (sx n c) ((xv_u I 60 48 (nI 0))) (rx c) J) := by
  refine xv_Met.of (by decide +kernel) (Nat.le_of_ble_eq_true rfl) (List.forall_mem_cons.mpr ⟨rfl, fun _ h => nomatch h⟩) ?_
  show xv_W mX11_placeCorrection 8 0 0 _ 0 0 (sx n c) I (rx c) J 0 [some (.ref 60), none, none, none] []
  refine xv_al0 fX11_placeCorrection_0 ?_
  refine xv_al0 fX11_placeCorrection_1 ?_
  refine xv_getI fX11_placeCorrection_2 gX11_234 rfl (sx_60 _ _) ?_
  rw [hc]
  refine xv_if_ne fX11_placeCorrection_5 (fun h_5 => ?_) (fun h_5 => ?_)
  · refine xv_k fX11_placeCorrection_12 ?_
    refine xv_callV1R (m_fails0 n c _ J) fX11_placeCorrection_13 YX11_fails VX11_fails lX11_137 rfl rfl (sx_60 _ _) (Nat.le_of_ble_eq_true rfl) (by decide) (by decide) (by decide) ?_
    refine xv_if_eq fX11_placeCorrection_16 (fun h_16 => ?_) (fun h_16 => ?_)
    · refine xv_al0 fX11_placeCorrection_21 ?_
      refine xv_getR fX11_placeCorrection_22 gX11_83 rfl (sx_60 _ _) (rx_60_29 _) ?_
      refine xv_k fX11_placeCorrection_25 ?_
      refine xv_ialdN fX11_placeCorrection_26 (sx_85 _ _) (⟨by decide, by decide⟩) ?_
      rw [xv_u_ne _ _ _ (by decide), ho]
      refine xv_is1 fX11_placeCorrection_27 ?_
      refine xv_k fX11_placeCorrection_28 ?_
      refine xv_is2 fX11_placeCorrection_29 ?_
      refine xv_k fX11_placeCorrection_30 ?_
      refine xv_is3 fX11_placeCorrection_32 ?_
      refine l_mplC n c _ J ha 84 (-1) (Nat.le_refl _) (mFnd_N _ _) (fun s hs => ?_)
      obtain rfl := mFnd_fs hs
      rw [fsP_no hno]
      refine xv_il2 fX11_placeCorrection_76 ?_
      refine xv_k fX11_placeCorrection_77 ?_
      refine xv_ic_ne fX11_placeCorrection_78 (fun h_78 => ?_) (fun h_78 => ?_)
      · exact absurd rfl h_78
      · refine xv_k fX11_placeCorrection_81 ?_
        exact xv_iret fX11_placeCorrection_82 rfl rfl (xv_eq_I rfl rfl)
    · exact absurd h_16 (by decide)
  · exact absurd h_5 (nI_n0 (by omega) (by omega))
theorem m_plC_ok (n : Nat) (c : Nat × Nat) (I : xv_I) (J : xv_J) {w a : Nat} (hw : 0 < w) (hw5 : w ≤ 5) (hc : I 60 28 = nI w) (ho : I 85 0 = nI a) (ha : a < 20) {j : Nat} (hj : j < 84) (hsp : (mCS (xv_u I 60 48 (nI 0)) a) j) (hlo : ∀ i, i < j → ¬ (mCS (xv_u I 60 48 (nI 0)) a) i) : xv_Met mX11_placeCorrection 8 0 0 (sx n c) I (rx c) J [.ref 60] (xv_eq (.inl (some (.int (nI (100 * (j / 12) + j % 12))))) (sx n c) ((mDrop w (mPut (xv_u I 60 48 (nI 0)) (j / 12) (j % 12) (nI (300 + a))))) (rx c) J) := by
  refine xv_Met.of (by decide +kernel) (Nat.le_of_ble_eq_true rfl) (List.forall_mem_cons.mpr ⟨rfl, fun _ h => nomatch h⟩) ?_
  show xv_W mX11_placeCorrection 8 0 0 _ 0 0 (sx n c) I (rx c) J 0 [some (.ref 60), none, none, none] []
  refine xv_al0 fX11_placeCorrection_0 ?_
  refine xv_al0 fX11_placeCorrection_1 ?_
  refine xv_getI fX11_placeCorrection_2 gX11_234 rfl (sx_60 _ _) ?_
  rw [hc]
  refine xv_if_ne fX11_placeCorrection_5 (fun h_5 => ?_) (fun h_5 => ?_)
  · refine xv_k fX11_placeCorrection_12 ?_
    refine xv_callV1R (m_fails0 n c _ J) fX11_placeCorrection_13 YX11_fails VX11_fails lX11_137 rfl rfl (sx_60 _ _) (Nat.le_of_ble_eq_true rfl) (by decide) (by decide) (by decide) ?_
    refine xv_if_eq fX11_placeCorrection_16 (fun h_16 => ?_) (fun h_16 => ?_)
    · refine xv_al0 fX11_placeCorrection_21 ?_
      refine xv_getR fX11_placeCorrection_22 gX11_83 rfl (sx_60 _ _) (rx_60_29 _) ?_
      refine xv_k fX11_placeCorrection_25 ?_
      refine xv_ialdN fX11_placeCorrection_26 (sx_85 _ _) (⟨by decide, by decide⟩) ?_
      rw [xv_u_ne _ _ _ (by decide), ho]
      refine xv_is1 fX11_placeCorrection_27 ?_
      refine xv_k fX11_placeCorrection_28 ?_
      refine xv_is2 fX11_placeCorrection_29 ?_
      refine xv_k fX11_placeCorrection_30 ?_
      refine xv_is3 fX11_placeCorrection_32 ?_
      refine l_mplC n c _ J ha 84 (-1) (Nat.le_refl _) (mFnd_N _ _) (fun s hs => ?_)
      obtain rfl := mFnd_fs hs
      rw [fsP_eq hlo hsp hj]
      refine xv_il2 fX11_placeCorrection_76 ?_
      refine xv_k fX11_placeCorrection_77 ?_
      refine xv_ic_ne fX11_placeCorrection_78 (fun h_78 => ?_) (fun h_78 => ?_)
      · refine xv_al0 fX11_placeCorrection_83 ?_
        refine xv_il2 fX11_placeCorrection_84 ?_
        refine xv_k fX11_placeCorrection_85 ?_
        refine xv_idiv fX11_placeCorrection_87 (by decide) ?_
        rw [nI_div (by omega) (by decide)]
        refine xv_il2 fX11_placeCorrection_88 ?_
        refine xv_k fX11_placeCorrection_89 ?_
        refine xv_irem fX11_placeCorrection_91 (by decide) ?_
        rw [nI_rem (by omega) (by decide)]
        refine xv_k fX11_placeCorrection_92 ?_
        refine xv_il1 fX11_placeCorrection_95 ?_
        refine xv_iadd fX11_placeCorrection_96 ?_
        rw [nI_add]
        refine xv_callV3V (m_puts n c _ J (p := j / 12) (by omega) (k := j % 12) (by omega)) fX11_placeCorrection_97 YX11_puts VX11_puts lX11_154 rfl rfl (sx_60 _ _) (Nat.le_of_ble_eq_true rfl) (by decide) (by decide) (by decide) ?_
        refine xv_al0 fX11_placeCorrection_100 ?_
        refine xv_dup_r fX11_placeCorrection_101 ?_
        refine xv_getI fX11_placeCorrection_102 gX11_234 rfl (sx_60 _ _) ?_
        rw [mPut_o _ _ (by decide) (by decide) (Or.inr (by decide)), xv_u_nk _ _ _ (by decide), hc]
        refine xv_k fX11_placeCorrection_105 ?_
        refine xv_isub fX11_placeCorrection_106 ?_
        rw [nI_sub (show 1 ≤ w from hw)]
        refine xv_putI fX11_placeCorrection_107 gX11_234 rfl (tp11_28 _) (sx_60 _ _) ⟨rfl, rfl⟩ ?_
        refine xv_k fX11_placeCorrection_110 ?_
        refine xv_is3 fX11_placeCorrection_111 ?_
        refine l_mshift n c J hw5 (w - 1) 0 _ (by omega) (xv_u_eq _ _ _ _) ?_
        refine xv_k fX11_placeCorrection_140 ?_
        refine xv_il2 fX11_placeCorrection_142 ?_
        refine xv_k fX11_placeCorrection_143 ?_
        refine xv_idiv fX11_placeCorrection_145 (by decide) ?_
        rw [nI_div (by omega) (by decide)]
        refine xv_imul fX11_placeCorrection_146 ?_
        rw [nI_mul]
        refine xv_il2 fX11_placeCorrection_147 ?_
        refine xv_k fX11_placeCorrection_148 ?_
        refine xv_irem fX11_placeCorrection_150 (by decide) ?_
        rw [nI_rem (by omega) (by decide)]
        refine xv_iadd fX11_placeCorrection_151 ?_
        rw [nI_add]
        exact xv_iret fX11_placeCorrection_152 rfl rfl (xv_eq_I rfl rfl)
      · exact absurd h_78 (nI_nm1 (by omega))
    · exact absurd h_16 (by decide)
  · exact absurd h_5 (nI_n0 (by omega) (by omega))
def mCln1 (p k : Nat) (s : Nat × xv_I) : Nat × xv_I := (s.1 + (mClr p (nI (300 + k)) s.2).1, (mClr p (nI (300 + k)) s.2).2)
def mCln (p w : Nat) (I : xv_I) : Nat × xv_I := it (mCln1 p) w 0 (0, I)
theorem mClr_o (I : xv_I) {p : Nat} {x : Int32} {v : Nat} (j : Nat) (h : v ≠ 81) (h2 : v ≠ 63) (h3 : v ≠ 60 ∨ j ≠ 3) : (mClr p x I).2 v j = I v j := by
  unfold mClr
  refine it_inv (fun q : Nat × xv_I => q.2 v j = I v j) (fun k q hq => ?_) _ _ _ rfl
  unfold mClr1
  split
  · exact (mPut_o _ _ h h2 h3).trans hq
  · exact hq
theorem m_clean_a (n : Nat) (c : Nat × Nat) (I : xv_I) (J : xv_J) {x : Int32} (hx : x < 0 ∨ ¬ x ≤ nI 9) : xv_Met mX11_clean 8 0 0 (sx n c) I (rx c) J [.ref 60, .int x] (xv_eq (.inl (some (.int (nI 0)))) (sx n c) (xv_u I 60 48 (nI 1)) (rx c) J) := by
  refine xv_Met.of (by decide +kernel) (Nat.le_of_ble_eq_true rfl) (List.forall_mem_cons.mpr ⟨rfl, List.forall_mem_cons.mpr ⟨rfl, fun _ h => nomatch h⟩⟩) ?_
  show xv_W mX11_clean 8 0 0 _ 0 0 (sx n c) I (rx c) J 0 [some (.ref 60), some (.int x), none, none] []
  refine xv_al0 fX11_clean_0 ?_
  refine xv_il1 fX11_clean_1 ?_
  refine xv_callS1R (m_isPage_f n c _ J hx) fX11_clean_2 YX11_isPage VX11_isPage lX11_130 rfl (Nat.le_of_ble_eq_true rfl) (by decide) (by decide) (by decide) ?_
  refine xv_if_eq fX11_clean_5 (fun h_5 => ?_) (fun h_5 => ?_)
  · refine xv_k fX11_clean_12 ?_
    refine xv_callV1R (m_fails1 n c _ J) fX11_clean_13 YX11_fails VX11_fails lX11_137 rfl rfl (sx_60 _ _) (Nat.le_of_ble_eq_true rfl) (by decide) (by decide) (by decide) ?_
    refine xv_if_eq fX11_clean_16 (fun h_16 => ?_) (fun h_16 => ?_)
    · exact absurd h_16 (by decide)
    · refine xv_k fX11_clean_19 ?_
      exact xv_iret fX11_clean_20 rfl rfl xv_eq_i
  · exact absurd h_5 (by decide)

theorem l_mclean (n : Nat) (c : Nat × Nat) (J : xv_J) {p : Nat} (hp : p < 10) {w : Nat} (hw : w ≤ 20) {Q : xv_Q} : ∀ (m k : Nat) (I : xv_I) (s : Nat), k + m = w → (I 60 13 = nI w) → (xv_W mX11_clean 8 0 0 Q 0 0 (sx n c) (it (mCln1 p) m k (s, I)).2 (rx c) J 52 [some (.ref 60), some (.int (nI p)), some (.int (nI (it (mCln1 p) m k (s, I)).1)), some (.int (nI w))] []) → xv_W mX11_clean 8 0 0 Q 0 0 (sx n c) I (rx c) J 25 [some (.ref 60), some (.int (nI p)), some (.int (nI s)), some (.int (nI k))] [] := by
  intro m
  induction m with
  | zero =>
    intro k I s hm i0 i1
    obtain rfl : k = w := by omega
    refine xv_il3 fX11_clean_25 ?_
    refine xv_al0 fX11_clean_26 ?_
    refine xv_getI fX11_clean_27 gX11_172 rfl (sx_60 _ _) ?_
    rw [i0]
    refine xv_ic_ge fX11_clean_30 (fun h_30 => ?_) (fun h_30 => ?_)
    · exact i1
    · exact absurd (nI_le (Nat.le_refl _) (by omega)) h_30
  | succ m ih =>
    intro k I s hm i0 i1
    have hk : k < w := by omega
    show xv_W mX11_clean 8 0 0 _ 0 0 (sx n c) I (rx c) J 25 [some (.ref 60), some (.int (nI p)), some (.int (nI s)), some (.int (nI k))] []
    refine xv_il3 fX11_clean_25 ?_
    refine xv_al0 fX11_clean_26 ?_
    refine xv_getI fX11_clean_27 gX11_172 rfl (sx_60 _ _) ?_
    rw [i0]
    refine xv_ic_ge fX11_clean_30 (fun h_30 => ?_) (fun h_30 => ?_)
    · exact absurd h_30 (nI_ge hk (by omega))
    · refine xv_il2 fX11_clean_33 ?_
      refine xv_al0 fX11_clean_34 ?_
      refine xv_il1 fX11_clean_35 ?_
      refine xv_k fX11_clean_36 ?_
      refine xv_il3 fX11_clean_39 ?_
      refine xv_iadd fX11_clean_40 ?_
      rw [nI_add]
      refine xv_callV2R (m_clr n c _ J hp) fX11_clean_41 YX11_clears VX11_clears lX11_217 rfl rfl (sx_60 _ _) (Nat.le_of_ble_eq_true rfl) (by decide) (by decide) (by decide) ?_
      refine xv_iadd fX11_clean_44 ?_
      rw [nI_add]
      refine xv_is2 fX11_clean_45 ?_
      refine xv_iincN3 (a := 1) fX11_clean_46 (by decide) ?_
      refine xv_goto fX11_clean_49 ?_
      exact ih (k + 1) _ _ (by omega) ((mClr_o _ _ (by decide) (by decide) (Or.inr (by decide))).trans i0) i1

theorem m_clean_ok (n : Nat) (c : Nat × Nat) (I : xv_I) (J : xv_J) {p : Nat} (hp : p < 10) {w : Nat} (hw : w ≤ 20) (hn : I 60 13 = nI w) : xv_Met mX11_clean 8 0 0 (sx n c) I (rx c) J [.ref 60, .int (nI p)] (xv_eq (.inl (some (.int (nI (mCln p w (xv_u I 60 48 (nI 0))).1)))) (sx n c) ((mCln p w (xv_u I 60 48 (nI 0))).2) (rx c) J) := by
  refine xv_Met.of (by decide +kernel) (Nat.le_of_ble_eq_true rfl) (List.forall_mem_cons.mpr ⟨rfl, List.forall_mem_cons.mpr ⟨rfl, fun _ h => nomatch h⟩⟩) ?_
  show xv_W mX11_clean 8 0 0 _ 0 0 (sx n c) I (rx c) J 0 [some (.ref 60), some (.int (nI p)), none, none] []
  refine xv_al0 fX11_clean_0 ?_
  refine xv_il1 fX11_clean_1 ?_
  refine xv_callS1R (m_isPage_t n c _ J hp) fX11_clean_2 YX11_isPage VX11_isPage lX11_130 rfl (Nat.le_of_ble_eq_true rfl) (by decide) (by decide) (by decide) ?_
  refine xv_if_eq fX11_clean_5 (fun h_5 => ?_) (fun h_5 => ?_)
  · exact absurd h_5 (by decide)
  · refine xv_k fX11_clean_8 ?_
    refine xv_goto fX11_clean_9 ?_
    refine xv_callV1R (m_fails0 n c _ J) fX11_clean_13 YX11_fails VX11_fails lX11_137 rfl rfl (sx_60 _ _) (Nat.le_of_ble_eq_true rfl) (by decide) (by decide) (by decide) ?_
    refine xv_if_eq fX11_clean_16 (fun h_16 => ?_) (fun h_16 => ?_)
    · refine xv_k fX11_clean_21 ?_
      refine xv_is2 fX11_clean_22 ?_
      refine xv_k fX11_clean_23 ?_
      refine xv_is3 fX11_clean_24 ?_
      exact l_mclean n c J hp hw w 0 _ 0 (by omega) ((xv_u_nk _ _ _ (by decide)).trans hn) (by exact xv_il2 fX11_clean_52 (xv_iret fX11_clean_53 rfl rfl (xv_eq_I rfl rfl)))
    · exact absurd h_16 (by decide)

theorem m_pass_a (n : Nat) (c : Nat × Nat) (I : xv_I) (J : xv_J) {x : Int32} (hx : x < nI 1 ∨ ¬ x ≤ nI 100) : xv_Met mX11_pass 8 0 0 (sx n c) I (rx c) J [.ref 60, .int x] (xv_eq (.inl (some (.int (nI 0)))) (sx n c) (xv_u I 60 48 (nI 1)) (rx c) J) := by
  refine xv_Met.of (by decide +kernel) (Nat.le_of_ble_eq_true rfl) (List.forall_mem_cons.mpr ⟨rfl, List.forall_mem_cons.mpr ⟨rfl, fun _ h => nomatch h⟩⟩) ?_
  show xv_W mX11_pass 8 0 0 _ 0 0 (sx n c) I (rx c) J 0 [some (.ref 60), some (.int x)] []
  refine xv_al0 fX11_pass_0 ?_
  refine xv_il1 fX11_pass_1 ?_
  refine xv_k fX11_pass_2 ?_
  refine xv_k fX11_pass_3 ?_
  refine xv_callS3R (m_isIn_f n c _ J (hx)) fX11_pass_5 YX11_isIn VX11_isIn lX11_126 rfl (Nat.le_of_ble_eq_true rfl) (by decide) (by decide) (by decide) ?_
  refine xv_if_eq fX11_pass_8 (fun h_8 => ?_) (fun h_8 => ?_)
  · refine xv_k fX11_pass_15 ?_
    refine xv_callV1R (m_fails1 n c _ J) fX11_pass_16 YX11_fails VX11_fails lX11_137 rfl rfl (sx_60 _ _) (Nat.le_of_ble_eq_true rfl) (by decide) (by decide) (by decide) ?_
    refine xv_if_eq fX11_pass_19 (fun h_19 => ?_) (fun h_19 => ?_)
    · exact absurd h_19 (by decide)
    · refine xv_k fX11_pass_22 ?_
      exact xv_iret fX11_pass_23 rfl rfl xv_eq_i
  · exact absurd h_8 (by decide)

theorem m_pass_ok (n : Nat) (c : Nat × Nat) (I : xv_I) (J : xv_J) {x : Int32} (hx : okR 1 100 x) : xv_Met mX11_pass 8 0 0 (sx n c) I (rx c) J [.ref 60, .int x] (xv_eq (.inl (some (.int (I 60 30 + x)))) (sx n c) (xv_u (xv_u I 60 48 (nI 0)) 60 30 (I 60 30 + x)) (rx c) J) := by
  refine xv_Met.of (by decide +kernel) (Nat.le_of_ble_eq_true rfl) (List.forall_mem_cons.mpr ⟨rfl, List.forall_mem_cons.mpr ⟨rfl, fun _ h => nomatch h⟩⟩) ?_
  show xv_W mX11_pass 8 0 0 _ 0 0 (sx n c) I (rx c) J 0 [some (.ref 60), some (.int x)] []
  refine xv_al0 fX11_pass_0 ?_
  refine xv_il1 fX11_pass_1 ?_
  refine xv_k fX11_pass_2 ?_
  refine xv_k fX11_pass_3 ?_
  refine xv_callS3R (m_isIn_t n c _ J (hx).1 (hx).2) fX11_pass_5 YX11_isIn VX11_isIn lX11_126 rfl (Nat.le_of_ble_eq_true rfl) (by decide) (by decide) (by decide) ?_
  refine xv_if_eq fX11_pass_8 (fun h_8 => ?_) (fun h_8 => ?_)
  · exact absurd h_8 (by decide)
  · refine xv_k fX11_pass_11 ?_
    refine xv_goto fX11_pass_12 ?_
    refine xv_callV1R (m_fails0 n c _ J) fX11_pass_16 YX11_fails VX11_fails lX11_137 rfl rfl (sx_60 _ _) (Nat.le_of_ble_eq_true rfl) (by decide) (by decide) (by decide) ?_
    refine xv_if_eq fX11_pass_19 (fun h_19 => ?_) (fun h_19 => ?_)
    · refine xv_al0 fX11_pass_24 ?_
      refine xv_dup_r fX11_pass_25 ?_
      refine xv_getI fX11_pass_26 gX11_240 rfl (sx_60 _ _) ?_
      rw [xv_u_nk _ _ _ (by decide)]
      refine xv_il1 fX11_pass_29 ?_
      refine xv_iadd fX11_pass_30 ?_
      refine xv_putI fX11_pass_31 gX11_240 rfl (tp11_30 _) (sx_60 _ _) ⟨rfl, rfl⟩ ?_
      refine xv_al0 fX11_pass_34 ?_
      refine xv_getI fX11_pass_35 gX11_240 rfl (sx_60 _ _) ?_
      rw [xv_u_eq]
      exact xv_iret fX11_pass_38 rfl rfl xv_eq_i
    · exact absurd h_19 (by decide)

theorem m_truck_a (n : Nat) (c : Nat × Nat) (I : xv_I) (J : xv_J) {x y : Int32} (hx : x < nI 0 ∨ ¬ x ≤ nI 1000) : xv_Met mX11_truck 8 0 0 (sx n c) I (rx c) J [.ref 60, .int x, .int y] (xv_eq (.inl (some (.int (nI 0)))) (sx n c) (xv_u I 60 48 (nI 1)) (rx c) J) := by
  refine xv_Met.of (by decide +kernel) (Nat.le_of_ble_eq_true rfl) (List.forall_mem_cons.mpr ⟨rfl, List.forall_mem_cons.mpr ⟨rfl, List.forall_mem_cons.mpr ⟨rfl, fun _ h => nomatch h⟩⟩⟩) ?_
  show xv_W mX11_truck 8 0 0 _ 0 0 (sx n c) I (rx c) J 0 [some (.ref 60), some (.int x), some (.int y), none] []
  refine xv_il1 fX11_truck_0 ?_
  refine xv_k fX11_truck_1 ?_
  refine xv_k fX11_truck_2 ?_
  refine xv_callS3R (m_isIn_f n c _ J (hx)) fX11_truck_5 YX11_isIn VX11_isIn lX11_126 rfl (Nat.le_of_ble_eq_true rfl) (by decide) (by decide) (by decide) ?_
  refine xv_if_eq fX11_truck_8 (fun h_8 => ?_) (fun h_8 => ?_)
  · refine xv_k fX11_truck_26 ?_
    refine xv_is3 fX11_truck_27 ?_
    refine xv_al0 fX11_truck_28 ?_
    refine xv_il3 fX11_truck_29 ?_
    refine xv_if_ne fX11_truck_30 (fun h_30 => ?_) (fun h_30 => ?_)
    · exact absurd h_30 (by decide)
    · refine xv_k fX11_truck_33 ?_
      refine xv_goto fX11_truck_34 ?_
      refine xv_callV1R (m_fails1 n c _ J) fX11_truck_51 YX11_fails VX11_fails lX11_137 rfl rfl (sx_60 _ _) (Nat.le_of_ble_eq_true rfl) (by decide) (by decide) (by decide) ?_
      refine xv_if_eq fX11_truck_54 (fun h_54 => ?_) (fun h_54 => ?_)
      · exact absurd h_54 (by decide)
      · refine xv_k fX11_truck_57 ?_
        exact xv_iret fX11_truck_58 rfl rfl xv_eq_i
  · exact absurd h_8 (by decide)

theorem m_truck_b (n : Nat) (c : Nat × Nat) (I : xv_I) (J : xv_J) {x y : Int32} (hx : okR 0 1000 x) (hy : y < nI 1 ∨ ¬ y ≤ nI 5000) : xv_Met mX11_truck 8 0 0 (sx n c) I (rx c) J [.ref 60, .int x, .int y] (xv_eq (.inl (some (.int (nI 0)))) (sx n c) (xv_u I 60 48 (nI 1)) (rx c) J) := by
  refine xv_Met.of (by decide +kernel) (Nat.le_of_ble_eq_true rfl) (List.forall_mem_cons.mpr ⟨rfl, List.forall_mem_cons.mpr ⟨rfl, List.forall_mem_cons.mpr ⟨rfl, fun _ h => nomatch h⟩⟩⟩) ?_
  show xv_W mX11_truck 8 0 0 _ 0 0 (sx n c) I (rx c) J 0 [some (.ref 60), some (.int x), some (.int y), none] []
  refine xv_il1 fX11_truck_0 ?_
  refine xv_k fX11_truck_1 ?_
  refine xv_k fX11_truck_2 ?_
  refine xv_callS3R (m_isIn_t n c _ J (hx).1 (hx).2) fX11_truck_5 YX11_isIn VX11_isIn lX11_126 rfl (Nat.le_of_ble_eq_true rfl) (by decide) (by decide) (by decide) ?_
  refine xv_if_eq fX11_truck_8 (fun h_8 => ?_) (fun h_8 => ?_)
  · exact absurd h_8 (by decide)
  · refine xv_il2 fX11_truck_11 ?_
    refine xv_k fX11_truck_12 ?_
    refine xv_k fX11_truck_13 ?_
    refine xv_callS3R (m_isIn_f n c _ J (hy)) fX11_truck_16 YX11_isIn VX11_isIn lX11_126 rfl (Nat.le_of_ble_eq_true rfl) (by decide) (by decide) (by decide) ?_
    refine xv_if_eq fX11_truck_19 (fun h_19 => ?_) (fun h_19 => ?_)
    · refine xv_k fX11_truck_26 ?_
      refine xv_is3 fX11_truck_27 ?_
      refine xv_al0 fX11_truck_28 ?_
      refine xv_il3 fX11_truck_29 ?_
      refine xv_if_ne fX11_truck_30 (fun h_30 => ?_) (fun h_30 => ?_)
      · exact absurd h_30 (by decide)
      · refine xv_k fX11_truck_33 ?_
        refine xv_goto fX11_truck_34 ?_
        refine xv_callV1R (m_fails1 n c _ J) fX11_truck_51 YX11_fails VX11_fails lX11_137 rfl rfl (sx_60 _ _) (Nat.le_of_ble_eq_true rfl) (by decide) (by decide) (by decide) ?_
        refine xv_if_eq fX11_truck_54 (fun h_54 => ?_) (fun h_54 => ?_)
        · exact absurd h_54 (by decide)
        · refine xv_k fX11_truck_57 ?_
          exact xv_iret fX11_truck_58 rfl rfl xv_eq_i
    · exact absurd h_19 (by decide)

theorem m_truck_c (n : Nat) (c : Nat × Nat) (I : xv_I) (J : xv_J) {x y : Int32} (hx : okR 0 1000 x) (hy : okR 1 5000 y) (hc : I 60 31 = nI 6) : xv_Met mX11_truck 8 0 0 (sx n c) I (rx c) J [.ref 60, .int x, .int y] (xv_eq (.inl (some (.int (nI 0)))) (sx n c) (xv_u I 60 48 (nI 2)) (rx c) J) := by
  refine xv_Met.of (by decide +kernel) (Nat.le_of_ble_eq_true rfl) (List.forall_mem_cons.mpr ⟨rfl, List.forall_mem_cons.mpr ⟨rfl, List.forall_mem_cons.mpr ⟨rfl, fun _ h => nomatch h⟩⟩⟩) ?_
  show xv_W mX11_truck 8 0 0 _ 0 0 (sx n c) I (rx c) J 0 [some (.ref 60), some (.int x), some (.int y), none] []
  refine xv_il1 fX11_truck_0 ?_
  refine xv_k fX11_truck_1 ?_
  refine xv_k fX11_truck_2 ?_
  refine xv_callS3R (m_isIn_t n c _ J (hx).1 (hx).2) fX11_truck_5 YX11_isIn VX11_isIn lX11_126 rfl (Nat.le_of_ble_eq_true rfl) (by decide) (by decide) (by decide) ?_
  refine xv_if_eq fX11_truck_8 (fun h_8 => ?_) (fun h_8 => ?_)
  · exact absurd h_8 (by decide)
  · refine xv_il2 fX11_truck_11 ?_
    refine xv_k fX11_truck_12 ?_
    refine xv_k fX11_truck_13 ?_
    refine xv_callS3R (m_isIn_t n c _ J (hy).1 (hy).2) fX11_truck_16 YX11_isIn VX11_isIn lX11_126 rfl (Nat.le_of_ble_eq_true rfl) (by decide) (by decide) (by decide) ?_
    refine xv_if_eq fX11_truck_19 (fun h_19 => ?_) (fun h_19 => ?_)
    · exact absurd h_19 (by decide)
    · refine xv_k fX11_truck_22 ?_
      refine xv_goto fX11_truck_23 ?_
      refine xv_is3 fX11_truck_27 ?_
      refine xv_al0 fX11_truck_28 ?_
      refine xv_il3 fX11_truck_29 ?_
      refine xv_if_ne fX11_truck_30 (fun h_30 => ?_) (fun h_30 => ?_)
      · refine xv_al0 fX11_truck_37 ?_
        refine xv_getI fX11_truck_38 gX11_246 rfl (sx_60 _ _) ?_
        rw [hc]
        refine xv_k fX11_truck_41 ?_
        refine xv_ic_ne fX11_truck_43 (fun h_43 => ?_) (fun h_43 => ?_)
        · exact absurd h_43 (by decide)
        · refine xv_k fX11_truck_46 ?_
          refine xv_goto fX11_truck_47 ?_
          refine xv_callV1R (m_fails2 n c _ J) fX11_truck_51 YX11_fails VX11_fails lX11_137 rfl rfl (sx_60 _ _) (Nat.le_of_ble_eq_true rfl) (by decide) (by decide) (by decide) ?_
          refine xv_if_eq fX11_truck_54 (fun h_54 => ?_) (fun h_54 => ?_)
          · exact absurd h_54 (by decide)
          · refine xv_k fX11_truck_57 ?_
            exact xv_iret fX11_truck_58 rfl rfl xv_eq_i
      · exact absurd h_30 (by decide)

theorem m_truck_ok (n : Nat) (c : Nat × Nat) (I : xv_I) (J : xv_J) {x y : Int32} (hx : okR 0 1000 x) (hy : okR 1 5000 y) {w : Nat} (hw : w < 6) (hc : I 60 31 = nI w) : xv_Met mX11_truck 8 0 0 (sx n c) I (rx c) J [.ref 60, .int x, .int y] (xv_eq (.inl (some (.int (nI w)))) (sx n c) (xv_u (xv_u (xv_u (xv_u I 60 48 (nI 0)) 86 w x) 87 w y) 60 31 (nI (w + 1))) (rx c) J) := by
  refine xv_Met.of (by decide +kernel) (Nat.le_of_ble_eq_true rfl) (List.forall_mem_cons.mpr ⟨rfl, List.forall_mem_cons.mpr ⟨rfl, List.forall_mem_cons.mpr ⟨rfl, fun _ h => nomatch h⟩⟩⟩) ?_
  show xv_W mX11_truck 8 0 0 _ 0 0 (sx n c) I (rx c) J 0 [some (.ref 60), some (.int x), some (.int y), none] []
  refine xv_il1 fX11_truck_0 ?_
  refine xv_k fX11_truck_1 ?_
  refine xv_k fX11_truck_2 ?_
  refine xv_callS3R (m_isIn_t n c _ J (hx).1 (hx).2) fX11_truck_5 YX11_isIn VX11_isIn lX11_126 rfl (Nat.le_of_ble_eq_true rfl) (by decide) (by decide) (by decide) ?_
  refine xv_if_eq fX11_truck_8 (fun h_8 => ?_) (fun h_8 => ?_)
  · exact absurd h_8 (by decide)
  · refine xv_il2 fX11_truck_11 ?_
    refine xv_k fX11_truck_12 ?_
    refine xv_k fX11_truck_13 ?_
    refine xv_callS3R (m_isIn_t n c _ J (hy).1 (hy).2) fX11_truck_16 YX11_isIn VX11_isIn lX11_126 rfl (Nat.le_of_ble_eq_true rfl) (by decide) (by decide) (by decide) ?_
    refine xv_if_eq fX11_truck_19 (fun h_19 => ?_) (fun h_19 => ?_)
    · exact absurd h_19 (by decide)
    · refine xv_k fX11_truck_22 ?_
      refine xv_goto fX11_truck_23 ?_
      refine xv_is3 fX11_truck_27 ?_
      refine xv_al0 fX11_truck_28 ?_
      refine xv_il3 fX11_truck_29 ?_
      refine xv_if_ne fX11_truck_30 (fun h_30 => ?_) (fun h_30 => ?_)
      · refine xv_al0 fX11_truck_37 ?_
        refine xv_getI fX11_truck_38 gX11_246 rfl (sx_60 _ _) ?_
        rw [hc]
        refine xv_k fX11_truck_41 ?_
        refine xv_ic_ne fX11_truck_43 (fun h_43 => ?_) (fun h_43 => ?_)
        · refine xv_k fX11_truck_50 ?_
          refine xv_callV1R (m_fails0 n c _ J) fX11_truck_51 YX11_fails VX11_fails lX11_137 rfl rfl (sx_60 _ _) (Nat.le_of_ble_eq_true rfl) (by decide) (by decide) (by decide) ?_
          refine xv_if_eq fX11_truck_54 (fun h_54 => ?_) (fun h_54 => ?_)
          · refine xv_al0 fX11_truck_59 ?_
            refine xv_getR fX11_truck_60 gX11_86 rfl (sx_60 _ _) (rx_60_32 _) ?_
            refine xv_al0 fX11_truck_63 ?_
            refine xv_getI fX11_truck_64 gX11_246 rfl (sx_60 _ _) ?_
            refine xv_eqi (y := nI w) (by simp [xv_u, hc]) ?_
            refine xv_il1 fX11_truck_67 ?_
            refine xv_iastN fX11_truck_68 (sx_86 _ _) (⟨by omega, by decide⟩) ?_
            refine xv_al0 fX11_truck_69 ?_
            refine xv_getR fX11_truck_70 gX11_89 rfl (sx_60 _ _) (rx_60_33 _) ?_
            refine xv_al0 fX11_truck_73 ?_
            refine xv_getI fX11_truck_74 gX11_246 rfl (sx_60 _ _) ?_
            refine xv_eqi (y := nI w) (by simp [xv_u, hc]) ?_
            refine xv_il2 fX11_truck_77 ?_
            refine xv_iastN fX11_truck_78 (sx_87 _ _) (⟨by omega, by decide⟩) ?_
            refine xv_al0 fX11_truck_79 ?_
            refine xv_dup_r fX11_truck_80 ?_
            refine xv_getI fX11_truck_81 gX11_246 rfl (sx_60 _ _) ?_
            refine xv_eqi (y := nI w) (by simp [xv_u, hc]) ?_
            refine xv_k fX11_truck_84 ?_
            refine xv_iadd fX11_truck_85 ?_
            rw [nI_add]
            refine xv_putI fX11_truck_86 gX11_246 rfl (tp11_31 _) (sx_60 _ _) ⟨rfl, rfl⟩ ?_
            refine xv_al0 fX11_truck_89 ?_
            refine xv_getI fX11_truck_90 gX11_246 rfl (sx_60 _ _) ?_
            rw [xv_u_eq]
            refine xv_k fX11_truck_93 ?_
            refine xv_isub fX11_truck_94 ?_
            rw [show nI (w + 1) - nI 1 = nI w from nI_sub (Nat.succ_le_succ (Nat.zero_le _))]
            exact xv_iret fX11_truck_95 rfl rfl xv_eq_i
          · exact absurd h_54 (by decide)
        · exact absurd h_43 (nI_ne2 (by omega) (by omega) (by decide))
      · exact absurd h_30 (by decide)

noncomputable def mAh1 (I : xv_I) (b k : Nat) (s : Int32) : Int32 := s + (if (I 86 k < I 86 b ∨ (I 86 k = I 86 b ∧ k ≤ b)) then I 87 k else nI 0)
noncomputable def mAh (I : xv_I) (w b : Nat) : Int32 := it (mAh1 I b) w 0 (nI 0)
noncomputable def mLate (I : xv_I) (w b e : Nat) : Int32 := if I 84 e + (mAh I w b + nI 49) / nI 50 - I 86 b ≤ 0 then nI 0 else I 84 e + (mAh I w b + nI 49) / nI 50 - I 86 b
theorem m_late_a (n : Nat) (c : Nat × Nat) (I : xv_I) (J : xv_J) {x : Int32} {w : Nat} (hx : x < 0 ∨ ¬ x < nI w) (hw : w ≤ 8) (hn : I 60 25 = nI w) {y : Int32} : xv_Met mX11_late 8 0 0 (sx n c) I (rx c) J [.ref 60, .int x, .int y] (xv_eq (.inl (some (.int (nI 0)))) (sx n c) (xv_u I 60 48 (nI 1)) (rx c) J) := by
  refine xv_Met.of (by decide +kernel) (Nat.le_of_ble_eq_true rfl) (List.forall_mem_cons.mpr ⟨rfl, List.forall_mem_cons.mpr ⟨rfl, List.forall_mem_cons.mpr ⟨rfl, fun _ h => nomatch h⟩⟩⟩) ?_
  show xv_W mX11_late 8 0 0 _ 0 0 (sx n c) I (rx c) J 0 [some (.ref 60), some (.int x), some (.int y), none, none, none, none] []
  refine xv_al0 fX11_late_0 ?_
  refine xv_il1 fX11_late_1 ?_
  refine xv_callV1R (m_isEd_f n c _ J hx hw hn) fX11_late_2 YX11_isEdition VX11_isEdition lX11_243 rfl rfl (sx_60 _ _) (Nat.le_of_ble_eq_true rfl) (by decide) (by decide) (by decide) ?_
  refine xv_if_eq fX11_late_5 (fun h_5 => ?_) (fun h_5 => ?_)
  · refine xv_k fX11_late_26 ?_
    refine xv_is3 fX11_late_27 ?_
    refine xv_al0 fX11_late_28 ?_
    refine xv_il3 fX11_late_29 ?_
    refine xv_if_eq fX11_late_30 (fun h_30 => ?_) (fun h_30 => ?_)
    · refine xv_k fX11_late_37 ?_
      refine xv_callV1R (m_fails1 n c _ J) fX11_late_38 YX11_fails VX11_fails lX11_137 rfl rfl (sx_60 _ _) (Nat.le_of_ble_eq_true rfl) (by decide) (by decide) (by decide) ?_
      refine xv_if_eq fX11_late_41 (fun h_41 => ?_) (fun h_41 => ?_)
      · exact absurd h_41 (by decide)
      · refine xv_k fX11_late_44 ?_
        exact xv_iret fX11_late_45 rfl rfl xv_eq_i
    · exact absurd h_30 (by decide)
  · exact absurd h_5 (by decide)

theorem m_late_b (n : Nat) (c : Nat × Nat) (I : xv_I) (J : xv_J) {e w : Nat} (he : e < w) (hw : w ≤ 8) (hn : I 60 25 = nI w) {y : Int32} {v : Nat} (hv : v ≤ 6) (hc : I 60 31 = nI v) (hy : y < 0 ∨ ¬ y < nI v) : xv_Met mX11_late 8 0 0 (sx n c) I (rx c) J [.ref 60, .int (nI e), .int y] (xv_eq (.inl (some (.int (nI 0)))) (sx n c) (xv_u I 60 48 (nI 1)) (rx c) J) := by
  refine xv_Met.of (by decide +kernel) (Nat.le_of_ble_eq_true rfl) (List.forall_mem_cons.mpr ⟨rfl, List.forall_mem_cons.mpr ⟨rfl, List.forall_mem_cons.mpr ⟨rfl, fun _ h => nomatch h⟩⟩⟩) ?_
  show xv_W mX11_late 8 0 0 _ 0 0 (sx n c) I (rx c) J 0 [some (.ref 60), some (.int (nI e)), some (.int y), none, none, none, none] []
  refine xv_al0 fX11_late_0 ?_
  refine xv_il1 fX11_late_1 ?_
  refine xv_callV1R (m_isEd_t n c _ J he hw hn) fX11_late_2 YX11_isEdition VX11_isEdition lX11_243 rfl rfl (sx_60 _ _) (Nat.le_of_ble_eq_true rfl) (by decide) (by decide) (by decide) ?_
  refine xv_if_eq fX11_late_5 (fun h_5 => ?_) (fun h_5 => ?_)
  · exact absurd h_5 (by decide)
  · refine xv_il2 fX11_late_8 ?_
    refine xv_k fX11_late_9 ?_
    refine xv_al0 fX11_late_10 ?_
    refine xv_getI fX11_late_11 gX11_246 rfl (sx_60 _ _) ?_
    rw [hc]
    refine xv_k fX11_late_14 ?_
    refine xv_isub fX11_late_15 ?_
    refine xv_callS3R (m_isIn_f n c _ J (nn_out2 hy (by omega))) fX11_late_16 YX11_isIn VX11_isIn lX11_126 rfl (Nat.le_of_ble_eq_true rfl) (by decide) (by decide) (by decide) ?_
    refine xv_if_eq fX11_late_19 (fun h_19 => ?_) (fun h_19 => ?_)
    · refine xv_k fX11_late_26 ?_
      refine xv_is3 fX11_late_27 ?_
      refine xv_al0 fX11_late_28 ?_
      refine xv_il3 fX11_late_29 ?_
      refine xv_if_eq fX11_late_30 (fun h_30 => ?_) (fun h_30 => ?_)
      · refine xv_k fX11_late_37 ?_
        refine xv_callV1R (m_fails1 n c _ J) fX11_late_38 YX11_fails VX11_fails lX11_137 rfl rfl (sx_60 _ _) (Nat.le_of_ble_eq_true rfl) (by decide) (by decide) (by decide) ?_
        refine xv_if_eq fX11_late_41 (fun h_41 => ?_) (fun h_41 => ?_)
        · exact absurd h_41 (by decide)
        · refine xv_k fX11_late_44 ?_
          exact xv_iret fX11_late_45 rfl rfl xv_eq_i
      · exact absurd h_30 (by decide)
    · exact absurd h_19 (by decide)

theorem l_mlate (n : Nat) (c : Nat × Nat) (I : xv_I) (J : xv_J) {e b w : Nat} (hw : w ≤ 6) (hc : I 60 31 = nI w) (hb : b < w) {Q : xv_Q} : ∀ (m k : Nat) (s : Int32) (l6 : Option Value), k + m = w → (∀ l6, xv_W mX11_late 8 0 0 Q 0 0 (sx n c) I (rx c) J 133 (some (.ref 60) :: some (.int (nI e)) :: some (.int (nI b)) :: some (.int (nI 1)) :: some (.int (it (mAh1 I b) m k s)) :: some (.int (nI w)) :: l6 :: []) []) → xv_W mX11_late 8 0 0 Q 0 0 (sx n c) I (rx c) J 52 (some (.ref 60) :: some (.int (nI e)) :: some (.int (nI b)) :: some (.int (nI 1)) :: some (.int s) :: some (.int (nI k)) :: l6 :: []) [] := by
  intro m
  induction m with
  | zero =>
    intro k s l6 hm i0
    obtain rfl : k = w := by omega
    refine xv_il5 fX11_late_52 ?_
    refine xv_al0 fX11_late_54 ?_
    refine xv_getI fX11_late_55 gX11_246 rfl (sx_60 _ _) ?_
    rw [hc]
    refine xv_ic_ge fX11_late_58 (fun h_58 => ?_) (fun h_58 => ?_)
    · exact i0 _
    · exact absurd (nI_le (Nat.le_refl _) (by omega)) h_58
  | succ m ih =>
    intro k s l6 hm i0
    have hk : k < w := by omega
    show xv_W mX11_late 8 0 0 _ 0 0 (sx n c) I (rx c) J 52 (some (.ref 60) :: some (.int (nI e)) :: some (.int (nI b)) :: some (.int (nI 1)) :: some (.int s) :: some (.int (nI k)) :: l6 :: []) []
    refine xv_il5 fX11_late_52 ?_
    refine xv_al0 fX11_late_54 ?_
    refine xv_getI fX11_late_55 gX11_246 rfl (sx_60 _ _) ?_
    rw [hc]
    refine xv_ic_ge fX11_late_58 (fun h_58 => ?_) (fun h_58 => ?_)
    · exact absurd h_58 (nI_ge hk (by omega))
    · refine xv_al0 fX11_late_61 ?_
      refine xv_getR fX11_late_62 gX11_86 rfl (sx_60 _ _) (rx_60_32 _) ?_
      refine xv_il5 fX11_late_65 ?_
      refine xv_ialdN fX11_late_67 (sx_86 _ _) (⟨by omega, by decide⟩) ?_
      refine xv_al0 fX11_late_68 ?_
      refine xv_getR fX11_late_69 gX11_86 rfl (sx_60 _ _) (rx_60_32 _) ?_
      refine xv_il2 fX11_late_72 ?_
      refine xv_ialdN fX11_late_73 (sx_86 _ _) (⟨by omega, by decide⟩) ?_
      refine xv_ic_lt fX11_late_74 (fun h_74 => ?_) (fun h_74 => ?_)
      · refine xv_k fX11_late_99 ?_
        refine xv_goto fX11_late_100 ?_
        refine xv_is6 fX11_late_104 ?_
        refine xv_il4 fX11_late_106 ?_
        refine xv_il6 fX11_late_108 ?_
        refine xv_if_eq fX11_late_110 (fun h_110 => ?_) (fun h_110 => ?_)
        · exact absurd h_110 (by decide)
        · refine xv_al0 fX11_late_113 ?_
          refine xv_getR fX11_late_114 gX11_89 rfl (sx_60 _ _) (rx_60_33 _) ?_
          refine xv_il5 fX11_late_117 ?_
          refine xv_ialdN fX11_late_119 (sx_87 _ _) (⟨by omega, by decide⟩) ?_
          refine xv_goto fX11_late_120 ?_
          refine xv_iadd fX11_late_124 ?_
          refine xv_is4 fX11_late_125 ?_
          refine xv_iincN5 (a := 1) fX11_late_127 (by decide) ?_
          refine xv_goto fX11_late_130 ?_
          exact ih (k + 1) _ _ (by omega) (by rw [show it (mAh1 I b) (m + 1) k s = it (mAh1 I b) m (k + 1) (mAh1 I b k s) from rfl, mAh1, if_pos (Or.inl h_74)] at i0; exact i0)
      · refine xv_al0 fX11_late_77 ?_
        refine xv_getR fX11_late_78 gX11_86 rfl (sx_60 _ _) (rx_60_32 _) ?_
        refine xv_il5 fX11_late_81 ?_
        refine xv_ialdN fX11_late_83 (sx_86 _ _) (⟨by omega, by decide⟩) ?_
        refine xv_al0 fX11_late_84 ?_
        refine xv_getR fX11_late_85 gX11_86 rfl (sx_60 _ _) (rx_60_32 _) ?_
        refine xv_il2 fX11_late_88 ?_
        refine xv_ialdN fX11_late_89 (sx_86 _ _) (⟨by omega, by decide⟩) ?_
        refine xv_ic_ne fX11_late_90 (fun h_90 => ?_) (fun h_90 => ?_)
        · refine xv_k fX11_late_103 ?_
          refine xv_is6 fX11_late_104 ?_
          refine xv_il4 fX11_late_106 ?_
          refine xv_il6 fX11_late_108 ?_
          refine xv_if_eq fX11_late_110 (fun h_110 => ?_) (fun h_110 => ?_)
          · refine xv_k fX11_late_123 ?_
            refine xv_iadd fX11_late_124 ?_
            refine xv_is4 fX11_late_125 ?_
            refine xv_iincN5 (a := 1) fX11_late_127 (by decide) ?_
            refine xv_goto fX11_late_130 ?_
            exact ih (k + 1) _ _ (by omega) (by rw [show it (mAh1 I b) (m + 1) k s = it (mAh1 I b) m (k + 1) (mAh1 I b k s) from rfl, mAh1, if_neg (fun h => h.elim h_74 (fun q => h_90 q.1))] at i0; exact i0)
          · exact absurd h_110 (by decide)
        · refine xv_il5 fX11_late_93 ?_
          refine xv_il2 fX11_late_95 ?_
          refine xv_ic_gt fX11_late_96 (fun h_96 => ?_) (fun h_96 => ?_)
          · refine xv_k fX11_late_103 ?_
            refine xv_is6 fX11_late_104 ?_
            refine xv_il4 fX11_late_106 ?_
            refine xv_il6 fX11_late_108 ?_
            refine xv_if_eq fX11_late_110 (fun h_110 => ?_) (fun h_110 => ?_)
            · refine xv_k fX11_late_123 ?_
              refine xv_iadd fX11_late_124 ?_
              refine xv_is4 fX11_late_125 ?_
              refine xv_iincN5 (a := 1) fX11_late_127 (by decide) ?_
              refine xv_goto fX11_late_130 ?_
              exact ih (k + 1) _ _ (by omega) (by rw [show it (mAh1 I b) (m + 1) k s = it (mAh1 I b) m (k + 1) (mAh1 I b k s) from rfl, mAh1, if_neg (fun h => h.elim h_74 (fun q => absurd h_96 (nI_nlt q.2 (by omega))))] at i0; exact i0)
            · exact absurd h_110 (by decide)
          · refine xv_k fX11_late_99 ?_
            refine xv_goto fX11_late_100 ?_
            refine xv_is6 fX11_late_104 ?_
            refine xv_il4 fX11_late_106 ?_
            refine xv_il6 fX11_late_108 ?_
            refine xv_if_eq fX11_late_110 (fun h_110 => ?_) (fun h_110 => ?_)
            · exact absurd h_110 (by decide)
            · refine xv_al0 fX11_late_113 ?_
              refine xv_getR fX11_late_114 gX11_89 rfl (sx_60 _ _) (rx_60_33 _) ?_
              refine xv_il5 fX11_late_117 ?_
              refine xv_ialdN fX11_late_119 (sx_87 _ _) (⟨by omega, by decide⟩) ?_
              refine xv_goto fX11_late_120 ?_
              refine xv_iadd fX11_late_124 ?_
              refine xv_is4 fX11_late_125 ?_
              refine xv_iincN5 (a := 1) fX11_late_127 (by decide) ?_
              refine xv_goto fX11_late_130 ?_
              exact ih (k + 1) _ _ (by omega) (by rw [show it (mAh1 I b) (m + 1) k s = it (mAh1 I b) m (k + 1) (mAh1 I b k s) from rfl, mAh1, if_pos (Or.inr ⟨h_90, Nat.le_of_not_lt fun q => h_96 (nI_lt q (by omega))⟩)] at i0; exact i0)

theorem mAh_t (I : xv_I) (x : Int32) (w b : Nat) : it (mAh1 (xv_u I 60 48 x) b) w 0 (nI 0) = mAh I w b := by
  unfold mAh
  congr 1
theorem m_late_ok (n : Nat) (c : Nat × Nat) (I : xv_I) (J : xv_J) {e w : Nat} (he : e < w) (hw : w ≤ 8) (hn : I 60 25 = nI w) {v b : Nat} (hv : v ≤ 6) (hc : I 60 31 = nI v) (hb : b < v) : xv_Met mX11_late 8 0 0 (sx n c) I (rx c) J [.ref 60, .int (nI e), .int (nI b)] (xv_eq (.inl (some (.int (mLate I v b e)))) (sx n c) (xv_u I 60 48 (nI 0)) (rx c) J) := by
  refine xv_Met.of (by decide +kernel) (Nat.le_of_ble_eq_true rfl) (List.forall_mem_cons.mpr ⟨rfl, List.forall_mem_cons.mpr ⟨rfl, List.forall_mem_cons.mpr ⟨rfl, fun _ h => nomatch h⟩⟩⟩) ?_
  show xv_W mX11_late 8 0 0 _ 0 0 (sx n c) I (rx c) J 0 [some (.ref 60), some (.int (nI e)), some (.int (nI b)), none, none, none, none] []
  refine xv_al0 fX11_late_0 ?_
  refine xv_il1 fX11_late_1 ?_
  refine xv_callV1R (m_isEd_t n c _ J he hw hn) fX11_late_2 YX11_isEdition VX11_isEdition lX11_243 rfl rfl (sx_60 _ _) (Nat.le_of_ble_eq_true rfl) (by decide) (by decide) (by decide) ?_
  refine xv_if_eq fX11_late_5 (fun h_5 => ?_) (fun h_5 => ?_)
  · exact absurd h_5 (by decide)
  · refine xv_il2 fX11_late_8 ?_
    refine xv_k fX11_late_9 ?_
    refine xv_al0 fX11_late_10 ?_
    refine xv_getI fX11_late_11 gX11_246 rfl (sx_60 _ _) ?_
    rw [hc]
    refine xv_k fX11_late_14 ?_
    refine xv_isub fX11_late_15 ?_
    rw [nI_sub (by omega)]
    refine xv_callS3R (m_isIn_t n c _ J (nI_nlt (Nat.zero_le _) (by omega)) (nI_le (show b ≤ v - 1 by omega) (by omega))) fX11_late_16 YX11_isIn VX11_isIn lX11_126 rfl (Nat.le_of_ble_eq_true rfl) (by decide) (by decide) (by decide) ?_
    refine xv_if_eq fX11_late_19 (fun h_19 => ?_) (fun h_19 => ?_)
    · exact absurd h_19 (by decide)
    · refine xv_k fX11_late_22 ?_
      refine xv_goto fX11_late_23 ?_
      refine xv_is3 fX11_late_27 ?_
      refine xv_al0 fX11_late_28 ?_
      refine xv_il3 fX11_late_29 ?_
      refine xv_if_eq fX11_late_30 (fun h_30 => ?_) (fun h_30 => ?_)
      · exact absurd h_30 (by decide)
      · refine xv_k fX11_late_33 ?_
        refine xv_goto fX11_late_34 ?_
        refine xv_callV1R (m_fails0 n c _ J) fX11_late_38 YX11_fails VX11_fails lX11_137 rfl rfl (sx_60 _ _) (Nat.le_of_ble_eq_true rfl) (by decide) (by decide) (by decide) ?_
        refine xv_if_eq fX11_late_41 (fun h_41 => ?_) (fun h_41 => ?_)
        · refine xv_k fX11_late_46 ?_
          refine xv_is4 fX11_late_47 ?_
          refine xv_k fX11_late_49 ?_
          refine xv_is5 fX11_late_50 ?_
          refine l_mlate n c _ J hv ((xv_u_nk _ _ _ (by decide)).trans hc) hb v 0 _ none (by omega) (fun l6 => ?_)
          rw [mAh_t]
          refine xv_al0 fX11_late_133 ?_
          refine xv_getR fX11_late_134 gX11_80 rfl (sx_60 _ _) (rx_60_27 _) ?_
          refine xv_il1 fX11_late_137 ?_
          refine xv_ialdN fX11_late_138 (sx_84 _ _) (⟨by omega, by decide⟩) ?_
          rw [xv_u_ne _ _ _ (by decide)]
          refine xv_il4 fX11_late_139 ?_
          refine xv_k fX11_late_141 ?_
          refine xv_iadd fX11_late_143 ?_
          refine xv_k fX11_late_144 ?_
          refine xv_idiv fX11_late_146 (by decide) ?_
          refine xv_iadd fX11_late_147 ?_
          refine xv_al0 fX11_late_148 ?_
          refine xv_getR fX11_late_149 gX11_86 rfl (sx_60 _ _) (rx_60_32 _) ?_
          refine xv_il2 fX11_late_152 ?_
          refine xv_ialdN fX11_late_153 (sx_86 _ _) (⟨by omega, by decide⟩) ?_
          rw [xv_u_ne _ _ _ (by decide)]
          refine xv_isub fX11_late_154 ?_
          refine xv_is5 fX11_late_155 ?_
          refine xv_il5 fX11_late_157 ?_
          refine xv_if_le fX11_late_159 (fun h_159 => ?_) (fun h_159 => ?_)
          · refine xv_k fX11_late_167 ?_
            exact xv_iret fX11_late_168 rfl rfl (xv_eq_I (by rw [mLate, if_pos (show I 84 e + (mAh I v b + nI 49) / nI 50 - I 86 b ≤ 0 from h_159)]) rfl)
          · refine xv_il5 fX11_late_162 ?_
            refine xv_goto fX11_late_164 ?_
            exact xv_iret fX11_late_168 rfl rfl (xv_eq_I (by rw [mLate, if_neg (show ¬ I 84 e + (mAh I v b + nI 49) / nI 50 - I 86 b ≤ 0 from h_159)]) rfl)
        · exact absurd h_41 (by decide)
