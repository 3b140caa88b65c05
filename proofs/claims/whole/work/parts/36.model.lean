abbrev mCan (I : xv_I) : Prop := (I 60 28 = 0 ∧ I 60 25 < nI 8) ∧ ∀ j, j < 10 → mReady I j
def mArc (e : Nat) (I : xv_I) : xv_I := it (fun k I => xv_u I 83 (120 * e + k) (I 63 k)) 120 0 I
def mClose (e : Nat) (I : xv_I) : xv_I := xv_u (xv_u (xv_u (mArc e I) 84 e (I 60 30)) 60 3 (nI 0)) 60 25 (nI (e + 1))
theorem mArc_o (I : xv_I) {e v : Nat} (j : Nat) (h : v ≠ 83) : mArc e I v j = I v j := it_inv (fun s : xv_I => s v j = I v j) (fun k s hs => (xv_u_ne _ _ _ h).trans hs) _ _ _ rfl
theorem l_close1 (n : Nat) (c : Nat × Nat) (I : xv_I) (J : xv_J)  {Q : xv_Q} : ∀ (m k : Nat) (s : Int32), k + m = 10 → (s = bi ((I 60 28 = 0 ∧ I 60 25 < nI 8) ∧ ∀ j, j < k → mReady I j)) → (∀ s, s = bi ((I 60 28 = 0 ∧ I 60 25 < nI 8) ∧ ∀ j, j < 10 → mReady I j) → xv_W mX11_close 8 0 0 Q 0 0 (sx n c) I (rx c) J 54 [some (.ref 60), some (.int s), some (.int (nI 10))] []) → xv_W mX11_close 8 0 0 Q 0 0 (sx n c) I (rx c) J 24 [some (.ref 60), some (.int s), some (.int (nI k))] [] := by
  intro m
  induction m with
  | zero =>
    intro k s hm i0 i1
    obtain rfl : k = 10 := by omega
    refine xv_il2 fX11_close_24 ?_
    refine xv_k fX11_close_25 ?_
    refine xv_ic_ge fX11_close_27 (fun h_27 => ?_) (fun h_27 => ?_)
    · exact i1 s i0
    · exact absurd (nI_le (Nat.le_refl _) (by decide)) h_27
  | succ m ih =>
    intro k s hm i0 i1
    have hk : k < 10 := by omega
    show xv_W mX11_close 8 0 0 _ 0 0 (sx n c) I (rx c) J 24 [some (.ref 60), some (.int s), some (.int (nI k))] []
    refine xv_il2 fX11_close_24 ?_
    refine xv_k fX11_close_25 ?_
    refine xv_ic_ge fX11_close_27 (fun h_27 => ?_) (fun h_27 => ?_)
    · exact absurd h_27 (nI_ge hk (by decide))
    · refine xv_il1 fX11_close_30 ?_
      refine xv_if_eq fX11_close_31 (fun h_31 => ?_) (fun h_31 => ?_)
      · refine xv_k fX11_close_46 ?_
        refine xv_is1 fX11_close_47 ?_
        refine xv_iincN2 (a := 1) fX11_close_48 (by decide) ?_
        refine xv_goto fX11_close_51 ?_
        exact ih (k + 1) _ (by omega) (bi_f (fun h => bi_0 (i0.symm.trans h_31) ⟨h.1, fun j hj => h.2 j (by omega)⟩)).symm i1
      · refine xv_al0 fX11_close_34 ?_
        refine xv_il2 fX11_close_35 ?_
        refine xv_callV1R (m_ready n c _ J hk) fX11_close_36 YX11_ready VX11_ready lX11_231 rfl rfl (sx_60 _ _) (Nat.le_of_ble_eq_true rfl) (by decide) (by decide) (by decide) ?_
        refine xv_if_eq fX11_close_39 (fun h_39 => ?_) (fun h_39 => ?_)
        · refine xv_k fX11_close_46 ?_
          refine xv_is1 fX11_close_47 ?_
          refine xv_iincN2 (a := 1) fX11_close_48 (by decide) ?_
          refine xv_goto fX11_close_51 ?_
          exact ih (k + 1) _ (by omega) (bi_f (fun h => bi_0 h_39 (h.2 k (by omega)))).symm i1
        · refine xv_k fX11_close_42 ?_
          refine xv_goto fX11_close_43 ?_
          refine xv_is1 fX11_close_47 ?_
          refine xv_iincN2 (a := 1) fX11_close_48 (by decide) ?_
          refine xv_goto fX11_close_51 ?_
          exact ih (k + 1) _ (by omega) (bi_t ⟨(bi_1 (fun q => h_31 (i0.trans q))).1, lt_or (bi_1 (fun q => h_31 (i0.trans q))).2 (bi_1 h_39)⟩).symm i1

theorem l_close2 (n : Nat) (c : Nat × Nat) (J : xv_J) {e : Nat} {s : Int32} (he : e < 8) {Q : xv_Q} : ∀ (m k : Nat) (I : xv_I), k + m = 120 → (I 60 25 = nI e) → xv_W mX11_close 8 0 0 Q 0 0 (sx n c) (it (fun k I => xv_u I 83 (120 * e + k) (I 63 k)) m k I) (rx c) J 106 [some (.ref 60), some (.int s), some (.int (nI 120))] [] → xv_W mX11_close 8 0 0 Q 0 0 (sx n c) I (rx c) J 74 [some (.ref 60), some (.int s), some (.int (nI k))] [] := by
  intro m
  induction m with
  | zero =>
    intro k I hm i0 hx
    obtain rfl : k = 120 := by omega
    refine xv_il2 fX11_close_74 ?_
    refine xv_k fX11_close_75 ?_
    refine xv_ic_ge fX11_close_77 (fun h_77 => ?_) (fun h_77 => ?_)
    · exact hx
    · exact absurd (nI_le (Nat.le_refl _) (by decide)) h_77
  | succ m ih =>
    intro k I hm i0 hx
    have hk : k < 120 := by omega
    show xv_W mX11_close 8 0 0 _ 0 0 (sx n c) I (rx c) J 74 [some (.ref 60), some (.int s), some (.int (nI k))] []
    refine xv_il2 fX11_close_74 ?_
    refine xv_k fX11_close_75 ?_
    refine xv_ic_ge fX11_close_77 (fun h_77 => ?_) (fun h_77 => ?_)
    · exact absurd h_77 (nI_ge hk (by decide))
    · refine xv_al0 fX11_close_80 ?_
      refine xv_getR fX11_close_81 gX11_77 rfl (sx_60 _ _) (rx_60_26 _) ?_
      refine xv_k fX11_close_84 ?_
      refine xv_al0 fX11_close_86 ?_
      refine xv_getI fX11_close_87 gX11_237 rfl (sx_60 _ _) ?_
      rw [i0]
      refine xv_imul fX11_close_90 ?_
      rw [nI_mul]
      refine xv_il2 fX11_close_91 ?_
      refine xv_iadd fX11_close_92 ?_
      rw [nI_add]
      refine xv_al0 fX11_close_93 ?_
      refine xv_getR fX11_close_94 gX11_17 rfl (sx_60 _ _) (rx_60_2 _) ?_
      refine xv_il2 fX11_close_97 ?_
      refine xv_ialdN fX11_close_98 (sx_63 _ _) (⟨by omega, by decide⟩) ?_
      refine xv_iastN fX11_close_99 (sx_83 _ _) (⟨by omega, by decide⟩) ?_
      refine xv_iincN2 (a := 1) fX11_close_100 (by decide) ?_
      refine xv_goto fX11_close_103 ?_
      exact ih (k + 1) _ (by omega) ((xv_u_ne _ _ _ (by decide)).trans i0) hx

theorem m_close_a (n : Nat) (c : Nat × Nat) (I : xv_I) (J : xv_J) (hx : ¬ mCan I) : xv_Met mX11_close 8 0 0 (sx n c) I (rx c) J [.ref 60] (xv_eq (.inl (some (.int (nI 0)))) (sx n c) (xv_u I 60 48 (nI 1)) (rx c) J) := by
  refine xv_Met.of (by decide +kernel) (Nat.le_of_ble_eq_true rfl) (List.forall_mem_cons.mpr ⟨rfl, fun _ h => nomatch h⟩) ?_
  show xv_W mX11_close 8 0 0 _ 0 0 (sx n c) I (rx c) J 0 [some (.ref 60), none, none] []
  refine xv_al0 fX11_close_0 ?_
  refine xv_getI fX11_close_1 gX11_234 rfl (sx_60 _ _) ?_
  refine xv_if_ne fX11_close_4 (fun h_4 => ?_) (fun h_4 => ?_)
  · refine xv_k fX11_close_20 ?_
    refine xv_eqi (y := bi (I 60 28 = 0 ∧ I 60 25 < nI 8)) (by rw [bi_f (fun h => h_4 h.1)]) ?_
    refine xv_is1 fX11_close_21 ?_
    refine xv_k fX11_close_22 ?_
    refine xv_is2 fX11_close_23 ?_
    refine l_close1 n c I J 10 0 _ rfl (bi_iff ⟨fun h => ⟨h, lt_no⟩, fun h => h.1⟩) (fun s hs => ?_)
    refine xv_al0 fX11_close_54 ?_
    refine xv_il1 fX11_close_55 ?_
    refine xv_if_eq fX11_close_56 (fun h_56 => ?_) (fun h_56 => ?_)
    · refine xv_k fX11_close_63 ?_
      refine xv_callV1R (m_fails1 n c _ J) fX11_close_64 YX11_fails VX11_fails lX11_137 rfl rfl (sx_60 _ _) (Nat.le_of_ble_eq_true rfl) (by decide) (by decide) (by decide) ?_
      refine xv_if_eq fX11_close_67 (fun h_67 => ?_) (fun h_67 => ?_)
      · exact absurd h_67 (by decide)
      · refine xv_k fX11_close_70 ?_
        exact xv_iret fX11_close_71 rfl rfl xv_eq_i
    · exact absurd (bi_1 (fun q => h_56 (hs.trans q))) hx
  · refine xv_al0 fX11_close_7 ?_
    refine xv_getI fX11_close_8 gX11_237 rfl (sx_60 _ _) ?_
    refine xv_k fX11_close_11 ?_
    refine xv_ic_ge fX11_close_13 (fun h_13 => ?_) (fun h_13 => ?_)
    · refine xv_k fX11_close_20 ?_
      refine xv_eqi (y := bi (I 60 28 = 0 ∧ I 60 25 < nI 8)) (by rw [bi_f (fun h => h_13 |> fun q => fa_le_nlt q h.2)]) ?_
      refine xv_is1 fX11_close_21 ?_
      refine xv_k fX11_close_22 ?_
      refine xv_is2 fX11_close_23 ?_
      refine l_close1 n c I J 10 0 _ rfl (bi_iff ⟨fun h => ⟨h, lt_no⟩, fun h => h.1⟩) (fun s hs => ?_)
      refine xv_al0 fX11_close_54 ?_
      refine xv_il1 fX11_close_55 ?_
      refine xv_if_eq fX11_close_56 (fun h_56 => ?_) (fun h_56 => ?_)
      · refine xv_k fX11_close_63 ?_
        refine xv_callV1R (m_fails1 n c _ J) fX11_close_64 YX11_fails VX11_fails lX11_137 rfl rfl (sx_60 _ _) (Nat.le_of_ble_eq_true rfl) (by decide) (by decide) (by decide) ?_
        refine xv_if_eq fX11_close_67 (fun h_67 => ?_) (fun h_67 => ?_)
        · exact absurd h_67 (by decide)
        · refine xv_k fX11_close_70 ?_
          exact xv_iret fX11_close_71 rfl rfl xv_eq_i
      · exact absurd (bi_1 (fun q => h_56 (hs.trans q))) hx
    · refine xv_k fX11_close_16 ?_
      refine xv_goto fX11_close_17 ?_
      refine xv_eqi (y := bi (I 60 28 = 0 ∧ I 60 25 < nI 8)) (by rw [bi_t ⟨h_4, fa_of_nle h_13⟩]) ?_
      refine xv_is1 fX11_close_21 ?_
      refine xv_k fX11_close_22 ?_
      refine xv_is2 fX11_close_23 ?_
      refine l_close1 n c I J 10 0 _ rfl (bi_iff ⟨fun h => ⟨h, lt_no⟩, fun h => h.1⟩) (fun s hs => ?_)
      refine xv_al0 fX11_close_54 ?_
      refine xv_il1 fX11_close_55 ?_
      refine xv_if_eq fX11_close_56 (fun h_56 => ?_) (fun h_56 => ?_)
      · refine xv_k fX11_close_63 ?_
        refine xv_callV1R (m_fails1 n c _ J) fX11_close_64 YX11_fails VX11_fails lX11_137 rfl rfl (sx_60 _ _) (Nat.le_of_ble_eq_true rfl) (by decide) (by decide) (by decide) ?_
        refine xv_if_eq fX11_close_67 (fun h_67 => ?_) (fun h_67 => ?_)
        · exact absurd h_67 (by decide)
        · refine xv_k fX11_close_70 ?_
          exact xv_iret fX11_close_71 rfl rfl xv_eq_i
      · exact absurd (bi_1 (fun q => h_56 (hs.trans q))) hx

theorem m_close_ok (n : Nat) (c : Nat × Nat) (I : xv_I) (J : xv_J) {e : Nat} (he8 : e < 8) (he : I 60 25 = nI e) (hx : mCan I) : xv_Met mX11_close 8 0 0 (sx n c) I (rx c) J [.ref 60] (xv_eq (.inl (some (.int (nI e)))) (sx n c) (mClose e (xv_u I 60 48 (nI 0))) (rx c) J) := by
  refine xv_Met.of (by decide +kernel) (Nat.le_of_ble_eq_true rfl) (List.forall_mem_cons.mpr ⟨rfl, fun _ h => nomatch h⟩) ?_
  show xv_W mX11_close 8 0 0 _ 0 0 (sx n c) I (rx c) J 0 [some (.ref 60), none, none] []
  refine xv_al0 fX11_close_0 ?_
  refine xv_getI fX11_close_1 gX11_234 rfl (sx_60 _ _) ?_
  refine xv_if_ne fX11_close_4 (fun h_4 => ?_) (fun h_4 => ?_)
  · refine xv_k fX11_close_20 ?_
    refine xv_eqi (y := bi (I 60 28 = 0 ∧ I 60 25 < nI 8)) (by rw [bi_f (fun h => h_4 h.1)]) ?_
    refine xv_is1 fX11_close_21 ?_
    refine xv_k fX11_close_22 ?_
    refine xv_is2 fX11_close_23 ?_
    refine l_close1 n c I J 10 0 _ rfl (bi_iff ⟨fun h => ⟨h, lt_no⟩, fun h => h.1⟩) (fun s hs => ?_)
    refine xv_al0 fX11_close_54 ?_
    refine xv_il1 fX11_close_55 ?_
    refine xv_if_eq fX11_close_56 (fun h_56 => ?_) (fun h_56 => ?_)
    · exact absurd hx (bi_0 (hs.symm.trans h_56))
    · refine xv_k fX11_close_59 ?_
      refine xv_goto fX11_close_60 ?_
      refine xv_callV1R (m_fails0 n c _ J) fX11_close_64 YX11_fails VX11_fails lX11_137 rfl rfl (sx_60 _ _) (Nat.le_of_ble_eq_true rfl) (by decide) (by decide) (by decide) ?_
      refine xv_if_eq fX11_close_67 (fun h_67 => ?_) (fun h_67 => ?_)
      · refine xv_k fX11_close_72 ?_
        refine xv_is2 fX11_close_73 ?_
        refine l_close2 n c J he8 120 0 _ rfl ((xv_u_nk _ _ _ (by decide)).trans he) ?_
        show xv_W mX11_close 8 0 0 _ 0 0 (sx n c) (mArc e (xv_u I 60 48 (nI 0))) (rx c) J 106 [some (.ref 60), some (.int s), some (.int (nI 120))] []
        refine xv_al0 fX11_close_106 ?_
        refine xv_getR fX11_close_107 gX11_80 rfl (sx_60 _ _) (rx_60_27 _) ?_
        refine xv_al0 fX11_close_110 ?_
        refine xv_getI fX11_close_111 gX11_237 rfl (sx_60 _ _) ?_
        rw [(mArc_o _ _ (by decide)).trans ((xv_u_nk _ _ _ (by decide)).trans he)]
        refine xv_al0 fX11_close_114 ?_
        refine xv_getI fX11_close_115 gX11_240 rfl (sx_60 _ _) ?_
        rw [(mArc_o _ _ (by decide)).trans (xv_u_nk _ _ _ (by decide))]
        refine xv_iastN fX11_close_118 (sx_84 _ _) (⟨he8, by decide⟩) ?_
        refine xv_al0 fX11_close_119 ?_
        refine xv_k fX11_close_120 ?_
        refine xv_putI fX11_close_121 gX11_144 rfl (tp11_3 _) (sx_60 _ _) ⟨rfl, rfl⟩ ?_
        refine xv_al0 fX11_close_124 ?_
        refine xv_dup_r fX11_close_125 ?_
        refine xv_getI fX11_close_126 gX11_237 rfl (sx_60 _ _) ?_
        refine xv_eqi (y := nI e) (by rw [xv_u_nk _ _ _ (by decide), xv_u_ne _ _ _ (by decide), mArc_o _ _ (by decide), xv_u_nk _ _ _ (by decide)]; exact he) ?_
        refine xv_k fX11_close_129 ?_
        refine xv_iadd fX11_close_130 ?_
        rw [nI_add]
        refine xv_putI fX11_close_131 gX11_237 rfl (tp11_25 _) (sx_60 _ _) ⟨rfl, rfl⟩ ?_
        refine xv_al0 fX11_close_134 ?_
        refine xv_getI fX11_close_135 gX11_237 rfl (sx_60 _ _) ?_
        rw [xv_u_eq]
        refine xv_k fX11_close_138 ?_
        refine xv_isub fX11_close_139 ?_
        rw [show nI (e + 1) - nI 1 = nI e from nI_sub (Nat.succ_le_succ (Nat.zero_le _))]
        exact xv_iret fX11_close_140 rfl rfl (xv_eq_I rfl (by rw [mClose, xv_u_nk _ _ _ (by decide)]))
      · exact absurd h_67 (by decide)
  · refine xv_al0 fX11_close_7 ?_
    refine xv_getI fX11_close_8 gX11_237 rfl (sx_60 _ _) ?_
    refine xv_k fX11_close_11 ?_
    refine xv_ic_ge fX11_close_13 (fun h_13 => ?_) (fun h_13 => ?_)
    · refine xv_k fX11_close_20 ?_
      refine xv_eqi (y := bi (I 60 28 = 0 ∧ I 60 25 < nI 8)) (by rw [bi_f (fun h => h_13 |> fun q => fa_le_nlt q h.2)]) ?_
      refine xv_is1 fX11_close_21 ?_
      refine xv_k fX11_close_22 ?_
      refine xv_is2 fX11_close_23 ?_
      refine l_close1 n c I J 10 0 _ rfl (bi_iff ⟨fun h => ⟨h, lt_no⟩, fun h => h.1⟩) (fun s hs => ?_)
      refine xv_al0 fX11_close_54 ?_
      refine xv_il1 fX11_close_55 ?_
      refine xv_if_eq fX11_close_56 (fun h_56 => ?_) (fun h_56 => ?_)
      · exact absurd hx (bi_0 (hs.symm.trans h_56))
      · refine xv_k fX11_close_59 ?_
        refine xv_goto fX11_close_60 ?_
        refine xv_callV1R (m_fails0 n c _ J) fX11_close_64 YX11_fails VX11_fails lX11_137 rfl rfl (sx_60 _ _) (Nat.le_of_ble_eq_true rfl) (by decide) (by decide) (by decide) ?_
        refine xv_if_eq fX11_close_67 (fun h_67 => ?_) (fun h_67 => ?_)
        · refine xv_k fX11_close_72 ?_
          refine xv_is2 fX11_close_73 ?_
          refine l_close2 n c J he8 120 0 _ rfl ((xv_u_nk _ _ _ (by decide)).trans he) ?_
          show xv_W mX11_close 8 0 0 _ 0 0 (sx n c) (mArc e (xv_u I 60 48 (nI 0))) (rx c) J 106 [some (.ref 60), some (.int s), some (.int (nI 120))] []
          refine xv_al0 fX11_close_106 ?_
          refine xv_getR fX11_close_107 gX11_80 rfl (sx_60 _ _) (rx_60_27 _) ?_
          refine xv_al0 fX11_close_110 ?_
          refine xv_getI fX11_close_111 gX11_237 rfl (sx_60 _ _) ?_
          rw [(mArc_o _ _ (by decide)).trans ((xv_u_nk _ _ _ (by decide)).trans he)]
          refine xv_al0 fX11_close_114 ?_
          refine xv_getI fX11_close_115 gX11_240 rfl (sx_60 _ _) ?_
          rw [(mArc_o _ _ (by decide)).trans (xv_u_nk _ _ _ (by decide))]
          refine xv_iastN fX11_close_118 (sx_84 _ _) (⟨he8, by decide⟩) ?_
          refine xv_al0 fX11_close_119 ?_
          refine xv_k fX11_close_120 ?_
          refine xv_putI fX11_close_121 gX11_144 rfl (tp11_3 _) (sx_60 _ _) ⟨rfl, rfl⟩ ?_
          refine xv_al0 fX11_close_124 ?_
          refine xv_dup_r fX11_close_125 ?_
          refine xv_getI fX11_close_126 gX11_237 rfl (sx_60 _ _) ?_
          refine xv_eqi (y := nI e) (by rw [xv_u_nk _ _ _ (by decide), xv_u_ne _ _ _ (by decide), mArc_o _ _ (by decide), xv_u_nk _ _ _ (by decide)]; exact he) ?_
          refine xv_k fX11_close_129 ?_
          refine xv_iadd fX11_close_130 ?_
          rw [nI_add]
          refine xv_putI fX11_close_131 gX11_237 rfl (tp11_25 _) (sx_60 _ _) ⟨rfl, rfl⟩ ?_
          refine xv_al0 fX11_close_134 ?_
          refine xv_getI fX11_close_135 gX11_237 rfl (sx_60 _ _) ?_
          rw [xv_u_eq]
          refine xv_k fX11_close_138 ?_
          refine xv_isub fX11_close_139 ?_
          rw [show nI (e + 1) - nI 1 = nI e from nI_sub (Nat.succ_le_succ (Nat.zero_le _))]
          exact xv_iret fX11_close_140 rfl rfl (xv_eq_I rfl (by rw [mClose, xv_u_nk _ _ _ (by decide)]))
        · exact absurd h_67 (by decide)
    · refine xv_k fX11_close_16 ?_
      refine xv_goto fX11_close_17 ?_
      refine xv_eqi (y := bi (I 60 28 = 0 ∧ I 60 25 < nI 8)) (by rw [bi_t ⟨h_4, fa_of_nle h_13⟩]) ?_
      refine xv_is1 fX11_close_21 ?_
      refine xv_k fX11_close_22 ?_
      refine xv_is2 fX11_close_23 ?_
      refine l_close1 n c I J 10 0 _ rfl (bi_iff ⟨fun h => ⟨h, lt_no⟩, fun h => h.1⟩) (fun s hs => ?_)
      refine xv_al0 fX11_close_54 ?_
      refine xv_il1 fX11_close_55 ?_
      refine xv_if_eq fX11_close_56 (fun h_56 => ?_) (fun h_56 => ?_)
      · exact absurd hx (bi_0 (hs.symm.trans h_56))
      · refine xv_k fX11_close_59 ?_
        refine xv_goto fX11_close_60 ?_
        refine xv_callV1R (m_fails0 n c _ J) fX11_close_64 YX11_fails VX11_fails lX11_137 rfl rfl (sx_60 _ _) (Nat.le_of_ble_eq_true rfl) (by decide) (by decide) (by decide) ?_
        refine xv_if_eq fX11_close_67 (fun h_67 => ?_) (fun h_67 => ?_)
        · refine xv_k fX11_close_72 ?_
          refine xv_is2 fX11_close_73 ?_
          refine l_close2 n c J he8 120 0 _ rfl ((xv_u_nk _ _ _ (by decide)).trans he) ?_
          show xv_W mX11_close 8 0 0 _ 0 0 (sx n c) (mArc e (xv_u I 60 48 (nI 0))) (rx c) J 106 [some (.ref 60), some (.int s), some (.int (nI 120))] []
          refine xv_al0 fX11_close_106 ?_
          refine xv_getR fX11_close_107 gX11_80 rfl (sx_60 _ _) (rx_60_27 _) ?_
          refine xv_al0 fX11_close_110 ?_
          refine xv_getI fX11_close_111 gX11_237 rfl (sx_60 _ _) ?_
          rw [(mArc_o _ _ (by decide)).trans ((xv_u_nk _ _ _ (by decide)).trans he)]
          refine xv_al0 fX11_close_114 ?_
          refine xv_getI fX11_close_115 gX11_240 rfl (sx_60 _ _) ?_
          rw [(mArc_o _ _ (by decide)).trans (xv_u_nk _ _ _ (by decide))]
          refine xv_iastN fX11_close_118 (sx_84 _ _) (⟨he8, by decide⟩) ?_
          refine xv_al0 fX11_close_119 ?_
          refine xv_k fX11_close_120 ?_
          refine xv_putI fX11_close_121 gX11_144 rfl (tp11_3 _) (sx_60 _ _) ⟨rfl, rfl⟩ ?_
          refine xv_al0 fX11_close_124 ?_
          refine xv_dup_r fX11_close_125 ?_
          refine xv_getI fX11_close_126 gX11_237 rfl (sx_60 _ _) ?_
          refine xv_eqi (y := nI e) (by rw [xv_u_nk _ _ _ (by decide), xv_u_ne _ _ _ (by decide), mArc_o _ _ (by decide), xv_u_nk _ _ _ (by decide)]; exact he) ?_
          refine xv_k fX11_close_129 ?_
          refine xv_iadd fX11_close_130 ?_
          rw [nI_add]
          refine xv_putI fX11_close_131 gX11_237 rfl (tp11_25 _) (sx_60 _ _) ⟨rfl, rfl⟩ ?_
          refine xv_al0 fX11_close_134 ?_
          refine xv_getI fX11_close_135 gX11_237 rfl (sx_60 _ _) ?_
          rw [xv_u_eq]
          refine xv_k fX11_close_138 ?_
          refine xv_isub fX11_close_139 ?_
          rw [show nI (e + 1) - nI 1 = nI e from nI_sub (Nat.succ_le_succ (Nat.zero_le _))]
          exact xv_iret fX11_close_140 rfl rfl (xv_eq_I rfl (by rw [mClose, xv_u_nk _ _ _ (by decide)]))
        · exact absurd h_67 (by decide)

theorem m_prt_a (n : Nat) (c : Nat × Nat) (I : xv_I) (J : xv_J) {x : Int32} {w : Nat} (hx : x < 0 ∨ ¬ x < nI w) (hw : w ≤ 8) (hn : I 60 25 = nI w) {y z : Int32} : xv_Met mX11_printed 8 0 0 (sx n c) I (rx c) J [.ref 60, .int x, .int y, .int z] (xv_eq (.inl (some (.int (nI 0)))) (sx n c) (xv_u I 60 48 (nI 1)) (rx c) J) := by
  refine xv_Met.of (by decide +kernel) (Nat.le_of_ble_eq_true rfl) (List.forall_mem_cons.mpr ⟨rfl, List.forall_mem_cons.mpr ⟨rfl, List.forall_mem_cons.mpr ⟨rfl, List.forall_mem_cons.mpr ⟨rfl, fun _ h => nomatch h⟩⟩⟩⟩) ?_
  show xv_W mX11_printed 8 0 0 _ 0 0 (sx n c) I (rx c) J 0 [some (.ref 60), some (.int x), some (.int y), some (.int z), none] []
  refine xv_al0 fX11_printed_0 ?_
  refine xv_il1 fX11_printed_1 ?_
  refine xv_callV1R (m_isEd_f n c _ J hx hw hn) fX11_printed_2 YX11_isEdition VX11_isEdition lX11_243 rfl rfl (sx_60 _ _) (Nat.le_of_ble_eq_true rfl) (by decide) (by decide) (by decide) ?_
  refine xv_if_eq fX11_printed_5 (fun h_5 => ?_) (fun h_5 => ?_)
  · refine xv_k fX11_printed_20 ?_
    refine xv_is4 fX11_printed_21 ?_
    refine xv_al0 fX11_printed_23 ?_
    refine xv_il4 fX11_printed_24 ?_
    refine xv_if_eq fX11_printed_26 (fun h_26 => ?_) (fun h_26 => ?_)
    · refine xv_k fX11_printed_33 ?_
      refine xv_callV1R (m_fails1 n c _ J) fX11_printed_34 YX11_fails VX11_fails lX11_137 rfl rfl (sx_60 _ _) (Nat.le_of_ble_eq_true rfl) (by decide) (by decide) (by decide) ?_
      refine xv_if_eq fX11_printed_37 (fun h_37 => ?_) (fun h_37 => ?_)
      · exact absurd h_37 (by decide)
      · refine xv_k fX11_printed_40 ?_
        refine xv_goto fX11_printed_41 ?_
        exact xv_iret fX11_printed_60 rfl rfl xv_eq_i
    · exact absurd h_26 (by decide)
  · exact absurd h_5 (by decide)

theorem m_prt_b (n : Nat) (c : Nat × Nat) (I : xv_I) (J : xv_J) {e w : Nat} (he : e < w) (hw : w ≤ 8) (hn : I 60 25 = nI w) {x : Int32} (hx : x < 0 ∨ ¬ x ≤ nI 9) {z : Int32} : xv_Met mX11_printed 8 0 0 (sx n c) I (rx c) J [.ref 60, .int (nI e), .int x, .int z] (xv_eq (.inl (some (.int (nI 0)))) (sx n c) (xv_u I 60 48 (nI 1)) (rx c) J) := by
  refine xv_Met.of (by decide +kernel) (Nat.le_of_ble_eq_true rfl) (List.forall_mem_cons.mpr ⟨rfl, List.forall_mem_cons.mpr ⟨rfl, List.forall_mem_cons.mpr ⟨rfl, List.forall_mem_cons.mpr ⟨rfl, fun _ h => nomatch h⟩⟩⟩⟩) ?_
  show xv_W mX11_printed 8 0 0 _ 0 0 (sx n c) I (rx c) J 0 [some (.ref 60), some (.int (nI e)), some (.int x), some (.int z), none] []
  refine xv_al0 fX11_printed_0 ?_
  refine xv_il1 fX11_printed_1 ?_
  refine xv_callV1R (m_isEd_t n c _ J he hw hn) fX11_printed_2 YX11_isEdition VX11_isEdition lX11_243 rfl rfl (sx_60 _ _) (Nat.le_of_ble_eq_true rfl) (by decide) (by decide) (by decide) ?_
  refine xv_if_eq fX11_printed_5 (fun h_5 => ?_) (fun h_5 => ?_)
  · exact absurd h_5 (by decide)
  · refine xv_il2 fX11_printed_8 ?_
    refine xv_il3 fX11_printed_9 ?_
    refine xv_callS2R (m_isCell_f1 n c _ J hx) fX11_printed_10 YX11_isCell VX11_isCell lX11_140 rfl (Nat.le_of_ble_eq_true rfl) (by decide) (by decide) (by decide) ?_
    refine xv_if_eq fX11_printed_13 (fun h_13 => ?_) (fun h_13 => ?_)
    · refine xv_k fX11_printed_20 ?_
      refine xv_is4 fX11_printed_21 ?_
      refine xv_al0 fX11_printed_23 ?_
      refine xv_il4 fX11_printed_24 ?_
      refine xv_if_eq fX11_printed_26 (fun h_26 => ?_) (fun h_26 => ?_)
      · refine xv_k fX11_printed_33 ?_
        refine xv_callV1R (m_fails1 n c _ J) fX11_printed_34 YX11_fails VX11_fails lX11_137 rfl rfl (sx_60 _ _) (Nat.le_of_ble_eq_true rfl) (by decide) (by decide) (by decide) ?_
        refine xv_if_eq fX11_printed_37 (fun h_37 => ?_) (fun h_37 => ?_)
        · exact absurd h_37 (by decide)
        · refine xv_k fX11_printed_40 ?_
          refine xv_goto fX11_printed_41 ?_
          exact xv_iret fX11_printed_60 rfl rfl xv_eq_i
      · exact absurd h_26 (by decide)
    · exact absurd h_13 (by decide)

theorem m_prt_c (n : Nat) (c : Nat × Nat) (I : xv_I) (J : xv_J) {e w : Nat} (he : e < w) (hw : w ≤ 8) (hn : I 60 25 = nI w) {p : Nat} (hp : p < 10) {y : Int32} (hy : y < 0 ∨ ¬ y ≤ nI 11) : xv_Met mX11_printed 8 0 0 (sx n c) I (rx c) J [.ref 60, .int (nI e), .int (nI p), .int y] (xv_eq (.inl (some (.int (nI 0)))) (sx n c) (xv_u I 60 48 (nI 1)) (rx c) J) := by
  refine xv_Met.of (by decide +kernel) (Nat.le_of_ble_eq_true rfl) (List.forall_mem_cons.mpr ⟨rfl, List.forall_mem_cons.mpr ⟨rfl, List.forall_mem_cons.mpr ⟨rfl, List.forall_mem_cons.mpr ⟨rfl, fun _ h => nomatch h⟩⟩⟩⟩) ?_
  show xv_W mX11_printed 8 0 0 _ 0 0 (sx n c) I (rx c) J 0 [some (.ref 60), some (.int (nI e)), some (.int (nI p)), some (.int y), none] []
  refine xv_al0 fX11_printed_0 ?_
  refine xv_il1 fX11_printed_1 ?_
  refine xv_callV1R (m_isEd_t n c _ J he hw hn) fX11_printed_2 YX11_isEdition VX11_isEdition lX11_243 rfl rfl (sx_60 _ _) (Nat.le_of_ble_eq_true rfl) (by decide) (by decide) (by decide) ?_
  refine xv_if_eq fX11_printed_5 (fun h_5 => ?_) (fun h_5 => ?_)
  · exact absurd h_5 (by decide)
  · refine xv_il2 fX11_printed_8 ?_
    refine xv_il3 fX11_printed_9 ?_
    refine xv_callS2R (m_isCell_f2 n c _ J hp hy) fX11_printed_10 YX11_isCell VX11_isCell lX11_140 rfl (Nat.le_of_ble_eq_true rfl) (by decide) (by decide) (by decide) ?_
    refine xv_if_eq fX11_printed_13 (fun h_13 => ?_) (fun h_13 => ?_)
    · refine xv_k fX11_printed_20 ?_
      refine xv_is4 fX11_printed_21 ?_
      refine xv_al0 fX11_printed_23 ?_
      refine xv_il4 fX11_printed_24 ?_
      refine xv_if_eq fX11_printed_26 (fun h_26 => ?_) (fun h_26 => ?_)
      · refine xv_k fX11_printed_33 ?_
        refine xv_callV1R (m_fails1 n c _ J) fX11_printed_34 YX11_fails VX11_fails lX11_137 rfl rfl (sx_60 _ _) (Nat.le_of_ble_eq_true rfl) (by decide) (by decide) (by decide) ?_
        refine xv_if_eq fX11_printed_37 (fun h_37 => ?_) (fun h_37 => ?_)
        · exact absurd h_37 (by decide)
        · refine xv_k fX11_printed_40 ?_
          refine xv_goto fX11_printed_41 ?_
          exact xv_iret fX11_printed_60 rfl rfl xv_eq_i
      · exact absurd h_26 (by decide)
    · exact absurd h_13 (by decide)

theorem m_prt_ok (n : Nat) (c : Nat × Nat) (I : xv_I) (J : xv_J) {e w : Nat} (he : e < w) (hw : w ≤ 8) (hn : I 60 25 = nI w) {p : Nat} (hp : p < 10) {k : Nat} (hk : k < 12) : xv_Met mX11_printed 8 0 0 (sx n c) I (rx c) J [.ref 60, .int (nI e), .int (nI p), .int (nI k)] (xv_eq (.inl (some (.int (I 83 (120 * e + 12 * p + k))))) (sx n c) (xv_u I 60 48 (nI 0)) (rx c) J) := by
  refine xv_Met.of (by decide +kernel) (Nat.le_of_ble_eq_true rfl) (List.forall_mem_cons.mpr ⟨rfl, List.forall_mem_cons.mpr ⟨rfl, List.forall_mem_cons.mpr ⟨rfl, List.forall_mem_cons.mpr ⟨rfl, fun _ h => nomatch h⟩⟩⟩⟩) ?_
  show xv_W mX11_printed 8 0 0 _ 0 0 (sx n c) I (rx c) J 0 [some (.ref 60), some (.int (nI e)), some (.int (nI p)), some (.int (nI k)), none] []
  refine xv_al0 fX11_printed_0 ?_
  refine xv_il1 fX11_printed_1 ?_
  refine xv_callV1R (m_isEd_t n c _ J he hw hn) fX11_printed_2 YX11_isEdition VX11_isEdition lX11_243 rfl rfl (sx_60 _ _) (Nat.le_of_ble_eq_true rfl) (by decide) (by decide) (by decide) ?_
  refine xv_if_eq fX11_printed_5 (fun h_5 => ?_) (fun h_5 => ?_)
  · exact absurd h_5 (by decide)
  · refine xv_il2 fX11_printed_8 ?_
    refine xv_il3 fX11_printed_9 ?_
    refine xv_callS2R (m_isCell_t n c _ J hp hk) fX11_printed_10 YX11_isCell VX11_isCell lX11_140 rfl (Nat.le_of_ble_eq_true rfl) (by decide) (by decide) (by decide) ?_
    refine xv_if_eq fX11_printed_13 (fun h_13 => ?_) (fun h_13 => ?_)
    · exact absurd h_13 (by decide)
    · refine xv_k fX11_printed_16 ?_
      refine xv_goto fX11_printed_17 ?_
      refine xv_is4 fX11_printed_21 ?_
      refine xv_al0 fX11_printed_23 ?_
      refine xv_il4 fX11_printed_24 ?_
      refine xv_if_eq fX11_printed_26 (fun h_26 => ?_) (fun h_26 => ?_)
      · exact absurd h_26 (by decide)
      · refine xv_k fX11_printed_29 ?_
        refine xv_goto fX11_printed_30 ?_
        refine xv_callV1R (m_fails0 n c _ J) fX11_printed_34 YX11_fails VX11_fails lX11_137 rfl rfl (sx_60 _ _) (Nat.le_of_ble_eq_true rfl) (by decide) (by decide) (by decide) ?_
        refine xv_if_eq fX11_printed_37 (fun h_37 => ?_) (fun h_37 => ?_)
        · refine xv_al0 fX11_printed_44 ?_
          refine xv_getR fX11_printed_45 gX11_77 rfl (sx_60 _ _) (rx_60_26 _) ?_
          refine xv_k fX11_printed_48 ?_
          refine xv_il1 fX11_printed_50 ?_
          refine xv_imul fX11_printed_51 ?_
          rw [nI_mul]
          refine xv_k fX11_printed_52 ?_
          refine xv_il2 fX11_printed_54 ?_
          refine xv_imul fX11_printed_55 ?_
          rw [nI_mul]
          refine xv_iadd fX11_printed_56 ?_
          rw [nI_add]
          refine xv_il3 fX11_printed_57 ?_
          refine xv_iadd fX11_printed_58 ?_
          rw [nI_add]
          refine xv_ialdN fX11_printed_59 (sx_83 _ _) (⟨by omega, by decide⟩) ?_
          rw [xv_u_ne _ _ _ (by decide)]
          exact xv_iret fX11_printed_60 rfl rfl xv_eq_i
        · exact absurd h_37 (by decide)

theorem l_cor1 (n : Nat) (c : Nat × Nat) (I : xv_I) (J : xv_J) {e s : Nat} {l6 : Option Value} (he : e < 8) {Q : xv_Q} : ∀ (m k : Nat) (h : Int32), k + m = 120 → (h = bi (∃ j, j < k ∧ I 83 (120 * e + j) = nI (200 + s))) → (∀ h, h = bi (∃ j, j < 120 ∧ I 83 (120 * e + j) = nI (200 + s)) → xv_W mX11_correct 8 0 0 Q 0 0 (sx n c) I (rx c) J 77 (some (.ref 60) :: some (.int (nI e)) :: some (.int (nI s)) :: some (.int (nI 1)) :: some (.int h) :: some (.int (nI 120)) :: l6 :: []) []) → xv_W mX11_correct 8 0 0 Q 0 0 (sx n c) I (rx c) J 28 (some (.ref 60) :: some (.int (nI e)) :: some (.int (nI s)) :: some (.int (nI 1)) :: some (.int h) :: some (.int (nI k)) :: l6 :: []) [] := by
  intro m
  induction m with
  | zero =>
    intro k h hm i0 i1
    obtain rfl : k = 120 := by omega
    refine xv_il5 fX11_correct_28 ?_
    refine xv_k fX11_correct_30 ?_
    refine xv_ic_ge fX11_correct_32 (fun h_32 => ?_) (fun h_32 => ?_)
    · exact i1 h i0
    · exact absurd (nI_le (Nat.le_refl _) (by decide)) h_32
  | succ m ih =>
    intro k h hm i0 i1
    have hk : k < 120 := by omega
    show xv_W mX11_correct 8 0 0 _ 0 0 (sx n c) I (rx c) J 28 (some (.ref 60) :: some (.int (nI e)) :: some (.int (nI s)) :: some (.int (nI 1)) :: some (.int h) :: some (.int (nI k)) :: l6 :: []) []
    refine xv_il5 fX11_correct_28 ?_
    refine xv_k fX11_correct_30 ?_
    refine xv_ic_ge fX11_correct_32 (fun h_32 => ?_) (fun h_32 => ?_)
    · exact absurd h_32 (nI_ge hk (by decide))
    · refine xv_il3 fX11_correct_35 ?_
      refine xv_if_eq fX11_correct_36 (fun h_36 => ?_) (fun h_36 => ?_)
      · exact absurd h_36 (by decide)
      · refine xv_il4 fX11_correct_39 ?_
        refine xv_if_ne fX11_correct_41 (fun h_41 => ?_) (fun h_41 => ?_)
        · refine xv_k fX11_correct_64 ?_
          refine xv_goto fX11_correct_65 ?_
          refine xv_is4 fX11_correct_69 ?_
          refine xv_iincN5 (a := 1) fX11_correct_71 (by decide) ?_
          refine xv_goto fX11_correct_74 ?_
          exact ih (k + 1) _ (by omega) (bi_t (by obtain ⟨j, h1, h2⟩ := bi_1 (fun q => h_41 (i0.trans q)); exact ⟨j, by omega, h2⟩)).symm i1
        · refine xv_al0 fX11_correct_44 ?_
          refine xv_getR fX11_correct_45 gX11_77 rfl (sx_60 _ _) (rx_60_26 _) ?_
          refine xv_k fX11_correct_48 ?_
          refine xv_il1 fX11_correct_50 ?_
          refine xv_imul fX11_correct_51 ?_
          rw [nI_mul]
          refine xv_il5 fX11_correct_52 ?_
          refine xv_iadd fX11_correct_54 ?_
          rw [nI_add]
          refine xv_ialdN fX11_correct_55 (sx_83 _ _) (⟨by omega, by decide⟩) ?_
          refine xv_k fX11_correct_56 ?_
          refine xv_il2 fX11_correct_59 ?_
          refine xv_iadd fX11_correct_60 ?_
          rw [nI_add]
          refine xv_ic_ne fX11_correct_61 (fun h_61 => ?_) (fun h_61 => ?_)
          · refine xv_k fX11_correct_68 ?_
            refine xv_is4 fX11_correct_69 ?_
            refine xv_iincN5 (a := 1) fX11_correct_71 (by decide) ?_
            refine xv_goto fX11_correct_74 ?_
            exact ih (k + 1) _ (by omega) (bi_f (fun ⟨j, h1, h2⟩ => (Nat.lt_succ_iff_lt_or_eq.mp h1).elim (fun q => bi_0 (i0.symm.trans h_41) ⟨j, q, h2⟩) (fun q => h_61 (q ▸ h2)))).symm i1
          · refine xv_k fX11_correct_64 ?_
            refine xv_goto fX11_correct_65 ?_
            refine xv_is4 fX11_correct_69 ?_
            refine xv_iincN5 (a := 1) fX11_correct_71 (by decide) ?_
            refine xv_goto fX11_correct_74 ?_
            exact ih (k + 1) _ (by omega) (bi_t ⟨k, by omega, h_61⟩).symm i1

theorem l_cor2 (n : Nat) (c : Nat × Nat) (I : xv_I) (J : xv_J) {x y a b : Int32} {w : Nat} (hw : w ≤ 5) (hc : I 60 28 = nI w) {Q : xv_Q} : ∀ (m k : Nat) (v : Int32), k + m = w → (v = bi (∃ j, j < k ∧ I 85 j = y)) → (∀ v, v = bi (∃ j, j < w ∧ I 85 j = y) → xv_W mX11_correct 8 0 0 Q 0 0 (sx n c) I (rx c) J 121 (some (.ref 60) :: some (.int x) :: some (.int y) :: some (.int a) :: some (.int b) :: some (.int v) :: some (.int (nI w)) :: []) []) → xv_W mX11_correct 8 0 0 Q 0 0 (sx n c) I (rx c) J 83 (some (.ref 60) :: some (.int x) :: some (.int y) :: some (.int a) :: some (.int b) :: some (.int v) :: some (.int (nI k)) :: []) [] := by
  intro m
  induction m with
  | zero =>
    intro k v hm i0 i1
    obtain rfl : k = w := by omega
    refine xv_il6 fX11_correct_83 ?_
    refine xv_al0 fX11_correct_85 ?_
    refine xv_getI fX11_correct_86 gX11_234 rfl (sx_60 _ _) ?_
    rw [hc]
    refine xv_ic_ge fX11_correct_89 (fun h_89 => ?_) (fun h_89 => ?_)
    · exact i1 v i0
    · exact absurd (nI_le (Nat.le_refl _) (by omega)) h_89
  | succ m ih =>
    intro k v hm i0 i1
    have hk : k < w := by omega
    show xv_W mX11_correct 8 0 0 _ 0 0 (sx n c) I (rx c) J 83 (some (.ref 60) :: some (.int x) :: some (.int y) :: some (.int a) :: some (.int b) :: some (.int v) :: some (.int (nI k)) :: []) []
    refine xv_il6 fX11_correct_83 ?_
    refine xv_al0 fX11_correct_85 ?_
    refine xv_getI fX11_correct_86 gX11_234 rfl (sx_60 _ _) ?_
    rw [hc]
    refine xv_ic_ge fX11_correct_89 (fun h_89 => ?_) (fun h_89 => ?_)
    · exact absurd h_89 (nI_ge hk (by omega))
    · refine xv_il5 fX11_correct_92 ?_
      refine xv_if_ne fX11_correct_94 (fun h_94 => ?_) (fun h_94 => ?_)
      · refine xv_k fX11_correct_108 ?_
        refine xv_goto fX11_correct_109 ?_
        refine xv_is5 fX11_correct_113 ?_
        refine xv_iincN6 (a := 1) fX11_correct_115 (by decide) ?_
        refine xv_goto fX11_correct_118 ?_
        exact ih (k + 1) _ (by omega) (bi_t (by obtain ⟨j, h1, h2⟩ := bi_1 (fun q => h_94 (i0.trans q)); exact ⟨j, by omega, h2⟩)).symm i1
      · refine xv_al0 fX11_correct_97 ?_
        refine xv_getR fX11_correct_98 gX11_83 rfl (sx_60 _ _) (rx_60_29 _) ?_
        refine xv_il6 fX11_correct_101 ?_
        refine xv_ialdN fX11_correct_103 (sx_85 _ _) (⟨by omega, by decide⟩) ?_
        refine xv_il2 fX11_correct_104 ?_
        refine xv_ic_ne fX11_correct_105 (fun h_105 => ?_) (fun h_105 => ?_)
        · refine xv_k fX11_correct_112 ?_
          refine xv_is5 fX11_correct_113 ?_
          refine xv_iincN6 (a := 1) fX11_correct_115 (by decide) ?_
          refine xv_goto fX11_correct_118 ?_
          exact ih (k + 1) _ (by omega) (bi_f (fun ⟨j, h1, h2⟩ => (Nat.lt_succ_iff_lt_or_eq.mp h1).elim (fun q => bi_0 (i0.symm.trans h_94) ⟨j, q, h2⟩) (fun q => h_105 (q ▸ h2)))).symm i1
        · refine xv_k fX11_correct_108 ?_
          refine xv_goto fX11_correct_109 ?_
          refine xv_is5 fX11_correct_113 ?_
          refine xv_iincN6 (a := 1) fX11_correct_115 (by decide) ?_
          refine xv_goto fX11_correct_118 ?_
          exact ih (k + 1) _ (by omega) (bi_t ⟨k, by omega, h_105⟩).symm i1

theorem m_cor_a (n : Nat) (c : Nat × Nat) (I : xv_I) (J : xv_J) {x : Int32} {w : Nat} (hx : x < 0 ∨ ¬ x < nI w) (hw : w ≤ 8) (hn : I 60 25 = nI w) {w5 : Nat} (hw5 : w5 ≤ 5) (hc : I 60 28 = nI w5) {y : Int32} : xv_Met mX11_correct 8 0 0 (sx n c) I (rx c) J [.ref 60, .int x, .int y] (xv_eq (.inl (some (.int (nI 0)))) (sx n c) (xv_u I 60 48 (nI 1)) (rx c) J) := by
  refine xv_Met.of (by decide +kernel) (Nat.le_of_ble_eq_true rfl) (List.forall_mem_cons.mpr ⟨rfl, List.forall_mem_cons.mpr ⟨rfl, List.forall_mem_cons.mpr ⟨rfl, fun _ h => nomatch h⟩⟩⟩) ?_
  show xv_W mX11_correct 8 0 0 _ 0 0 (sx n c) I (rx c) J 0 [some (.ref 60), some (.int x), some (.int y), none, none, none, none] []
  refine xv_al0 fX11_correct_0 ?_
  refine xv_il1 fX11_correct_1 ?_
  refine xv_callV1R (m_isEd_f n c _ J hx hw hn) fX11_correct_2 YX11_isEdition VX11_isEdition lX11_243 rfl rfl (sx_60 _ _) (Nat.le_of_ble_eq_true rfl) (by decide) (by decide) (by decide) ?_
  refine xv_if_eq fX11_correct_5 (fun h_5 => ?_) (fun h_5 => ?_)
  · refine xv_k fX11_correct_20 ?_
    refine xv_is3 fX11_correct_21 ?_
    refine xv_k fX11_correct_22 ?_
    refine xv_is4 fX11_correct_23 ?_
    refine xv_k fX11_correct_25 ?_
    refine xv_is5 fX11_correct_26 ?_
    refine xv_il5 fX11_correct_28 ?_
    refine xv_k fX11_correct_30 ?_
    refine xv_ic_ge fX11_correct_32 (fun h_32 => ?_) (fun h_32 => ?_)
    · exact absurd h_32 (by decide)
    · refine xv_il3 fX11_correct_35 ?_
      refine xv_if_eq fX11_correct_36 (fun h_36 => ?_) (fun h_36 => ?_)
      · refine xv_k fX11_correct_77 ?_
        refine xv_is5 fX11_correct_78 ?_
        refine xv_k fX11_correct_80 ?_
        refine xv_is6 fX11_correct_81 ?_
        refine l_cor2 n c I J hw5 hc w5 0 _ (by omega) (bi_f (fun ⟨j, h1, _⟩ => absurd h1 (by omega))).symm (fun v hv => ?_)
        refine xv_al0 fX11_correct_121 ?_
        refine xv_il3 fX11_correct_122 ?_
        refine xv_if_ne fX11_correct_123 (fun h_123 => ?_) (fun h_123 => ?_)
        · exact absurd h_123 (by decide)
        · refine xv_k fX11_correct_126 ?_
          refine xv_goto fX11_correct_127 ?_
          refine xv_callV1R (m_fails1 n c _ J) fX11_correct_153 YX11_fails VX11_fails lX11_137 rfl rfl (sx_60 _ _) (Nat.le_of_ble_eq_true rfl) (by decide) (by decide) (by decide) ?_
          refine xv_if_eq fX11_correct_156 (fun h_156 => ?_) (fun h_156 => ?_)
          · exact absurd h_156 (by decide)
          · refine xv_k fX11_correct_159 ?_
            exact xv_iret fX11_correct_160 rfl rfl xv_eq_i
      · exact absurd h_36 (by decide)
  · exact absurd h_5 (by decide)

theorem m_cor_b (n : Nat) (c : Nat × Nat) (I : xv_I) (J : xv_J) {e w : Nat} (he : e < w) (hw : w ≤ 8) (hn : I 60 25 = nI w) {w5 : Nat} (hw5 : w5 ≤ 5) (hc : I 60 28 = nI w5) {x : Int32} (hx : ∀ k, x = nI k → k < 20 → c.2 ≤ k) (hn2 : I 60 13 = nI c.2) (hc20 : c.2 ≤ 20) : xv_Met mX11_correct 8 0 0 (sx n c) I (rx c) J [.ref 60, .int (nI e), .int x] (xv_eq (.inl (some (.int (nI 0)))) (sx n c) (xv_u I 60 48 (nI 1)) (rx c) J) := by
  refine xv_Met.of (by decide +kernel) (Nat.le_of_ble_eq_true rfl) (List.forall_mem_cons.mpr ⟨rfl, List.forall_mem_cons.mpr ⟨rfl, List.forall_mem_cons.mpr ⟨rfl, fun _ h => nomatch h⟩⟩⟩) ?_
  show xv_W mX11_correct 8 0 0 _ 0 0 (sx n c) I (rx c) J 0 [some (.ref 60), some (.int (nI e)), some (.int x), none, none, none, none] []
  refine xv_al0 fX11_correct_0 ?_
  refine xv_il1 fX11_correct_1 ?_
  refine xv_callV1R (m_isEd_t n c _ J he hw hn) fX11_correct_2 YX11_isEdition VX11_isEdition lX11_243 rfl rfl (sx_60 _ _) (Nat.le_of_ble_eq_true rfl) (by decide) (by decide) (by decide) ?_
  refine xv_if_eq fX11_correct_5 (fun h_5 => ?_) (fun h_5 => ?_)
  · exact absurd h_5 (by decide)
  · refine xv_al0 fX11_correct_8 ?_
    refine xv_il2 fX11_correct_9 ?_
    refine xv_callV1R (m_isStory_f n c _ J hx hn2 hc20) fX11_correct_10 YX11_isStory VX11_isStory lX11_206 rfl rfl (sx_60 _ _) (Nat.le_of_ble_eq_true rfl) (by decide) (by decide) (by decide) ?_
    refine xv_if_eq fX11_correct_13 (fun h_13 => ?_) (fun h_13 => ?_)
    · refine xv_k fX11_correct_20 ?_
      refine xv_is3 fX11_correct_21 ?_
      refine xv_k fX11_correct_22 ?_
      refine xv_is4 fX11_correct_23 ?_
      refine xv_k fX11_correct_25 ?_
      refine xv_is5 fX11_correct_26 ?_
      refine xv_il5 fX11_correct_28 ?_
      refine xv_k fX11_correct_30 ?_
      refine xv_ic_ge fX11_correct_32 (fun h_32 => ?_) (fun h_32 => ?_)
      · exact absurd h_32 (by decide)
      · refine xv_il3 fX11_correct_35 ?_
        refine xv_if_eq fX11_correct_36 (fun h_36 => ?_) (fun h_36 => ?_)
        · refine xv_k fX11_correct_77 ?_
          refine xv_is5 fX11_correct_78 ?_
          refine xv_k fX11_correct_80 ?_
          refine xv_is6 fX11_correct_81 ?_
          refine l_cor2 n c I J hw5 hc w5 0 _ (by omega) (bi_f (fun ⟨j, h1, _⟩ => absurd h1 (by omega))).symm (fun v hv => ?_)
          refine xv_al0 fX11_correct_121 ?_
          refine xv_il3 fX11_correct_122 ?_
          refine xv_if_ne fX11_correct_123 (fun h_123 => ?_) (fun h_123 => ?_)
          · exact absurd h_123 (by decide)
          · refine xv_k fX11_correct_126 ?_
            refine xv_goto fX11_correct_127 ?_
            refine xv_callV1R (m_fails1 n c _ J) fX11_correct_153 YX11_fails VX11_fails lX11_137 rfl rfl (sx_60 _ _) (Nat.le_of_ble_eq_true rfl) (by decide) (by decide) (by decide) ?_
            refine xv_if_eq fX11_correct_156 (fun h_156 => ?_) (fun h_156 => ?_)
            · exact absurd h_156 (by decide)
            · refine xv_k fX11_correct_159 ?_
              exact xv_iret fX11_correct_160 rfl rfl xv_eq_i
        · exact absurd h_36 (by decide)
    · exact absurd h_13 (by decide)

theorem nI_ne3 {a b : Nat} (h : ¬ nI a = nI b) : a ≠ b := fun q => h (by rw [q])
theorem m_cor_c (n : Nat) (c : Nat × Nat) (I : xv_I) (J : xv_J) {e w : Nat} (he : e < w) (hw : w ≤ 8) (hn : I 60 25 = nI w) {w5 : Nat} (hw5 : w5 ≤ 5) (hc : I 60 28 = nI w5) {s : Nat} (hs : s < c.2) (hn2 : I 60 13 = nI c.2) (hc20 : c.2 ≤ 20) (hx : ¬ ((∃ j, j < 120 ∧ I 83 (120 * e + j) = nI (200 + s)) ∧ (¬ ∃ j, j < w5 ∧ I 85 j = nI s) ∧ w5 < 5)) : xv_Met mX11_correct 8 0 0 (sx n c) I (rx c) J [.ref 60, .int (nI e), .int (nI s)] (xv_eq (.inl (some (.int (nI 0)))) (sx n c) (xv_u I 60 48 (nI 2)) (rx c) J) := by
  refine xv_Met.of (by decide +kernel) (Nat.le_of_ble_eq_true rfl) (List.forall_mem_cons.mpr ⟨rfl, List.forall_mem_cons.mpr ⟨rfl, List.forall_mem_cons.mpr ⟨rfl, fun _ h => nomatch h⟩⟩⟩) ?_
  show xv_W mX11_correct 8 0 0 _ 0 0 (sx n c) I (rx c) J 0 [some (.ref 60), some (.int (nI e)), some (.int (nI s)), none, none, none, none] []
  refine xv_al0 fX11_correct_0 ?_
  refine xv_il1 fX11_correct_1 ?_
  refine xv_callV1R (m_isEd_t n c _ J he hw hn) fX11_correct_2 YX11_isEdition VX11_isEdition lX11_243 rfl rfl (sx_60 _ _) (Nat.le_of_ble_eq_true rfl) (by decide) (by decide) (by decide) ?_
  refine xv_if_eq fX11_correct_5 (fun h_5 => ?_) (fun h_5 => ?_)
  · exact absurd h_5 (by decide)
  · refine xv_al0 fX11_correct_8 ?_
    refine xv_il2 fX11_correct_9 ?_
    refine xv_callV1R (m_isStory_t n c _ J hs hn2 hc20) fX11_correct_10 YX11_isStory VX11_isStory lX11_206 rfl rfl (sx_60 _ _) (Nat.le_of_ble_eq_true rfl) (by decide) (by decide) (by decide) ?_
    refine xv_if_eq fX11_correct_13 (fun h_13 => ?_) (fun h_13 => ?_)
    · exact absurd h_13 (by decide)
    · refine xv_k fX11_correct_16 ?_
      refine xv_goto fX11_correct_17 ?_
      refine xv_is3 fX11_correct_21 ?_
      refine xv_k fX11_correct_22 ?_
      refine xv_is4 fX11_correct_23 ?_
      refine xv_k fX11_correct_25 ?_
      refine xv_is5 fX11_correct_26 ?_
      refine l_cor1 n c I J (e := e) (s := s) (l6 := none) (by omega) 120 0 _ rfl (bi_f (fun ⟨j, h1, _⟩ => absurd h1 (by omega))).symm (fun h hh => ?_)
      refine xv_k fX11_correct_77 ?_
      refine xv_is5 fX11_correct_78 ?_
      refine xv_k fX11_correct_80 ?_
      refine xv_is6 fX11_correct_81 ?_
      refine l_cor2 n c I J hw5 hc w5 0 _ (by omega) (bi_f (fun ⟨j, h1, _⟩ => absurd h1 (by omega))).symm (fun v hv => ?_)
      refine xv_al0 fX11_correct_121 ?_
      refine xv_il3 fX11_correct_122 ?_
      refine xv_if_ne fX11_correct_123 (fun h_123 => ?_) (fun h_123 => ?_)
      · refine xv_il4 fX11_correct_130 ?_
        refine xv_if_eq fX11_correct_132 (fun h_132 => ?_) (fun h_132 => ?_)
        · refine xv_k fX11_correct_148 ?_
          refine xv_goto fX11_correct_149 ?_
          refine xv_callV1R (m_fails2 n c _ J) fX11_correct_153 YX11_fails VX11_fails lX11_137 rfl rfl (sx_60 _ _) (Nat.le_of_ble_eq_true rfl) (by decide) (by decide) (by decide) ?_
          refine xv_if_eq fX11_correct_156 (fun h_156 => ?_) (fun h_156 => ?_)
          · exact absurd h_156 (by decide)
          · refine xv_k fX11_correct_159 ?_
            exact xv_iret fX11_correct_160 rfl rfl xv_eq_i
        · refine xv_il5 fX11_correct_135 ?_
          refine xv_if_ne fX11_correct_137 (fun h_137 => ?_) (fun h_137 => ?_)
          · refine xv_k fX11_correct_148 ?_
            refine xv_goto fX11_correct_149 ?_
            refine xv_callV1R (m_fails2 n c _ J) fX11_correct_153 YX11_fails VX11_fails lX11_137 rfl rfl (sx_60 _ _) (Nat.le_of_ble_eq_true rfl) (by decide) (by decide) (by decide) ?_
            refine xv_if_eq fX11_correct_156 (fun h_156 => ?_) (fun h_156 => ?_)
            · exact absurd h_156 (by decide)
            · refine xv_k fX11_correct_159 ?_
              exact xv_iret fX11_correct_160 rfl rfl xv_eq_i
          · refine xv_al0 fX11_correct_140 ?_
            refine xv_getI fX11_correct_141 gX11_234 rfl (sx_60 _ _) ?_
            rw [hc]
            refine xv_k fX11_correct_144 ?_
            refine xv_ic_ne fX11_correct_145 (fun h_145 => ?_) (fun h_145 => ?_)
            · exact absurd ⟨bi_1 (fun q => h_132 (hh.trans q)), bi_0 (hv.symm.trans h_137), by have := nI_ne3 h_145; omega⟩ hx
            · refine xv_k fX11_correct_148 ?_
              refine xv_goto fX11_correct_149 ?_
              refine xv_callV1R (m_fails2 n c _ J) fX11_correct_153 YX11_fails VX11_fails lX11_137 rfl rfl (sx_60 _ _) (Nat.le_of_ble_eq_true rfl) (by decide) (by decide) (by decide) ?_
              refine xv_if_eq fX11_correct_156 (fun h_156 => ?_) (fun h_156 => ?_)
              · exact absurd h_156 (by decide)
              · refine xv_k fX11_correct_159 ?_
                exact xv_iret fX11_correct_160 rfl rfl xv_eq_i
      · exact absurd h_123 (by decide)

theorem m_cor_ok (n : Nat) (c : Nat × Nat) (I : xv_I) (J : xv_J) {e w : Nat} (he : e < w) (hw : w ≤ 8) (hn : I 60 25 = nI w) {w5 : Nat} (hw5 : w5 ≤ 5) (hc : I 60 28 = nI w5) {s : Nat} (hs : s < c.2) (hn2 : I 60 13 = nI c.2) (hc20 : c.2 ≤ 20) (hx : (∃ j, j < 120 ∧ I 83 (120 * e + j) = nI (200 + s)) ∧ (¬ ∃ j, j < w5 ∧ I 85 j = nI s) ∧ w5 < 5) : xv_Met mX11_correct 8 0 0 (sx n c) I (rx c) J [.ref 60, .int (nI e), .int (nI s)] (xv_eq (.inl (some (.int (nI (w5 + 1))))) (sx n c) (xv_u (xv_u (xv_u I 60 48 (nI 0)) 85 w5 (nI s)) 60 28 (nI (w5 + 1))) (rx c) J) := by
  refine xv_Met.of (by decide +kernel) (Nat.le_of_ble_eq_true rfl) (List.forall_mem_cons.mpr ⟨rfl, List.forall_mem_cons.mpr ⟨rfl, List.forall_mem_cons.mpr ⟨rfl, fun _ h => nomatch h⟩⟩⟩) ?_
  show xv_W mX11_correct 8 0 0 _ 0 0 (sx n c) I (rx c) J 0 [some (.ref 60), some (.int (nI e)), some (.int (nI s)), none, none, none, none] []
  refine xv_al0 fX11_correct_0 ?_
  refine xv_il1 fX11_correct_1 ?_
  refine xv_callV1R (m_isEd_t n c _ J he hw hn) fX11_correct_2 YX11_isEdition VX11_isEdition lX11_243 rfl rfl (sx_60 _ _) (Nat.le_of_ble_eq_true rfl) (by decide) (by decide) (by decide) ?_
  refine xv_if_eq fX11_correct_5 (fun h_5 => ?_) (fun h_5 => ?_)
  · exact absurd h_5 (by decide)
  · refine xv_al0 fX11_correct_8 ?_
    refine xv_il2 fX11_correct_9 ?_
    refine xv_callV1R (m_isStory_t n c _ J hs hn2 hc20) fX11_correct_10 YX11_isStory VX11_isStory lX11_206 rfl rfl (sx_60 _ _) (Nat.le_of_ble_eq_true rfl) (by decide) (by decide) (by decide) ?_
    refine xv_if_eq fX11_correct_13 (fun h_13 => ?_) (fun h_13 => ?_)
    · exact absurd h_13 (by decide)
    · refine xv_k fX11_correct_16 ?_
      refine xv_goto fX11_correct_17 ?_
      refine xv_is3 fX11_correct_21 ?_
      refine xv_k fX11_correct_22 ?_
      refine xv_is4 fX11_correct_23 ?_
      refine xv_k fX11_correct_25 ?_
      refine xv_is5 fX11_correct_26 ?_
      refine l_cor1 n c I J (e := e) (s := s) (l6 := none) (by omega) 120 0 _ rfl (bi_f (fun ⟨j, h1, _⟩ => absurd h1 (by omega))).symm (fun h hh => ?_)
      refine xv_k fX11_correct_77 ?_
      refine xv_is5 fX11_correct_78 ?_
      refine xv_k fX11_correct_80 ?_
      refine xv_is6 fX11_correct_81 ?_
      refine l_cor2 n c I J hw5 hc w5 0 _ (by omega) (bi_f (fun ⟨j, h1, _⟩ => absurd h1 (by omega))).symm (fun v hv => ?_)
      refine xv_al0 fX11_correct_121 ?_
      refine xv_il3 fX11_correct_122 ?_
      refine xv_if_ne fX11_correct_123 (fun h_123 => ?_) (fun h_123 => ?_)
      · refine xv_il4 fX11_correct_130 ?_
        refine xv_if_eq fX11_correct_132 (fun h_132 => ?_) (fun h_132 => ?_)
        · exact absurd hx.1 (bi_0 (hh.symm.trans h_132))
        · refine xv_il5 fX11_correct_135 ?_
          refine xv_if_ne fX11_correct_137 (fun h_137 => ?_) (fun h_137 => ?_)
          · exact absurd (bi_1 (fun q => h_137 (hv.trans q))) hx.2.1
          · refine xv_al0 fX11_correct_140 ?_
            refine xv_getI fX11_correct_141 gX11_234 rfl (sx_60 _ _) ?_
            rw [hc]
            refine xv_k fX11_correct_144 ?_
            refine xv_ic_ne fX11_correct_145 (fun h_145 => ?_) (fun h_145 => ?_)
            · refine xv_k fX11_correct_152 ?_
              refine xv_callV1R (m_fails0 n c _ J) fX11_correct_153 YX11_fails VX11_fails lX11_137 rfl rfl (sx_60 _ _) (Nat.le_of_ble_eq_true rfl) (by decide) (by decide) (by decide) ?_
              refine xv_if_eq fX11_correct_156 (fun h_156 => ?_) (fun h_156 => ?_)
              · refine xv_al0 fX11_correct_161 ?_
                refine xv_getR fX11_correct_162 gX11_83 rfl (sx_60 _ _) (rx_60_29 _) ?_
                refine xv_al0 fX11_correct_165 ?_
                refine xv_getI fX11_correct_166 gX11_234 rfl (sx_60 _ _) ?_
                rw [xv_u_nk _ _ _ (by decide), hc]
                refine xv_il2 fX11_correct_169 ?_
                refine xv_iastN fX11_correct_170 (sx_85 _ _) (⟨by omega, by decide⟩) ?_
                refine xv_al0 fX11_correct_171 ?_
                refine xv_dup_r fX11_correct_172 ?_
                refine xv_getI fX11_correct_173 gX11_234 rfl (sx_60 _ _) ?_
                rw [xv_u_ne _ _ _ (by decide), xv_u_nk _ _ _ (by decide), hc]
                refine xv_k fX11_correct_176 ?_
                refine xv_iadd fX11_correct_177 ?_
                rw [nI_add]
                refine xv_putI fX11_correct_178 gX11_234 rfl (tp11_28 _) (sx_60 _ _) ⟨rfl, rfl⟩ ?_
                refine xv_al0 fX11_correct_181 ?_
                refine xv_getI fX11_correct_182 gX11_234 rfl (sx_60 _ _) ?_
                rw [xv_u_eq]
                exact xv_iret fX11_correct_185 rfl rfl xv_eq_i
              · exact absurd h_156 (by decide)
            · exact absurd h_145 (nI_ne2 (by omega) (by omega) (by decide))
      · exact absurd h_123 (by decide)
