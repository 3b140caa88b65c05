theorem m_advert_ok9 (n : Nat) (c : Nat × Nat) (I : xv_I) (J : xv_J) {a9 : Nat} {x1 x2 x3 x4 x5 x6 : Int32} (h1 : okR 0 3 x1) (h2 : okR 1 3 x2) (h3 : okR 1 4 x3) (h4 : ¬ x5 < -1 ∧ x5 ≤ nI 3) (h5 : ¬ x6 < -1 ∧ x6 ≤ nI 2) (hz : narrow .boolean (.int x4) = .int x4) (hn : I 60 5 = nI a9) (hc : a9 < 20) : xv_Met mX11_advert 6 0 0 (sx n c) I (rx c) J [.ref 60, .int x1, .int x2, .int x3, .int x4, .int x5, .int x6] (xv_eq (.inl (some (.int (nI a9)))) (sx n c) (xv_u (mAd a9 x1 x2 x3 x4 x5 x6 (xv_u I 60 48 (nI 0))) 60 5 (nI (a9 + 1))) (rx c) J) := by
  refine xv_Met.of (by decide +kernel) (Nat.le_of_ble_eq_true rfl) (List.forall_mem_cons.mpr ⟨rfl, List.forall_mem_cons.mpr ⟨rfl, List.forall_mem_cons.mpr ⟨rfl, List.forall_mem_cons.mpr ⟨rfl, List.forall_mem_cons.mpr ⟨rfl, List.forall_mem_cons.mpr ⟨rfl, List.forall_mem_cons.mpr ⟨rfl, fun _ h => nomatch h⟩⟩⟩⟩⟩⟩⟩) ?_
  show xv_W mX11_advert 6 0 0 _ 0 0 (sx n c) I (rx c) J 0 [some (.ref 60), some (.int x1), some (.int x2), some (.int x3), some (.int x4), some (.int x5), some (.int x6), none] []
  refine xv_il1 fX11_advert_0 ?_
  refine xv_k fX11_advert_1 ?_
  refine xv_k fX11_advert_2 ?_
  refine xv_callS3R (m_isIn_t n c _ J (h1).1 (h1).2) fX11_advert_3 YX11_isIn VX11_isIn lX11_126 rfl (Nat.le_of_ble_eq_true rfl) (by decide) (by decide) (by decide) ?_
  refine xv_if_eq fX11_advert_6 (fun h_6 => ?_) (fun h_6 => ?_)
  · exact absurd h_6 (by decide)
  · refine xv_il2 fX11_advert_9 ?_
    refine xv_k fX11_advert_10 ?_
    refine xv_k fX11_advert_11 ?_
    refine xv_callS3R (m_isIn_t n c _ J (h2).1 (h2).2) fX11_advert_12 YX11_isIn VX11_isIn lX11_126 rfl (Nat.le_of_ble_eq_true rfl) (by decide) (by decide) (by decide) ?_
    refine xv_if_eq fX11_advert_15 (fun h_15 => ?_) (fun h_15 => ?_)
    · exact absurd h_15 (by decide)
    · refine xv_il3 fX11_advert_18 ?_
      refine xv_k fX11_advert_19 ?_
      refine xv_k fX11_advert_20 ?_
      refine xv_callS3R (m_isIn_t n c _ J (h3).1 (h3).2) fX11_advert_21 YX11_isIn VX11_isIn lX11_126 rfl (Nat.le_of_ble_eq_true rfl) (by decide) (by decide) (by decide) ?_
      refine xv_if_eq fX11_advert_24 (fun h_24 => ?_) (fun h_24 => ?_)
      · exact absurd h_24 (by decide)
      · refine xv_il5 fX11_advert_27 ?_
        refine xv_k fX11_advert_29 ?_
        refine xv_k fX11_advert_30 ?_
        refine xv_callS3R (m_isIn_t n c _ J (h4).1 (h4).2) fX11_advert_31 YX11_isIn VX11_isIn lX11_126 rfl (Nat.le_of_ble_eq_true rfl) (by decide) (by decide) (by decide) ?_
        refine xv_if_eq fX11_advert_34 (fun h_34 => ?_) (fun h_34 => ?_)
        · exact absurd h_34 (by decide)
        · refine xv_il6 fX11_advert_37 ?_
          refine xv_k fX11_advert_39 ?_
          refine xv_k fX11_advert_40 ?_
          refine xv_callS3R (m_isIn_t n c _ J (h5).1 (h5).2) fX11_advert_41 YX11_isIn VX11_isIn lX11_126 rfl (Nat.le_of_ble_eq_true rfl) (by decide) (by decide) (by decide) ?_
          refine xv_if_eq fX11_advert_44 (fun h_44 => ?_) (fun h_44 => ?_)
          · exact absurd h_44 (by decide)
          · refine xv_k fX11_advert_47 ?_
            refine xv_goto fX11_advert_48 ?_
            refine xv_is7 fX11_advert_52 ?_
            refine xv_al0 fX11_advert_54 ?_
            refine xv_il7 fX11_advert_55 ?_
            refine xv_if_ne fX11_advert_57 (fun h_57 => ?_) (fun h_57 => ?_)
            · refine xv_al0 fX11_advert_64 ?_
              refine xv_getI fX11_advert_65 gX11_147 rfl (sx_60 _ _) ?_
              rw [hn]
              refine xv_k fX11_advert_68 ?_
              refine xv_ic_ne fX11_advert_70 (fun h_70 => ?_) (fun h_70 => ?_)
              · refine xv_k fX11_advert_77 ?_
                refine xv_callV1R (m_fails0 n c _ J) fX11_advert_78 YX11_fails VX11_fails lX11_137 rfl rfl (sx_60 _ _) (Nat.le_of_ble_eq_true rfl) (by decide) (by decide) (by decide) ?_
                refine xv_if_eq fX11_advert_81 (fun h_81 => ?_) (fun h_81 => ?_)
                · refine xv_al0 fX11_advert_86 ?_
                  refine xv_getR fX11_advert_87 gX11_23 rfl (sx_60 _ _) (rx_60_6 _) ?_
                  refine xv_al0 fX11_advert_90 ?_
                  refine xv_getI fX11_advert_91 gX11_147 rfl (sx_60 _ _) ?_
                  refine xv_eqi (y := nI a9) (by simp [xv_u, hn]) ?_
                  refine xv_il1 fX11_advert_94 ?_
                  refine xv_iastN fX11_advert_95 (sx_65 _ _) (⟨hc, by decide⟩) ?_
                  refine xv_al0 fX11_advert_96 ?_
                  refine xv_getR fX11_advert_97 gX11_26 rfl (sx_60 _ _) (rx_60_7 _) ?_
                  refine xv_al0 fX11_advert_100 ?_
                  refine xv_getI fX11_advert_101 gX11_147 rfl (sx_60 _ _) ?_
                  refine xv_eqi (y := nI a9) (by simp [xv_u, hn]) ?_
                  refine xv_il2 fX11_advert_104 ?_
                  refine xv_iastN fX11_advert_105 (sx_66 _ _) (⟨hc, by decide⟩) ?_
                  refine xv_al0 fX11_advert_106 ?_
                  refine xv_getR fX11_advert_107 gX11_29 rfl (sx_60 _ _) (rx_60_8 _) ?_
                  refine xv_al0 fX11_advert_110 ?_
                  refine xv_getI fX11_advert_111 gX11_147 rfl (sx_60 _ _) ?_
                  refine xv_eqi (y := nI a9) (by simp [xv_u, hn]) ?_
                  refine xv_il3 fX11_advert_114 ?_
                  refine xv_iastN fX11_advert_115 (sx_67 _ _) (⟨hc, by decide⟩) ?_
                  refine xv_al0 fX11_advert_116 ?_
                  refine xv_getR fX11_advert_117 gX11_32 rfl (sx_60 _ _) (rx_60_9 _) ?_
                  refine xv_al0 fX11_advert_120 ?_
                  refine xv_getI fX11_advert_121 gX11_147 rfl (sx_60 _ _) ?_
                  refine xv_eqi (y := nI a9) (by simp [xv_u, hn]) ?_
                  refine xv_il4 fX11_advert_124 ?_
                  refine xv_zastN fX11_advert_126 (sx_68 _ _) (⟨hc, by decide⟩) (hz) ?_
                  refine xv_al0 fX11_advert_127 ?_
                  refine xv_getR fX11_advert_128 gX11_35 rfl (sx_60 _ _) (rx_60_10 _) ?_
                  refine xv_al0 fX11_advert_131 ?_
                  refine xv_getI fX11_advert_132 gX11_147 rfl (sx_60 _ _) ?_
                  refine xv_eqi (y := nI a9) (by simp [xv_u, hn]) ?_
                  refine xv_il5 fX11_advert_135 ?_
                  refine xv_iastN fX11_advert_137 (sx_69 _ _) (⟨hc, by decide⟩) ?_
                  refine xv_al0 fX11_advert_138 ?_
                  refine xv_getR fX11_advert_139 gX11_38 rfl (sx_60 _ _) (rx_60_11 _) ?_
                  refine xv_al0 fX11_advert_142 ?_
                  refine xv_getI fX11_advert_143 gX11_147 rfl (sx_60 _ _) ?_
                  refine xv_eqi (y := nI a9) (by simp [xv_u, hn]) ?_
                  refine xv_il6 fX11_advert_146 ?_
                  refine xv_iastN fX11_advert_148 (sx_70 _ _) (⟨hc, by decide⟩) ?_
                  refine xv_al0 fX11_advert_149 ?_
                  refine xv_getR fX11_advert_150 gX11_41 rfl (sx_60 _ _) (rx_60_12 _) ?_
                  refine xv_al0 fX11_advert_153 ?_
                  refine xv_getI fX11_advert_154 gX11_147 rfl (sx_60 _ _) ?_
                  refine xv_eqi (y := nI a9) (by simp [xv_u, hn]) ?_
                  refine xv_k fX11_advert_157 ?_
                  refine xv_iastN fX11_advert_158 (sx_71 _ _) (⟨hc, by decide⟩) ?_
                  refine xv_al0 fX11_advert_159 ?_
                  refine xv_dup_r fX11_advert_160 ?_
                  refine xv_getI fX11_advert_161 gX11_147 rfl (sx_60 _ _) ?_
                  refine xv_eqi (y := nI a9) (by simp [xv_u, hn]) ?_
                  refine xv_k fX11_advert_164 ?_
                  refine xv_iadd fX11_advert_165 ?_
                  rw [nI_add]
                  refine xv_putI fX11_advert_166 gX11_147 rfl (tp11_5 _) (sx_60 _ _) ⟨rfl, rfl⟩ ?_
                  refine xv_al0 fX11_advert_169 ?_
                  refine xv_getI fX11_advert_170 gX11_147 rfl (sx_60 _ _) ?_
                  rw [xv_u_eq]
                  refine xv_k fX11_advert_173 ?_
                  refine xv_isub fX11_advert_174 ?_
                  rw [show nI (a9 + 1) - nI 1 = nI a9 from nI_sub (Nat.succ_le_succ (Nat.zero_le _))]
                  exact xv_iret fX11_advert_175 rfl rfl xv_eq_i
                · exact absurd h_81 (by decide)
              · exact absurd h_70 (nI_ne2 (by omega) (by omega) (by decide))
            · exact absurd h_57 (by decide)

theorem l_stW9 (n : Nat) (c : Nat × Nat) (J : xv_J) {Q : xv_Q} {x1 x2 x3 : Int32} {np a9 : Nat} (hc : a9 < 20) : ∀ (m : Nat) (r : Int32) (I : xv_I), m ≤ 6 → I 60 13 = nI a9 → (∀ r9, xv_W mX11_story 6 0 0 Q 0 0 (sx n c) (mLn a9 m r I) (rx c) J 171 (some (.ref 60) :: some (.int x1) :: some (.int x2) :: some (.int x3) :: some (.int (nI np)) :: some (.int r9) :: some (.int (nI 1)) :: some (.int (-1)) :: []) []) → xv_W mX11_story 6 0 0 Q 0 0 (sx n c) I (rx c) J 133 (some (.ref 60) :: some (.int x1) :: some (.int x2) :: some (.int x3) :: some (.int (nI np)) :: some (.int r) :: some (.int (nI 1)) :: some (.int (nI m + -1)) :: []) [] := by
  intro m
  induction m with
  | zero =>
    intro r I hm i0 i1
    show xv_W mX11_story 6 0 0 _ 0 0 (sx n c) I (rx c) J 133 (some (.ref 60) :: some (.int x1) :: some (.int x2) :: some (.int x3) :: some (.int (nI np)) :: some (.int r) :: some (.int (nI 1)) :: some (.int (-1)) :: []) []
    refine xv_il7 fX11_story_133 ?_
    refine xv_if_lt fX11_story_135 (fun h_135 => ?_) (fun h_135 => ?_)
    · exact i1 _
    · exact absurd (by decide) h_135
  | succ m ih =>
    intro r I hm i0 i1
    show xv_W mX11_story 6 0 0 _ 0 0 (sx n c) I (rx c) J 133 (some (.ref 60) :: some (.int x1) :: some (.int x2) :: some (.int x3) :: some (.int (nI np)) :: some (.int r) :: some (.int (nI 1)) :: some (.int (nI (m + 1) + -1)) :: []) []
    rw [show nI (m + 1) + -1 = nI m from nI_decr (Nat.succ_le_succ (Nat.zero_le m))]
    refine xv_il7 fX11_story_133 ?_
    refine xv_if_lt fX11_story_135 (fun h_135 => ?_) (fun h_135 => ?_)
    · exact absurd h_135 (nI_pos (by omega))
    · refine xv_al0 fX11_story_138 ?_
      refine xv_getR fX11_story_139 gX11_50 rfl (sx_60 _ _) (rx_60_16 _) ?_
      refine xv_k fX11_story_142 ?_
      refine xv_al0 fX11_story_144 ?_
      refine xv_getI fX11_story_145 gX11_172 rfl (sx_60 _ _) ?_
      rw [i0]
      refine xv_imul fX11_story_148 ?_
      rw [nI_mul]
      refine xv_il7 fX11_story_149 ?_
      refine xv_iadd fX11_story_151 ?_
      rw [nI_add]
      refine xv_il5 fX11_story_152 ?_
      refine xv_k fX11_story_154 ?_
      refine xv_irem fX11_story_156 (by decide) ?_
      refine xv_iastN fX11_story_157 (sx_74 _ _) (⟨by omega, by decide⟩) ?_
      refine xv_il5 fX11_story_158 ?_
      refine xv_k fX11_story_160 ?_
      refine xv_idiv fX11_story_162 (by decide) ?_
      refine xv_is5 fX11_story_163 ?_
      refine xv_iinc7 (v := -1) fX11_story_165 (by decide) ?_
      refine xv_goto fX11_story_168 ?_
      exact ih _ _ (by omega) ((xv_u_ne _ _ _ (by decide)).trans i0) i1

theorem m_story_ok9 (n : Nat) (c : Nat × Nat) (I : xv_I) (J : xv_J) {a9 : Nat} {x1 x3 : Int32} {d : Nat} (h1 : okR 0 3 x1) (hd : 1 ≤ d) (hd2 : d ≤ 999999) {np : Nat} (hp : xPar (nI d) = nI np) (hp1 : 1 ≤ np) (hp6 : np ≤ 6) (h3 : ¬ x3 < nI 1 ∧ x3 ≤ nI np) (hn : I 60 13 = nI a9) (hc : a9 < 20) : xv_Met mX11_story 6 0 0 (sx n c) I (rx c) J [.ref 60, .int x1, .int (nI d), .int x3] (xv_eq (.inl (some (.int (nI a9)))) (sx n c) (mSt a9 np x1 (nI d) x3 (xv_u I 60 48 (nI 0))) (rx c) J) := by
  refine xv_Met.of (by decide +kernel) (Nat.le_of_ble_eq_true rfl) (List.forall_mem_cons.mpr ⟨rfl, List.forall_mem_cons.mpr ⟨rfl, List.forall_mem_cons.mpr ⟨rfl, List.forall_mem_cons.mpr ⟨rfl, fun _ h => nomatch h⟩⟩⟩⟩) ?_
  show xv_W mX11_story 6 0 0 _ 0 0 (sx n c) I (rx c) J 0 [some (.ref 60), some (.int x1), some (.int (nI d)), some (.int x3), none, none, none, none] []
  refine xv_k fX11_story_0 ?_
  refine xv_is4 fX11_story_1 ?_
  refine xv_il2 fX11_story_3 ?_
  refine xv_is5 fX11_story_4 ?_
  refine xv_il1 fX11_story_6 ?_
  refine xv_k fX11_story_7 ?_
  refine xv_k fX11_story_8 ?_
  refine xv_callS3R (m_isIn_t n c _ J (h1).1 (h1).2) fX11_story_9 YX11_isIn VX11_isIn lX11_126 rfl (Nat.le_of_ble_eq_true rfl) (by decide) (by decide) (by decide) ?_
  refine xv_if_eq fX11_story_12 (fun h_12 => ?_) (fun h_12 => ?_)
  · exact absurd h_12 (by decide)
  · refine xv_il2 fX11_story_15 ?_
    refine xv_k fX11_story_16 ?_
    refine xv_kl fX11_story_17 cwX11_171 ?_
    refine xv_callS3R (m_isIn_t n c _ J ((okR_n hd hd2 (by decide) : okR 1 999999 (nI d))).1 ((okR_n hd hd2 (by decide) : okR 1 999999 (nI d))).2) fX11_story_19 YX11_isIn VX11_isIn lX11_126 rfl (Nat.le_of_ble_eq_true rfl) (by decide) (by decide) (by decide) ?_
    refine xv_if_eq fX11_story_22 (fun h_22 => ?_) (fun h_22 => ?_)
    · exact absurd h_22 (by decide)
    · refine xv_k fX11_story_25 ?_
      refine xv_goto fX11_story_26 ?_
      refine xv_is6 fX11_story_30 ?_
      refine l_stG n c I J hp1 hp6 6 d 0 rfl (Nat.lt_of_le_of_lt hd2 (by decide)) hp ?_
      refine xv_il6 fX11_story_70 ?_
      refine xv_if_eq fX11_story_72 (fun h_72 => ?_) (fun h_72 => ?_)
      · exact absurd h_72 (by decide)
      · refine xv_il3 fX11_story_75 ?_
        refine xv_k fX11_story_76 ?_
        refine xv_il4 fX11_story_77 ?_
        refine xv_callS3R (m_isIn_t n c _ J (h3).1 (h3).2) fX11_story_79 YX11_isIn VX11_isIn lX11_126 rfl (Nat.le_of_ble_eq_true rfl) (by decide) (by decide) (by decide) ?_
        refine xv_if_eq fX11_story_82 (fun h_82 => ?_) (fun h_82 => ?_)
        · exact absurd h_82 (by decide)
        · refine xv_k fX11_story_85 ?_
          refine xv_goto fX11_story_86 ?_
          refine xv_is6 fX11_story_90 ?_
          refine xv_al0 fX11_story_92 ?_
          refine xv_il6 fX11_story_93 ?_
          refine xv_if_ne fX11_story_95 (fun h_95 => ?_) (fun h_95 => ?_)
          · refine xv_al0 fX11_story_102 ?_
            refine xv_getI fX11_story_103 gX11_172 rfl (sx_60 _ _) ?_
            rw [hn]
            refine xv_k fX11_story_106 ?_
            refine xv_ic_ne fX11_story_108 (fun h_108 => ?_) (fun h_108 => ?_)
            · refine xv_k fX11_story_115 ?_
              refine xv_callV1R (m_fails0 n c _ J) fX11_story_116 YX11_fails VX11_fails lX11_137 rfl rfl (sx_60 _ _) (Nat.le_of_ble_eq_true rfl) (by decide) (by decide) (by decide) ?_
              refine xv_if_eq fX11_story_119 (fun h_119 => ?_) (fun h_119 => ?_)
              · refine xv_il2 fX11_story_124 ?_
                refine xv_is5 fX11_story_125 ?_
                refine xv_il4 fX11_story_127 ?_
                refine xv_k fX11_story_129 ?_
                refine xv_isub fX11_story_130 ?_
                refine xv_is7 fX11_story_131 ?_
                rw [show nI np - nI 1 = nI np + -1 by rw [nI_sub hp1, nI_decr hp1]]
                refine l_stW9 n c J hc np _ _ hp6 (by rw [xv_u_nk _ _ _ (by decide)]; exact hn) (fun r9 => ?_)
                refine xv_al0 fX11_story_171 ?_
                refine xv_getR fX11_story_172 gX11_44 rfl (sx_60 _ _) (rx_60_14 _) ?_
                refine xv_al0 fX11_story_175 ?_
                refine xv_getI fX11_story_176 gX11_172 rfl (sx_60 _ _) ?_
                refine xv_eqi (y := nI a9) (by simp [xv_u, mLn_o, hn]) ?_
                refine xv_il1 fX11_story_179 ?_
                refine xv_iastN fX11_story_180 (sx_72 _ _) (⟨by omega, by decide⟩) ?_
                refine xv_al0 fX11_story_181 ?_
                refine xv_getR fX11_story_182 gX11_47 rfl (sx_60 _ _) (rx_60_15 _) ?_
                refine xv_al0 fX11_story_185 ?_
                refine xv_getI fX11_story_186 gX11_172 rfl (sx_60 _ _) ?_
                refine xv_eqi (y := nI a9) (by simp [xv_u, mLn_o, hn]) ?_
                refine xv_il4 fX11_story_189 ?_
                refine xv_iastN fX11_story_191 (sx_73 _ _) (⟨by omega, by decide⟩) ?_
                refine xv_al0 fX11_story_192 ?_
                refine xv_getR fX11_story_193 gX11_53 rfl (sx_60 _ _) (rx_60_17 _) ?_
                refine xv_al0 fX11_story_196 ?_
                refine xv_getI fX11_story_197 gX11_172 rfl (sx_60 _ _) ?_
                refine xv_eqi (y := nI a9) (by simp [xv_u, mLn_o, hn]) ?_
                refine xv_il3 fX11_story_200 ?_
                refine xv_iastN fX11_story_201 (sx_75 _ _) (⟨by omega, by decide⟩) ?_
                refine xv_al0 fX11_story_202 ?_
                refine xv_dup_r fX11_story_203 ?_
                refine xv_getI fX11_story_204 gX11_172 rfl (sx_60 _ _) ?_
                refine xv_eqi (y := nI a9) (by simp [xv_u, mLn_o, hn]) ?_
                refine xv_k fX11_story_207 ?_
                refine xv_iadd fX11_story_208 ?_
                rw [nI_add]
                refine xv_putI fX11_story_209 gX11_172 rfl (tp11_13 _) (sx_60 _ _) ⟨rfl, rfl⟩ ?_
                refine xv_al0 fX11_story_212 ?_
                refine xv_getI fX11_story_213 gX11_172 rfl (sx_60 _ _) ?_
                rw [xv_u_eq]
                refine xv_k fX11_story_216 ?_
                refine xv_isub fX11_story_217 ?_
                rw [show nI (a9 + 1) - nI 1 = nI a9 from nI_sub (Nat.succ_le_succ (Nat.zero_le _))]
                exact xv_iret fX11_story_218 rfl rfl (xv_eq_I rfl rfl)
              · exact absurd h_119 (by decide)
            · exact absurd h_108 (nI_ne2 (by omega) (by omega) (by decide))
          · exact absurd h_95 (by decide)

