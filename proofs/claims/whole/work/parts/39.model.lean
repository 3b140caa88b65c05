theorem nI_m1 (w : Nat) : nI w - nI 1 = nI w + -1 := by
  rw [Int32.sub_eq_add_neg]
  congr 1
abbrev mAlike (I : xv_I) (x : Int32) (k : Nat) : Prop := ¬ mSize (x &&& I 91 k) < nI 3 ∧ ¬ nI 2 * mSize (x &&& I 91 k) < mSize (x ||| I 91 k)
theorem m_wire_a (n : Nat) (c : Nat × Nat) (I : xv_I) (J : xv_J) {x y : Int32} {w : Nat} (hw : w ≤ 12) (hc : I 60 38 = nI w) (hx : x < nI 0 ∨ ¬ x ≤ nI 65535) : xv_Met mX11_wire 8 0 0 (sx n c) I (rx c) J [.ref 60, .int x, .int y] (xv_eq (.inl (some (.int (nI 0)))) (sx n c) (xv_u I 60 48 (nI 1)) (rx c) J) := by
  refine xv_Met.of (by decide +kernel) (Nat.le_of_ble_eq_true rfl) (List.forall_mem_cons.mpr ⟨rfl, List.forall_mem_cons.mpr ⟨rfl, List.forall_mem_cons.mpr ⟨rfl, fun _ h => nomatch h⟩⟩⟩) ?_
  show xv_W mX11_wire 8 0 0 _ 0 0 (sx n c) I (rx c) J 0 [some (.ref 60), some (.int x), some (.int y), none, none, none, none] []
  refine xv_il1 fX11_wire_0 ?_
  refine xv_k fX11_wire_1 ?_
  refine xv_kl fX11_wire_2 cwX11_255 ?_
  refine xv_callS3R (m_isIn_f n c _ J (hx)) fX11_wire_4 YX11_isIn VX11_isIn lX11_126 rfl (Nat.le_of_ble_eq_true rfl) (by decide) (by decide) (by decide) ?_
  refine xv_if_eq fX11_wire_7 (fun h_7 => ?_) (fun h_7 => ?_)
  · refine xv_k fX11_wire_24 ?_
    refine xv_is3 fX11_wire_25 ?_
    refine xv_k fX11_wire_26 ?_
    refine xv_is4 fX11_wire_27 ?_
    refine xv_al0 fX11_wire_29 ?_
    refine xv_getI fX11_wire_30 gX11_256 rfl (sx_60 _ _) ?_
    refine xv_k fX11_wire_33 ?_
    refine xv_isub fX11_wire_34 ?_
    refine xv_is5 fX11_wire_35 ?_
    refine xv_il5 fX11_wire_37 ?_
    refine xv_if_lt fX11_wire_39 (fun h_39 => ?_) (fun h_39 => ?_)
    · refine xv_al0 fX11_wire_100 ?_
      refine xv_il3 fX11_wire_101 ?_
      refine xv_if_ne fX11_wire_102 (fun h_102 => ?_) (fun h_102 => ?_)
      · exact absurd h_102 (by decide)
      · refine xv_k fX11_wire_105 ?_
        refine xv_goto fX11_wire_106 ?_
        refine xv_callV1R (m_fails1 n c _ J) fX11_wire_129 YX11_fails VX11_fails lX11_137 rfl rfl (sx_60 _ _) (Nat.le_of_ble_eq_true rfl) (by decide) (by decide) (by decide) ?_
        refine xv_if_eq fX11_wire_132 (fun h_132 => ?_) (fun h_132 => ?_)
        · exact absurd h_132 (by decide)
        · refine xv_k fX11_wire_135 ?_
          exact xv_iret fX11_wire_136 rfl rfl xv_eq_i
    · refine xv_il3 fX11_wire_42 ?_
      refine xv_if_eq fX11_wire_43 (fun h_43 => ?_) (fun h_43 => ?_)
      · refine xv_al0 fX11_wire_100 ?_
        refine xv_il3 fX11_wire_101 ?_
        refine xv_if_ne fX11_wire_102 (fun h_102 => ?_) (fun h_102 => ?_)
        · exact absurd h_102 (by decide)
        · refine xv_k fX11_wire_105 ?_
          refine xv_goto fX11_wire_106 ?_
          refine xv_callV1R (m_fails1 n c _ J) fX11_wire_129 YX11_fails VX11_fails lX11_137 rfl rfl (sx_60 _ _) (Nat.le_of_ble_eq_true rfl) (by decide) (by decide) (by decide) ?_
          refine xv_if_eq fX11_wire_132 (fun h_132 => ?_) (fun h_132 => ?_)
          · exact absurd h_132 (by decide)
          · refine xv_k fX11_wire_135 ?_
            exact xv_iret fX11_wire_136 rfl rfl xv_eq_i
      · exact absurd h_43 (by decide)
  · exact absurd h_7 (by decide)

theorem m_wire_b (n : Nat) (c : Nat × Nat) (I : xv_I) (J : xv_J) {x y : Int32} {w : Nat} (hw : w ≤ 12) (hc : I 60 38 = nI w) (hx : okR 0 65535 x) (hy : y < nI 0 ∨ ¬ y ≤ nI 9) : xv_Met mX11_wire 8 0 0 (sx n c) I (rx c) J [.ref 60, .int x, .int y] (xv_eq (.inl (some (.int (nI 0)))) (sx n c) (xv_u I 60 48 (nI 1)) (rx c) J) := by
  refine xv_Met.of (by decide +kernel) (Nat.le_of_ble_eq_true rfl) (List.forall_mem_cons.mpr ⟨rfl, List.forall_mem_cons.mpr ⟨rfl, List.forall_mem_cons.mpr ⟨rfl, fun _ h => nomatch h⟩⟩⟩) ?_
  show xv_W mX11_wire 8 0 0 _ 0 0 (sx n c) I (rx c) J 0 [some (.ref 60), some (.int x), some (.int y), none, none, none, none] []
  refine xv_il1 fX11_wire_0 ?_
  refine xv_k fX11_wire_1 ?_
  refine xv_kl fX11_wire_2 cwX11_255 ?_
  refine xv_callS3R (m_isIn_t n c _ J (hx).1 (hx).2) fX11_wire_4 YX11_isIn VX11_isIn lX11_126 rfl (Nat.le_of_ble_eq_true rfl) (by decide) (by decide) (by decide) ?_
  refine xv_if_eq fX11_wire_7 (fun h_7 => ?_) (fun h_7 => ?_)
  · exact absurd h_7 (by decide)
  · refine xv_il2 fX11_wire_10 ?_
    refine xv_k fX11_wire_11 ?_
    refine xv_k fX11_wire_12 ?_
    refine xv_callS3R (m_isIn_f n c _ J (hy)) fX11_wire_14 YX11_isIn VX11_isIn lX11_126 rfl (Nat.le_of_ble_eq_true rfl) (by decide) (by decide) (by decide) ?_
    refine xv_if_eq fX11_wire_17 (fun h_17 => ?_) (fun h_17 => ?_)
    · refine xv_k fX11_wire_24 ?_
      refine xv_is3 fX11_wire_25 ?_
      refine xv_k fX11_wire_26 ?_
      refine xv_is4 fX11_wire_27 ?_
      refine xv_al0 fX11_wire_29 ?_
      refine xv_getI fX11_wire_30 gX11_256 rfl (sx_60 _ _) ?_
      refine xv_k fX11_wire_33 ?_
      refine xv_isub fX11_wire_34 ?_
      refine xv_is5 fX11_wire_35 ?_
      refine xv_il5 fX11_wire_37 ?_
      refine xv_if_lt fX11_wire_39 (fun h_39 => ?_) (fun h_39 => ?_)
      · refine xv_al0 fX11_wire_100 ?_
        refine xv_il3 fX11_wire_101 ?_
        refine xv_if_ne fX11_wire_102 (fun h_102 => ?_) (fun h_102 => ?_)
        · exact absurd h_102 (by decide)
        · refine xv_k fX11_wire_105 ?_
          refine xv_goto fX11_wire_106 ?_
          refine xv_callV1R (m_fails1 n c _ J) fX11_wire_129 YX11_fails VX11_fails lX11_137 rfl rfl (sx_60 _ _) (Nat.le_of_ble_eq_true rfl) (by decide) (by decide) (by decide) ?_
          refine xv_if_eq fX11_wire_132 (fun h_132 => ?_) (fun h_132 => ?_)
          · exact absurd h_132 (by decide)
          · refine xv_k fX11_wire_135 ?_
            exact xv_iret fX11_wire_136 rfl rfl xv_eq_i
      · refine xv_il3 fX11_wire_42 ?_
        refine xv_if_eq fX11_wire_43 (fun h_43 => ?_) (fun h_43 => ?_)
        · refine xv_al0 fX11_wire_100 ?_
          refine xv_il3 fX11_wire_101 ?_
          refine xv_if_ne fX11_wire_102 (fun h_102 => ?_) (fun h_102 => ?_)
          · exact absurd h_102 (by decide)
          · refine xv_k fX11_wire_105 ?_
            refine xv_goto fX11_wire_106 ?_
            refine xv_callV1R (m_fails1 n c _ J) fX11_wire_129 YX11_fails VX11_fails lX11_137 rfl rfl (sx_60 _ _) (Nat.le_of_ble_eq_true rfl) (by decide) (by decide) (by decide) ?_
            refine xv_if_eq fX11_wire_132 (fun h_132 => ?_) (fun h_132 => ?_)
            · exact absurd h_132 (by decide)
            · refine xv_k fX11_wire_135 ?_
              exact xv_iret fX11_wire_136 rfl rfl xv_eq_i
        · exact absurd h_43 (by decide)
    · exact absurd h_17 (by decide)

theorem l_mwire (n : Nat) (c : Nat × Nat) (I : xv_I) (J : xv_J) {Q : xv_Q} {x y : Int32} {w : Nat} (hw : w ≤ 12) : ∀ (m : Nat) (s : Int32) (l6 : Option Value), m ≤ w → mFnd (mAlike I x) w m s → (∀ s l6, mFnd (mAlike I x) w 0 s → xv_W mX11_wire 8 0 0 Q 0 0 (sx n c) I (rx c) J 100 (some (.ref 60) :: some (.int x) :: some (.int y) :: some (.int (nI 1)) :: some (.int s) :: some (.int (-1)) :: l6 :: []) []) → xv_W mX11_wire 8 0 0 Q 0 0 (sx n c) I (rx c) J 37 (some (.ref 60) :: some (.int x) :: some (.int y) :: some (.int (nI 1)) :: some (.int s) :: some (.int (nI m + -1)) :: l6 :: []) [] := by
  intro m
  induction m with
  | zero =>
    intro s l6 hm i0 i1
    show xv_W mX11_wire 8 0 0 _ 0 0 (sx n c) I (rx c) J 37 (some (.ref 60) :: some (.int x) :: some (.int y) :: some (.int (nI 1)) :: some (.int s) :: some (.int (-1)) :: l6 :: []) []
    refine xv_il5 fX11_wire_37 ?_
    refine xv_if_lt fX11_wire_39 (fun h_39 => ?_) (fun h_39 => ?_)
    · exact i1 s _ i0
    · exact absurd (by decide) h_39
  | succ m ih =>
    intro s l6 hm i0 i1
    show xv_W mX11_wire 8 0 0 _ 0 0 (sx n c) I (rx c) J 37 (some (.ref 60) :: some (.int x) :: some (.int y) :: some (.int (nI 1)) :: some (.int s) :: some (.int (nI (m + 1) + -1)) :: l6 :: []) []
    rw [show nI (m + 1) + -1 = nI m from nI_decr (Nat.succ_le_succ (Nat.zero_le m))]
    refine xv_il5 fX11_wire_37 ?_
    refine xv_if_lt fX11_wire_39 (fun h_39 => ?_) (fun h_39 => ?_)
    · exact absurd h_39 (nI_pos (by omega))
    · refine xv_il3 fX11_wire_42 ?_
      refine xv_if_eq fX11_wire_43 (fun h_43 => ?_) (fun h_43 => ?_)
      · exact absurd h_43 (by decide)
      · refine xv_il1 fX11_wire_46 ?_
        refine xv_al0 fX11_wire_47 ?_
        refine xv_getR fX11_wire_48 gX11_101 rfl (sx_60 _ _) (rx_60_39 _) ?_
        refine xv_il5 fX11_wire_51 ?_
        refine xv_ialdN fX11_wire_53 (sx_91 _ _) (⟨by omega, by decide⟩) ?_
        refine xv_iand fX11_wire_54 ?_
        refine xv_callS1R (m_size n c _ J _) fX11_wire_55 YX11_size VX11_size lX11_179 rfl (Nat.le_of_ble_eq_true rfl) (by decide) (by decide) (by decide) ?_
        refine xv_is6 fX11_wire_58 ?_
        refine xv_il6 fX11_wire_60 ?_
        refine xv_k fX11_wire_62 ?_
        refine xv_ic_lt fX11_wire_63 (fun h_63 => ?_) (fun h_63 => ?_)
        · refine xv_il4 fX11_wire_90 ?_
          refine xv_is4 fX11_wire_92 ?_
          refine xv_iinc5 (v := -1) fX11_wire_94 (by decide) ?_
          refine xv_goto fX11_wire_97 ?_
          exact ih _ _ (by omega) (mFnd_f (fun h => h.1 h_63) i0) i1
        · refine xv_k fX11_wire_66 ?_
          refine xv_il6 fX11_wire_67 ?_
          refine xv_imul fX11_wire_69 ?_
          refine xv_il1 fX11_wire_70 ?_
          refine xv_al0 fX11_wire_71 ?_
          refine xv_getR fX11_wire_72 gX11_101 rfl (sx_60 _ _) (rx_60_39 _) ?_
          refine xv_il5 fX11_wire_75 ?_
          refine xv_ialdN fX11_wire_77 (sx_91 _ _) (⟨by omega, by decide⟩) ?_
          refine xv_ior fX11_wire_78 ?_
          refine xv_callS1R (m_size n c _ J _) fX11_wire_79 YX11_size VX11_size lX11_179 rfl (Nat.le_of_ble_eq_true rfl) (by decide) (by decide) (by decide) ?_
          refine xv_ic_lt fX11_wire_82 (fun h_82 => ?_) (fun h_82 => ?_)
          · refine xv_il4 fX11_wire_90 ?_
            refine xv_is4 fX11_wire_92 ?_
            refine xv_iinc5 (v := -1) fX11_wire_94 (by decide) ?_
            refine xv_goto fX11_wire_97 ?_
            exact ih _ _ (by omega) (mFnd_f (fun h => h.2 h_82) i0) i1
          · refine xv_il5 fX11_wire_85 ?_
            refine xv_goto fX11_wire_87 ?_
            refine xv_is4 fX11_wire_92 ?_
            refine xv_iinc5 (v := -1) fX11_wire_94 (by decide) ?_
            refine xv_goto fX11_wire_97 ?_
            exact ih _ _ (by omega) (mFnd_t (by omega) ⟨h_63, h_82⟩) i1

def mMerge (i : Nat) (x y : Int32) (I : xv_I) : xv_I := xv_u (xv_u I 91 i (I 91 i ||| x)) 92 i (if y ≤ I 92 i then I 92 i else y)
theorem m_wire_old (n : Nat) (c : Nat × Nat) (I : xv_I) (J : xv_J) {x y : Int32} {w : Nat} (hw : w ≤ 12) (hc : I 60 38 = nI w) (hx : okR 0 65535 x) (hy : okR 0 9 y) {k : Nat} (hk : k < w) (hal : fsP (mAlike I x) w = nI k) : xv_Met mX11_wire 8 0 0 (sx n c) I (rx c) J [.ref 60, .int x, .int y] (xv_eq (.inl (some (.int (nI k)))) (sx n c) (mMerge k x y (xv_u I 60 48 (nI 0))) (rx c) J) := by
  refine xv_Met.of (by decide +kernel) (Nat.le_of_ble_eq_true rfl) (List.forall_mem_cons.mpr ⟨rfl, List.forall_mem_cons.mpr ⟨rfl, List.forall_mem_cons.mpr ⟨rfl, fun _ h => nomatch h⟩⟩⟩) ?_
  show xv_W mX11_wire 8 0 0 _ 0 0 (sx n c) I (rx c) J 0 [some (.ref 60), some (.int x), some (.int y), none, none, none, none] []
  refine xv_il1 fX11_wire_0 ?_
  refine xv_k fX11_wire_1 ?_
  refine xv_kl fX11_wire_2 cwX11_255 ?_
  refine xv_callS3R (m_isIn_t n c _ J (hx).1 (hx).2) fX11_wire_4 YX11_isIn VX11_isIn lX11_126 rfl (Nat.le_of_ble_eq_true rfl) (by decide) (by decide) (by decide) ?_
  refine xv_if_eq fX11_wire_7 (fun h_7 => ?_) (fun h_7 => ?_)
  · exact absurd h_7 (by decide)
  · refine xv_il2 fX11_wire_10 ?_
    refine xv_k fX11_wire_11 ?_
    refine xv_k fX11_wire_12 ?_
    refine xv_callS3R (m_isIn_t n c _ J (hy).1 (hy).2) fX11_wire_14 YX11_isIn VX11_isIn lX11_126 rfl (Nat.le_of_ble_eq_true rfl) (by decide) (by decide) (by decide) ?_
    refine xv_if_eq fX11_wire_17 (fun h_17 => ?_) (fun h_17 => ?_)
    · exact absurd h_17 (by decide)
    · refine xv_k fX11_wire_20 ?_
      refine xv_goto fX11_wire_21 ?_
      refine xv_is3 fX11_wire_25 ?_
      refine xv_k fX11_wire_26 ?_
      refine xv_is4 fX11_wire_27 ?_
      refine xv_al0 fX11_wire_29 ?_
      refine xv_getI fX11_wire_30 gX11_256 rfl (sx_60 _ _) ?_
      rw [hc]
      refine xv_k fX11_wire_33 ?_
      refine xv_isub fX11_wire_34 ?_
      rw [nI_m1]
      refine xv_is5 fX11_wire_35 ?_
      refine l_mwire n c I J hw w (-1) none (Nat.le_refl _) (mFnd_N _ _) (fun s l6 hs => ?_)
      obtain rfl := mFnd_fs hs
      rw [hal]
      refine xv_al0 fX11_wire_100 ?_
      refine xv_il3 fX11_wire_101 ?_
      refine xv_if_ne fX11_wire_102 (fun h_102 => ?_) (fun h_102 => ?_)
      · refine xv_il4 fX11_wire_109 ?_
        refine xv_k fX11_wire_111 ?_
        refine xv_ic_ne fX11_wire_112 (fun h_112 => ?_) (fun h_112 => ?_)
        · refine xv_k fX11_wire_128 ?_
          refine xv_callV1R (m_fails0 n c _ J) fX11_wire_129 YX11_fails VX11_fails lX11_137 rfl rfl (sx_60 _ _) (Nat.le_of_ble_eq_true rfl) (by decide) (by decide) (by decide) ?_
          refine xv_if_eq fX11_wire_132 (fun h_132 => ?_) (fun h_132 => ?_)
          · refine xv_il4 fX11_wire_137 ?_
            refine xv_k fX11_wire_139 ?_
            refine xv_ic_eq fX11_wire_140 (fun h_140 => ?_) (fun h_140 => ?_)
            · exact absurd h_140 (nI_nm1 (by omega))
            · refine xv_al0 fX11_wire_143 ?_
              refine xv_getR fX11_wire_144 gX11_101 rfl (sx_60 _ _) (rx_60_39 _) ?_
              refine xv_il4 fX11_wire_147 ?_
              refine xv_dup2 fX11_wire_149 ?_
              refine xv_ialdN fX11_wire_150 (sx_91 _ _) (⟨by omega, by decide⟩) ?_
              rw [xv_u_ne _ _ _ (by decide)]
              refine xv_il1 fX11_wire_151 ?_
              refine xv_ior fX11_wire_152 ?_
              refine xv_iastN fX11_wire_153 (sx_91 _ _) (⟨by omega, by decide⟩) ?_
              refine xv_al0 fX11_wire_154 ?_
              refine xv_getR fX11_wire_155 gX11_104 rfl (sx_60 _ _) (rx_60_40 _) ?_
              refine xv_il4 fX11_wire_158 ?_
              refine xv_il2 fX11_wire_160 ?_
              refine xv_al0 fX11_wire_161 ?_
              refine xv_getR fX11_wire_162 gX11_104 rfl (sx_60 _ _) (rx_60_40 _) ?_
              refine xv_il4 fX11_wire_165 ?_
              refine xv_ialdN fX11_wire_167 (sx_92 _ _) (⟨by omega, by decide⟩) ?_
              rw [xv_u_ne _ _ _ (by decide), xv_u_ne _ _ _ (by decide)]
              refine xv_ic_le fX11_wire_168 (fun h_168 => ?_) (fun h_168 => ?_)
              · refine xv_al0 fX11_wire_175 ?_
                refine xv_getR fX11_wire_176 gX11_104 rfl (sx_60 _ _) (rx_60_40 _) ?_
                refine xv_il4 fX11_wire_179 ?_
                refine xv_ialdN fX11_wire_181 (sx_92 _ _) (⟨by omega, by decide⟩) ?_
                rw [xv_u_ne _ _ _ (by decide), xv_u_ne _ _ _ (by decide)]
                refine xv_iastN fX11_wire_182 (sx_92 _ _) (⟨by omega, by decide⟩) ?_
                refine xv_il4 fX11_wire_183 ?_
                exact xv_iret fX11_wire_185 rfl rfl (xv_eq_I rfl (by rw [mMerge, xv_u_ne _ _ _ (by decide), xv_u_ne _ _ _ (by decide), if_pos h_168]))
              · refine xv_il2 fX11_wire_171 ?_
                refine xv_goto fX11_wire_172 ?_
                refine xv_iastN fX11_wire_182 (sx_92 _ _) (⟨by omega, by decide⟩) ?_
                refine xv_il4 fX11_wire_183 ?_
                exact xv_iret fX11_wire_185 rfl rfl (xv_eq_I rfl (by rw [mMerge, xv_u_ne _ _ _ (by decide), xv_u_ne _ _ _ (by decide), if_neg h_168]))
          · exact absurd h_132 (by decide)
        · exact absurd h_112 (nI_nm1 (by omega))
      · exact absurd h_102 (by decide)

theorem m_wire_c (n : Nat) (c : Nat × Nat) (I : xv_I) (J : xv_J) {x y : Int32} {w : Nat} (hw : w ≤ 12) (hc : I 60 38 = nI w) (hx : okR 0 65535 x) (hy : okR 0 9 y) (hal : fsP (mAlike I x) w = -1) (hw2 : w = 12) : xv_Met mX11_wire 8 0 0 (sx n c) I (rx c) J [.ref 60, .int x, .int y] (xv_eq (.inl (some (.int (nI 0)))) (sx n c) (xv_u I 60 48 (nI 2)) (rx c) J) := by
  refine xv_Met.of (by decide +kernel) (Nat.le_of_ble_eq_true rfl) (List.forall_mem_cons.mpr ⟨rfl, List.forall_mem_cons.mpr ⟨rfl, List.forall_mem_cons.mpr ⟨rfl, fun _ h => nomatch h⟩⟩⟩) ?_
  show xv_W mX11_wire 8 0 0 _ 0 0 (sx n c) I (rx c) J 0 [some (.ref 60), some (.int x), some (.int y), none, none, none, none] []
  refine xv_il1 fX11_wire_0 ?_
  refine xv_k fX11_wire_1 ?_
  refine xv_kl fX11_wire_2 cwX11_255 ?_
  refine xv_callS3R (m_isIn_t n c _ J (hx).1 (hx).2) fX11_wire_4 YX11_isIn VX11_isIn lX11_126 rfl (Nat.le_of_ble_eq_true rfl) (by decide) (by decide) (by decide) ?_
  refine xv_if_eq fX11_wire_7 (fun h_7 => ?_) (fun h_7 => ?_)
  · exact absurd h_7 (by decide)
  · refine xv_il2 fX11_wire_10 ?_
    refine xv_k fX11_wire_11 ?_
    refine xv_k fX11_wire_12 ?_
    refine xv_callS3R (m_isIn_t n c _ J (hy).1 (hy).2) fX11_wire_14 YX11_isIn VX11_isIn lX11_126 rfl (Nat.le_of_ble_eq_true rfl) (by decide) (by decide) (by decide) ?_
    refine xv_if_eq fX11_wire_17 (fun h_17 => ?_) (fun h_17 => ?_)
    · exact absurd h_17 (by decide)
    · refine xv_k fX11_wire_20 ?_
      refine xv_goto fX11_wire_21 ?_
      refine xv_is3 fX11_wire_25 ?_
      refine xv_k fX11_wire_26 ?_
      refine xv_is4 fX11_wire_27 ?_
      refine xv_al0 fX11_wire_29 ?_
      refine xv_getI fX11_wire_30 gX11_256 rfl (sx_60 _ _) ?_
      rw [hc]
      refine xv_k fX11_wire_33 ?_
      refine xv_isub fX11_wire_34 ?_
      rw [nI_m1]
      refine xv_is5 fX11_wire_35 ?_
      refine l_mwire n c I J hw w (-1) none (Nat.le_refl _) (mFnd_N _ _) (fun s l6 hs => ?_)
      obtain rfl := mFnd_fs hs
      rw [hal]
      refine xv_al0 fX11_wire_100 ?_
      refine xv_il3 fX11_wire_101 ?_
      refine xv_if_ne fX11_wire_102 (fun h_102 => ?_) (fun h_102 => ?_)
      · refine xv_il4 fX11_wire_109 ?_
        refine xv_k fX11_wire_111 ?_
        refine xv_ic_ne fX11_wire_112 (fun h_112 => ?_) (fun h_112 => ?_)
        · exact absurd rfl h_112
        · refine xv_al0 fX11_wire_115 ?_
          refine xv_getI fX11_wire_116 gX11_256 rfl (sx_60 _ _) ?_
          rw [hc]
          refine xv_k fX11_wire_119 ?_
          refine xv_ic_ne fX11_wire_121 (fun h_121 => ?_) (fun h_121 => ?_)
          · exact absurd h_121 (fun q => q (by rw [hw2]))
          · refine xv_k fX11_wire_124 ?_
            refine xv_goto fX11_wire_125 ?_
            refine xv_callV1R (m_fails2 n c _ J) fX11_wire_129 YX11_fails VX11_fails lX11_137 rfl rfl (sx_60 _ _) (Nat.le_of_ble_eq_true rfl) (by decide) (by decide) (by decide) ?_
            refine xv_if_eq fX11_wire_132 (fun h_132 => ?_) (fun h_132 => ?_)
            · exact absurd h_132 (by decide)
            · refine xv_k fX11_wire_135 ?_
              exact xv_iret fX11_wire_136 rfl rfl xv_eq_i
      · exact absurd h_102 (by decide)

theorem m_wire_new (n : Nat) (c : Nat × Nat) (I : xv_I) (J : xv_J) {x y : Int32} {w : Nat} (hw : w ≤ 12) (hc : I 60 38 = nI w) (hx : okR 0 65535 x) (hy : okR 0 9 y) (hal : fsP (mAlike I x) w = -1) (hw2 : w < 12) : xv_Met mX11_wire 8 0 0 (sx n c) I (rx c) J [.ref 60, .int x, .int y] (xv_eq (.inl (some (.int (nI w)))) (sx n c) (xv_u (xv_u (xv_u (xv_u I 60 48 (nI 0)) 91 w x) 92 w y) 60 38 (nI (w + 1))) (rx c) J) := by
  refine xv_Met.of (by decide +kernel) (Nat.le_of_ble_eq_true rfl) (List.forall_mem_cons.mpr ⟨rfl, List.forall_mem_cons.mpr ⟨rfl, List.forall_mem_cons.mpr ⟨rfl, fun _ h => nomatch h⟩⟩⟩) ?_
  show xv_W mX11_wire 8 0 0 _ 0 0 (sx n c) I (rx c) J 0 [some (.ref 60), some (.int x), some (.int y), none, none, none, none] []
  refine xv_il1 fX11_wire_0 ?_
  refine xv_k fX11_wire_1 ?_
  refine xv_kl fX11_wire_2 cwX11_255 ?_
  refine xv_callS3R (m_isIn_t n c _ J (hx).1 (hx).2) fX11_wire_4 YX11_isIn VX11_isIn lX11_126 rfl (Nat.le_of_ble_eq_true rfl) (by decide) (by decide) (by decide) ?_
  refine xv_if_eq fX11_wire_7 (fun h_7 => ?_) (fun h_7 => ?_)
  · exact absurd h_7 (by decide)
  · refine xv_il2 fX11_wire_10 ?_
    refine xv_k fX11_wire_11 ?_
    refine xv_k fX11_wire_12 ?_
    refine xv_callS3R (m_isIn_t n c _ J (hy).1 (hy).2) fX11_wire_14 YX11_isIn VX11_isIn lX11_126 rfl (Nat.le_of_ble_eq_true rfl) (by decide) (by decide) (by decide) ?_
    refine xv_if_eq fX11_wire_17 (fun h_17 => ?_) (fun h_17 => ?_)
    · exact absurd h_17 (by decide)
    · refine xv_k fX11_wire_20 ?_
      refine xv_goto fX11_wire_21 ?_
      refine xv_is3 fX11_wire_25 ?_
      refine xv_k fX11_wire_26 ?_
      refine xv_is4 fX11_wire_27 ?_
      refine xv_al0 fX11_wire_29 ?_
      refine xv_getI fX11_wire_30 gX11_256 rfl (sx_60 _ _) ?_
      rw [hc]
      refine xv_k fX11_wire_33 ?_
      refine xv_isub fX11_wire_34 ?_
      rw [nI_m1]
      refine xv_is5 fX11_wire_35 ?_
      refine l_mwire n c I J hw w (-1) none (Nat.le_refl _) (mFnd_N _ _) (fun s l6 hs => ?_)
      obtain rfl := mFnd_fs hs
      rw [hal]
      refine xv_al0 fX11_wire_100 ?_
      refine xv_il3 fX11_wire_101 ?_
      refine xv_if_ne fX11_wire_102 (fun h_102 => ?_) (fun h_102 => ?_)
      · refine xv_il4 fX11_wire_109 ?_
        refine xv_k fX11_wire_111 ?_
        refine xv_ic_ne fX11_wire_112 (fun h_112 => ?_) (fun h_112 => ?_)
        · exact absurd rfl h_112
        · refine xv_al0 fX11_wire_115 ?_
          refine xv_getI fX11_wire_116 gX11_256 rfl (sx_60 _ _) ?_
          rw [hc]
          refine xv_k fX11_wire_119 ?_
          refine xv_ic_ne fX11_wire_121 (fun h_121 => ?_) (fun h_121 => ?_)
          · refine xv_k fX11_wire_128 ?_
            refine xv_callV1R (m_fails0 n c _ J) fX11_wire_129 YX11_fails VX11_fails lX11_137 rfl rfl (sx_60 _ _) (Nat.le_of_ble_eq_true rfl) (by decide) (by decide) (by decide) ?_
            refine xv_if_eq fX11_wire_132 (fun h_132 => ?_) (fun h_132 => ?_)
            · refine xv_il4 fX11_wire_137 ?_
              refine xv_k fX11_wire_139 ?_
              refine xv_ic_eq fX11_wire_140 (fun h_140 => ?_) (fun h_140 => ?_)
              · refine xv_al0 fX11_wire_186 ?_
                refine xv_getR fX11_wire_187 gX11_101 rfl (sx_60 _ _) (rx_60_39 _) ?_
                refine xv_al0 fX11_wire_190 ?_
                refine xv_getI fX11_wire_191 gX11_256 rfl (sx_60 _ _) ?_
                refine xv_eqi (y := nI w) (by simp [xv_u, hc]) ?_
                refine xv_il1 fX11_wire_194 ?_
                refine xv_iastN fX11_wire_195 (sx_91 _ _) (⟨by omega, by decide⟩) ?_
                refine xv_al0 fX11_wire_196 ?_
                refine xv_getR fX11_wire_197 gX11_104 rfl (sx_60 _ _) (rx_60_40 _) ?_
                refine xv_al0 fX11_wire_200 ?_
                refine xv_getI fX11_wire_201 gX11_256 rfl (sx_60 _ _) ?_
                refine xv_eqi (y := nI w) (by simp [xv_u, hc]) ?_
                refine xv_il2 fX11_wire_204 ?_
                refine xv_iastN fX11_wire_205 (sx_92 _ _) (⟨by omega, by decide⟩) ?_
                refine xv_al0 fX11_wire_206 ?_
                refine xv_dup_r fX11_wire_207 ?_
                refine xv_getI fX11_wire_208 gX11_256 rfl (sx_60 _ _) ?_
                refine xv_eqi (y := nI w) (by simp [xv_u, hc]) ?_
                refine xv_k fX11_wire_211 ?_
                refine xv_iadd fX11_wire_212 ?_
                rw [nI_add]
                refine xv_putI fX11_wire_213 gX11_256 rfl (tp11_38 _) (sx_60 _ _) ⟨rfl, rfl⟩ ?_
                refine xv_al0 fX11_wire_216 ?_
                refine xv_getI fX11_wire_217 gX11_256 rfl (sx_60 _ _) ?_
                rw [xv_u_eq]
                refine xv_k fX11_wire_220 ?_
                refine xv_isub fX11_wire_221 ?_
                rw [show nI (w + 1) - nI 1 = nI w from nI_sub (Nat.succ_le_succ (Nat.zero_le _))]
                exact xv_iret fX11_wire_222 rfl rfl xv_eq_i
              · exact absurd rfl h_140
            · exact absurd h_132 (by decide)
          · exact absurd h_121 (nI_ne2 (by omega) (by omega) (by decide))
      · exact absurd h_102 (by decide)

def mUrg1 (I : xv_I) (k b : Nat) : Nat := if I 92 k ≤ I 92 b then b else k
def mUrg (I : xv_I) (w : Nat) : Nat := it (mUrg1 I) (w - 1) 1 0
theorem mUrg_lt {I : xv_I} {w : Nat} : ∀ (m k b : Nat), b < k → k + m ≤ w → 0 < w → it (mUrg1 I) m k b < w
  | 0, k, b, h1, h2, h3 => by show b < w; omega
  | m + 1, k, b, h1, h2, h3 => by
    refine mUrg_lt m (k + 1) (mUrg1 I k b) ?_ (by omega) h3
    unfold mUrg1
    split <;> omega
def mRs1 (k : Nat) (I : xv_I) : xv_I := xv_u (xv_u I 91 k (I 91 (k + 1))) 92 k (I 92 (k + 1))
def mRem (w i : Nat) (I : xv_I) : xv_I := it mRs1 (w - 1 - i) i (xv_u I 60 38 (nI (w - 1)))
theorem mUrg_t (I : xv_I) (z : Int32) (w : Nat) : it (mUrg1 (xv_u I 60 48 z)) (w - 1) 1 0 = mUrg I w := by
  unfold mUrg
  congr 1
theorem m_take_a2 (n : Nat) (c : Nat × Nat) (I : xv_I) (J : xv_J) (hc : I 60 38 = 0) : xv_Met mX11_take 8 0 0 (sx n c) I (rx c) J [.ref 60] (xv_eq (.inl (some (.int (nI 0)))) (sx n c) (xv_u I 60 48 (nI 1)) (rx c) J) := by
  refine xv_Met.of (by decide +kernel) (Nat.le_of_ble_eq_true rfl) (List.forall_mem_cons.mpr ⟨rfl, fun _ h => nomatch h⟩) ?_
  show xv_W mX11_take 8 0 0 _ 0 0 (sx n c) I (rx c) J 0 [some (.ref 60), none, none, none] []
  refine xv_al0 fX11_take_0 ?_
  refine xv_al0 fX11_take_1 ?_
  refine xv_getI fX11_take_2 gX11_256 rfl (sx_60 _ _) ?_
  refine xv_if_ne fX11_take_5 (fun h_5 => ?_) (fun h_5 => ?_)
  · exact absurd hc h_5
  · refine xv_k fX11_take_8 ?_
    refine xv_goto fX11_take_9 ?_
    refine xv_callV1R (m_fails1 n c _ J) fX11_take_13 YX11_fails VX11_fails lX11_137 rfl rfl (sx_60 _ _) (Nat.le_of_ble_eq_true rfl) (by decide) (by decide) (by decide) ?_
    refine xv_if_eq fX11_take_16 (fun h_16 => ?_) (fun h_16 => ?_)
    · exact absurd h_16 (by decide)
    · refine xv_k fX11_take_19 ?_
      exact xv_iret fX11_take_20 rfl rfl xv_eq_i

theorem l_murg (n : Nat) (c : Nat × Nat) (I : xv_I) (J : xv_J) {w : Nat} (hw : w ≤ 12) (hc : I 60 38 = nI w) {Q : xv_Q} : ∀ (m k : Nat) (b : Nat), k + m = w → (b < k) → xv_W mX11_take 8 0 0 Q 0 0 (sx n c) I (rx c) J 60 (some (.ref 60) :: some (.int (nI (it (mUrg1 I) m k b))) :: some (.int (nI w)) :: none :: []) [] → xv_W mX11_take 8 0 0 Q 0 0 (sx n c) I (rx c) J 25 (some (.ref 60) :: some (.int (nI b)) :: some (.int (nI k)) :: none :: []) [] := by
  intro m
  induction m with
  | zero =>
    intro k b hm i0 hx
    obtain rfl : k = w := by omega
    refine xv_il2 fX11_take_25 ?_
    refine xv_al0 fX11_take_26 ?_
    refine xv_getI fX11_take_27 gX11_256 rfl (sx_60 _ _) ?_
    rw [hc]
    refine xv_ic_ge fX11_take_30 (fun h_30 => ?_) (fun h_30 => ?_)
    · exact hx
    · exact absurd (nI_le (Nat.le_refl _) (by omega)) h_30
  | succ m ih =>
    intro k b hm i0 hx
    have hk : k < w := by omega
    show xv_W mX11_take 8 0 0 _ 0 0 (sx n c) I (rx c) J 25 (some (.ref 60) :: some (.int (nI b)) :: some (.int (nI k)) :: none :: []) []
    refine xv_il2 fX11_take_25 ?_
    refine xv_al0 fX11_take_26 ?_
    refine xv_getI fX11_take_27 gX11_256 rfl (sx_60 _ _) ?_
    rw [hc]
    refine xv_ic_ge fX11_take_30 (fun h_30 => ?_) (fun h_30 => ?_)
    · exact absurd h_30 (nI_ge hk (by omega))
    · refine xv_al0 fX11_take_33 ?_
      refine xv_getR fX11_take_34 gX11_104 rfl (sx_60 _ _) (rx_60_40 _) ?_
      refine xv_il2 fX11_take_37 ?_
      refine xv_ialdN fX11_take_38 (sx_92 _ _) (⟨by omega, by decide⟩) ?_
      refine xv_al0 fX11_take_39 ?_
      refine xv_getR fX11_take_40 gX11_104 rfl (sx_60 _ _) (rx_60_40 _) ?_
      refine xv_il1 fX11_take_43 ?_
      refine xv_ialdN fX11_take_44 (sx_92 _ _) (⟨by omega, by decide⟩) ?_
      refine xv_ic_le fX11_take_45 (fun h_45 => ?_) (fun h_45 => ?_)
      · refine xv_il1 fX11_take_52 ?_
        refine xv_is1 fX11_take_53 ?_
        refine xv_iincN2 (a := 1) fX11_take_54 (by decide) ?_
        refine xv_goto fX11_take_57 ?_
        exact ih (k + 1) b (by omega) (by omega) (by rw [show it (mUrg1 I) (m + 1) k b = it (mUrg1 I) m (k + 1) (mUrg1 I k b) from rfl, mUrg1, if_pos h_45] at hx; exact hx)
      · refine xv_il2 fX11_take_48 ?_
        refine xv_goto fX11_take_49 ?_
        refine xv_is1 fX11_take_53 ?_
        refine xv_iincN2 (a := 1) fX11_take_54 (by decide) ?_
        refine xv_goto fX11_take_57 ?_
        exact ih (k + 1) k (by omega) (by omega) (by rw [show it (mUrg1 I) (m + 1) k b = it (mUrg1 I) m (k + 1) (mUrg1 I k b) from rfl, mUrg1, if_neg h_45] at hx; exact hx)

theorem l_mrem (n : Nat) (c : Nat × Nat) (J : xv_J) {u w : Nat} {x : Int32} (hw : w ≤ 12) {Q : xv_Q} : ∀ (m k : Nat) (I : xv_I), k + m = w - 1 → (I 60 38 = nI (w - 1)) → xv_W mX11_take 8 0 0 Q 0 0 (sx n c) (it mRs1 m k I) (rx c) J 121 (some (.ref 60) :: some (.int (nI u)) :: some (.int x) :: some (.int (nI (w - 1))) :: []) [] → xv_W mX11_take 8 0 0 Q 0 0 (sx n c) I (rx c) J 79 (some (.ref 60) :: some (.int (nI u)) :: some (.int x) :: some (.int (nI k)) :: []) [] := by
  intro m
  induction m with
  | zero =>
    intro k I hm i0 hx
    obtain rfl : k = w - 1 := by omega
    refine xv_il3 fX11_take_79 ?_
    refine xv_al0 fX11_take_80 ?_
    refine xv_getI fX11_take_81 gX11_256 rfl (sx_60 _ _) ?_
    rw [i0]
    refine xv_ic_ge fX11_take_84 (fun h_84 => ?_) (fun h_84 => ?_)
    · exact hx
    · exact absurd (nI_le (Nat.le_refl _) (by omega)) h_84
  | succ m ih =>
    intro k I hm i0 hx
    have hk : k < w - 1 := by omega
    show xv_W mX11_take 8 0 0 _ 0 0 (sx n c) I (rx c) J 79 (some (.ref 60) :: some (.int (nI u)) :: some (.int x) :: some (.int (nI k)) :: []) []
    refine xv_il3 fX11_take_79 ?_
    refine xv_al0 fX11_take_80 ?_
    refine xv_getI fX11_take_81 gX11_256 rfl (sx_60 _ _) ?_
    rw [i0]
    refine xv_ic_ge fX11_take_84 (fun h_84 => ?_) (fun h_84 => ?_)
    · exact absurd h_84 (nI_ge hk (by omega))
    · refine xv_al0 fX11_take_87 ?_
      refine xv_getR fX11_take_88 gX11_101 rfl (sx_60 _ _) (rx_60_39 _) ?_
      refine xv_il3 fX11_take_91 ?_
      refine xv_al0 fX11_take_92 ?_
      refine xv_getR fX11_take_93 gX11_101 rfl (sx_60 _ _) (rx_60_39 _) ?_
      refine xv_il3 fX11_take_96 ?_
      refine xv_k fX11_take_97 ?_
      refine xv_iadd fX11_take_98 ?_
      rw [nI_add]
      refine xv_ialdN fX11_take_99 (sx_91 _ _) (⟨by omega, by decide⟩) ?_
      refine xv_iastN fX11_take_100 (sx_91 _ _) (⟨by omega, by decide⟩) ?_
      refine xv_al0 fX11_take_101 ?_
      refine xv_getR fX11_take_102 gX11_104 rfl (sx_60 _ _) (rx_60_40 _) ?_
      refine xv_il3 fX11_take_105 ?_
      refine xv_al0 fX11_take_106 ?_
      refine xv_getR fX11_take_107 gX11_104 rfl (sx_60 _ _) (rx_60_40 _) ?_
      refine xv_il3 fX11_take_110 ?_
      refine xv_k fX11_take_111 ?_
      refine xv_iadd fX11_take_112 ?_
      rw [nI_add]
      refine xv_ialdN fX11_take_113 (sx_92 _ _) (⟨by omega, by decide⟩) ?_
      rw [xv_u_ne _ _ _ (by decide)]
      refine xv_iastN fX11_take_114 (sx_92 _ _) (⟨by omega, by decide⟩) ?_
      refine xv_iincN3 (a := 1) fX11_take_115 (by decide) ?_
      refine xv_goto fX11_take_118 ?_
      exact ih (k + 1) (mRs1 k I) (by omega) (((xv_u_ne _ _ _ (by decide)).trans (xv_u_ne _ _ _ (by decide))).trans i0) hx

theorem m_take_ok2 (n : Nat) (c : Nat × Nat) (I : xv_I) (J : xv_J) {w : Nat} (hw : w ≤ 12) (hc : I 60 38 = nI w) (hw1 : 0 < w) : xv_Met mX11_take 8 0 0 (sx n c) I (rx c) J [.ref 60] (xv_eq (.inl (some (.int (I 91 (mUrg I w))))) (sx n c) (mRem w (mUrg I w) (xv_u I 60 48 (nI 0))) (rx c) J) := by
  refine xv_Met.of (by decide +kernel) (Nat.le_of_ble_eq_true rfl) (List.forall_mem_cons.mpr ⟨rfl, fun _ h => nomatch h⟩) ?_
  show xv_W mX11_take 8 0 0 _ 0 0 (sx n c) I (rx c) J 0 [some (.ref 60), none, none, none] []
  refine xv_al0 fX11_take_0 ?_
  refine xv_al0 fX11_take_1 ?_
  refine xv_getI fX11_take_2 gX11_256 rfl (sx_60 _ _) ?_
  rw [hc]
  refine xv_if_ne fX11_take_5 (fun h_5 => ?_) (fun h_5 => ?_)
  · refine xv_k fX11_take_12 ?_
    refine xv_callV1R (m_fails0 n c _ J) fX11_take_13 YX11_fails VX11_fails lX11_137 rfl rfl (sx_60 _ _) (Nat.le_of_ble_eq_true rfl) (by decide) (by decide) (by decide) ?_
    refine xv_if_eq fX11_take_16 (fun h_16 => ?_) (fun h_16 => ?_)
    · refine xv_k fX11_take_21 ?_
      refine xv_is1 fX11_take_22 ?_
      refine xv_k fX11_take_23 ?_
      refine xv_is2 fX11_take_24 ?_
      obtain hu : mUrg I w < w := mUrg_lt (w - 1) 1 0 (by decide) (by omega) hw1
      refine l_murg n c _ J hw ((xv_u_nk _ _ _ (by decide)).trans hc) (w - 1) 1 0 (by omega) (by decide) ?_
      rw [mUrg_t]
      refine xv_al0 fX11_take_60 ?_
      refine xv_getR fX11_take_61 gX11_101 rfl (sx_60 _ _) (rx_60_39 _) ?_
      refine xv_il1 fX11_take_64 ?_
      refine xv_ialdN fX11_take_65 (sx_91 _ _) (⟨by have := hu; omega, by decide⟩) ?_
      rw [xv_u_ne _ _ _ (by decide)]
      refine xv_is2 fX11_take_66 ?_
      refine xv_al0 fX11_take_67 ?_
      refine xv_dup_r fX11_take_68 ?_
      refine xv_getI fX11_take_69 gX11_256 rfl (sx_60 _ _) ?_
      rw [xv_u_nk _ _ _ (by decide), hc]
      refine xv_k fX11_take_72 ?_
      refine xv_isub fX11_take_73 ?_
      rw [nI_sub (show 1 ≤ w from hw1)]
      refine xv_putI fX11_take_74 gX11_256 rfl (tp11_38 _) (sx_60 _ _) ⟨rfl, rfl⟩ ?_
      refine xv_il1 fX11_take_77 ?_
      refine xv_is3 fX11_take_78 ?_
      refine l_mrem n c J hw (w - 1 - mUrg I w) (mUrg I w) _ (by omega) (xv_u_eq _ _ _ _) ?_
      exact xv_il2 fX11_take_121 (xv_iret fX11_take_122 rfl rfl (xv_eq_I rfl rfl))
    · exact absurd h_16 (by decide)
  · exact absurd h_5 (nI_n0 (by omega) (by omega))

theorem m_num_a (n : Nat) (c : Nat × Nat) (I : xv_I) (J : xv_J) {x y : Int32} (hx : x < nI 0 ∨ ¬ x ≤ nI 3) : xv_Met mX11_numbers 8 0 0 (sx n c) I (rx c) J [.ref 60, .int x, .int y] (xv_eq (.inl none) (sx n c) (xv_u I 60 48 (nI 1)) (rx c) J) := by
  refine xv_Met.of (by decide +kernel) (Nat.le_of_ble_eq_true rfl) (List.forall_mem_cons.mpr ⟨rfl, List.forall_mem_cons.mpr ⟨rfl, List.forall_mem_cons.mpr ⟨rfl, fun _ h => nomatch h⟩⟩⟩) ?_
  show xv_W mX11_numbers 8 0 0 _ 0 0 (sx n c) I (rx c) J 0 [some (.ref 60), some (.int x), some (.int y), none, none] []
  refine xv_il1 fX11_numbers_0 ?_
  refine xv_k fX11_numbers_1 ?_
  refine xv_k fX11_numbers_2 ?_
  refine xv_callS3R (m_isIn_f n c _ J (hx)) fX11_numbers_3 YX11_isIn VX11_isIn lX11_126 rfl (Nat.le_of_ble_eq_true rfl) (by decide) (by decide) (by decide) ?_
  refine xv_if_eq fX11_numbers_6 (fun h_6 => ?_) (fun h_6 => ?_)
  · refine xv_k fX11_numbers_24 ?_
    refine xv_is3 fX11_numbers_25 ?_
    refine xv_k fX11_numbers_26 ?_
    refine xv_is4 fX11_numbers_27 ?_
    refine xv_il4 fX11_numbers_29 ?_
    refine xv_k fX11_numbers_31 ?_
    refine xv_ic_ge fX11_numbers_33 (fun h_33 => ?_) (fun h_33 => ?_)
    · exact absurd h_33 (by decide)
    · refine xv_il3 fX11_numbers_36 ?_
      refine xv_if_eq fX11_numbers_37 (fun h_37 => ?_) (fun h_37 => ?_)
      · refine xv_al0 fX11_numbers_62 ?_
        refine xv_il3 fX11_numbers_63 ?_
        refine xv_if_eq fX11_numbers_64 (fun h_64 => ?_) (fun h_64 => ?_)
        · refine xv_k fX11_numbers_71 ?_
          refine xv_callV1R (m_fails1 n c _ J) fX11_numbers_72 YX11_fails VX11_fails lX11_137 rfl rfl (sx_60 _ _) (Nat.le_of_ble_eq_true rfl) (by decide) (by decide) (by decide) ?_
          refine xv_if_ne fX11_numbers_75 (fun h_75 => ?_) (fun h_75 => ?_)
          · exact xv_vret fX11_numbers_112 rfl xv_eq_i
          · exact absurd h_75 (by decide)
        · exact absurd h_64 (by decide)
      · exact absurd h_37 (by decide)
  · exact absurd h_6 (by decide)

theorem m_num_b (n : Nat) (c : Nat × Nat) (I : xv_I) (J : xv_J) {x y : Int32} (hx : okR 0 3 x) (hy : y < nI 0 ∨ ¬ y ≤ nI 4444) : xv_Met mX11_numbers 8 0 0 (sx n c) I (rx c) J [.ref 60, .int x, .int y] (xv_eq (.inl none) (sx n c) (xv_u I 60 48 (nI 1)) (rx c) J) := by
  refine xv_Met.of (by decide +kernel) (Nat.le_of_ble_eq_true rfl) (List.forall_mem_cons.mpr ⟨rfl, List.forall_mem_cons.mpr ⟨rfl, List.forall_mem_cons.mpr ⟨rfl, fun _ h => nomatch h⟩⟩⟩) ?_
  show xv_W mX11_numbers 8 0 0 _ 0 0 (sx n c) I (rx c) J 0 [some (.ref 60), some (.int x), some (.int y), none, none] []
  refine xv_il1 fX11_numbers_0 ?_
  refine xv_k fX11_numbers_1 ?_
  refine xv_k fX11_numbers_2 ?_
  refine xv_callS3R (m_isIn_t n c _ J (hx).1 (hx).2) fX11_numbers_3 YX11_isIn VX11_isIn lX11_126 rfl (Nat.le_of_ble_eq_true rfl) (by decide) (by decide) (by decide) ?_
  refine xv_if_eq fX11_numbers_6 (fun h_6 => ?_) (fun h_6 => ?_)
  · exact absurd h_6 (by decide)
  · refine xv_il2 fX11_numbers_9 ?_
    refine xv_k fX11_numbers_10 ?_
    refine xv_k fX11_numbers_11 ?_
    refine xv_callS3R (m_isIn_f n c _ J (hy)) fX11_numbers_14 YX11_isIn VX11_isIn lX11_126 rfl (Nat.le_of_ble_eq_true rfl) (by decide) (by decide) (by decide) ?_
    refine xv_if_eq fX11_numbers_17 (fun h_17 => ?_) (fun h_17 => ?_)
    · refine xv_k fX11_numbers_24 ?_
      refine xv_is3 fX11_numbers_25 ?_
      refine xv_k fX11_numbers_26 ?_
      refine xv_is4 fX11_numbers_27 ?_
      refine xv_il4 fX11_numbers_29 ?_
      refine xv_k fX11_numbers_31 ?_
      refine xv_ic_ge fX11_numbers_33 (fun h_33 => ?_) (fun h_33 => ?_)
      · exact absurd h_33 (by decide)
      · refine xv_il3 fX11_numbers_36 ?_
        refine xv_if_eq fX11_numbers_37 (fun h_37 => ?_) (fun h_37 => ?_)
        · refine xv_al0 fX11_numbers_62 ?_
          refine xv_il3 fX11_numbers_63 ?_
          refine xv_if_eq fX11_numbers_64 (fun h_64 => ?_) (fun h_64 => ?_)
          · refine xv_k fX11_numbers_71 ?_
            refine xv_callV1R (m_fails1 n c _ J) fX11_numbers_72 YX11_fails VX11_fails lX11_137 rfl rfl (sx_60 _ _) (Nat.le_of_ble_eq_true rfl) (by decide) (by decide) (by decide) ?_
            refine xv_if_ne fX11_numbers_75 (fun h_75 => ?_) (fun h_75 => ?_)
            · exact xv_vret fX11_numbers_112 rfl xv_eq_i
            · exact absurd h_75 (by decide)
          · exact absurd h_64 (by decide)
        · exact absurd h_37 (by decide)
    · exact absurd h_17 (by decide)

theorem l_num (n : Nat) (c : Nat × Nat) (I : xv_I) (J : xv_J) {x y : Int32} {Q : xv_Q} : ∀ (m k : Nat) (s : Int32), k + m = 4 → (s = bi (∀ j, j < k → xDig y 6 (j + 2) ≤ nI 4)) → (∀ s k, s = bi (∀ j, j < 4 → xDig y 6 (j + 2) ≤ nI 4) → xv_W mX11_numbers 8 0 0 Q 0 0 (sx n c) I (rx c) J 62 [some (.ref 60), some (.int x), some (.int y), some (.int s), some (.int (nI (k + 2)))] []) → xv_W mX11_numbers 8 0 0 Q 0 0 (sx n c) I (rx c) J 29 [some (.ref 60), some (.int x), some (.int y), some (.int s), some (.int (nI (k + 2)))] [] := by
  intro m
  induction m with
  | zero =>
    intro k s hm i0 i1
    obtain rfl : k = 4 := by omega
    refine xv_il4 fX11_numbers_29 ?_
    refine xv_k fX11_numbers_31 ?_
    refine xv_ic_ge fX11_numbers_33 (fun h_33 => ?_) (fun h_33 => ?_)
    · exact i1 s _ i0
    · exact absurd (nI_le (Nat.le_refl _) (by decide)) h_33
  | succ m ih =>
    intro k s hm i0 i1
    have hk : k < 4 := by omega
    show xv_W mX11_numbers 8 0 0 _ 0 0 (sx n c) I (rx c) J 29 [some (.ref 60), some (.int x), some (.int y), some (.int s), some (.int (nI (k + 2)))] []
    refine xv_il4 fX11_numbers_29 ?_
    refine xv_k fX11_numbers_31 ?_
    refine xv_ic_ge fX11_numbers_33 (fun h_33 => ?_) (fun h_33 => ?_)
    · exact absurd h_33 (nI_ge (by omega) (by omega))
    · refine xv_il3 fX11_numbers_36 ?_
      refine xv_if_eq fX11_numbers_37 (fun h_37 => ?_) (fun h_37 => ?_)
      · exact i1 s _ (i0.trans (bi_iff ⟨fun h => absurd h (bi_0 (i0.symm.trans h_37)), fun h j hj => h j (by omega)⟩))
      · refine xv_il2 fX11_numbers_40 ?_
        refine xv_il4 fX11_numbers_41 ?_
        refine xv_callS2R (m_digit n c _ J (q := k + 2) (by omega)) fX11_numbers_43 YX11_digit VX11_digit lX11_252 rfl (Nat.le_of_ble_eq_true rfl) (by decide) (by decide) (by decide) ?_
        refine xv_k fX11_numbers_46 ?_
        refine xv_ic_gt fX11_numbers_47 (fun h_47 => ?_) (fun h_47 => ?_)
        · refine xv_k fX11_numbers_54 ?_
          refine xv_is3 fX11_numbers_55 ?_
          refine xv_iincN4 (a := 1) fX11_numbers_56 (by decide) ?_
          refine xv_goto fX11_numbers_59 ?_
          exact ih (k + 1) _ (by omega) (bi_f (fun h => fa_le_nlt (h k (by omega)) h_47)).symm i1
        · refine xv_k fX11_numbers_50 ?_
          refine xv_goto fX11_numbers_51 ?_
          refine xv_is3 fX11_numbers_55 ?_
          refine xv_iincN4 (a := 1) fX11_numbers_56 (by decide) ?_
          refine xv_goto fX11_numbers_59 ?_
          exact ih (k + 1) _ (by omega) (bi_t (lt_or (bi_1 (fun q => h_37 (i0.trans q))) (fa_of_nlt h_47))).symm i1

theorem m_num_c (n : Nat) (c : Nat × Nat) (I : xv_I) (J : xv_J) {x y : Int32} (hx : okR 0 3 x) (hy : okR 0 4444 y) (hd : ¬ (∀ j, j < 4 → xDig y 6 (j + 2) ≤ nI 4)) : xv_Met mX11_numbers 8 0 0 (sx n c) I (rx c) J [.ref 60, .int x, .int y] (xv_eq (.inl none) (sx n c) (xv_u I 60 48 (nI 1)) (rx c) J) := by
  refine xv_Met.of (by decide +kernel) (Nat.le_of_ble_eq_true rfl) (List.forall_mem_cons.mpr ⟨rfl, List.forall_mem_cons.mpr ⟨rfl, List.forall_mem_cons.mpr ⟨rfl, fun _ h => nomatch h⟩⟩⟩) ?_
  show xv_W mX11_numbers 8 0 0 _ 0 0 (sx n c) I (rx c) J 0 [some (.ref 60), some (.int x), some (.int y), none, none] []
  refine xv_il1 fX11_numbers_0 ?_
  refine xv_k fX11_numbers_1 ?_
  refine xv_k fX11_numbers_2 ?_
  refine xv_callS3R (m_isIn_t n c _ J (hx).1 (hx).2) fX11_numbers_3 YX11_isIn VX11_isIn lX11_126 rfl (Nat.le_of_ble_eq_true rfl) (by decide) (by decide) (by decide) ?_
  refine xv_if_eq fX11_numbers_6 (fun h_6 => ?_) (fun h_6 => ?_)
  · exact absurd h_6 (by decide)
  · refine xv_il2 fX11_numbers_9 ?_
    refine xv_k fX11_numbers_10 ?_
    refine xv_k fX11_numbers_11 ?_
    refine xv_callS3R (m_isIn_t n c _ J (hy).1 (hy).2) fX11_numbers_14 YX11_isIn VX11_isIn lX11_126 rfl (Nat.le_of_ble_eq_true rfl) (by decide) (by decide) (by decide) ?_
    refine xv_if_eq fX11_numbers_17 (fun h_17 => ?_) (fun h_17 => ?_)
    · exact absurd h_17 (by decide)
    · refine xv_k fX11_numbers_20 ?_
      refine xv_goto fX11_numbers_21 ?_
      refine xv_is3 fX11_numbers_25 ?_
      refine xv_k fX11_numbers_26 ?_
      refine xv_is4 fX11_numbers_27 ?_
      refine l_num n c I J 4 0 _ rfl (bi_t lt_no).symm (fun s k hs => ?_)
      refine xv_al0 fX11_numbers_62 ?_
      refine xv_il3 fX11_numbers_63 ?_
      refine xv_if_eq fX11_numbers_64 (fun h_64 => ?_) (fun h_64 => ?_)
      · refine xv_k fX11_numbers_71 ?_
        refine xv_callV1R (m_fails1 n c _ J) fX11_numbers_72 YX11_fails VX11_fails lX11_137 rfl rfl (sx_60 _ _) (Nat.le_of_ble_eq_true rfl) (by decide) (by decide) (by decide) ?_
        refine xv_if_ne fX11_numbers_75 (fun h_75 => ?_) (fun h_75 => ?_)
        · exact xv_vret fX11_numbers_112 rfl xv_eq_i
        · exact absurd h_75 (by decide)
      · exact absurd (bi_1 (fun q => h_64 (hs.trans q))) hd

def mRow1 (r : Nat) (y : Int32) (k : Nat) (I : xv_I) : xv_I := xv_u I 93 (4 * r + k) (xDig y 6 (k + 2))
def mRow (r : Nat) (y : Int32) (I : xv_I) : xv_I := it (mRow1 r y) 4 0 I
theorem l_num2 (n : Nat) (c : Nat × Nat) (J : xv_J) {r : Nat} {y s : Int32} (hr : r < 4) {Q : xv_Q} : ∀ (m k : Nat) (I : xv_I), k + m = 4 → xv_W mX11_numbers 8 0 0 Q 0 0 (sx n c) (it (mRow1 r y) m k I) (rx c) J 112 [some (.ref 60), some (.int (nI r)), some (.int y), some (.int s), some (.int (nI (4)))] [] → xv_W mX11_numbers 8 0 0 Q 0 0 (sx n c) I (rx c) J 81 [some (.ref 60), some (.int (nI r)), some (.int y), some (.int s), some (.int (nI (k)))] [] := by
  intro m
  induction m with
  | zero =>
    intro k I hm  hx
    obtain rfl : k = 4 := by omega
    refine xv_il4 fX11_numbers_81 ?_
    refine xv_k fX11_numbers_83 ?_
    refine xv_ic_ge fX11_numbers_84 (fun h_84 => ?_) (fun h_84 => ?_)
    · exact hx
    · exact absurd (nI_le (Nat.le_refl _) (by decide)) h_84
  | succ m ih =>
    intro k I hm  hx
    have hk : k < 4 := by omega
    show xv_W mX11_numbers 8 0 0 _ 0 0 (sx n c) I (rx c) J 81 [some (.ref 60), some (.int (nI r)), some (.int y), some (.int s), some (.int (nI (k)))] []
    refine xv_il4 fX11_numbers_81 ?_
    refine xv_k fX11_numbers_83 ?_
    refine xv_ic_ge fX11_numbers_84 (fun h_84 => ?_) (fun h_84 => ?_)
    · exact absurd h_84 (nI_ge hk (by decide))
    · refine xv_al0 fX11_numbers_87 ?_
      refine xv_getR fX11_numbers_88 gX11_107 rfl (sx_60 _ _) (rx_60_41 _) ?_
      refine xv_k fX11_numbers_91 ?_
      refine xv_il1 fX11_numbers_92 ?_
      refine xv_imul fX11_numbers_93 ?_
      rw [nI_mul]
      refine xv_il4 fX11_numbers_94 ?_
      refine xv_iadd fX11_numbers_96 ?_
      rw [nI_add]
      refine xv_il2 fX11_numbers_97 ?_
      refine xv_il4 fX11_numbers_98 ?_
      refine xv_k fX11_numbers_100 ?_
      refine xv_iadd fX11_numbers_101 ?_
      rw [nI_add]
      refine xv_callS2R (m_digit n c _ J (q := k + 2) (by omega)) fX11_numbers_102 YX11_digit VX11_digit lX11_252 rfl (Nat.le_of_ble_eq_true rfl) (by decide) (by decide) (by decide) ?_
      refine xv_iastN fX11_numbers_105 (sx_93 _ _) (⟨by omega, by decide⟩) ?_
      refine xv_iincN4 (a := 1) fX11_numbers_106 (by decide) ?_
      refine xv_goto fX11_numbers_109 ?_
      exact ih (k + 1) _ (by omega) hx

theorem m_num_ok (n : Nat) (c : Nat × Nat) (I : xv_I) (J : xv_J) {r : Nat} {y : Int32} (hr : r < 4) (hy : okR 0 4444 y) (hd : ∀ j, j < 4 → xDig y 6 (j + 2) ≤ nI 4) : xv_Met mX11_numbers 8 0 0 (sx n c) I (rx c) J [.ref 60, .int (nI r), .int y] (xv_eq (.inl none) (sx n c) (mRow r y (xv_u I 60 48 (nI 0))) (rx c) J) := by
  refine xv_Met.of (by decide +kernel) (Nat.le_of_ble_eq_true rfl) (List.forall_mem_cons.mpr ⟨rfl, List.forall_mem_cons.mpr ⟨rfl, List.forall_mem_cons.mpr ⟨rfl, fun _ h => nomatch h⟩⟩⟩) ?_
  show xv_W mX11_numbers 8 0 0 _ 0 0 (sx n c) I (rx c) J 0 [some (.ref 60), some (.int (nI r)), some (.int y), none, none] []
  refine xv_il1 fX11_numbers_0 ?_
  refine xv_k fX11_numbers_1 ?_
  refine xv_k fX11_numbers_2 ?_
  refine xv_callS3R (m_isIn_t n c _ J ((okR_n (Nat.zero_le _) (by omega) (by decide) : okR 0 3 (nI r))).1 ((okR_n (Nat.zero_le _) (by omega) (by decide) : okR 0 3 (nI r))).2) fX11_numbers_3 YX11_isIn VX11_isIn lX11_126 rfl (Nat.le_of_ble_eq_true rfl) (by decide) (by decide) (by decide) ?_
  refine xv_if_eq fX11_numbers_6 (fun h_6 => ?_) (fun h_6 => ?_)
  · exact absurd h_6 (by decide)
  · refine xv_il2 fX11_numbers_9 ?_
    refine xv_k fX11_numbers_10 ?_
    refine xv_k fX11_numbers_11 ?_
    refine xv_callS3R (m_isIn_t n c _ J (hy).1 (hy).2) fX11_numbers_14 YX11_isIn VX11_isIn lX11_126 rfl (Nat.le_of_ble_eq_true rfl) (by decide) (by decide) (by decide) ?_
    refine xv_if_eq fX11_numbers_17 (fun h_17 => ?_) (fun h_17 => ?_)
    · exact absurd h_17 (by decide)
    · refine xv_k fX11_numbers_20 ?_
      refine xv_goto fX11_numbers_21 ?_
      refine xv_is3 fX11_numbers_25 ?_
      refine xv_k fX11_numbers_26 ?_
      refine xv_is4 fX11_numbers_27 ?_
      refine l_num n c I J 4 0 _ rfl (bi_t lt_no).symm (fun s k hs => ?_)
      refine xv_al0 fX11_numbers_62 ?_
      refine xv_il3 fX11_numbers_63 ?_
      refine xv_if_eq fX11_numbers_64 (fun h_64 => ?_) (fun h_64 => ?_)
      · exact absurd hd (bi_0 (hs.symm.trans h_64))
      · refine xv_k fX11_numbers_67 ?_
        refine xv_goto fX11_numbers_68 ?_
        refine xv_callV1R (m_fails0 n c _ J) fX11_numbers_72 YX11_fails VX11_fails lX11_137 rfl rfl (sx_60 _ _) (Nat.le_of_ble_eq_true rfl) (by decide) (by decide) (by decide) ?_
        refine xv_if_ne fX11_numbers_75 (fun h_75 => ?_) (fun h_75 => ?_)
        · exact absurd h_75 (by decide)
        · refine xv_k fX11_numbers_78 ?_
          refine xv_is4 fX11_numbers_79 ?_
          exact l_num2 n c J hr 4 0 _ rfl (by exact xv_vret fX11_numbers_112 rfl (xv_eq_I rfl rfl))
