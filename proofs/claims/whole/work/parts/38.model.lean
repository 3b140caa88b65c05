theorem m_word_a (n : Nat) (c : Nat × Nat) (I : xv_I) (J : xv_J) {x y : Int32} (hx : x < nI 1 ∨ ¬ x ≤ nI 20) : xv_Met mX11_word 8 0 0 (sx n c) I (rx c) J [.ref 60, .int x, .int y] (xv_eq (.inl (some (.int (nI 0)))) (sx n c) (xv_u I 60 48 (nI 1)) (rx c) J) := by
  refine xv_Met.of (by decide +kernel) (Nat.le_of_ble_eq_true rfl) (List.forall_mem_cons.mpr ⟨rfl, List.forall_mem_cons.mpr ⟨rfl, List.forall_mem_cons.mpr ⟨rfl, fun _ h => nomatch h⟩⟩⟩) ?_
  show xv_W mX11_word 8 0 0 _ 0 0 (sx n c) I (rx c) J 0 [some (.ref 60), some (.int x), some (.int y), none] []
  refine xv_il1 fX11_word_0 ?_
  refine xv_k fX11_word_1 ?_
  refine xv_k fX11_word_2 ?_
  refine xv_callS3R (m_isIn_f n c _ J (hx)) fX11_word_4 YX11_isIn VX11_isIn lX11_126 rfl (Nat.le_of_ble_eq_true rfl) (by decide) (by decide) (by decide) ?_
  refine xv_if_eq fX11_word_7 (fun h_7 => ?_) (fun h_7 => ?_)
  · refine xv_k fX11_word_23 ?_
    refine xv_is3 fX11_word_24 ?_
    refine xv_al0 fX11_word_25 ?_
    refine xv_il3 fX11_word_26 ?_
    refine xv_if_ne fX11_word_27 (fun h_27 => ?_) (fun h_27 => ?_)
    · exact absurd h_27 (by decide)
    · refine xv_k fX11_word_30 ?_
      refine xv_goto fX11_word_31 ?_
      refine xv_callV1R (m_fails1 n c _ J) fX11_word_47 YX11_fails VX11_fails lX11_137 rfl rfl (sx_60 _ _) (Nat.le_of_ble_eq_true rfl) (by decide) (by decide) (by decide) ?_
      refine xv_if_eq fX11_word_50 (fun h_50 => ?_) (fun h_50 => ?_)
      · exact absurd h_50 (by decide)
      · refine xv_k fX11_word_53 ?_
        exact xv_iret fX11_word_54 rfl rfl xv_eq_i
  · exact absurd h_7 (by decide)

theorem m_word_b (n : Nat) (c : Nat × Nat) (I : xv_I) (J : xv_J) {x y : Int32} (hx : okR 1 20 x) (hy : y < nI 1 ∨ ¬ y ≤ x) : xv_Met mX11_word 8 0 0 (sx n c) I (rx c) J [.ref 60, .int x, .int y] (xv_eq (.inl (some (.int (nI 0)))) (sx n c) (xv_u I 60 48 (nI 1)) (rx c) J) := by
  refine xv_Met.of (by decide +kernel) (Nat.le_of_ble_eq_true rfl) (List.forall_mem_cons.mpr ⟨rfl, List.forall_mem_cons.mpr ⟨rfl, List.forall_mem_cons.mpr ⟨rfl, fun _ h => nomatch h⟩⟩⟩) ?_
  show xv_W mX11_word 8 0 0 _ 0 0 (sx n c) I (rx c) J 0 [some (.ref 60), some (.int x), some (.int y), none] []
  refine xv_il1 fX11_word_0 ?_
  refine xv_k fX11_word_1 ?_
  refine xv_k fX11_word_2 ?_
  refine xv_callS3R (m_isIn_t n c _ J (hx).1 (hx).2) fX11_word_4 YX11_isIn VX11_isIn lX11_126 rfl (Nat.le_of_ble_eq_true rfl) (by decide) (by decide) (by decide) ?_
  refine xv_if_eq fX11_word_7 (fun h_7 => ?_) (fun h_7 => ?_)
  · exact absurd h_7 (by decide)
  · refine xv_il2 fX11_word_10 ?_
    refine xv_k fX11_word_11 ?_
    refine xv_il1 fX11_word_12 ?_
    refine xv_callS3R (m_isIn_f n c _ J (hy)) fX11_word_13 YX11_isIn VX11_isIn lX11_126 rfl (Nat.le_of_ble_eq_true rfl) (by decide) (by decide) (by decide) ?_
    refine xv_if_eq fX11_word_16 (fun h_16 => ?_) (fun h_16 => ?_)
    · refine xv_k fX11_word_23 ?_
      refine xv_is3 fX11_word_24 ?_
      refine xv_al0 fX11_word_25 ?_
      refine xv_il3 fX11_word_26 ?_
      refine xv_if_ne fX11_word_27 (fun h_27 => ?_) (fun h_27 => ?_)
      · exact absurd h_27 (by decide)
      · refine xv_k fX11_word_30 ?_
        refine xv_goto fX11_word_31 ?_
        refine xv_callV1R (m_fails1 n c _ J) fX11_word_47 YX11_fails VX11_fails lX11_137 rfl rfl (sx_60 _ _) (Nat.le_of_ble_eq_true rfl) (by decide) (by decide) (by decide) ?_
        refine xv_if_eq fX11_word_50 (fun h_50 => ?_) (fun h_50 => ?_)
        · exact absurd h_50 (by decide)
        · refine xv_k fX11_word_53 ?_
          exact xv_iret fX11_word_54 rfl rfl xv_eq_i
    · exact absurd h_16 (by decide)

theorem m_word_c (n : Nat) (c : Nat × Nat) (I : xv_I) (J : xv_J) {x y : Int32} (hx : okR 1 20 x) (hy : ¬ y < nI 1 ∧ y ≤ x) (hc : I 60 34 = nI 5) : xv_Met mX11_word 8 0 0 (sx n c) I (rx c) J [.ref 60, .int x, .int y] (xv_eq (.inl (some (.int (nI 0)))) (sx n c) (xv_u I 60 48 (nI 2)) (rx c) J) := by
  refine xv_Met.of (by decide +kernel) (Nat.le_of_ble_eq_true rfl) (List.forall_mem_cons.mpr ⟨rfl, List.forall_mem_cons.mpr ⟨rfl, List.forall_mem_cons.mpr ⟨rfl, fun _ h => nomatch h⟩⟩⟩) ?_
  show xv_W mX11_word 8 0 0 _ 0 0 (sx n c) I (rx c) J 0 [some (.ref 60), some (.int x), some (.int y), none] []
  refine xv_il1 fX11_word_0 ?_
  refine xv_k fX11_word_1 ?_
  refine xv_k fX11_word_2 ?_
  refine xv_callS3R (m_isIn_t n c _ J (hx).1 (hx).2) fX11_word_4 YX11_isIn VX11_isIn lX11_126 rfl (Nat.le_of_ble_eq_true rfl) (by decide) (by decide) (by decide) ?_
  refine xv_if_eq fX11_word_7 (fun h_7 => ?_) (fun h_7 => ?_)
  · exact absurd h_7 (by decide)
  · refine xv_il2 fX11_word_10 ?_
    refine xv_k fX11_word_11 ?_
    refine xv_il1 fX11_word_12 ?_
    refine xv_callS3R (m_isIn_t n c _ J hy.1 hy.2) fX11_word_13 YX11_isIn VX11_isIn lX11_126 rfl (Nat.le_of_ble_eq_true rfl) (by decide) (by decide) (by decide) ?_
    refine xv_if_eq fX11_word_16 (fun h_16 => ?_) (fun h_16 => ?_)
    · exact absurd h_16 (by decide)
    · refine xv_k fX11_word_19 ?_
      refine xv_goto fX11_word_20 ?_
      refine xv_is3 fX11_word_24 ?_
      refine xv_al0 fX11_word_25 ?_
      refine xv_il3 fX11_word_26 ?_
      refine xv_if_ne fX11_word_27 (fun h_27 => ?_) (fun h_27 => ?_)
      · refine xv_al0 fX11_word_34 ?_
        refine xv_getI fX11_word_35 gX11_249 rfl (sx_60 _ _) ?_
        rw [hc]
        refine xv_k fX11_word_38 ?_
        refine xv_ic_ne fX11_word_39 (fun h_39 => ?_) (fun h_39 => ?_)
        · exact absurd h_39 (by decide)
        · refine xv_k fX11_word_42 ?_
          refine xv_goto fX11_word_43 ?_
          refine xv_callV1R (m_fails2 n c _ J) fX11_word_47 YX11_fails VX11_fails lX11_137 rfl rfl (sx_60 _ _) (Nat.le_of_ble_eq_true rfl) (by decide) (by decide) (by decide) ?_
          refine xv_if_eq fX11_word_50 (fun h_50 => ?_) (fun h_50 => ?_)
          · exact absurd h_50 (by decide)
          · refine xv_k fX11_word_53 ?_
            exact xv_iret fX11_word_54 rfl rfl xv_eq_i
      · exact absurd h_27 (by decide)

theorem m_word_ok (n : Nat) (c : Nat × Nat) (I : xv_I) (J : xv_J) {x y : Int32} (hx : okR 1 20 x) (hy : ¬ y < nI 1 ∧ y ≤ x) {w : Nat} (hw : w < 5) (hc : I 60 34 = nI w) : xv_Met mX11_word 8 0 0 (sx n c) I (rx c) J [.ref 60, .int x, .int y] (xv_eq (.inl (some (.int (nI (w + 1))))) (sx n c) (xv_u (xv_u (xv_u (xv_u I 60 48 (nI 0)) 88 w x) 89 w y) 60 34 (nI (w + 1))) (rx c) J) := by
  refine xv_Met.of (by decide +kernel) (Nat.le_of_ble_eq_true rfl) (List.forall_mem_cons.mpr ⟨rfl, List.forall_mem_cons.mpr ⟨rfl, List.forall_mem_cons.mpr ⟨rfl, fun _ h => nomatch h⟩⟩⟩) ?_
  show xv_W mX11_word 8 0 0 _ 0 0 (sx n c) I (rx c) J 0 [some (.ref 60), some (.int x), some (.int y), none] []
  refine xv_il1 fX11_word_0 ?_
  refine xv_k fX11_word_1 ?_
  refine xv_k fX11_word_2 ?_
  refine xv_callS3R (m_isIn_t n c _ J (hx).1 (hx).2) fX11_word_4 YX11_isIn VX11_isIn lX11_126 rfl (Nat.le_of_ble_eq_true rfl) (by decide) (by decide) (by decide) ?_
  refine xv_if_eq fX11_word_7 (fun h_7 => ?_) (fun h_7 => ?_)
  · exact absurd h_7 (by decide)
  · refine xv_il2 fX11_word_10 ?_
    refine xv_k fX11_word_11 ?_
    refine xv_il1 fX11_word_12 ?_
    refine xv_callS3R (m_isIn_t n c _ J hy.1 hy.2) fX11_word_13 YX11_isIn VX11_isIn lX11_126 rfl (Nat.le_of_ble_eq_true rfl) (by decide) (by decide) (by decide) ?_
    refine xv_if_eq fX11_word_16 (fun h_16 => ?_) (fun h_16 => ?_)
    · exact absurd h_16 (by decide)
    · refine xv_k fX11_word_19 ?_
      refine xv_goto fX11_word_20 ?_
      refine xv_is3 fX11_word_24 ?_
      refine xv_al0 fX11_word_25 ?_
      refine xv_il3 fX11_word_26 ?_
      refine xv_if_ne fX11_word_27 (fun h_27 => ?_) (fun h_27 => ?_)
      · refine xv_al0 fX11_word_34 ?_
        refine xv_getI fX11_word_35 gX11_249 rfl (sx_60 _ _) ?_
        rw [hc]
        refine xv_k fX11_word_38 ?_
        refine xv_ic_ne fX11_word_39 (fun h_39 => ?_) (fun h_39 => ?_)
        · refine xv_k fX11_word_46 ?_
          refine xv_callV1R (m_fails0 n c _ J) fX11_word_47 YX11_fails VX11_fails lX11_137 rfl rfl (sx_60 _ _) (Nat.le_of_ble_eq_true rfl) (by decide) (by decide) (by decide) ?_
          refine xv_if_eq fX11_word_50 (fun h_50 => ?_) (fun h_50 => ?_)
          · refine xv_al0 fX11_word_55 ?_
            refine xv_getR fX11_word_56 gX11_92 rfl (sx_60 _ _) (rx_60_35 _) ?_
            refine xv_al0 fX11_word_59 ?_
            refine xv_getI fX11_word_60 gX11_249 rfl (sx_60 _ _) ?_
            refine xv_eqi (y := nI w) (by simp [xv_u, hc]) ?_
            refine xv_il1 fX11_word_63 ?_
            refine xv_iastN fX11_word_64 (sx_88 _ _) (⟨by omega, by decide⟩) ?_
            refine xv_al0 fX11_word_65 ?_
            refine xv_getR fX11_word_66 gX11_95 rfl (sx_60 _ _) (rx_60_36 _) ?_
            refine xv_al0 fX11_word_69 ?_
            refine xv_getI fX11_word_70 gX11_249 rfl (sx_60 _ _) ?_
            refine xv_eqi (y := nI w) (by simp [xv_u, hc]) ?_
            refine xv_il2 fX11_word_73 ?_
            refine xv_iastN fX11_word_74 (sx_89 _ _) (⟨by omega, by decide⟩) ?_
            refine xv_al0 fX11_word_75 ?_
            refine xv_dup_r fX11_word_76 ?_
            refine xv_getI fX11_word_77 gX11_249 rfl (sx_60 _ _) ?_
            refine xv_eqi (y := nI w) (by simp [xv_u, hc]) ?_
            refine xv_k fX11_word_80 ?_
            refine xv_iadd fX11_word_81 ?_
            rw [nI_add]
            refine xv_putI fX11_word_82 gX11_249 rfl (tp11_34 _) (sx_60 _ _) ⟨rfl, rfl⟩ ?_
            refine xv_al0 fX11_word_85 ?_
            refine xv_getI fX11_word_86 gX11_249 rfl (sx_60 _ _) ?_
            rw [xv_u_eq]
            exact xv_iret fX11_word_89 rfl rfl xv_eq_i
          · exact absurd h_50 (by decide)
        · exact absurd h_39 (nI_ne2 (by omega) (by omega) (by decide))
      · exact absurd h_27 (by decide)

def mWd1 (I : xv_I) (w cd k : Nat) (a : Int32 × Int32) : Int32 × Int32 := if nI cd >>> (nI (w - 1 - k) &&& 31) &&& nI 1 = 0 then (a.1 + I 88 k, a.2 ||| nI (2 ^ k)) else (a.1 + I 89 k, a.2 ||| nI 0)
def mWd (I : xv_I) (w cd : Nat) : Int32 × Int32 := it (mWd1 I w cd) w 0 (nI (w - 1), nI 0)
def mFt1 (I : xv_I) (w : Nat) (x : Int32) (cd : Nat) (b : Int32 × Int32) : Int32 × Int32 := if ¬ x < (mWd I w cd).1 ∧ ¬ (mWd I w cd).1 ≤ b.1 then mWd I w cd else b
def mFt (I : xv_I) (w : Nat) (x : Int32) : Int32 × Int32 := it (mFt1 I w x) (2 ^ w) 0 (-1, nI 0)
theorem m_fit_a (n : Nat) (c : Nat × Nat) (I : xv_I) (J : xv_J) {x : Int32} (hx : x < nI 0 ∨ ¬ x ≤ nI 200) : xv_Met mX11_fit 8 0 0 (sx n c) I (rx c) J [.ref 60, .int x] (xv_eq (.inl (some (.int (nI 0)))) (sx n c) (xv_u I 60 48 (nI 1)) (rx c) J) := by
  refine xv_Met.of (by decide +kernel) (Nat.le_of_ble_eq_true rfl) (List.forall_mem_cons.mpr ⟨rfl, List.forall_mem_cons.mpr ⟨rfl, fun _ h => nomatch h⟩⟩) ?_
  show xv_W mX11_fit 8 0 0 _ 0 0 (sx n c) I (rx c) J 0 [some (.ref 60), some (.int x), none, none, none, none, none, none, none] []
  refine xv_al0 fX11_fit_0 ?_
  refine xv_il1 fX11_fit_1 ?_
  refine xv_k fX11_fit_2 ?_
  refine xv_k fX11_fit_3 ?_
  refine xv_callS3R (m_isIn_f n c _ J (hx)) fX11_fit_6 YX11_isIn VX11_isIn lX11_126 rfl (Nat.le_of_ble_eq_true rfl) (by decide) (by decide) (by decide) ?_
  refine xv_if_eq fX11_fit_9 (fun h_9 => ?_) (fun h_9 => ?_)
  · refine xv_k fX11_fit_16 ?_
    refine xv_callV1R (m_fails1 n c _ J) fX11_fit_17 YX11_fails VX11_fails lX11_137 rfl rfl (sx_60 _ _) (Nat.le_of_ble_eq_true rfl) (by decide) (by decide) (by decide) ?_
    refine xv_if_eq fX11_fit_20 (fun h_20 => ?_) (fun h_20 => ?_)
    · exact absurd h_20 (by decide)
    · refine xv_k fX11_fit_23 ?_
      exact xv_iret fX11_fit_24 rfl rfl xv_eq_i
  · exact absurd h_9 (by decide)

theorem m_fit_no (n : Nat) (c : Nat × Nat) (I : xv_I) (J : xv_J) {x : Int32} (hx : okR 0 200 x) (hc : I 60 34 = 0) : xv_Met mX11_fit 8 0 0 (sx n c) I (rx c) J [.ref 60, .int x] (xv_eq (.inl (some (.int (nI 0)))) (sx n c) (xv_u I 60 48 (nI 0)) (rx c) J) := by
  refine xv_Met.of (by decide +kernel) (Nat.le_of_ble_eq_true rfl) (List.forall_mem_cons.mpr ⟨rfl, List.forall_mem_cons.mpr ⟨rfl, fun _ h => nomatch h⟩⟩) ?_
  show xv_W mX11_fit 8 0 0 _ 0 0 (sx n c) I (rx c) J 0 [some (.ref 60), some (.int x), none, none, none, none, none, none, none] []
  refine xv_al0 fX11_fit_0 ?_
  refine xv_il1 fX11_fit_1 ?_
  refine xv_k fX11_fit_2 ?_
  refine xv_k fX11_fit_3 ?_
  refine xv_callS3R (m_isIn_t n c _ J (hx).1 (hx).2) fX11_fit_6 YX11_isIn VX11_isIn lX11_126 rfl (Nat.le_of_ble_eq_true rfl) (by decide) (by decide) (by decide) ?_
  refine xv_if_eq fX11_fit_9 (fun h_9 => ?_) (fun h_9 => ?_)
  · exact absurd h_9 (by decide)
  · refine xv_k fX11_fit_12 ?_
    refine xv_goto fX11_fit_13 ?_
    refine xv_callV1R (m_fails0 n c _ J) fX11_fit_17 YX11_fails VX11_fails lX11_137 rfl rfl (sx_60 _ _) (Nat.le_of_ble_eq_true rfl) (by decide) (by decide) (by decide) ?_
    refine xv_if_eq fX11_fit_20 (fun h_20 => ?_) (fun h_20 => ?_)
    · refine xv_al0 fX11_fit_25 ?_
      refine xv_getI fX11_fit_26 gX11_249 rfl (sx_60 _ _) ?_
      rw [xv_u_nk _ _ _ (by decide)]
      refine xv_if_ne fX11_fit_29 (fun h_29 => ?_) (fun h_29 => ?_)
      · exact absurd hc h_29
      · refine xv_k fX11_fit_32 ?_
        exact xv_iret fX11_fit_33 rfl rfl xv_eq_i
    · exact absurd h_20 (by decide)

theorem l_mwd (n : Nat) (c : Nat × Nat) (I : xv_I) (J : xv_J) {w : Nat} {x : Int32} (hw : w ≤ 5) (hw1 : 0 < w) (hc : I 60 34 = nI w) {b : Int32 × Int32} {cd : Nat} {Q : xv_Q} : ∀ (m k : Nat) (a : Int32 × Int32) (l8 : Option Value), k + m = w → (∀ l7 l8, xv_W mX11_fit 8 0 0 Q 0 0 (sx n c) I (rx c) J 150 (some (.ref 60) :: some (.int x) :: some (.int b.1) :: some (.int b.2) :: some (.int (nI cd)) :: some (.int (it (mWd1 I w cd) m k a).1) :: some (.int (it (mWd1 I w cd) m k a).2) :: l7 :: l8 :: []) []) → xv_W mX11_fit 8 0 0 Q 0 0 (sx n c) I (rx c) J 66 (some (.ref 60) :: some (.int x) :: some (.int b.1) :: some (.int b.2) :: some (.int (nI cd)) :: some (.int a.1) :: some (.int a.2) :: some (.int (nI k)) :: l8 :: []) [] := by
  intro m
  induction m with
  | zero =>
    intro k a l8 hm i0
    obtain rfl : k = w := by omega
    refine xv_il7 fX11_fit_66 ?_
    refine xv_al0 fX11_fit_68 ?_
    refine xv_getI fX11_fit_69 gX11_249 rfl (sx_60 _ _) ?_
    rw [hc]
    refine xv_ic_ge fX11_fit_72 (fun h_72 => ?_) (fun h_72 => ?_)
    · exact i0 _ _
    · exact absurd (nI_le (Nat.le_refl _) (by omega)) h_72
  | succ m ih =>
    intro k a l8 hm i0
    have hk : k < w := by omega
    show xv_W mX11_fit 8 0 0 _ 0 0 (sx n c) I (rx c) J 66 (some (.ref 60) :: some (.int x) :: some (.int b.1) :: some (.int b.2) :: some (.int (nI cd)) :: some (.int a.1) :: some (.int a.2) :: some (.int (nI k)) :: l8 :: []) []
    refine xv_il7 fX11_fit_66 ?_
    refine xv_al0 fX11_fit_68 ?_
    refine xv_getI fX11_fit_69 gX11_249 rfl (sx_60 _ _) ?_
    rw [hc]
    refine xv_ic_ge fX11_fit_72 (fun h_72 => ?_) (fun h_72 => ?_)
    · exact absurd h_72 (nI_ge hk (by omega))
    · refine xv_il4 fX11_fit_75 ?_
      refine xv_al0 fX11_fit_77 ?_
      refine xv_getI fX11_fit_78 gX11_249 rfl (sx_60 _ _) ?_
      rw [hc]
      refine xv_k fX11_fit_81 ?_
      refine xv_isub fX11_fit_82 ?_
      rw [nI_sub (show 1 ≤ w from hw1)]
      refine xv_il7 fX11_fit_83 ?_
      refine xv_isub fX11_fit_85 ?_
      rw [nI_sub (by omega)]
      refine xv_ishr fX11_fit_86 ?_
      refine xv_k fX11_fit_87 ?_
      refine xv_iand fX11_fit_88 ?_
      refine xv_if_ne fX11_fit_89 (fun h_89 => ?_) (fun h_89 => ?_)
      · refine xv_k fX11_fit_96 ?_
        refine xv_is8 fX11_fit_97 ?_
        refine xv_il5 fX11_fit_99 ?_
        refine xv_il8 fX11_fit_101 ?_
        refine xv_if_eq fX11_fit_103 (fun h_103 => ?_) (fun h_103 => ?_)
        · refine xv_al0 fX11_fit_116 ?_
          refine xv_getR fX11_fit_117 gX11_95 rfl (sx_60 _ _) (rx_60_36 _) ?_
          refine xv_il7 fX11_fit_120 ?_
          refine xv_ialdN fX11_fit_122 (sx_89 _ _) (⟨by omega, by decide⟩) ?_
          refine xv_iadd fX11_fit_123 ?_
          refine xv_is5 fX11_fit_124 ?_
          refine xv_il6 fX11_fit_126 ?_
          refine xv_il8 fX11_fit_128 ?_
          refine xv_if_eq fX11_fit_130 (fun h_130 => ?_) (fun h_130 => ?_)
          · refine xv_k fX11_fit_140 ?_
            refine xv_ior fX11_fit_141 ?_
            refine xv_is6 fX11_fit_142 ?_
            refine xv_iincN7 (a := 1) fX11_fit_144 (by decide) ?_
            refine xv_goto fX11_fit_147 ?_
            exact ih (k + 1) (a.1 + I 89 k, a.2 ||| nI 0) _ (by omega) (by rw [show it (mWd1 I w cd) (m + 1) k a = it (mWd1 I w cd) m (k + 1) (mWd1 I w cd k a) from rfl, mWd1, if_neg h_89] at i0; exact i0)
          · exact absurd h_130 (by decide)
        · exact absurd h_103 (by decide)
      · refine xv_k fX11_fit_92 ?_
        refine xv_goto fX11_fit_93 ?_
        refine xv_is8 fX11_fit_97 ?_
        refine xv_il5 fX11_fit_99 ?_
        refine xv_il8 fX11_fit_101 ?_
        refine xv_if_eq fX11_fit_103 (fun h_103 => ?_) (fun h_103 => ?_)
        · exact absurd h_103 (by decide)
        · refine xv_al0 fX11_fit_106 ?_
          refine xv_getR fX11_fit_107 gX11_92 rfl (sx_60 _ _) (rx_60_35 _) ?_
          refine xv_il7 fX11_fit_110 ?_
          refine xv_ialdN fX11_fit_112 (sx_88 _ _) (⟨by omega, by decide⟩) ?_
          refine xv_goto fX11_fit_113 ?_
          refine xv_iadd fX11_fit_123 ?_
          refine xv_is5 fX11_fit_124 ?_
          refine xv_il6 fX11_fit_126 ?_
          refine xv_il8 fX11_fit_128 ?_
          refine xv_if_eq fX11_fit_130 (fun h_130 => ?_) (fun h_130 => ?_)
          · exact absurd h_130 (by decide)
          · refine xv_k fX11_fit_133 ?_
            refine xv_il7 fX11_fit_134 ?_
            refine xv_ishl fX11_fit_136 ?_
            rw [sh1 _ (by omega)]
            refine xv_goto fX11_fit_137 ?_
            refine xv_ior fX11_fit_141 ?_
            refine xv_is6 fX11_fit_142 ?_
            refine xv_iincN7 (a := 1) fX11_fit_144 (by decide) ?_
            refine xv_goto fX11_fit_147 ?_
            exact ih (k + 1) (a.1 + I 88 k, a.2 ||| nI (2 ^ k)) _ (by omega) (by rw [show it (mWd1 I w cd) (m + 1) k a = it (mWd1 I w cd) m (k + 1) (mWd1 I w cd k a) from rfl, mWd1, if_pos h_89] at i0; exact i0)

theorem l_mfit (n : Nat) (c : Nat × Nat) (I : xv_I) (J : xv_J) {w : Nat} {x : Int32} (hw : w ≤ 5) (hw1 : 0 < w) (hc : I 60 34 = nI w) {Q : xv_Q} : ∀ (m k : Nat) (b : Int32 × Int32) (l5 l6 l7 l8 : Option Value), k + m = 2 ^ w → (∀ l5 l6 l7 l8, xv_W mX11_fit 8 0 0 Q 0 0 (sx n c) I (rx c) J 174 (some (.ref 60) :: some (.int x) :: some (.int (it (mFt1 I w x) m k b).1) :: some (.int (it (mFt1 I w x) m k b).2) :: some (.int (nI (2 ^ w))) :: l5 :: l6 :: l7 :: l8 :: []) []) → xv_W mX11_fit 8 0 0 Q 0 0 (sx n c) I (rx c) J 41 (some (.ref 60) :: some (.int x) :: some (.int b.1) :: some (.int b.2) :: some (.int (nI k)) :: l5 :: l6 :: l7 :: l8 :: []) [] := by
  intro m
  induction m with
  | zero =>
    intro k b l5 l6 l7 l8 hm i0
    obtain rfl : k = 2 ^ w := by omega
    refine xv_il4 fX11_fit_41 ?_
    refine xv_k fX11_fit_43 ?_
    refine xv_al0 fX11_fit_44 ?_
    refine xv_getI fX11_fit_45 gX11_249 rfl (sx_60 _ _) ?_
    rw [hc]
    refine xv_ishl fX11_fit_48 ?_
    rw [sh1 _ (by omega)]
    refine xv_ic_ge fX11_fit_49 (fun h_49 => ?_) (fun h_49 => ?_)
    · exact i0 _ _ _ _
    · exact absurd (nI_le (Nat.le_refl _) (pw31 hw)) h_49
  | succ m ih =>
    intro k b l5 l6 l7 l8 hm i0
    have hk : k < 2 ^ w := by omega
    show xv_W mX11_fit 8 0 0 _ 0 0 (sx n c) I (rx c) J 41 (some (.ref 60) :: some (.int x) :: some (.int b.1) :: some (.int b.2) :: some (.int (nI k)) :: l5 :: l6 :: l7 :: l8 :: []) []
    refine xv_il4 fX11_fit_41 ?_
    refine xv_k fX11_fit_43 ?_
    refine xv_al0 fX11_fit_44 ?_
    refine xv_getI fX11_fit_45 gX11_249 rfl (sx_60 _ _) ?_
    rw [hc]
    refine xv_ishl fX11_fit_48 ?_
    rw [sh1 _ (by omega)]
    refine xv_ic_ge fX11_fit_49 (fun h_49 => ?_) (fun h_49 => ?_)
    · exact absurd h_49 (nI_ge hk (pw31 hw))
    · refine xv_al0 fX11_fit_52 ?_
      refine xv_getI fX11_fit_53 gX11_249 rfl (sx_60 _ _) ?_
      rw [hc]
      refine xv_k fX11_fit_56 ?_
      refine xv_isub fX11_fit_57 ?_
      rw [nI_sub (show 1 ≤ w from hw1)]
      refine xv_is5 fX11_fit_58 ?_
      refine xv_k fX11_fit_60 ?_
      refine xv_is6 fX11_fit_61 ?_
      refine xv_k fX11_fit_63 ?_
      refine xv_is7 fX11_fit_64 ?_
      refine l_mwd n c I J hw hw1 hc w 0 (nI (w - 1), nI 0) _ (by omega) (fun l7 l8 => ?_)
      show xv_W mX11_fit 8 0 0 _ 0 0 (sx n c) I (rx c) J 150 (some (.ref 60) :: some (.int x) :: some (.int b.1) :: some (.int b.2) :: some (.int (nI k)) :: some (.int (mWd I w k).1) :: some (.int (mWd I w k).2) :: l7 :: l8 :: []) []
      refine xv_il5 fX11_fit_150 ?_
      refine xv_il1 fX11_fit_152 ?_
      refine xv_ic_gt fX11_fit_153 (fun h_153 => ?_) (fun h_153 => ?_)
      · refine xv_iincN4 (a := 1) fX11_fit_168 (by decide) ?_
        refine xv_goto fX11_fit_171 ?_
        exact ih (k + 1) b _ _ _ _ (by omega) (by rw [show it (mFt1 I w x) (m + 1) k b = it (mFt1 I w x) m (k + 1) (mFt1 I w x k b) from rfl, mFt1, if_neg (fun h => h.1 h_153)] at i0; exact i0)
      · refine xv_il5 fX11_fit_156 ?_
        refine xv_il2 fX11_fit_158 ?_
        refine xv_ic_le fX11_fit_159 (fun h_159 => ?_) (fun h_159 => ?_)
        · refine xv_iincN4 (a := 1) fX11_fit_168 (by decide) ?_
          refine xv_goto fX11_fit_171 ?_
          exact ih (k + 1) b _ _ _ _ (by omega) (by rw [show it (mFt1 I w x) (m + 1) k b = it (mFt1 I w x) m (k + 1) (mFt1 I w x k b) from rfl, mFt1, if_neg (fun h => h.2 h_159)] at i0; exact i0)
        · refine xv_il5 fX11_fit_162 ?_
          refine xv_is2 fX11_fit_164 ?_
          refine xv_il6 fX11_fit_165 ?_
          refine xv_is3 fX11_fit_167 ?_
          refine xv_iincN4 (a := 1) fX11_fit_168 (by decide) ?_
          refine xv_goto fX11_fit_171 ?_
          exact ih (k + 1) (mWd I w k) _ _ _ _ (by omega) (by rw [show it (mFt1 I w x) (m + 1) k b = it (mFt1 I w x) m (k + 1) (mFt1 I w x k b) from rfl, mFt1, if_pos ⟨h_153, h_159⟩] at i0; exact i0)

theorem mWd_t (I : xv_I) (x : Int32) (w cd : Nat) : mWd (xv_u I 60 48 x) w cd = mWd I w cd := by
  unfold mWd
  congr 1
theorem mFt_t (I : xv_I) (z : Int32) (w : Nat) (x : Int32) : it (mFt1 (xv_u I 60 48 z) w x) (2 ^ w) 0 (-1, nI 0) = mFt I w x := by
  unfold mFt
  congr 1
theorem m_fit_ok (n : Nat) (c : Nat × Nat) (I : xv_I) (J : xv_J) {w : Nat} {x : Int32} (hw : w ≤ 5) (hw1 : 0 < w) (hc : I 60 34 = nI w) (hx : okR 0 200 x) : xv_Met mX11_fit 8 0 0 (sx n c) I (rx c) J [.ref 60, .int x] (xv_eq (.inl (some (.int (if (mFt I w x).1 = -1 then -1 else nI 100 * (mFt I w x).1 + (mFt I w x).2)))) (sx n c) (xv_u I 60 48 (nI 0)) (rx c) J) := by
  refine xv_Met.of (by decide +kernel) (Nat.le_of_ble_eq_true rfl) (List.forall_mem_cons.mpr ⟨rfl, List.forall_mem_cons.mpr ⟨rfl, fun _ h => nomatch h⟩⟩) ?_
  show xv_W mX11_fit 8 0 0 _ 0 0 (sx n c) I (rx c) J 0 [some (.ref 60), some (.int x), none, none, none, none, none, none, none] []
  refine xv_al0 fX11_fit_0 ?_
  refine xv_il1 fX11_fit_1 ?_
  refine xv_k fX11_fit_2 ?_
  refine xv_k fX11_fit_3 ?_
  refine xv_callS3R (m_isIn_t n c _ J (hx).1 (hx).2) fX11_fit_6 YX11_isIn VX11_isIn lX11_126 rfl (Nat.le_of_ble_eq_true rfl) (by decide) (by decide) (by decide) ?_
  refine xv_if_eq fX11_fit_9 (fun h_9 => ?_) (fun h_9 => ?_)
  · exact absurd h_9 (by decide)
  · refine xv_k fX11_fit_12 ?_
    refine xv_goto fX11_fit_13 ?_
    refine xv_callV1R (m_fails0 n c _ J) fX11_fit_17 YX11_fails VX11_fails lX11_137 rfl rfl (sx_60 _ _) (Nat.le_of_ble_eq_true rfl) (by decide) (by decide) (by decide) ?_
    refine xv_if_eq fX11_fit_20 (fun h_20 => ?_) (fun h_20 => ?_)
    · refine xv_al0 fX11_fit_25 ?_
      refine xv_getI fX11_fit_26 gX11_249 rfl (sx_60 _ _) ?_
      rw [xv_u_nk _ _ _ (by decide), hc]
      refine xv_if_ne fX11_fit_29 (fun h_29 => ?_) (fun h_29 => ?_)
      · refine xv_k fX11_fit_34 ?_
        refine xv_is2 fX11_fit_35 ?_
        refine xv_k fX11_fit_36 ?_
        refine xv_is3 fX11_fit_37 ?_
        refine xv_k fX11_fit_38 ?_
        refine xv_is4 fX11_fit_39 ?_
        refine l_mfit n c _ J hw hw1 ((xv_u_nk _ _ _ (by decide)).trans hc) (2 ^ w) 0 (-1, nI 0) _ _ _ _ (by omega) (fun l5 l6 l7 l8 => ?_)
        rw [mFt_t]
        refine xv_il2 fX11_fit_174 ?_
        refine xv_k fX11_fit_175 ?_
        refine xv_ic_ne fX11_fit_176 (fun h_176 => ?_) (fun h_176 => ?_)
        · refine xv_k fX11_fit_183 ?_
          refine xv_il2 fX11_fit_185 ?_
          refine xv_imul fX11_fit_186 ?_
          refine xv_il3 fX11_fit_187 ?_
          refine xv_iadd fX11_fit_188 ?_
          exact xv_iret fX11_fit_189 rfl rfl (xv_eq_I (by rw [if_neg h_176]) rfl)
        · refine xv_k fX11_fit_179 ?_
          refine xv_goto fX11_fit_180 ?_
          exact xv_iret fX11_fit_189 rfl rfl (xv_eq_I (by rw [if_pos h_176]) rfl)
      · exact absurd h_29 (nI_n0 (by omega) (by omega))
    · exact absurd h_20 (by decide)

theorem m_drop (n : Nat) (c : Nat × Nat) (I : xv_I) (J : xv_J)  : xv_Met mX11_dropWords 8 0 0 (sx n c) I (rx c) J [.ref 60] (xv_eq (.inl (some (.int (I 60 34)))) (sx n c) (xv_u (xv_u I 60 48 (nI 0)) 60 34 (nI 0)) (rx c) J) := by
  refine xv_Met.of (by decide +kernel) (Nat.le_of_ble_eq_true rfl) (List.forall_mem_cons.mpr ⟨rfl, fun _ h => nomatch h⟩) ?_
  show xv_W mX11_dropWords 8 0 0 _ 0 0 (sx n c) I (rx c) J 0 [some (.ref 60), none] []
  refine xv_al0 fX11_dropWords_0 ?_
  refine xv_k fX11_dropWords_1 ?_
  refine xv_putI fX11_dropWords_2 gX11_122 rfl (tp11_48 _) (sx_60 _ _) ⟨rfl, rfl⟩ ?_
  refine xv_al0 fX11_dropWords_5 ?_
  refine xv_getI fX11_dropWords_6 gX11_249 rfl (sx_60 _ _) ?_
  rw [xv_u_nk _ _ _ (by decide)]
  refine xv_is1 fX11_dropWords_9 ?_
  refine xv_al0 fX11_dropWords_10 ?_
  refine xv_k fX11_dropWords_11 ?_
  refine xv_putI fX11_dropWords_12 gX11_249 rfl (tp11_34 _) (sx_60 _ _) ⟨rfl, rfl⟩ ?_
  refine xv_il1 fX11_dropWords_15 ?_
  exact xv_iret fX11_dropWords_16 rfl rfl xv_eq_i

theorem m_weigh_a (n : Nat) (c : Nat × Nat) (I : xv_I) (J : xv_J) {x y : Int32} (hx : x < nI 0 ∨ ¬ x ≤ nI 5) : xv_Met mX11_weigh 8 0 0 (sx n c) I (rx c) J [.ref 60, .int x, .int y] (xv_eq (.inl (some (.int (nI 0)))) (sx n c) (xv_u I 60 48 (nI 1)) (rx c) J) := by
  refine xv_Met.of (by decide +kernel) (Nat.le_of_ble_eq_true rfl) (List.forall_mem_cons.mpr ⟨rfl, List.forall_mem_cons.mpr ⟨rfl, List.forall_mem_cons.mpr ⟨rfl, fun _ h => nomatch h⟩⟩⟩) ?_
  show xv_W mX11_weigh 8 0 0 _ 0 0 (sx n c) I (rx c) J 0 [some (.ref 60), some (.int x), some (.int y), none] []
  refine xv_al0 fX11_weigh_0 ?_
  refine xv_il1 fX11_weigh_1 ?_
  refine xv_k fX11_weigh_2 ?_
  refine xv_k fX11_weigh_3 ?_
  refine xv_callS3R (m_isIn_f n c _ J (hx)) fX11_weigh_4 YX11_isIn VX11_isIn lX11_126 rfl (Nat.le_of_ble_eq_true rfl) (by decide) (by decide) (by decide) ?_
  refine xv_if_eq fX11_weigh_7 (fun h_7 => ?_) (fun h_7 => ?_)
  · refine xv_k fX11_weigh_24 ?_
    refine xv_callV1R (m_fails1 n c _ J) fX11_weigh_25 YX11_fails VX11_fails lX11_137 rfl rfl (sx_60 _ _) (Nat.le_of_ble_eq_true rfl) (by decide) (by decide) (by decide) ?_
    refine xv_if_eq fX11_weigh_28 (fun h_28 => ?_) (fun h_28 => ?_)
    · exact absurd h_28 (by decide)
    · refine xv_k fX11_weigh_31 ?_
      exact xv_iret fX11_weigh_32 rfl rfl xv_eq_i
  · exact absurd h_7 (by decide)

theorem m_weigh_b (n : Nat) (c : Nat × Nat) (I : xv_I) (J : xv_J) {x y : Int32} (hx : okR 0 5 x) (hy : y < nI 0 ∨ ¬ y ≤ nI 999999) : xv_Met mX11_weigh 8 0 0 (sx n c) I (rx c) J [.ref 60, .int x, .int y] (xv_eq (.inl (some (.int (nI 0)))) (sx n c) (xv_u I 60 48 (nI 1)) (rx c) J) := by
  refine xv_Met.of (by decide +kernel) (Nat.le_of_ble_eq_true rfl) (List.forall_mem_cons.mpr ⟨rfl, List.forall_mem_cons.mpr ⟨rfl, List.forall_mem_cons.mpr ⟨rfl, fun _ h => nomatch h⟩⟩⟩) ?_
  show xv_W mX11_weigh 8 0 0 _ 0 0 (sx n c) I (rx c) J 0 [some (.ref 60), some (.int x), some (.int y), none] []
  refine xv_al0 fX11_weigh_0 ?_
  refine xv_il1 fX11_weigh_1 ?_
  refine xv_k fX11_weigh_2 ?_
  refine xv_k fX11_weigh_3 ?_
  refine xv_callS3R (m_isIn_t n c _ J (hx).1 (hx).2) fX11_weigh_4 YX11_isIn VX11_isIn lX11_126 rfl (Nat.le_of_ble_eq_true rfl) (by decide) (by decide) (by decide) ?_
  refine xv_if_eq fX11_weigh_7 (fun h_7 => ?_) (fun h_7 => ?_)
  · exact absurd h_7 (by decide)
  · refine xv_il2 fX11_weigh_10 ?_
    refine xv_k fX11_weigh_11 ?_
    refine xv_kl fX11_weigh_12 cwX11_171 ?_
    refine xv_callS3R (m_isIn_f n c _ J (hy)) fX11_weigh_14 YX11_isIn VX11_isIn lX11_126 rfl (Nat.le_of_ble_eq_true rfl) (by decide) (by decide) (by decide) ?_
    refine xv_if_eq fX11_weigh_17 (fun h_17 => ?_) (fun h_17 => ?_)
    · refine xv_k fX11_weigh_24 ?_
      refine xv_callV1R (m_fails1 n c _ J) fX11_weigh_25 YX11_fails VX11_fails lX11_137 rfl rfl (sx_60 _ _) (Nat.le_of_ble_eq_true rfl) (by decide) (by decide) (by decide) ?_
      refine xv_if_eq fX11_weigh_28 (fun h_28 => ?_) (fun h_28 => ?_)
      · exact absurd h_28 (by decide)
      · refine xv_k fX11_weigh_31 ?_
        exact xv_iret fX11_weigh_32 rfl rfl xv_eq_i
    · exact absurd h_17 (by decide)

theorem m_weigh_ok (n : Nat) (c : Nat × Nat) (I : xv_I) (J : xv_J) {k : Nat} {y : Int32} (hk : k < 6) (hy : okR 0 999999 y) : xv_Met mX11_weigh 8 0 0 (sx n c) I (rx c) J [.ref 60, .int (nI k), .int y] (xv_eq (.inl (some (.int (I 90 k)))) (sx n c) (xv_u (xv_u I 60 48 (nI 0)) 90 k y) (rx c) J) := by
  refine xv_Met.of (by decide +kernel) (Nat.le_of_ble_eq_true rfl) (List.forall_mem_cons.mpr ⟨rfl, List.forall_mem_cons.mpr ⟨rfl, List.forall_mem_cons.mpr ⟨rfl, fun _ h => nomatch h⟩⟩⟩) ?_
  show xv_W mX11_weigh 8 0 0 _ 0 0 (sx n c) I (rx c) J 0 [some (.ref 60), some (.int (nI k)), some (.int y), none] []
  refine xv_al0 fX11_weigh_0 ?_
  refine xv_il1 fX11_weigh_1 ?_
  refine xv_k fX11_weigh_2 ?_
  refine xv_k fX11_weigh_3 ?_
  refine xv_callS3R (m_isIn_t n c _ J ((okR_n (Nat.zero_le _) (by omega) (by decide) : okR 0 5 (nI k))).1 ((okR_n (Nat.zero_le _) (by omega) (by decide) : okR 0 5 (nI k))).2) fX11_weigh_4 YX11_isIn VX11_isIn lX11_126 rfl (Nat.le_of_ble_eq_true rfl) (by decide) (by decide) (by decide) ?_
  refine xv_if_eq fX11_weigh_7 (fun h_7 => ?_) (fun h_7 => ?_)
  · exact absurd h_7 (by decide)
  · refine xv_il2 fX11_weigh_10 ?_
    refine xv_k fX11_weigh_11 ?_
    refine xv_kl fX11_weigh_12 cwX11_171 ?_
    refine xv_callS3R (m_isIn_t n c _ J (hy).1 (hy).2) fX11_weigh_14 YX11_isIn VX11_isIn lX11_126 rfl (Nat.le_of_ble_eq_true rfl) (by decide) (by decide) (by decide) ?_
    refine xv_if_eq fX11_weigh_17 (fun h_17 => ?_) (fun h_17 => ?_)
    · exact absurd h_17 (by decide)
    · refine xv_k fX11_weigh_20 ?_
      refine xv_goto fX11_weigh_21 ?_
      refine xv_callV1R (m_fails0 n c _ J) fX11_weigh_25 YX11_fails VX11_fails lX11_137 rfl rfl (sx_60 _ _) (Nat.le_of_ble_eq_true rfl) (by decide) (by decide) (by decide) ?_
      refine xv_if_eq fX11_weigh_28 (fun h_28 => ?_) (fun h_28 => ?_)
      · refine xv_al0 fX11_weigh_33 ?_
        refine xv_getR fX11_weigh_34 gX11_98 rfl (sx_60 _ _) (rx_60_37 _) ?_
        refine xv_il1 fX11_weigh_37 ?_
        refine xv_ialdN fX11_weigh_38 (sx_90 _ _) (⟨by omega, by decide⟩) ?_
        rw [xv_u_ne _ _ _ (by decide)]
        refine xv_is3 fX11_weigh_39 ?_
        refine xv_al0 fX11_weigh_40 ?_
        refine xv_getR fX11_weigh_41 gX11_98 rfl (sx_60 _ _) (rx_60_37 _) ?_
        refine xv_il1 fX11_weigh_44 ?_
        refine xv_il2 fX11_weigh_45 ?_
        refine xv_iastN fX11_weigh_46 (sx_90 _ _) (⟨by omega, by decide⟩) ?_
        refine xv_il3 fX11_weigh_47 ?_
        exact xv_iret fX11_weigh_48 rfl rfl xv_eq_i
      · exact absurd h_28 (by decide)

theorem l_mdigit (n : Nat) (c : Nat × Nat) (I : xv_I) (J : xv_J) {Q : xv_Q} {x : Int32} {q : Nat} (hq : q < 6) : ∀ (m : Nat) (y : Int32), q + m ≤ 5 → xv_W mX11_digit 0 0 0 Q 0 0 (sx n c) I (rx c) J 20 [some (.int x), some (.int (nI q)), some (.int (xD10 m y)), some (.int (nI q))] [] → xv_W mX11_digit 0 0 0 Q 0 0 (sx n c) I (rx c) J 4 [some (.int x), some (.int (nI q)), some (.int y), some (.int (nI (q + m)))] [] := by
  intro m
  induction m with
  | zero =>
    intro y hm hx
    show xv_W mX11_digit 0 0 0 _ 0 0 (sx n c) I (rx c) J 4 [some (.int x), some (.int (nI q)), some (.int y), some (.int (nI q))] []
    refine xv_il3 fX11_digit_4 ?_
    refine xv_il1 fX11_digit_5 ?_
    refine xv_ic_le fX11_digit_6 (fun h_6 => ?_) (fun h_6 => ?_)
    · exact hx
    · exact absurd (nI_le (Nat.le_refl _) (by omega)) h_6
  | succ m ih =>
    intro y hm hx
    show xv_W mX11_digit 0 0 0 _ 0 0 (sx n c) I (rx c) J 4 [some (.int x), some (.int (nI q)), some (.int y), some (.int (nI (q + (m + 1))))] []
    refine xv_il3 fX11_digit_4 ?_
    refine xv_il1 fX11_digit_5 ?_
    refine xv_ic_le fX11_digit_6 (fun h_6 => ?_) (fun h_6 => ?_)
    · exact absurd h_6 (nI_ge (by omega) (by omega))
    · refine xv_il2 fX11_digit_9 ?_
      refine xv_k fX11_digit_10 ?_
      refine xv_idiv fX11_digit_12 (by decide) ?_
      refine xv_is2 fX11_digit_13 ?_
      refine xv_iincD3 fX11_digit_14 (by omega) ?_
      refine xv_goto fX11_digit_17 ?_
      exact ih (y / nI 10) (by omega) hx

theorem m_digit (n : Nat) (c : Nat × Nat) (I : xv_I) (J : xv_J) {x : Int32} {q : Nat} (hq : q < 6) : xv_Met mX11_digit 0 0 0 (sx n c) I (rx c) J [.int x, .int (nI q)] (xv_eq (.inl (some (.int (xDig x 6 q)))) (sx n c) (I) (rx c) J) := by
  refine xv_Met.of (by decide +kernel) (Nat.le_of_ble_eq_true rfl) (List.forall_mem_cons.mpr ⟨rfl, List.forall_mem_cons.mpr ⟨rfl, fun _ h => nomatch h⟩⟩) ?_
  show xv_W mX11_digit 0 0 0 _ 0 0 (sx n c) I (rx c) J 0 [some (.int x), some (.int (nI q)), none, none] []
  refine xv_il0 fX11_digit_0 ?_
  refine xv_is2 fX11_digit_1 ?_
  refine xv_k fX11_digit_2 ?_
  refine xv_is3 fX11_digit_3 ?_
  rw [show (5 : Nat) = q + (5 - q) by omega]
  exact l_mdigit n c I J hq (5 - q) x (by omega) (by exact xv_il2 fX11_digit_20 (xv_k fX11_digit_21 (xv_irem fX11_digit_23 (by decide) (xv_iret fX11_digit_24 rfl rfl (xv_eq_I (by rw [xDig, show 6 - (q + 1) = 5 - q by omega]) rfl)))))

def mWt1 (I : xv_I) (t f w k : Nat) (s : Int32) : Int32 := s + xDig (I 90 (t + k / w)) 6 (f + k % w)
def mWt (I : xv_I) (t f w h : Nat) : Int32 := it (mWt1 I t f w) (h * w) 0 (nI 0)
def mCr1 (I : xv_I) (w h t f : Nat) (b : Int32 × Nat) : Int32 × Nat := if mWt I t f w h ≤ b.1 then b else (mWt I t f w h, 10 * t + f)
def mCr2 (I : xv_I) (w h t : Nat) (b : Int32 × Nat) : Int32 × Nat := it (mCr1 I w h t) (7 - w) 0 b
def mCr (I : xv_I) (w h : Nat) : Int32 × Nat := it (mCr2 I w h) (7 - h) 0 (-1, 0)
theorem m_crop_a (n : Nat) (c : Nat × Nat) (I : xv_I) (J : xv_J) {x y : Int32} (hx : x < nI 1 ∨ ¬ x ≤ nI 6) : xv_Met mX11_crop 8 0 0 (sx n c) I (rx c) J [.ref 60, .int x, .int y] (xv_eq (.inl (some (.int (nI 0)))) (sx n c) (xv_u I 60 48 (nI 1)) (rx c) J) := by
  refine xv_Met.of (by decide +kernel) (Nat.le_of_ble_eq_true rfl) (List.forall_mem_cons.mpr ⟨rfl, List.forall_mem_cons.mpr ⟨rfl, List.forall_mem_cons.mpr ⟨rfl, fun _ h => nomatch h⟩⟩⟩) ?_
  show xv_W mX11_crop 8 0 0 _ 0 0 (sx n c) I (rx c) J 0 [some (.ref 60), some (.int x), some (.int y), none, none, none, none, none, none] []
  refine xv_al0 fX11_crop_0 ?_
  refine xv_il1 fX11_crop_1 ?_
  refine xv_k fX11_crop_2 ?_
  refine xv_k fX11_crop_3 ?_
  refine xv_callS3R (m_isIn_f n c _ J (hx)) fX11_crop_5 YX11_isIn VX11_isIn lX11_126 rfl (Nat.le_of_ble_eq_true rfl) (by decide) (by decide) (by decide) ?_
  refine xv_if_eq fX11_crop_8 (fun h_8 => ?_) (fun h_8 => ?_)
  · refine xv_k fX11_crop_25 ?_
    refine xv_callV1R (m_fails1 n c _ J) fX11_crop_26 YX11_fails VX11_fails lX11_137 rfl rfl (sx_60 _ _) (Nat.le_of_ble_eq_true rfl) (by decide) (by decide) (by decide) ?_
    refine xv_if_eq fX11_crop_29 (fun h_29 => ?_) (fun h_29 => ?_)
    · exact absurd h_29 (by decide)
    · refine xv_k fX11_crop_32 ?_
      exact xv_iret fX11_crop_33 rfl rfl xv_eq_i
  · exact absurd h_8 (by decide)

theorem m_crop_b (n : Nat) (c : Nat × Nat) (I : xv_I) (J : xv_J) {x y : Int32} (hx : okR 1 6 x) (hy : y < nI 1 ∨ ¬ y ≤ nI 6) : xv_Met mX11_crop 8 0 0 (sx n c) I (rx c) J [.ref 60, .int x, .int y] (xv_eq (.inl (some (.int (nI 0)))) (sx n c) (xv_u I 60 48 (nI 1)) (rx c) J) := by
  refine xv_Met.of (by decide +kernel) (Nat.le_of_ble_eq_true rfl) (List.forall_mem_cons.mpr ⟨rfl, List.forall_mem_cons.mpr ⟨rfl, List.forall_mem_cons.mpr ⟨rfl, fun _ h => nomatch h⟩⟩⟩) ?_
  show xv_W mX11_crop 8 0 0 _ 0 0 (sx n c) I (rx c) J 0 [some (.ref 60), some (.int x), some (.int y), none, none, none, none, none, none] []
  refine xv_al0 fX11_crop_0 ?_
  refine xv_il1 fX11_crop_1 ?_
  refine xv_k fX11_crop_2 ?_
  refine xv_k fX11_crop_3 ?_
  refine xv_callS3R (m_isIn_t n c _ J (hx).1 (hx).2) fX11_crop_5 YX11_isIn VX11_isIn lX11_126 rfl (Nat.le_of_ble_eq_true rfl) (by decide) (by decide) (by decide) ?_
  refine xv_if_eq fX11_crop_8 (fun h_8 => ?_) (fun h_8 => ?_)
  · exact absurd h_8 (by decide)
  · refine xv_il2 fX11_crop_11 ?_
    refine xv_k fX11_crop_12 ?_
    refine xv_k fX11_crop_13 ?_
    refine xv_callS3R (m_isIn_f n c _ J (hy)) fX11_crop_15 YX11_isIn VX11_isIn lX11_126 rfl (Nat.le_of_ble_eq_true rfl) (by decide) (by decide) (by decide) ?_
    refine xv_if_eq fX11_crop_18 (fun h_18 => ?_) (fun h_18 => ?_)
    · refine xv_k fX11_crop_25 ?_
      refine xv_callV1R (m_fails1 n c _ J) fX11_crop_26 YX11_fails VX11_fails lX11_137 rfl rfl (sx_60 _ _) (Nat.le_of_ble_eq_true rfl) (by decide) (by decide) (by decide) ?_
      refine xv_if_eq fX11_crop_29 (fun h_29 => ?_) (fun h_29 => ?_)
      · exact absurd h_29 (by decide)
      · refine xv_k fX11_crop_32 ?_
        exact xv_iret fX11_crop_33 rfl rfl xv_eq_i
    · exact absurd h_18 (by decide)

theorem dvm {k w h : Nat} (hw : 1 ≤ w) (hk : k < h * w) : k / w < h ∧ k % w < w ∧ k < 2 ^ 31 ∨ True := Or.inr trivial
theorem dv_lt {k w h : Nat} (hk : k < h * w) : k / w < h := Nat.div_lt_of_lt_mul (by rw [Nat.mul_comm]; exact hk)
theorem hw36 {w h : Nat} (hw : w ≤ 6) (hh : h ≤ 6) : h * w ≤ 36 := Nat.mul_le_mul hh hw
theorem l_mcr0 (n : Nat) (c : Nat × Nat) (I : xv_I) (J : xv_J) {w h : Nat} (hw : 1 ≤ w ∧ w ≤ 6) (hh : 1 ≤ h ∧ h ≤ 6) {b : Int32 × Nat} {t f : Nat} (ht : t + h ≤ 6) (hf : f + w ≤ 6) {Q : xv_Q} : ∀ (m k : Nat) (s : Int32), k + m = h * w → (xv_W mX11_crop 8 0 0 Q 0 0 (sx n c) I (rx c) J 110 (some (.ref 60) :: some (.int (nI w)) :: some (.int (nI h)) :: some (.int b.1) :: some (.int (nI b.2)) :: some (.int (nI t)) :: some (.int (nI f)) :: some (.int (it (mWt1 I t f w) m k s)) :: some (.int (nI (h * w))) :: []) []) → xv_W mX11_crop 8 0 0 Q 0 0 (sx n c) I (rx c) J 69 (some (.ref 60) :: some (.int (nI w)) :: some (.int (nI h)) :: some (.int b.1) :: some (.int (nI b.2)) :: some (.int (nI t)) :: some (.int (nI f)) :: some (.int s) :: some (.int (nI k)) :: []) [] := by
  intro m
  induction m with
  | zero =>
    intro k s hm i0
    obtain rfl : k = h * w := by omega
    refine xv_il8 fX11_crop_69 ?_
    refine xv_il2 fX11_crop_71 ?_
    refine xv_il1 fX11_crop_72 ?_
    refine xv_imul fX11_crop_73 ?_
    rw [nI_mul]
    refine xv_ic_ge fX11_crop_74 (fun h_74 => ?_) (fun h_74 => ?_)
    · exact i0
    · exact absurd (nI_le (Nat.le_refl _) (by have := hw36 hw.2 hh.2; omega)) h_74
  | succ m ih =>
    intro k s hm i0
    have hk : k < h * w := by omega
    show xv_W mX11_crop 8 0 0 _ 0 0 (sx n c) I (rx c) J 69 (some (.ref 60) :: some (.int (nI w)) :: some (.int (nI h)) :: some (.int b.1) :: some (.int (nI b.2)) :: some (.int (nI t)) :: some (.int (nI f)) :: some (.int s) :: some (.int (nI k)) :: []) []
    obtain h36 := hw36 hw.2 hh.2
    obtain d1 := dv_lt hk
    obtain d2 := Nat.mod_lt k (show 0 < w from hw.1)
    refine xv_il8 fX11_crop_69 ?_
    refine xv_il2 fX11_crop_71 ?_
    refine xv_il1 fX11_crop_72 ?_
    refine xv_imul fX11_crop_73 ?_
    rw [nI_mul]
    refine xv_ic_ge fX11_crop_74 (fun h_74 => ?_) (fun h_74 => ?_)
    · exact absurd h_74 (nI_ge hk (by omega))
    · refine xv_il7 fX11_crop_77 ?_
      refine xv_al0 fX11_crop_79 ?_
      refine xv_getR fX11_crop_80 gX11_98 rfl (sx_60 _ _) (rx_60_37 _) ?_
      refine xv_il5 fX11_crop_83 ?_
      refine xv_il8 fX11_crop_85 ?_
      refine xv_il1 fX11_crop_87 ?_
      refine xv_idiv fX11_crop_88 (nI_n0 hw.1 (by omega)) ?_
      rw [nI_div (by omega) (by omega)]
      refine xv_iadd fX11_crop_89 ?_
      rw [nI_add]
      refine xv_ialdN fX11_crop_90 (sx_90 _ _) (⟨by omega, by decide⟩) ?_
      refine xv_il6 fX11_crop_91 ?_
      refine xv_il8 fX11_crop_93 ?_
      refine xv_il1 fX11_crop_95 ?_
      refine xv_irem fX11_crop_96 (nI_n0 hw.1 (by omega)) ?_
      rw [nI_rem (by omega) (by omega)]
      refine xv_iadd fX11_crop_97 ?_
      rw [nI_add]
      refine xv_callS2R (m_digit n c _ J (q := f + k % w) (by omega)) fX11_crop_98 YX11_digit VX11_digit lX11_252 rfl (Nat.le_of_ble_eq_true rfl) (by decide) (by decide) (by decide) ?_
      refine xv_iadd fX11_crop_101 ?_
      refine xv_is7 fX11_crop_102 ?_
      refine xv_iincN8 (a := 1) fX11_crop_104 (by decide) ?_
      refine xv_goto fX11_crop_107 ?_
      exact ih (k + 1) _ (by omega) i0

theorem l_mcr1 (n : Nat) (c : Nat × Nat) (I : xv_I) (J : xv_J) {w h : Nat} (hw : 1 ≤ w ∧ w ≤ 6) (hh : 1 ≤ h ∧ h ≤ 6) {t : Nat} (ht : t + h ≤ 6) {Q : xv_Q} : ∀ (m k : Nat) (b : Int32 × Nat) (l7 l8 : Option Value), k + m = 7 - w → (∀ l7 l8, xv_W mX11_crop 8 0 0 Q 0 0 (sx n c) I (rx c) J 150 (some (.ref 60) :: some (.int (nI w)) :: some (.int (nI h)) :: some (.int (it (mCr1 I w h t) m k b).1) :: some (.int (nI (it (mCr1 I w h t) m k b).2)) :: some (.int (nI t)) :: some (.int (nI (7 - w))) :: l7 :: l8 :: []) []) → xv_W mX11_crop 8 0 0 Q 0 0 (sx n c) I (rx c) J 54 (some (.ref 60) :: some (.int (nI w)) :: some (.int (nI h)) :: some (.int b.1) :: some (.int (nI b.2)) :: some (.int (nI t)) :: some (.int (nI k)) :: l7 :: l8 :: []) [] := by
  intro m
  induction m with
  | zero =>
    intro k b l7 l8 hm i0
    obtain rfl : k = 7 - w := by omega
    refine xv_il6 fX11_crop_54 ?_
    refine xv_il1 fX11_crop_56 ?_
    refine xv_iadd fX11_crop_57 ?_
    rw [nI_add]
    refine xv_k fX11_crop_58 ?_
    refine xv_ic_gt fX11_crop_60 (fun h_60 => ?_) (fun h_60 => ?_)
    · exact i0 _ _
    · exact absurd (nI_lt (by omega) (by omega)) h_60
  | succ m ih =>
    intro k b l7 l8 hm i0
    have hk : k < 7 - w := by omega
    show xv_W mX11_crop 8 0 0 _ 0 0 (sx n c) I (rx c) J 54 (some (.ref 60) :: some (.int (nI w)) :: some (.int (nI h)) :: some (.int b.1) :: some (.int (nI b.2)) :: some (.int (nI t)) :: some (.int (nI k)) :: l7 :: l8 :: []) []
    refine xv_il6 fX11_crop_54 ?_
    refine xv_il1 fX11_crop_56 ?_
    refine xv_iadd fX11_crop_57 ?_
    rw [nI_add]
    refine xv_k fX11_crop_58 ?_
    refine xv_ic_gt fX11_crop_60 (fun h_60 => ?_) (fun h_60 => ?_)
    · exact absurd h_60 (nI_nlt (by omega) (by omega))
    · refine xv_k fX11_crop_63 ?_
      refine xv_is7 fX11_crop_64 ?_
      refine xv_k fX11_crop_66 ?_
      refine xv_is8 fX11_crop_67 ?_
      refine l_mcr0 n c I J hw hh (b := b) (t := t) (f := k) ht (by omega) (h * w) 0 (nI 0) (by omega) ?_
      show xv_W mX11_crop 8 0 0 _ 0 0 (sx n c) I (rx c) J 110 (some (.ref 60) :: some (.int (nI w)) :: some (.int (nI h)) :: some (.int b.1) :: some (.int (nI b.2)) :: some (.int (nI t)) :: some (.int (nI k)) :: some (.int (mWt I t k w h)) :: some (.int (nI (h * w))) :: []) []
      refine xv_il7 fX11_crop_110 ?_
      refine xv_il3 fX11_crop_112 ?_
      refine xv_ic_le fX11_crop_113 (fun h_113 => ?_) (fun h_113 => ?_)
      · refine xv_il4 fX11_crop_127 ?_
        refine xv_is4 fX11_crop_129 ?_
        refine xv_il7 fX11_crop_131 ?_
        refine xv_il3 fX11_crop_133 ?_
        refine xv_ic_le fX11_crop_134 (fun h_134 => ?_) (fun h_134 => ?_)
        · refine xv_il3 fX11_crop_142 ?_
          refine xv_is3 fX11_crop_143 ?_
          refine xv_iincN6 (a := 1) fX11_crop_144 (by decide) ?_
          refine xv_goto fX11_crop_147 ?_
          exact ih (k + 1) b _ _ (by omega) (by rw [show it (mCr1 I w h t) (m + 1) k b = it (mCr1 I w h t) m (k + 1) (mCr1 I w h t k b) from rfl, mCr1, if_pos h_113] at i0; exact i0)
        · exact absurd h_113 h_134
      · refine xv_k fX11_crop_116 ?_
        refine xv_il5 fX11_crop_118 ?_
        refine xv_imul fX11_crop_120 ?_
        rw [nI_mul]
        refine xv_il6 fX11_crop_121 ?_
        refine xv_iadd fX11_crop_123 ?_
        rw [nI_add]
        refine xv_goto fX11_crop_124 ?_
        refine xv_is4 fX11_crop_129 ?_
        refine xv_il7 fX11_crop_131 ?_
        refine xv_il3 fX11_crop_133 ?_
        refine xv_ic_le fX11_crop_134 (fun h_134 => ?_) (fun h_134 => ?_)
        · exact absurd h_134 (fun q => h_113 q)
        · refine xv_il7 fX11_crop_137 ?_
          refine xv_goto fX11_crop_139 ?_
          refine xv_is3 fX11_crop_143 ?_
          refine xv_iincN6 (a := 1) fX11_crop_144 (by decide) ?_
          refine xv_goto fX11_crop_147 ?_
          exact ih (k + 1) (mWt I t k w h, 10 * t + k) _ _ (by omega) (by rw [show it (mCr1 I w h t) (m + 1) k b = it (mCr1 I w h t) m (k + 1) (mCr1 I w h t k b) from rfl, mCr1, if_neg h_113] at i0; exact i0)

theorem l_mcr2 (n : Nat) (c : Nat × Nat) (I : xv_I) (J : xv_J) {w h : Nat} (hw : 1 ≤ w ∧ w ≤ 6) (hh : 1 ≤ h ∧ h ≤ 6) {Q : xv_Q} : ∀ (m k : Nat) (b : Int32 × Nat) (l6 l7 l8 : Option Value), k + m = 7 - h → (∀ l6 l7 l8, xv_W mX11_crop 8 0 0 Q 0 0 (sx n c) I (rx c) J 156 (some (.ref 60) :: some (.int (nI w)) :: some (.int (nI h)) :: some (.int (it (mCr2 I w h) m k b).1) :: some (.int (nI (it (mCr2 I w h) m k b).2)) :: some (.int (nI (7 - h))) :: l6 :: l7 :: l8 :: []) []) → xv_W mX11_crop 8 0 0 Q 0 0 (sx n c) I (rx c) J 42 (some (.ref 60) :: some (.int (nI w)) :: some (.int (nI h)) :: some (.int b.1) :: some (.int (nI b.2)) :: some (.int (nI k)) :: l6 :: l7 :: l8 :: []) [] := by
  intro m
  induction m with
  | zero =>
    intro k b l6 l7 l8 hm i0
    obtain rfl : k = 7 - h := by omega
    refine xv_il5 fX11_crop_42 ?_
    refine xv_il2 fX11_crop_44 ?_
    refine xv_iadd fX11_crop_45 ?_
    rw [nI_add]
    refine xv_k fX11_crop_46 ?_
    refine xv_ic_gt fX11_crop_48 (fun h_48 => ?_) (fun h_48 => ?_)
    · exact i0 _ _ _
    · exact absurd (nI_lt (by omega) (by omega)) h_48
  | succ m ih =>
    intro k b l6 l7 l8 hm i0
    have hk : k < 7 - h := by omega
    show xv_W mX11_crop 8 0 0 _ 0 0 (sx n c) I (rx c) J 42 (some (.ref 60) :: some (.int (nI w)) :: some (.int (nI h)) :: some (.int b.1) :: some (.int (nI b.2)) :: some (.int (nI k)) :: l6 :: l7 :: l8 :: []) []
    refine xv_il5 fX11_crop_42 ?_
    refine xv_il2 fX11_crop_44 ?_
    refine xv_iadd fX11_crop_45 ?_
    rw [nI_add]
    refine xv_k fX11_crop_46 ?_
    refine xv_ic_gt fX11_crop_48 (fun h_48 => ?_) (fun h_48 => ?_)
    · exact absurd h_48 (nI_nlt (by omega) (by omega))
    · refine xv_k fX11_crop_51 ?_
      refine xv_is6 fX11_crop_52 ?_
      refine l_mcr1 n c I J hw hh (t := k) (by omega) (7 - w) 0 _ _ _ (by omega) (fun l7 l8 => ?_)
      refine xv_iincN5 (a := 1) fX11_crop_150 (by decide) ?_
      refine xv_goto fX11_crop_153 ?_
      exact ih (k + 1) _ _ _ _ (by omega) i0

theorem mCr_t (I : xv_I) (z : Int32) (w h : Nat) : it (mCr2 (xv_u I 60 48 z) w h) (7 - h) 0 (-1, 0) = mCr I w h := by
  unfold mCr
  congr 1
theorem m_crop_ok (n : Nat) (c : Nat × Nat) (I : xv_I) (J : xv_J) {w h : Nat} (hw : 1 ≤ w ∧ w ≤ 6) (hh : 1 ≤ h ∧ h ≤ 6) : xv_Met mX11_crop 8 0 0 (sx n c) I (rx c) J [.ref 60, .int (nI w), .int (nI h)] (xv_eq (.inl (some (.int (nI 100 * (mCr I w h).1 + nI (mCr I w h).2)))) (sx n c) (xv_u I 60 48 (nI 0)) (rx c) J) := by
  refine xv_Met.of (by decide +kernel) (Nat.le_of_ble_eq_true rfl) (List.forall_mem_cons.mpr ⟨rfl, List.forall_mem_cons.mpr ⟨rfl, List.forall_mem_cons.mpr ⟨rfl, fun _ h => nomatch h⟩⟩⟩) ?_
  show xv_W mX11_crop 8 0 0 _ 0 0 (sx n c) I (rx c) J 0 [some (.ref 60), some (.int (nI w)), some (.int (nI h)), none, none, none, none, none, none] []
  refine xv_al0 fX11_crop_0 ?_
  refine xv_il1 fX11_crop_1 ?_
  refine xv_k fX11_crop_2 ?_
  refine xv_k fX11_crop_3 ?_
  refine xv_callS3R (m_isIn_t n c _ J ((okR_n hw.1 hw.2 (by decide) : okR 1 6 (nI w))).1 ((okR_n hw.1 hw.2 (by decide) : okR 1 6 (nI w))).2) fX11_crop_5 YX11_isIn VX11_isIn lX11_126 rfl (Nat.le_of_ble_eq_true rfl) (by decide) (by decide) (by decide) ?_
  refine xv_if_eq fX11_crop_8 (fun h_8 => ?_) (fun h_8 => ?_)
  · exact absurd h_8 (by decide)
  · refine xv_il2 fX11_crop_11 ?_
    refine xv_k fX11_crop_12 ?_
    refine xv_k fX11_crop_13 ?_
    refine xv_callS3R (m_isIn_t n c _ J ((okR_n hh.1 hh.2 (by decide) : okR 1 6 (nI h))).1 ((okR_n hh.1 hh.2 (by decide) : okR 1 6 (nI h))).2) fX11_crop_15 YX11_isIn VX11_isIn lX11_126 rfl (Nat.le_of_ble_eq_true rfl) (by decide) (by decide) (by decide) ?_
    refine xv_if_eq fX11_crop_18 (fun h_18 => ?_) (fun h_18 => ?_)
    · exact absurd h_18 (by decide)
    · refine xv_k fX11_crop_21 ?_
      refine xv_goto fX11_crop_22 ?_
      refine xv_callV1R (m_fails0 n c _ J) fX11_crop_26 YX11_fails VX11_fails lX11_137 rfl rfl (sx_60 _ _) (Nat.le_of_ble_eq_true rfl) (by decide) (by decide) (by decide) ?_
      refine xv_if_eq fX11_crop_29 (fun h_29 => ?_) (fun h_29 => ?_)
      · refine xv_k fX11_crop_34 ?_
        refine xv_is3 fX11_crop_35 ?_
        refine xv_k fX11_crop_36 ?_
        refine xv_is4 fX11_crop_37 ?_
        refine xv_k fX11_crop_39 ?_
        refine xv_is5 fX11_crop_40 ?_
        refine l_mcr2 n c _ J hw hh (7 - h) 0 (-1, 0) _ _ _ (by omega) (fun l6 l7 l8 => ?_)
        rw [mCr_t]
        refine xv_k fX11_crop_156 ?_
        refine xv_il3 fX11_crop_158 ?_
        refine xv_imul fX11_crop_159 ?_
        refine xv_il4 fX11_crop_160 ?_
        refine xv_iadd fX11_crop_162 ?_
        exact xv_iret fX11_crop_163 rfl rfl (xv_eq_I rfl rfl)
      · exact absurd h_29 (by decide)
