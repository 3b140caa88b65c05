abbrev mSpot (I : xv_I) (na a ct w h k : Nat) : Prop := mFitPg I na a ct (k / 12) ∧ mFree I (k / 12) (k % 12) w h
def mFnd (P : Nat → Prop) (N m : Nat) (s : Int32) : Prop := (s = -1 ∧ ∀ j, m ≤ j → j < N → ¬ P j) ∨ ∃ j, m ≤ j ∧ j < N ∧ P j ∧ s = nI j ∧ ∀ i, m ≤ i → i < j → ¬ P i
theorem mFnd_t {P : Nat → Prop} {N m : Nat} (h : m < N) (hp : P m) : mFnd P N m (nI m) := Or.inr ⟨m, Nat.le_refl _, h, hp, rfl, fun i h1 h2 => absurd h1 (by omega)⟩
theorem mFnd_f {P : Nat → Prop} {N m : Nat} {s : Int32} (hp : ¬ P m) (h : mFnd P N (m + 1) s) : mFnd P N m s := by
  rcases h with ⟨h1, h2⟩ | ⟨j, h1, h2, h3, h4, h5⟩
  · exact Or.inl ⟨h1, fun j hj hj2 => if e : j = m then e ▸ hp else h2 j (by omega) hj2⟩
  · exact Or.inr ⟨j, by omega, h2, h3, h4, fun i hi hi2 => if e : i = m then e ▸ hp else h5 i (by omega) hi2⟩
theorem mFnd_N (P : Nat → Prop) (N : Nat) : mFnd P N N (-1) := Or.inl ⟨rfl, fun j h1 h2 => absurd h1 (by omega)⟩
theorem mFnd_fs {P : Nat → Prop} {N : Nat} {s : Int32} (h : mFnd P N 0 s) : s = fsP P N := by
  rcases h with ⟨h1, h2⟩ | ⟨j, h1, h2, h3, h4, h5⟩
  · rw [h1, fsP_no fun j hj => h2 j (Nat.zero_le _) hj]
  · rw [h4, fsP_eq (fun i hi => h5 i (Nat.zero_le _) hi) h3 h2]
theorem l_mplace (n : Nat) (c : Nat × Nat) (I : xv_I) (J : xv_J) {Q : xv_Q} {a ct w h : Nat} (ha : a < c.1) (hc20 : c.1 ≤ 20) (hct : I 65 a = nI ct) (hct2 : ct < 4) (hn : I 60 5 = nI c.1) (hw : I 66 a = nI w) (hh : I 67 a = nI h) (hw2 : 1 ≤ w ∧ w ≤ 3) (hh2 : 1 ≤ h ∧ h ≤ 4) : ∀ (m : Nat) (s : Int32), m ≤ 120 → mFnd (mSpot I c.1 a ct w h) 120 m s → (∀ s, mFnd (mSpot I c.1 a ct w h) 120 0 s → xv_W mX11_place 6 0 0 Q 0 0 (sx n c) I (rx c) J 93 [some (.ref 60), some (.int (nI a)), some (.int (nI 1)), some (.int s), some (.int (-1))] []) → xv_W mX11_place 6 0 0 Q 0 0 (sx n c) I (rx c) J 44 [some (.ref 60), some (.int (nI a)), some (.int (nI 1)), some (.int s), some (.int (nI m + -1))] [] := by
  intro m
  induction m with
  | zero =>
    intro s hm i0 i1
    show xv_W mX11_place 6 0 0 _ 0 0 (sx n c) I (rx c) J 44 [some (.ref 60), some (.int (nI a)), some (.int (nI 1)), some (.int s), some (.int (-1))] []
    refine xv_il4 fX11_place_44 ?_
    refine xv_if_lt fX11_place_46 (fun h_46 => ?_) (fun h_46 => ?_)
    · exact i1 s i0
    · exact absurd (by decide) h_46
  | succ m ih =>
    intro s hm i0 i1
    show xv_W mX11_place 6 0 0 _ 0 0 (sx n c) I (rx c) J 44 [some (.ref 60), some (.int (nI a)), some (.int (nI 1)), some (.int s), some (.int (nI (m + 1) + -1))] []
    rw [show nI (m + 1) + -1 = nI m from nI_decr (Nat.succ_le_succ (Nat.zero_le m))]
    refine xv_il4 fX11_place_44 ?_
    refine xv_if_lt fX11_place_46 (fun h_46 => ?_) (fun h_46 => ?_)
    · exact absurd h_46 (nI_pos (by omega))
    · refine xv_al0 fX11_place_49 ?_
      refine xv_il1 fX11_place_50 ?_
      refine xv_il4 fX11_place_51 ?_
      refine xv_k fX11_place_53 ?_
      refine xv_idiv fX11_place_55 (by decide) ?_
      rw [nI_div (by omega) (by decide)]
      refine xv_callV2R (m_fits n c _ J ha hc20 (p := m / 12) (by omega) hct hct2 hn) fX11_place_56 YX11_fits VX11_fits lX11_161 rfl rfl (sx_60 _ _) (Nat.le_of_ble_eq_true rfl) (by decide) (by decide) (by decide) ?_
      refine xv_if_eq fX11_place_59 (fun h_59 => ?_) (fun h_59 => ?_)
      · refine xv_il3 fX11_place_85 ?_
        refine xv_is3 fX11_place_86 ?_
        refine xv_iinc4 (v := -1) fX11_place_87 (by decide) ?_
        refine xv_goto fX11_place_90 ?_
        exact ih _ (by omega) (mFnd_f (fun h => bi_0 h_59 h.1) i0) i1
      · refine xv_al0 fX11_place_62 ?_
        refine xv_il1 fX11_place_63 ?_
        refine xv_il4 fX11_place_64 ?_
        refine xv_k fX11_place_66 ?_
        refine xv_idiv fX11_place_68 (by decide) ?_
        rw [nI_div (by omega) (by decide)]
        refine xv_il4 fX11_place_69 ?_
        refine xv_k fX11_place_71 ?_
        refine xv_irem fX11_place_73 (by decide) ?_
        rw [nI_rem (by omega) (by decide)]
        refine xv_callV3R (m_isFree n c _ J (by omega) (p := m / 12) (by omega) (f := m % 12) (by omega) hw hh hw2 hh2) fX11_place_74 YX11_isFree VX11_isFree lX11_164 rfl rfl (sx_60 _ _) (Nat.le_of_ble_eq_true rfl) (by decide) (by decide) (by decide) ?_
        refine xv_if_eq fX11_place_77 (fun h_77 => ?_) (fun h_77 => ?_)
        · refine xv_il3 fX11_place_85 ?_
          refine xv_is3 fX11_place_86 ?_
          refine xv_iinc4 (v := -1) fX11_place_87 (by decide) ?_
          refine xv_goto fX11_place_90 ?_
          exact ih _ (by omega) (mFnd_f (fun h => bi_0 h_77 h.2) i0) i1
        · refine xv_il4 fX11_place_80 ?_
          refine xv_goto fX11_place_82 ?_
          refine xv_is3 fX11_place_86 ?_
          refine xv_iinc4 (v := -1) fX11_place_87 (by decide) ?_
          refine xv_goto fX11_place_90 ?_
          exact ih _ (by omega) (mFnd_t (by omega) ⟨bi_1 h_59, bi_1 h_77⟩) i1

def mPl (I : xv_I) (a w h j : Nat) : xv_I := mFill (j / 12) (j % 12) w h (nI (100 + a)) (xv_u I 71 a (nI (100 * (j / 12) + j % 12)))
theorem m_place_a (n : Nat) (c : Nat × Nat) (I : xv_I) (J : xv_J) {x : Int32} (hx : ∀ k, x = nI k → k < 20 → c.1 ≤ k) (hn : I 60 5 = nI c.1) (hn2 : c.1 ≤ 20) : xv_Met mX11_place 6 0 0 (sx n c) I (rx c) J [.ref 60, .int x] (xv_eq (.inl (some (.int (nI 0)))) (sx n c) (xv_u I 60 48 (nI 1)) (rx c) J) := by
  refine xv_Met.of (by decide +kernel) (Nat.le_of_ble_eq_true rfl) (List.forall_mem_cons.mpr ⟨rfl, List.forall_mem_cons.mpr ⟨rfl, fun _ h => nomatch h⟩⟩) ?_
  show xv_W mX11_place 6 0 0 _ 0 0 (sx n c) I (rx c) J 0 [some (.ref 60), some (.int x), none, none, none] []
  refine xv_al0 fX11_place_0 ?_
  refine xv_il1 fX11_place_1 ?_
  refine xv_callV1R (m_isAdvert_f n c _ J hx hn hn2) fX11_place_2 YX11_isAdvert VX11_isAdvert lX11_158 rfl rfl (sx_60 _ _) (Nat.le_of_ble_eq_true rfl) (by decide) (by decide) (by decide) ?_
  refine xv_is2 fX11_place_5 ?_
  refine xv_al0 fX11_place_6 ?_
  refine xv_il2 fX11_place_7 ?_
  refine xv_if_ne fX11_place_8 (fun h_8 => ?_) (fun h_8 => ?_)
  · exact absurd h_8 (by decide)
  · refine xv_k fX11_place_11 ?_
    refine xv_goto fX11_place_12 ?_
    refine xv_callV1R (m_fails1 n c _ J) fX11_place_30 YX11_fails VX11_fails lX11_137 rfl rfl (sx_60 _ _) (Nat.le_of_ble_eq_true rfl) (by decide) (by decide) (by decide) ?_
    refine xv_if_eq fX11_place_33 (fun h_33 => ?_) (fun h_33 => ?_)
    · exact absurd h_33 (by decide)
    · refine xv_k fX11_place_36 ?_
      exact xv_iret fX11_place_37 rfl rfl xv_eq_i

theorem m_place_b (n : Nat) (c : Nat × Nat) (I : xv_I) (J : xv_J) {a : Nat} (ha : a < c.1) (hn : I 60 5 = nI c.1) (hn2 : c.1 ≤ 20) (hpl : ¬ I 71 a = -1) : xv_Met mX11_place 6 0 0 (sx n c) I (rx c) J [.ref 60, .int (nI a)] (xv_eq (.inl (some (.int (nI 0)))) (sx n c) (xv_u I 60 48 (nI 2)) (rx c) J) := by
  refine xv_Met.of (by decide +kernel) (Nat.le_of_ble_eq_true rfl) (List.forall_mem_cons.mpr ⟨rfl, List.forall_mem_cons.mpr ⟨rfl, fun _ h => nomatch h⟩⟩) ?_
  show xv_W mX11_place 6 0 0 _ 0 0 (sx n c) I (rx c) J 0 [some (.ref 60), some (.int (nI a)), none, none, none] []
  refine xv_al0 fX11_place_0 ?_
  refine xv_il1 fX11_place_1 ?_
  refine xv_callV1R (m_isAdvert_t n c _ J ha hn hn2) fX11_place_2 YX11_isAdvert VX11_isAdvert lX11_158 rfl rfl (sx_60 _ _) (Nat.le_of_ble_eq_true rfl) (by decide) (by decide) (by decide) ?_
  refine xv_is2 fX11_place_5 ?_
  refine xv_al0 fX11_place_6 ?_
  refine xv_il2 fX11_place_7 ?_
  refine xv_if_ne fX11_place_8 (fun h_8 => ?_) (fun h_8 => ?_)
  · refine xv_al0 fX11_place_15 ?_
    refine xv_getR fX11_place_16 gX11_41 rfl (sx_60 _ _) (rx_60_12 _) ?_
    refine xv_il1 fX11_place_19 ?_
    refine xv_ialdN fX11_place_20 (sx_71 _ _) (⟨by omega, by decide⟩) ?_
    refine xv_k fX11_place_21 ?_
    refine xv_ic_ne fX11_place_22 (fun h_22 => ?_) (fun h_22 => ?_)
    · refine xv_k fX11_place_29 ?_
      refine xv_callV1R (m_fails2 n c _ J) fX11_place_30 YX11_fails VX11_fails lX11_137 rfl rfl (sx_60 _ _) (Nat.le_of_ble_eq_true rfl) (by decide) (by decide) (by decide) ?_
      refine xv_if_eq fX11_place_33 (fun h_33 => ?_) (fun h_33 => ?_)
      · exact absurd h_33 (by decide)
      · refine xv_k fX11_place_36 ?_
        exact xv_iret fX11_place_37 rfl rfl xv_eq_i
    · exact absurd h_22 hpl
  · exact absurd h_8 (by decide)

theorem m_place_no (n : Nat) (c : Nat × Nat) (I : xv_I) (J : xv_J) {a ct w h : Nat} (ha : a < c.1) (hc20 : c.1 ≤ 20) (hct : I 65 a = nI ct) (hct2 : ct < 4) (hn : I 60 5 = nI c.1) (hw : I 66 a = nI w) (hh : I 67 a = nI h) (hw2 : 1 ≤ w ∧ w ≤ 3) (hh2 : 1 ≤ h ∧ h ≤ 4) (hpl : I 71 a = -1) (hno : ∀ j, j < 120 → ¬ (mSpot (xv_u I 60 48 (nI 0)) c.1 a ct w h) j) : xv_Met mX11_place 6 0 0 (sx n c) I (rx c) J [.ref 60, .int (nI a)] (xv_eq (.inl (some (.int (-1)))) (sx n c) ((xv_u I 60 48 (nI 0))) (rx c) J) := by
  refine xv_Met.of (by decide +kernel) (Nat.le_of_ble_eq_true rfl) (List.forall_mem_cons.mpr ⟨rfl, List.forall_mem_cons.mpr ⟨rfl, fun _ h => nomatch h⟩⟩) ?_
  show xv_W mX11_place 6 0 0 _ 0 0 (sx n c) I (rx c) J 0 [some (.ref 60), some (.int (nI a)), none, none, none] []
  refine xv_al0 fX11_place_0 ?_
  refine xv_il1 fX11_place_1 ?_
  refine xv_callV1R (m_isAdvert_t n c _ J ha hn hc20) fX11_place_2 YX11_isAdvert VX11_isAdvert lX11_158 rfl rfl (sx_60 _ _) (Nat.le_of_ble_eq_true rfl) (by decide) (by decide) (by decide) ?_
  refine xv_is2 fX11_place_5 ?_
  refine xv_al0 fX11_place_6 ?_
  refine xv_il2 fX11_place_7 ?_
  refine xv_if_ne fX11_place_8 (fun h_8 => ?_) (fun h_8 => ?_)
  · refine xv_al0 fX11_place_15 ?_
    refine xv_getR fX11_place_16 gX11_41 rfl (sx_60 _ _) (rx_60_12 _) ?_
    refine xv_il1 fX11_place_19 ?_
    refine xv_ialdN fX11_place_20 (sx_71 _ _) (⟨by omega, by decide⟩) ?_
    refine xv_k fX11_place_21 ?_
    refine xv_ic_ne fX11_place_22 (fun h_22 => ?_) (fun h_22 => ?_)
    · exact absurd hpl h_22
    · refine xv_k fX11_place_25 ?_
      refine xv_goto fX11_place_26 ?_
      refine xv_callV1R (m_fails0 n c _ J) fX11_place_30 YX11_fails VX11_fails lX11_137 rfl rfl (sx_60 _ _) (Nat.le_of_ble_eq_true rfl) (by decide) (by decide) (by decide) ?_
      refine xv_if_eq fX11_place_33 (fun h_33 => ?_) (fun h_33 => ?_)
      · refine xv_k fX11_place_38 ?_
        refine xv_is3 fX11_place_39 ?_
        refine xv_k fX11_place_40 ?_
        refine xv_is4 fX11_place_42 ?_
        refine l_mplace n c _ J ha hc20 (by rw [xv_u_ne _ _ _ (by decide)]; exact hct) hct2 (by rw [xv_u_nk _ _ _ (by decide)]; exact hn) (by rw [xv_u_ne _ _ _ (by decide)]; exact hw) (by rw [xv_u_ne _ _ _ (by decide)]; exact hh) hw2 hh2 120 (-1) (Nat.le_refl _) (mFnd_N _ _) (fun s hs => ?_)
        obtain rfl := mFnd_fs hs
        rw [fsP_no hno]
        refine xv_il3 fX11_place_93 ?_
        refine xv_k fX11_place_94 ?_
        refine xv_ic_ne fX11_place_95 (fun h_95 => ?_) (fun h_95 => ?_)
        · exact absurd rfl h_95
        · refine xv_k fX11_place_98 ?_
          exact xv_iret fX11_place_99 rfl rfl (xv_eq_I rfl rfl)
      · exact absurd h_33 (by decide)
  · exact absurd h_8 (by decide)
theorem m_place_ok (n : Nat) (c : Nat × Nat) (I : xv_I) (J : xv_J) {a ct w h : Nat} (ha : a < c.1) (hc20 : c.1 ≤ 20) (hct : I 65 a = nI ct) (hct2 : ct < 4) (hn : I 60 5 = nI c.1) (hw : I 66 a = nI w) (hh : I 67 a = nI h) (hw2 : 1 ≤ w ∧ w ≤ 3) (hh2 : 1 ≤ h ∧ h ≤ 4) (hpl : I 71 a = -1) {j : Nat} (hj : j < 120) (hsp : (mSpot (xv_u I 60 48 (nI 0)) c.1 a ct w h) j) (hlo : ∀ i, i < j → ¬ (mSpot (xv_u I 60 48 (nI 0)) c.1 a ct w h) i) : xv_Met mX11_place 6 0 0 (sx n c) I (rx c) J [.ref 60, .int (nI a)] (xv_eq (.inl (some (.int (nI (100 * (j / 12) + j % 12))))) (sx n c) ((mPl (xv_u I 60 48 (nI 0)) a w h j)) (rx c) J) := by
  refine xv_Met.of (by decide +kernel) (Nat.le_of_ble_eq_true rfl) (List.forall_mem_cons.mpr ⟨rfl, List.forall_mem_cons.mpr ⟨rfl, fun _ h => nomatch h⟩⟩) ?_
  show xv_W mX11_place 6 0 0 _ 0 0 (sx n c) I (rx c) J 0 [some (.ref 60), some (.int (nI a)), none, none, none] []
  refine xv_al0 fX11_place_0 ?_
  refine xv_il1 fX11_place_1 ?_
  refine xv_callV1R (m_isAdvert_t n c _ J ha hn hc20) fX11_place_2 YX11_isAdvert VX11_isAdvert lX11_158 rfl rfl (sx_60 _ _) (Nat.le_of_ble_eq_true rfl) (by decide) (by decide) (by decide) ?_
  refine xv_is2 fX11_place_5 ?_
  refine xv_al0 fX11_place_6 ?_
  refine xv_il2 fX11_place_7 ?_
  refine xv_if_ne fX11_place_8 (fun h_8 => ?_) (fun h_8 => ?_)
  · refine xv_al0 fX11_place_15 ?_
    refine xv_getR fX11_place_16 gX11_41 rfl (sx_60 _ _) (rx_60_12 _) ?_
    refine xv_il1 fX11_place_19 ?_
    refine xv_ialdN fX11_place_20 (sx_71 _ _) (⟨by omega, by decide⟩) ?_
    refine xv_k fX11_place_21 ?_
    refine xv_ic_ne fX11_place_22 (fun h_22 => ?_) (fun h_22 => ?_)
    · exact absurd hpl h_22
    · refine xv_k fX11_place_25 ?_
      refine xv_goto fX11_place_26 ?_
      refine xv_callV1R (m_fails0 n c _ J) fX11_place_30 YX11_fails VX11_fails lX11_137 rfl rfl (sx_60 _ _) (Nat.le_of_ble_eq_true rfl) (by decide) (by decide) (by decide) ?_
      refine xv_if_eq fX11_place_33 (fun h_33 => ?_) (fun h_33 => ?_)
      · refine xv_k fX11_place_38 ?_
        refine xv_is3 fX11_place_39 ?_
        refine xv_k fX11_place_40 ?_
        refine xv_is4 fX11_place_42 ?_
        refine l_mplace n c _ J ha hc20 (by rw [xv_u_ne _ _ _ (by decide)]; exact hct) hct2 (by rw [xv_u_nk _ _ _ (by decide)]; exact hn) (by rw [xv_u_ne _ _ _ (by decide)]; exact hw) (by rw [xv_u_ne _ _ _ (by decide)]; exact hh) hw2 hh2 120 (-1) (Nat.le_refl _) (mFnd_N _ _) (fun s hs => ?_)
        obtain rfl := mFnd_fs hs
        rw [fsP_eq hlo hsp hj]
        refine xv_il3 fX11_place_93 ?_
        refine xv_k fX11_place_94 ?_
        refine xv_ic_ne fX11_place_95 (fun h_95 => ?_) (fun h_95 => ?_)
        · refine xv_al0 fX11_place_100 ?_
          refine xv_getR fX11_place_101 gX11_41 rfl (sx_60 _ _) (rx_60_12 _) ?_
          refine xv_il1 fX11_place_104 ?_
          refine xv_k fX11_place_105 ?_
          refine xv_il3 fX11_place_107 ?_
          refine xv_k fX11_place_108 ?_
          refine xv_idiv fX11_place_110 (by decide) ?_
          rw [nI_div (by omega) (by decide)]
          refine xv_imul fX11_place_111 ?_
          rw [nI_mul]
          refine xv_il3 fX11_place_112 ?_
          refine xv_k fX11_place_113 ?_
          refine xv_irem fX11_place_115 (by decide) ?_
          rw [nI_rem (by omega) (by decide)]
          refine xv_iadd fX11_place_116 ?_
          rw [nI_add]
          refine xv_iastN fX11_place_117 (sx_71 _ _) (⟨by omega, by decide⟩) ?_
          refine xv_al0 fX11_place_118 ?_
          refine xv_il1 fX11_place_119 ?_
          refine xv_il3 fX11_place_120 ?_
          refine xv_k fX11_place_121 ?_
          refine xv_idiv fX11_place_123 (by decide) ?_
          rw [nI_div (by omega) (by decide)]
          refine xv_il3 fX11_place_124 ?_
          refine xv_k fX11_place_125 ?_
          refine xv_irem fX11_place_127 (by decide) ?_
          rw [nI_rem (by omega) (by decide)]
          refine xv_k fX11_place_128 ?_
          refine xv_il1 fX11_place_130 ?_
          refine xv_iadd fX11_place_131 ?_
          rw [nI_add]
          refine xv_callV4V (m_fills n c _ J (by omega) (p := j / 12) (by omega) (f := j % 12) (by have := hsp.2.1; have := hsp.2.2.1; omega) hw2 hh2 (by rw [xv_u_ne _ _ _ (by decide), xv_u_ne _ _ _ (by decide)]; exact hw) (by rw [xv_u_ne _ _ _ (by decide), xv_u_ne _ _ _ (by decide)]; exact hh)) fX11_place_132 YX11_fills VX11_fills lX11_167 rfl rfl (sx_60 _ _) (Nat.le_of_ble_eq_true rfl) (by decide) (by decide) (by decide) ?_
          refine xv_al0 fX11_place_135 ?_
          refine xv_getR fX11_place_136 gX11_41 rfl (sx_60 _ _) (rx_60_12 _) ?_
          refine xv_il1 fX11_place_139 ?_
          refine xv_ialdN fX11_place_140 (sx_71 _ _) (⟨by omega, by decide⟩) ?_
          rw [mFill_o _ _ (by decide) (by decide) (Or.inl (by decide)), xv_u_eq]
          exact xv_iret fX11_place_141 rfl rfl (xv_eq_I rfl rfl)
        · exact absurd h_95 (nI_nm1 (by omega))
      · exact absurd h_33 (by decide)
  · exact absurd h_8 (by decide)
theorem m_take_a (n : Nat) (c : Nat × Nat) (I : xv_I) (J : xv_J) {x : Int32} (hx : ∀ k, x = nI k → k < 20 → c.1 ≤ k) (hn : I 60 5 = nI c.1) (hn2 : c.1 ≤ 20) : xv_Met mX11_takeOff 6 0 0 (sx n c) I (rx c) J [.ref 60, .int x] (xv_eq (.inl (some (.int (nI 0)))) (sx n c) (xv_u I 60 48 (nI 1)) (rx c) J) := by
  refine xv_Met.of (by decide +kernel) (Nat.le_of_ble_eq_true rfl) (List.forall_mem_cons.mpr ⟨rfl, List.forall_mem_cons.mpr ⟨rfl, fun _ h => nomatch h⟩⟩) ?_
  show xv_W mX11_takeOff 6 0 0 _ 0 0 (sx n c) I (rx c) J 0 [some (.ref 60), some (.int x), none, none] []
  refine xv_al0 fX11_takeOff_0 ?_
  refine xv_il1 fX11_takeOff_1 ?_
  refine xv_callV1R (m_isAdvert_f n c _ J hx hn hn2) fX11_takeOff_2 YX11_isAdvert VX11_isAdvert lX11_158 rfl rfl (sx_60 _ _) (Nat.le_of_ble_eq_true rfl) (by decide) (by decide) (by decide) ?_
  refine xv_is2 fX11_takeOff_5 ?_
  refine xv_al0 fX11_takeOff_6 ?_
  refine xv_il2 fX11_takeOff_7 ?_
  refine xv_if_ne fX11_takeOff_8 (fun h_8 => ?_) (fun h_8 => ?_)
  · exact absurd h_8 (by decide)
  · refine xv_k fX11_takeOff_11 ?_
    refine xv_goto fX11_takeOff_12 ?_
    refine xv_callV1R (m_fails1 n c _ J) fX11_takeOff_30 YX11_fails VX11_fails lX11_137 rfl rfl (sx_60 _ _) (Nat.le_of_ble_eq_true rfl) (by decide) (by decide) (by decide) ?_
    refine xv_if_eq fX11_takeOff_33 (fun h_33 => ?_) (fun h_33 => ?_)
    · exact absurd h_33 (by decide)
    · refine xv_k fX11_takeOff_36 ?_
      exact xv_iret fX11_takeOff_37 rfl rfl xv_eq_i

theorem m_take_b (n : Nat) (c : Nat × Nat) (I : xv_I) (J : xv_J) {a : Nat} (ha : a < c.1) (hn : I 60 5 = nI c.1) (hn2 : c.1 ≤ 20) (hpl : I 71 a = -1) : xv_Met mX11_takeOff 6 0 0 (sx n c) I (rx c) J [.ref 60, .int (nI a)] (xv_eq (.inl (some (.int (nI 0)))) (sx n c) (xv_u I 60 48 (nI 2)) (rx c) J) := by
  refine xv_Met.of (by decide +kernel) (Nat.le_of_ble_eq_true rfl) (List.forall_mem_cons.mpr ⟨rfl, List.forall_mem_cons.mpr ⟨rfl, fun _ h => nomatch h⟩⟩) ?_
  show xv_W mX11_takeOff 6 0 0 _ 0 0 (sx n c) I (rx c) J 0 [some (.ref 60), some (.int (nI a)), none, none] []
  refine xv_al0 fX11_takeOff_0 ?_
  refine xv_il1 fX11_takeOff_1 ?_
  refine xv_callV1R (m_isAdvert_t n c _ J ha hn hn2) fX11_takeOff_2 YX11_isAdvert VX11_isAdvert lX11_158 rfl rfl (sx_60 _ _) (Nat.le_of_ble_eq_true rfl) (by decide) (by decide) (by decide) ?_
  refine xv_is2 fX11_takeOff_5 ?_
  refine xv_al0 fX11_takeOff_6 ?_
  refine xv_il2 fX11_takeOff_7 ?_
  refine xv_if_ne fX11_takeOff_8 (fun h_8 => ?_) (fun h_8 => ?_)
  · refine xv_al0 fX11_takeOff_15 ?_
    refine xv_getR fX11_takeOff_16 gX11_41 rfl (sx_60 _ _) (rx_60_12 _) ?_
    refine xv_il1 fX11_takeOff_19 ?_
    refine xv_ialdN fX11_takeOff_20 (sx_71 _ _) (⟨by omega, by decide⟩) ?_
    refine xv_k fX11_takeOff_21 ?_
    refine xv_ic_ne fX11_takeOff_22 (fun h_22 => ?_) (fun h_22 => ?_)
    · exact absurd hpl h_22
    · refine xv_k fX11_takeOff_25 ?_
      refine xv_goto fX11_takeOff_26 ?_
      refine xv_callV1R (m_fails2 n c _ J) fX11_takeOff_30 YX11_fails VX11_fails lX11_137 rfl rfl (sx_60 _ _) (Nat.le_of_ble_eq_true rfl) (by decide) (by decide) (by decide) ?_
      refine xv_if_eq fX11_takeOff_33 (fun h_33 => ?_) (fun h_33 => ?_)
      · exact absurd h_33 (by decide)
      · refine xv_k fX11_takeOff_36 ?_
        exact xv_iret fX11_takeOff_37 rfl rfl xv_eq_i
  · exact absurd h_8 (by decide)

theorem d100 {p f : Nat} (hf : f < 12) : (100 * p + f) / 100 = p ∧ (100 * p + f) % 100 = f := by omega
theorem m_take_ok (n : Nat) (c : Nat × Nat) (I : xv_I) (J : xv_J) {a p f w h : Nat} (ha : a < c.1) (hc20 : c.1 ≤ 20) (hn : I 60 5 = nI c.1) (hw : I 66 a = nI w) (hh : I 67 a = nI h) (hw2 : 1 ≤ w ∧ w ≤ 3) (hh2 : 1 ≤ h ∧ h ≤ 4) (hpl : I 71 a = nI (100 * p + f)) (hp : p < 10) (hf : f < 12) (hb : f + 3 * h + w ≤ 15) : xv_Met mX11_takeOff 6 0 0 (sx n c) I (rx c) J [.ref 60, .int (nI a)] (xv_eq (.inl (some (.int (nI (100 * p + f))))) (sx n c) (xv_u (mFill p f w h (nI 0) (xv_u I 60 48 (nI 0))) 71 a (-1)) (rx c) J) := by
  refine xv_Met.of (by decide +kernel) (Nat.le_of_ble_eq_true rfl) (List.forall_mem_cons.mpr ⟨rfl, List.forall_mem_cons.mpr ⟨rfl, fun _ h => nomatch h⟩⟩) ?_
  show xv_W mX11_takeOff 6 0 0 _ 0 0 (sx n c) I (rx c) J 0 [some (.ref 60), some (.int (nI a)), none, none] []
  refine xv_al0 fX11_takeOff_0 ?_
  refine xv_il1 fX11_takeOff_1 ?_
  refine xv_callV1R (m_isAdvert_t n c _ J ha hn hc20) fX11_takeOff_2 YX11_isAdvert VX11_isAdvert lX11_158 rfl rfl (sx_60 _ _) (Nat.le_of_ble_eq_true rfl) (by decide) (by decide) (by decide) ?_
  refine xv_is2 fX11_takeOff_5 ?_
  refine xv_al0 fX11_takeOff_6 ?_
  refine xv_il2 fX11_takeOff_7 ?_
  refine xv_if_ne fX11_takeOff_8 (fun h_8 => ?_) (fun h_8 => ?_)
  · refine xv_al0 fX11_takeOff_15 ?_
    refine xv_getR fX11_takeOff_16 gX11_41 rfl (sx_60 _ _) (rx_60_12 _) ?_
    refine xv_il1 fX11_takeOff_19 ?_
    refine xv_ialdN fX11_takeOff_20 (sx_71 _ _) (⟨by omega, by decide⟩) ?_
    rw [hpl]
    refine xv_k fX11_takeOff_21 ?_
    refine xv_ic_ne fX11_takeOff_22 (fun h_22 => ?_) (fun h_22 => ?_)
    · refine xv_k fX11_takeOff_29 ?_
      refine xv_callV1R (m_fails0 n c _ J) fX11_takeOff_30 YX11_fails VX11_fails lX11_137 rfl rfl (sx_60 _ _) (Nat.le_of_ble_eq_true rfl) (by decide) (by decide) (by decide) ?_
      refine xv_if_eq fX11_takeOff_33 (fun h_33 => ?_) (fun h_33 => ?_)
      · refine xv_al0 fX11_takeOff_38 ?_
        refine xv_getR fX11_takeOff_39 gX11_41 rfl (sx_60 _ _) (rx_60_12 _) ?_
        refine xv_il1 fX11_takeOff_42 ?_
        refine xv_ialdN fX11_takeOff_43 (sx_71 _ _) (⟨by omega, by decide⟩) ?_
        rw [xv_u_ne _ _ _ (by decide), hpl]
        refine xv_is3 fX11_takeOff_44 ?_
        refine xv_al0 fX11_takeOff_45 ?_
        refine xv_il1 fX11_takeOff_46 ?_
        refine xv_il3 fX11_takeOff_47 ?_
        refine xv_k fX11_takeOff_48 ?_
        refine xv_idiv fX11_takeOff_50 (by decide) ?_
        rw [nI_div (by omega) (by decide), (d100 hf).1]
        refine xv_il3 fX11_takeOff_51 ?_
        refine xv_k fX11_takeOff_52 ?_
        refine xv_irem fX11_takeOff_54 (by decide) ?_
        rw [nI_rem (by omega) (by decide), (d100 hf).2]
        refine xv_k fX11_takeOff_55 ?_
        refine xv_callV4V (m_fills n c _ J (by omega) hp hb hw2 hh2 (by rw [xv_u_ne _ _ _ (by decide)]; exact hw) (by rw [xv_u_ne _ _ _ (by decide)]; exact hh)) fX11_takeOff_56 YX11_fills VX11_fills lX11_167 rfl rfl (sx_60 _ _) (Nat.le_of_ble_eq_true rfl) (by decide) (by decide) (by decide) ?_
        refine xv_al0 fX11_takeOff_59 ?_
        refine xv_getR fX11_takeOff_60 gX11_41 rfl (sx_60 _ _) (rx_60_12 _) ?_
        refine xv_il1 fX11_takeOff_63 ?_
        refine xv_k fX11_takeOff_64 ?_
        refine xv_iastN fX11_takeOff_65 (sx_71 _ _) (⟨by omega, by decide⟩) ?_
        refine xv_il3 fX11_takeOff_66 ?_
        exact xv_iret fX11_takeOff_67 rfl rfl xv_eq_i
      · exact absurd h_33 (by decide)
    · exact absurd h_22 (nI_nm1 (by omega))
  · exact absurd h_8 (by decide)

abbrev mInP (I : xv_I) (z k : Nat) : Prop := ¬ I 71 k = -1 ∧ (I 71 k / nI 100 < nI 7 ∨ I 71 k / nI 100 = nI 7 + nI z)
noncomputable def mIn1 (I : xv_I) (z k s : Nat) : Nat := iteP (mInP I z k) (s + 1) s
noncomputable def mIn (I : xv_I) (na z : Nat) : Nat := it (mIn1 I z) na 0 0
theorem m_in_a (n : Nat) (c : Nat × Nat) (I : xv_I) (J : xv_J) {x : Int32} (hx : x < nI 0 ∨ ¬ x ≤ nI 2) : xv_Met mX11_advertsIn 6 0 0 (sx n c) I (rx c) J [.ref 60, .int x] (xv_eq (.inl (some (.int (nI 0)))) (sx n c) (xv_u I 60 48 (nI 1)) (rx c) J) := by
  refine xv_Met.of (by decide +kernel) (Nat.le_of_ble_eq_true rfl) (List.forall_mem_cons.mpr ⟨rfl, List.forall_mem_cons.mpr ⟨rfl, fun _ h => nomatch h⟩⟩) ?_
  show xv_W mX11_advertsIn 6 0 0 _ 0 0 (sx n c) I (rx c) J 0 [some (.ref 60), some (.int x), none, none] []
  refine xv_al0 fX11_advertsIn_0 ?_
  refine xv_il1 fX11_advertsIn_1 ?_
  refine xv_k fX11_advertsIn_2 ?_
  refine xv_k fX11_advertsIn_3 ?_
  refine xv_callS3R (m_isIn_f n c _ J (hx)) fX11_advertsIn_4 YX11_isIn VX11_isIn lX11_126 rfl (Nat.le_of_ble_eq_true rfl) (by decide) (by decide) (by decide) ?_
  refine xv_if_eq fX11_advertsIn_7 (fun h_7 => ?_) (fun h_7 => ?_)
  · refine xv_k fX11_advertsIn_14 ?_
    refine xv_callV1R (m_fails1 n c _ J) fX11_advertsIn_15 YX11_fails VX11_fails lX11_137 rfl rfl (sx_60 _ _) (Nat.le_of_ble_eq_true rfl) (by decide) (by decide) (by decide) ?_
    refine xv_if_eq fX11_advertsIn_18 (fun h_18 => ?_) (fun h_18 => ?_)
    · exact absurd h_18 (by decide)
    · refine xv_k fX11_advertsIn_21 ?_
      exact xv_iret fX11_advertsIn_22 rfl rfl xv_eq_i
  · exact absurd h_7 (by decide)

theorem l_min (n : Nat) (c : Nat × Nat) (I : xv_I) (J : xv_J) {z : Nat} (hn : I 60 5 = nI c.1) (hc20 : c.1 ≤ 20) {Q : xv_Q} : ∀ (m k : Nat) (s : Nat), k + m = c.1 → (xv_W mX11_advertsIn 6 0 0 Q 0 0 (sx n c) I (rx c) J 89 [some (.ref 60), some (.int (nI z)), some (.int (nI (it (mIn1 I z) m k s))), some (.int (nI c.1))] []) → xv_W mX11_advertsIn 6 0 0 Q 0 0 (sx n c) I (rx c) J 27 [some (.ref 60), some (.int (nI z)), some (.int (nI s)), some (.int (nI k))] [] := by
  intro m
  induction m with
  | zero =>
    intro k s hm i0
    obtain rfl : k = c.1 := by omega
    refine xv_il3 fX11_advertsIn_27 ?_
    refine xv_al0 fX11_advertsIn_28 ?_
    refine xv_getI fX11_advertsIn_29 gX11_147 rfl (sx_60 _ _) ?_
    rw [hn]
    refine xv_ic_ge fX11_advertsIn_32 (fun h_32 => ?_) (fun h_32 => ?_)
    · exact i0
    · exact absurd (nI_le (Nat.le_refl _) (by omega)) h_32
  | succ m ih =>
    intro k s hm i0
    have hk : k < c.1 := by omega
    show xv_W mX11_advertsIn 6 0 0 _ 0 0 (sx n c) I (rx c) J 27 [some (.ref 60), some (.int (nI z)), some (.int (nI s)), some (.int (nI k))] []
    refine xv_il3 fX11_advertsIn_27 ?_
    refine xv_al0 fX11_advertsIn_28 ?_
    refine xv_getI fX11_advertsIn_29 gX11_147 rfl (sx_60 _ _) ?_
    rw [hn]
    refine xv_ic_ge fX11_advertsIn_32 (fun h_32 => ?_) (fun h_32 => ?_)
    · exact absurd h_32 (nI_ge hk (by omega))
    · refine xv_il2 fX11_advertsIn_35 ?_
      refine xv_al0 fX11_advertsIn_36 ?_
      refine xv_getR fX11_advertsIn_37 gX11_41 rfl (sx_60 _ _) (rx_60_12 _) ?_
      refine xv_il3 fX11_advertsIn_40 ?_
      refine xv_ialdN fX11_advertsIn_41 (sx_71 _ _) (⟨by omega, by decide⟩) ?_
      refine xv_k fX11_advertsIn_42 ?_
      refine xv_ic_eq fX11_advertsIn_43 (fun h_43 => ?_) (fun h_43 => ?_)
      · refine xv_k fX11_advertsIn_80 ?_
        refine xv_iadd fX11_advertsIn_81 ?_
        rw [nI_add]
        refine xv_is2 fX11_advertsIn_82 ?_
        refine xv_iincN3 (a := 1) fX11_advertsIn_83 (by decide) ?_
        refine xv_goto fX11_advertsIn_86 ?_
        exact ih (k + 1) s (by omega) (by rw [show it (mIn1 I z) (m + 1) k s = it (mIn1 I z) m (k + 1) (mIn1 I z k s) from rfl, mIn1, iteP_f (fun h => h.1 h_43)] at i0; exact i0)
      · refine xv_al0 fX11_advertsIn_46 ?_
        refine xv_getR fX11_advertsIn_47 gX11_41 rfl (sx_60 _ _) (rx_60_12 _) ?_
        refine xv_il3 fX11_advertsIn_50 ?_
        refine xv_ialdN fX11_advertsIn_51 (sx_71 _ _) (⟨by omega, by decide⟩) ?_
        refine xv_k fX11_advertsIn_52 ?_
        refine xv_idiv fX11_advertsIn_54 (by decide) ?_
        refine xv_k fX11_advertsIn_55 ?_
        refine xv_ic_lt fX11_advertsIn_57 (fun h_57 => ?_) (fun h_57 => ?_)
        · refine xv_k fX11_advertsIn_76 ?_
          refine xv_goto fX11_advertsIn_77 ?_
          refine xv_iadd fX11_advertsIn_81 ?_
          rw [nI_add]
          refine xv_is2 fX11_advertsIn_82 ?_
          refine xv_iincN3 (a := 1) fX11_advertsIn_83 (by decide) ?_
          refine xv_goto fX11_advertsIn_86 ?_
          exact ih (k + 1) (s + 1) (by omega) (by rw [show it (mIn1 I z) (m + 1) k s = it (mIn1 I z) m (k + 1) (mIn1 I z k s) from rfl, mIn1, iteP_t ⟨h_43, Or.inl h_57⟩] at i0; exact i0)
        · refine xv_al0 fX11_advertsIn_60 ?_
          refine xv_getR fX11_advertsIn_61 gX11_41 rfl (sx_60 _ _) (rx_60_12 _) ?_
          refine xv_il3 fX11_advertsIn_64 ?_
          refine xv_ialdN fX11_advertsIn_65 (sx_71 _ _) (⟨by omega, by decide⟩) ?_
          refine xv_k fX11_advertsIn_66 ?_
          refine xv_idiv fX11_advertsIn_68 (by decide) ?_
          refine xv_k fX11_advertsIn_69 ?_
          refine xv_il1 fX11_advertsIn_71 ?_
          refine xv_iadd fX11_advertsIn_72 ?_
          refine xv_ic_ne fX11_advertsIn_73 (fun h_73 => ?_) (fun h_73 => ?_)
          · refine xv_k fX11_advertsIn_80 ?_
            refine xv_iadd fX11_advertsIn_81 ?_
            rw [nI_add]
            refine xv_is2 fX11_advertsIn_82 ?_
            refine xv_iincN3 (a := 1) fX11_advertsIn_83 (by decide) ?_
            refine xv_goto fX11_advertsIn_86 ?_
            exact ih (k + 1) s (by omega) (by rw [show it (mIn1 I z) (m + 1) k s = it (mIn1 I z) m (k + 1) (mIn1 I z k s) from rfl, mIn1, iteP_f (fun h => h.2.elim h_57 h_73)] at i0; exact i0)
          · refine xv_k fX11_advertsIn_76 ?_
            refine xv_goto fX11_advertsIn_77 ?_
            refine xv_iadd fX11_advertsIn_81 ?_
            rw [nI_add]
            refine xv_is2 fX11_advertsIn_82 ?_
            refine xv_iincN3 (a := 1) fX11_advertsIn_83 (by decide) ?_
            refine xv_goto fX11_advertsIn_86 ?_
            exact ih (k + 1) (s + 1) (by omega) (by rw [show it (mIn1 I z) (m + 1) k s = it (mIn1 I z) m (k + 1) (mIn1 I z k s) from rfl, mIn1, iteP_t ⟨h_43, Or.inr h_73⟩] at i0; exact i0)

theorem mIn_t (I : xv_I) (x : Int32) (z na : Nat) : it (mIn1 (xv_u I 60 48 x) z) na 0 0 = mIn I na z := by
  unfold mIn
  congr 1
theorem m_in_ok (n : Nat) (c : Nat × Nat) (I : xv_I) (J : xv_J) {z : Nat} (hz : z < 3) (hn : I 60 5 = nI c.1) (hc20 : c.1 ≤ 20) : xv_Met mX11_advertsIn 6 0 0 (sx n c) I (rx c) J [.ref 60, .int (nI z)] (xv_eq (.inl (some (.int (nI (mIn I c.1 z))))) (sx n c) (xv_u I 60 48 (nI 0)) (rx c) J) := by
  refine xv_Met.of (by decide +kernel) (Nat.le_of_ble_eq_true rfl) (List.forall_mem_cons.mpr ⟨rfl, List.forall_mem_cons.mpr ⟨rfl, fun _ h => nomatch h⟩⟩) ?_
  show xv_W mX11_advertsIn 6 0 0 _ 0 0 (sx n c) I (rx c) J 0 [some (.ref 60), some (.int (nI z)), none, none] []
  refine xv_al0 fX11_advertsIn_0 ?_
  refine xv_il1 fX11_advertsIn_1 ?_
  refine xv_k fX11_advertsIn_2 ?_
  refine xv_k fX11_advertsIn_3 ?_
  refine xv_callS3R (m_isIn_t n c _ J ((okR_n (Nat.zero_le _) (by omega) (by decide) : okR 0 2 (nI z))).1 ((okR_n (Nat.zero_le _) (by omega) (by decide) : okR 0 2 (nI z))).2) fX11_advertsIn_4 YX11_isIn VX11_isIn lX11_126 rfl (Nat.le_of_ble_eq_true rfl) (by decide) (by decide) (by decide) ?_
  refine xv_if_eq fX11_advertsIn_7 (fun h_7 => ?_) (fun h_7 => ?_)
  · exact absurd h_7 (by decide)
  · refine xv_k fX11_advertsIn_10 ?_
    refine xv_goto fX11_advertsIn_11 ?_
    refine xv_callV1R (m_fails0 n c _ J) fX11_advertsIn_15 YX11_fails VX11_fails lX11_137 rfl rfl (sx_60 _ _) (Nat.le_of_ble_eq_true rfl) (by decide) (by decide) (by decide) ?_
    refine xv_if_eq fX11_advertsIn_18 (fun h_18 => ?_) (fun h_18 => ?_)
    · refine xv_k fX11_advertsIn_23 ?_
      refine xv_is2 fX11_advertsIn_24 ?_
      refine xv_k fX11_advertsIn_25 ?_
      refine xv_is3 fX11_advertsIn_26 ?_
      exact l_min n c _ J (by rw [xv_u_nk _ _ _ (by decide)]; exact hn) hc20 c.1 0 0 (by omega) (by exact xv_il2 fX11_advertsIn_89 (xv_iret fX11_advertsIn_90 rfl rfl (xv_eq_I (by rw [mIn_t]) rfl)))
    · exact absurd h_18 (by decide)
