theorem fa_le_t {a b : Int32} (h : ¬ b < a) : a ≤ b := fa_of_nlt h
theorem m_isIn_t (n : Nat) (c : Nat × Nat) (I : xv_I) (J : xv_J) {x lo hi : Int32} (h1 : ¬ x < lo) (h2 : x ≤ hi) : xv_Met mX11_isIn 0 0 0 (sx n c) I (rx c) J [.int x, .int lo, .int hi] (xv_eq (.inl (some (.int (nI 1)))) (sx n c) (I) (rx c) J) := by
  refine xv_Met.of (by decide +kernel) (Nat.le_of_ble_eq_true rfl) (List.forall_mem_cons.mpr ⟨rfl, List.forall_mem_cons.mpr ⟨rfl, List.forall_mem_cons.mpr ⟨rfl, fun _ h => nomatch h⟩⟩⟩) ?_
  show xv_W mX11_isIn 0 0 0 _ 0 0 (sx n c) I (rx c) J 0 [some (.int x), some (.int lo), some (.int hi)] []
  refine xv_il0 fX11_isIn_0 ?_
  refine xv_il1 fX11_isIn_1 ?_
  refine xv_ic_lt fX11_isIn_2 (fun h_2 => ?_) (fun h_2 => ?_)
  · exact absurd h_2 h1
  · refine xv_il0 fX11_isIn_5 ?_
    refine xv_il2 fX11_isIn_6 ?_
    refine xv_ic_gt fX11_isIn_7 (fun h_7 => ?_) (fun h_7 => ?_)
    · exact absurd h_7 (fa_le_nlt h2)
    · refine xv_k fX11_isIn_10 ?_
      refine xv_goto fX11_isIn_11 ?_
      exact xv_iret fX11_isIn_15 rfl rfl xv_eq_i

theorem m_isIn_f (n : Nat) (c : Nat × Nat) (I : xv_I) (J : xv_J) {x lo hi : Int32} (h : x < lo ∨ ¬ x ≤ hi) : xv_Met mX11_isIn 0 0 0 (sx n c) I (rx c) J [.int x, .int lo, .int hi] (xv_eq (.inl (some (.int (nI 0)))) (sx n c) (I) (rx c) J) := by
  refine xv_Met.of (by decide +kernel) (Nat.le_of_ble_eq_true rfl) (List.forall_mem_cons.mpr ⟨rfl, List.forall_mem_cons.mpr ⟨rfl, List.forall_mem_cons.mpr ⟨rfl, fun _ h => nomatch h⟩⟩⟩) ?_
  show xv_W mX11_isIn 0 0 0 _ 0 0 (sx n c) I (rx c) J 0 [some (.int x), some (.int lo), some (.int hi)] []
  refine xv_il0 fX11_isIn_0 ?_
  refine xv_il1 fX11_isIn_1 ?_
  refine xv_ic_lt fX11_isIn_2 (fun h_2 => ?_) (fun h_2 => ?_)
  · refine xv_k fX11_isIn_14 ?_
    exact xv_iret fX11_isIn_15 rfl rfl xv_eq_i
  · refine xv_il0 fX11_isIn_5 ?_
    refine xv_il2 fX11_isIn_6 ?_
    refine xv_ic_gt fX11_isIn_7 (fun h_7 => ?_) (fun h_7 => ?_)
    · refine xv_k fX11_isIn_14 ?_
      exact xv_iret fX11_isIn_15 rfl rfl xv_eq_i
    · exact absurd (fa_of_nlt h_7) (h.resolve_left h_2)

theorem m_isPage_t (n : Nat) (c : Nat × Nat) (I : xv_I) (J : xv_J) {p : Nat} (hp : p < 10) : xv_Met mX11_isPage 1 0 0 (sx n c) I (rx c) J [.int (nI p)] (xv_eq (.inl (some (.int (nI 1)))) (sx n c) (I) (rx c) J) := by
  refine xv_Met.of (by decide +kernel) (Nat.le_of_ble_eq_true rfl) (List.forall_mem_cons.mpr ⟨rfl, fun _ h => nomatch h⟩) ?_
  show xv_W mX11_isPage 1 0 0 _ 0 0 (sx n c) I (rx c) J 0 [some (.int (nI p))] []
  refine xv_il0 fX11_isPage_0 ?_
  refine xv_k fX11_isPage_1 ?_
  refine xv_k fX11_isPage_2 ?_
  refine xv_callS3R (m_isIn_t n c _ J ((okR_n (Nat.zero_le _) (by omega) (by decide) : okR 0 9 (nI p))).1 ((okR_n (Nat.zero_le _) (by omega) (by decide) : okR 0 9 (nI p))).2) fX11_isPage_4 YX11_isIn VX11_isIn lX11_126 rfl (Nat.le_of_ble_eq_true rfl) (by decide) (by decide) (by decide) ?_
  exact xv_iret fX11_isPage_7 rfl rfl xv_eq_i

theorem m_isPage_f (n : Nat) (c : Nat × Nat) (I : xv_I) (J : xv_J) {x : Int32} (h : x < 0 ∨ ¬ x ≤ nI 9) : xv_Met mX11_isPage 1 0 0 (sx n c) I (rx c) J [.int x] (xv_eq (.inl (some (.int (nI 0)))) (sx n c) (I) (rx c) J) := by
  refine xv_Met.of (by decide +kernel) (Nat.le_of_ble_eq_true rfl) (List.forall_mem_cons.mpr ⟨rfl, fun _ h => nomatch h⟩) ?_
  show xv_W mX11_isPage 1 0 0 _ 0 0 (sx n c) I (rx c) J 0 [some (.int x)] []
  refine xv_il0 fX11_isPage_0 ?_
  refine xv_k fX11_isPage_1 ?_
  refine xv_k fX11_isPage_2 ?_
  refine xv_callS3R (m_isIn_f n c _ J (h)) fX11_isPage_4 YX11_isIn VX11_isIn lX11_126 rfl (Nat.le_of_ble_eq_true rfl) (by decide) (by decide) (by decide) ?_
  exact xv_iret fX11_isPage_7 rfl rfl xv_eq_i

theorem m_isCell_t (n : Nat) (c : Nat × Nat) (I : xv_I) (J : xv_J) {p k : Nat} (hp : p < 10) (hk : k < 12) : xv_Met mX11_isCell 2 0 0 (sx n c) I (rx c) J [.int (nI p), .int (nI k)] (xv_eq (.inl (some (.int (nI 1)))) (sx n c) (I) (rx c) J) := by
  refine xv_Met.of (by decide +kernel) (Nat.le_of_ble_eq_true rfl) (List.forall_mem_cons.mpr ⟨rfl, List.forall_mem_cons.mpr ⟨rfl, fun _ h => nomatch h⟩⟩) ?_
  show xv_W mX11_isCell 2 0 0 _ 0 0 (sx n c) I (rx c) J 0 [some (.int (nI p)), some (.int (nI k))] []
  refine xv_il0 fX11_isCell_0 ?_
  refine xv_callS1R (m_isPage_t n c _ J hp) fX11_isCell_1 YX11_isPage VX11_isPage lX11_130 rfl (Nat.le_of_ble_eq_true rfl) (by decide) (by decide) (by decide) ?_
  refine xv_if_eq fX11_isCell_4 (fun h_4 => ?_) (fun h_4 => ?_)
  · exact absurd h_4 (by decide)
  · refine xv_il1 fX11_isCell_7 ?_
    refine xv_k fX11_isCell_8 ?_
    refine xv_k fX11_isCell_9 ?_
    refine xv_callS3R (m_isIn_t n c _ J ((okR_n (Nat.zero_le _) (by omega) (by decide) : okR 0 11 (nI k))).1 ((okR_n (Nat.zero_le _) (by omega) (by decide) : okR 0 11 (nI k))).2) fX11_isCell_11 YX11_isIn VX11_isIn lX11_126 rfl (Nat.le_of_ble_eq_true rfl) (by decide) (by decide) (by decide) ?_
    refine xv_if_eq fX11_isCell_14 (fun h_14 => ?_) (fun h_14 => ?_)
    · exact absurd h_14 (by decide)
    · refine xv_k fX11_isCell_17 ?_
      refine xv_goto fX11_isCell_18 ?_
      exact xv_iret fX11_isCell_22 rfl rfl xv_eq_i

theorem m_isCell_f1 (n : Nat) (c : Nat × Nat) (I : xv_I) (J : xv_J) {x y : Int32} (h : x < 0 ∨ ¬ x ≤ nI 9) : xv_Met mX11_isCell 2 0 0 (sx n c) I (rx c) J [.int x, .int y] (xv_eq (.inl (some (.int (nI 0)))) (sx n c) (I) (rx c) J) := by
  refine xv_Met.of (by decide +kernel) (Nat.le_of_ble_eq_true rfl) (List.forall_mem_cons.mpr ⟨rfl, List.forall_mem_cons.mpr ⟨rfl, fun _ h => nomatch h⟩⟩) ?_
  show xv_W mX11_isCell 2 0 0 _ 0 0 (sx n c) I (rx c) J 0 [some (.int x), some (.int y)] []
  refine xv_il0 fX11_isCell_0 ?_
  refine xv_callS1R (m_isPage_f n c _ J h) fX11_isCell_1 YX11_isPage VX11_isPage lX11_130 rfl (Nat.le_of_ble_eq_true rfl) (by decide) (by decide) (by decide) ?_
  refine xv_if_eq fX11_isCell_4 (fun h_4 => ?_) (fun h_4 => ?_)
  · refine xv_k fX11_isCell_21 ?_
    exact xv_iret fX11_isCell_22 rfl rfl xv_eq_i
  · exact absurd h_4 (by decide)

theorem m_isCell_f2 (n : Nat) (c : Nat × Nat) (I : xv_I) (J : xv_J) {p : Nat} {y : Int32} (hp : p < 10) (h : y < 0 ∨ ¬ y ≤ nI 11) : xv_Met mX11_isCell 2 0 0 (sx n c) I (rx c) J [.int (nI p), .int y] (xv_eq (.inl (some (.int (nI 0)))) (sx n c) (I) (rx c) J) := by
  refine xv_Met.of (by decide +kernel) (Nat.le_of_ble_eq_true rfl) (List.forall_mem_cons.mpr ⟨rfl, List.forall_mem_cons.mpr ⟨rfl, fun _ h => nomatch h⟩⟩) ?_
  show xv_W mX11_isCell 2 0 0 _ 0 0 (sx n c) I (rx c) J 0 [some (.int (nI p)), some (.int y)] []
  refine xv_il0 fX11_isCell_0 ?_
  refine xv_callS1R (m_isPage_t n c _ J hp) fX11_isCell_1 YX11_isPage VX11_isPage lX11_130 rfl (Nat.le_of_ble_eq_true rfl) (by decide) (by decide) (by decide) ?_
  refine xv_if_eq fX11_isCell_4 (fun h_4 => ?_) (fun h_4 => ?_)
  · exact absurd h_4 (by decide)
  · refine xv_il1 fX11_isCell_7 ?_
    refine xv_k fX11_isCell_8 ?_
    refine xv_k fX11_isCell_9 ?_
    refine xv_callS3R (m_isIn_f n c _ J (h)) fX11_isCell_11 YX11_isIn VX11_isIn lX11_126 rfl (Nat.le_of_ble_eq_true rfl) (by decide) (by decide) (by decide) ?_
    refine xv_if_eq fX11_isCell_14 (fun h_14 => ?_) (fun h_14 => ?_)
    · refine xv_k fX11_isCell_21 ?_
      exact xv_iret fX11_isCell_22 rfl rfl xv_eq_i
    · exact absurd h_14 (by decide)

theorem m_fails0 (n : Nat) (c : Nat × Nat) (I : xv_I) (J : xv_J)  : xv_Met mX11_fails 0 0 0 (sx n c) I (rx c) J [.ref 60, .int (nI 0)] (xv_eq (.inl (some (.int (nI 0)))) (sx n c) (xv_u I 60 48 (nI 0)) (rx c) J) := by
  refine xv_Met.of (by decide +kernel) (Nat.le_of_ble_eq_true rfl) (List.forall_mem_cons.mpr ⟨rfl, List.forall_mem_cons.mpr ⟨rfl, fun _ h => nomatch h⟩⟩) ?_
  show xv_W mX11_fails 0 0 0 _ 0 0 (sx n c) I (rx c) J 0 [some (.ref 60), some (.int (nI 0))] []
  refine xv_al0 fX11_fails_0 ?_
  refine xv_il1 fX11_fails_1 ?_
  refine xv_putI fX11_fails_2 gX11_122 rfl (tp11_48 _) (sx_60 _ _) ⟨rfl, rfl⟩ ?_
  refine xv_il1 fX11_fails_5 ?_
  refine xv_if_le fX11_fails_6 (fun h_6 => ?_) (fun h_6 => ?_)
  · refine xv_k fX11_fails_13 ?_
    exact xv_iret fX11_fails_14 rfl rfl xv_eq_i
  · exact absurd (by decide) h_6

theorem m_fails1 (n : Nat) (c : Nat × Nat) (I : xv_I) (J : xv_J)  : xv_Met mX11_fails 0 0 0 (sx n c) I (rx c) J [.ref 60, .int (nI 1)] (xv_eq (.inl (some (.int (nI 1)))) (sx n c) (xv_u I 60 48 (nI 1)) (rx c) J) := by
  refine xv_Met.of (by decide +kernel) (Nat.le_of_ble_eq_true rfl) (List.forall_mem_cons.mpr ⟨rfl, List.forall_mem_cons.mpr ⟨rfl, fun _ h => nomatch h⟩⟩) ?_
  show xv_W mX11_fails 0 0 0 _ 0 0 (sx n c) I (rx c) J 0 [some (.ref 60), some (.int (nI 1))] []
  refine xv_al0 fX11_fails_0 ?_
  refine xv_il1 fX11_fails_1 ?_
  refine xv_putI fX11_fails_2 gX11_122 rfl (tp11_48 _) (sx_60 _ _) ⟨rfl, rfl⟩ ?_
  refine xv_il1 fX11_fails_5 ?_
  refine xv_if_le fX11_fails_6 (fun h_6 => ?_) (fun h_6 => ?_)
  · exact absurd h_6 (by decide)
  · refine xv_k fX11_fails_9 ?_
    refine xv_goto fX11_fails_10 ?_
    exact xv_iret fX11_fails_14 rfl rfl xv_eq_i

theorem m_fails2 (n : Nat) (c : Nat × Nat) (I : xv_I) (J : xv_J)  : xv_Met mX11_fails 0 0 0 (sx n c) I (rx c) J [.ref 60, .int (nI 2)] (xv_eq (.inl (some (.int (nI 1)))) (sx n c) (xv_u I 60 48 (nI 2)) (rx c) J) := by
  refine xv_Met.of (by decide +kernel) (Nat.le_of_ble_eq_true rfl) (List.forall_mem_cons.mpr ⟨rfl, List.forall_mem_cons.mpr ⟨rfl, fun _ h => nomatch h⟩⟩) ?_
  show xv_W mX11_fails 0 0 0 _ 0 0 (sx n c) I (rx c) J 0 [some (.ref 60), some (.int (nI 2))] []
  refine xv_al0 fX11_fails_0 ?_
  refine xv_il1 fX11_fails_1 ?_
  refine xv_putI fX11_fails_2 gX11_122 rfl (tp11_48 _) (sx_60 _ _) ⟨rfl, rfl⟩ ?_
  refine xv_il1 fX11_fails_5 ?_
  refine xv_if_le fX11_fails_6 (fun h_6 => ?_) (fun h_6 => ?_)
  · exact absurd h_6 (by decide)
  · refine xv_k fX11_fails_9 ?_
    refine xv_goto fX11_fails_10 ?_
    exact xv_iret fX11_fails_14 rfl rfl xv_eq_i

theorem m_fails3 (n : Nat) (c : Nat × Nat) (I : xv_I) (J : xv_J)  : xv_Met mX11_fails 0 0 0 (sx n c) I (rx c) J [.ref 60, .int (nI 3)] (xv_eq (.inl (some (.int (nI 1)))) (sx n c) (xv_u I 60 48 (nI 3)) (rx c) J) := by
  refine xv_Met.of (by decide +kernel) (Nat.le_of_ble_eq_true rfl) (List.forall_mem_cons.mpr ⟨rfl, List.forall_mem_cons.mpr ⟨rfl, fun _ h => nomatch h⟩⟩) ?_
  show xv_W mX11_fails 0 0 0 _ 0 0 (sx n c) I (rx c) J 0 [some (.ref 60), some (.int (nI 3))] []
  refine xv_al0 fX11_fails_0 ?_
  refine xv_il1 fX11_fails_1 ?_
  refine xv_putI fX11_fails_2 gX11_122 rfl (tp11_48 _) (sx_60 _ _) ⟨rfl, rfl⟩ ?_
  refine xv_il1 fX11_fails_5 ?_
  refine xv_if_le fX11_fails_6 (fun h_6 => ?_) (fun h_6 => ?_)
  · exact absurd h_6 (by decide)
  · refine xv_k fX11_fails_9 ?_
    refine xv_goto fX11_fails_10 ?_
    exact xv_iret fX11_fails_14 rfl rfl xv_eq_i

theorem m_thrown (n : Nat) (c : Nat × Nat) (I : xv_I) (J : xv_J)  : xv_Met mX11_thrown 0 0 0 (sx n c) I (rx c) J [.ref 60] (xv_eq (.inl (some (.int (I 60 48)))) (sx n c) (I) (rx c) J) := by
  refine xv_Met.of (by decide +kernel) (Nat.le_of_ble_eq_true rfl) (List.forall_mem_cons.mpr ⟨rfl, fun _ h => nomatch h⟩) ?_
  show xv_W mX11_thrown 0 0 0 _ 0 0 (sx n c) I (rx c) J 0 [some (.ref 60)] []
  refine xv_al0 fX11_thrown_0 ?_
  refine xv_getI fX11_thrown_1 gX11_122 rfl (sx_60 _ _) ?_
  exact xv_iret fX11_thrown_4 rfl rfl xv_eq_i

theorem nn_out {x : Int32} {w : Nat} (hx : ∀ k, x = nI k → k < 20 → w ≤ k) (hw : w ≤ 20) : x < nI 0 ∨ ¬ x ≤ nI w - nI 1 := by
  rcases nI_or x with h | ⟨k, h1, rfl⟩
  · exact Or.inl h
  · refine Or.inr fun q => ?_
    rcases Nat.eq_zero_or_pos w with h0 | h0
    · subst h0
      rw [show nI 0 - nI 1 = -1 by decide, fa_le, nI_toInt h1] at q
      have : (-1 : Int32).toInt = -1 := by decide
      omega
    · rw [nI_sub h0, fa_le, nI_toInt h1, nI_toInt (by omega)] at q
      have := hx k rfl (by omega)
      omega
theorem nn_out2 {x : Int32} {w : Nat} (hx : x < 0 ∨ ¬ x < nI w) (hw : w ≤ 20) : x < nI 0 ∨ ¬ x ≤ nI w - nI 1 := by
  refine nn_out (fun k hk h2 => ?_) hw
  subst hk
  rcases hx with h | h
  · exact absurd h (nI_nlt (Nat.zero_le _) (by omega))
  · exact Nat.le_of_not_lt fun q => h (nI_lt q (by omega))
theorem m_isAdvert_t (n : Nat) (c : Nat × Nat) (I : xv_I) (J : xv_J) {a : Nat} (ha : a < c.1) (hn : I 60 5 = nI c.1) (hn2 : c.1 ≤ 20) : xv_Met mX11_isAdvert 1 0 0 (sx n c) I (rx c) J [.ref 60, .int (nI a)] (xv_eq (.inl (some (.int (nI 1)))) (sx n c) (I) (rx c) J) := by
  refine xv_Met.of (by decide +kernel) (Nat.le_of_ble_eq_true rfl) (List.forall_mem_cons.mpr ⟨rfl, List.forall_mem_cons.mpr ⟨rfl, fun _ h => nomatch h⟩⟩) ?_
  show xv_W mX11_isAdvert 1 0 0 _ 0 0 (sx n c) I (rx c) J 0 [some (.ref 60), some (.int (nI a))] []
  refine xv_il1 fX11_isAdvert_0 ?_
  refine xv_k fX11_isAdvert_1 ?_
  refine xv_al0 fX11_isAdvert_2 ?_
  refine xv_getI fX11_isAdvert_3 gX11_147 rfl (sx_60 _ _) ?_
  rw [hn]
  refine xv_k fX11_isAdvert_6 ?_
  refine xv_isub fX11_isAdvert_7 ?_
  rw [nI_sub (by omega)]
  refine xv_callS3R (m_isIn_t n c _ J (nI_nlt (Nat.zero_le _) (by omega)) (nI_le (show a ≤ c.1 - 1 by omega) (by omega))) fX11_isAdvert_8 YX11_isIn VX11_isIn lX11_126 rfl (Nat.le_of_ble_eq_true rfl) (by decide) (by decide) (by decide) ?_
  exact xv_iret fX11_isAdvert_11 rfl rfl xv_eq_i

theorem m_isAdvert_f (n : Nat) (c : Nat × Nat) (I : xv_I) (J : xv_J) {x : Int32} (hx : ∀ k, x = nI k → k < 20 → c.1 ≤ k) (hn : I 60 5 = nI c.1) (hn2 : c.1 ≤ 20) : xv_Met mX11_isAdvert 1 0 0 (sx n c) I (rx c) J [.ref 60, .int x] (xv_eq (.inl (some (.int (nI 0)))) (sx n c) (I) (rx c) J) := by
  refine xv_Met.of (by decide +kernel) (Nat.le_of_ble_eq_true rfl) (List.forall_mem_cons.mpr ⟨rfl, List.forall_mem_cons.mpr ⟨rfl, fun _ h => nomatch h⟩⟩) ?_
  show xv_W mX11_isAdvert 1 0 0 _ 0 0 (sx n c) I (rx c) J 0 [some (.ref 60), some (.int x)] []
  refine xv_il1 fX11_isAdvert_0 ?_
  refine xv_k fX11_isAdvert_1 ?_
  refine xv_al0 fX11_isAdvert_2 ?_
  refine xv_getI fX11_isAdvert_3 gX11_147 rfl (sx_60 _ _) ?_
  rw [hn]
  refine xv_k fX11_isAdvert_6 ?_
  refine xv_isub fX11_isAdvert_7 ?_
  refine xv_callS3R (m_isIn_f n c _ J (nn_out hx hn2)) fX11_isAdvert_8 YX11_isIn VX11_isIn lX11_126 rfl (Nat.le_of_ble_eq_true rfl) (by decide) (by decide) (by decide) ?_
  exact xv_iret fX11_isAdvert_11 rfl rfl xv_eq_i

theorem m_isStory_t (n : Nat) (c : Nat × Nat) (I : xv_I) (J : xv_J) {a : Nat} (ha : a < c.2) (hn : I 60 13 = nI c.2) (hn2 : c.2 ≤ 20) : xv_Met mX11_isStory 1 0 0 (sx n c) I (rx c) J [.ref 60, .int (nI a)] (xv_eq (.inl (some (.int (nI 1)))) (sx n c) (I) (rx c) J) := by
  refine xv_Met.of (by decide +kernel) (Nat.le_of_ble_eq_true rfl) (List.forall_mem_cons.mpr ⟨rfl, List.forall_mem_cons.mpr ⟨rfl, fun _ h => nomatch h⟩⟩) ?_
  show xv_W mX11_isStory 1 0 0 _ 0 0 (sx n c) I (rx c) J 0 [some (.ref 60), some (.int (nI a))] []
  refine xv_il1 fX11_isStory_0 ?_
  refine xv_k fX11_isStory_1 ?_
  refine xv_al0 fX11_isStory_2 ?_
  refine xv_getI fX11_isStory_3 gX11_172 rfl (sx_60 _ _) ?_
  rw [hn]
  refine xv_k fX11_isStory_6 ?_
  refine xv_isub fX11_isStory_7 ?_
  rw [nI_sub (by omega)]
  refine xv_callS3R (m_isIn_t n c _ J (nI_nlt (Nat.zero_le _) (by omega)) (nI_le (show a ≤ c.2 - 1 by omega) (by omega))) fX11_isStory_8 YX11_isIn VX11_isIn lX11_126 rfl (Nat.le_of_ble_eq_true rfl) (by decide) (by decide) (by decide) ?_
  exact xv_iret fX11_isStory_11 rfl rfl xv_eq_i

theorem m_isStory_f (n : Nat) (c : Nat × Nat) (I : xv_I) (J : xv_J) {x : Int32} (hx : ∀ k, x = nI k → k < 20 → c.2 ≤ k) (hn : I 60 13 = nI c.2) (hn2 : c.2 ≤ 20) : xv_Met mX11_isStory 1 0 0 (sx n c) I (rx c) J [.ref 60, .int x] (xv_eq (.inl (some (.int (nI 0)))) (sx n c) (I) (rx c) J) := by
  refine xv_Met.of (by decide +kernel) (Nat.le_of_ble_eq_true rfl) (List.forall_mem_cons.mpr ⟨rfl, List.forall_mem_cons.mpr ⟨rfl, fun _ h => nomatch h⟩⟩) ?_
  show xv_W mX11_isStory 1 0 0 _ 0 0 (sx n c) I (rx c) J 0 [some (.ref 60), some (.int x)] []
  refine xv_il1 fX11_isStory_0 ?_
  refine xv_k fX11_isStory_1 ?_
  refine xv_al0 fX11_isStory_2 ?_
  refine xv_getI fX11_isStory_3 gX11_172 rfl (sx_60 _ _) ?_
  rw [hn]
  refine xv_k fX11_isStory_6 ?_
  refine xv_isub fX11_isStory_7 ?_
  refine xv_callS3R (m_isIn_f n c _ J (nn_out hx hn2)) fX11_isStory_8 YX11_isIn VX11_isIn lX11_126 rfl (Nat.le_of_ble_eq_true rfl) (by decide) (by decide) (by decide) ?_
  exact xv_iret fX11_isStory_11 rfl rfl xv_eq_i

theorem m_isEd_t (n : Nat) (c : Nat × Nat) (I : xv_I) (J : xv_J) {e w : Nat} (he : e < w) (hw : w ≤ 8) (hn : I 60 25 = nI w) : xv_Met mX11_isEdition 1 0 0 (sx n c) I (rx c) J [.ref 60, .int (nI e)] (xv_eq (.inl (some (.int (nI 1)))) (sx n c) (I) (rx c) J) := by
  refine xv_Met.of (by decide +kernel) (Nat.le_of_ble_eq_true rfl) (List.forall_mem_cons.mpr ⟨rfl, List.forall_mem_cons.mpr ⟨rfl, fun _ h => nomatch h⟩⟩) ?_
  show xv_W mX11_isEdition 1 0 0 _ 0 0 (sx n c) I (rx c) J 0 [some (.ref 60), some (.int (nI e))] []
  refine xv_il1 fX11_isEdition_0 ?_
  refine xv_k fX11_isEdition_1 ?_
  refine xv_al0 fX11_isEdition_2 ?_
  refine xv_getI fX11_isEdition_3 gX11_237 rfl (sx_60 _ _) ?_
  rw [hn]
  refine xv_k fX11_isEdition_6 ?_
  refine xv_isub fX11_isEdition_7 ?_
  rw [nI_sub (by omega)]
  refine xv_callS3R (m_isIn_t n c _ J (nI_nlt (Nat.zero_le _) (by omega)) (nI_le (show e ≤ w - 1 by omega) (by omega))) fX11_isEdition_8 YX11_isIn VX11_isIn lX11_126 rfl (Nat.le_of_ble_eq_true rfl) (by decide) (by decide) (by decide) ?_
  exact xv_iret fX11_isEdition_11 rfl rfl xv_eq_i

theorem m_isEd_f (n : Nat) (c : Nat × Nat) (I : xv_I) (J : xv_J) {x : Int32} {w : Nat} (hx : x < 0 ∨ ¬ x < nI w) (hw : w ≤ 8) (hn : I 60 25 = nI w) : xv_Met mX11_isEdition 1 0 0 (sx n c) I (rx c) J [.ref 60, .int x] (xv_eq (.inl (some (.int (nI 0)))) (sx n c) (I) (rx c) J) := by
  refine xv_Met.of (by decide +kernel) (Nat.le_of_ble_eq_true rfl) (List.forall_mem_cons.mpr ⟨rfl, List.forall_mem_cons.mpr ⟨rfl, fun _ h => nomatch h⟩⟩) ?_
  show xv_W mX11_isEdition 1 0 0 _ 0 0 (sx n c) I (rx c) J 0 [some (.ref 60), some (.int x)] []
  refine xv_il1 fX11_isEdition_0 ?_
  refine xv_k fX11_isEdition_1 ?_
  refine xv_al0 fX11_isEdition_2 ?_
  refine xv_getI fX11_isEdition_3 gX11_237 rfl (sx_60 _ _) ?_
  rw [hn]
  refine xv_k fX11_isEdition_6 ?_
  refine xv_isub fX11_isEdition_7 ?_
  refine xv_callS3R (m_isIn_f n c _ J (nn_out2 hx (by omega))) fX11_isEdition_8 YX11_isIn VX11_isIn lX11_126 rfl (Nat.le_of_ble_eq_true rfl) (by decide) (by decide) (by decide) ?_
  exact xv_iret fX11_isEdition_11 rfl rfl xv_eq_i

theorem m_isPer_t (n : Nat) (c : Nat × Nat) (I : xv_I) (J : xv_J) {q : Nat} (hq : q < 6) : xv_Met mX11_isPerson 1 0 0 (sx n c) I (rx c) J [.int (nI q)] (xv_eq (.inl (some (.int (nI 1)))) (sx n c) (I) (rx c) J) := by
  refine xv_Met.of (by decide +kernel) (Nat.le_of_ble_eq_true rfl) (List.forall_mem_cons.mpr ⟨rfl, fun _ h => nomatch h⟩) ?_
  show xv_W mX11_isPerson 1 0 0 _ 0 0 (sx n c) I (rx c) J 0 [some (.int (nI q))] []
  refine xv_il0 fX11_isPerson_0 ?_
  refine xv_k fX11_isPerson_1 ?_
  refine xv_k fX11_isPerson_2 ?_
  refine xv_callS3R (m_isIn_t n c _ J ((okR_n (Nat.zero_le _) (by omega) (by decide) : okR 0 5 (nI q))).1 ((okR_n (Nat.zero_le _) (by omega) (by decide) : okR 0 5 (nI q))).2) fX11_isPerson_3 YX11_isIn VX11_isIn lX11_126 rfl (Nat.le_of_ble_eq_true rfl) (by decide) (by decide) (by decide) ?_
  exact xv_iret fX11_isPerson_6 rfl rfl xv_eq_i

theorem m_isPer_f (n : Nat) (c : Nat × Nat) (I : xv_I) (J : xv_J) {x : Int32} (h : x < 0 ∨ ¬ x ≤ nI 5) : xv_Met mX11_isPerson 1 0 0 (sx n c) I (rx c) J [.int x] (xv_eq (.inl (some (.int (nI 0)))) (sx n c) (I) (rx c) J) := by
  refine xv_Met.of (by decide +kernel) (Nat.le_of_ble_eq_true rfl) (List.forall_mem_cons.mpr ⟨rfl, fun _ h => nomatch h⟩) ?_
  show xv_W mX11_isPerson 1 0 0 _ 0 0 (sx n c) I (rx c) J 0 [some (.int x)] []
  refine xv_il0 fX11_isPerson_0 ?_
  refine xv_k fX11_isPerson_1 ?_
  refine xv_k fX11_isPerson_2 ?_
  refine xv_callS3R (m_isIn_f n c _ J (h)) fX11_isPerson_3 YX11_isIn VX11_isIn lX11_126 rfl (Nat.le_of_ble_eq_true rfl) (by decide) (by decide) (by decide) ?_
  exact xv_iret fX11_isPerson_6 rfl rfl xv_eq_i

def mSize1 (x : Int32) (k : Nat) (s : Int32) : Int32 := s + (x >>> (nI k &&& 31) &&& nI 1)
def mSize (x : Int32) : Int32 := it (mSize1 x) 16 0 (nI 0)
theorem l_size (n : Nat) (c : Nat × Nat) (I : xv_I) (J : xv_J) {x : Int32} {Q : xv_Q} : ∀ (m k : Nat) (s : Int32), k + m = 16 → xv_W mX11_size 0 0 0 Q 0 0 (sx n c) I (rx c) J 24 [some (.int x), some (.int (it (mSize1 x) m k s)), some (.int (nI 16))] [] → xv_W mX11_size 0 0 0 Q 0 0 (sx n c) I (rx c) J 4 [some (.int x), some (.int s), some (.int (nI k))] [] := by
  intro m
  induction m with
  | zero =>
    intro k s hm  hx
    obtain rfl : k = 16 := by omega
    refine xv_il2 fX11_size_4 ?_
    refine xv_k fX11_size_5 ?_
    refine xv_ic_ge fX11_size_7 (fun h_7 => ?_) (fun h_7 => ?_)
    · exact hx
    · exact absurd (nI_le (Nat.le_refl _) (by decide)) h_7
  | succ m ih =>
    intro k s hm  hx
    have hk : k < 16 := by omega
    show xv_W mX11_size 0 0 0 _ 0 0 (sx n c) I (rx c) J 4 [some (.int x), some (.int s), some (.int (nI k))] []
    refine xv_il2 fX11_size_4 ?_
    refine xv_k fX11_size_5 ?_
    refine xv_ic_ge fX11_size_7 (fun h_7 => ?_) (fun h_7 => ?_)
    · exact absurd h_7 (nI_ge hk (by decide))
    · refine xv_il1 fX11_size_10 ?_
      refine xv_il0 fX11_size_11 ?_
      refine xv_il2 fX11_size_12 ?_
      refine xv_ishr fX11_size_13 ?_
      refine xv_k fX11_size_14 ?_
      refine xv_iand fX11_size_15 ?_
      refine xv_iadd fX11_size_16 ?_
      refine xv_is1 fX11_size_17 ?_
      refine xv_iincN2 (a := 1) fX11_size_18 (by decide) ?_
      refine xv_goto fX11_size_21 ?_
      exact ih (k + 1) (mSize1 x k s) (by omega) hx

theorem m_size (n : Nat) (c : Nat × Nat) (I : xv_I) (J : xv_J) (x : Int32) : xv_Met mX11_size 0 0 0 (sx n c) I (rx c) J [.int x] (xv_eq (.inl (some (.int (mSize x)))) (sx n c) (I) (rx c) J) := by
  refine xv_Met.of (by decide +kernel) (Nat.le_of_ble_eq_true rfl) (List.forall_mem_cons.mpr ⟨rfl, fun _ h => nomatch h⟩) ?_
  show xv_W mX11_size 0 0 0 _ 0 0 (sx n c) I (rx c) J 0 [some (.int x), none, none] []
  refine xv_k fX11_size_0 ?_
  refine xv_is1 fX11_size_1 ?_
  refine xv_k fX11_size_2 ?_
  refine xv_is2 fX11_size_3 ?_
  exact l_size n c I J 16 0 _ rfl (by exact xv_il1 fX11_size_24 (xv_iret fX11_size_25 rfl rfl xv_eq_i))

theorem l_isEmpty (n : Nat) (c : Nat × Nat) (I : xv_I) (J : xv_J) {p : Nat} (hp : p < 10) : ∀ (m k : Nat) (s : Int32), k + m = 12 → (s = bi (∀ j, j < k → I 63 (12 * p + j) = 0)) → xv_W mX11_isEmpty 0 0 0 (xv_eq (.inl (some (.int (bi (∀ j, j < 12 → I 63 (12 * p + j) = 0))))) (sx n c) (I) (rx c) J) 0 0 (sx n c) I (rx c) J 7 [some (.ref 60), some (.int (nI p)), some (.int s), some (.int (nI (12 * p + k)))] [] := by
  intro m
  induction m with
  | zero =>
    intro k s hm i0
    obtain rfl : k = 12 := by omega
    refine xv_il3 fX11_isEmpty_7 ?_
    refine xv_k fX11_isEmpty_8 ?_
    refine xv_il1 fX11_isEmpty_10 ?_
    refine xv_imul fX11_isEmpty_11 ?_
    rw [nI_mul]
    refine xv_k fX11_isEmpty_12 ?_
    refine xv_iadd fX11_isEmpty_14 ?_
    rw [nI_add]
    refine xv_ic_ge fX11_isEmpty_15 (fun h_15 => ?_) (fun h_15 => ?_)
    · refine xv_il2 fX11_isEmpty_43 ?_
      exact xv_iret fX11_isEmpty_44 rfl (i0 ▸ narrow_bi _) (xv_eq_I (by rw [i0]) rfl)
    · exact absurd (nI_le (Nat.le_refl _) (by omega)) h_15
  | succ m ih =>
    intro k s hm i0
    have hk : k < 12 := by omega
    show xv_W mX11_isEmpty 0 0 0 _ 0 0 (sx n c) I (rx c) J 7 [some (.ref 60), some (.int (nI p)), some (.int s), some (.int (nI (12 * p + k)))] []
    refine xv_il3 fX11_isEmpty_7 ?_
    refine xv_k fX11_isEmpty_8 ?_
    refine xv_il1 fX11_isEmpty_10 ?_
    refine xv_imul fX11_isEmpty_11 ?_
    rw [nI_mul]
    refine xv_k fX11_isEmpty_12 ?_
    refine xv_iadd fX11_isEmpty_14 ?_
    rw [nI_add]
    refine xv_ic_ge fX11_isEmpty_15 (fun h_15 => ?_) (fun h_15 => ?_)
    · exact absurd h_15 (nI_ge (by omega) (by omega))
    · refine xv_il2 fX11_isEmpty_18 ?_
      refine xv_if_eq fX11_isEmpty_19 (fun h_19 => ?_) (fun h_19 => ?_)
      · refine xv_k fX11_isEmpty_35 ?_
        refine xv_is2 fX11_isEmpty_36 ?_
        refine xv_iincN3 (a := 1) fX11_isEmpty_37 (by decide) ?_
        refine xv_goto fX11_isEmpty_40 ?_
        exact ih (k + 1) _ (by omega) (bi_f (fun h => bi_0 (i0.symm.trans h_19) (fun j hj => h j (by omega)))).symm
      · refine xv_al0 fX11_isEmpty_22 ?_
        refine xv_getR fX11_isEmpty_23 gX11_17 rfl (sx_60 _ _) (rx_60_2 _) ?_
        refine xv_il3 fX11_isEmpty_26 ?_
        refine xv_ialdN fX11_isEmpty_27 (sx_63 _ _) (⟨by omega, by decide⟩) ?_
        refine xv_if_ne fX11_isEmpty_28 (fun h_28 => ?_) (fun h_28 => ?_)
        · refine xv_k fX11_isEmpty_35 ?_
          refine xv_is2 fX11_isEmpty_36 ?_
          refine xv_iincN3 (a := 1) fX11_isEmpty_37 (by decide) ?_
          refine xv_goto fX11_isEmpty_40 ?_
          exact ih (k + 1) _ (by omega) (bi_f (fun h => h_28 (h k (by omega)))).symm
        · refine xv_k fX11_isEmpty_31 ?_
          refine xv_goto fX11_isEmpty_32 ?_
          refine xv_is2 fX11_isEmpty_36 ?_
          refine xv_iincN3 (a := 1) fX11_isEmpty_37 (by decide) ?_
          refine xv_goto fX11_isEmpty_40 ?_
          exact ih (k + 1) _ (by omega) (bi_t (lt_or (bi_1 (fun q => h_19 (i0.trans q))) h_28)).symm

theorem m_isEmpty (n : Nat) (c : Nat × Nat) (I : xv_I) (J : xv_J) {p : Nat} (hp : p < 10) : xv_Met mX11_isEmpty 0 0 0 (sx n c) I (rx c) J [.ref 60, .int (nI p)] (xv_eq (.inl (some (.int (bi (∀ j, j < 12 → I 63 (12 * p + j) = 0))))) (sx n c) (I) (rx c) J) := by
  refine xv_Met.of (by decide +kernel) (Nat.le_of_ble_eq_true rfl) (List.forall_mem_cons.mpr ⟨rfl, List.forall_mem_cons.mpr ⟨rfl, fun _ h => nomatch h⟩⟩) ?_
  show xv_W mX11_isEmpty 0 0 0 _ 0 0 (sx n c) I (rx c) J 0 [some (.ref 60), some (.int (nI p)), none, none] []
  refine xv_k fX11_isEmpty_0 ?_
  refine xv_is2 fX11_isEmpty_1 ?_
  refine xv_k fX11_isEmpty_2 ?_
  refine xv_il1 fX11_isEmpty_4 ?_
  refine xv_imul fX11_isEmpty_5 ?_
  rw [nI_mul]
  refine xv_is3 fX11_isEmpty_6 ?_
  exact l_isEmpty n c I J hp 12 0 _ rfl (bi_t lt_no).symm

def mSg (p : Nat) (I : xv_I) : xv_I := it (fun q I => xv_u I 81 (6 * p + q) (nI 0)) 6 0 I
def mPut1 (I : xv_I) (p k : Nat) (x : Int32) : xv_I := mSg p (xv_u (xv_u I 63 (12 * p + k) x) 60 3 (I 60 3 ||| nI (2 ^ (p / 2))))
def mPut (I : xv_I) (p k : Nat) (x : Int32) : xv_I := if I 63 (12 * p + k) = x then I else mPut1 I p k x
theorem l_puts (n : Nat) (c : Nat × Nat) (J : xv_J) {p q : Nat} {x : Int32} (hp : p < 10) {Q : xv_Q} : ∀ (m k : Nat) (I : xv_I), k + m = 6 → xv_W mX11_puts 0 0 0 Q 0 0 (sx n c) (it (fun q I => xv_u I 81 (6 * p + q) (nI 0)) m k I) (rx c) J 70 [some (.ref 60), some (.int (nI p)), some (.int (nI q)), some (.int x), some (.int (nI 6))] [] → xv_W mX11_puts 0 0 0 Q 0 0 (sx n c) I (rx c) J 44 [some (.ref 60), some (.int (nI p)), some (.int (nI q)), some (.int x), some (.int (nI k))] [] := by
  intro m
  induction m with
  | zero =>
    intro k I hm  hx
    obtain rfl : k = 6 := by omega
    refine xv_il4 fX11_puts_44 ?_
    refine xv_k fX11_puts_46 ?_
    refine xv_ic_ge fX11_puts_48 (fun h_48 => ?_) (fun h_48 => ?_)
    · exact hx
    · exact absurd (nI_le (Nat.le_refl _) (by decide)) h_48
  | succ m ih =>
    intro k I hm  hx
    have hk : k < 6 := by omega
    show xv_W mX11_puts 0 0 0 _ 0 0 (sx n c) I (rx c) J 44 [some (.ref 60), some (.int (nI p)), some (.int (nI q)), some (.int x), some (.int (nI k))] []
    refine xv_il4 fX11_puts_44 ?_
    refine xv_k fX11_puts_46 ?_
    refine xv_ic_ge fX11_puts_48 (fun h_48 => ?_) (fun h_48 => ?_)
    · exact absurd h_48 (nI_ge hk (by decide))
    · refine xv_al0 fX11_puts_51 ?_
      refine xv_getR fX11_puts_52 gX11_71 rfl (sx_60 _ _) (rx_60_23 _) ?_
      refine xv_k fX11_puts_55 ?_
      refine xv_il1 fX11_puts_57 ?_
      refine xv_imul fX11_puts_58 ?_
      rw [nI_mul]
      refine xv_il4 fX11_puts_59 ?_
      refine xv_iadd fX11_puts_61 ?_
      rw [nI_add]
      refine xv_k fX11_puts_62 ?_
      refine xv_zastN fX11_puts_63 (sx_81 _ _) (⟨by omega, by decide⟩) ((by decide : narrow .boolean (.int (nI 0)) = .int (nI 0))) ?_
      refine xv_iincN4 (a := 1) fX11_puts_64 (by decide) ?_
      refine xv_goto fX11_puts_67 ?_
      exact ih (k + 1) _ (by omega) hx

theorem m_puts (n : Nat) (c : Nat × Nat) (I : xv_I) (J : xv_J) {p k : Nat} {x : Int32} (hp : p < 10) (hk : k < 12) : xv_Met mX11_puts 0 0 0 (sx n c) I (rx c) J [.ref 60, .int (nI p), .int (nI k), .int x] (xv_eq (.inl none) (sx n c) (mPut I p k x) (rx c) J) := by
  refine xv_Met.of (by decide +kernel) (Nat.le_of_ble_eq_true rfl) (List.forall_mem_cons.mpr ⟨rfl, List.forall_mem_cons.mpr ⟨rfl, List.forall_mem_cons.mpr ⟨rfl, List.forall_mem_cons.mpr ⟨rfl, fun _ h => nomatch h⟩⟩⟩⟩) ?_
  show xv_W mX11_puts 0 0 0 _ 0 0 (sx n c) I (rx c) J 0 [some (.ref 60), some (.int (nI p)), some (.int (nI k)), some (.int x), none] []
  refine xv_al0 fX11_puts_0 ?_
  refine xv_getR fX11_puts_1 gX11_17 rfl (sx_60 _ _) (rx_60_2 _) ?_
  refine xv_k fX11_puts_4 ?_
  refine xv_il1 fX11_puts_6 ?_
  refine xv_imul fX11_puts_7 ?_
  rw [nI_mul]
  refine xv_il2 fX11_puts_8 ?_
  refine xv_iadd fX11_puts_9 ?_
  rw [nI_add]
  refine xv_ialdN fX11_puts_10 (sx_63 _ _) (⟨by omega, by decide⟩) ?_
  refine xv_il3 fX11_puts_11 ?_
  refine xv_ic_eq fX11_puts_12 (fun h_12 => ?_) (fun h_12 => ?_)
  · exact xv_vret fX11_puts_70 rfl (xv_eq_I rfl (by rw [mPut, if_pos h_12]))
  · refine xv_al0 fX11_puts_15 ?_
    refine xv_getR fX11_puts_16 gX11_17 rfl (sx_60 _ _) (rx_60_2 _) ?_
    refine xv_k fX11_puts_19 ?_
    refine xv_il1 fX11_puts_21 ?_
    refine xv_imul fX11_puts_22 ?_
    rw [nI_mul]
    refine xv_il2 fX11_puts_23 ?_
    refine xv_iadd fX11_puts_24 ?_
    rw [nI_add]
    refine xv_il3 fX11_puts_25 ?_
    refine xv_iastN fX11_puts_26 (sx_63 _ _) (⟨by omega, by decide⟩) ?_
    refine xv_al0 fX11_puts_27 ?_
    refine xv_dup_r fX11_puts_28 ?_
    refine xv_getI fX11_puts_29 gX11_144 rfl (sx_60 _ _) ?_
    rw [xv_u_ne _ _ _ (by decide)]
    refine xv_k fX11_puts_32 ?_
    refine xv_il1 fX11_puts_33 ?_
    refine xv_k fX11_puts_34 ?_
    refine xv_idiv fX11_puts_35 (by decide) ?_
    rw [nI_div (by omega) (by decide)]
    refine xv_ishl fX11_puts_36 ?_
    rw [sh1 _ (by omega)]
    refine xv_ior fX11_puts_37 ?_
    refine xv_putI fX11_puts_38 gX11_144 rfl (tp11_3 _) (sx_60 _ _) ⟨rfl, rfl⟩ ?_
    refine xv_k fX11_puts_41 ?_
    refine xv_is4 fX11_puts_42 ?_
    exact l_puts n c J hp 6 0 _ rfl (by exact xv_vret fX11_puts_70 rfl (xv_eq_I rfl (by rw [mPut, if_neg h_12]; rfl)))

theorem m_page_a (n : Nat) (c : Nat × Nat) (I : xv_I) (J : xv_J) {x : Int32} (hx : x < 0 ∨ ¬ x ≤ nI 9) {y z : Int32} : xv_Met mX11_page 6 0 0 (sx n c) I (rx c) J [.ref 60, .int x, .int y, .int z] (xv_eq (.inl none) (sx n c) (xv_u I 60 48 (nI 1)) (rx c) J) := by
  refine xv_Met.of (by decide +kernel) (Nat.le_of_ble_eq_true rfl) (List.forall_mem_cons.mpr ⟨rfl, List.forall_mem_cons.mpr ⟨rfl, List.forall_mem_cons.mpr ⟨rfl, List.forall_mem_cons.mpr ⟨rfl, fun _ h => nomatch h⟩⟩⟩⟩) ?_
  show xv_W mX11_page 6 0 0 _ 0 0 (sx n c) I (rx c) J 0 [some (.ref 60), some (.int x), some (.int y), some (.int z)] []
  refine xv_al0 fX11_page_0 ?_
  refine xv_il1 fX11_page_1 ?_
  refine xv_callS1R (m_isPage_f n c _ J hx) fX11_page_2 YX11_isPage VX11_isPage lX11_130 rfl (Nat.le_of_ble_eq_true rfl) (by decide) (by decide) (by decide) ?_
  refine xv_if_ne fX11_page_5 (fun h_5 => ?_) (fun h_5 => ?_)
  · exact absurd h_5 (by decide)
  · refine xv_k fX11_page_8 ?_
    refine xv_goto fX11_page_9 ?_
    refine xv_callV1R (m_fails1 n c _ J) fX11_page_38 YX11_fails VX11_fails lX11_137 rfl rfl (sx_60 _ _) (Nat.le_of_ble_eq_true rfl) (by decide) (by decide) (by decide) ?_
    refine xv_if_ne fX11_page_41 (fun h_41 => ?_) (fun h_41 => ?_)
    · exact xv_vret fX11_page_58 rfl xv_eq_i
    · exact absurd h_41 (by decide)

theorem m_page_b (n : Nat) (c : Nat × Nat) (I : xv_I) (J : xv_J) {p : Nat} (hp : p < 10) {y z : Int32} (hy : y < nI 0 ∨ ¬ y ≤ nI 3) : xv_Met mX11_page 6 0 0 (sx n c) I (rx c) J [.ref 60, .int (nI p), .int y, .int z] (xv_eq (.inl none) (sx n c) (xv_u I 60 48 (nI 2)) (rx c) J) := by
  refine xv_Met.of (by decide +kernel) (Nat.le_of_ble_eq_true rfl) (List.forall_mem_cons.mpr ⟨rfl, List.forall_mem_cons.mpr ⟨rfl, List.forall_mem_cons.mpr ⟨rfl, List.forall_mem_cons.mpr ⟨rfl, fun _ h => nomatch h⟩⟩⟩⟩) ?_
  show xv_W mX11_page 6 0 0 _ 0 0 (sx n c) I (rx c) J 0 [some (.ref 60), some (.int (nI p)), some (.int y), some (.int z)] []
  refine xv_al0 fX11_page_0 ?_
  refine xv_il1 fX11_page_1 ?_
  refine xv_callS1R (m_isPage_t n c _ J hp) fX11_page_2 YX11_isPage VX11_isPage lX11_130 rfl (Nat.le_of_ble_eq_true rfl) (by decide) (by decide) (by decide) ?_
  refine xv_if_ne fX11_page_5 (fun h_5 => ?_) (fun h_5 => ?_)
  · refine xv_il2 fX11_page_12 ?_
    refine xv_k fX11_page_13 ?_
    refine xv_k fX11_page_14 ?_
    refine xv_callS3R (m_isIn_f n c _ J (hy)) fX11_page_15 YX11_isIn VX11_isIn lX11_126 rfl (Nat.le_of_ble_eq_true rfl) (by decide) (by decide) (by decide) ?_
    refine xv_if_ne fX11_page_18 (fun h_18 => ?_) (fun h_18 => ?_)
    · exact absurd h_18 (by decide)
    · refine xv_k fX11_page_21 ?_
      refine xv_goto fX11_page_22 ?_
      refine xv_callV1R (m_fails2 n c _ J) fX11_page_38 YX11_fails VX11_fails lX11_137 rfl rfl (sx_60 _ _) (Nat.le_of_ble_eq_true rfl) (by decide) (by decide) (by decide) ?_
      refine xv_if_ne fX11_page_41 (fun h_41 => ?_) (fun h_41 => ?_)
      · exact xv_vret fX11_page_58 rfl xv_eq_i
      · exact absurd h_41 (by decide)
  · exact absurd h_5 (by decide)

theorem m_page_c (n : Nat) (c : Nat × Nat) (I : xv_I) (J : xv_J) {p : Nat} (hp : p < 10) {y z : Int32} (hy : okR 0 3 y) (hb : ¬ (∀ k, k < 12 → I 63 (12 * p + k) = 0)) : xv_Met mX11_page 6 0 0 (sx n c) I (rx c) J [.ref 60, .int (nI p), .int y, .int z] (xv_eq (.inl none) (sx n c) (xv_u I 60 48 (nI 3)) (rx c) J) := by
  refine xv_Met.of (by decide +kernel) (Nat.le_of_ble_eq_true rfl) (List.forall_mem_cons.mpr ⟨rfl, List.forall_mem_cons.mpr ⟨rfl, List.forall_mem_cons.mpr ⟨rfl, List.forall_mem_cons.mpr ⟨rfl, fun _ h => nomatch h⟩⟩⟩⟩) ?_
  show xv_W mX11_page 6 0 0 _ 0 0 (sx n c) I (rx c) J 0 [some (.ref 60), some (.int (nI p)), some (.int y), some (.int z)] []
  refine xv_al0 fX11_page_0 ?_
  refine xv_il1 fX11_page_1 ?_
  refine xv_callS1R (m_isPage_t n c _ J hp) fX11_page_2 YX11_isPage VX11_isPage lX11_130 rfl (Nat.le_of_ble_eq_true rfl) (by decide) (by decide) (by decide) ?_
  refine xv_if_ne fX11_page_5 (fun h_5 => ?_) (fun h_5 => ?_)
  · refine xv_il2 fX11_page_12 ?_
    refine xv_k fX11_page_13 ?_
    refine xv_k fX11_page_14 ?_
    refine xv_callS3R (m_isIn_t n c _ J (hy).1 (hy).2) fX11_page_15 YX11_isIn VX11_isIn lX11_126 rfl (Nat.le_of_ble_eq_true rfl) (by decide) (by decide) (by decide) ?_
    refine xv_if_ne fX11_page_18 (fun h_18 => ?_) (fun h_18 => ?_)
    · refine xv_al0 fX11_page_25 ?_
      refine xv_il1 fX11_page_26 ?_
      refine xv_callV1R (m_isEmpty n c _ J hp) fX11_page_27 YX11_isEmpty VX11_isEmpty lX11_134 rfl rfl (sx_60 _ _) (Nat.le_of_ble_eq_true rfl) (by decide) (by decide) (by decide) ?_
      refine xv_if_eq fX11_page_30 (fun h_30 => ?_) (fun h_30 => ?_)
      · refine xv_k fX11_page_37 ?_
        refine xv_callV1R (m_fails3 n c _ J) fX11_page_38 YX11_fails VX11_fails lX11_137 rfl rfl (sx_60 _ _) (Nat.le_of_ble_eq_true rfl) (by decide) (by decide) (by decide) ?_
        refine xv_if_ne fX11_page_41 (fun h_41 => ?_) (fun h_41 => ?_)
        · exact xv_vret fX11_page_58 rfl xv_eq_i
        · exact absurd h_41 (by decide)
      · exact absurd (bi_1 h_30) hb
    · exact absurd h_18 (by decide)
  · exact absurd h_5 (by decide)

theorem m_page_ok (n : Nat) (c : Nat × Nat) (I : xv_I) (J : xv_J) {p : Nat} (hp : p < 10) {y z : Int32} (hy : okR 0 3 y) (hz : narrow .boolean (.int z) = .int z) (hb : ∀ k, k < 12 → I 63 (12 * p + k) = 0) : xv_Met mX11_page 6 0 0 (sx n c) I (rx c) J [.ref 60, .int (nI p), .int y, .int z] (xv_eq (.inl none) (sx n c) (xv_u (xv_u (xv_u I 60 48 (nI 0)) 61 p y) 62 p z) (rx c) J) := by
  refine xv_Met.of (by decide +kernel) (Nat.le_of_ble_eq_true rfl) (List.forall_mem_cons.mpr ⟨rfl, List.forall_mem_cons.mpr ⟨rfl, List.forall_mem_cons.mpr ⟨rfl, List.forall_mem_cons.mpr ⟨rfl, fun _ h => nomatch h⟩⟩⟩⟩) ?_
  show xv_W mX11_page 6 0 0 _ 0 0 (sx n c) I (rx c) J 0 [some (.ref 60), some (.int (nI p)), some (.int y), some (.int z)] []
  refine xv_al0 fX11_page_0 ?_
  refine xv_il1 fX11_page_1 ?_
  refine xv_callS1R (m_isPage_t n c _ J hp) fX11_page_2 YX11_isPage VX11_isPage lX11_130 rfl (Nat.le_of_ble_eq_true rfl) (by decide) (by decide) (by decide) ?_
  refine xv_if_ne fX11_page_5 (fun h_5 => ?_) (fun h_5 => ?_)
  · refine xv_il2 fX11_page_12 ?_
    refine xv_k fX11_page_13 ?_
    refine xv_k fX11_page_14 ?_
    refine xv_callS3R (m_isIn_t n c _ J (hy).1 (hy).2) fX11_page_15 YX11_isIn VX11_isIn lX11_126 rfl (Nat.le_of_ble_eq_true rfl) (by decide) (by decide) (by decide) ?_
    refine xv_if_ne fX11_page_18 (fun h_18 => ?_) (fun h_18 => ?_)
    · refine xv_al0 fX11_page_25 ?_
      refine xv_il1 fX11_page_26 ?_
      refine xv_callV1R (m_isEmpty n c _ J hp) fX11_page_27 YX11_isEmpty VX11_isEmpty lX11_134 rfl rfl (sx_60 _ _) (Nat.le_of_ble_eq_true rfl) (by decide) (by decide) (by decide) ?_
      refine xv_if_eq fX11_page_30 (fun h_30 => ?_) (fun h_30 => ?_)
      · exact absurd hb (bi_0 h_30)
      · refine xv_k fX11_page_33 ?_
        refine xv_goto fX11_page_34 ?_
        refine xv_callV1R (m_fails0 n c _ J) fX11_page_38 YX11_fails VX11_fails lX11_137 rfl rfl (sx_60 _ _) (Nat.le_of_ble_eq_true rfl) (by decide) (by decide) (by decide) ?_
        refine xv_if_ne fX11_page_41 (fun h_41 => ?_) (fun h_41 => ?_)
        · exact absurd h_41 (by decide)
        · refine xv_al0 fX11_page_44 ?_
          refine xv_getR fX11_page_45 gX11_7 rfl (sx_60 _ _) (rx_60_0 _) ?_
          refine xv_il1 fX11_page_48 ?_
          refine xv_il2 fX11_page_49 ?_
          refine xv_iastN fX11_page_50 (sx_61 _ _) (⟨by omega, by decide⟩) ?_
          refine xv_al0 fX11_page_51 ?_
          refine xv_getR fX11_page_52 gX11_13 rfl (sx_60 _ _) (rx_60_1 _) ?_
          refine xv_il1 fX11_page_55 ?_
          refine xv_il3 fX11_page_56 ?_
          refine xv_zastN fX11_page_57 (sx_62 _ _) (⟨by omega, by decide⟩) (hz) ?_
          exact xv_vret fX11_page_58 rfl xv_eq_i
    · exact absurd h_18 (by decide)
  · exact absurd h_5 (by decide)

theorem m_cell_a (n : Nat) (c : Nat × Nat) (I : xv_I) (J : xv_J) {x y : Int32} (hx : x < 0 ∨ ¬ x ≤ nI 9) : xv_Met mX11_cell 6 0 0 (sx n c) I (rx c) J [.ref 60, .int x, .int y] (xv_eq (.inl (some (.int (nI 0)))) (sx n c) (xv_u I 60 48 (nI 1)) (rx c) J) := by
  refine xv_Met.of (by decide +kernel) (Nat.le_of_ble_eq_true rfl) (List.forall_mem_cons.mpr ⟨rfl, List.forall_mem_cons.mpr ⟨rfl, List.forall_mem_cons.mpr ⟨rfl, fun _ h => nomatch h⟩⟩⟩) ?_
  show xv_W mX11_cell 6 0 0 _ 0 0 (sx n c) I (rx c) J 0 [some (.ref 60), some (.int x), some (.int y)] []
  refine xv_al0 fX11_cell_0 ?_
  refine xv_il1 fX11_cell_1 ?_
  refine xv_il2 fX11_cell_2 ?_
  refine xv_callS2R (m_isCell_f1 n c _ J hx) fX11_cell_3 YX11_isCell VX11_isCell lX11_140 rfl (Nat.le_of_ble_eq_true rfl) (by decide) (by decide) (by decide) ?_
  refine xv_if_eq fX11_cell_6 (fun h_6 => ?_) (fun h_6 => ?_)
  · refine xv_k fX11_cell_13 ?_
    refine xv_callV1R (m_fails1 n c _ J) fX11_cell_14 YX11_fails VX11_fails lX11_137 rfl rfl (sx_60 _ _) (Nat.le_of_ble_eq_true rfl) (by decide) (by decide) (by decide) ?_
    refine xv_if_eq fX11_cell_17 (fun h_17 => ?_) (fun h_17 => ?_)
    · exact absurd h_17 (by decide)
    · refine xv_k fX11_cell_20 ?_
      refine xv_goto fX11_cell_21 ?_
      exact xv_iret fX11_cell_35 rfl rfl xv_eq_i
  · exact absurd h_6 (by decide)

theorem m_cell_b (n : Nat) (c : Nat × Nat) (I : xv_I) (J : xv_J) {p : Nat} {y : Int32} (hp : p < 10) (hx : y < 0 ∨ ¬ y ≤ nI 11) : xv_Met mX11_cell 6 0 0 (sx n c) I (rx c) J [.ref 60, .int (nI p), .int y] (xv_eq (.inl (some (.int (nI 0)))) (sx n c) (xv_u I 60 48 (nI 1)) (rx c) J) := by
  refine xv_Met.of (by decide +kernel) (Nat.le_of_ble_eq_true rfl) (List.forall_mem_cons.mpr ⟨rfl, List.forall_mem_cons.mpr ⟨rfl, List.forall_mem_cons.mpr ⟨rfl, fun _ h => nomatch h⟩⟩⟩) ?_
  show xv_W mX11_cell 6 0 0 _ 0 0 (sx n c) I (rx c) J 0 [some (.ref 60), some (.int (nI p)), some (.int y)] []
  refine xv_al0 fX11_cell_0 ?_
  refine xv_il1 fX11_cell_1 ?_
  refine xv_il2 fX11_cell_2 ?_
  refine xv_callS2R (m_isCell_f2 n c _ J hp hx) fX11_cell_3 YX11_isCell VX11_isCell lX11_140 rfl (Nat.le_of_ble_eq_true rfl) (by decide) (by decide) (by decide) ?_
  refine xv_if_eq fX11_cell_6 (fun h_6 => ?_) (fun h_6 => ?_)
  · refine xv_k fX11_cell_13 ?_
    refine xv_callV1R (m_fails1 n c _ J) fX11_cell_14 YX11_fails VX11_fails lX11_137 rfl rfl (sx_60 _ _) (Nat.le_of_ble_eq_true rfl) (by decide) (by decide) (by decide) ?_
    refine xv_if_eq fX11_cell_17 (fun h_17 => ?_) (fun h_17 => ?_)
    · exact absurd h_17 (by decide)
    · refine xv_k fX11_cell_20 ?_
      refine xv_goto fX11_cell_21 ?_
      exact xv_iret fX11_cell_35 rfl rfl xv_eq_i
  · exact absurd h_6 (by decide)

theorem m_cell_ok (n : Nat) (c : Nat × Nat) (I : xv_I) (J : xv_J) {p k : Nat} (hp : p < 10) (hk : k < 12) : xv_Met mX11_cell 6 0 0 (sx n c) I (rx c) J [.ref 60, .int (nI p), .int (nI k)] (xv_eq (.inl (some (.int (I 63 (12 * p + k))))) (sx n c) (xv_u I 60 48 (nI 0)) (rx c) J) := by
  refine xv_Met.of (by decide +kernel) (Nat.le_of_ble_eq_true rfl) (List.forall_mem_cons.mpr ⟨rfl, List.forall_mem_cons.mpr ⟨rfl, List.forall_mem_cons.mpr ⟨rfl, fun _ h => nomatch h⟩⟩⟩) ?_
  show xv_W mX11_cell 6 0 0 _ 0 0 (sx n c) I (rx c) J 0 [some (.ref 60), some (.int (nI p)), some (.int (nI k))] []
  refine xv_al0 fX11_cell_0 ?_
  refine xv_il1 fX11_cell_1 ?_
  refine xv_il2 fX11_cell_2 ?_
  refine xv_callS2R (m_isCell_t n c _ J hp hk) fX11_cell_3 YX11_isCell VX11_isCell lX11_140 rfl (Nat.le_of_ble_eq_true rfl) (by decide) (by decide) (by decide) ?_
  refine xv_if_eq fX11_cell_6 (fun h_6 => ?_) (fun h_6 => ?_)
  · exact absurd h_6 (by decide)
  · refine xv_k fX11_cell_9 ?_
    refine xv_goto fX11_cell_10 ?_
    refine xv_callV1R (m_fails0 n c _ J) fX11_cell_14 YX11_fails VX11_fails lX11_137 rfl rfl (sx_60 _ _) (Nat.le_of_ble_eq_true rfl) (by decide) (by decide) (by decide) ?_
    refine xv_if_eq fX11_cell_17 (fun h_17 => ?_) (fun h_17 => ?_)
    · refine xv_al0 fX11_cell_24 ?_
      refine xv_getR fX11_cell_25 gX11_17 rfl (sx_60 _ _) (rx_60_2 _) ?_
      refine xv_k fX11_cell_28 ?_
      refine xv_il1 fX11_cell_30 ?_
      refine xv_imul fX11_cell_31 ?_
      rw [nI_mul]
      refine xv_il2 fX11_cell_32 ?_
      refine xv_iadd fX11_cell_33 ?_
      rw [nI_add]
      refine xv_ialdN fX11_cell_34 (sx_63 _ _) (⟨by omega, by decide⟩) ?_
      exact xv_iret fX11_cell_35 rfl rfl (xv_eq_I (by rw [xv_u_ne _ _ _ (by decide)]) rfl)
    · exact absurd h_17 (by decide)

theorem m_touched (n : Nat) (c : Nat × Nat) (I : xv_I) (J : xv_J)  : xv_Met mX11_touched 6 0 0 (sx n c) I (rx c) J [.ref 60] (xv_eq (.inl (some (.int (I 60 3)))) (sx n c) (xv_u I 60 48 (nI 0)) (rx c) J) := by
  refine xv_Met.of (by decide +kernel) (Nat.le_of_ble_eq_true rfl) (List.forall_mem_cons.mpr ⟨rfl, fun _ h => nomatch h⟩) ?_
  show xv_W mX11_touched 6 0 0 _ 0 0 (sx n c) I (rx c) J 0 [some (.ref 60)] []
  refine xv_al0 fX11_touched_0 ?_
  refine xv_k fX11_touched_1 ?_
  refine xv_putI fX11_touched_2 gX11_122 rfl (tp11_48 _) (sx_60 _ _) ⟨rfl, rfl⟩ ?_
  refine xv_al0 fX11_touched_5 ?_
  refine xv_getI fX11_touched_6 gX11_144 rfl (sx_60 _ _) ?_
  exact xv_iret fX11_touched_9 rfl rfl (xv_eq_I (by rw [xv_u_nk _ _ _ (by decide)]) rfl)

theorem m_dist_a (n : Nat) (c : Nat × Nat) (I : xv_I) (J : xv_J) {x y : Int32} (hx : x < nI 0 ∨ ¬ x ≤ nI 3) : xv_Met mX11_distance 6 0 0 (sx n c) I (rx c) J [.ref 60, .int x, .int y] (xv_eq (.inl (some (.int (nI 0)))) (sx n c) (xv_u I 60 48 (nI 1)) (rx c) J) := by
  refine xv_Met.of (by decide +kernel) (Nat.le_of_ble_eq_true rfl) (List.forall_mem_cons.mpr ⟨rfl, List.forall_mem_cons.mpr ⟨rfl, List.forall_mem_cons.mpr ⟨rfl, fun _ h => nomatch h⟩⟩⟩) ?_
  show xv_W mX11_distance 6 0 0 _ 0 0 (sx n c) I (rx c) J 0 [some (.ref 60), some (.int x), some (.int y), none] []
  refine xv_al0 fX11_distance_0 ?_
  refine xv_il1 fX11_distance_1 ?_
  refine xv_k fX11_distance_2 ?_
  refine xv_k fX11_distance_3 ?_
  refine xv_callS3R (m_isIn_f n c _ J (hx)) fX11_distance_4 YX11_isIn VX11_isIn lX11_126 rfl (Nat.le_of_ble_eq_true rfl) (by decide) (by decide) (by decide) ?_
  refine xv_if_eq fX11_distance_7 (fun h_7 => ?_) (fun h_7 => ?_)
  · refine xv_k fX11_distance_24 ?_
    refine xv_callV1R (m_fails1 n c _ J) fX11_distance_25 YX11_fails VX11_fails lX11_137 rfl rfl (sx_60 _ _) (Nat.le_of_ble_eq_true rfl) (by decide) (by decide) (by decide) ?_
    refine xv_if_eq fX11_distance_28 (fun h_28 => ?_) (fun h_28 => ?_)
    · exact absurd h_28 (by decide)
    · refine xv_k fX11_distance_31 ?_
      exact xv_iret fX11_distance_32 rfl rfl xv_eq_i
  · exact absurd h_7 (by decide)

theorem m_dist_b (n : Nat) (c : Nat × Nat) (I : xv_I) (J : xv_J) {x y : Int32} (hx : okR 0 3 x) (hy : y < nI 0 ∨ ¬ y ≤ nI 9) : xv_Met mX11_distance 6 0 0 (sx n c) I (rx c) J [.ref 60, .int x, .int y] (xv_eq (.inl (some (.int (nI 0)))) (sx n c) (xv_u I 60 48 (nI 1)) (rx c) J) := by
  refine xv_Met.of (by decide +kernel) (Nat.le_of_ble_eq_true rfl) (List.forall_mem_cons.mpr ⟨rfl, List.forall_mem_cons.mpr ⟨rfl, List.forall_mem_cons.mpr ⟨rfl, fun _ h => nomatch h⟩⟩⟩) ?_
  show xv_W mX11_distance 6 0 0 _ 0 0 (sx n c) I (rx c) J 0 [some (.ref 60), some (.int x), some (.int y), none] []
  refine xv_al0 fX11_distance_0 ?_
  refine xv_il1 fX11_distance_1 ?_
  refine xv_k fX11_distance_2 ?_
  refine xv_k fX11_distance_3 ?_
  refine xv_callS3R (m_isIn_t n c _ J (hx).1 (hx).2) fX11_distance_4 YX11_isIn VX11_isIn lX11_126 rfl (Nat.le_of_ble_eq_true rfl) (by decide) (by decide) (by decide) ?_
  refine xv_if_eq fX11_distance_7 (fun h_7 => ?_) (fun h_7 => ?_)
  · exact absurd h_7 (by decide)
  · refine xv_il2 fX11_distance_10 ?_
    refine xv_k fX11_distance_11 ?_
    refine xv_k fX11_distance_12 ?_
    refine xv_callS3R (m_isIn_f n c _ J (hy)) fX11_distance_14 YX11_isIn VX11_isIn lX11_126 rfl (Nat.le_of_ble_eq_true rfl) (by decide) (by decide) (by decide) ?_
    refine xv_if_eq fX11_distance_17 (fun h_17 => ?_) (fun h_17 => ?_)
    · refine xv_k fX11_distance_24 ?_
      refine xv_callV1R (m_fails1 n c _ J) fX11_distance_25 YX11_fails VX11_fails lX11_137 rfl rfl (sx_60 _ _) (Nat.le_of_ble_eq_true rfl) (by decide) (by decide) (by decide) ?_
      refine xv_if_eq fX11_distance_28 (fun h_28 => ?_) (fun h_28 => ?_)
      · exact absurd h_28 (by decide)
      · refine xv_k fX11_distance_31 ?_
        exact xv_iret fX11_distance_32 rfl rfl xv_eq_i
    · exact absurd h_17 (by decide)

theorem m_dist_ok (n : Nat) (c : Nat × Nat) (I : xv_I) (J : xv_J) {k : Nat} {y : Int32} (hk : k < 4) (hy : okR 0 9 y) : xv_Met mX11_distance 6 0 0 (sx n c) I (rx c) J [.ref 60, .int (nI k), .int y] (xv_eq (.inl (some (.int (I 64 k)))) (sx n c) (xv_u (xv_u I 60 48 (nI 0)) 64 k y) (rx c) J) := by
  refine xv_Met.of (by decide +kernel) (Nat.le_of_ble_eq_true rfl) (List.forall_mem_cons.mpr ⟨rfl, List.forall_mem_cons.mpr ⟨rfl, List.forall_mem_cons.mpr ⟨rfl, fun _ h => nomatch h⟩⟩⟩) ?_
  show xv_W mX11_distance 6 0 0 _ 0 0 (sx n c) I (rx c) J 0 [some (.ref 60), some (.int (nI k)), some (.int y), none] []
  refine xv_al0 fX11_distance_0 ?_
  refine xv_il1 fX11_distance_1 ?_
  refine xv_k fX11_distance_2 ?_
  refine xv_k fX11_distance_3 ?_
  refine xv_callS3R (m_isIn_t n c _ J ((okR_n (Nat.zero_le _) (by omega) (by decide) : okR 0 3 (nI k))).1 ((okR_n (Nat.zero_le _) (by omega) (by decide) : okR 0 3 (nI k))).2) fX11_distance_4 YX11_isIn VX11_isIn lX11_126 rfl (Nat.le_of_ble_eq_true rfl) (by decide) (by decide) (by decide) ?_
  refine xv_if_eq fX11_distance_7 (fun h_7 => ?_) (fun h_7 => ?_)
  · exact absurd h_7 (by decide)
  · refine xv_il2 fX11_distance_10 ?_
    refine xv_k fX11_distance_11 ?_
    refine xv_k fX11_distance_12 ?_
    refine xv_callS3R (m_isIn_t n c _ J (hy).1 (hy).2) fX11_distance_14 YX11_isIn VX11_isIn lX11_126 rfl (Nat.le_of_ble_eq_true rfl) (by decide) (by decide) (by decide) ?_
    refine xv_if_eq fX11_distance_17 (fun h_17 => ?_) (fun h_17 => ?_)
    · exact absurd h_17 (by decide)
    · refine xv_k fX11_distance_20 ?_
      refine xv_goto fX11_distance_21 ?_
      refine xv_callV1R (m_fails0 n c _ J) fX11_distance_25 YX11_fails VX11_fails lX11_137 rfl rfl (sx_60 _ _) (Nat.le_of_ble_eq_true rfl) (by decide) (by decide) (by decide) ?_
      refine xv_if_eq fX11_distance_28 (fun h_28 => ?_) (fun h_28 => ?_)
      · refine xv_al0 fX11_distance_33 ?_
        refine xv_getR fX11_distance_34 gX11_20 rfl (sx_60 _ _) (rx_60_4 _) ?_
        refine xv_il1 fX11_distance_37 ?_
        refine xv_ialdN fX11_distance_38 (sx_64 _ _) (⟨by omega, by decide⟩) ?_
        rw [xv_u_ne _ _ _ (by decide)]
        refine xv_is3 fX11_distance_39 ?_
        refine xv_al0 fX11_distance_40 ?_
        refine xv_getR fX11_distance_41 gX11_20 rfl (sx_60 _ _) (rx_60_4 _) ?_
        refine xv_il1 fX11_distance_44 ?_
        refine xv_il2 fX11_distance_45 ?_
        refine xv_iastN fX11_distance_46 (sx_64 _ _) (⟨by omega, by decide⟩) ?_
        refine xv_il3 fX11_distance_47 ?_
        exact xv_iret fX11_distance_48 rfl rfl xv_eq_i
      · exact absurd h_28 (by decide)

theorem m_advert_a (n : Nat) (c : Nat × Nat) (I : xv_I) (J : xv_J) {x1 x2 x3 x4 x5 x6 : Int32} (hx : x1 < nI 0 ∨ ¬ x1 ≤ nI 3) : xv_Met mX11_advert 6 0 0 (sx n c) I (rx c) J [.ref 60, .int x1, .int x2, .int x3, .int x4, .int x5, .int x6] (xv_eq (.inl (some (.int (nI 0)))) (sx n c) (xv_u I 60 48 (nI 1)) (rx c) J) := by
  refine xv_Met.of (by decide +kernel) (Nat.le_of_ble_eq_true rfl) (List.forall_mem_cons.mpr ⟨rfl, List.forall_mem_cons.mpr ⟨rfl, List.forall_mem_cons.mpr ⟨rfl, List.forall_mem_cons.mpr ⟨rfl, List.forall_mem_cons.mpr ⟨rfl, List.forall_mem_cons.mpr ⟨rfl, List.forall_mem_cons.mpr ⟨rfl, fun _ h => nomatch h⟩⟩⟩⟩⟩⟩⟩) ?_
  show xv_W mX11_advert 6 0 0 _ 0 0 (sx n c) I (rx c) J 0 [some (.ref 60), some (.int x1), some (.int x2), some (.int x3), some (.int x4), some (.int x5), some (.int x6), none] []
  refine xv_il1 fX11_advert_0 ?_
  refine xv_k fX11_advert_1 ?_
  refine xv_k fX11_advert_2 ?_
  refine xv_callS3R (m_isIn_f n c _ J (hx)) fX11_advert_3 YX11_isIn VX11_isIn lX11_126 rfl (Nat.le_of_ble_eq_true rfl) (by decide) (by decide) (by decide) ?_
  refine xv_if_eq fX11_advert_6 (fun h_6 => ?_) (fun h_6 => ?_)
  · refine xv_k fX11_advert_51 ?_
    refine xv_is7 fX11_advert_52 ?_
    refine xv_al0 fX11_advert_54 ?_
    refine xv_il7 fX11_advert_55 ?_
    refine xv_if_ne fX11_advert_57 (fun h_57 => ?_) (fun h_57 => ?_)
    · exact absurd h_57 (by decide)
    · refine xv_k fX11_advert_60 ?_
      refine xv_goto fX11_advert_61 ?_
      refine xv_callV1R (m_fails1 n c _ J) fX11_advert_78 YX11_fails VX11_fails lX11_137 rfl rfl (sx_60 _ _) (Nat.le_of_ble_eq_true rfl) (by decide) (by decide) (by decide) ?_
      refine xv_if_eq fX11_advert_81 (fun h_81 => ?_) (fun h_81 => ?_)
      · exact absurd h_81 (by decide)
      · refine xv_k fX11_advert_84 ?_
        exact xv_iret fX11_advert_85 rfl rfl xv_eq_i
  · exact absurd h_6 (by decide)

theorem m_advert_b (n : Nat) (c : Nat × Nat) (I : xv_I) (J : xv_J) {x1 x2 x3 x4 x5 x6 : Int32} (h1 : okR 0 3 x1) (hx : x2 < nI 1 ∨ ¬ x2 ≤ nI 3) : xv_Met mX11_advert 6 0 0 (sx n c) I (rx c) J [.ref 60, .int x1, .int x2, .int x3, .int x4, .int x5, .int x6] (xv_eq (.inl (some (.int (nI 0)))) (sx n c) (xv_u I 60 48 (nI 1)) (rx c) J) := by
  refine xv_Met.of (by decide +kernel) (Nat.le_of_ble_eq_true rfl) (List.forall_mem_cons.mpr ⟨rfl, List.forall_mem_cons.mpr ⟨rfl, List.forall_mem_cons.mpr ⟨rfl, List.forall_mem_cons.mpr ⟨rfl, List.forall_mem_cons.mpr ⟨rfl, List.forall_mem_cons.mpr ⟨rfl, List.forall_mem_cons.mpr ⟨rfl, fun _ h => nomatch h⟩⟩⟩⟩⟩⟩⟩) ?_
  show xv_W mX11_advert 6 0 0 _ 0 0 (sx n c) I (rx c) J 0 [some (.ref 60), some (.int x1), some (.int x2), some (.int x3), some (.int x4), some (.int x5), some (.int x6), none] []
  refine xv_il1 fX11_advert_0 ?_
  refine xv_k fX11_advert_1 ?_
  refine xv_k fX11_advert_2 ?_
  refine xv_callS3R (m_isIn_t n c _ J (h1).1 (h1).2) fX11_advert_3 YX11_isIn VX11_isIn lX11_126 rfl (Nat.le_of_ble_eq_true rfl) (by decide) (by decide) (by decide) ?_
  refine xv_if_eq fX11_advert_6 (fun h_6 => ?_) (fun h_6 => ?_)
  · exact absurd h_6 (by decide)
  · refine xv_il2 fX11_advert_9 ?_
    refine xv_k fX11_advert_10 ?_
    refine xv_k fX11_advert_11 ?_
    refine xv_callS3R (m_isIn_f n c _ J (hx)) fX11_advert_12 YX11_isIn VX11_isIn lX11_126 rfl (Nat.le_of_ble_eq_true rfl) (by decide) (by decide) (by decide) ?_
    refine xv_if_eq fX11_advert_15 (fun h_15 => ?_) (fun h_15 => ?_)
    · refine xv_k fX11_advert_51 ?_
      refine xv_is7 fX11_advert_52 ?_
      refine xv_al0 fX11_advert_54 ?_
      refine xv_il7 fX11_advert_55 ?_
      refine xv_if_ne fX11_advert_57 (fun h_57 => ?_) (fun h_57 => ?_)
      · exact absurd h_57 (by decide)
      · refine xv_k fX11_advert_60 ?_
        refine xv_goto fX11_advert_61 ?_
        refine xv_callV1R (m_fails1 n c _ J) fX11_advert_78 YX11_fails VX11_fails lX11_137 rfl rfl (sx_60 _ _) (Nat.le_of_ble_eq_true rfl) (by decide) (by decide) (by decide) ?_
        refine xv_if_eq fX11_advert_81 (fun h_81 => ?_) (fun h_81 => ?_)
        · exact absurd h_81 (by decide)
        · refine xv_k fX11_advert_84 ?_
          exact xv_iret fX11_advert_85 rfl rfl xv_eq_i
    · exact absurd h_15 (by decide)

theorem m_advert_c (n : Nat) (c : Nat × Nat) (I : xv_I) (J : xv_J) {x1 x2 x3 x4 x5 x6 : Int32} (h1 : okR 0 3 x1) (h2 : okR 1 3 x2) (hx : x3 < nI 1 ∨ ¬ x3 ≤ nI 4) : xv_Met mX11_advert 6 0 0 (sx n c) I (rx c) J [.ref 60, .int x1, .int x2, .int x3, .int x4, .int x5, .int x6] (xv_eq (.inl (some (.int (nI 0)))) (sx n c) (xv_u I 60 48 (nI 1)) (rx c) J) := by
  refine xv_Met.of (by decide +kernel) (Nat.le_of_ble_eq_true rfl) (List.forall_mem_cons.mpr ⟨rfl, List.forall_mem_cons.mpr ⟨rfl, List.forall_mem_cons.mpr ⟨rfl, List.forall_mem_cons.mpr ⟨rfl, List.forall_mem_cons.mpr ⟨rfl, List.forall_mem_cons.mpr ⟨rfl, List.forall_mem_cons.mpr ⟨rfl, fun _ h => nomatch h⟩⟩⟩⟩⟩⟩⟩) ?_
  show xv_W mX11_advert 6 0 0 _ 0 0 (sx n c) I (rx c) J 0 [some (.ref 60), some (.int x1), some (.int x2), some (.int x3), some (.int x4), some (.int x5), some (.int x6), none] []
  refine xv_il1 fX11_advert_0 ?_
  refine xv_k fX11_advert_1 ?_
  refine xv_k fX11_advert_2 ?_
  refine xv_callS3R (m_isIn_t n c _ J (h1).1 (h1).2) fX11_advert_3 YX11_isIn VX11_isIn lX11_126 rfl (Nat.le_of_ble_eq_true rfl) (by decide) (by decide) (by decide) ?_
  refine xv_if_eq fX11_advert_6 (fun h_6 => ?_) (fun h_6 => ?_)
  · exact absurd h_6 (by decide)
  · refine xv_il2 fX11_advert_9 ?_
    refine xv_k fX11_advert_10 ?_
    refine xv_k fX11_advert_11 ?_
    refine xv_callS3R (m_isIn_t n c _ J (h2).1 (h2).2) fX11_advert_12 YX11_isIn VX11_isIn lX11_126 rfl (Nat.le_of_ble_eq_true rfl) (by decide) (by decide) (by decide) ?_
    refine xv_if_eq fX11_advert_15 (fun h_15 => ?_) (fun h_15 => ?_)
    · exact absurd h_15 (by decide)
    · refine xv_il3 fX11_advert_18 ?_
      refine xv_k fX11_advert_19 ?_
      refine xv_k fX11_advert_20 ?_
      refine xv_callS3R (m_isIn_f n c _ J (hx)) fX11_advert_21 YX11_isIn VX11_isIn lX11_126 rfl (Nat.le_of_ble_eq_true rfl) (by decide) (by decide) (by decide) ?_
      refine xv_if_eq fX11_advert_24 (fun h_24 => ?_) (fun h_24 => ?_)
      · refine xv_k fX11_advert_51 ?_
        refine xv_is7 fX11_advert_52 ?_
        refine xv_al0 fX11_advert_54 ?_
        refine xv_il7 fX11_advert_55 ?_
        refine xv_if_ne fX11_advert_57 (fun h_57 => ?_) (fun h_57 => ?_)
        · exact absurd h_57 (by decide)
        · refine xv_k fX11_advert_60 ?_
          refine xv_goto fX11_advert_61 ?_
          refine xv_callV1R (m_fails1 n c _ J) fX11_advert_78 YX11_fails VX11_fails lX11_137 rfl rfl (sx_60 _ _) (Nat.le_of_ble_eq_true rfl) (by decide) (by decide) (by decide) ?_
          refine xv_if_eq fX11_advert_81 (fun h_81 => ?_) (fun h_81 => ?_)
          · exact absurd h_81 (by decide)
          · refine xv_k fX11_advert_84 ?_
            exact xv_iret fX11_advert_85 rfl rfl xv_eq_i
      · exact absurd h_24 (by decide)

theorem m_advert_d (n : Nat) (c : Nat × Nat) (I : xv_I) (J : xv_J) {x1 x2 x3 x4 x5 x6 : Int32} (h1 : okR 0 3 x1) (h2 : okR 1 3 x2) (h3 : okR 1 4 x3) (hx : x5 < -1 ∨ ¬ x5 ≤ nI 3) : xv_Met mX11_advert 6 0 0 (sx n c) I (rx c) J [.ref 60, .int x1, .int x2, .int x3, .int x4, .int x5, .int x6] (xv_eq (.inl (some (.int (nI 0)))) (sx n c) (xv_u I 60 48 (nI 1)) (rx c) J) := by
  refine xv_Met.of (by decide +kernel) (Nat.le_of_ble_eq_true rfl) (List.forall_mem_cons.mpr ⟨rfl, List.forall_mem_cons.mpr ⟨rfl, List.forall_mem_cons.mpr ⟨rfl, List.forall_mem_cons.mpr ⟨rfl, List.forall_mem_cons.mpr ⟨rfl, List.forall_mem_cons.mpr ⟨rfl, List.forall_mem_cons.mpr ⟨rfl, fun _ h => nomatch h⟩⟩⟩⟩⟩⟩⟩) ?_
  show xv_W mX11_advert 6 0 0 _ 0 0 (sx n c) I (rx c) J 0 [some (.ref 60), some (.int x1), some (.int x2), some (.int x3), some (.int x4), some (.int x5), some (.int x6), none] []
  refine xv_il1 fX11_advert_0 ?_
  refine xv_k fX11_advert_1 ?_
  refine xv_k fX11_advert_2 ?_
  refine xv_callS3R (m_isIn_t n c _ J (h1).1 (h1).2) fX11_advert_3 YX11_isIn VX11_isIn lX11_126 rfl (Nat.le_of_ble_eq_true rfl) (by decide) (by decide) (by decide) ?_
  refine xv_if_eq fX11_advert_6 (fun h_6 => ?_) (fun h_6 => ?_)
  · exact absurd h_6 (by decide)
  · refine xv_il2 fX11_advert_9 ?_
    refine xv_k fX11_advert_10 ?_
    refine xv_k fX11_advert_11 ?_
    refine xv_callS3R (m_isIn_t n c _ J (h2).1 (h2).2) fX11_advert_12 YX11_isIn VX11_isIn lX11_126 rfl (Nat.le_of_ble_eq_true rfl) (by decide) (by decide) (by decide) ?_
    refine xv_if_eq fX11_advert_15 (fun h_15 => ?_) (fun h_15 => ?_)
    · exact absurd h_15 (by decide)
    · refine xv_il3 fX11_advert_18 ?_
      refine xv_k fX11_advert_19 ?_
      refine xv_k fX11_advert_20 ?_
      refine xv_callS3R (m_isIn_t n c _ J (h3).1 (h3).2) fX11_advert_21 YX11_isIn VX11_isIn lX11_126 rfl (Nat.le_of_ble_eq_true rfl) (by decide) (by decide) (by decide) ?_
      refine xv_if_eq fX11_advert_24 (fun h_24 => ?_) (fun h_24 => ?_)
      · exact absurd h_24 (by decide)
      · refine xv_il5 fX11_advert_27 ?_
        refine xv_k fX11_advert_29 ?_
        refine xv_k fX11_advert_30 ?_
        refine xv_callS3R (m_isIn_f n c _ J (hx)) fX11_advert_31 YX11_isIn VX11_isIn lX11_126 rfl (Nat.le_of_ble_eq_true rfl) (by decide) (by decide) (by decide) ?_
        refine xv_if_eq fX11_advert_34 (fun h_34 => ?_) (fun h_34 => ?_)
        · refine xv_k fX11_advert_51 ?_
          refine xv_is7 fX11_advert_52 ?_
          refine xv_al0 fX11_advert_54 ?_
          refine xv_il7 fX11_advert_55 ?_
          refine xv_if_ne fX11_advert_57 (fun h_57 => ?_) (fun h_57 => ?_)
          · exact absurd h_57 (by decide)
          · refine xv_k fX11_advert_60 ?_
            refine xv_goto fX11_advert_61 ?_
            refine xv_callV1R (m_fails1 n c _ J) fX11_advert_78 YX11_fails VX11_fails lX11_137 rfl rfl (sx_60 _ _) (Nat.le_of_ble_eq_true rfl) (by decide) (by decide) (by decide) ?_
            refine xv_if_eq fX11_advert_81 (fun h_81 => ?_) (fun h_81 => ?_)
            · exact absurd h_81 (by decide)
            · refine xv_k fX11_advert_84 ?_
              exact xv_iret fX11_advert_85 rfl rfl xv_eq_i
        · exact absurd h_34 (by decide)

theorem m_advert_e (n : Nat) (c : Nat × Nat) (I : xv_I) (J : xv_J) {x1 x2 x3 x4 x5 x6 : Int32} (h1 : okR 0 3 x1) (h2 : okR 1 3 x2) (h3 : okR 1 4 x3) (h4 : ¬ x5 < -1 ∧ x5 ≤ nI 3) (hx : x6 < -1 ∨ ¬ x6 ≤ nI 2) : xv_Met mX11_advert 6 0 0 (sx n c) I (rx c) J [.ref 60, .int x1, .int x2, .int x3, .int x4, .int x5, .int x6] (xv_eq (.inl (some (.int (nI 0)))) (sx n c) (xv_u I 60 48 (nI 1)) (rx c) J) := by
  refine xv_Met.of (by decide +kernel) (Nat.le_of_ble_eq_true rfl) (List.forall_mem_cons.mpr ⟨rfl, List.forall_mem_cons.mpr ⟨rfl, List.forall_mem_cons.mpr ⟨rfl, List.forall_mem_cons.mpr ⟨rfl, List.forall_mem_cons.mpr ⟨rfl, List.forall_mem_cons.mpr ⟨rfl, List.forall_mem_cons.mpr ⟨rfl, fun _ h => nomatch h⟩⟩⟩⟩⟩⟩⟩) ?_
  show xv_W mX11_advert 6 0 0 _ 0 0 (sx n c) I (rx c) J 0 [some (.ref 60), some (.int x1), some (.int x2), some (.int x3), some (.int x4), some (.int x5), some (.int x6), none] []
  refine xv_il1 fX11_advert_0 ?_
  refine xv_k fX11_advert_1 ?_
  refine xv_k fX11_advert_2 ?_
  refine xv_callS3R (m_isIn_t n c _ J (h1).1 (h1).2) fX11_advert_3 YX11_isIn VX11_isIn lX11_126 rfl (Nat.le_of_ble_eq_true rfl) (by decide) (by decide) (by decide) ?_
  refine xv_if_eq fX11_advert_6 (fun h_6 => ?_) (fun h_6 => ?_)
  · exact absurd h_6 (by decide)
  · refine xv_il2 fX11_advert_9 ?_
    refine xv_k fX11_advert_10 ?_
    refine xv_k fX11_advert_11 ?_
    refine xv_callS3R (m_isIn_t n c _ J (h2).1 (h2).2) fX11_advert_12 YX11_isIn VX11_isIn lX11_126 rfl (Nat.le_of_ble_eq_true rfl) (by decide) (by decide) (by decide) ?_
    refine xv_if_eq fX11_advert_15 (fun h_15 => ?_) (fun h_15 => ?_)
    · exact absurd h_15 (by decide)
    · refine xv_il3 fX11_advert_18 ?_
      refine xv_k fX11_advert_19 ?_
      refine xv_k fX11_advert_20 ?_
      refine xv_callS3R (m_isIn_t n c _ J (h3).1 (h3).2) fX11_advert_21 YX11_isIn VX11_isIn lX11_126 rfl (Nat.le_of_ble_eq_true rfl) (by decide) (by decide) (by decide) ?_
      refine xv_if_eq fX11_advert_24 (fun h_24 => ?_) (fun h_24 => ?_)
      · exact absurd h_24 (by decide)
      · refine xv_il5 fX11_advert_27 ?_
        refine xv_k fX11_advert_29 ?_
        refine xv_k fX11_advert_30 ?_
        refine xv_callS3R (m_isIn_t n c _ J (h4).1 (h4).2) fX11_advert_31 YX11_isIn VX11_isIn lX11_126 rfl (Nat.le_of_ble_eq_true rfl) (by decide) (by decide) (by decide) ?_
        refine xv_if_eq fX11_advert_34 (fun h_34 => ?_) (fun h_34 => ?_)
        · exact absurd h_34 (by decide)
        · refine xv_il6 fX11_advert_37 ?_
          refine xv_k fX11_advert_39 ?_
          refine xv_k fX11_advert_40 ?_
          refine xv_callS3R (m_isIn_f n c _ J (hx)) fX11_advert_41 YX11_isIn VX11_isIn lX11_126 rfl (Nat.le_of_ble_eq_true rfl) (by decide) (by decide) (by decide) ?_
          refine xv_if_eq fX11_advert_44 (fun h_44 => ?_) (fun h_44 => ?_)
          · refine xv_k fX11_advert_51 ?_
            refine xv_is7 fX11_advert_52 ?_
            refine xv_al0 fX11_advert_54 ?_
            refine xv_il7 fX11_advert_55 ?_
            refine xv_if_ne fX11_advert_57 (fun h_57 => ?_) (fun h_57 => ?_)
            · exact absurd h_57 (by decide)
            · refine xv_k fX11_advert_60 ?_
              refine xv_goto fX11_advert_61 ?_
              refine xv_callV1R (m_fails1 n c _ J) fX11_advert_78 YX11_fails VX11_fails lX11_137 rfl rfl (sx_60 _ _) (Nat.le_of_ble_eq_true rfl) (by decide) (by decide) (by decide) ?_
              refine xv_if_eq fX11_advert_81 (fun h_81 => ?_) (fun h_81 => ?_)
              · exact absurd h_81 (by decide)
              · refine xv_k fX11_advert_84 ?_
                exact xv_iret fX11_advert_85 rfl rfl xv_eq_i
          · exact absurd h_44 (by decide)

theorem m_advert_f (n : Nat) (c : Nat × Nat) (I : xv_I) (J : xv_J) {x1 x2 x3 x4 x5 x6 : Int32} (h1 : okR 0 3 x1) (h2 : okR 1 3 x2) (h3 : okR 1 4 x3) (h4 : ¬ x5 < -1 ∧ x5 ≤ nI 3) (h5 : ¬ x6 < -1 ∧ x6 ≤ nI 2) (hn : I 60 5 = nI 20) : xv_Met mX11_advert 6 0 0 (sx n c) I (rx c) J [.ref 60, .int x1, .int x2, .int x3, .int x4, .int x5, .int x6] (xv_eq (.inl (some (.int (nI 0)))) (sx n c) (xv_u I 60 48 (nI 2)) (rx c) J) := by
  refine xv_Met.of (by decide +kernel) (Nat.le_of_ble_eq_true rfl) (List.forall_mem_cons.mpr ⟨rfl, List.forall_mem_cons.mpr ⟨rfl, List.forall_mem_cons.mpr ⟨rfl, List.forall_mem_cons.mpr ⟨rfl, List.forall_mem_cons.mpr ⟨rfl, List.forall_mem_cons.mpr ⟨rfl, List.forall_mem_cons.mpr ⟨rfl, fun _ h => nomatch h⟩⟩⟩⟩⟩⟩⟩) ?_
  show xv_W mX11_advert 6 0 0 _ 0 0 (sx n c) I (rx c) J 0 [some (.ref 60), some (.int x1), some (.int x2), some (.int x3), some (.int x4), some (.int x5), some (.int x6), none] []
  refine xv_il1 fX11_advert_0 ?_
  refine xv_k fX11_advert_1 ?_
  refine xv_k fX11_advert_2 ?_
  refine xv_callS3R (m_isIn_t n c _ J (h1).1 (h1).2) fX11_advert_3 YX11_isIn VX11_isIn lX11_126 rfl (Nat.le_of_ble_eq_true rfl) (by decide) (by decide) (by decide) ?_
  refine xv_if_eq fX11_advert_6 (fun h_6 => ?_) (fun h_6 => ?_)
  · exact absurd h_6 (by decide)
  · refine xv_il2 fX11_advert_9 ?_
    refine xv_k fX11_advert_10 ?_
    refine xv_k fX11_advert_11 ?_
    refine xv_callS3R (m_isIn_t n c _ J (h2).1 (h2).2) fX11_advert_12 YX11_isIn VX11_isIn lX11_126 rfl (Nat.le_of_ble_eq_true rfl) (by decide) (by decide) (by decide) ?_
    refine xv_if_eq fX11_advert_15 (fun h_15 => ?_) (fun h_15 => ?_)
    · exact absurd h_15 (by decide)
    · refine xv_il3 fX11_advert_18 ?_
      refine xv_k fX11_advert_19 ?_
      refine xv_k fX11_advert_20 ?_
      refine xv_callS3R (m_isIn_t n c _ J (h3).1 (h3).2) fX11_advert_21 YX11_isIn VX11_isIn lX11_126 rfl (Nat.le_of_ble_eq_true rfl) (by decide) (by decide) (by decide) ?_
      refine xv_if_eq fX11_advert_24 (fun h_24 => ?_) (fun h_24 => ?_)
      · exact absurd h_24 (by decide)
      · refine xv_il5 fX11_advert_27 ?_
        refine xv_k fX11_advert_29 ?_
        refine xv_k fX11_advert_30 ?_
        refine xv_callS3R (m_isIn_t n c _ J (h4).1 (h4).2) fX11_advert_31 YX11_isIn VX11_isIn lX11_126 rfl (Nat.le_of_ble_eq_true rfl) (by decide) (by decide) (by decide) ?_
        refine xv_if_eq fX11_advert_34 (fun h_34 => ?_) (fun h_34 => ?_)
        · exact absurd h_34 (by decide)
        · refine xv_il6 fX11_advert_37 ?_
          refine xv_k fX11_advert_39 ?_
          refine xv_k fX11_advert_40 ?_
          refine xv_callS3R (m_isIn_t n c _ J (h5).1 (h5).2) fX11_advert_41 YX11_isIn VX11_isIn lX11_126 rfl (Nat.le_of_ble_eq_true rfl) (by decide) (by decide) (by decide) ?_
          refine xv_if_eq fX11_advert_44 (fun h_44 => ?_) (fun h_44 => ?_)
          · exact absurd h_44 (by decide)
          · refine xv_k fX11_advert_47 ?_
            refine xv_goto fX11_advert_48 ?_
            refine xv_is7 fX11_advert_52 ?_
            refine xv_al0 fX11_advert_54 ?_
            refine xv_il7 fX11_advert_55 ?_
            refine xv_if_ne fX11_advert_57 (fun h_57 => ?_) (fun h_57 => ?_)
            · refine xv_al0 fX11_advert_64 ?_
              refine xv_getI fX11_advert_65 gX11_147 rfl (sx_60 _ _) ?_
              rw [hn]
              refine xv_k fX11_advert_68 ?_
              refine xv_ic_ne fX11_advert_70 (fun h_70 => ?_) (fun h_70 => ?_)
              · exact absurd h_70 (by decide)
              · refine xv_k fX11_advert_73 ?_
                refine xv_goto fX11_advert_74 ?_
                refine xv_callV1R (m_fails2 n c _ J) fX11_advert_78 YX11_fails VX11_fails lX11_137 rfl rfl (sx_60 _ _) (Nat.le_of_ble_eq_true rfl) (by decide) (by decide) (by decide) ?_
                refine xv_if_eq fX11_advert_81 (fun h_81 => ?_) (fun h_81 => ?_)
                · exact absurd h_81 (by decide)
                · refine xv_k fX11_advert_84 ?_
                  exact xv_iret fX11_advert_85 rfl rfl xv_eq_i
            · exact absurd h_57 (by decide)

theorem nI_ne2 {a b : Nat} (h : a ≠ b) (ha : a < 2 ^ 31) (hb : b < 2 ^ 31) : ¬ nI a = nI b := fun q => by
  have h1 := congrArg Int32.toInt q
  rw [nI_toInt ha, nI_toInt hb] at h1
  omega
def mAd (a : Nat) (x1 x2 x3 x4 x5 x6 : Int32) (I : xv_I) : xv_I := xv_u (xv_u (xv_u (xv_u (xv_u (xv_u (xv_u I 65 a x1) 66 a x2) 67 a x3) 68 a x4) 69 a x5) 70 a x6) 71 a (-1)
theorem m_advert_ok (n : Nat) (c : Nat × Nat) (I : xv_I) (J : xv_J) {x1 x2 x3 x4 x5 x6 : Int32} (h1 : okR 0 3 x1) (h2 : okR 1 3 x2) (h3 : okR 1 4 x3) (h4 : ¬ x5 < -1 ∧ x5 ≤ nI 3) (h5 : ¬ x6 < -1 ∧ x6 ≤ nI 2) (hz : narrow .boolean (.int x4) = .int x4) (hn : I 60 5 = nI c.1) (hc : c.1 < 20) : xv_Met mX11_advert 6 0 0 (sx n c) I (rx c) J [.ref 60, .int x1, .int x2, .int x3, .int x4, .int x5, .int x6] (xv_eq (.inl (some (.int (nI c.1)))) (sx n c) (xv_u (mAd c.1 x1 x2 x3 x4 x5 x6 (xv_u I 60 48 (nI 0))) 60 5 (nI (c.1 + 1))) (rx c) J) := by
  refine xv_Met.of (by decide +kernel) (Nat.le_of_ble_eq_true rfl) (List.forall_mem_cons.mpr ⟨rfl, List.forall_mem_cons.mpr ⟨rfl, List.forall_mem_cons.mpr ⟨rfl, List.forall_mem_cons.mpr ⟨rfl, List.forall_mem_cons.mpr ⟨rfl, List.forall_mem_cons.mpr ⟨rfl, List.forall_mem_cons.mpr ⟨rfl, fun _ h => nomatch h⟩⟩⟩⟩⟩⟩⟩) ?_
  show xv_W mX11_advert 6 0 0 _ 0 0 (sx n c) I (rx c) J 0 [some (.ref 60), some (.int x1), some (.int x2), some (.int x3), some (.int x4), some (.int x5), some (.int x6), none] []
  refine xv_il1 fX11_advert_0 ?_
  refine xv_k fX11_advert_1 ?_
  refine xv_k fX11_advert_2 ?_
  refine xv_callS3R (m_isIn_t n c _ J (h1).1 (h1).2) fX11_advert_3 YX11_isIn VX11_isIn lX11_126 rfl (Nat.le_of_ble_eq_true rfl) (by decide) (by decide) (by decide) ?_
  refine xv_if_eq fX11_advert_6 (fun h_6 => ?_) (fun h_6 => ?_)
  · exact absurd h_6 (by decide)
  · refine xv_il2 fX11_advert_9 ?_
    refine xv_k fX11_advert_10 ?_
    refine xv_k fX11_advert_11 ?_
    refine xv_callS3R (m_isIn_t n c _ J (h2).1 (h2).2) fX11_advert_12 YX11_isIn VX11_isIn lX11_126 rfl (Nat.le_of_ble_eq_true rfl) (by decide) (by decide) (by decide) ?_
    refine xv_if_eq fX11_advert_15 (fun h_15 => ?_) (fun h_15 => ?_)
    · exact absurd h_15 (by decide)
    · refine xv_il3 fX11_advert_18 ?_
      refine xv_k fX11_advert_19 ?_
      refine xv_k fX11_advert_20 ?_
      refine xv_callS3R (m_isIn_t n c _ J (h3).1 (h3).2) fX11_advert_21 YX11_isIn VX11_isIn lX11_126 rfl (Nat.le_of_ble_eq_true rfl) (by decide) (by decide) (by decide) ?_
      refine xv_if_eq fX11_advert_24 (fun h_24 => ?_) (fun h_24 => ?_)
      · exact absurd h_24 (by decide)
      · refine xv_il5 fX11_advert_27 ?_
        refine xv_k fX11_advert_29 ?_
        refine xv_k fX11_advert_30 ?_
        refine xv_callS3R (m_isIn_t n c _ J (h4).1 (h4).2) fX11_advert_31 YX11_isIn VX11_isIn lX11_126 rfl (Nat.le_of_ble_eq_true rfl) (by decide) (by decide) (by decide) ?_
        refine xv_if_eq fX11_advert_34 (fun h_34 => ?_) (fun h_34 => ?_)
        · exact absurd h_34 (by decide)
        · refine xv_il6 fX11_advert_37 ?_
          refine xv_k fX11_advert_39 ?_
          refine xv_k fX11_advert_40 ?_
          refine xv_callS3R (m_isIn_t n c _ J (h5).1 (h5).2) fX11_advert_41 YX11_isIn VX11_isIn lX11_126 rfl (Nat.le_of_ble_eq_true rfl) (by decide) (by decide) (by decide) ?_
          refine xv_if_eq fX11_advert_44 (fun h_44 => ?_) (fun h_44 => ?_)
          · exact absurd h_44 (by decide)
          · refine xv_k fX11_advert_47 ?_
            refine xv_goto fX11_advert_48 ?_
            refine xv_is7 fX11_advert_52 ?_
            refine xv_al0 fX11_advert_54 ?_
            refine xv_il7 fX11_advert_55 ?_
            refine xv_if_ne fX11_advert_57 (fun h_57 => ?_) (fun h_57 => ?_)
            · refine xv_al0 fX11_advert_64 ?_
              refine xv_getI fX11_advert_65 gX11_147 rfl (sx_60 _ _) ?_
              rw [hn]
              refine xv_k fX11_advert_68 ?_
              refine xv_ic_ne fX11_advert_70 (fun h_70 => ?_) (fun h_70 => ?_)
              · refine xv_k fX11_advert_77 ?_
                refine xv_callV1R (m_fails0 n c _ J) fX11_advert_78 YX11_fails VX11_fails lX11_137 rfl rfl (sx_60 _ _) (Nat.le_of_ble_eq_true rfl) (by decide) (by decide) (by decide) ?_
                refine xv_if_eq fX11_advert_81 (fun h_81 => ?_) (fun h_81 => ?_)
                · refine xv_al0 fX11_advert_86 ?_
                  refine xv_getR fX11_advert_87 gX11_23 rfl (sx_60 _ _) (rx_60_6 _) ?_
                  refine xv_al0 fX11_advert_90 ?_
                  refine xv_getI fX11_advert_91 gX11_147 rfl (sx_60 _ _) ?_
                  refine xv_eqi (y := nI c.1) (by simp [xv_u, hn]) ?_
                  refine xv_il1 fX11_advert_94 ?_
                  refine xv_iastN fX11_advert_95 (sx_65 _ _) (⟨hc, by decide⟩) ?_
                  refine xv_al0 fX11_advert_96 ?_
                  refine xv_getR fX11_advert_97 gX11_26 rfl (sx_60 _ _) (rx_60_7 _) ?_
                  refine xv_al0 fX11_advert_100 ?_
                  refine xv_getI fX11_advert_101 gX11_147 rfl (sx_60 _ _) ?_
                  refine xv_eqi (y := nI c.1) (by simp [xv_u, hn]) ?_
                  refine xv_il2 fX11_advert_104 ?_
                  refine xv_iastN fX11_advert_105 (sx_66 _ _) (⟨hc, by decide⟩) ?_
                  refine xv_al0 fX11_advert_106 ?_
                  refine xv_getR fX11_advert_107 gX11_29 rfl (sx_60 _ _) (rx_60_8 _) ?_
                  refine xv_al0 fX11_advert_110 ?_
                  refine xv_getI fX11_advert_111 gX11_147 rfl (sx_60 _ _) ?_
                  refine xv_eqi (y := nI c.1) (by simp [xv_u, hn]) ?_
                  refine xv_il3 fX11_advert_114 ?_
                  refine xv_iastN fX11_advert_115 (sx_67 _ _) (⟨hc, by decide⟩) ?_
                  refine xv_al0 fX11_advert_116 ?_
                  refine xv_getR fX11_advert_117 gX11_32 rfl (sx_60 _ _) (rx_60_9 _) ?_
                  refine xv_al0 fX11_advert_120 ?_
                  refine xv_getI fX11_advert_121 gX11_147 rfl (sx_60 _ _) ?_
                  refine xv_eqi (y := nI c.1) (by simp [xv_u, hn]) ?_
                  refine xv_il4 fX11_advert_124 ?_
                  refine xv_zastN fX11_advert_126 (sx_68 _ _) (⟨hc, by decide⟩) (hz) ?_
                  refine xv_al0 fX11_advert_127 ?_
                  refine xv_getR fX11_advert_128 gX11_35 rfl (sx_60 _ _) (rx_60_10 _) ?_
                  refine xv_al0 fX11_advert_131 ?_
                  refine xv_getI fX11_advert_132 gX11_147 rfl (sx_60 _ _) ?_
                  refine xv_eqi (y := nI c.1) (by simp [xv_u, hn]) ?_
                  refine xv_il5 fX11_advert_135 ?_
                  refine xv_iastN fX11_advert_137 (sx_69 _ _) (⟨hc, by decide⟩) ?_
                  refine xv_al0 fX11_advert_138 ?_
                  refine xv_getR fX11_advert_139 gX11_38 rfl (sx_60 _ _) (rx_60_11 _) ?_
                  refine xv_al0 fX11_advert_142 ?_
                  refine xv_getI fX11_advert_143 gX11_147 rfl (sx_60 _ _) ?_
                  refine xv_eqi (y := nI c.1) (by simp [xv_u, hn]) ?_
                  refine xv_il6 fX11_advert_146 ?_
                  refine xv_iastN fX11_advert_148 (sx_70 _ _) (⟨hc, by decide⟩) ?_
                  refine xv_al0 fX11_advert_149 ?_
                  refine xv_getR fX11_advert_150 gX11_41 rfl (sx_60 _ _) (rx_60_12 _) ?_
                  refine xv_al0 fX11_advert_153 ?_
                  refine xv_getI fX11_advert_154 gX11_147 rfl (sx_60 _ _) ?_
                  refine xv_eqi (y := nI c.1) (by simp [xv_u, hn]) ?_
                  refine xv_k fX11_advert_157 ?_
                  refine xv_iastN fX11_advert_158 (sx_71 _ _) (⟨hc, by decide⟩) ?_
                  refine xv_al0 fX11_advert_159 ?_
                  refine xv_dup_r fX11_advert_160 ?_
                  refine xv_getI fX11_advert_161 gX11_147 rfl (sx_60 _ _) ?_
                  refine xv_eqi (y := nI c.1) (by simp [xv_u, hn]) ?_
                  refine xv_k fX11_advert_164 ?_
                  refine xv_iadd fX11_advert_165 ?_
                  rw [nI_add]
                  refine xv_putI fX11_advert_166 gX11_147 rfl (tp11_5 _) (sx_60 _ _) ⟨rfl, rfl⟩ ?_
                  refine xv_al0 fX11_advert_169 ?_
                  refine xv_getI fX11_advert_170 gX11_147 rfl (sx_60 _ _) ?_
                  rw [xv_u_eq]
                  refine xv_k fX11_advert_173 ?_
                  refine xv_isub fX11_advert_174 ?_
                  rw [show nI (c.1 + 1) - nI 1 = nI c.1 from nI_sub (Nat.succ_le_succ (Nat.zero_le _))]
                  exact xv_iret fX11_advert_175 rfl rfl xv_eq_i
                · exact absurd h_81 (by decide)
              · exact absurd h_70 (nI_ne2 (by omega) (by omega) (by decide))
            · exact absurd h_57 (by decide)
