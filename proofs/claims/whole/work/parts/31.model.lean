theorem xv_kl {M : xv_M} {d mc ms kc ks : Nat} {Q : xv_Q} {sh : xv_Sh} {I : xv_I} {Rf : xv_Rf} {J : xv_J} {pc pc' : Nat} {L : List (Option Value)} {S : List Value} {idx : Nat} {v : Int32} (hf : xv_F M pc (.ldc idx) 2 pc') (hc : Cond.constant M.1.cls idx v ∈ xv_tbl) (k : xv_W M d mc ms Q kc ks sh I Rf J pc' L (.int v :: S)) : xv_W M d mc ms Q kc ks sh I Rf J pc L S := by
  obtain ⟨h1, rfl⟩ := hf
  intro p l e R s m args below meth c D A sh0 ad0 ca0 ad ca H locs cells slots ls C X hw hR hS hL hO hcc hs
  exact lv_ldc C.1 C.2.1 C.2.2.2.2.1 (C.2.2.2.2.2.1 _ hc) h1 (k C X hw hR hS hL (xv_ok_i hO _) hcc hs)
theorem d10a {d k : Nat} (h : d < 10 ^ (6 - k)) (hd : 0 < d) : k < 6 := by
  rcases Nat.lt_or_ge k 6 with q | q
  · exact q
  · rw [show 6 - k = 0 by omega] at h
    omega
theorem d10b {d k : Nat} (h : d < 10 ^ (6 - k)) (hk : k < 6) : d / 10 < 10 ^ (6 - (k + 1)) := by
  rw [show 6 - k = 6 - (k + 1) + 1 by omega, Nat.pow_succ] at h
  omega
theorem d10c {d k : Nat} (h : d < 10 ^ (6 - k)) : d < 2 ^ 31 := Nat.lt_of_lt_of_le h (Nat.le_trans (Nat.pow_le_pow_right (by decide) (Nat.sub_le 6 k)) (by decide))
theorem xParL_s {m k d : Nat} (hd : 0 < d) (hd2 : d < 2 ^ 31) : xParL (m + 1) k (nI d) = if d % 10 = 0 then nI 0 else xParL m (k + 1) (nI (d / 10)) := by
  rw [xParL, if_neg (nI_n0 hd hd2), if_neg (nI_pos hd2), nI_rem hd2 (by decide), nI_div hd2 (by decide)]
  by_cases h : d % 10 = 0
  · rw [h, if_pos (show nI 0 = 0 from rfl), if_pos rfl]
  · rw [if_neg (nI_n0 (by omega) (by omega)), if_neg h]
theorem xParL_z {m k : Nat} : xParL (m + 1) k (nI 0) = nI k := by rw [xParL, if_pos (show nI 0 = 0 from rfl)]
theorem nI_nle0 {k : Nat} (h : 0 < k) (h2 : k < 2 ^ 31) : ¬ nI k ≤ 0 := fun q => by
  rw [fa_le, nI_toInt h2] at q
  have : (0 : Int32).toInt = 0 := by decide
  omega
theorem l_stG (n : Nat) (c : Nat × Nat) (I : xv_I) (J : xv_J) {Q : xv_Q} {x1 x2 x3 : Int32} {l7 : Option Value} {np : Nat} (h1 : 1 ≤ np) (h6 : np ≤ 6) : ∀ (q d k : Nat), k + q = 6 → d < 10 ^ (6 - k) → xParL (7 - k) k (nI d) = nI np → (xv_W mX11_story 6 0 0 Q 0 0 (sx n c) I (rx c) J 70 (some (.ref 60) :: some (.int x1) :: some (.int x2) :: some (.int x3) :: some (.int (nI np)) :: some (.int (nI 0)) :: some (.int (nI 1)) :: l7 :: []) []) → xv_W mX11_story 6 0 0 Q 0 0 (sx n c) I (rx c) J 32 (some (.ref 60) :: some (.int x1) :: some (.int x2) :: some (.int x3) :: some (.int (nI k)) :: some (.int (nI d)) :: some (.int (nI 1)) :: l7 :: []) [] := by
  intro q
  induction q with
  | zero =>
    intro d k hm hd i0 hx
    obtain rfl : k = 6 := by omega
    obtain rfl : d = 0 := by
      have : d < 1 := hd
      omega
    show xv_W mX11_story 6 0 0 _ 0 0 (sx n c) I (rx c) J 32 (some (.ref 60) :: some (.int x1) :: some (.int x2) :: some (.int x3) :: some (.int (nI 6)) :: some (.int (nI 0)) :: some (.int (nI 1)) :: l7 :: []) []
    obtain rfl : 6 = np := nI_inj2 ((by first | exact i0 | exact (xParL_z (m := 6 - k) (k := k)).symm.trans (by rw [show 6 - k + 1 = 7 - k by omega]; exact i0)) : nI 6 = nI np) (by omega) (by omega)
    refine xv_il6 fX11_story_32 ?_
    refine xv_if_eq fX11_story_34 (fun h_34 => ?_) (fun h_34 => ?_)
    · exact absurd h_34 (by decide)
    · refine xv_il5 fX11_story_37 ?_
      refine xv_if_le fX11_story_39 (fun h_39 => ?_) (fun h_39 => ?_)
      · exact hx
      · exact absurd (by decide) h_39
  | succ q ih =>
    intro d k hm hd i0 hx
    obtain hd31 : d < 2 ^ 31 := d10c hd
    rcases Nat.eq_zero_or_pos d with hd0 | hd0
    · subst hd0
      show xv_W mX11_story 6 0 0 _ 0 0 (sx n c) I (rx c) J 32 (some (.ref 60) :: some (.int x1) :: some (.int x2) :: some (.int x3) :: some (.int (nI k)) :: some (.int (nI 0)) :: some (.int (nI 1)) :: l7 :: []) []
      obtain rfl : k = np := nI_inj2 ((by first | exact i0 | exact (xParL_z (m := 6 - k) (k := k)).symm.trans (by rw [show 6 - k + 1 = 7 - k by omega]; exact i0)) : nI k = nI np) (by omega) (by omega)
      refine xv_il6 fX11_story_32 ?_
      refine xv_if_eq fX11_story_34 (fun h_34 => ?_) (fun h_34 => ?_)
      · exact absurd h_34 (by decide)
      · refine xv_il5 fX11_story_37 ?_
        refine xv_if_le fX11_story_39 (fun h_39 => ?_) (fun h_39 => ?_)
        · exact hx
        · exact absurd (by decide) h_39
    · show xv_W mX11_story 6 0 0 _ 0 0 (sx n c) I (rx c) J 32 (some (.ref 60) :: some (.int x1) :: some (.int x2) :: some (.int x3) :: some (.int (nI k)) :: some (.int (nI d)) :: some (.int (nI 1)) :: l7 :: []) []
      obtain hk6 := d10a hd hd0
      obtain e7 : 7 - k = (6 - k) + 1 := by omega
      rw [e7, xParL_s hd0 hd31] at i0
      refine xv_il6 fX11_story_32 ?_
      refine xv_if_eq fX11_story_34 (fun h_34 => ?_) (fun h_34 => ?_)
      · exact absurd h_34 (by decide)
      · refine xv_il5 fX11_story_37 ?_
        refine xv_if_le fX11_story_39 (fun h_39 => ?_) (fun h_39 => ?_)
        · exact absurd h_39 (nI_nle0 (by omega) (by omega))
        · refine xv_il5 fX11_story_42 ?_
          refine xv_k fX11_story_44 ?_
          refine xv_irem fX11_story_46 (by decide) ?_
          rw [nI_rem (by omega) (by decide)]
          refine xv_if_le fX11_story_47 (fun h_47 => ?_) (fun h_47 => ?_)
          · exact absurd i0 (by rw [if_pos (Nat.le_zero.mp (Nat.le_of_not_lt fun q9 => nI_nle0 q9 (by omega) h_47))]; exact fun q => absurd (nI_inj2 q (by omega) (by omega)) (by omega))
          · obtain r9 : ¬ d % 10 = 0 := fun q9 => h_47 (by rw [q9]; decide)
            rw [if_neg r9] at i0
            refine xv_k fX11_story_50 ?_
            refine xv_goto fX11_story_51 ?_
            refine xv_is6 fX11_story_55 ?_
            refine xv_il5 fX11_story_57 ?_
            refine xv_k fX11_story_59 ?_
            refine xv_idiv fX11_story_61 (by decide) ?_
            rw [nI_div (by omega) (by decide)]
            refine xv_is5 fX11_story_62 ?_
            refine xv_iincN4 (a := 1) fX11_story_64 (by decide) ?_
            refine xv_goto fX11_story_67 ?_
            exact ih (d / 10) (k + 1) (by omega) (d10b hd hk6) (by rw [show 7 - (k + 1) = 6 - k by omega]; exact i0) hx

theorem l_stB (n : Nat) (c : Nat × Nat) (I : xv_I) (J : xv_J) {Q : xv_Q} {x1 x2 x3 : Int32} {l7 : Option Value}  : ∀ (q d k : Nat), k + q = 6 → d < 10 ^ (6 - k) → ¬ okR 1 6 (xParL (7 - k) k (nI d)) ∧ 0 < d + k → (∀ d k, xv_W mX11_story 6 0 0 Q 0 0 (sx n c) I (rx c) J 70 (some (.ref 60) :: some (.int x1) :: some (.int x2) :: some (.int x3) :: some (.int (nI k)) :: some (.int (nI d)) :: some (.int (nI 0)) :: l7 :: []) []) → xv_W mX11_story 6 0 0 Q 0 0 (sx n c) I (rx c) J 32 (some (.ref 60) :: some (.int x1) :: some (.int x2) :: some (.int x3) :: some (.int (nI k)) :: some (.int (nI d)) :: some (.int (nI 1)) :: l7 :: []) [] := by
  intro q
  induction q with
  | zero =>
    intro d k hm hd i0 hx
    obtain rfl : k = 6 := by omega
    obtain rfl : d = 0 := by
      have : d < 1 := hd
      omega
    show xv_W mX11_story 6 0 0 _ 0 0 (sx n c) I (rx c) J 32 (some (.ref 60) :: some (.int x1) :: some (.int x2) :: some (.int x3) :: some (.int (nI 6)) :: some (.int (nI 0)) :: some (.int (nI 1)) :: l7 :: []) []
    exact absurd (show okR 1 6 (xParL (7 - 6) 6 (nI 0)) by rw [show 7 - 6 = (6 - 6) + 1 by omega, xParL_z]; exact okR_n (by omega) (by omega) (by decide)) i0.1
  | succ q ih =>
    intro d k hm hd i0 hx
    obtain hd31 : d < 2 ^ 31 := d10c hd
    rcases Nat.eq_zero_or_pos d with hd0 | hd0
    · subst hd0
      show xv_W mX11_story 6 0 0 _ 0 0 (sx n c) I (rx c) J 32 (some (.ref 60) :: some (.int x1) :: some (.int x2) :: some (.int x3) :: some (.int (nI k)) :: some (.int (nI 0)) :: some (.int (nI 1)) :: l7 :: []) []
      exact absurd (show okR 1 6 (xParL (7 - k) k (nI 0)) by rw [show 7 - k = (6 - k) + 1 by omega, xParL_z]; exact okR_n (by omega) (by omega) (by decide)) i0.1
    · show xv_W mX11_story 6 0 0 _ 0 0 (sx n c) I (rx c) J 32 (some (.ref 60) :: some (.int x1) :: some (.int x2) :: some (.int x3) :: some (.int (nI k)) :: some (.int (nI d)) :: some (.int (nI 1)) :: l7 :: []) []
      obtain hk6 := d10a hd hd0
      obtain e7 : 7 - k = (6 - k) + 1 := by omega
      rw [e7, xParL_s hd0 hd31] at i0
      refine xv_il6 fX11_story_32 ?_
      refine xv_if_eq fX11_story_34 (fun h_34 => ?_) (fun h_34 => ?_)
      · exact absurd h_34 (by decide)
      · refine xv_il5 fX11_story_37 ?_
        refine xv_if_le fX11_story_39 (fun h_39 => ?_) (fun h_39 => ?_)
        · exact absurd h_39 (nI_nle0 (by omega) (by omega))
        · refine xv_il5 fX11_story_42 ?_
          refine xv_k fX11_story_44 ?_
          refine xv_irem fX11_story_46 (by decide) ?_
          rw [nI_rem (by omega) (by decide)]
          refine xv_if_le fX11_story_47 (fun h_47 => ?_) (fun h_47 => ?_)
          · refine xv_k fX11_story_54 ?_
            refine xv_is6 fX11_story_55 ?_
            refine xv_il5 fX11_story_57 ?_
            refine xv_k fX11_story_59 ?_
            refine xv_idiv fX11_story_61 (by decide) ?_
            rw [nI_div (by omega) (by decide)]
            refine xv_is5 fX11_story_62 ?_
            refine xv_iincN4 (a := 1) fX11_story_64 (by decide) ?_
            refine xv_goto fX11_story_67 ?_
            refine xv_il6 fX11_story_32 ?_
            refine xv_if_eq fX11_story_34 (fun _ => ?_) (fun h9 => absurd rfl h9)
            exact hx _ _
          · obtain r9 : ¬ d % 10 = 0 := fun q9 => h_47 (by rw [q9]; decide)
            rw [if_neg r9] at i0
            refine xv_k fX11_story_50 ?_
            refine xv_goto fX11_story_51 ?_
            refine xv_is6 fX11_story_55 ?_
            refine xv_il5 fX11_story_57 ?_
            refine xv_k fX11_story_59 ?_
            refine xv_idiv fX11_story_61 (by decide) ?_
            rw [nI_div (by omega) (by decide)]
            refine xv_is5 fX11_story_62 ?_
            refine xv_iincN4 (a := 1) fX11_story_64 (by decide) ?_
            refine xv_goto fX11_story_67 ?_
            exact ih (d / 10) (k + 1) (by omega) (d10b hd hk6) (by rw [show 7 - (k + 1) = 6 - k by omega]; exact ⟨i0.1, by omega⟩) hx

/-- the digits written down, the last one first -/
def mLn (s : Nat) : Nat → Int32 → xv_I → xv_I
  | 0, _, I => I
  | m + 1, r, I => mLn s m (r / nI 10) (xv_u I 74 (6 * s + m) (r - r / nI 10 * nI 10))
theorem mLn_o (s : Nat) {v j : Nat} (h : v ≠ 74) : ∀ (m : Nat) (r : Int32) (I : xv_I), mLn s m r I v j = I v j
  | 0, _, _ => rfl
  | m + 1, r, I => (mLn_o s h m _ _).trans (xv_u_ne _ _ _ h)
theorem l_stW (n : Nat) (c : Nat × Nat) (J : xv_J) {Q : xv_Q} {x1 x2 x3 : Int32} {np : Nat} (hc : c.2 < 20) : ∀ (m : Nat) (r : Int32) (I : xv_I), m ≤ 6 → I 60 13 = nI c.2 → (∀ r9, xv_W mX11_story 6 0 0 Q 0 0 (sx n c) (mLn c.2 m r I) (rx c) J 171 (some (.ref 60) :: some (.int x1) :: some (.int x2) :: some (.int x3) :: some (.int (nI np)) :: some (.int r9) :: some (.int (nI 1)) :: some (.int (-1)) :: []) []) → xv_W mX11_story 6 0 0 Q 0 0 (sx n c) I (rx c) J 133 (some (.ref 60) :: some (.int x1) :: some (.int x2) :: some (.int x3) :: some (.int (nI np)) :: some (.int r) :: some (.int (nI 1)) :: some (.int (nI m + -1)) :: []) [] := by
  intro m
  induction m with
  | zero =>
    intro r I hm i0 i1
    show xv_W mX11_story 6 0 0 _ 0 0 (sx n c) I (rx c) J 133 (some (.ref 60) :: some (.int x1) :: some (.int x2) :: some (.int x3) :: some (.int (nI np)) :: some (.int r) :: some (.int (nI 1)) :: some (.int (-1)) :: []) []
    refine xv_il7 fX11_story_133 ?_
    refine xv_if_lt fX11_story_135 (fun h_135 => ?_) (fun h_135 => ?_)
    · exact i1 _
    · exact absurd (by decide) h_135
  | succ m ih =>
    intro r I hm i0 i1
    show xv_W mX11_story 6 0 0 _ 0 0 (sx n c) I (rx c) J 133 (some (.ref 60) :: some (.int x1) :: some (.int x2) :: some (.int x3) :: some (.int (nI np)) :: some (.int r) :: some (.int (nI 1)) :: some (.int (nI (m + 1) + -1)) :: []) []
    rw [show nI (m + 1) + -1 = nI m from nI_decr (Nat.succ_le_succ (Nat.zero_le m))]
    refine xv_il7 fX11_story_133 ?_
    refine xv_if_lt fX11_story_135 (fun h_135 => ?_) (fun h_135 => ?_)
    · exact absurd h_135 (nI_pos (by omega))
    · refine xv_al0 fX11_story_138 ?_
      refine xv_getR fX11_story_139 gX11_50 rfl (sx_60 _ _) (rx_60_16 _) ?_
      refine xv_k fX11_story_142 ?_
      refine xv_al0 fX11_story_144 ?_
      refine xv_getI fX11_story_145 gX11_172 rfl (sx_60 _ _) ?_
      rw [i0]
      refine xv_imul fX11_story_148 ?_
      rw [nI_mul]
      refine xv_il7 fX11_story_149 ?_
      refine xv_iadd fX11_story_151 ?_
      rw [nI_add]
      refine xv_il5 fX11_story_152 ?_
      refine xv_k fX11_story_154 ?_
      refine xv_irem fX11_story_156 (by decide) ?_
      refine xv_iastN fX11_story_157 (sx_74 _ _) (⟨by omega, by decide⟩) ?_
      refine xv_il5 fX11_story_158 ?_
      refine xv_k fX11_story_160 ?_
      refine xv_idiv fX11_story_162 (by decide) ?_
      refine xv_is5 fX11_story_163 ?_
      refine xv_iinc7 (v := -1) fX11_story_165 (by decide) ?_
      refine xv_goto fX11_story_168 ?_
      exact ih _ _ (by omega) ((xv_u_ne _ _ _ (by decide)).trans i0) i1

theorem m_story_a (n : Nat) (c : Nat × Nat) (I : xv_I) (J : xv_J) {x1 x2 x3 : Int32} (hx : x1 < nI 0 ∨ ¬ x1 ≤ nI 3) : xv_Met mX11_story 6 0 0 (sx n c) I (rx c) J [.ref 60, .int x1, .int x2, .int x3] (xv_eq (.inl (some (.int (nI 0)))) (sx n c) (xv_u I 60 48 (nI 1)) (rx c) J) := by
  refine xv_Met.of (by decide +kernel) (Nat.le_of_ble_eq_true rfl) (List.forall_mem_cons.mpr ⟨rfl, List.forall_mem_cons.mpr ⟨rfl, List.forall_mem_cons.mpr ⟨rfl, List.forall_mem_cons.mpr ⟨rfl, fun _ h => nomatch h⟩⟩⟩⟩) ?_
  show xv_W mX11_story 6 0 0 _ 0 0 (sx n c) I (rx c) J 0 [some (.ref 60), some (.int x1), some (.int x2), some (.int x3), none, none, none, none] []
  refine xv_k fX11_story_0 ?_
  refine xv_is4 fX11_story_1 ?_
  refine xv_il2 fX11_story_3 ?_
  refine xv_is5 fX11_story_4 ?_
  refine xv_il1 fX11_story_6 ?_
  refine xv_k fX11_story_7 ?_
  refine xv_k fX11_story_8 ?_
  refine xv_callS3R (m_isIn_f n c _ J (hx)) fX11_story_9 YX11_isIn VX11_isIn lX11_126 rfl (Nat.le_of_ble_eq_true rfl) (by decide) (by decide) (by decide) ?_
  refine xv_if_eq fX11_story_12 (fun h_12 => ?_) (fun h_12 => ?_)
  · refine xv_k fX11_story_29 ?_
    refine xv_is6 fX11_story_30 ?_
    refine xv_il6 fX11_story_32 ?_
    refine xv_if_eq fX11_story_34 (fun h_34 => ?_) (fun h_34 => ?_)
    · refine xv_il6 fX11_story_70 ?_
      refine xv_if_eq fX11_story_72 (fun h_72 => ?_) (fun h_72 => ?_)
      · refine xv_k fX11_story_89 ?_
        refine xv_is6 fX11_story_90 ?_
        refine xv_al0 fX11_story_92 ?_
        refine xv_il6 fX11_story_93 ?_
        refine xv_if_ne fX11_story_95 (fun h_95 => ?_) (fun h_95 => ?_)
        · exact absurd h_95 (by decide)
        · refine xv_k fX11_story_98 ?_
          refine xv_goto fX11_story_99 ?_
          refine xv_callV1R (m_fails1 n c _ J) fX11_story_116 YX11_fails VX11_fails lX11_137 rfl rfl (sx_60 _ _) (Nat.le_of_ble_eq_true rfl) (by decide) (by decide) (by decide) ?_
          refine xv_if_eq fX11_story_119 (fun h_119 => ?_) (fun h_119 => ?_)
          · exact absurd h_119 (by decide)
          · refine xv_k fX11_story_122 ?_
            exact xv_iret fX11_story_123 rfl rfl xv_eq_i
      · exact absurd h_72 (by decide)
    · exact absurd h_34 (by decide)
  · exact absurd h_12 (by decide)

theorem m_story_b (n : Nat) (c : Nat × Nat) (I : xv_I) (J : xv_J) {x1 x2 x3 : Int32} (h1 : okR 0 3 x1) (hx : x2 < nI 1 ∨ ¬ x2 ≤ nI 999999) : xv_Met mX11_story 6 0 0 (sx n c) I (rx c) J [.ref 60, .int x1, .int x2, .int x3] (xv_eq (.inl (some (.int (nI 0)))) (sx n c) (xv_u I 60 48 (nI 1)) (rx c) J) := by
  refine xv_Met.of (by decide +kernel) (Nat.le_of_ble_eq_true rfl) (List.forall_mem_cons.mpr ⟨rfl, List.forall_mem_cons.mpr ⟨rfl, List.forall_mem_cons.mpr ⟨rfl, List.forall_mem_cons.mpr ⟨rfl, fun _ h => nomatch h⟩⟩⟩⟩) ?_
  show xv_W mX11_story 6 0 0 _ 0 0 (sx n c) I (rx c) J 0 [some (.ref 60), some (.int x1), some (.int x2), some (.int x3), none, none, none, none] []
  refine xv_k fX11_story_0 ?_
  refine xv_is4 fX11_story_1 ?_
  refine xv_il2 fX11_story_3 ?_
  refine xv_is5 fX11_story_4 ?_
  refine xv_il1 fX11_story_6 ?_
  refine xv_k fX11_story_7 ?_
  refine xv_k fX11_story_8 ?_
  refine xv_callS3R (m_isIn_t n c _ J (h1).1 (h1).2) fX11_story_9 YX11_isIn VX11_isIn lX11_126 rfl (Nat.le_of_ble_eq_true rfl) (by decide) (by decide) (by decide) ?_
  refine xv_if_eq fX11_story_12 (fun h_12 => ?_) (fun h_12 => ?_)
  · exact absurd h_12 (by decide)
  · refine xv_il2 fX11_story_15 ?_
    refine xv_k fX11_story_16 ?_
    refine xv_kl fX11_story_17 cwX11_171 ?_
    refine xv_callS3R (m_isIn_f n c _ J (hx)) fX11_story_19 YX11_isIn VX11_isIn lX11_126 rfl (Nat.le_of_ble_eq_true rfl) (by decide) (by decide) (by decide) ?_
    refine xv_if_eq fX11_story_22 (fun h_22 => ?_) (fun h_22 => ?_)
    · refine xv_k fX11_story_29 ?_
      refine xv_is6 fX11_story_30 ?_
      refine xv_il6 fX11_story_32 ?_
      refine xv_if_eq fX11_story_34 (fun h_34 => ?_) (fun h_34 => ?_)
      · refine xv_il6 fX11_story_70 ?_
        refine xv_if_eq fX11_story_72 (fun h_72 => ?_) (fun h_72 => ?_)
        · refine xv_k fX11_story_89 ?_
          refine xv_is6 fX11_story_90 ?_
          refine xv_al0 fX11_story_92 ?_
          refine xv_il6 fX11_story_93 ?_
          refine xv_if_ne fX11_story_95 (fun h_95 => ?_) (fun h_95 => ?_)
          · exact absurd h_95 (by decide)
          · refine xv_k fX11_story_98 ?_
            refine xv_goto fX11_story_99 ?_
            refine xv_callV1R (m_fails1 n c _ J) fX11_story_116 YX11_fails VX11_fails lX11_137 rfl rfl (sx_60 _ _) (Nat.le_of_ble_eq_true rfl) (by decide) (by decide) (by decide) ?_
            refine xv_if_eq fX11_story_119 (fun h_119 => ?_) (fun h_119 => ?_)
            · exact absurd h_119 (by decide)
            · refine xv_k fX11_story_122 ?_
              exact xv_iret fX11_story_123 rfl rfl xv_eq_i
        · exact absurd h_72 (by decide)
      · exact absurd h_34 (by decide)
    · exact absurd h_22 (by decide)

theorem m_story_c (n : Nat) (c : Nat × Nat) (I : xv_I) (J : xv_J) {x1 x3 : Int32} {d : Nat} (h1 : okR 0 3 x1) (hd : 1 ≤ d) (hd2 : d ≤ 999999) (hp : ¬ okR 1 6 (xPar (nI d))) : xv_Met mX11_story 6 0 0 (sx n c) I (rx c) J [.ref 60, .int x1, .int (nI d), .int x3] (xv_eq (.inl (some (.int (nI 0)))) (sx n c) (xv_u I 60 48 (nI 1)) (rx c) J) := by
  refine xv_Met.of (by decide +kernel) (Nat.le_of_ble_eq_true rfl) (List.forall_mem_cons.mpr ⟨rfl, List.forall_mem_cons.mpr ⟨rfl, List.forall_mem_cons.mpr ⟨rfl, List.forall_mem_cons.mpr ⟨rfl, fun _ h => nomatch h⟩⟩⟩⟩) ?_
  show xv_W mX11_story 6 0 0 _ 0 0 (sx n c) I (rx c) J 0 [some (.ref 60), some (.int x1), some (.int (nI d)), some (.int x3), none, none, none, none] []
  refine xv_k fX11_story_0 ?_
  refine xv_is4 fX11_story_1 ?_
  refine xv_il2 fX11_story_3 ?_
  refine xv_is5 fX11_story_4 ?_
  refine xv_il1 fX11_story_6 ?_
  refine xv_k fX11_story_7 ?_
  refine xv_k fX11_story_8 ?_
  refine xv_callS3R (m_isIn_t n c _ J (h1).1 (h1).2) fX11_story_9 YX11_isIn VX11_isIn lX11_126 rfl (Nat.le_of_ble_eq_true rfl) (by decide) (by decide) (by decide) ?_
  refine xv_if_eq fX11_story_12 (fun h_12 => ?_) (fun h_12 => ?_)
  · exact absurd h_12 (by decide)
  · refine xv_il2 fX11_story_15 ?_
    refine xv_k fX11_story_16 ?_
    refine xv_kl fX11_story_17 cwX11_171 ?_
    refine xv_callS3R (m_isIn_t n c _ J ((okR_n hd hd2 (by decide) : okR 1 999999 (nI d))).1 ((okR_n hd hd2 (by decide) : okR 1 999999 (nI d))).2) fX11_story_19 YX11_isIn VX11_isIn lX11_126 rfl (Nat.le_of_ble_eq_true rfl) (by decide) (by decide) (by decide) ?_
    refine xv_if_eq fX11_story_22 (fun h_22 => ?_) (fun h_22 => ?_)
    · exact absurd h_22 (by decide)
    · refine xv_k fX11_story_25 ?_
      refine xv_goto fX11_story_26 ?_
      refine xv_is6 fX11_story_30 ?_
      refine l_stB n c I J 6 d 0 rfl (Nat.lt_of_le_of_lt hd2 (by decide)) ⟨hp, by omega⟩ (fun d9 k9 => ?_)
      refine xv_il6 fX11_story_70 ?_
      refine xv_if_eq fX11_story_72 (fun h_72 => ?_) (fun h_72 => ?_)
      · refine xv_k fX11_story_89 ?_
        refine xv_is6 fX11_story_90 ?_
        refine xv_al0 fX11_story_92 ?_
        refine xv_il6 fX11_story_93 ?_
        refine xv_if_ne fX11_story_95 (fun h_95 => ?_) (fun h_95 => ?_)
        · exact absurd h_95 (by decide)
        · refine xv_k fX11_story_98 ?_
          refine xv_goto fX11_story_99 ?_
          refine xv_callV1R (m_fails1 n c _ J) fX11_story_116 YX11_fails VX11_fails lX11_137 rfl rfl (sx_60 _ _) (Nat.le_of_ble_eq_true rfl) (by decide) (by decide) (by decide) ?_
          refine xv_if_eq fX11_story_119 (fun h_119 => ?_) (fun h_119 => ?_)
          · exact absurd h_119 (by decide)
          · refine xv_k fX11_story_122 ?_
            exact xv_iret fX11_story_123 rfl rfl xv_eq_i
      · exact absurd h_72 (by decide)

theorem m_story_d (n : Nat) (c : Nat × Nat) (I : xv_I) (J : xv_J) {x1 x3 : Int32} {d : Nat} (h1 : okR 0 3 x1) (hd : 1 ≤ d) (hd2 : d ≤ 999999) {np : Nat} (hp : xPar (nI d) = nI np) (hp1 : 1 ≤ np) (hp6 : np ≤ 6) (hx : x3 < nI 1 ∨ ¬ x3 ≤ nI np) : xv_Met mX11_story 6 0 0 (sx n c) I (rx c) J [.ref 60, .int x1, .int (nI d), .int x3] (xv_eq (.inl (some (.int (nI 0)))) (sx n c) (xv_u I 60 48 (nI 1)) (rx c) J) := by
  refine xv_Met.of (by decide +kernel) (Nat.le_of_ble_eq_true rfl) (List.forall_mem_cons.mpr ⟨rfl, List.forall_mem_cons.mpr ⟨rfl, List.forall_mem_cons.mpr ⟨rfl, List.forall_mem_cons.mpr ⟨rfl, fun _ h => nomatch h⟩⟩⟩⟩) ?_
  show xv_W mX11_story 6 0 0 _ 0 0 (sx n c) I (rx c) J 0 [some (.ref 60), some (.int x1), some (.int (nI d)), some (.int x3), none, none, none, none] []
  refine xv_k fX11_story_0 ?_
  refine xv_is4 fX11_story_1 ?_
  refine xv_il2 fX11_story_3 ?_
  refine xv_is5 fX11_story_4 ?_
  refine xv_il1 fX11_story_6 ?_
  refine xv_k fX11_story_7 ?_
  refine xv_k fX11_story_8 ?_
  refine xv_callS3R (m_isIn_t n c _ J (h1).1 (h1).2) fX11_story_9 YX11_isIn VX11_isIn lX11_126 rfl (Nat.le_of_ble_eq_true rfl) (by decide) (by decide) (by decide) ?_
  refine xv_if_eq fX11_story_12 (fun h_12 => ?_) (fun h_12 => ?_)
  · exact absurd h_12 (by decide)
  · refine xv_il2 fX11_story_15 ?_
    refine xv_k fX11_story_16 ?_
    refine xv_kl fX11_story_17 cwX11_171 ?_
    refine xv_callS3R (m_isIn_t n c _ J ((okR_n hd hd2 (by decide) : okR 1 999999 (nI d))).1 ((okR_n hd hd2 (by decide) : okR 1 999999 (nI d))).2) fX11_story_19 YX11_isIn VX11_isIn lX11_126 rfl (Nat.le_of_ble_eq_true rfl) (by decide) (by decide) (by decide) ?_
    refine xv_if_eq fX11_story_22 (fun h_22 => ?_) (fun h_22 => ?_)
    · exact absurd h_22 (by decide)
    · refine xv_k fX11_story_25 ?_
      refine xv_goto fX11_story_26 ?_
      refine xv_is6 fX11_story_30 ?_
      refine l_stG n c I J hp1 hp6 6 d 0 rfl (Nat.lt_of_le_of_lt hd2 (by decide)) hp ?_
      refine xv_il6 fX11_story_70 ?_
      refine xv_if_eq fX11_story_72 (fun h_72 => ?_) (fun h_72 => ?_)
      · exact absurd h_72 (by decide)
      · refine xv_il3 fX11_story_75 ?_
        refine xv_k fX11_story_76 ?_
        refine xv_il4 fX11_story_77 ?_
        refine xv_callS3R (m_isIn_f n c _ J (hx)) fX11_story_79 YX11_isIn VX11_isIn lX11_126 rfl (Nat.le_of_ble_eq_true rfl) (by decide) (by decide) (by decide) ?_
        refine xv_if_eq fX11_story_82 (fun h_82 => ?_) (fun h_82 => ?_)
        · refine xv_k fX11_story_89 ?_
          refine xv_is6 fX11_story_90 ?_
          refine xv_al0 fX11_story_92 ?_
          refine xv_il6 fX11_story_93 ?_
          refine xv_if_ne fX11_story_95 (fun h_95 => ?_) (fun h_95 => ?_)
          · exact absurd h_95 (by decide)
          · refine xv_k fX11_story_98 ?_
            refine xv_goto fX11_story_99 ?_
            refine xv_callV1R (m_fails1 n c _ J) fX11_story_116 YX11_fails VX11_fails lX11_137 rfl rfl (sx_60 _ _) (Nat.le_of_ble_eq_true rfl) (by decide) (by decide) (by decide) ?_
            refine xv_if_eq fX11_story_119 (fun h_119 => ?_) (fun h_119 => ?_)
            · exact absurd h_119 (by decide)
            · refine xv_k fX11_story_122 ?_
              exact xv_iret fX11_story_123 rfl rfl xv_eq_i
        · exact absurd h_82 (by decide)

theorem m_story_e (n : Nat) (c : Nat × Nat) (I : xv_I) (J : xv_J) {x1 x3 : Int32} {d : Nat} (h1 : okR 0 3 x1) (hd : 1 ≤ d) (hd2 : d ≤ 999999) {np : Nat} (hp : xPar (nI d) = nI np) (hp1 : 1 ≤ np) (hp6 : np ≤ 6) (h3 : ¬ x3 < nI 1 ∧ x3 ≤ nI np) (hn : I 60 13 = nI 20) : xv_Met mX11_story 6 0 0 (sx n c) I (rx c) J [.ref 60, .int x1, .int (nI d), .int x3] (xv_eq (.inl (some (.int (nI 0)))) (sx n c) (xv_u I 60 48 (nI 2)) (rx c) J) := by
  refine xv_Met.of (by decide +kernel) (Nat.le_of_ble_eq_true rfl) (List.forall_mem_cons.mpr ⟨rfl, List.forall_mem_cons.mpr ⟨rfl, List.forall_mem_cons.mpr ⟨rfl, List.forall_mem_cons.mpr ⟨rfl, fun _ h => nomatch h⟩⟩⟩⟩) ?_
  show xv_W mX11_story 6 0 0 _ 0 0 (sx n c) I (rx c) J 0 [some (.ref 60), some (.int x1), some (.int (nI d)), some (.int x3), none, none, none, none] []
  refine xv_k fX11_story_0 ?_
  refine xv_is4 fX11_story_1 ?_
  refine xv_il2 fX11_story_3 ?_
  refine xv_is5 fX11_story_4 ?_
  refine xv_il1 fX11_story_6 ?_
  refine xv_k fX11_story_7 ?_
  refine xv_k fX11_story_8 ?_
  refine xv_callS3R (m_isIn_t n c _ J (h1).1 (h1).2) fX11_story_9 YX11_isIn VX11_isIn lX11_126 rfl (Nat.le_of_ble_eq_true rfl) (by decide) (by decide) (by decide) ?_
  refine xv_if_eq fX11_story_12 (fun h_12 => ?_) (fun h_12 => ?_)
  · exact absurd h_12 (by decide)
  · refine xv_il2 fX11_story_15 ?_
    refine xv_k fX11_story_16 ?_
    refine xv_kl fX11_story_17 cwX11_171 ?_
    refine xv_callS3R (m_isIn_t n c _ J ((okR_n hd hd2 (by decide) : okR 1 999999 (nI d))).1 ((okR_n hd hd2 (by decide) : okR 1 999999 (nI d))).2) fX11_story_19 YX11_isIn VX11_isIn lX11_126 rfl (Nat.le_of_ble_eq_true rfl) (by decide) (by decide) (by decide) ?_
    refine xv_if_eq fX11_story_22 (fun h_22 => ?_) (fun h_22 => ?_)
    · exact absurd h_22 (by decide)
    · refine xv_k fX11_story_25 ?_
      refine xv_goto fX11_story_26 ?_
      refine xv_is6 fX11_story_30 ?_
      refine l_stG n c I J hp1 hp6 6 d 0 rfl (Nat.lt_of_le_of_lt hd2 (by decide)) hp ?_
      refine xv_il6 fX11_story_70 ?_
      refine xv_if_eq fX11_story_72 (fun h_72 => ?_) (fun h_72 => ?_)
      · exact absurd h_72 (by decide)
      · refine xv_il3 fX11_story_75 ?_
        refine xv_k fX11_story_76 ?_
        refine xv_il4 fX11_story_77 ?_
        refine xv_callS3R (m_isIn_t n c _ J (h3).1 (h3).2) fX11_story_79 YX11_isIn VX11_isIn lX11_126 rfl (Nat.le_of_ble_eq_true rfl) (by decide) (by decide) (by decide) ?_
        refine xv_if_eq fX11_story_82 (fun h_82 => ?_) (fun h_82 => ?_)
        · exact absurd h_82 (by decide)
        · refine xv_k fX11_story_85 ?_
          refine xv_goto fX11_story_86 ?_
          refine xv_is6 fX11_story_90 ?_
          refine xv_al0 fX11_story_92 ?_
          refine xv_il6 fX11_story_93 ?_
          refine xv_if_ne fX11_story_95 (fun h_95 => ?_) (fun h_95 => ?_)
          · refine xv_al0 fX11_story_102 ?_
            refine xv_getI fX11_story_103 gX11_172 rfl (sx_60 _ _) ?_
            rw [hn]
            refine xv_k fX11_story_106 ?_
            refine xv_ic_ne fX11_story_108 (fun h_108 => ?_) (fun h_108 => ?_)
            · exact absurd h_108 (by decide)
            · refine xv_k fX11_story_111 ?_
              refine xv_goto fX11_story_112 ?_
              refine xv_callV1R (m_fails2 n c _ J) fX11_story_116 YX11_fails VX11_fails lX11_137 rfl rfl (sx_60 _ _) (Nat.le_of_ble_eq_true rfl) (by decide) (by decide) (by decide) ?_
              refine xv_if_eq fX11_story_119 (fun h_119 => ?_) (fun h_119 => ?_)
              · exact absurd h_119 (by decide)
              · refine xv_k fX11_story_122 ?_
                exact xv_iret fX11_story_123 rfl rfl xv_eq_i
          · exact absurd h_95 (by decide)

def mSt (s np : Nat) (x1 x2 x3 : Int32) (I : xv_I) : xv_I := xv_u (xv_u (xv_u (xv_u (mLn s np x2 I) 72 s x1) 73 s (nI np)) 75 s x3) 60 13 (nI (s + 1))
theorem m_story_ok (n : Nat) (c : Nat × Nat) (I : xv_I) (J : xv_J) {x1 x3 : Int32} {d : Nat} (h1 : okR 0 3 x1) (hd : 1 ≤ d) (hd2 : d ≤ 999999) {np : Nat} (hp : xPar (nI d) = nI np) (hp1 : 1 ≤ np) (hp6 : np ≤ 6) (h3 : ¬ x3 < nI 1 ∧ x3 ≤ nI np) (hn : I 60 13 = nI c.2) (hc : c.2 < 20) : xv_Met mX11_story 6 0 0 (sx n c) I (rx c) J [.ref 60, .int x1, .int (nI d), .int x3] (xv_eq (.inl (some (.int (nI c.2)))) (sx n c) (mSt c.2 np x1 (nI d) x3 (xv_u I 60 48 (nI 0))) (rx c) J) := by
  refine xv_Met.of (by decide +kernel) (Nat.le_of_ble_eq_true rfl) (List.forall_mem_cons.mpr ⟨rfl, List.forall_mem_cons.mpr ⟨rfl, List.forall_mem_cons.mpr ⟨rfl, List.forall_mem_cons.mpr ⟨rfl, fun _ h => nomatch h⟩⟩⟩⟩) ?_
  show xv_W mX11_story 6 0 0 _ 0 0 (sx n c) I (rx c) J 0 [some (.ref 60), some (.int x1), some (.int (nI d)), some (.int x3), none, none, none, none] []
  refine xv_k fX11_story_0 ?_
  refine xv_is4 fX11_story_1 ?_
  refine xv_il2 fX11_story_3 ?_
  refine xv_is5 fX11_story_4 ?_
  refine xv_il1 fX11_story_6 ?_
  refine xv_k fX11_story_7 ?_
  refine xv_k fX11_story_8 ?_
  refine xv_callS3R (m_isIn_t n c _ J (h1).1 (h1).2) fX11_story_9 YX11_isIn VX11_isIn lX11_126 rfl (Nat.le_of_ble_eq_true rfl) (by decide) (by decide) (by decide) ?_
  refine xv_if_eq fX11_story_12 (fun h_12 => ?_) (fun h_12 => ?_)
  · exact absurd h_12 (by decide)
  · refine xv_il2 fX11_story_15 ?_
    refine xv_k fX11_story_16 ?_
    refine xv_kl fX11_story_17 cwX11_171 ?_
    refine xv_callS3R (m_isIn_t n c _ J ((okR_n hd hd2 (by decide) : okR 1 999999 (nI d))).1 ((okR_n hd hd2 (by decide) : okR 1 999999 (nI d))).2) fX11_story_19 YX11_isIn VX11_isIn lX11_126 rfl (Nat.le_of_ble_eq_true rfl) (by decide) (by decide) (by decide) ?_
    refine xv_if_eq fX11_story_22 (fun h_22 => ?_) (fun h_22 => ?_)
    · exact absurd h_22 (by decide)
    · refine xv_k fX11_story_25 ?_
      refine xv_goto fX11_story_26 ?_
      refine xv_is6 fX11_story_30 ?_
      refine l_stG n c I J hp1 hp6 6 d 0 rfl (Nat.lt_of_le_of_lt hd2 (by decide)) hp ?_
      refine xv_il6 fX11_story_70 ?_
      refine xv_if_eq fX11_story_72 (fun h_72 => ?_) (fun h_72 => ?_)
      · exact absurd h_72 (by decide)
      · refine xv_il3 fX11_story_75 ?_
        refine xv_k fX11_story_76 ?_
        refine xv_il4 fX11_story_77 ?_
        refine xv_callS3R (m_isIn_t n c _ J (h3).1 (h3).2) fX11_story_79 YX11_isIn VX11_isIn lX11_126 rfl (Nat.le_of_ble_eq_true rfl) (by decide) (by decide) (by decide) ?_
        refine xv_if_eq fX11_story_82 (fun h_82 => ?_) (fun h_82 => ?_)
        · exact absurd h_82 (by decide)
        · refine xv_k fX11_story_85 ?_
          refine xv_goto fX11_story_86 ?_
          refine xv_is6 fX11_story_90 ?_
          refine xv_al0 fX11_story_92 ?_
          refine xv_il6 fX11_story_93 ?_
          refine xv_if_ne fX11_story_95 (fun h_95 => ?_) (fun h_95 => ?_)
          · refine xv_al0 fX11_story_102 ?_
            refine xv_getI fX11_story_103 gX11_172 rfl (sx_60 _ _) ?_
            rw [hn]
            refine xv_k fX11_story_106 ?_
            refine xv_ic_ne fX11_story_108 (fun h_108 => ?_) (fun h_108 => ?_)
            · refine xv_k fX11_story_115 ?_
              refine xv_callV1R (m_fails0 n c _ J) fX11_story_116 YX11_fails VX11_fails lX11_137 rfl rfl (sx_60 _ _) (Nat.le_of_ble_eq_true rfl) (by decide) (by decide) (by decide) ?_
              refine xv_if_eq fX11_story_119 (fun h_119 => ?_) (fun h_119 => ?_)
              · refine xv_il2 fX11_story_124 ?_
                refine xv_is5 fX11_story_125 ?_
                refine xv_il4 fX11_story_127 ?_
                refine xv_k fX11_story_129 ?_
                refine xv_isub fX11_story_130 ?_
                refine xv_is7 fX11_story_131 ?_
                rw [show nI np - nI 1 = nI np + -1 by rw [nI_sub hp1, nI_decr hp1]]
                refine l_stW n c J hc np _ _ hp6 (by rw [xv_u_nk _ _ _ (by decide)]; exact hn) (fun r9 => ?_)
                refine xv_al0 fX11_story_171 ?_
                refine xv_getR fX11_story_172 gX11_44 rfl (sx_60 _ _) (rx_60_14 _) ?_
                refine xv_al0 fX11_story_175 ?_
                refine xv_getI fX11_story_176 gX11_172 rfl (sx_60 _ _) ?_
                refine xv_eqi (y := nI c.2) (by simp [xv_u, mLn_o, hn]) ?_
                refine xv_il1 fX11_story_179 ?_
                refine xv_iastN fX11_story_180 (sx_72 _ _) (⟨by omega, by decide⟩) ?_
                refine xv_al0 fX11_story_181 ?_
                refine xv_getR fX11_story_182 gX11_47 rfl (sx_60 _ _) (rx_60_15 _) ?_
                refine xv_al0 fX11_story_185 ?_
                refine xv_getI fX11_story_186 gX11_172 rfl (sx_60 _ _) ?_
                refine xv_eqi (y := nI c.2) (by simp [xv_u, mLn_o, hn]) ?_
                refine xv_il4 fX11_story_189 ?_
                refine xv_iastN fX11_story_191 (sx_73 _ _) (⟨by omega, by decide⟩) ?_
                refine xv_al0 fX11_story_192 ?_
                refine xv_getR fX11_story_193 gX11_53 rfl (sx_60 _ _) (rx_60_17 _) ?_
                refine xv_al0 fX11_story_196 ?_
                refine xv_getI fX11_story_197 gX11_172 rfl (sx_60 _ _) ?_
                refine xv_eqi (y := nI c.2) (by simp [xv_u, mLn_o, hn]) ?_
                refine xv_il3 fX11_story_200 ?_
                refine xv_iastN fX11_story_201 (sx_75 _ _) (⟨by omega, by decide⟩) ?_
                refine xv_al0 fX11_story_202 ?_
                refine xv_dup_r fX11_story_203 ?_
                refine xv_getI fX11_story_204 gX11_172 rfl (sx_60 _ _) ?_
                refine xv_eqi (y := nI c.2) (by simp [xv_u, mLn_o, hn]) ?_
                refine xv_k fX11_story_207 ?_
                refine xv_iadd fX11_story_208 ?_
                rw [nI_add]
                refine xv_putI fX11_story_209 gX11_172 rfl (tp11_13 _) (sx_60 _ _) ⟨rfl, rfl⟩ ?_
                refine xv_al0 fX11_story_212 ?_
                refine xv_getI fX11_story_213 gX11_172 rfl (sx_60 _ _) ?_
                rw [xv_u_eq]
                refine xv_k fX11_story_216 ?_
                refine xv_isub fX11_story_217 ?_
                rw [show nI (c.2 + 1) - nI 1 = nI c.2 from nI_sub (Nat.succ_le_succ (Nat.zero_le _))]
                exact xv_iret fX11_story_218 rfl rfl (xv_eq_I rfl rfl)
              · exact absurd h_119 (by decide)
            · exact absurd h_108 (nI_ne2 (by omega) (by omega) (by decide))
          · exact absurd h_95 (by decide)
