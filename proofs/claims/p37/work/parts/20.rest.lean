theorem xv_aastK {M : xv_M} {d mc ms kc ks : Nat} {Q : xv_Q} {sh : xv_Sh} {I : xv_I} {Rf : xv_Rf} {J : xv_J} {pc pc' : Nat} {L : List (Option Value)} {S : List Value} {v n o ci k : Nat} {r : vw_C} (hf : xv_F M pc .aastore 1 pc') (hv : sh v = some (.inr (.inl (.object r.1, n)))) (ho : sh o = some (.inl ci)) (hcl : vwCl[ci]? = some r) (hk : k < n ∧ n ≤ 1000000) (kk : xv_W M d mc ms Q kc ks sh I (xv_u Rf v k (some o)) J pc' L S) : xv_W M d mc ms Q kc ks sh I Rf J pc L (.ref o :: .int (nI k) :: .ref v :: S) := xv_aast hf hv ho hcl (vp_in_nI hk.1 (by omega)) (by rw [nI_clamp (by omega)]; exact kk)
theorem sx_ed (n : Nat) (c : Nat × Nat) {e : Nat} (he : e < 8) : sx n c (31 + e) = some (.inr (.inl (.int, 120))) := by
  have : ∀ p, p < 8 → sxl[31 + p]?.getD none = some (.inr (.inl (.int, 120))) := by decide
  unfold sx
  rw [if_neg (by omega), if_pos (by omega)]
  exact this e he
theorem rx_ed (c : Nat × Nat) {e : Nat} (he : e < 8) : rx c 30 e = some (31 + e) := by
  have : ∀ p, p < 8 → ((((rxl[30]?).getD [])[p]?).getD none) = some (31 + p) := by decide
  unfold rx
  rw [if_neg (by decide), if_neg (by decide), if_pos (by decide)]
  exact this e he
def xKp1 (e p k : Nat) (I : xv_I) : xv_I := xv_u I (31 + e) (12 * p + k) (I (3 + p) k)
def xKp2 (e p : Nat) (I : xv_I) : xv_I := it (xKp1 e p) 12 0 I
def xKp (e : Nat) (I : xv_I) : xv_I := it (xKp2 e) 10 0 I
def xKept (e : Nat) (x : Int32) (I : xv_I) : xv_I := xv_u (xv_u (xKp e I) 39 e x) 29 2 (nI (e + 1))
theorem xKp1_o {e p k : Nat} {I : xv_I} {v : Nat} (j : Nat) (h : v < 31) : xKp1 e p k I v j = I v j := xv_u_ne _ _ _ (by omega)
theorem xKp2_o {e p : Nat} {I : xv_I} {v : Nat} (j : Nat) (h : v < 31) : xKp2 e p I v j = I v j := it_inv (fun s : xv_I => s v j = I v j) (fun k s hs => (xKp1_o j h).trans hs) _ _ _ rfl
theorem xKp_o {e : Nat} {I : xv_I} {v : Nat} (j : Nat) (h : v < 31) : xKp e I v j = I v j := it_inv (fun s : xv_I => s v j = I v j) (fun k s hs => (xKp2_o j h).trans hs) _ _ _ rfl
theorem l_keep1 (n : Nat) (c : Nat × Nat) (J : xv_J) {e : Nat} {x : Int32} (he : e < 8) {p : Nat} (hp : p < 10) {Q : xv_Q} : ∀ (m k : Nat) (I : xv_I), k + m = 12 → (I 29 2 = nI e) → xv_W mX1_keep 2 0 0 Q 0 0 (sx n c) (it (xKp1 e p) m k I) (rx c) J 65 (some (.ref 29) :: some (.ref 1) :: some (.int x) :: some (.int (nI p)) :: some (.int (nI 12)) :: []) [] → xv_W mX1_keep 2 0 0 Q 0 0 (sx n c) I (rx c) J 28 (some (.ref 29) :: some (.ref 1) :: some (.int x) :: some (.int (nI p)) :: some (.int (nI k)) :: []) [] := by
  intro m
  induction m with
  | zero =>
    intro k I hm i0 hx
    obtain rfl : k = 12 := by omega
    refine xv_il4 fX1_keep_28 ?_
    refine xv_k fX1_keep_30 ?_
    refine xv_ic_ge fX1_keep_32 (fun h_32 => ?_) (fun h_32 => ?_)
    · exact hx
    · exact absurd (nI_le (Nat.le_refl _) (by decide)) h_32
  | succ m ih =>
    intro k I hm i0 hx
    have hk : k < 12 := by omega
    show xv_W mX1_keep 2 0 0 _ 0 0 (sx n c) I (rx c) J 28 (some (.ref 29) :: some (.ref 1) :: some (.int x) :: some (.int (nI p)) :: some (.int (nI k)) :: []) []
    refine xv_il4 fX1_keep_28 ?_
    refine xv_k fX1_keep_30 ?_
    refine xv_ic_ge fX1_keep_32 (fun h_32 => ?_) (fun h_32 => ?_)
    · exact absurd h_32 (nI_ge hk (by decide))
    · refine xv_al0 fX1_keep_35 ?_
      refine xv_getR fX1_keep_36 gX1_11 rfl (sx_29 _ _) (rx_29_0 _) ?_
      refine xv_al0 fX1_keep_39 ?_
      refine xv_getI fX1_keep_40 gX1_23 rfl (sx_29 _ _) ?_
      rw [i0]
      refine xv_aaldK fX1_keep_43 (sx_30 _ _) (Or.inr ⟨_, rfl⟩) (⟨he, by decide⟩) (rx_ed c he) ?_
      refine xv_k fX1_keep_44 ?_
      refine xv_il3 fX1_keep_46 ?_
      refine xv_imul fX1_keep_47 ?_
      refine xv_il4 fX1_keep_48 ?_
      refine xv_iadd fX1_keep_50 ?_
      rw [nI_mul, nI_add]
      refine xv_al1 fX1_keep_51 ?_
      refine xv_il3 fX1_keep_52 ?_
      refine xv_il4 fX1_keep_53 ?_
      refine xv_callV2R (c_at n c _ J hp hk) fX1_keep_55 YX5_at VX5_at lX1_27 rfl rfl (sx_1 _ _) (Nat.le_of_ble_eq_true rfl) (by decide) (by decide) (by decide) ?_
      refine xv_iastN fX1_keep_58 (sx_ed n c he) (⟨by omega, by decide⟩) ?_
      refine xv_iincN4 (a := 1) fX1_keep_59 (by decide) ?_
      refine xv_goto fX1_keep_62 ?_
      exact ih (k + 1) (xKp1 e p k I) (by omega) ((xKp1_o _ (by decide)).trans i0) hx

theorem l_keep2 (n : Nat) (c : Nat × Nat) (J : xv_J) {e : Nat} {x : Int32} (he : e < 8) {Q : xv_Q} : ∀ (m k : Nat) (I : xv_I) (l4 : Option Value), k + m = 10 → (I 29 2 = nI e) → (∀ l4, xv_W mX1_keep 2 0 0 Q 0 0 (sx n c) (it (xKp2 e) m k I) (rx c) J 71 (some (.ref 29) :: some (.ref 1) :: some (.int x) :: some (.int (nI 10)) :: l4 :: []) []) → xv_W mX1_keep 2 0 0 Q 0 0 (sx n c) I (rx c) J 19 (some (.ref 29) :: some (.ref 1) :: some (.int x) :: some (.int (nI k)) :: l4 :: []) [] := by
  intro m
  induction m with
  | zero =>
    intro k I l4 hm i0 i1
    obtain rfl : k = 10 := by omega
    refine xv_il3 fX1_keep_19 ?_
    refine xv_k fX1_keep_20 ?_
    refine xv_ic_ge fX1_keep_22 (fun h_22 => ?_) (fun h_22 => ?_)
    · exact i1 _
    · exact absurd (nI_le (Nat.le_refl _) (by decide)) h_22
  | succ m ih =>
    intro k I l4 hm i0 i1
    have hk : k < 10 := by omega
    show xv_W mX1_keep 2 0 0 _ 0 0 (sx n c) I (rx c) J 19 (some (.ref 29) :: some (.ref 1) :: some (.int x) :: some (.int (nI k)) :: l4 :: []) []
    refine xv_il3 fX1_keep_19 ?_
    refine xv_k fX1_keep_20 ?_
    refine xv_ic_ge fX1_keep_22 (fun h_22 => ?_) (fun h_22 => ?_)
    · exact absurd h_22 (nI_ge hk (by decide))
    · refine xv_k fX1_keep_25 ?_
      refine xv_is4 fX1_keep_26 ?_
      refine l_keep1 n c J he hk 12 0 _ rfl i0 ?_
      refine xv_iincN3 (a := 1) fX1_keep_65 (by decide) ?_
      refine xv_goto fX1_keep_68 ?_
      exact ih (k + 1) _ _ (by omega) ((xKp2_o _ (by decide)).trans i0) i1

theorem c_archive (n : Nat) (c : Nat × Nat) (I : xv_I) (J : xv_J) {e : Nat} {x : Int32} (he : e < 8) (hc : I 29 2 = nI e) : xv_Met mX1_keep 2 0 0 (sx n c) I (rx c) J [.ref 29, .ref 1, .int x] (xv_eq (.inl none) (sx n c) (xKept e x I) (rx c) J) := by
  refine xv_Met.of (by decide +kernel) (Nat.le_of_ble_eq_true rfl) (List.forall_mem_cons.mpr ⟨rfl, List.forall_mem_cons.mpr ⟨rfl, List.forall_mem_cons.mpr ⟨rfl, fun _ h => nomatch h⟩⟩⟩) ?_
  show xv_W mX1_keep 2 0 0 _ 0 0 (sx n c) I (rx c) J 0 [some (.ref 29), some (.ref 1), some (.int x), none, none] []
  refine xv_al0 fX1_keep_0 ?_
  refine xv_getI fX1_keep_1 gX1_23 rfl (sx_29 _ _) ?_
  rw [hc]
  refine xv_if_lt fX1_keep_4 (fun h_4 => ?_) (fun h_4 => ?_)
  · exact absurd h_4 (nI_pos (by omega))
  · refine xv_al0 fX1_keep_7 ?_
    refine xv_getI fX1_keep_8 gX1_23 rfl (sx_29 _ _) ?_
    rw [hc]
    refine xv_k fX1_keep_11 ?_
    refine xv_ic_lt fX1_keep_13 (fun h_13 => ?_) (fun h_13 => ?_)
    · refine xv_k fX1_keep_17 ?_
      refine xv_is3 fX1_keep_18 ?_
      refine l_keep2 n c J he 10 0 _ _ rfl hc (fun l4 => ?_)
      show xv_W mX1_keep 2 0 0 _ 0 0 (sx n c) (xKp e I) (rx c) J 71 (some (.ref 29) :: some (.ref 1) :: some (.int x) :: some (.int (nI 10)) :: l4 :: []) []
      refine xv_al0 fX1_keep_71 ?_
      refine xv_getR fX1_keep_72 gX1_16 rfl (sx_29 _ _) (rx_29_1 _) ?_
      refine xv_al0 fX1_keep_75 ?_
      refine xv_getI fX1_keep_76 gX1_23 rfl (sx_29 _ _) ?_
      rw [(xKp_o _ (by decide)).trans hc]
      refine xv_il2 fX1_keep_79 ?_
      refine xv_iastN fX1_keep_80 (sx_39 _ _) (⟨he, by decide⟩) ?_
      refine xv_al0 fX1_keep_81 ?_
      refine xv_dup_r fX1_keep_82 ?_
      refine xv_getI fX1_keep_83 gX1_23 rfl (sx_29 _ _) ?_
      rw [xv_u_ne _ _ _ (by decide), (xKp_o _ (by decide)).trans hc]
      refine xv_k fX1_keep_86 ?_
      refine xv_iadd fX1_keep_87 ?_
      rw [nI_add]
      refine xv_putI fX1_keep_88 gX1_23 rfl (tp1_2 _) (sx_29 _ _) ⟨rfl, rfl⟩ ?_
      exact xv_vret fX1_keep_91 rfl (xv_eq_I rfl rfl)
    · exact absurd (nI_lt he (by decide)) h_13

theorem c_isKept (n : Nat) (c : Nat × Nat) (I : xv_I) (J : xv_J) (x : Int32) : xv_Met mX1_isKept 0 0 0 (sx n c) I (rx c) J [.ref 29, .int x] (xv_eq (.inl (some (.int (bi (¬ x < 0 ∧ ¬ I 29 2 ≤ x ∧ ¬ nI 8 ≤ x))))) (sx n c) (I) (rx c) J) := by
  refine xv_Met.of (by decide +kernel) (Nat.le_of_ble_eq_true rfl) (List.forall_mem_cons.mpr ⟨rfl, List.forall_mem_cons.mpr ⟨rfl, fun _ h => nomatch h⟩⟩) ?_
  show xv_W mX1_isKept 0 0 0 _ 0 0 (sx n c) I (rx c) J 0 [some (.ref 29), some (.int x)] []
  refine xv_il1 fX1_isKept_0 ?_
  refine xv_if_lt fX1_isKept_1 (fun h_1 => ?_) (fun h_1 => ?_)
  · refine xv_k fX1_isKept_22 ?_
    exact xv_iret fX1_isKept_23 rfl (by decide) (xv_eq_I (by rw [bi_f (fun h => h.1 h_1)]) rfl)
  · refine xv_il1 fX1_isKept_4 ?_
    refine xv_al0 fX1_isKept_5 ?_
    refine xv_getI fX1_isKept_6 gX1_23 rfl (sx_29 _ _) ?_
    refine xv_ic_ge fX1_isKept_9 (fun h_9 => ?_) (fun h_9 => ?_)
    · refine xv_k fX1_isKept_22 ?_
      exact xv_iret fX1_isKept_23 rfl (by decide) (xv_eq_I (by rw [bi_f (fun h => h.2.1 h_9)]) rfl)
    · refine xv_il1 fX1_isKept_12 ?_
      refine xv_k fX1_isKept_13 ?_
      refine xv_ic_ge fX1_isKept_15 (fun h_15 => ?_) (fun h_15 => ?_)
      · refine xv_k fX1_isKept_22 ?_
        exact xv_iret fX1_isKept_23 rfl (by decide) (xv_eq_I (by rw [bi_f (fun h => h.2.2 h_15)]) rfl)
      · refine xv_k fX1_isKept_18 ?_
        refine xv_goto fX1_isKept_19 ?_
        exact xv_iret fX1_isKept_23 rfl (by decide) (xv_eq_I (by rw [bi_t ⟨h_1, h_9, h_15⟩]) rfl)

theorem c_isKept_in (n : Nat) (c : Nat × Nat) (I : xv_I) (J : xv_J) {e w : Nat} (he : e < w) (hw : w ≤ 8) (hc : I 29 2 = nI w) : xv_Met mX1_isKept 0 0 0 (sx n c) I (rx c) J [.ref 29, .int (nI e)] (xv_eq (.inl (some (.int (nI 1)))) (sx n c) (I) (rx c) J) := by
  have h := c_isKept n c I J (nI e)
  rw [bi_t ⟨nI_pos (by omega), by rw [hc]; exact nI_ge he (by omega), nI_ge (by omega) (by decide)⟩] at h
  exact h
theorem c_arAt (n : Nat) (c : Nat × Nat) (I : xv_I) (J : xv_J) {e w : Nat} (he : e < w) (hw : w ≤ 8) (hc : I 29 2 = nI w) {p k : Nat} (hp : p < 10) (hk : k < 12) : xv_Met mX1_at 1 0 0 (sx n c) I (rx c) J [.ref 29, .int (nI e), .int (nI p), .int (nI k)] (xv_eq (.inl (some (.int (I (31 + e) (12 * p + k))))) (sx n c) (I) (rx c) J) := by
  refine xv_Met.of (by decide +kernel) (Nat.le_of_ble_eq_true rfl) (List.forall_mem_cons.mpr ⟨rfl, List.forall_mem_cons.mpr ⟨rfl, List.forall_mem_cons.mpr ⟨rfl, List.forall_mem_cons.mpr ⟨rfl, fun _ h => nomatch h⟩⟩⟩⟩) ?_
  show xv_W mX1_at 1 0 0 _ 0 0 (sx n c) I (rx c) J 0 [some (.ref 29), some (.int (nI e)), some (.int (nI p)), some (.int (nI k))] []
  refine xv_al0 fX1_at_0 ?_
  refine xv_il1 fX1_at_1 ?_
  refine xv_callV1R (c_isKept_in n c I J he hw hc) fX1_at_2 YX1_isKept VX1_isKept lX1_33 rfl rfl (sx_29 _ _) (Nat.le_of_ble_eq_true rfl) (by decide) (by decide) (by decide) ?_
  refine xv_if_eq fX1_at_5 (fun h_5 => ?_) (fun h_5 => ?_)
  · exact absurd h_5 (by decide)
  · refine xv_il2 fX1_at_8 ?_
    refine xv_callS1R (c_isPage_in n c I J hp) fX1_at_9 YX10_isPage VX10_isPage lX1_37 rfl (Nat.le_of_ble_eq_true rfl) (by decide) (by decide) (by decide) ?_
    refine xv_if_eq fX1_at_12 (fun h_12 => ?_) (fun h_12 => ?_)
    · exact absurd h_12 (by decide)
    · refine xv_il3 fX1_at_15 ?_
      refine xv_callS1R (c_isCell_in n c I J hk) fX1_at_16 YX10_isCell VX10_isCell lX1_40 rfl (Nat.le_of_ble_eq_true rfl) (by decide) (by decide) (by decide) ?_
      refine xv_if_eq fX1_at_19 (fun h_19 => ?_) (fun h_19 => ?_)
      · exact absurd h_19 (by decide)
      · refine xv_al0 fX1_at_22 ?_
        refine xv_getR fX1_at_23 gX1_11 rfl (sx_29 _ _) (rx_29_0 _) ?_
        refine xv_il1 fX1_at_26 ?_
        refine xv_aaldK fX1_at_27 (sx_30 _ _) (Or.inr ⟨_, rfl⟩) (⟨by omega, by decide⟩) (rx_ed c (by omega)) ?_
        refine xv_k fX1_at_28 ?_
        refine xv_il2 fX1_at_30 ?_
        refine xv_imul fX1_at_31 ?_
        refine xv_il3 fX1_at_32 ?_
        refine xv_iadd fX1_at_33 ?_
        rw [nI_mul, nI_add]
        refine xv_ialdN fX1_at_34 (sx_ed n c (by omega)) (⟨by omega, by decide⟩) ?_
        refine xv_goto fX1_at_35 ?_
        exact xv_iret fX1_at_39 rfl rfl xv_eq_i

theorem l_has1 (n : Nat) (c : Nat × Nat) (I : xv_I) (J : xv_J) {e w : Nat} (he : e < w) (hw : w ≤ 8) (hc : I 29 2 = nI w) {x : Int32} {p : Nat} (hp : p < 10) : ∀ (m k : Nat) , k + m = 12 → (∀ j, j < 12 * p + k → ¬ I (31 + e) j = x) → ((∀ j, j < 12 * (p + 1) → ¬ I (31 + e) j = x) → xv_W mX1_has 2 0 0 (xv_eq (.inl (some (.int (bi (∃ j, j < 120 ∧ I (31 + e) j = x))))) (sx n c) (I) (rx c) J) 0 0 (sx n c) I (rx c) J 38 (some (.ref 29) :: some (.int (nI e)) :: some (.int x) :: some (.int (nI p)) :: some (.int (nI 12)) :: []) []) → xv_W mX1_has 2 0 0 (xv_eq (.inl (some (.int (bi (∃ j, j < 120 ∧ I (31 + e) j = x))))) (sx n c) (I) (rx c) J) 0 0 (sx n c) I (rx c) J 11 (some (.ref 29) :: some (.int (nI e)) :: some (.int x) :: some (.int (nI p)) :: some (.int (nI k)) :: []) [] := by
  intro m
  induction m with
  | zero =>
    intro k  hm i0 i1
    obtain rfl : k = 12 := by omega
    refine xv_il4 fX1_has_11 ?_
    refine xv_k fX1_has_13 ?_
    refine xv_ic_ge fX1_has_15 (fun h_15 => ?_) (fun h_15 => ?_)
    · exact i1 (by rw [Nat.mul_succ]; exact i0)
    · exact absurd (nI_le (Nat.le_refl _) (by decide)) h_15
  | succ m ih =>
    intro k  hm i0 i1
    have hk : k < 12 := by omega
    show xv_W mX1_has 2 0 0 _ 0 0 (sx n c) I (rx c) J 11 (some (.ref 29) :: some (.int (nI e)) :: some (.int x) :: some (.int (nI p)) :: some (.int (nI k)) :: []) []
    refine xv_il4 fX1_has_11 ?_
    refine xv_k fX1_has_13 ?_
    refine xv_ic_ge fX1_has_15 (fun h_15 => ?_) (fun h_15 => ?_)
    · exact absurd h_15 (nI_ge hk (by decide))
    · refine xv_al0 fX1_has_18 ?_
      refine xv_il1 fX1_has_19 ?_
      refine xv_il3 fX1_has_20 ?_
      refine xv_il4 fX1_has_21 ?_
      refine xv_callV3R (c_arAt n c I J he hw hc hp hk) fX1_has_23 YX1_at VX1_at lX1_43 rfl rfl (sx_29 _ _) (Nat.le_of_ble_eq_true rfl) (by decide) (by decide) (by decide) ?_
      refine xv_il2 fX1_has_26 ?_
      refine xv_ic_ne fX1_has_27 (fun h_27 => ?_) (fun h_27 => ?_)
      · refine xv_iincN4 (a := 1) fX1_has_32 (by decide) ?_
        refine xv_goto fX1_has_35 ?_
        exact ih (k + 1) (by omega) (lt_or i0 h_27) i1
      · refine xv_k fX1_has_30 ?_
        exact xv_iret fX1_has_31 rfl (by decide) (xv_eq_I (by rw [bi_t ⟨12 * p + k, by omega, h_27⟩]) rfl)

theorem l_has (n : Nat) (c : Nat × Nat) (I : xv_I) (J : xv_J) {e w : Nat} (he : e < w) (hw : w ≤ 8) (hc : I 29 2 = nI w) {x : Int32} : ∀ (m k : Nat) (l4 : Option Value), k + m = 10 → (∀ j, j < 12 * k → ¬ I (31 + e) j = x) → xv_W mX1_has 2 0 0 (xv_eq (.inl (some (.int (bi (∃ j, j < 120 ∧ I (31 + e) j = x))))) (sx n c) (I) (rx c) J) 0 0 (sx n c) I (rx c) J 2 (some (.ref 29) :: some (.int (nI e)) :: some (.int x) :: some (.int (nI k)) :: l4 :: []) [] := by
  intro m
  induction m with
  | zero =>
    intro k l4 hm i0
    obtain rfl : k = 10 := by omega
    refine xv_il3 fX1_has_2 ?_
    refine xv_k fX1_has_3 ?_
    refine xv_ic_ge fX1_has_5 (fun h_5 => ?_) (fun h_5 => ?_)
    · refine xv_k fX1_has_44 ?_
      exact xv_iret fX1_has_45 rfl (by decide) (xv_eq_I (by rw [bi_f (fun ⟨j, h1, h2⟩ => i0 j h1 h2)]) rfl)
    · exact absurd (nI_le (Nat.le_refl _) (by decide)) h_5
  | succ m ih =>
    intro k l4 hm i0
    have hk : k < 10 := by omega
    show xv_W mX1_has 2 0 0 _ 0 0 (sx n c) I (rx c) J 2 (some (.ref 29) :: some (.int (nI e)) :: some (.int x) :: some (.int (nI k)) :: l4 :: []) []
    refine xv_il3 fX1_has_2 ?_
    refine xv_k fX1_has_3 ?_
    refine xv_ic_ge fX1_has_5 (fun h_5 => ?_) (fun h_5 => ?_)
    · exact absurd h_5 (nI_ge hk (by decide))
    · refine xv_k fX1_has_8 ?_
      refine xv_is4 fX1_has_9 ?_
      refine l_has1 n c I J he hw hc hk 12 0 rfl (by simpa using i0) (fun i1 => ?_)
      refine xv_iincN3 (a := 1) fX1_has_38 (by decide) ?_
      refine xv_goto fX1_has_41 ?_
      exact ih (k + 1) _ (by omega) i1

theorem c_has (n : Nat) (c : Nat × Nat) (I : xv_I) (J : xv_J) {e w : Nat} (he : e < w) (hw : w ≤ 8) (hc : I 29 2 = nI w) {x : Int32} : xv_Met mX1_has 2 0 0 (sx n c) I (rx c) J [.ref 29, .int (nI e), .int x] (xv_eq (.inl (some (.int (bi (∃ j, j < 120 ∧ I (31 + e) j = x))))) (sx n c) (I) (rx c) J) := by
  refine xv_Met.of (by decide +kernel) (Nat.le_of_ble_eq_true rfl) (List.forall_mem_cons.mpr ⟨rfl, List.forall_mem_cons.mpr ⟨rfl, List.forall_mem_cons.mpr ⟨rfl, fun _ h => nomatch h⟩⟩⟩) ?_
  show xv_W mX1_has 2 0 0 _ 0 0 (sx n c) I (rx c) J 0 [some (.ref 29), some (.int (nI e)), some (.int x), none, none] []
  refine xv_k fX1_has_0 ?_
  refine xv_is3 fX1_has_1 ?_
  exact l_has n c I J he hw hc 10 0 none rfl (fun j hj => absurd hj (by omega))

theorem l_owes (n : Nat) (c : Nat × Nat) (I : xv_I) (J : xv_J) {w : Nat} (hw : w ≤ 5) (hc : I 29 4 = nI w) {x : Int32} : ∀ (m k : Nat) , k + m = w → (∀ j, j < k → ¬ I 40 j = x) → xv_W mX1_owes 0 0 0 (xv_eq (.inl (some (.int (bi (∃ j, j < w ∧ I 40 j = x))))) (sx n c) (I) (rx c) J) 0 0 (sx n c) I (rx c) J 2 [some (.ref 29), some (.int x), some (.int (nI k))] [] := by
  intro m
  induction m with
  | zero =>
    intro k  hm i0
    obtain rfl : k = w := by omega
    refine xv_il2 fX1_owes_2 ?_
    refine xv_al0 fX1_owes_3 ?_
    refine xv_getI fX1_owes_4 gX1_46 rfl (sx_29 _ _) ?_
    rw [hc]
    refine xv_ic_ge fX1_owes_7 (fun h_7 => ?_) (fun h_7 => ?_)
    · refine xv_k fX1_owes_33 ?_
      exact xv_iret fX1_owes_34 rfl (by decide) (xv_eq_I (by rw [bi_f (fun ⟨j, h1, h2⟩ => i0 j h1 h2)]) rfl)
    · exact absurd (nI_le (Nat.le_refl _) (by omega)) h_7
  | succ m ih =>
    intro k  hm i0
    have hk : k < w := by omega
    show xv_W mX1_owes 0 0 0 _ 0 0 (sx n c) I (rx c) J 2 [some (.ref 29), some (.int x), some (.int (nI k))] []
    refine xv_il2 fX1_owes_2 ?_
    refine xv_al0 fX1_owes_3 ?_
    refine xv_getI fX1_owes_4 gX1_46 rfl (sx_29 _ _) ?_
    rw [hc]
    refine xv_ic_ge fX1_owes_7 (fun h_7 => ?_) (fun h_7 => ?_)
    · exact absurd h_7 (nI_ge hk (by omega))
    · refine xv_il2 fX1_owes_10 ?_
      refine xv_k fX1_owes_11 ?_
      refine xv_ic_ge fX1_owes_12 (fun h_12 => ?_) (fun h_12 => ?_)
      · exact absurd h_12 (nI_ge (by omega) (by decide))
      · refine xv_al0 fX1_owes_15 ?_
        refine xv_getR fX1_owes_16 gX1_20 rfl (sx_29 _ _) (rx_29_3 _) ?_
        refine xv_il2 fX1_owes_19 ?_
        refine xv_ialdN fX1_owes_20 (sx_40 _ _) (⟨by omega, by decide⟩) ?_
        refine xv_il1 fX1_owes_21 ?_
        refine xv_ic_ne fX1_owes_22 (fun h_22 => ?_) (fun h_22 => ?_)
        · refine xv_iincN2 (a := 1) fX1_owes_27 (by decide) ?_
          refine xv_goto fX1_owes_30 ?_
          exact ih (k + 1) (by omega) (lt_or i0 h_22)
        · refine xv_k fX1_owes_25 ?_
          exact xv_iret fX1_owes_26 rfl (by decide) (xv_eq_I (by rw [bi_t ⟨k, hk, h_22⟩]) rfl)

theorem c_owes (n : Nat) (c : Nat × Nat) (I : xv_I) (J : xv_J) {w : Nat} (hw : w ≤ 5) (hc : I 29 4 = nI w) {x : Int32} : xv_Met mX1_owes 0 0 0 (sx n c) I (rx c) J [.ref 29, .int x] (xv_eq (.inl (some (.int (bi (∃ j, j < w ∧ I 40 j = x))))) (sx n c) (I) (rx c) J) := by
  refine xv_Met.of (by decide +kernel) (Nat.le_of_ble_eq_true rfl) (List.forall_mem_cons.mpr ⟨rfl, List.forall_mem_cons.mpr ⟨rfl, fun _ h => nomatch h⟩⟩) ?_
  show xv_W mX1_owes 0 0 0 _ 0 0 (sx n c) I (rx c) J 0 [some (.ref 29), some (.int x), none] []
  refine xv_k fX1_owes_0 ?_
  refine xv_is2 fX1_owes_1 ?_
  exact l_owes n c I J hw hc w 0 (by omega) lt_no

theorem c_addOwed (n : Nat) (c : Nat × Nat) (I : xv_I) (J : xv_J) {w : Nat} (hw : w < 5) (hc : I 29 4 = nI w) {x : Int32} : xv_Met mX1_addOwed 0 0 0 (sx n c) I (rx c) J [.ref 29, .int x] (xv_eq (.inl none) (sx n c) (xv_u (xv_u I 40 w x) 29 4 (nI (w + 1))) (rx c) J) := by
  refine xv_Met.of (by decide +kernel) (Nat.le_of_ble_eq_true rfl) (List.forall_mem_cons.mpr ⟨rfl, List.forall_mem_cons.mpr ⟨rfl, fun _ h => nomatch h⟩⟩) ?_
  show xv_W mX1_addOwed 0 0 0 _ 0 0 (sx n c) I (rx c) J 0 [some (.ref 29), some (.int x)] []
  refine xv_al0 fX1_addOwed_0 ?_
  refine xv_getI fX1_addOwed_1 gX1_46 rfl (sx_29 _ _) ?_
  rw [hc]
  refine xv_if_lt fX1_addOwed_4 (fun h_4 => ?_) (fun h_4 => ?_)
  · exact absurd h_4 (nI_pos (by omega))
  · refine xv_al0 fX1_addOwed_7 ?_
    refine xv_getI fX1_addOwed_8 gX1_46 rfl (sx_29 _ _) ?_
    rw [hc]
    refine xv_k fX1_addOwed_11 ?_
    refine xv_ic_ge fX1_addOwed_12 (fun h_12 => ?_) (fun h_12 => ?_)
    · exact absurd h_12 (nI_ge hw (by decide))
    · refine xv_al0 fX1_addOwed_15 ?_
      refine xv_getR fX1_addOwed_16 gX1_20 rfl (sx_29 _ _) (rx_29_3 _) ?_
      refine xv_al0 fX1_addOwed_19 ?_
      refine xv_getI fX1_addOwed_20 gX1_46 rfl (sx_29 _ _) ?_
      rw [hc]
      refine xv_il1 fX1_addOwed_23 ?_
      refine xv_iastN fX1_addOwed_24 (sx_40 _ _) (⟨hw, by decide⟩) ?_
      refine xv_al0 fX1_addOwed_25 ?_
      refine xv_dup_r fX1_addOwed_26 ?_
      refine xv_getI fX1_addOwed_27 gX1_46 rfl (sx_29 _ _) ?_
      rw [xv_u_ne _ _ _ (by decide), hc]
      refine xv_k fX1_addOwed_30 ?_
      refine xv_iadd fX1_addOwed_31 ?_
      rw [nI_add]
      refine xv_putI fX1_addOwed_32 gX1_46 rfl (tp1_4 _) (sx_29 _ _) ⟨rfl, rfl⟩ ?_
      exact xv_vret fX1_addOwed_35 rfl xv_eq_i

theorem c_longest (n : Nat) (c : Nat × Nat) (I : xv_I) (J : xv_J) {w : Nat} (hw : 0 < w) (hw2 : w ≤ 5) (hc : I 29 4 = nI w) : xv_Met mX1_longestOwed 0 0 0 (sx n c) I (rx c) J [.ref 29] (xv_eq (.inl (some (.int (I 40 0)))) (sx n c) (I) (rx c) J) := by
  refine xv_Met.of (by decide +kernel) (Nat.le_of_ble_eq_true rfl) (List.forall_mem_cons.mpr ⟨rfl, fun _ h => nomatch h⟩) ?_
  show xv_W mX1_longestOwed 0 0 0 _ 0 0 (sx n c) I (rx c) J 0 [some (.ref 29)] []
  refine xv_al0 fX1_longestOwed_0 ?_
  refine xv_getI fX1_longestOwed_1 gX1_46 rfl (sx_29 _ _) ?_
  rw [hc]
  refine xv_if_le fX1_longestOwed_4 (fun h_4 => ?_) (fun h_4 => ?_)
  · exact absurd h_4 (nI_nle hw (by omega))
  · refine xv_al0 fX1_longestOwed_7 ?_
    refine xv_getR fX1_longestOwed_8 gX1_20 rfl (sx_29 _ _) (rx_29_3 _) ?_
    refine xv_k fX1_longestOwed_11 ?_
    refine xv_ialdN fX1_longestOwed_12 (sx_40 _ _) (⟨by decide, by decide⟩) ?_
    refine xv_goto fX1_longestOwed_13 ?_
    exact xv_iret fX1_longestOwed_17 rfl rfl xv_eq_i

def xDrop1 (k : Nat) (I : xv_I) : xv_I := xv_u I 40 (k - 1) (I 40 k)
def xDrop (w : Nat) (I : xv_I) : xv_I := xv_u (it xDrop1 (w - 1) 1 I) 29 4 (nI (w - 1))
theorem xDrop1_o {m k : Nat} {I : xv_I} {v : Nat} (j : Nat) (h : v ≠ 40) : it xDrop1 m k I v j = I v j := it_inv (fun s : xv_I => s v j = I v j) (fun k s hs => (xv_u_ne _ _ _ h).trans hs) _ _ _ rfl
theorem l_drop (n : Nat) (c : Nat × Nat) (J : xv_J) {w : Nat} (hw : w ≤ 5) {Q : xv_Q} : ∀ (m k : Nat) (I : xv_I), k + m = w → (I 29 4 = nI w) → (1 ≤ k) → xv_W mX1_dropLongestOwed 0 0 0 Q 0 0 (sx n c) (it xDrop1 m k I) (rx c) J 35 [some (.ref 29), some (.int (nI w))] [] → xv_W mX1_dropLongestOwed 0 0 0 Q 0 0 (sx n c) I (rx c) J 2 [some (.ref 29), some (.int (nI k))] [] := by
  intro m
  induction m with
  | zero =>
    intro k I hm i0 i1 hx
    obtain rfl : k = w := by omega
    refine xv_il1 fX1_dropLongestOwed_2 ?_
    refine xv_al0 fX1_dropLongestOwed_3 ?_
    refine xv_getI fX1_dropLongestOwed_4 gX1_46 rfl (sx_29 _ _) ?_
    rw [i0]
    refine xv_ic_ge fX1_dropLongestOwed_7 (fun h_7 => ?_) (fun h_7 => ?_)
    · exact hx
    · exact absurd (nI_le (Nat.le_refl _) (by omega)) h_7
  | succ m ih =>
    intro k I hm i0 i1 hx
    have hk : k < w := by omega
    show xv_W mX1_dropLongestOwed 0 0 0 _ 0 0 (sx n c) I (rx c) J 2 [some (.ref 29), some (.int (nI k))] []
    refine xv_il1 fX1_dropLongestOwed_2 ?_
    refine xv_al0 fX1_dropLongestOwed_3 ?_
    refine xv_getI fX1_dropLongestOwed_4 gX1_46 rfl (sx_29 _ _) ?_
    rw [i0]
    refine xv_ic_ge fX1_dropLongestOwed_7 (fun h_7 => ?_) (fun h_7 => ?_)
    · exact absurd h_7 (nI_ge hk (by omega))
    · refine xv_il1 fX1_dropLongestOwed_10 ?_
      refine xv_k fX1_dropLongestOwed_11 ?_
      refine xv_ic_ge fX1_dropLongestOwed_12 (fun h_12 => ?_) (fun h_12 => ?_)
      · exact absurd h_12 (nI_ge (by omega) (by decide))
      · refine xv_al0 fX1_dropLongestOwed_15 ?_
        refine xv_getR fX1_dropLongestOwed_16 gX1_20 rfl (sx_29 _ _) (rx_29_3 _) ?_
        refine xv_il1 fX1_dropLongestOwed_19 ?_
        refine xv_k fX1_dropLongestOwed_20 ?_
        refine xv_isub fX1_dropLongestOwed_21 ?_
        rw [nI_sub i1]
        refine xv_al0 fX1_dropLongestOwed_22 ?_
        refine xv_getR fX1_dropLongestOwed_23 gX1_20 rfl (sx_29 _ _) (rx_29_3 _) ?_
        refine xv_il1 fX1_dropLongestOwed_26 ?_
        refine xv_ialdN fX1_dropLongestOwed_27 (sx_40 _ _) (⟨by omega, by decide⟩) ?_
        refine xv_iastN fX1_dropLongestOwed_28 (sx_40 _ _) (⟨by omega, by decide⟩) ?_
        refine xv_iincN1 (a := 1) fX1_dropLongestOwed_29 (by decide) ?_
        refine xv_goto fX1_dropLongestOwed_32 ?_
        exact ih (k + 1) (xDrop1 k I) (by omega) ((xv_u_ne _ _ _ (by decide)).trans i0) (by omega) hx

theorem c_drop (n : Nat) (c : Nat × Nat) (I : xv_I) (J : xv_J) {w : Nat} (hw : 0 < w) (hw2 : w ≤ 5) (hc : I 29 4 = nI w) : xv_Met mX1_dropLongestOwed 0 0 0 (sx n c) I (rx c) J [.ref 29] (xv_eq (.inl none) (sx n c) (xDrop w I) (rx c) J) := by
  refine xv_Met.of (by decide +kernel) (Nat.le_of_ble_eq_true rfl) (List.forall_mem_cons.mpr ⟨rfl, fun _ h => nomatch h⟩) ?_
  show xv_W mX1_dropLongestOwed 0 0 0 _ 0 0 (sx n c) I (rx c) J 0 [some (.ref 29), none] []
  refine xv_k fX1_dropLongestOwed_0 ?_
  refine xv_is1 fX1_dropLongestOwed_1 ?_
  refine l_drop n c J hw2 (w - 1) 1 _ (by omega) hc (by decide) ?_
  refine xv_al0 fX1_dropLongestOwed_35 ?_
  refine xv_getI fX1_dropLongestOwed_36 gX1_46 rfl (sx_29 _ _) ?_
  rw [(xDrop1_o _ (by decide)).trans hc]
  refine xv_if_le fX1_dropLongestOwed_39 (fun h_39 => ?_) (fun h_39 => ?_)
  · exact absurd h_39 (nI_nle hw (by omega))
  · refine xv_al0 fX1_dropLongestOwed_42 ?_
    refine xv_dup_r fX1_dropLongestOwed_43 ?_
    refine xv_getI fX1_dropLongestOwed_44 gX1_46 rfl (sx_29 _ _) ?_
    rw [(xDrop1_o _ (by decide)).trans hc]
    refine xv_k fX1_dropLongestOwed_47 ?_
    refine xv_isub fX1_dropLongestOwed_48 ?_
    rw [nI_sub hw]
    refine xv_putI fX1_dropLongestOwed_49 gX1_46 rfl (tp1_4 _) (sx_29 _ _) ⟨rfl, rfl⟩ ?_
    exact xv_vret fX1_dropLongestOwed_52 rfl (xv_eq_I rfl rfl)

noncomputable def xNeed1 (I : xv_I) (b a : Nat) (s : Int32) : Int32 := iteP (I 42 a < I 42 b ∨ (I 42 a = I 42 b ∧ a < b)) (s + I 43 a) s
noncomputable def xNeed (I : xv_I) (w b : Nat) : Int32 := it (xNeed1 I b) w 0 (I 43 b)
noncomputable def xLate (I : xv_I) (w b : Nat) (x : Int32) : Int32 := if nI 0 < x + (xNeed I w b + nI 50 - nI 1) / nI 50 - I 42 b then x + (xNeed I w b + nI 50 - nI 1) / nI 50 - I 42 b else nI 0
def xWid1 (I : xv_I) (s k : Nat) (a : Int32) : Int32 := if nI s >>> (nI k &&& 31) &&& nI 1 = nI 1 then a + I 45 k else a + I 46 k
def xWid (I : xv_I) (w s : Nat) : Int32 := it (xWid1 I s) w 0 (nI w - nI 1)
def xLF (x y : Int32) : Prop := ¬ x &&& (x ^^^ y) &&& -(x ^^^ y) = 0
noncomputable def xBW1 (I : xv_I) (w : Nat) (x : Int32) (s : Nat) (b : Int32 × Int32) : Int32 × Int32 := if x < xWid I w s then b else if xWid I w s < b.2 then b else iteP (b.2 < xWid I w s ∨ xLF (nI s) b.1) (nI s, xWid I w s) b
noncomputable def xBW (I : xv_I) (w : Nat) (x : Int32) : Int32 × Int32 := it (xBW1 I w x) (2 ^ w) 0 (-1, -1)
noncomputable def xFit (I : xv_I) (w : Nat) (x : Int32) : Int32 := if (xBW I w x).2 = -1 then -1 else nI 100 * (xBW I w x).2 + (xBW I w x).1
theorem fa_lt_nle {a b : Int32} (h : a < b) : ¬ b ≤ a := fun q => by
  rw [fa_le] at q
  rw [fa_lt] at h
  omega
theorem pw31 {w : Nat} (hw : w ≤ 5) : 2 ^ w < 2 ^ 31 := Nat.pow_lt_pow_right (by decide) (by omega)
abbrev xAlike (I : xv_I) (x : Int32) (k : Nat) : Prop := ¬ xBC (I 49 k &&& x) < nI 3 ∧ ¬ nI 2 * xBC (I 49 k &&& x) < xBC (I 49 k ||| x)
def xMerge (i : Nat) (x y : Int32) (I : xv_I) : xv_I := xv_u (xv_u I 49 i (I 49 i ||| x)) 50 i (if I 50 i < y then y else I 50 i)
def xUrg1 (I : xv_I) (k b : Nat) : Nat := if I 50 k ≤ I 50 b then b else k
def xUrg (I : xv_I) (w : Nat) : Nat := it (xUrg1 I) (w - 1) 1 0
theorem xUrg_lt {I : xv_I} {w : Nat} : ∀ (m k b : Nat), b < k → k + m ≤ w → 0 < w → it (xUrg1 I) m k b < w
  | 0, k, b, h1, h2, h3 => by show b < w; omega
  | m + 1, k, b, h1, h2, h3 => by
    refine xUrg_lt m (k + 1) (xUrg1 I k b) ?_ (by omega) h3
    unfold xUrg1
    split <;> omega
def xRem1 (k : Nat) (I : xv_I) : xv_I := xv_u (xv_u I 49 (k - 1) (I 49 k)) 50 (k - 1) (I 50 k)
def xRem (w i : Nat) (I : xv_I) : xv_I := xv_u (it xRem1 (w - (i + 1)) (i + 1) I) 48 2 (nI (w - 1))
theorem xRem1_o {m k : Nat} {I : xv_I} {v : Nat} (j : Nat) (h : v ≠ 49 ∧ v ≠ 50) : it xRem1 m k I v j = I v j := it_inv (fun s : xv_I => s v j = I v j) (fun k s hs => ((xv_u_ne _ _ _ h.2).trans (xv_u_ne _ _ _ h.1)).trans hs) _ _ _ rfl
def xSetRow1 (r : Nat) (x : Int32) (k : Nat) (I : xv_I) : xv_I := xv_u I 52 (4 * r + k) (xDig x 4 k)
def xSetRow (r : Nat) (x : Int32) (I : xv_I) : xv_I := it (xSetRow1 r x) 4 0 I
abbrev xQ (k : Nat) : Nat := 2 * (k / 4 / 2) + k % 4 / 2
def xUsed (I : xv_I) (k : Nat) : Int32 := I 53 (k / 4) ||| I 54 (k % 4) ||| I 55 (xQ k)
abbrev xOp (I : xv_I) (k g : Nat) : Prop := xUsed I k >>> (nI g &&& 31) &&& nI 1 = 0
def xTurn (k g : Nat) (I : xv_I) : xv_I := xv_u (xv_u (xv_u I 53 (k / 4) (I 53 (k / 4) ^^^ nI (2 ^ g))) 54 (k % 4) (I 54 (k % 4) ^^^ nI (2 ^ g))) 55 (xQ k) (I 55 (xQ k) ^^^ nI (2 ^ g))