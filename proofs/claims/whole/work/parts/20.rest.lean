theorem lmX7_26 : Cond.methodLink RX7 26 Lib.Math.max.name ∈ xv_tbl := (xv_tbl_mem 948 (by decide +kernel) rfl)
theorem lmX9_28 : Cond.methodLink RX9 28 Lib.Math.max.name ∈ xv_tbl := (xv_tbl_mem 1020 (by decide +kernel) rfl)
theorem xv_aastK {M : xv_M} {d mc ms kc ks : Nat} {Q : xv_Q} {sh : xv_Sh} {I : xv_I} {Rf : xv_Rf} {J : xv_J} {pc pc' : Nat} {L : List (Option Value)} {S : List Value} {v n o ci k : Nat} {r : vw_C} (hf : xv_F M pc .aastore 1 pc') (hv : sh v = some (.inr (.inl (.object r.1, n)))) (ho : sh o = some (.inl ci)) (hcl : vwCl[ci]? = some r) (hk : k < n ∧ n ≤ 1000000) (kk : xv_W M d mc ms Q kc ks sh I (xv_u Rf v k (some o)) J pc' L S) : xv_W M d mc ms Q kc ks sh I Rf J pc L (.ref o :: .int (nI k) :: .ref v :: S) := xv_aast hf hv ho hcl (vp_in_nI hk.1 (by omega)) (by rw [nI_clamp (by omega)]; exact kk)
theorem sx_ed (n : Nat) (c : Nat × Nat) {e : Nat} (he : e < 8) : sx n c (31 + e) = some (.inr (.inl (.int, 120))) := by
  have : ∀ p, p < 8 → sxl[31 + p]?.getD none = some (.inr (.inl (.int, 120))) := by decide
  unfold sx
  rw [if_pos (by omega)]
  exact this e he
theorem rx_ed (c : Nat × Nat) {e : Nat} (he : e < 8) : rx c 30 e = some (31 + e) := by
  have : ∀ p, p < 8 → ((((rxl[30]?).getD [])[p]?).getD none) = some (31 + p) := by decide
  unfold rx
  rw [if_neg (by decide), if_neg (by decide), if_pos (by decide)]
  exact this e he
def xKp1 (e p k : Nat) (I : xv_I) : xv_I := xv_u I (31 + e) (12 * p + k) (I (3 + p) k)
def xKp2 (e p : Nat) (I : xv_I) : xv_I := it (xKp1 e p) 12 0 I
def xKp (e : Nat) (I : xv_I) : xv_I := it (xKp2 e) 10 0 I
def xKept (e : Nat) (x : Int32) (I : xv_I) : xv_I := xv_u (xv_u (xKp e I) 39 e x) 29 2 (nI (e + 1))
theorem xKp1_o {e p k : Nat} {I : xv_I} {v : Nat} (j : Nat) (h : v < 31) : xKp1 e p k I v j = I v j := xv_u_ne _ _ _ (by omega)
theorem xKp2_o {e p : Nat} {I : xv_I} {v : Nat} (j : Nat) (h : v < 31) : xKp2 e p I v j = I v j := it_inv (fun s : xv_I => s v j = I v j) (fun k s hs => (xKp1_o j h).trans hs) _ _ _ rfl
theorem xKp_o {e : Nat} {I : xv_I} {v : Nat} (j : Nat) (h : v < 31) : xKp e I v j = I v j := it_inv (fun s : xv_I => s v j = I v j) (fun k s hs => (xKp2_o j h).trans hs) _ _ _ rfl
theorem l_keep1 (n : Nat) (c : Nat × Nat) (J : xv_J) {e : Nat} {x : Int32} (he : e < 8) {p : Nat} (hp : p < 10) {Q : xv_Q} : ∀ (m k : Nat) (I : xv_I), k + m = 12 → (I 29 2 = nI e) → xv_W mX1_keep 2 0 0 Q 0 0 (sx n c) (it (xKp1 e p) m k I) (rx c) J 65 (some (.ref 29) :: some (.ref 1) :: some (.int x) :: some (.int (nI p)) :: some (.int (nI 12)) :: []) [] → xv_W mX1_keep 2 0 0 Q 0 0 (sx n c) I (rx c) J 28 (some (.ref 29) :: some (.ref 1) :: some (.int x) :: some (.int (nI p)) :: some (.int (nI k)) :: []) [] := by
  intro m
  induction m with
  | zero =>
    intro k I hm i0 hx
    obtain rfl : k = 12 := by omega
    refine xv_il4 fX1_keep_28 ?_
    refine xv_k fX1_keep_30 ?_
    refine xv_ic_ge fX1_keep_32 (fun h_32 => ?_) (fun h_32 => ?_)
    · exact hx
    · exact absurd (nI_le (Nat.le_refl _) (by decide)) h_32
  | succ m ih =>
    intro k I hm i0 hx
    have hk : k < 12 := by omega
    show xv_W mX1_keep 2 0 0 _ 0 0 (sx n c) I (rx c) J 28 (some (.ref 29) :: some (.ref 1) :: some (.int x) :: some (.int (nI p)) :: some (.int (nI k)) :: []) []
    refine xv_il4 fX1_keep_28 ?_
    refine xv_k fX1_keep_30 ?_
    refine xv_ic_ge fX1_keep_32 (fun h_32 => ?_) (fun h_32 => ?_)
    · exact absurd h_32 (nI_ge hk (by decide))
    · refine xv_al0 fX1_keep_35 ?_
      refine xv_getR fX1_keep_36 gX1_11 rfl (sx_29 _ _) (rx_29_0 _) ?_
      refine xv_al0 fX1_keep_39 ?_
      refine xv_getI fX1_keep_40 gX1_23 rfl (sx_29 _ _) ?_
      rw [i0]
      refine xv_aaldK fX1_keep_43 (sx_30 _ _) (Or.inr ⟨_, rfl⟩) (⟨he, by decide⟩) (rx_ed c he) ?_
      refine xv_k fX1_keep_44 ?_
      refine xv_il3 fX1_keep_46 ?_
      refine xv_imul fX1_keep_47 ?_
      refine xv_il4 fX1_keep_48 ?_
      refine xv_iadd fX1_keep_50 ?_
      rw [nI_mul, nI_add]
      refine xv_al1 fX1_keep_51 ?_
      refine xv_il3 fX1_keep_52 ?_
      refine xv_il4 fX1_keep_53 ?_
      refine xv_callV2R (c_at n c _ J hp hk) fX1_keep_55 YX5_at VX5_at lX1_27 rfl rfl (sx_1 _ _) (Nat.le_of_ble_eq_true rfl) (by decide) (by decide) (by decide) ?_
      refine xv_iastN fX1_keep_58 (sx_ed n c he) (⟨by omega, by decide⟩) ?_
      refine xv_iincN4 (a := 1) fX1_keep_59 (by decide) ?_
      refine xv_goto fX1_keep_62 ?_
      exact ih (k + 1) (xKp1 e p k I) (by omega) ((xKp1_o _ (by decide)).trans i0) hx

theorem l_keep2 (n : Nat) (c : Nat × Nat) (J : xv_J) {e : Nat} {x : Int32} (he : e < 8) {Q : xv_Q} : ∀ (m k : Nat) (I : xv_I) (l4 : Option Value), k + m = 10 → (I 29 2 = nI e) → (∀ l4, xv_W mX1_keep 2 0 0 Q 0 0 (sx n c) (it (xKp2 e) m k I) (rx c) J 71 (some (.ref 29) :: some (.ref 1) :: some (.int x) :: some (.int (nI 10)) :: l4 :: []) []) → xv_W mX1_keep 2 0 0 Q 0 0 (sx n c) I (rx c) J 19 (some (.ref 29) :: some (.ref 1) :: some (.int x) :: some (.int (nI k)) :: l4 :: []) [] := by
  intro m
  induction m with
  | zero =>
    intro k I l4 hm i0 i1
    obtain rfl : k = 10 := by omega
    refine xv_il3 fX1_keep_19 ?_
    refine xv_k fX1_keep_20 ?_
    refine xv_ic_ge fX1_keep_22 (fun h_22 => ?_) (fun h_22 => ?_)
    · exact i1 _
    · exact absurd (nI_le (Nat.le_refl _) (by decide)) h_22
  | succ m ih =>
    intro k I l4 hm i0 i1
    have hk : k < 10 := by omega
    show xv_W mX1_keep 2 0 0 _ 0 0 (sx n c) I (rx c) J 19 (some (.ref 29) :: some (.ref 1) :: some (.int x) :: some (.int (nI k)) :: l4 :: []) []
    refine xv_il3 fX1_keep_19 ?_
    refine xv_k fX1_keep_20 ?_
    refine xv_ic_ge fX1_keep_22 (fun h_22 => ?_) (fun h_22 => ?_)
    · exact absurd h_22 (nI_ge hk (by decide))
    · refine xv_k fX1_keep_25 ?_
      refine xv_is4 fX1_keep_26 ?_
      refine l_keep1 n c J he hk 12 0 _ rfl i0 ?_
      refine xv_iincN3 (a := 1) fX1_keep_65 (by decide) ?_
      refine xv_goto fX1_keep_68 ?_
      exact ih (k + 1) _ _ (by omega) ((xKp2_o _ (by decide)).trans i0) i1

theorem c_archive (n : Nat) (c : Nat × Nat) (I : xv_I) (J : xv_J) {e : Nat} {x : Int32} (he : e < 8) (hc : I 29 2 = nI e) : xv_Met mX1_keep 2 0 0 (sx n c) I (rx c) J [.ref 29, .ref 1, .int x] (xv_eq (.inl none) (sx n c) (xKept e x I) (rx c) J) := by
  refine xv_Met.of (by decide +kernel) (Nat.le_of_ble_eq_true rfl) (List.forall_mem_cons.mpr ⟨rfl, List.forall_mem_cons.mpr ⟨rfl, List.forall_mem_cons.mpr ⟨rfl, fun _ h => nomatch h⟩⟩⟩) ?_
  show xv_W mX1_keep 2 0 0 _ 0 0 (sx n c) I (rx c) J 0 [some (.ref 29), some (.ref 1), some (.int x), none, none] []
  refine xv_al0 fX1_keep_0 ?_
  refine xv_getI fX1_keep_1 gX1_23 rfl (sx_29 _ _) ?_
  rw [hc]
  refine xv_if_lt fX1_keep_4 (fun h_4 => ?_) (fun h_4 => ?_)
  · exact absurd h_4 (nI_pos (by omega))
  · refine xv_al0 fX1_keep_7 ?_
    refine xv_getI fX1_keep_8 gX1_23 rfl (sx_29 _ _) ?_
    rw [hc]
    refine xv_k fX1_keep_11 ?_
    refine xv_ic_lt fX1_keep_13 (fun h_13 => ?_) (fun h_13 => ?_)
    · refine xv_k fX1_keep_17 ?_
      refine xv_is3 fX1_keep_18 ?_
      refine l_keep2 n c J he 10 0 _ _ rfl hc (fun l4 => ?_)
      show xv_W mX1_keep 2 0 0 _ 0 0 (sx n c) (xKp e I) (rx c) J 71 (some (.ref 29) :: some (.ref 1) :: some (.int x) :: some (.int (nI 10)) :: l4 :: []) []
      refine xv_al0 fX1_keep_71 ?_
      refine xv_getR fX1_keep_72 gX1_16 rfl (sx_29 _ _) (rx_29_1 _) ?_
      refine xv_al0 fX1_keep_75 ?_
      refine xv_getI fX1_keep_76 gX1_23 rfl (sx_29 _ _) ?_
      rw [(xKp_o _ (by decide)).trans hc]
      refine xv_il2 fX1_keep_79 ?_
      refine xv_iastN fX1_keep_80 (sx_39 _ _) (⟨he, by decide⟩) ?_
      refine xv_al0 fX1_keep_81 ?_
      refine xv_dup_r fX1_keep_82 ?_
      refine xv_getI fX1_keep_83 gX1_23 rfl (sx_29 _ _) ?_
      rw [xv_u_ne _ _ _ (by decide), (xKp_o _ (by decide)).trans hc]
      refine xv_k fX1_keep_86 ?_
      refine xv_iadd fX1_keep_87 ?_
      rw [nI_add]
      refine xv_putI fX1_keep_88 gX1_23 rfl (tp1_2 _) (sx_29 _ _) ⟨rfl, rfl⟩ ?_
      exact xv_vret fX1_keep_91 rfl (xv_eq_I rfl rfl)
    · exact absurd (nI_lt he (by decide)) h_13

theorem c_isKept (n : Nat) (c : Nat × Nat) (I : xv_I) (J : xv_J) (x : Int32) : xv_Met mX1_isKept 0 0 0 (sx n c) I (rx c) J [.ref 29, .int x] (xv_eq (.inl (some (.int (bi (¬ x < 0 ∧ ¬ I 29 2 ≤ x ∧ ¬ nI 8 ≤ x))))) (sx n c) (I) (rx c) J) := by
  refine xv_Met.of (by decide +kernel) (Nat.le_of_ble_eq_true rfl) (List.forall_mem_cons.mpr ⟨rfl, List.forall_mem_cons.mpr ⟨rfl, fun _ h => nomatch h⟩⟩) ?_
  show xv_W mX1_isKept 0 0 0 _ 0 0 (sx n c) I (rx c) J 0 [some (.ref 29), some (.int x)] []
  refine xv_il1 fX1_isKept_0 ?_
  refine xv_if_lt fX1_isKept_1 (fun h_1 => ?_) (fun h_1 => ?_)
  · refine xv_k fX1_isKept_22 ?_
    exact xv_iret fX1_isKept_23 rfl (by decide) (xv_eq_I (by rw [bi_f (fun h => h.1 h_1)]) rfl)
  · refine xv_il1 fX1_isKept_4 ?_
    refine xv_al0 fX1_isKept_5 ?_
    refine xv_getI fX1_isKept_6 gX1_23 rfl (sx_29 _ _) ?_
    refine xv_ic_ge fX1_isKept_9 (fun h_9 => ?_) (fun h_9 => ?_)
    · refine xv_k fX1_isKept_22 ?_
      exact xv_iret fX1_isKept_23 rfl (by decide) (xv_eq_I (by rw [bi_f (fun h => h.2.1 h_9)]) rfl)
    · refine xv_il1 fX1_isKept_12 ?_
      refine xv_k fX1_isKept_13 ?_
      refine xv_ic_ge fX1_isKept_15 (fun h_15 => ?_) (fun h_15 => ?_)
      · refine xv_k fX1_isKept_22 ?_
        exact xv_iret fX1_isKept_23 rfl (by decide) (xv_eq_I (by rw [bi_f (fun h => h.2.2 h_15)]) rfl)
      · refine xv_k fX1_isKept_18 ?_
        refine xv_goto fX1_isKept_19 ?_
        exact xv_iret fX1_isKept_23 rfl (by decide) (xv_eq_I (by rw [bi_t ⟨h_1, h_9, h_15⟩]) rfl)

theorem c_isKept_in (n : Nat) (c : Nat × Nat) (I : xv_I) (J : xv_J) {e w : Nat} (he : e < w) (hw : w ≤ 8) (hc : I 29 2 = nI w) : xv_Met mX1_isKept 0 0 0 (sx n c) I (rx c) J [.ref 29, .int (nI e)] (xv_eq (.inl (some (.int (nI 1)))) (sx n c) (I) (rx c) J) := by
  have h := c_isKept n c I J (nI e)
  rw [bi_t ⟨nI_pos (by omega), by rw [hc]; exact nI_ge he (by omega), nI_ge (by omega) (by decide)⟩] at h
  exact h
theorem c_arAt (n : Nat) (c : Nat × Nat) (I : xv_I) (J : xv_J) {e w : Nat} (he : e < w) (hw : w ≤ 8) (hc : I 29 2 = nI w) {p k : Nat} (hp : p < 10) (hk : k < 12) : xv_Met mX1_at 1 0 0 (sx n c) I (rx c) J [.ref 29, .int (nI e), .int (nI p), .int (nI k)] (xv_eq (.inl (some (.int (I (31 + e) (12 * p + k))))) (sx n c) (I) (rx c) J) := by
  refine xv_Met.of (by decide +kernel) (Nat.le_of_ble_eq_true rfl) (List.forall_mem_cons.mpr ⟨rfl, List.forall_mem_cons.mpr ⟨rfl, List.forall_mem_cons.mpr ⟨rfl, List.forall_mem_cons.mpr ⟨rfl, fun _ h => nomatch h⟩⟩⟩⟩) ?_
  show xv_W mX1_at 1 0 0 _ 0 0 (sx n c) I (rx c) J 0 [some (.ref 29), some (.int (nI e)), some (.int (nI p)), some (.int (nI k))] []
  refine xv_al0 fX1_at_0 ?_
  refine xv_il1 fX1_at_1 ?_
  refine xv_callV1R (c_isKept_in n c I J he hw hc) fX1_at_2 YX1_isKept VX1_isKept lX1_33 rfl rfl (sx_29 _ _) (Nat.le_of_ble_eq_true rfl) (by decide) (by decide) (by decide) ?_
  refine xv_if_eq fX1_at_5 (fun h_5 => ?_) (fun h_5 => ?_)
  · exact absurd h_5 (by decide)
  · refine xv_il2 fX1_at_8 ?_
    refine xv_callS1R (c_isPage_in n c I J hp) fX1_at_9 YX10_isPage VX10_isPage lX1_37 rfl (Nat.le_of_ble_eq_true rfl) (by decide) (by decide) (by decide) ?_
    refine xv_if_eq fX1_at_12 (fun h_12 => ?_) (fun h_12 => ?_)
    · exact absurd h_12 (by decide)
    · refine xv_il3 fX1_at_15 ?_
      refine xv_callS1R (c_isCell_in n c I J hk) fX1_at_16 YX10_isCell VX10_isCell lX1_40 rfl (Nat.le_of_ble_eq_true rfl) (by decide) (by decide) (by decide) ?_
      refine xv_if_eq fX1_at_19 (fun h_19 => ?_) (fun h_19 => ?_)
      · exact absurd h_19 (by decide)
      · refine xv_al0 fX1_at_22 ?_
        refine xv_getR fX1_at_23 gX1_11 rfl (sx_29 _ _) (rx_29_0 _) ?_
        refine xv_il1 fX1_at_26 ?_
        refine xv_aaldK fX1_at_27 (sx_30 _ _) (Or.inr ⟨_, rfl⟩) (⟨by omega, by decide⟩) (rx_ed c (by omega)) ?_
        refine xv_k fX1_at_28 ?_
        refine xv_il2 fX1_at_30 ?_
        refine xv_imul fX1_at_31 ?_
        refine xv_il3 fX1_at_32 ?_
        refine xv_iadd fX1_at_33 ?_
        rw [nI_mul, nI_add]
        refine xv_ialdN fX1_at_34 (sx_ed n c (by omega)) (⟨by omega, by decide⟩) ?_
        refine xv_goto fX1_at_35 ?_
        exact xv_iret fX1_at_39 rfl rfl xv_eq_i

theorem c_minuteOf (n : Nat) (c : Nat × Nat) (I : xv_I) (J : xv_J) {e w : Nat} (he : e < w) (hw : w ≤ 8) (hc : I 29 2 = nI w) : xv_Met mX1_minuteOf 1 0 0 (sx n c) I (rx c) J [.ref 29, .int (nI e)] (xv_eq (.inl (some (.int (I 39 e)))) (sx n c) (I) (rx c) J) := by
  refine xv_Met.of (by decide +kernel) (Nat.le_of_ble_eq_true rfl) (List.forall_mem_cons.mpr ⟨rfl, List.forall_mem_cons.mpr ⟨rfl, fun _ h => nomatch h⟩⟩) ?_
  show xv_W mX1_minuteOf 1 0 0 _ 0 0 (sx n c) I (rx c) J 0 [some (.ref 29), some (.int (nI e))] []
  refine xv_al0 fX1_minuteOf_0 ?_
  refine xv_il1 fX1_minuteOf_1 ?_
  refine xv_callV1R (c_isKept_in n c I J he hw hc) fX1_minuteOf_2 YX1_isKept VX1_isKept lX1_33 rfl rfl (sx_29 _ _) (Nat.le_of_ble_eq_true rfl) (by decide) (by decide) (by decide) ?_
  refine xv_if_eq fX1_minuteOf_5 (fun h_5 => ?_) (fun h_5 => ?_)
  · exact absurd h_5 (by decide)
  · refine xv_al0 fX1_minuteOf_8 ?_
    refine xv_getR fX1_minuteOf_9 gX1_16 rfl (sx_29 _ _) (rx_29_1 _) ?_
    refine xv_il1 fX1_minuteOf_12 ?_
    refine xv_ialdN fX1_minuteOf_13 (sx_39 _ _) (⟨by omega, by decide⟩) ?_
    refine xv_goto fX1_minuteOf_14 ?_
    exact xv_iret fX1_minuteOf_18 rfl rfl xv_eq_i

theorem l_has1 (n : Nat) (c : Nat × Nat) (I : xv_I) (J : xv_J) {e w : Nat} (he : e < w) (hw : w ≤ 8) (hc : I 29 2 = nI w) {x : Int32} {p : Nat} (hp : p < 10) : ∀ (m k : Nat) , k + m = 12 → (∀ j, j < 12 * p + k → ¬ I (31 + e) j = x) → ((∀ j, j < 12 * (p + 1) → ¬ I (31 + e) j = x) → xv_W mX1_has 2 0 0 (xv_eq (.inl (some (.int (bi (∃ j, j < 120 ∧ I (31 + e) j = x))))) (sx n c) (I) (rx c) J) 0 0 (sx n c) I (rx c) J 38 (some (.ref 29) :: some (.int (nI e)) :: some (.int x) :: some (.int (nI p)) :: some (.int (nI 12)) :: []) []) → xv_W mX1_has 2 0 0 (xv_eq (.inl (some (.int (bi (∃ j, j < 120 ∧ I (31 + e) j = x))))) (sx n c) (I) (rx c) J) 0 0 (sx n c) I (rx c) J 11 (some (.ref 29) :: some (.int (nI e)) :: some (.int x) :: some (.int (nI p)) :: some (.int (nI k)) :: []) [] := by
  intro m
  induction m with
  | zero =>
    intro k  hm i0 i1
    obtain rfl : k = 12 := by omega
    refine xv_il4 fX1_has_11 ?_
    refine xv_k fX1_has_13 ?_
    refine xv_ic_ge fX1_has_15 (fun h_15 => ?_) (fun h_15 => ?_)
    · exact i1 (by rw [Nat.mul_succ]; exact i0)
    · exact absurd (nI_le (Nat.le_refl _) (by decide)) h_15
  | succ m ih =>
    intro k  hm i0 i1
    have hk : k < 12 := by omega
    show xv_W mX1_has 2 0 0 _ 0 0 (sx n c) I (rx c) J 11 (some (.ref 29) :: some (.int (nI e)) :: some (.int x) :: some (.int (nI p)) :: some (.int (nI k)) :: []) []
    refine xv_il4 fX1_has_11 ?_
    refine xv_k fX1_has_13 ?_
    refine xv_ic_ge fX1_has_15 (fun h_15 => ?_) (fun h_15 => ?_)
    · exact absurd h_15 (nI_ge hk (by decide))
    · refine xv_al0 fX1_has_18 ?_
      refine xv_il1 fX1_has_19 ?_
      refine xv_il3 fX1_has_20 ?_
      refine xv_il4 fX1_has_21 ?_
      refine xv_callV3R (c_arAt n c I J he hw hc hp hk) fX1_has_23 YX1_at VX1_at lX1_43 rfl rfl (sx_29 _ _) (Nat.le_of_ble_eq_true rfl) (by decide) (by decide) (by decide) ?_
      refine xv_il2 fX1_has_26 ?_
      refine xv_ic_ne fX1_has_27 (fun h_27 => ?_) (fun h_27 => ?_)
      · refine xv_iincN4 (a := 1) fX1_has_32 (by decide) ?_
        refine xv_goto fX1_has_35 ?_
        exact ih (k + 1) (by omega) (lt_or i0 h_27) i1
      · refine xv_k fX1_has_30 ?_
        exact xv_iret fX1_has_31 rfl (by decide) (xv_eq_I (by rw [bi_t ⟨12 * p + k, by omega, h_27⟩]) rfl)

theorem l_has (n : Nat) (c : Nat × Nat) (I : xv_I) (J : xv_J) {e w : Nat} (he : e < w) (hw : w ≤ 8) (hc : I 29 2 = nI w) {x : Int32} : ∀ (m k : Nat) (l4 : Option Value), k + m = 10 → (∀ j, j < 12 * k → ¬ I (31 + e) j = x) → xv_W mX1_has 2 0 0 (xv_eq (.inl (some (.int (bi (∃ j, j < 120 ∧ I (31 + e) j = x))))) (sx n c) (I) (rx c) J) 0 0 (sx n c) I (rx c) J 2 (some (.ref 29) :: some (.int (nI e)) :: some (.int x) :: some (.int (nI k)) :: l4 :: []) [] := by
  intro m
  induction m with
  | zero =>
    intro k l4 hm i0
    obtain rfl : k = 10 := by omega
    refine xv_il3 fX1_has_2 ?_
    refine xv_k fX1_has_3 ?_
    refine xv_ic_ge fX1_has_5 (fun h_5 => ?_) (fun h_5 => ?_)
    · refine xv_k fX1_has_44 ?_
      exact xv_iret fX1_has_45 rfl (by decide) (xv_eq_I (by rw [bi_f (fun ⟨j, h1, h2⟩ => i0 j h1 h2)]) rfl)
    · exact absurd (nI_le (Nat.le_refl _) (by decide)) h_5
  | succ m ih =>
    intro k l4 hm i0
    have hk : k < 10 := by omega
    show xv_W mX1_has 2 0 0 _ 0 0 (sx n c) I (rx c) J 2 (some (.ref 29) :: some (.int (nI e)) :: some (.int x) :: some (.int (nI k)) :: l4 :: []) []
    refine xv_il3 fX1_has_2 ?_
    refine xv_k fX1_has_3 ?_
    refine xv_ic_ge fX1_has_5 (fun h_5 => ?_) (fun h_5 => ?_)
    · exact absurd h_5 (nI_ge hk (by decide))
    · refine xv_k fX1_has_8 ?_
      refine xv_is4 fX1_has_9 ?_
      refine l_has1 n c I J he hw hc hk 12 0 rfl (by simpa using i0) (fun i1 => ?_)
      refine xv_iincN3 (a := 1) fX1_has_38 (by decide) ?_
      refine xv_goto fX1_has_41 ?_
      exact ih (k + 1) _ (by omega) i1

theorem c_has (n : Nat) (c : Nat × Nat) (I : xv_I) (J : xv_J) {e w : Nat} (he : e < w) (hw : w ≤ 8) (hc : I 29 2 = nI w) {x : Int32} : xv_Met mX1_has 2 0 0 (sx n c) I (rx c) J [.ref 29, .int (nI e), .int x] (xv_eq (.inl (some (.int (bi (∃ j, j < 120 ∧ I (31 + e) j = x))))) (sx n c) (I) (rx c) J) := by
  refine xv_Met.of (by decide +kernel) (Nat.le_of_ble_eq_true rfl) (List.forall_mem_cons.mpr ⟨rfl, List.forall_mem_cons.mpr ⟨rfl, List.forall_mem_cons.mpr ⟨rfl, fun _ h => nomatch h⟩⟩⟩) ?_
  show xv_W mX1_has 2 0 0 _ 0 0 (sx n c) I (rx c) J 0 [some (.ref 29), some (.int (nI e)), some (.int x), none, none] []
  refine xv_k fX1_has_0 ?_
  refine xv_is3 fX1_has_1 ?_
  exact l_has n c I J he hw hc 10 0 none rfl (fun j hj => absurd hj (by omega))

theorem l_owes (n : Nat) (c : Nat × Nat) (I : xv_I) (J : xv_J) {w : Nat} (hw : w ≤ 5) (hc : I 29 4 = nI w) {x : Int32} : ∀ (m k : Nat) , k + m = w → (∀ j, j < k → ¬ I 40 j = x) → xv_W mX1_owes 0 0 0 (xv_eq (.inl (some (.int (bi (∃ j, j < w ∧ I 40 j = x))))) (sx n c) (I) (rx c) J) 0 0 (sx n c) I (rx c) J 2 [some (.ref 29), some (.int x), some (.int (nI k))] [] := by
  intro m
  induction m with
  | zero =>
    intro k  hm i0
    obtain rfl : k = w := by omega
    refine xv_il2 fX1_owes_2 ?_
    refine xv_al0 fX1_owes_3 ?_
    refine xv_getI fX1_owes_4 gX1_46 rfl (sx_29 _ _) ?_
    rw [hc]
    refine xv_ic_ge fX1_owes_7 (fun h_7 => ?_) (fun h_7 => ?_)
    · refine xv_k fX1_owes_33 ?_
      exact xv_iret fX1_owes_34 rfl (by decide) (xv_eq_I (by rw [bi_f (fun ⟨j, h1, h2⟩ => i0 j h1 h2)]) rfl)
    · exact absurd (nI_le (Nat.le_refl _) (by omega)) h_7
  | succ m ih =>
    intro k  hm i0
    have hk : k < w := by omega
    show xv_W mX1_owes 0 0 0 _ 0 0 (sx n c) I (rx c) J 2 [some (.ref 29), some (.int x), some (.int (nI k))] []
    refine xv_il2 fX1_owes_2 ?_
    refine xv_al0 fX1_owes_3 ?_
    refine xv_getI fX1_owes_4 gX1_46 rfl (sx_29 _ _) ?_
    rw [hc]
    refine xv_ic_ge fX1_owes_7 (fun h_7 => ?_) (fun h_7 => ?_)
    · exact absurd h_7 (nI_ge hk (by omega))
    · refine xv_il2 fX1_owes_10 ?_
      refine xv_k fX1_owes_11 ?_
      refine xv_ic_ge fX1_owes_12 (fun h_12 => ?_) (fun h_12 => ?_)
      · exact absurd h_12 (nI_ge (by omega) (by decide))
      · refine xv_al0 fX1_owes_15 ?_
        refine xv_getR fX1_owes_16 gX1_20 rfl (sx_29 _ _) (rx_29_3 _) ?_
        refine xv_il2 fX1_owes_19 ?_
        refine xv_ialdN fX1_owes_20 (sx_40 _ _) (⟨by omega, by decide⟩) ?_
        refine xv_il1 fX1_owes_21 ?_
        refine xv_ic_ne fX1_owes_22 (fun h_22 => ?_) (fun h_22 => ?_)
        · refine xv_iincN2 (a := 1) fX1_owes_27 (by decide) ?_
          refine xv_goto fX1_owes_30 ?_
          exact ih (k + 1) (by omega) (lt_or i0 h_22)
        · refine xv_k fX1_owes_25 ?_
          exact xv_iret fX1_owes_26 rfl (by decide) (xv_eq_I (by rw [bi_t ⟨k, hk, h_22⟩]) rfl)

theorem c_owes (n : Nat) (c : Nat × Nat) (I : xv_I) (J : xv_J) {w : Nat} (hw : w ≤ 5) (hc : I 29 4 = nI w) {x : Int32} : xv_Met mX1_owes 0 0 0 (sx n c) I (rx c) J [.ref 29, .int x] (xv_eq (.inl (some (.int (bi (∃ j, j < w ∧ I 40 j = x))))) (sx n c) (I) (rx c) J) := by
  refine xv_Met.of (by decide +kernel) (Nat.le_of_ble_eq_true rfl) (List.forall_mem_cons.mpr ⟨rfl, List.forall_mem_cons.mpr ⟨rfl, fun _ h => nomatch h⟩⟩) ?_
  show xv_W mX1_owes 0 0 0 _ 0 0 (sx n c) I (rx c) J 0 [some (.ref 29), some (.int x), none] []
  refine xv_k fX1_owes_0 ?_
  refine xv_is2 fX1_owes_1 ?_
  exact l_owes n c I J hw hc w 0 (by omega) lt_no

theorem c_addOwed (n : Nat) (c : Nat × Nat) (I : xv_I) (J : xv_J) {w : Nat} (hw : w < 5) (hc : I 29 4 = nI w) {x : Int32} : xv_Met mX1_addOwed 0 0 0 (sx n c) I (rx c) J [.ref 29, .int x] (xv_eq (.inl none) (sx n c) (xv_u (xv_u I 40 w x) 29 4 (nI (w + 1))) (rx c) J) := by
  refine xv_Met.of (by decide +kernel) (Nat.le_of_ble_eq_true rfl) (List.forall_mem_cons.mpr ⟨rfl, List.forall_mem_cons.mpr ⟨rfl, fun _ h => nomatch h⟩⟩) ?_
  show xv_W mX1_addOwed 0 0 0 _ 0 0 (sx n c) I (rx c) J 0 [some (.ref 29), some (.int x)] []
  refine xv_al0 fX1_addOwed_0 ?_
  refine xv_getI fX1_addOwed_1 gX1_46 rfl (sx_29 _ _) ?_
  rw [hc]
  refine xv_if_lt fX1_addOwed_4 (fun h_4 => ?_) (fun h_4 => ?_)
  · exact absurd h_4 (nI_pos (by omega))
  · refine xv_al0 fX1_addOwed_7 ?_
    refine xv_getI fX1_addOwed_8 gX1_46 rfl (sx_29 _ _) ?_
    rw [hc]
    refine xv_k fX1_addOwed_11 ?_
    refine xv_ic_ge fX1_addOwed_12 (fun h_12 => ?_) (fun h_12 => ?_)
    · exact absurd h_12 (nI_ge hw (by decide))
    · refine xv_al0 fX1_addOwed_15 ?_
      refine xv_getR fX1_addOwed_16 gX1_20 rfl (sx_29 _ _) (rx_29_3 _) ?_
      refine xv_al0 fX1_addOwed_19 ?_
      refine xv_getI fX1_addOwed_20 gX1_46 rfl (sx_29 _ _) ?_
      rw [hc]
      refine xv_il1 fX1_addOwed_23 ?_
      refine xv_iastN fX1_addOwed_24 (sx_40 _ _) (⟨hw, by decide⟩) ?_
      refine xv_al0 fX1_addOwed_25 ?_
      refine xv_dup_r fX1_addOwed_26 ?_
      refine xv_getI fX1_addOwed_27 gX1_46 rfl (sx_29 _ _) ?_
      rw [xv_u_ne _ _ _ (by decide), hc]
      refine xv_k fX1_addOwed_30 ?_
      refine xv_iadd fX1_addOwed_31 ?_
      rw [nI_add]
      refine xv_putI fX1_addOwed_32 gX1_46 rfl (tp1_4 _) (sx_29 _ _) ⟨rfl, rfl⟩ ?_
      exact xv_vret fX1_addOwed_35 rfl xv_eq_i

theorem c_longest (n : Nat) (c : Nat × Nat) (I : xv_I) (J : xv_J) {w : Nat} (hw : 0 < w) (hw2 : w ≤ 5) (hc : I 29 4 = nI w) : xv_Met mX1_longestOwed 0 0 0 (sx n c) I (rx c) J [.ref 29] (xv_eq (.inl (some (.int (I 40 0)))) (sx n c) (I) (rx c) J) := by
  refine xv_Met.of (by decide +kernel) (Nat.le_of_ble_eq_true rfl) (List.forall_mem_cons.mpr ⟨rfl, fun _ h => nomatch h⟩) ?_
  show xv_W mX1_longestOwed 0 0 0 _ 0 0 (sx n c) I (rx c) J 0 [some (.ref 29)] []
  refine xv_al0 fX1_longestOwed_0 ?_
  refine xv_getI fX1_longestOwed_1 gX1_46 rfl (sx_29 _ _) ?_
  rw [hc]
  refine xv_if_le fX1_longestOwed_4 (fun h_4 => ?_) (fun h_4 => ?_)
  · exact absurd h_4 (nI_nle hw (by omega))
  · refine xv_al0 fX1_longestOwed_7 ?_
    refine xv_getR fX1_longestOwed_8 gX1_20 rfl (sx_29 _ _) (rx_29_3 _) ?_
    refine xv_k fX1_longestOwed_11 ?_
    refine xv_ialdN fX1_longestOwed_12 (sx_40 _ _) (⟨by decide, by decide⟩) ?_
    refine xv_goto fX1_longestOwed_13 ?_
    exact xv_iret fX1_longestOwed_17 rfl rfl xv_eq_i

def xDrop1 (k : Nat) (I : xv_I) : xv_I := xv_u I 40 (k - 1) (I 40 k)
def xDrop (w : Nat) (I : xv_I) : xv_I := xv_u (it xDrop1 (w - 1) 1 I) 29 4 (nI (w - 1))
theorem xDrop1_o {m k : Nat} {I : xv_I} {v : Nat} (j : Nat) (h : v ≠ 40) : it xDrop1 m k I v j = I v j := it_inv (fun s : xv_I => s v j = I v j) (fun k s hs => (xv_u_ne _ _ _ h).trans hs) _ _ _ rfl
theorem l_drop (n : Nat) (c : Nat × Nat) (J : xv_J) {w : Nat} (hw : w ≤ 5) {Q : xv_Q} : ∀ (m k : Nat) (I : xv_I), k + m = w → (I 29 4 = nI w) → (1 ≤ k) → xv_W mX1_dropLongestOwed 0 0 0 Q 0 0 (sx n c) (it xDrop1 m k I) (rx c) J 35 [some (.ref 29), some (.int (nI w))] [] → xv_W mX1_dropLongestOwed 0 0 0 Q 0 0 (sx n c) I (rx c) J 2 [some (.ref 29), some (.int (nI k))] [] := by
  intro m
  induction m with
  | zero =>
    intro k I hm i0 i1 hx
    obtain rfl : k = w := by omega
    refine xv_il1 fX1_dropLongestOwed_2 ?_
    refine xv_al0 fX1_dropLongestOwed_3 ?_
    refine xv_getI fX1_dropLongestOwed_4 gX1_46 rfl (sx_29 _ _) ?_
    rw [i0]
    refine xv_ic_ge fX1_dropLongestOwed_7 (fun h_7 => ?_) (fun h_7 => ?_)
    · exact hx
    · exact absurd (nI_le (Nat.le_refl _) (by omega)) h_7
  | succ m ih =>
    intro k I hm i0 i1 hx
    have hk : k < w := by omega
    show xv_W mX1_dropLongestOwed 0 0 0 _ 0 0 (sx n c) I (rx c) J 2 [some (.ref 29), some (.int (nI k))] []
    refine xv_il1 fX1_dropLongestOwed_2 ?_
    refine xv_al0 fX1_dropLongestOwed_3 ?_
    refine xv_getI fX1_dropLongestOwed_4 gX1_46 rfl (sx_29 _ _) ?_
    rw [i0]
    refine xv_ic_ge fX1_dropLongestOwed_7 (fun h_7 => ?_) (fun h_7 => ?_)
    · exact absurd h_7 (nI_ge hk (by omega))
    · refine xv_il1 fX1_dropLongestOwed_10 ?_
      refine xv_k fX1_dropLongestOwed_11 ?_
      refine xv_ic_ge fX1_dropLongestOwed_12 (fun h_12 => ?_) (fun h_12 => ?_)
      · exact absurd h_12 (nI_ge (by omega) (by decide))
      · refine xv_al0 fX1_dropLongestOwed_15 ?_
        refine xv_getR fX1_dropLongestOwed_16 gX1_20 rfl (sx_29 _ _) (rx_29_3 _) ?_
        refine xv_il1 fX1_dropLongestOwed_19 ?_
        refine xv_k fX1_dropLongestOwed_20 ?_
        refine xv_isub fX1_dropLongestOwed_21 ?_
        rw [nI_sub i1]
        refine xv_al0 fX1_dropLongestOwed_22 ?_
        refine xv_getR fX1_dropLongestOwed_23 gX1_20 rfl (sx_29 _ _) (rx_29_3 _) ?_
        refine xv_il1 fX1_dropLongestOwed_26 ?_
        refine xv_ialdN fX1_dropLongestOwed_27 (sx_40 _ _) (⟨by omega, by decide⟩) ?_
        refine xv_iastN fX1_dropLongestOwed_28 (sx_40 _ _) (⟨by omega, by decide⟩) ?_
        refine xv_iincN1 (a := 1) fX1_dropLongestOwed_29 (by decide) ?_
        refine xv_goto fX1_dropLongestOwed_32 ?_
        exact ih (k + 1) (xDrop1 k I) (by omega) ((xv_u_ne _ _ _ (by decide)).trans i0) (by omega) hx

theorem c_drop (n : Nat) (c : Nat × Nat) (I : xv_I) (J : xv_J) {w : Nat} (hw : 0 < w) (hw2 : w ≤ 5) (hc : I 29 4 = nI w) : xv_Met mX1_dropLongestOwed 0 0 0 (sx n c) I (rx c) J [.ref 29] (xv_eq (.inl none) (sx n c) (xDrop w I) (rx c) J) := by
  refine xv_Met.of (by decide +kernel) (Nat.le_of_ble_eq_true rfl) (List.forall_mem_cons.mpr ⟨rfl, fun _ h => nomatch h⟩) ?_
  show xv_W mX1_dropLongestOwed 0 0 0 _ 0 0 (sx n c) I (rx c) J 0 [some (.ref 29), none] []
  refine xv_k fX1_dropLongestOwed_0 ?_
  refine xv_is1 fX1_dropLongestOwed_1 ?_
  refine l_drop n c J hw2 (w - 1) 1 _ (by omega) hc (by decide) ?_
  refine xv_al0 fX1_dropLongestOwed_35 ?_
  refine xv_getI fX1_dropLongestOwed_36 gX1_46 rfl (sx_29 _ _) ?_
  rw [(xDrop1_o _ (by decide)).trans hc]
  refine xv_if_le fX1_dropLongestOwed_39 (fun h_39 => ?_) (fun h_39 => ?_)
  · exact absurd h_39 (nI_nle hw (by omega))
  · refine xv_al0 fX1_dropLongestOwed_42 ?_
    refine xv_dup_r fX1_dropLongestOwed_43 ?_
    refine xv_getI fX1_dropLongestOwed_44 gX1_46 rfl (sx_29 _ _) ?_
    rw [(xDrop1_o _ (by decide)).trans hc]
    refine xv_k fX1_dropLongestOwed_47 ?_
    refine xv_isub fX1_dropLongestOwed_48 ?_
    rw [nI_sub hw]
    refine xv_putI fX1_dropLongestOwed_49 gX1_46 rfl (tp1_4 _) (sx_29 _ _) ⟨rfl, rfl⟩ ?_
    exact xv_vret fX1_dropLongestOwed_52 rfl (xv_eq_I rfl rfl)

theorem c_trAdd (n : Nat) (c : Nat × Nat) (I : xv_I) (J : xv_J) {w : Nat} (hw : w < 6) (hc : I 41 2 = nI w) {x y : Int32} : xv_Met mX7_add 0 0 0 (sx n c) I (rx c) J [.ref 41, .int x, .int y] (xv_eq (.inl none) (sx n c) (xv_u (xv_u (xv_u I 42 w x) 43 w y) 41 2 (nI (w + 1))) (rx c) J) := by
  refine xv_Met.of (by decide +kernel) (Nat.le_of_ble_eq_true rfl) (List.forall_mem_cons.mpr ⟨rfl, List.forall_mem_cons.mpr ⟨rfl, List.forall_mem_cons.mpr ⟨rfl, fun _ h => nomatch h⟩⟩⟩) ?_
  show xv_W mX7_add 0 0 0 _ 0 0 (sx n c) I (rx c) J 0 [some (.ref 41), some (.int x), some (.int y)] []
  refine xv_al0 fX7_add_0 ?_
  refine xv_getI fX7_add_1 gX7_18 rfl (sx_41 _ _) ?_
  rw [hc]
  refine xv_if_lt fX7_add_4 (fun h_4 => ?_) (fun h_4 => ?_)
  · exact absurd h_4 (nI_pos (by omega))
  · refine xv_al0 fX7_add_7 ?_
    refine xv_getI fX7_add_8 gX7_18 rfl (sx_41 _ _) ?_
    rw [hc]
    refine xv_k fX7_add_11 ?_
    refine xv_ic_ge fX7_add_13 (fun h_13 => ?_) (fun h_13 => ?_)
    · exact absurd h_13 (nI_ge hw (by decide))
    · refine xv_al0 fX7_add_16 ?_
      refine xv_getR fX7_add_17 gX7_9 rfl (sx_41 _ _) (rx_41_0 _) ?_
      refine xv_al0 fX7_add_20 ?_
      refine xv_getI fX7_add_21 gX7_18 rfl (sx_41 _ _) ?_
      rw [hc]
      refine xv_il1 fX7_add_24 ?_
      refine xv_iastN fX7_add_25 (sx_42 _ _) (⟨hw, by decide⟩) ?_
      refine xv_al0 fX7_add_26 ?_
      refine xv_getR fX7_add_27 gX7_15 rfl (sx_41 _ _) (rx_41_1 _) ?_
      refine xv_al0 fX7_add_30 ?_
      refine xv_getI fX7_add_31 gX7_18 rfl (sx_41 _ _) ?_
      rw [xv_u_ne _ _ _ (by decide), hc]
      refine xv_il2 fX7_add_34 ?_
      refine xv_iastN fX7_add_35 (sx_43 _ _) (⟨hw, by decide⟩) ?_
      refine xv_al0 fX7_add_36 ?_
      refine xv_dup_r fX7_add_37 ?_
      refine xv_getI fX7_add_38 gX7_18 rfl (sx_41 _ _) ?_
      rw [xv_u_ne _ _ _ (by decide), xv_u_ne _ _ _ (by decide), hc]
      refine xv_k fX7_add_41 ?_
      refine xv_iadd fX7_add_42 ?_
      rw [nI_add]
      refine xv_putI fX7_add_43 gX7_18 rfl (tp7_2 _) (sx_41 _ _) ⟨rfl, rfl⟩ ?_
      exact xv_vret fX7_add_46 rfl xv_eq_i

theorem c_hlAdd (n : Nat) (c : Nat × Nat) (I : xv_I) (J : xv_J) {w : Nat} (hw : w < 5) (hc : I 44 2 = nI w) {x y : Int32} : xv_Met mX2_add 0 0 0 (sx n c) I (rx c) J [.ref 44, .int x, .int y] (xv_eq (.inl none) (sx n c) (xv_u (xv_u (xv_u I 45 w x) 46 w y) 44 2 (nI (w + 1))) (rx c) J) := by
  refine xv_Met.of (by decide +kernel) (Nat.le_of_ble_eq_true rfl) (List.forall_mem_cons.mpr ⟨rfl, List.forall_mem_cons.mpr ⟨rfl, List.forall_mem_cons.mpr ⟨rfl, fun _ h => nomatch h⟩⟩⟩) ?_
  show xv_W mX2_add 0 0 0 _ 0 0 (sx n c) I (rx c) J 0 [some (.ref 44), some (.int x), some (.int y)] []
  refine xv_al0 fX2_add_0 ?_
  refine xv_getI fX2_add_1 gX2_18 rfl (sx_44 _ _) ?_
  rw [hc]
  refine xv_if_lt fX2_add_4 (fun h_4 => ?_) (fun h_4 => ?_)
  · exact absurd h_4 (nI_pos (by omega))
  · refine xv_al0 fX2_add_7 ?_
    refine xv_getI fX2_add_8 gX2_18 rfl (sx_44 _ _) ?_
    rw [hc]
    refine xv_k fX2_add_11 ?_
    refine xv_ic_ge fX2_add_12 (fun h_12 => ?_) (fun h_12 => ?_)
    · exact absurd h_12 (nI_ge hw (by decide))
    · refine xv_al0 fX2_add_15 ?_
      refine xv_getR fX2_add_16 gX2_9 rfl (sx_44 _ _) (rx_44_0 _) ?_
      refine xv_al0 fX2_add_19 ?_
      refine xv_getI fX2_add_20 gX2_18 rfl (sx_44 _ _) ?_
      rw [hc]
      refine xv_il1 fX2_add_23 ?_
      refine xv_iastN fX2_add_24 (sx_45 _ _) (⟨hw, by decide⟩) ?_
      refine xv_al0 fX2_add_25 ?_
      refine xv_getR fX2_add_26 gX2_15 rfl (sx_44 _ _) (rx_44_1 _) ?_
      refine xv_al0 fX2_add_29 ?_
      refine xv_getI fX2_add_30 gX2_18 rfl (sx_44 _ _) ?_
      rw [xv_u_ne _ _ _ (by decide), hc]
      refine xv_il2 fX2_add_33 ?_
      refine xv_iastN fX2_add_34 (sx_46 _ _) (⟨hw, by decide⟩) ?_
      refine xv_al0 fX2_add_35 ?_
      refine xv_dup_r fX2_add_36 ?_
      refine xv_getI fX2_add_37 gX2_18 rfl (sx_44 _ _) ?_
      rw [xv_u_ne _ _ _ (by decide), xv_u_ne _ _ _ (by decide), hc]
      refine xv_k fX2_add_40 ?_
      refine xv_iadd fX2_add_41 ?_
      rw [nI_add]
      refine xv_putI fX2_add_42 gX2_18 rfl (tp2_2 _) (sx_44 _ _) ⟨rfl, rfl⟩ ?_
      exact xv_vret fX2_add_45 rfl xv_eq_i

theorem c_wiAdd (n : Nat) (c : Nat × Nat) (I : xv_I) (J : xv_J) {w : Nat} (hw : w < 12) (hc : I 48 2 = nI w) {x y : Int32} : xv_Met mX9_add 0 0 0 (sx n c) I (rx c) J [.ref 48, .int x, .int y] (xv_eq (.inl none) (sx n c) (xv_u (xv_u (xv_u I 49 w x) 50 w y) 48 2 (nI (w + 1))) (rx c) J) := by
  refine xv_Met.of (by decide +kernel) (Nat.le_of_ble_eq_true rfl) (List.forall_mem_cons.mpr ⟨rfl, List.forall_mem_cons.mpr ⟨rfl, List.forall_mem_cons.mpr ⟨rfl, fun _ h => nomatch h⟩⟩⟩) ?_
  show xv_W mX9_add 0 0 0 _ 0 0 (sx n c) I (rx c) J 0 [some (.ref 48), some (.int x), some (.int y)] []
  refine xv_al0 fX9_add_0 ?_
  refine xv_getI fX9_add_1 gX9_18 rfl (sx_48 _ _) ?_
  rw [hc]
  refine xv_if_lt fX9_add_4 (fun h_4 => ?_) (fun h_4 => ?_)
  · exact absurd h_4 (nI_pos (by omega))
  · refine xv_al0 fX9_add_7 ?_
    refine xv_getI fX9_add_8 gX9_18 rfl (sx_48 _ _) ?_
    rw [hc]
    refine xv_k fX9_add_11 ?_
    refine xv_ic_ge fX9_add_13 (fun h_13 => ?_) (fun h_13 => ?_)
    · exact absurd h_13 (nI_ge hw (by decide))
    · refine xv_al0 fX9_add_16 ?_
      refine xv_getR fX9_add_17 gX9_9 rfl (sx_48 _ _) (rx_48_0 _) ?_
      refine xv_al0 fX9_add_20 ?_
      refine xv_getI fX9_add_21 gX9_18 rfl (sx_48 _ _) ?_
      rw [hc]
      refine xv_il1 fX9_add_24 ?_
      refine xv_iastN fX9_add_25 (sx_49 _ _) (⟨hw, by decide⟩) ?_
      refine xv_al0 fX9_add_26 ?_
      refine xv_getR fX9_add_27 gX9_15 rfl (sx_48 _ _) (rx_48_1 _) ?_
      refine xv_al0 fX9_add_30 ?_
      refine xv_getI fX9_add_31 gX9_18 rfl (sx_48 _ _) ?_
      rw [xv_u_ne _ _ _ (by decide), hc]
      refine xv_il2 fX9_add_34 ?_
      refine xv_iastN fX9_add_35 (sx_50 _ _) (⟨hw, by decide⟩) ?_
      refine xv_al0 fX9_add_36 ?_
      refine xv_dup_r fX9_add_37 ?_
      refine xv_getI fX9_add_38 gX9_18 rfl (sx_48 _ _) ?_
      rw [xv_u_ne _ _ _ (by decide), xv_u_ne _ _ _ (by decide), hc]
      refine xv_k fX9_add_41 ?_
      refine xv_iadd fX9_add_42 ?_
      rw [nI_add]
      refine xv_putI fX9_add_43 gX9_18 rfl (tp9_2 _) (sx_48 _ _) ⟨rfl, rfl⟩ ?_
      exact xv_vret fX9_add_46 rfl xv_eq_i

theorem c_isAhead (n : Nat) (c : Nat × Nat) (I : xv_I) (J : xv_J) {a b : Nat} (ha : a < 6) (hb : b < 6) : xv_Met mX7_isAhead 0 0 0 (sx n c) I (rx c) J [.ref 41, .int (nI a), .int (nI b)] (xv_eq (.inl (some (.int (bi (I 42 a < I 42 b ∨ (I 42 a = I 42 b ∧ a < b)))))) (sx n c) (I) (rx c) J) := by
  refine xv_Met.of (by decide +kernel) (Nat.le_of_ble_eq_true rfl) (List.forall_mem_cons.mpr ⟨rfl, List.forall_mem_cons.mpr ⟨rfl, List.forall_mem_cons.mpr ⟨rfl, fun _ h => nomatch h⟩⟩⟩) ?_
  show xv_W mX7_isAhead 0 0 0 _ 0 0 (sx n c) I (rx c) J 0 [some (.ref 41), some (.int (nI a)), some (.int (nI b))] []
  refine xv_al0 fX7_isAhead_0 ?_
  refine xv_getR fX7_isAhead_1 gX7_9 rfl (sx_41 _ _) (rx_41_0 _) ?_
  refine xv_il1 fX7_isAhead_4 ?_
  refine xv_ialdN fX7_isAhead_5 (sx_42 _ _) (⟨ha, by decide⟩) ?_
  refine xv_al0 fX7_isAhead_6 ?_
  refine xv_getR fX7_isAhead_7 gX7_9 rfl (sx_41 _ _) (rx_41_0 _) ?_
  refine xv_il2 fX7_isAhead_10 ?_
  refine xv_ialdN fX7_isAhead_11 (sx_42 _ _) (⟨hb, by decide⟩) ?_
  refine xv_ic_lt fX7_isAhead_12 (fun h_12 => ?_) (fun h_12 => ?_)
  · refine xv_k fX7_isAhead_35 ?_
    refine xv_goto fX7_isAhead_36 ?_
    exact xv_iret fX7_isAhead_40 rfl (by decide) (xv_eq_I (by rw [bi_t (Or.inl h_12)]) rfl)
  · refine xv_al0 fX7_isAhead_15 ?_
    refine xv_getR fX7_isAhead_16 gX7_9 rfl (sx_41 _ _) (rx_41_0 _) ?_
    refine xv_il1 fX7_isAhead_19 ?_
    refine xv_ialdN fX7_isAhead_20 (sx_42 _ _) (⟨ha, by decide⟩) ?_
    refine xv_al0 fX7_isAhead_21 ?_
    refine xv_getR fX7_isAhead_22 gX7_9 rfl (sx_41 _ _) (rx_41_0 _) ?_
    refine xv_il2 fX7_isAhead_25 ?_
    refine xv_ialdN fX7_isAhead_26 (sx_42 _ _) (⟨hb, by decide⟩) ?_
    refine xv_ic_ne fX7_isAhead_27 (fun h_27 => ?_) (fun h_27 => ?_)
    · refine xv_k fX7_isAhead_39 ?_
      exact xv_iret fX7_isAhead_40 rfl (by decide) (xv_eq_I (by rw [bi_f (fun h => h.elim h_12 (fun q => h_27 q.1))]) rfl)
    · refine xv_il1 fX7_isAhead_30 ?_
      refine xv_il2 fX7_isAhead_31 ?_
      refine xv_ic_ge fX7_isAhead_32 (fun h_32 => ?_) (fun h_32 => ?_)
      · refine xv_k fX7_isAhead_39 ?_
        exact xv_iret fX7_isAhead_40 rfl (by decide) (xv_eq_I (by rw [bi_f (fun h => h.elim h_12 (fun q => absurd h_32 (nI_ge q.2 (by omega))))]) rfl)
      · refine xv_k fX7_isAhead_35 ?_
        refine xv_goto fX7_isAhead_36 ?_
        exact xv_iret fX7_isAhead_40 rfl (by decide) (xv_eq_I (by rw [bi_t (Or.inr ⟨h_27, Nat.not_le.mp (fun q => h_32 (nI_le q (by omega)))⟩)]) rfl)

noncomputable def xNeed1 (I : xv_I) (b a : Nat) (s : Int32) : Int32 := iteP (I 42 a < I 42 b ∨ (I 42 a = I 42 b ∧ a < b)) (s + I 43 a) s
noncomputable def xNeed (I : xv_I) (w b : Nat) : Int32 := it (xNeed1 I b) w 0 (I 43 b)
noncomputable def xLate (I : xv_I) (w b : Nat) (x : Int32) : Int32 := if nI 0 < x + (xNeed I w b + nI 50 - nI 1) / nI 50 - I 42 b then x + (xNeed I w b + nI 50 - nI 1) / nI 50 - I 42 b else nI 0
theorem l_late (n : Nat) (c : Nat × Nat) (I : xv_I) (J : xv_J) {w : Nat} (hw : w ≤ 6) (hc : I 41 2 = nI w) {b : Nat} {x : Int32} (hb : b < 6) {Q : xv_Q} : ∀ (m k : Nat) (s : Int32), k + m = w → xv_W mX7_minutesLate 1 0 0 Q 0 0 (sx n c) I (rx c) J 64 [some (.ref 41), some (.int (nI b)), some (.int x), some (.int (it (xNeed1 I b) m k s)), some (.int (nI w))] [] → xv_W mX7_minutesLate 1 0 0 Q 0 0 (sx n c) I (rx c) J 22 [some (.ref 41), some (.int (nI b)), some (.int x), some (.int s), some (.int (nI k))] [] := by
  intro m
  induction m with
  | zero =>
    intro k s hm  hx
    obtain rfl : k = w := by omega
    refine xv_il4 fX7_minutesLate_22 ?_
    refine xv_al0 fX7_minutesLate_24 ?_
    refine xv_getI fX7_minutesLate_25 gX7_18 rfl (sx_41 _ _) ?_
    rw [hc]
    refine xv_ic_ge fX7_minutesLate_28 (fun h_28 => ?_) (fun h_28 => ?_)
    · exact hx
    · exact absurd (nI_le (Nat.le_refl _) (by omega)) h_28
  | succ m ih =>
    intro k s hm  hx
    have hk : k < w := by omega
    show xv_W mX7_minutesLate 1 0 0 _ 0 0 (sx n c) I (rx c) J 22 [some (.ref 41), some (.int (nI b)), some (.int x), some (.int s), some (.int (nI k))] []
    refine xv_il4 fX7_minutesLate_22 ?_
    refine xv_al0 fX7_minutesLate_24 ?_
    refine xv_getI fX7_minutesLate_25 gX7_18 rfl (sx_41 _ _) ?_
    rw [hc]
    refine xv_ic_ge fX7_minutesLate_28 (fun h_28 => ?_) (fun h_28 => ?_)
    · exact absurd h_28 (nI_ge hk (by omega))
    · refine xv_il4 fX7_minutesLate_31 ?_
      refine xv_k fX7_minutesLate_33 ?_
      refine xv_ic_ge fX7_minutesLate_35 (fun h_35 => ?_) (fun h_35 => ?_)
      · exact absurd h_35 (nI_ge (by omega) (by decide))
      · refine xv_al0 fX7_minutesLate_38 ?_
        refine xv_il4 fX7_minutesLate_39 ?_
        refine xv_il1 fX7_minutesLate_41 ?_
        refine xv_callV2R (c_isAhead n c I J (by omega) hb) fX7_minutesLate_42 YX7_isAhead VX7_isAhead lX7_22 rfl rfl (sx_41 _ _) (Nat.le_of_ble_eq_true rfl) (by decide) (by decide) (by decide) ?_
        refine xv_if_eq fX7_minutesLate_45 (fun h_45 => ?_) (fun h_45 => ?_)
        · refine xv_iincN4 (a := 1) fX7_minutesLate_58 (by decide) ?_
          refine xv_goto fX7_minutesLate_61 ?_
          exact ih (k + 1) _ (by omega) (by rw [show it (xNeed1 I b) (m + 1) k s = it (xNeed1 I b) m (k + 1) (xNeed1 I b k s) from rfl, xNeed1, iteP_f (bi_0 h_45)] at hx; exact hx)
        · refine xv_il3 fX7_minutesLate_48 ?_
          refine xv_al0 fX7_minutesLate_49 ?_
          refine xv_getR fX7_minutesLate_50 gX7_15 rfl (sx_41 _ _) (rx_41_1 _) ?_
          refine xv_il4 fX7_minutesLate_53 ?_
          refine xv_ialdN fX7_minutesLate_55 (sx_43 _ _) (⟨by omega, by decide⟩) ?_
          refine xv_iadd fX7_minutesLate_56 ?_
          refine xv_is3 fX7_minutesLate_57 ?_
          refine xv_iincN4 (a := 1) fX7_minutesLate_58 (by decide) ?_
          refine xv_goto fX7_minutesLate_61 ?_
          exact ih (k + 1) _ (by omega) (by rw [show it (xNeed1 I b) (m + 1) k s = it (xNeed1 I b) m (k + 1) (xNeed1 I b k s) from rfl, xNeed1, iteP_t (bi_1 h_45)] at hx; exact hx)

theorem c_late0 (n : Nat) (c : Nat × Nat) (I : xv_I) (J : xv_J) {w : Nat} (hw : w ≤ 6) (hc : I 41 2 = nI w) {b : Nat} {x : Int32} (hb : b < 6) : xv_Met mX7_minutesLate 1 0 0 (sx n c) I (rx c) J [.ref 41, .int (nI b), .int x] (xv_eq (.inl (some (.int (xLate I w b x)))) (sx n c) (I) (rx c) J) := by
  refine xv_Met.of (by decide +kernel) (Nat.le_of_ble_eq_true rfl) (List.forall_mem_cons.mpr ⟨rfl, List.forall_mem_cons.mpr ⟨rfl, List.forall_mem_cons.mpr ⟨rfl, fun _ h => nomatch h⟩⟩⟩) ?_
  show xv_W mX7_minutesLate 1 0 0 _ 0 0 (sx n c) I (rx c) J 0 [some (.ref 41), some (.int (nI b)), some (.int x), none, none] []
  refine xv_il1 fX7_minutesLate_0 ?_
  refine xv_if_lt fX7_minutesLate_1 (fun h_1 => ?_) (fun h_1 => ?_)
  · exact absurd h_1 (nI_pos (by omega))
  · refine xv_il1 fX7_minutesLate_4 ?_
    refine xv_k fX7_minutesLate_5 ?_
    refine xv_ic_lt fX7_minutesLate_7 (fun h_7 => ?_) (fun h_7 => ?_)
    · refine xv_al0 fX7_minutesLate_12 ?_
      refine xv_getR fX7_minutesLate_13 gX7_15 rfl (sx_41 _ _) (rx_41_1 _) ?_
      refine xv_il1 fX7_minutesLate_16 ?_
      refine xv_ialdN fX7_minutesLate_17 (sx_43 _ _) (⟨hb, by decide⟩) ?_
      refine xv_is3 fX7_minutesLate_18 ?_
      refine xv_k fX7_minutesLate_19 ?_
      refine xv_is4 fX7_minutesLate_20 ?_
      refine l_late n c I J hw hc hb w 0 _ (by omega) ?_
      refine xv_il2 fX7_minutesLate_64 ?_
      refine xv_il3 fX7_minutesLate_65 ?_
      refine xv_k fX7_minutesLate_66 ?_
      refine xv_iadd fX7_minutesLate_68 ?_
      refine xv_k fX7_minutesLate_69 ?_
      refine xv_isub fX7_minutesLate_70 ?_
      refine xv_k fX7_minutesLate_71 ?_
      refine xv_idiv fX7_minutesLate_73 (by decide) ?_
      refine xv_iadd fX7_minutesLate_74 ?_
      refine xv_is4 fX7_minutesLate_75 ?_
      refine xv_k fX7_minutesLate_77 ?_
      refine xv_il4 fX7_minutesLate_78 ?_
      refine xv_al0 fX7_minutesLate_80 ?_
      refine xv_getR fX7_minutesLate_81 gX7_9 rfl (sx_41 _ _) (rx_41_0 _) ?_
      refine xv_il1 fX7_minutesLate_84 ?_
      refine xv_ialdN fX7_minutesLate_85 (sx_42 _ _) (⟨hb, by decide⟩) ?_
      refine xv_isub fX7_minutesLate_86 ?_
      refine xv_max fX7_minutesLate_87 lmX7_26 xv_maxw (by decide) (Nat.le_of_ble_eq_true rfl) ?_
      exact xv_iret fX7_minutesLate_90 rfl rfl (xv_eq_I rfl rfl)
    · exact absurd (nI_lt hb (by decide)) h_7

def xWid1 (I : xv_I) (s k : Nat) (a : Int32) : Int32 := if nI s >>> (nI k &&& 31) &&& nI 1 = nI 1 then a + I 45 k else a + I 46 k
def xWid (I : xv_I) (w s : Nat) : Int32 := it (xWid1 I s) w 0 (nI w - nI 1)
theorem l_width (n : Nat) (c : Nat × Nat) (I : xv_I) (J : xv_J) {w : Nat} (hw : w ≤ 5) (hc : I 44 2 = nI w) {s : Nat} {Q : xv_Q} : ∀ (m k : Nat) (a : Int32), k + m = w → xv_W mX2_widthOf 0 0 0 Q 0 0 (sx n c) I (rx c) J 55 [some (.ref 44), some (.int (nI s)), some (.int (it (xWid1 I s) m k a)), some (.int (nI w))] [] → xv_W mX2_widthOf 0 0 0 Q 0 0 (sx n c) I (rx c) J 9 [some (.ref 44), some (.int (nI s)), some (.int a), some (.int (nI k))] [] := by
  intro m
  induction m with
  | zero =>
    intro k a hm  hx
    obtain rfl : k = w := by omega
    refine xv_il3 fX2_widthOf_9 ?_
    refine xv_al0 fX2_widthOf_10 ?_
    refine xv_getI fX2_widthOf_11 gX2_18 rfl (sx_44 _ _) ?_
    rw [hc]
    refine xv_ic_ge fX2_widthOf_14 (fun h_14 => ?_) (fun h_14 => ?_)
    · exact hx
    · exact absurd (nI_le (Nat.le_refl _) (by omega)) h_14
  | succ m ih =>
    intro k a hm  hx
    have hk : k < w := by omega
    show xv_W mX2_widthOf 0 0 0 _ 0 0 (sx n c) I (rx c) J 9 [some (.ref 44), some (.int (nI s)), some (.int a), some (.int (nI k))] []
    refine xv_il3 fX2_widthOf_9 ?_
    refine xv_al0 fX2_widthOf_10 ?_
    refine xv_getI fX2_widthOf_11 gX2_18 rfl (sx_44 _ _) ?_
    rw [hc]
    refine xv_ic_ge fX2_widthOf_14 (fun h_14 => ?_) (fun h_14 => ?_)
    · exact absurd h_14 (nI_ge hk (by omega))
    · refine xv_il3 fX2_widthOf_17 ?_
      refine xv_k fX2_widthOf_18 ?_
      refine xv_ic_ge fX2_widthOf_19 (fun h_19 => ?_) (fun h_19 => ?_)
      · exact absurd h_19 (nI_ge (by omega) (by decide))
      · refine xv_il2 fX2_widthOf_22 ?_
        refine xv_il1 fX2_widthOf_23 ?_
        refine xv_il3 fX2_widthOf_24 ?_
        refine xv_ishr fX2_widthOf_25 ?_
        refine xv_k fX2_widthOf_26 ?_
        refine xv_iand fX2_widthOf_27 ?_
        refine xv_k fX2_widthOf_28 ?_
        refine xv_ic_ne fX2_widthOf_29 (fun h_29 => ?_) (fun h_29 => ?_)
        · refine xv_al0 fX2_widthOf_41 ?_
          refine xv_getR fX2_widthOf_42 gX2_15 rfl (sx_44 _ _) (rx_44_1 _) ?_
          refine xv_il3 fX2_widthOf_45 ?_
          refine xv_ialdN fX2_widthOf_46 (sx_46 _ _) (⟨by omega, by decide⟩) ?_
          refine xv_iadd fX2_widthOf_47 ?_
          refine xv_is2 fX2_widthOf_48 ?_
          refine xv_iincN3 (a := 1) fX2_widthOf_49 (by decide) ?_
          refine xv_goto fX2_widthOf_52 ?_
          exact ih (k + 1) _ (by omega) (by rw [show it (xWid1 I s) (m + 1) k a = it (xWid1 I s) m (k + 1) (xWid1 I s k a) from rfl, xWid1, if_neg h_29] at hx; exact hx)
        · refine xv_al0 fX2_widthOf_32 ?_
          refine xv_getR fX2_widthOf_33 gX2_9 rfl (sx_44 _ _) (rx_44_0 _) ?_
          refine xv_il3 fX2_widthOf_36 ?_
          refine xv_ialdN fX2_widthOf_37 (sx_45 _ _) (⟨by omega, by decide⟩) ?_
          refine xv_goto fX2_widthOf_38 ?_
          refine xv_iadd fX2_widthOf_47 ?_
          refine xv_is2 fX2_widthOf_48 ?_
          refine xv_iincN3 (a := 1) fX2_widthOf_49 (by decide) ?_
          refine xv_goto fX2_widthOf_52 ?_
          exact ih (k + 1) _ (by omega) (by rw [show it (xWid1 I s) (m + 1) k a = it (xWid1 I s) m (k + 1) (xWid1 I s k a) from rfl, xWid1, if_pos h_29] at hx; exact hx)

theorem c_width (n : Nat) (c : Nat × Nat) (I : xv_I) (J : xv_J) {w : Nat} (hw : w ≤ 5) (hc : I 44 2 = nI w) {s : Nat} : xv_Met mX2_widthOf 0 0 0 (sx n c) I (rx c) J [.ref 44, .int (nI s)] (xv_eq (.inl (some (.int (xWid I w s)))) (sx n c) (I) (rx c) J) := by
  refine xv_Met.of (by decide +kernel) (Nat.le_of_ble_eq_true rfl) (List.forall_mem_cons.mpr ⟨rfl, List.forall_mem_cons.mpr ⟨rfl, fun _ h => nomatch h⟩⟩) ?_
  show xv_W mX2_widthOf 0 0 0 _ 0 0 (sx n c) I (rx c) J 0 [some (.ref 44), some (.int (nI s)), none, none] []
  refine xv_al0 fX2_widthOf_0 ?_
  refine xv_getI fX2_widthOf_1 gX2_18 rfl (sx_44 _ _) ?_
  rw [hc]
  refine xv_k fX2_widthOf_4 ?_
  refine xv_isub fX2_widthOf_5 ?_
  refine xv_is2 fX2_widthOf_6 ?_
  refine xv_k fX2_widthOf_7 ?_
  refine xv_is3 fX2_widthOf_8 ?_
  exact l_width n c I J hw hc w 0 _ (by omega) (by exact xv_il2 fX2_widthOf_55 (xv_iret fX2_widthOf_56 rfl rfl (xv_eq_I rfl rfl)))

def xLF (x y : Int32) : Prop := ¬ x &&& (x ^^^ y) &&& -(x ^^^ y) = 0
theorem c_longFirst (n : Nat) (c : Nat × Nat) (I : xv_I) (J : xv_J) (x y : Int32) : xv_Met mX2_isLongFirst 0 0 0 (sx n c) I (rx c) J [.int x, .int y] (xv_eq (.inl (some (.int (bi (xLF x y))))) (sx n c) (I) (rx c) J) := by
  refine xv_Met.of (by decide +kernel) (Nat.le_of_ble_eq_true rfl) (List.forall_mem_cons.mpr ⟨rfl, List.forall_mem_cons.mpr ⟨rfl, fun _ h => nomatch h⟩⟩) ?_
  show xv_W mX2_isLongFirst 0 0 0 _ 0 0 (sx n c) I (rx c) J 0 [some (.int x), some (.int y), none] []
  refine xv_il0 fX2_isLongFirst_0 ?_
  refine xv_il1 fX2_isLongFirst_1 ?_
  refine xv_ixor fX2_isLongFirst_2 ?_
  refine xv_is2 fX2_isLongFirst_3 ?_
  refine xv_il0 fX2_isLongFirst_4 ?_
  refine xv_il2 fX2_isLongFirst_5 ?_
  refine xv_iand fX2_isLongFirst_6 ?_
  refine xv_il2 fX2_isLongFirst_7 ?_
  refine xv_ineg fX2_isLongFirst_8 ?_
  refine xv_iand fX2_isLongFirst_9 ?_
  refine xv_if_eq fX2_isLongFirst_10 (fun h_10 => ?_) (fun h_10 => ?_)
  · refine xv_k fX2_isLongFirst_17 ?_
    exact xv_iret fX2_isLongFirst_18 rfl (by decide) (xv_eq_I (by rw [bi_f (show ¬ xLF x y from fun h => h h_10)]) rfl)
  · refine xv_k fX2_isLongFirst_13 ?_
    refine xv_goto fX2_isLongFirst_14 ?_
    exact xv_iret fX2_isLongFirst_18 rfl (by decide) (xv_eq_I (by rw [bi_t (show xLF x y from h_10)]) rfl)

noncomputable def xBW1 (I : xv_I) (w : Nat) (x : Int32) (s : Nat) (b : Int32 × Int32) : Int32 × Int32 := if x < xWid I w s then b else if xWid I w s < b.2 then b else iteP (b.2 < xWid I w s ∨ xLF (nI s) b.1) (nI s, xWid I w s) b
noncomputable def xBW (I : xv_I) (w : Nat) (x : Int32) : Int32 × Int32 := it (xBW1 I w x) (2 ^ w) 0 (-1, -1)
noncomputable def xFit (I : xv_I) (w : Nat) (x : Int32) : Int32 := if (xBW I w x).2 = -1 then -1 else nI 100 * (xBW I w x).2 + (xBW I w x).1
theorem fa_lt_nle {a b : Int32} (h : a < b) : ¬ b ≤ a := fun q => by
  rw [fa_le] at q
  rw [fa_lt] at h
  omega
theorem pw31 {w : Nat} (hw : w ≤ 5) : 2 ^ w < 2 ^ 31 := Nat.pow_lt_pow_right (by decide) (by omega)
theorem l_best (n : Nat) (c : Nat × Nat) (I : xv_I) (J : xv_J) {w : Nat} (hw : w ≤ 5) (hc : I 44 2 = nI w) {x : Int32} {Q : xv_Q} : ∀ (m k : Nat) (b : Int32 × Int32) (l5 : Option Value), k + m = 2 ^ w → (∀ l5, xv_W mX2_bestWithin 1 0 0 Q 0 0 (sx n c) I (rx c) J 68 (some (.ref 44) :: some (.int x) :: some (.int (it (xBW1 I w x) m k b).1) :: some (.int (it (xBW1 I w x) m k b).2) :: some (.int (nI (2 ^ w))) :: l5 :: []) []) → xv_W mX2_bestWithin 1 0 0 Q 0 0 (sx n c) I (rx c) J 7 (some (.ref 44) :: some (.int x) :: some (.int b.1) :: some (.int b.2) :: some (.int (nI k)) :: l5 :: []) [] := by
  intro m
  induction m with
  | zero =>
    intro k b l5 hm i0
    obtain rfl : k = 2 ^ w := by omega
    refine xv_il4 fX2_bestWithin_7 ?_
    refine xv_k fX2_bestWithin_9 ?_
    refine xv_al0 fX2_bestWithin_10 ?_
    refine xv_getI fX2_bestWithin_11 gX2_18 rfl (sx_44 _ _) ?_
    rw [hc]
    refine xv_ishl fX2_bestWithin_14 ?_
    rw [sh1 _ (by omega)]
    refine xv_ic_ge fX2_bestWithin_15 (fun h_15 => ?_) (fun h_15 => ?_)
    · exact i0 _
    · exact absurd (nI_le (Nat.le_refl _) (pw31 hw)) h_15
  | succ m ih =>
    intro k b l5 hm i0
    have hk : k < 2 ^ w := by omega
    show xv_W mX2_bestWithin 1 0 0 _ 0 0 (sx n c) I (rx c) J 7 (some (.ref 44) :: some (.int x) :: some (.int b.1) :: some (.int b.2) :: some (.int (nI k)) :: l5 :: []) []
    refine xv_il4 fX2_bestWithin_7 ?_
    refine xv_k fX2_bestWithin_9 ?_
    refine xv_al0 fX2_bestWithin_10 ?_
    refine xv_getI fX2_bestWithin_11 gX2_18 rfl (sx_44 _ _) ?_
    rw [hc]
    refine xv_ishl fX2_bestWithin_14 ?_
    rw [sh1 _ (by omega)]
    refine xv_ic_ge fX2_bestWithin_15 (fun h_15 => ?_) (fun h_15 => ?_)
    · exact absurd h_15 (nI_ge hk (pw31 hw))
    · refine xv_al0 fX2_bestWithin_18 ?_
      refine xv_il4 fX2_bestWithin_19 ?_
      refine xv_callV1R (c_width n c I J hw hc) fX2_bestWithin_21 YX2_widthOf VX2_widthOf lX2_22 rfl rfl (sx_44 _ _) (Nat.le_of_ble_eq_true rfl) (by decide) (by decide) (by decide) ?_
      refine xv_is5 fX2_bestWithin_24 ?_
      refine xv_il5 fX2_bestWithin_26 ?_
      refine xv_il1 fX2_bestWithin_28 ?_
      refine xv_ic_gt fX2_bestWithin_29 (fun h_29 => ?_) (fun h_29 => ?_)
      · refine xv_iincN4 (a := 1) fX2_bestWithin_62 (by decide) ?_
        refine xv_goto fX2_bestWithin_65 ?_
        exact ih (k + 1) b _ (by omega) (by rw [show it (xBW1 I w x) (m + 1) k b = it (xBW1 I w x) m (k + 1) (xBW1 I w x k b) from rfl, xBW1, if_pos h_29] at i0; exact i0)
      · refine xv_il5 fX2_bestWithin_32 ?_
        refine xv_il3 fX2_bestWithin_34 ?_
        refine xv_ic_ge fX2_bestWithin_35 (fun h_35 => ?_) (fun h_35 => ?_)
        · refine xv_il5 fX2_bestWithin_41 ?_
          refine xv_il3 fX2_bestWithin_43 ?_
          refine xv_ic_gt fX2_bestWithin_44 (fun h_44 => ?_) (fun h_44 => ?_)
          · refine xv_il4 fX2_bestWithin_56 ?_
            refine xv_is2 fX2_bestWithin_58 ?_
            refine xv_il5 fX2_bestWithin_59 ?_
            refine xv_is3 fX2_bestWithin_61 ?_
            refine xv_iincN4 (a := 1) fX2_bestWithin_62 (by decide) ?_
            refine xv_goto fX2_bestWithin_65 ?_
            exact ih (k + 1) (nI k, xWid I w k) _ (by omega) (by rw [show it (xBW1 I w x) (m + 1) k b = it (xBW1 I w x) m (k + 1) (xBW1 I w x k b) from rfl, xBW1, if_neg h_29, if_neg (fun q => absurd h_35 (fa_lt_nle q)), iteP_t (Or.inl h_44)] at i0; exact i0)
          · refine xv_il4 fX2_bestWithin_47 ?_
            refine xv_il2 fX2_bestWithin_49 ?_
            refine xv_callS2R (c_longFirst n c I J _ _) fX2_bestWithin_50 YX2_isLongFirst VX2_isLongFirst lX2_26 rfl (Nat.le_of_ble_eq_true rfl) (by decide) (by decide) (by decide) ?_
            refine xv_if_eq fX2_bestWithin_53 (fun h_53 => ?_) (fun h_53 => ?_)
            · refine xv_iincN4 (a := 1) fX2_bestWithin_62 (by decide) ?_
              refine xv_goto fX2_bestWithin_65 ?_
              exact ih (k + 1) b _ (by omega) (by rw [show it (xBW1 I w x) (m + 1) k b = it (xBW1 I w x) m (k + 1) (xBW1 I w x k b) from rfl, xBW1, if_neg h_29, if_neg (fun q => absurd h_35 (fa_lt_nle q)), iteP_f (fun h => h.elim h_44 (bi_0 h_53))] at i0; exact i0)
            · refine xv_il4 fX2_bestWithin_56 ?_
              refine xv_is2 fX2_bestWithin_58 ?_
              refine xv_il5 fX2_bestWithin_59 ?_
              refine xv_is3 fX2_bestWithin_61 ?_
              refine xv_iincN4 (a := 1) fX2_bestWithin_62 (by decide) ?_
              refine xv_goto fX2_bestWithin_65 ?_
              exact ih (k + 1) (nI k, xWid I w k) _ (by omega) (by rw [show it (xBW1 I w x) (m + 1) k b = it (xBW1 I w x) m (k + 1) (xBW1 I w x k b) from rfl, xBW1, if_neg h_29, if_neg (fun q => absurd h_35 (fa_lt_nle q)), iteP_t (Or.inr (bi_1 h_53))] at i0; exact i0)
        · refine xv_goto fX2_bestWithin_38 ?_
          refine xv_iincN4 (a := 1) fX2_bestWithin_62 (by decide) ?_
          refine xv_goto fX2_bestWithin_65 ?_
          exact ih (k + 1) b _ (by omega) (by rw [show it (xBW1 I w x) (m + 1) k b = it (xBW1 I w x) m (k + 1) (xBW1 I w x k b) from rfl, xBW1, if_neg h_29, if_pos (fa_of_nle h_35)] at i0; exact i0)

theorem c_best (n : Nat) (c : Nat × Nat) (I : xv_I) (J : xv_J) {w : Nat} (hw : w ≤ 5) (hc : I 44 2 = nI w) {x : Int32} : xv_Met mX2_bestWithin 1 0 0 (sx n c) I (rx c) J [.ref 44, .int x] (xv_eq (.inl (some (.int (xFit I w x)))) (sx n c) (I) (rx c) J) := by
  refine xv_Met.of (by decide +kernel) (Nat.le_of_ble_eq_true rfl) (List.forall_mem_cons.mpr ⟨rfl, List.forall_mem_cons.mpr ⟨rfl, fun _ h => nomatch h⟩⟩) ?_
  show xv_W mX2_bestWithin 1 0 0 _ 0 0 (sx n c) I (rx c) J 0 [some (.ref 44), some (.int x), none, none, none, none] []
  refine xv_k fX2_bestWithin_0 ?_
  refine xv_is2 fX2_bestWithin_1 ?_
  refine xv_k fX2_bestWithin_2 ?_
  refine xv_is3 fX2_bestWithin_3 ?_
  refine xv_k fX2_bestWithin_4 ?_
  refine xv_is4 fX2_bestWithin_5 ?_
  refine l_best n c I J hw hc (2 ^ w) 0 (-1, -1) _ (by omega) (fun l5 => ?_)
  show xv_W mX2_bestWithin 1 0 0 _ 0 0 (sx n c) I (rx c) J 68 (some (.ref 44) :: some (.int x) :: some (.int (xBW I w x).1) :: some (.int (xBW I w x).2) :: some (.int (nI (2 ^ w))) :: l5 :: []) []
  refine xv_il3 fX2_bestWithin_68 ?_
  refine xv_k fX2_bestWithin_69 ?_
  refine xv_ic_ne fX2_bestWithin_70 (fun h_70 => ?_) (fun h_70 => ?_)
  · refine xv_k fX2_bestWithin_77 ?_
    refine xv_il3 fX2_bestWithin_79 ?_
    refine xv_imul fX2_bestWithin_80 ?_
    refine xv_il2 fX2_bestWithin_81 ?_
    refine xv_iadd fX2_bestWithin_82 ?_
    exact xv_iret fX2_bestWithin_83 rfl rfl (xv_eq_I (by rw [xFit, if_neg h_70]) rfl)
  · refine xv_k fX2_bestWithin_73 ?_
    refine xv_goto fX2_bestWithin_74 ?_
    exact xv_iret fX2_bestWithin_83 rfl rfl (xv_eq_I (by rw [xFit, if_pos h_70]) rfl)

abbrev xAlike (I : xv_I) (x : Int32) (k : Nat) : Prop := ¬ xBC (I 49 k &&& x) < nI 3 ∧ ¬ nI 2 * xBC (I 49 k &&& x) < xBC (I 49 k ||| x)
theorem l_alike (n : Nat) (c : Nat × Nat) (I : xv_I) (J : xv_J) {w : Nat} (hw : w ≤ 12) (hc : I 48 2 = nI w) {x : Int32} : ∀ (m k : Nat) (l3 : Option Value), k + m = w → (∀ j, j < k → ¬ xAlike I x j) → xv_W mX9_firstAlike 1 0 0 (xv_eq (.inl (some (.int (fsP (xAlike I x) w)))) (sx n c) (I) (rx c) J) 0 0 (sx n c) I (rx c) J 2 (some (.ref 48) :: some (.int x) :: some (.int (nI k)) :: l3 :: []) [] := by
  intro m
  induction m with
  | zero =>
    intro k l3 hm i0
    obtain rfl : k = w := by omega
    refine xv_il2 fX9_firstAlike_2 ?_
    refine xv_al0 fX9_firstAlike_3 ?_
    refine xv_getI fX9_firstAlike_4 gX9_18 rfl (sx_48 _ _) ?_
    rw [hc]
    refine xv_ic_ge fX9_firstAlike_7 (fun h_7 => ?_) (fun h_7 => ?_)
    · refine xv_k fX9_firstAlike_58 ?_
      exact xv_iret fX9_firstAlike_59 rfl rfl (xv_eq_I (by rw [fsP_no i0]) rfl)
    · exact absurd (nI_le (Nat.le_refl _) (by omega)) h_7
  | succ m ih =>
    intro k l3 hm i0
    have hk : k < w := by omega
    show xv_W mX9_firstAlike 1 0 0 _ 0 0 (sx n c) I (rx c) J 2 (some (.ref 48) :: some (.int x) :: some (.int (nI k)) :: l3 :: []) []
    refine xv_il2 fX9_firstAlike_2 ?_
    refine xv_al0 fX9_firstAlike_3 ?_
    refine xv_getI fX9_firstAlike_4 gX9_18 rfl (sx_48 _ _) ?_
    rw [hc]
    refine xv_ic_ge fX9_firstAlike_7 (fun h_7 => ?_) (fun h_7 => ?_)
    · exact absurd h_7 (nI_ge hk (by omega))
    · refine xv_il2 fX9_firstAlike_10 ?_
      refine xv_k fX9_firstAlike_11 ?_
      refine xv_ic_ge fX9_firstAlike_13 (fun h_13 => ?_) (fun h_13 => ?_)
      · exact absurd h_13 (nI_ge (by omega) (by decide))
      · refine xv_al0 fX9_firstAlike_16 ?_
        refine xv_getR fX9_firstAlike_17 gX9_9 rfl (sx_48 _ _) (rx_48_0 _) ?_
        refine xv_il2 fX9_firstAlike_20 ?_
        refine xv_ialdN fX9_firstAlike_21 (sx_49 _ _) (⟨by omega, by decide⟩) ?_
        refine xv_il1 fX9_firstAlike_22 ?_
        refine xv_iand fX9_firstAlike_23 ?_
        refine xv_callS1R (c_bc n c _ J (_)) fX9_firstAlike_24 YJ6_bitCount_0f7a4 VJ6_bitCount_0f7a4 lX9_22 rfl (Nat.le_of_ble_eq_true rfl) (by decide) (by decide) (by decide) ?_
        refine xv_is3 fX9_firstAlike_27 ?_
        refine xv_il3 fX9_firstAlike_28 ?_
        refine xv_k fX9_firstAlike_29 ?_
        refine xv_ic_lt fX9_firstAlike_30 (fun h_30 => ?_) (fun h_30 => ?_)
        · refine xv_iincN2 (a := 1) fX9_firstAlike_52 (by decide) ?_
          refine xv_goto fX9_firstAlike_55 ?_
          exact ih (k + 1) _ (by omega) (lt_or i0 (fun h => h.1 h_30))
        · refine xv_k fX9_firstAlike_33 ?_
          refine xv_il3 fX9_firstAlike_34 ?_
          refine xv_imul fX9_firstAlike_35 ?_
          refine xv_al0 fX9_firstAlike_36 ?_
          refine xv_getR fX9_firstAlike_37 gX9_9 rfl (sx_48 _ _) (rx_48_0 _) ?_
          refine xv_il2 fX9_firstAlike_40 ?_
          refine xv_ialdN fX9_firstAlike_41 (sx_49 _ _) (⟨by omega, by decide⟩) ?_
          refine xv_il1 fX9_firstAlike_42 ?_
          refine xv_ior fX9_firstAlike_43 ?_
          refine xv_callS1R (c_bc n c _ J (_)) fX9_firstAlike_44 YJ6_bitCount_0f7a4 VJ6_bitCount_0f7a4 lX9_22 rfl (Nat.le_of_ble_eq_true rfl) (by decide) (by decide) (by decide) ?_
          refine xv_ic_lt fX9_firstAlike_47 (fun h_47 => ?_) (fun h_47 => ?_)
          · refine xv_iincN2 (a := 1) fX9_firstAlike_52 (by decide) ?_
            refine xv_goto fX9_firstAlike_55 ?_
            exact ih (k + 1) _ (by omega) (lt_or i0 (fun h => h.2 h_47))
          · refine xv_il2 fX9_firstAlike_50 ?_
            exact xv_iret fX9_firstAlike_51 rfl rfl (xv_eq_I (by rw [fsP_eq i0 ⟨h_30, h_47⟩ hk]) rfl)

theorem c_alike (n : Nat) (c : Nat × Nat) (I : xv_I) (J : xv_J) {w : Nat} (hw : w ≤ 12) (hc : I 48 2 = nI w) {x : Int32} : xv_Met mX9_firstAlike 1 0 0 (sx n c) I (rx c) J [.ref 48, .int x] (xv_eq (.inl (some (.int (fsP (xAlike I x) w)))) (sx n c) (I) (rx c) J) := by
  refine xv_Met.of (by decide +kernel) (Nat.le_of_ble_eq_true rfl) (List.forall_mem_cons.mpr ⟨rfl, List.forall_mem_cons.mpr ⟨rfl, fun _ h => nomatch h⟩⟩) ?_
  show xv_W mX9_firstAlike 1 0 0 _ 0 0 (sx n c) I (rx c) J 0 [some (.ref 48), some (.int x), none, none] []
  refine xv_k fX9_firstAlike_0 ?_
  refine xv_is2 fX9_firstAlike_1 ?_
  exact l_alike n c I J hw hc w 0 none (by omega) lt_no

def xMerge (i : Nat) (x y : Int32) (I : xv_I) : xv_I := xv_u (xv_u I 49 i (I 49 i ||| x)) 50 i (if I 50 i < y then y else I 50 i)
theorem c_merge (n : Nat) (c : Nat × Nat) (I : xv_I) (J : xv_J) {i : Nat} {x y : Int32} (hi : i < 12) : xv_Met mX9_merge 1 0 0 (sx n c) I (rx c) J [.ref 48, .int (nI i), .int x, .int y] (xv_eq (.inl none) (sx n c) (xMerge i x y I) (rx c) J) := by
  refine xv_Met.of (by decide +kernel) (Nat.le_of_ble_eq_true rfl) (List.forall_mem_cons.mpr ⟨rfl, List.forall_mem_cons.mpr ⟨rfl, List.forall_mem_cons.mpr ⟨rfl, List.forall_mem_cons.mpr ⟨rfl, fun _ h => nomatch h⟩⟩⟩⟩) ?_
  show xv_W mX9_merge 1 0 0 _ 0 0 (sx n c) I (rx c) J 0 [some (.ref 48), some (.int (nI i)), some (.int x), some (.int y)] []
  refine xv_il1 fX9_merge_0 ?_
  refine xv_if_lt fX9_merge_1 (fun h_1 => ?_) (fun h_1 => ?_)
  · exact absurd h_1 (nI_pos (by omega))
  · refine xv_il1 fX9_merge_4 ?_
    refine xv_k fX9_merge_5 ?_
    refine xv_ic_ge fX9_merge_7 (fun h_7 => ?_) (fun h_7 => ?_)
    · exact absurd h_7 (nI_ge hi (by decide))
    · refine xv_al0 fX9_merge_10 ?_
      refine xv_getR fX9_merge_11 gX9_9 rfl (sx_48 _ _) (rx_48_0 _) ?_
      refine xv_il1 fX9_merge_14 ?_
      refine xv_dup2 fX9_merge_15 ?_
      refine xv_ialdN fX9_merge_16 (sx_49 _ _) (⟨hi, by decide⟩) ?_
      refine xv_il2 fX9_merge_17 ?_
      refine xv_ior fX9_merge_18 ?_
      refine xv_iastN fX9_merge_19 (sx_49 _ _) (⟨hi, by decide⟩) ?_
      refine xv_al0 fX9_merge_20 ?_
      refine xv_getR fX9_merge_21 gX9_15 rfl (sx_48 _ _) (rx_48_1 _) ?_
      refine xv_il1 fX9_merge_24 ?_
      refine xv_al0 fX9_merge_25 ?_
      refine xv_getR fX9_merge_26 gX9_15 rfl (sx_48 _ _) (rx_48_1 _) ?_
      refine xv_il1 fX9_merge_29 ?_
      refine xv_ialdN fX9_merge_30 (sx_50 _ _) (⟨hi, by decide⟩) ?_
      rw [xv_u_ne _ _ _ (by decide)]
      refine xv_il3 fX9_merge_31 ?_
      refine xv_max fX9_merge_32 lmX9_28 xv_maxw (by decide) (Nat.le_of_ble_eq_true rfl) ?_
      refine xv_iastN fX9_merge_35 (sx_50 _ _) (⟨hi, by decide⟩) ?_
      exact xv_vret fX9_merge_36 rfl (xv_eq_I rfl rfl)

def xUrg1 (I : xv_I) (k b : Nat) : Nat := if I 50 k ≤ I 50 b then b else k
def xUrg (I : xv_I) (w : Nat) : Nat := it (xUrg1 I) (w - 1) 1 0
theorem xUrg_lt {I : xv_I} {w : Nat} : ∀ (m k b : Nat), b < k → k + m ≤ w → 0 < w → it (xUrg1 I) m k b < w
  | 0, k, b, h1, h2, h3 => by show b < w; omega
  | m + 1, k, b, h1, h2, h3 => by
    refine xUrg_lt m (k + 1) (xUrg1 I k b) ?_ (by omega) h3
    unfold xUrg1
    split <;> omega
theorem l_urgent (n : Nat) (c : Nat × Nat) (I : xv_I) (J : xv_J) {w : Nat} (hw : w ≤ 12) (hc : I 48 2 = nI w) {Q : xv_Q} : ∀ (m k : Nat) (b : Nat), k + m = w → (b < k) → xv_W mX9_mostUrgent 0 0 0 Q 0 0 (sx n c) I (rx c) J 41 [some (.ref 48), some (.int (nI (it (xUrg1 I) m k b))), some (.int (nI w))] [] → xv_W mX9_mostUrgent 0 0 0 Q 0 0 (sx n c) I (rx c) J 4 [some (.ref 48), some (.int (nI b)), some (.int (nI k))] [] := by
  intro m
  induction m with
  | zero =>
    intro k b hm i0 hx
    obtain rfl : k = w := by omega
    refine xv_il2 fX9_mostUrgent_4 ?_
    refine xv_al0 fX9_mostUrgent_5 ?_
    refine xv_getI fX9_mostUrgent_6 gX9_18 rfl (sx_48 _ _) ?_
    rw [hc]
    refine xv_ic_ge fX9_mostUrgent_9 (fun h_9 => ?_) (fun h_9 => ?_)
    · exact hx
    · exact absurd (nI_le (Nat.le_refl _) (by omega)) h_9
  | succ m ih =>
    intro k b hm i0 hx
    have hk : k < w := by omega
    show xv_W mX9_mostUrgent 0 0 0 _ 0 0 (sx n c) I (rx c) J 4 [some (.ref 48), some (.int (nI b)), some (.int (nI k))] []
    refine xv_il2 fX9_mostUrgent_4 ?_
    refine xv_al0 fX9_mostUrgent_5 ?_
    refine xv_getI fX9_mostUrgent_6 gX9_18 rfl (sx_48 _ _) ?_
    rw [hc]
    refine xv_ic_ge fX9_mostUrgent_9 (fun h_9 => ?_) (fun h_9 => ?_)
    · exact absurd h_9 (nI_ge hk (by omega))
    · refine xv_il2 fX9_mostUrgent_12 ?_
      refine xv_k fX9_mostUrgent_13 ?_
      refine xv_ic_ge fX9_mostUrgent_15 (fun h_15 => ?_) (fun h_15 => ?_)
      · exact absurd h_15 (nI_ge (by omega) (by decide))
      · refine xv_al0 fX9_mostUrgent_18 ?_
        refine xv_getR fX9_mostUrgent_19 gX9_15 rfl (sx_48 _ _) (rx_48_1 _) ?_
        refine xv_il2 fX9_mostUrgent_22 ?_
        refine xv_ialdN fX9_mostUrgent_23 (sx_50 _ _) (⟨by omega, by decide⟩) ?_
        refine xv_al0 fX9_mostUrgent_24 ?_
        refine xv_getR fX9_mostUrgent_25 gX9_15 rfl (sx_48 _ _) (rx_48_1 _) ?_
        refine xv_il1 fX9_mostUrgent_28 ?_
        refine xv_ialdN fX9_mostUrgent_29 (sx_50 _ _) (⟨by omega, by decide⟩) ?_
        refine xv_ic_le fX9_mostUrgent_30 (fun h_30 => ?_) (fun h_30 => ?_)
        · refine xv_iincN2 (a := 1) fX9_mostUrgent_35 (by decide) ?_
          refine xv_goto fX9_mostUrgent_38 ?_
          exact ih (k + 1) b (by omega) (by omega) (by rw [show it (xUrg1 I) (m + 1) k b = it (xUrg1 I) m (k + 1) (xUrg1 I k b) from rfl, xUrg1, if_pos h_30] at hx; exact hx)
        · refine xv_il2 fX9_mostUrgent_33 ?_
          refine xv_is1 fX9_mostUrgent_34 ?_
          refine xv_iincN2 (a := 1) fX9_mostUrgent_35 (by decide) ?_
          refine xv_goto fX9_mostUrgent_38 ?_
          exact ih (k + 1) k (by omega) (by omega) (by rw [show it (xUrg1 I) (m + 1) k b = it (xUrg1 I) m (k + 1) (xUrg1 I k b) from rfl, xUrg1, if_neg h_30] at hx; exact hx)

theorem c_urgent (n : Nat) (c : Nat × Nat) (I : xv_I) (J : xv_J) {w : Nat} (hw : w ≤ 12) (hc : I 48 2 = nI w) (hw1 : 0 < w) : xv_Met mX9_mostUrgent 0 0 0 (sx n c) I (rx c) J [.ref 48] (xv_eq (.inl (some (.int (nI (xUrg I w))))) (sx n c) (I) (rx c) J) := by
  refine xv_Met.of (by decide +kernel) (Nat.le_of_ble_eq_true rfl) (List.forall_mem_cons.mpr ⟨rfl, fun _ h => nomatch h⟩) ?_
  show xv_W mX9_mostUrgent 0 0 0 _ 0 0 (sx n c) I (rx c) J 0 [some (.ref 48), none, none] []
  refine xv_k fX9_mostUrgent_0 ?_
  refine xv_is1 fX9_mostUrgent_1 ?_
  refine xv_k fX9_mostUrgent_2 ?_
  refine xv_is2 fX9_mostUrgent_3 ?_
  exact l_urgent n c I J hw hc (w - 1) 1 0 (by omega) (by decide) (by exact xv_il1 fX9_mostUrgent_41 (xv_iret fX9_mostUrgent_42 rfl rfl (xv_eq_I rfl rfl)))

def xRem1 (k : Nat) (I : xv_I) : xv_I := xv_u (xv_u I 49 (k - 1) (I 49 k)) 50 (k - 1) (I 50 k)
def xRem (w i : Nat) (I : xv_I) : xv_I := xv_u (it xRem1 (w - (i + 1)) (i + 1) I) 48 2 (nI (w - 1))
theorem xRem1_o {m k : Nat} {I : xv_I} {v : Nat} (j : Nat) (h : v ≠ 49 ∧ v ≠ 50) : it xRem1 m k I v j = I v j := it_inv (fun s : xv_I => s v j = I v j) (fun k s hs => ((xv_u_ne _ _ _ h.2).trans (xv_u_ne _ _ _ h.1)).trans hs) _ _ _ rfl
theorem l_remove (n : Nat) (c : Nat × Nat) (J : xv_J) {w i : Nat} {r : Int32} (hw : w ≤ 12) {Q : xv_Q} : ∀ (m k : Nat) (I : xv_I), k + m = w → (I 48 2 = nI w) → (1 ≤ k) → xv_W mX9_remove 0 0 0 Q 0 0 (sx n c) (it xRem1 m k I) (rx c) J 79 [some (.ref 48), some (.int (nI i)), some (.int r), some (.int (nI w))] [] → xv_W mX9_remove 0 0 0 Q 0 0 (sx n c) I (rx c) J 31 [some (.ref 48), some (.int (nI i)), some (.int r), some (.int (nI k))] [] := by
  intro m
  induction m with
  | zero =>
    intro k I hm i0 i1 hx
    obtain rfl : k = w := by omega
    refine xv_il3 fX9_remove_31 ?_
    refine xv_al0 fX9_remove_32 ?_
    refine xv_getI fX9_remove_33 gX9_18 rfl (sx_48 _ _) ?_
    rw [i0]
    refine xv_ic_ge fX9_remove_36 (fun h_36 => ?_) (fun h_36 => ?_)
    · exact hx
    · exact absurd (nI_le (Nat.le_refl _) (by omega)) h_36
  | succ m ih =>
    intro k I hm i0 i1 hx
    have hk : k < w := by omega
    show xv_W mX9_remove 0 0 0 _ 0 0 (sx n c) I (rx c) J 31 [some (.ref 48), some (.int (nI i)), some (.int r), some (.int (nI k))] []
    refine xv_il3 fX9_remove_31 ?_
    refine xv_al0 fX9_remove_32 ?_
    refine xv_getI fX9_remove_33 gX9_18 rfl (sx_48 _ _) ?_
    rw [i0]
    refine xv_ic_ge fX9_remove_36 (fun h_36 => ?_) (fun h_36 => ?_)
    · exact absurd h_36 (nI_ge hk (by omega))
    · refine xv_il3 fX9_remove_39 ?_
      refine xv_k fX9_remove_40 ?_
      refine xv_ic_ge fX9_remove_42 (fun h_42 => ?_) (fun h_42 => ?_)
      · exact absurd h_42 (nI_ge (by omega) (by decide))
      · refine xv_al0 fX9_remove_45 ?_
        refine xv_getR fX9_remove_46 gX9_9 rfl (sx_48 _ _) (rx_48_0 _) ?_
        refine xv_il3 fX9_remove_49 ?_
        refine xv_k fX9_remove_50 ?_
        refine xv_isub fX9_remove_51 ?_
        rw [nI_sub i1]
        refine xv_al0 fX9_remove_52 ?_
        refine xv_getR fX9_remove_53 gX9_9 rfl (sx_48 _ _) (rx_48_0 _) ?_
        refine xv_il3 fX9_remove_56 ?_
        refine xv_ialdN fX9_remove_57 (sx_49 _ _) (⟨by omega, by decide⟩) ?_
        refine xv_iastN fX9_remove_58 (sx_49 _ _) (⟨by omega, by decide⟩) ?_
        refine xv_al0 fX9_remove_59 ?_
        refine xv_getR fX9_remove_60 gX9_15 rfl (sx_48 _ _) (rx_48_1 _) ?_
        refine xv_il3 fX9_remove_63 ?_
        refine xv_k fX9_remove_64 ?_
        refine xv_isub fX9_remove_65 ?_
        rw [nI_sub i1]
        refine xv_al0 fX9_remove_66 ?_
        refine xv_getR fX9_remove_67 gX9_15 rfl (sx_48 _ _) (rx_48_1 _) ?_
        refine xv_il3 fX9_remove_70 ?_
        refine xv_ialdN fX9_remove_71 (sx_50 _ _) (⟨by omega, by decide⟩) ?_
        rw [xv_u_ne _ _ _ (by decide)]
        refine xv_iastN fX9_remove_72 (sx_50 _ _) (⟨by omega, by decide⟩) ?_
        refine xv_iincN3 (a := 1) fX9_remove_73 (by decide) ?_
        refine xv_goto fX9_remove_76 ?_
        exact ih (k + 1) (xRem1 k I) (by omega) (((xv_u_ne _ _ _ (by decide)).trans (xv_u_ne _ _ _ (by decide))).trans i0) (by omega) hx

theorem c_remove (n : Nat) (c : Nat × Nat) (I : xv_I) (J : xv_J) {w : Nat} (hw : w ≤ 12) (hc : I 48 2 = nI w) {i : Nat} (hi : i < w) : xv_Met mX9_remove 0 0 0 (sx n c) I (rx c) J [.ref 48, .int (nI i)] (xv_eq (.inl (some (.int (I 49 i)))) (sx n c) (xRem w i I) (rx c) J) := by
  refine xv_Met.of (by decide +kernel) (Nat.le_of_ble_eq_true rfl) (List.forall_mem_cons.mpr ⟨rfl, List.forall_mem_cons.mpr ⟨rfl, fun _ h => nomatch h⟩⟩) ?_
  show xv_W mX9_remove 0 0 0 _ 0 0 (sx n c) I (rx c) J 0 [some (.ref 48), some (.int (nI i)), none, none] []
  refine xv_il1 fX9_remove_0 ?_
  refine xv_if_lt fX9_remove_1 (fun h_1 => ?_) (fun h_1 => ?_)
  · exact absurd h_1 (nI_pos (by omega))
  · refine xv_il1 fX9_remove_4 ?_
    refine xv_al0 fX9_remove_5 ?_
    refine xv_getI fX9_remove_6 gX9_18 rfl (sx_48 _ _) ?_
    rw [hc]
    refine xv_ic_ge fX9_remove_9 (fun h_9 => ?_) (fun h_9 => ?_)
    · exact absurd h_9 (nI_ge hi (by omega))
    · refine xv_il1 fX9_remove_12 ?_
      refine xv_k fX9_remove_13 ?_
      refine xv_ic_lt fX9_remove_15 (fun h_15 => ?_) (fun h_15 => ?_)
      · refine xv_al0 fX9_remove_20 ?_
        refine xv_getR fX9_remove_21 gX9_9 rfl (sx_48 _ _) (rx_48_0 _) ?_
        refine xv_il1 fX9_remove_24 ?_
        refine xv_ialdN fX9_remove_25 (sx_49 _ _) (⟨by omega, by decide⟩) ?_
        refine xv_is2 fX9_remove_26 ?_
        refine xv_il1 fX9_remove_27 ?_
        refine xv_k fX9_remove_28 ?_
        refine xv_iadd fX9_remove_29 ?_
        rw [nI_add]
        refine xv_is3 fX9_remove_30 ?_
        refine l_remove n c J hw (w - (i + 1)) (i + 1) _ (by omega) hc (by omega) ?_
        refine xv_al0 fX9_remove_79 ?_
        refine xv_dup_r fX9_remove_80 ?_
        refine xv_getI fX9_remove_81 gX9_18 rfl (sx_48 _ _) ?_
        rw [(xRem1_o _ (by decide)).trans hc]
        refine xv_k fX9_remove_84 ?_
        refine xv_isub fX9_remove_85 ?_
        rw [nI_sub (by omega)]
        refine xv_putI fX9_remove_86 gX9_18 rfl (tp9_2 _) (sx_48 _ _) ⟨rfl, rfl⟩ ?_
        refine xv_il2 fX9_remove_89 ?_
        exact xv_iret fX9_remove_90 rfl rfl (xv_eq_I rfl rfl)
      · exact absurd (nI_lt (by omega) (by decide)) h_15

def xSetRow1 (r : Nat) (x : Int32) (k : Nat) (I : xv_I) : xv_I := xv_u I 52 (4 * r + k) (xDig x 4 k)
def xSetRow (r : Nat) (x : Int32) (I : xv_I) : xv_I := it (xSetRow1 r x) 4 0 I
theorem l_setRow (n : Nat) (c : Nat × Nat) (J : xv_J) {r : Nat} {x : Int32} (hr : r < 4) {Q : xv_Q} : ∀ (m k : Nat) (I : xv_I), k + m = 4 → xv_W mX4_setRow 1 0 0 Q 0 0 (sx n c) (it (xSetRow1 r x) m k I) (rx c) J 39 [some (.ref 51), some (.int (nI r)), some (.int x), some (.int (nI 4))] [] → xv_W mX4_setRow 1 0 0 Q 0 0 (sx n c) I (rx c) J 12 [some (.ref 51), some (.int (nI r)), some (.int x), some (.int (nI k))] [] := by
  intro m
  induction m with
  | zero =>
    intro k I hm  hx
    obtain rfl : k = 4 := by omega
    refine xv_il3 fX4_setRow_12 ?_
    refine xv_k fX4_setRow_13 ?_
    refine xv_ic_ge fX4_setRow_14 (fun h_14 => ?_) (fun h_14 => ?_)
    · exact hx
    · exact absurd (nI_le (Nat.le_refl _) (by decide)) h_14
  | succ m ih =>
    intro k I hm  hx
    have hk : k < 4 := by omega
    show xv_W mX4_setRow 1 0 0 _ 0 0 (sx n c) I (rx c) J 12 [some (.ref 51), some (.int (nI r)), some (.int x), some (.int (nI k))] []
    refine xv_il3 fX4_setRow_12 ?_
    refine xv_k fX4_setRow_13 ?_
    refine xv_ic_ge fX4_setRow_14 (fun h_14 => ?_) (fun h_14 => ?_)
    · exact absurd h_14 (nI_ge hk (by decide))
    · refine xv_al0 fX4_setRow_17 ?_
      refine xv_getR fX4_setRow_18 gX4_9 rfl (sx_51 _ _) (rx_51_0 _) ?_
      refine xv_k fX4_setRow_21 ?_
      refine xv_il1 fX4_setRow_22 ?_
      refine xv_imul fX4_setRow_23 ?_
      refine xv_il3 fX4_setRow_24 ?_
      refine xv_iadd fX4_setRow_25 ?_
      rw [nI_mul, nI_add]
      refine xv_il2 fX4_setRow_26 ?_
      refine xv_k fX4_setRow_27 ?_
      refine xv_il3 fX4_setRow_28 ?_
      refine xv_callS3R (c_digit n c _ J (by decide) hk) fX4_setRow_29 YX10_digitAt VX10_digitAt lX4_24 rfl (Nat.le_of_ble_eq_true rfl) (by decide) (by decide) (by decide) ?_
      refine xv_iastN fX4_setRow_32 (sx_52 _ _) (⟨by omega, by decide⟩) ?_
      refine xv_iincN3 (a := 1) fX4_setRow_33 (by decide) ?_
      refine xv_goto fX4_setRow_36 ?_
      exact ih (k + 1) (xSetRow1 r x k I) (by omega) hx

theorem c_setRow (n : Nat) (c : Nat × Nat) (I : xv_I) (J : xv_J) {r : Nat} {x : Int32} (hr : r < 4) : xv_Met mX4_setRow 1 0 0 (sx n c) I (rx c) J [.ref 51, .int (nI r), .int x] (xv_eq (.inl none) (sx n c) (xSetRow r x I) (rx c) J) := by
  refine xv_Met.of (by decide +kernel) (Nat.le_of_ble_eq_true rfl) (List.forall_mem_cons.mpr ⟨rfl, List.forall_mem_cons.mpr ⟨rfl, List.forall_mem_cons.mpr ⟨rfl, fun _ h => nomatch h⟩⟩⟩) ?_
  show xv_W mX4_setRow 1 0 0 _ 0 0 (sx n c) I (rx c) J 0 [some (.ref 51), some (.int (nI r)), some (.int x), none] []
  refine xv_il1 fX4_setRow_0 ?_
  refine xv_if_lt fX4_setRow_1 (fun h_1 => ?_) (fun h_1 => ?_)
  · exact absurd h_1 (nI_pos (by omega))
  · refine xv_il1 fX4_setRow_4 ?_
    refine xv_k fX4_setRow_5 ?_
    refine xv_ic_lt fX4_setRow_6 (fun h_6 => ?_) (fun h_6 => ?_)
    · refine xv_k fX4_setRow_10 ?_
      refine xv_is3 fX4_setRow_11 ?_
      exact l_setRow n c J hr 4 0 _ rfl (by exact xv_vret fX4_setRow_39 rfl (xv_eq_I rfl rfl))
    · exact absurd (nI_lt hr (by decide)) h_6

theorem c_quarter (n : Nat) (c : Nat × Nat) (I : xv_I) (J : xv_J) {a b : Nat} (ha : a < 4) (hb : b < 4) : xv_Met mX4_quarterOf 0 0 0 (sx n c) I (rx c) J [.int (nI a), .int (nI b)] (xv_eq (.inl (some (.int (nI (2 * (a / 2) + b / 2))))) (sx n c) (I) (rx c) J) := by
  refine xv_Met.of (by decide +kernel) (Nat.le_of_ble_eq_true rfl) (List.forall_mem_cons.mpr ⟨rfl, List.forall_mem_cons.mpr ⟨rfl, fun _ h => nomatch h⟩⟩) ?_
  show xv_W mX4_quarterOf 0 0 0 _ 0 0 (sx n c) I (rx c) J 0 [some (.int (nI a)), some (.int (nI b))] []
  refine xv_k fX4_quarterOf_0 ?_
  refine xv_il0 fX4_quarterOf_1 ?_
  refine xv_k fX4_quarterOf_2 ?_
  refine xv_idiv fX4_quarterOf_3 (by decide) ?_
  refine xv_imul fX4_quarterOf_4 ?_
  refine xv_il1 fX4_quarterOf_5 ?_
  refine xv_k fX4_quarterOf_6 ?_
  refine xv_idiv fX4_quarterOf_7 (by decide) ?_
  refine xv_iadd fX4_quarterOf_8 ?_
  exact xv_iret fX4_quarterOf_9 rfl rfl (xv_eq_I (by rw [nI_div (by omega) (by decide), nI_div (by omega) (by decide), nI_mul, nI_add]) rfl)

abbrev xQ (k : Nat) : Nat := 2 * (k / 4 / 2) + k % 4 / 2
def xUsed (I : xv_I) (k : Nat) : Int32 := I 53 (k / 4) ||| I 54 (k % 4) ||| I 55 (xQ k)
abbrev xOp (I : xv_I) (k g : Nat) : Prop := xUsed I k >>> (nI g &&& 31) &&& nI 1 = 0
def xTurn (k g : Nat) (I : xv_I) : xv_I := xv_u (xv_u (xv_u I 53 (k / 4) (I 53 (k / 4) ^^^ nI (2 ^ g))) 54 (k % 4) (I 54 (k % 4) ^^^ nI (2 ^ g))) 55 (xQ k) (I 55 (xQ k) ^^^ nI (2 ^ g))
theorem c_isOpen (n : Nat) (c : Nat × Nat) (I : xv_I) (J : xv_J) {k g : Nat} (hk : k < 16) (hg : g < 31) : xv_Met mX4_isOpen 1 0 0 (sx n c) I (rx c) J [.ref 51, .int (nI k), .int (nI g)] (xv_eq (.inl (some (.int (bi (xOp I k g))))) (sx n c) (I) (rx c) J) := by
  refine xv_Met.of (by decide +kernel) (Nat.le_of_ble_eq_true rfl) (List.forall_mem_cons.mpr ⟨rfl, List.forall_mem_cons.mpr ⟨rfl, List.forall_mem_cons.mpr ⟨rfl, fun _ h => nomatch h⟩⟩⟩) ?_
  show xv_W mX4_isOpen 1 0 0 _ 0 0 (sx n c) I (rx c) J 0 [some (.ref 51), some (.int (nI k)), some (.int (nI g)), none, none, none] []
  refine xv_il1 fX4_isOpen_0 ?_
  refine xv_k fX4_isOpen_1 ?_
  refine xv_idiv fX4_isOpen_2 (by decide) ?_
  rw [nI_div (by omega) (by decide)]
  refine xv_is3 fX4_isOpen_3 ?_
  refine xv_il1 fX4_isOpen_4 ?_
  refine xv_k fX4_isOpen_5 ?_
  refine xv_irem fX4_isOpen_6 (by decide) ?_
  rw [nI_rem (by omega) (by decide)]
  refine xv_is4 fX4_isOpen_7 ?_
  refine xv_al0 fX4_isOpen_9 ?_
  refine xv_getR fX4_isOpen_10 gX4_15 rfl (sx_51 _ _) (rx_51_1 _) ?_
  refine xv_il3 fX4_isOpen_13 ?_
  refine xv_ialdN fX4_isOpen_14 (sx_53 _ _) (⟨by omega, by decide⟩) ?_
  refine xv_al0 fX4_isOpen_15 ?_
  refine xv_getR fX4_isOpen_16 gX4_18 rfl (sx_51 _ _) (rx_51_2 _) ?_
  refine xv_il4 fX4_isOpen_19 ?_
  refine xv_ialdN fX4_isOpen_21 (sx_54 _ _) (⟨by omega, by decide⟩) ?_
  refine xv_ior fX4_isOpen_22 ?_
  refine xv_al0 fX4_isOpen_23 ?_
  refine xv_getR fX4_isOpen_24 gX4_21 rfl (sx_51 _ _) (rx_51_3 _) ?_
  refine xv_il3 fX4_isOpen_27 ?_
  refine xv_il4 fX4_isOpen_28 ?_
  refine xv_callS2R (c_quarter n c I J (by omega) (by omega)) fX4_isOpen_30 YX4_quarterOf VX4_quarterOf lX4_40 rfl (Nat.le_of_ble_eq_true rfl) (by decide) (by decide) (by decide) ?_
  refine xv_ialdN fX4_isOpen_33 (sx_55 _ _) (⟨by omega, by decide⟩) ?_
  refine xv_ior fX4_isOpen_34 ?_
  refine xv_is5 fX4_isOpen_35 ?_
  refine xv_il5 fX4_isOpen_37 ?_
  refine xv_il2 fX4_isOpen_39 ?_
  refine xv_ishr fX4_isOpen_40 ?_
  refine xv_k fX4_isOpen_41 ?_
  refine xv_iand fX4_isOpen_42 ?_
  refine xv_if_ne fX4_isOpen_43 (fun h_43 => ?_) (fun h_43 => ?_)
  · refine xv_k fX4_isOpen_50 ?_
    exact xv_iret fX4_isOpen_51 rfl (by decide) (xv_eq_I (by rw [bi_f (show ¬ xOp I k g from h_43)]) rfl)
  · refine xv_k fX4_isOpen_46 ?_
    refine xv_goto fX4_isOpen_47 ?_
    exact xv_iret fX4_isOpen_51 rfl (by decide) (xv_eq_I (by rw [bi_t (show xOp I k g from h_43)]) rfl)

theorem c_turn (n : Nat) (c : Nat × Nat) (I : xv_I) (J : xv_J) {k g : Nat} (hk : k < 16) (hg : g < 31) : xv_Met mX4_turn 1 0 0 (sx n c) I (rx c) J [.ref 51, .int (nI k), .int (nI g)] (xv_eq (.inl none) (sx n c) (xTurn k g I) (rx c) J) := by
  refine xv_Met.of (by decide +kernel) (Nat.le_of_ble_eq_true rfl) (List.forall_mem_cons.mpr ⟨rfl, List.forall_mem_cons.mpr ⟨rfl, List.forall_mem_cons.mpr ⟨rfl, fun _ h => nomatch h⟩⟩⟩) ?_
  show xv_W mX4_turn 1 0 0 _ 0 0 (sx n c) I (rx c) J 0 [some (.ref 51), some (.int (nI k)), some (.int (nI g)), none, none] []
  refine xv_il1 fX4_turn_0 ?_
  refine xv_k fX4_turn_1 ?_
  refine xv_idiv fX4_turn_2 (by decide) ?_
  rw [nI_div (by omega) (by decide)]
  refine xv_is3 fX4_turn_3 ?_
  refine xv_il1 fX4_turn_4 ?_
  refine xv_k fX4_turn_5 ?_
  refine xv_irem fX4_turn_6 (by decide) ?_
  rw [nI_rem (by omega) (by decide)]
  refine xv_is4 fX4_turn_7 ?_
  refine xv_al0 fX4_turn_9 ?_
  refine xv_getR fX4_turn_10 gX4_15 rfl (sx_51 _ _) (rx_51_1 _) ?_
  refine xv_il3 fX4_turn_13 ?_
  refine xv_dup2 fX4_turn_14 ?_
  refine xv_ialdN fX4_turn_15 (sx_53 _ _) (⟨by omega, by decide⟩) ?_
  refine xv_k fX4_turn_16 ?_
  refine xv_il2 fX4_turn_17 ?_
  refine xv_ishl fX4_turn_18 ?_
  rw [sh1 _ hg]
  refine xv_ixor fX4_turn_19 ?_
  refine xv_iastN fX4_turn_20 (sx_53 _ _) (⟨by omega, by decide⟩) ?_
  refine xv_al0 fX4_turn_21 ?_
  refine xv_getR fX4_turn_22 gX4_18 rfl (sx_51 _ _) (rx_51_2 _) ?_
  refine xv_il4 fX4_turn_25 ?_
  refine xv_dup2 fX4_turn_27 ?_
  refine xv_ialdN fX4_turn_28 (sx_54 _ _) (⟨by omega, by decide⟩) ?_
  rw [xv_u_ne _ _ _ (by decide)]
  refine xv_k fX4_turn_29 ?_
  refine xv_il2 fX4_turn_30 ?_
  refine xv_ishl fX4_turn_31 ?_
  rw [sh1 _ hg]
  refine xv_ixor fX4_turn_32 ?_
  refine xv_iastN fX4_turn_33 (sx_54 _ _) (⟨by omega, by decide⟩) ?_
  refine xv_al0 fX4_turn_34 ?_
  refine xv_getR fX4_turn_35 gX4_21 rfl (sx_51 _ _) (rx_51_3 _) ?_
  refine xv_il3 fX4_turn_38 ?_
  refine xv_il4 fX4_turn_39 ?_
  refine xv_callS2R (c_quarter n c _ J (by omega) (by omega)) fX4_turn_41 YX4_quarterOf VX4_quarterOf lX4_40 rfl (Nat.le_of_ble_eq_true rfl) (by decide) (by decide) (by decide) ?_
  refine xv_dup2 fX4_turn_44 ?_
  refine xv_ialdN fX4_turn_45 (sx_55 _ _) (⟨by omega, by decide⟩) ?_
  rw [xv_u_ne _ _ _ (by decide), xv_u_ne _ _ _ (by decide)]
  refine xv_k fX4_turn_46 ?_
  refine xv_il2 fX4_turn_47 ?_
  refine xv_ishl fX4_turn_48 ?_
  rw [sh1 _ hg]
  refine xv_ixor fX4_turn_49 ?_
  refine xv_iastN fX4_turn_50 (sx_55 _ _) (⟨by omega, by decide⟩) ?_
  exact xv_vret fX4_turn_51 rfl (xv_eq_I rfl rfl)
