/-- a truth as an int -/
noncomputable def bi (P : Prop) : Int32 := @ite _ P (Classical.propDecidable P) (nI 1) (nI 0)
theorem bi_t {P : Prop} (h : P) : bi P = nI 1 := by unfold bi; exact if_pos h
theorem bi_f {P : Prop} (h : ¬ P) : bi P = nI 0 := by unfold bi; exact if_neg h
/-- the first place below n with P, or -1 -/
noncomputable def fsP (P : Nat → Prop) (n : Nat) : Int32 := @dite _ (∃ k, k < n ∧ P k ∧ ∀ j, j < k → ¬ P j) (Classical.propDecidable _) (fun h => nI (Classical.choose h)) (fun _ => -1)
theorem fsP_eq {P : Nat → Prop} {n k : Nat} (h : ∀ j, j < k → ¬ P j) (hk : P k) (hn : k < n) : fsP P n = nI k := by
  have hx : ∃ k, k < n ∧ P k ∧ ∀ j, j < k → ¬ P j := ⟨k, hn, hk, h⟩
  unfold fsP
  rw [dif_pos hx]
  obtain ⟨a1, a2, a3⟩ := Classical.choose_spec hx
  congr 1
  rcases Nat.lt_trichotomy (Classical.choose hx) k with q | q | q
  · exact absurd a2 (h _ q)
  · exact q
  · exact absurd hk (a3 _ q)
theorem fsP_no {P : Nat → Prop} {n : Nat} (h : ∀ j, j < n → ¬ P j) : fsP P n = -1 := by
  unfold fsP
  exact dif_neg (fun ⟨k, h1, h2, _⟩ => h k h1 h2)
theorem lt_or {P : Nat → Prop} {k : Nat} (h : ∀ j, j < k → P j) (hk : P k) : ∀ j, j < k + 1 → P j := fun j hj => (Nat.lt_succ_iff_lt_or_eq.mp hj).elim (h j) (fun e => e ▸ hk)
theorem lt_no {P : Nat → Prop} : ∀ j, j < 0 → P j := fun _ h => absurd h (Nat.not_lt_zero _)
/-- m steps of f, from k on -/
def it {α : Type} (f : Nat → α → α) : Nat → Nat → α → α
  | 0, _, s => s
  | m + 1, k, s => it f m (k + 1) (f k s)
theorem sh1 : ∀ k, k < 31 → nI 1 <<< (nI k &&& 31) = nI (2 ^ k) := by decide +kernel
def xPut (I : xv_I) (p k : Nat) (x : Int32) : xv_I := xv_u (xv_u (xv_u I (3 + p) k x) 15 p (nI 0)) 1 6 (I 1 6 ||| nI (2 ^ (p / 2)))

theorem c_isPage (n : Nat) (c : Nat × Nat) (I : xv_I) (J : xv_J) (x : Int32) : xv_Met mX10_isPage 0 0 0 (sx n c) I (rx c) J [.int x] (xv_eq (.inl (some (.int (if ¬ x < 0 ∧ ¬ nI 10 ≤ x then nI 1 else nI 0)))) (sx n c) (I) (rx c) J) := by
  refine xv_Met.of (by decide +kernel) (Nat.le_of_ble_eq_true rfl) (List.forall_mem_cons.mpr ⟨rfl, fun _ h => nomatch h⟩) ?_
  show xv_W mX10_isPage 0 0 0 _ 0 0 (sx n c) I (rx c) J 0 [some (.int x)] []
  refine xv_il0 fX10_isPage_0 ?_
  refine xv_if_lt fX10_isPage_1 (fun h_1 => ?_) (fun h_1 => ?_)
  · refine xv_k fX10_isPage_14 ?_
    exact xv_iret fX10_isPage_15 rfl rfl (xv_eq_I (by simp_all) rfl)
  · refine xv_il0 fX10_isPage_4 ?_
    refine xv_k fX10_isPage_5 ?_
    refine xv_ic_ge fX10_isPage_7 (fun h_7 => ?_) (fun h_7 => ?_)
    · refine xv_k fX10_isPage_14 ?_
      exact xv_iret fX10_isPage_15 rfl rfl (xv_eq_I (by simp_all) rfl)
    · refine xv_k fX10_isPage_10 ?_
      refine xv_goto fX10_isPage_11 ?_
      exact xv_iret fX10_isPage_15 rfl rfl (xv_eq_I (by simp_all) rfl)

theorem c_isPage_in (n : Nat) (c : Nat × Nat) (I : xv_I) (J : xv_J) {p : Nat} (hp : p < 10) : xv_Met mX10_isPage 0 0 0 (sx n c) I (rx c) J [.int (nI p)] (xv_eq (.inl (some (.int (nI 1)))) (sx n c) (I) (rx c) J) := by
  have h := c_isPage n c I J (nI p)
  rw [if_pos ⟨nI_pos (by omega), nI_ge hp (by omega)⟩] at h
  exact h

theorem c_isCell (n : Nat) (c : Nat × Nat) (I : xv_I) (J : xv_J) (x : Int32) : xv_Met mX10_isCell 0 0 0 (sx n c) I (rx c) J [.int x] (xv_eq (.inl (some (.int (if ¬ x < 0 ∧ ¬ nI 12 ≤ x then nI 1 else nI 0)))) (sx n c) (I) (rx c) J) := by
  refine xv_Met.of (by decide +kernel) (Nat.le_of_ble_eq_true rfl) (List.forall_mem_cons.mpr ⟨rfl, fun _ h => nomatch h⟩) ?_
  show xv_W mX10_isCell 0 0 0 _ 0 0 (sx n c) I (rx c) J 0 [some (.int x)] []
  refine xv_il0 fX10_isCell_0 ?_
  refine xv_if_lt fX10_isCell_1 (fun h_1 => ?_) (fun h_1 => ?_)
  · refine xv_k fX10_isCell_14 ?_
    exact xv_iret fX10_isCell_15 rfl rfl (xv_eq_I (by simp_all) rfl)
  · refine xv_il0 fX10_isCell_4 ?_
    refine xv_k fX10_isCell_5 ?_
    refine xv_ic_ge fX10_isCell_7 (fun h_7 => ?_) (fun h_7 => ?_)
    · refine xv_k fX10_isCell_14 ?_
      exact xv_iret fX10_isCell_15 rfl rfl (xv_eq_I (by simp_all) rfl)
    · refine xv_k fX10_isCell_10 ?_
      refine xv_goto fX10_isCell_11 ?_
      exact xv_iret fX10_isCell_15 rfl rfl (xv_eq_I (by simp_all) rfl)

theorem c_isCell_in (n : Nat) (c : Nat × Nat) (I : xv_I) (J : xv_J) {p : Nat} (hp : p < 12) : xv_Met mX10_isCell 0 0 0 (sx n c) I (rx c) J [.int (nI p)] (xv_eq (.inl (some (.int (nI 1)))) (sx n c) (I) (rx c) J) := by
  have h := c_isCell n c I J (nI p)
  rw [if_pos ⟨nI_pos (by omega), nI_ge hp (by omega)⟩] at h
  exact h

theorem c_plateOf (n : Nat) (c : Nat × Nat) (I : xv_I) (J : xv_J) {p : Nat} (hp : p < 10) : xv_Met mX10_plateOf 0 0 0 (sx n c) I (rx c) J [.int (nI p)] (xv_eq (.inl (some (.int (nI (2 ^ (p / 2)))))) (sx n c) (I) (rx c) J) := by
  refine xv_Met.of (by decide +kernel) (Nat.le_of_ble_eq_true rfl) (List.forall_mem_cons.mpr ⟨rfl, fun _ h => nomatch h⟩) ?_
  show xv_W mX10_plateOf 0 0 0 _ 0 0 (sx n c) I (rx c) J 0 [some (.int (nI p))] []
  refine xv_k fX10_plateOf_0 ?_
  refine xv_il0 fX10_plateOf_1 ?_
  refine xv_k fX10_plateOf_2 ?_
  refine xv_idiv fX10_plateOf_3 (by decide) ?_
  refine xv_ishl fX10_plateOf_4 ?_
  exact xv_iret fX10_plateOf_5 rfl rfl (xv_eq_I (by rw [nI_div (by omega) (by decide), sh1 _ (by omega)]) rfl)

theorem c_cellIn (n : Nat) (c : Nat × Nat) (I : xv_I) (J : xv_J) {k : Nat} (hk : k < 12) : xv_Met mX10_cellInColumns 0 0 0 (sx n c) I (rx c) J [.int (nI k)] (xv_eq (.inl (some (.int (nI (3 * (k % 4) + k / 4))))) (sx n c) (I) (rx c) J) := by
  refine xv_Met.of (by decide +kernel) (Nat.le_of_ble_eq_true rfl) (List.forall_mem_cons.mpr ⟨rfl, fun _ h => nomatch h⟩) ?_
  show xv_W mX10_cellInColumns 0 0 0 _ 0 0 (sx n c) I (rx c) J 0 [some (.int (nI k))] []
  refine xv_k fX10_cellInColumns_0 ?_
  refine xv_il0 fX10_cellInColumns_1 ?_
  refine xv_k fX10_cellInColumns_2 ?_
  refine xv_irem fX10_cellInColumns_3 (by decide) ?_
  refine xv_imul fX10_cellInColumns_4 ?_
  refine xv_il0 fX10_cellInColumns_5 ?_
  refine xv_k fX10_cellInColumns_6 ?_
  refine xv_idiv fX10_cellInColumns_7 (by decide) ?_
  refine xv_iadd fX10_cellInColumns_8 ?_
  exact xv_iret fX10_cellInColumns_9 rfl rfl (xv_eq_I (by rw [nI_rem (by omega) (by decide), nI_div (by omega) (by decide), nI_mul, nI_add]) rfl)

theorem sx_row (n : Nat) (c : Nat × Nat) {p : Nat} (hp : p < 10) : sx n c (3 + p) = some (.inr (.inl (.int, 12))) := by
  have : ∀ p, p < 10 → sxl[3 + p]?.getD none = some (.inr (.inl (.int, 12))) := by decide
  unfold sx
  rw [if_neg (by omega), if_pos (by omega)]
  exact this p hp
theorem rx_row (c : Nat × Nat) {p : Nat} (hp : p < 10) : rx c 2 p = some (3 + p) := by
  have : ∀ p, p < 10 → ((((rxl[2]?).getD [])[p]?).getD none) = some (3 + p) := by decide
  unfold rx
  rw [if_neg (by decide), if_neg (by decide), if_pos (by decide)]
  exact this p hp

theorem c_at (n : Nat) (c : Nat × Nat) (I : xv_I) (J : xv_J) {p k : Nat} (hp : p < 10) (hk : k < 12) : xv_Met mX5_at 1 0 0 (sx n c) I (rx c) J [.ref 1, .int (nI p), .int (nI k)] (xv_eq (.inl (some (.int (I (3 + p) k)))) (sx n c) (I) (rx c) J) := by
  refine xv_Met.of (by decide +kernel) (Nat.le_of_ble_eq_true rfl) (List.forall_mem_cons.mpr ⟨rfl, List.forall_mem_cons.mpr ⟨rfl, List.forall_mem_cons.mpr ⟨rfl, fun _ h => nomatch h⟩⟩⟩) ?_
  show xv_W mX5_at 1 0 0 _ 0 0 (sx n c) I (rx c) J 0 [some (.ref 1), some (.int (nI p)), some (.int (nI k))] []
  refine xv_il1 fX5_at_0 ?_
  refine xv_callS1R (c_isPage_in n c I J hp) fX5_at_1 YX10_isPage VX10_isPage lX5_34 rfl (Nat.le_of_ble_eq_true rfl) (by decide) (by decide) (by decide) ?_
  refine xv_if_eq fX5_at_4 (fun h_4 => ?_) (fun h_4 => ?_)
  · exact absurd h_4 (by decide)
  · refine xv_il2 fX5_at_7 ?_
    refine xv_callS1R (c_isCell_in n c I J hk) fX5_at_8 YX10_isCell VX10_isCell lX5_38 rfl (Nat.le_of_ble_eq_true rfl) (by decide) (by decide) (by decide) ?_
    refine xv_if_eq fX5_at_11 (fun h_11 => ?_) (fun h_11 => ?_)
    · exact absurd h_11 (by decide)
    · refine xv_al0 fX5_at_14 ?_
      refine xv_getR fX5_at_15 gX5_11 rfl (sx_1 _ _) (rx_1_0 _) ?_
      refine xv_il1 fX5_at_18 ?_
      refine xv_aaldK fX5_at_19 (sx_2 _ _) (Or.inr ⟨_, rfl⟩) (⟨hp, by decide⟩) (rx_row c hp) ?_
      refine xv_il2 fX5_at_20 ?_
      refine xv_ialdN fX5_at_21 (sx_row n c hp) (⟨hk, by decide⟩) ?_
      refine xv_goto fX5_at_22 ?_
      exact xv_iret fX5_at_26 rfl rfl xv_eq_i

theorem xPut_eq (I : xv_I) (p k : Nat) (x : Int32) : xv_u (xv_u (xv_u I (3 + p) k x) 15 p (nI 0)) 1 6 (xv_u (xv_u I (3 + p) k x) 15 p (nI 0) 1 6 ||| nI (2 ^ (p / 2))) = xPut I p k x := by
  unfold xPut
  rw [xv_u_ne _ _ _ (by decide), xv_u_ne _ _ _ (by omega)]

theorem c_put (n : Nat) (c : Nat × Nat) (I : xv_I) (J : xv_J) {p k : Nat} {x : Int32} (hp : p < 10) (hk : k < 12) : xv_Met mX5_put 1 0 0 (sx n c) I (rx c) J [.ref 1, .int (nI p), .int (nI k), .int x] (xv_eq (.inl none) (sx n c) (xPut I p k x) (rx c) J) := by
  refine xv_Met.of (by decide +kernel) (Nat.le_of_ble_eq_true rfl) (List.forall_mem_cons.mpr ⟨rfl, List.forall_mem_cons.mpr ⟨rfl, List.forall_mem_cons.mpr ⟨rfl, List.forall_mem_cons.mpr ⟨rfl, fun _ h => nomatch h⟩⟩⟩⟩) ?_
  show xv_W mX5_put 1 0 0 _ 0 0 (sx n c) I (rx c) J 0 [some (.ref 1), some (.int (nI p)), some (.int (nI k)), some (.int x)] []
  refine xv_il1 fX5_put_0 ?_
  refine xv_callS1R (c_isPage_in n c I J hp) fX5_put_1 YX10_isPage VX10_isPage lX5_34 rfl (Nat.le_of_ble_eq_true rfl) (by decide) (by decide) (by decide) ?_
  refine xv_if_eq fX5_put_4 (fun h_4 => ?_) (fun h_4 => ?_)
  · exact absurd h_4 (by decide)
  · refine xv_il2 fX5_put_7 ?_
    refine xv_callS1R (c_isCell_in n c I J hk) fX5_put_8 YX10_isCell VX10_isCell lX5_38 rfl (Nat.le_of_ble_eq_true rfl) (by decide) (by decide) (by decide) ?_
    refine xv_if_eq fX5_put_11 (fun h_11 => ?_) (fun h_11 => ?_)
    · exact absurd h_11 (by decide)
    · refine xv_al0 fX5_put_14 ?_
      refine xv_getR fX5_put_15 gX5_11 rfl (sx_1 _ _) (rx_1_0 _) ?_
      refine xv_il1 fX5_put_18 ?_
      refine xv_aaldK fX5_put_19 (sx_2 _ _) (Or.inr ⟨_, rfl⟩) (⟨hp, by decide⟩) (rx_row c hp) ?_
      refine xv_il2 fX5_put_20 ?_
      refine xv_il3 fX5_put_21 ?_
      refine xv_iastN fX5_put_22 (sx_row n c hp) (⟨hk, by decide⟩) ?_
      refine xv_al0 fX5_put_23 ?_
      refine xv_getR fX5_put_24 gX5_24 rfl (sx_1 _ _) (rx_1_3 _) ?_
      refine xv_il1 fX5_put_27 ?_
      refine xv_k fX5_put_28 ?_
      refine xv_iastN fX5_put_29 (sx_15 _ _) (⟨hp, by decide⟩) ?_
      refine xv_al0 fX5_put_30 ?_
      refine xv_dup_r fX5_put_31 ?_
      refine xv_getI fX5_put_32 gX5_41 rfl (sx_1 _ _) ?_
      refine xv_il1 fX5_put_35 ?_
      refine xv_callS1R (c_plateOf n c _ J hp) fX5_put_36 YX10_plateOf VX10_plateOf lX5_44 rfl (Nat.le_of_ble_eq_true rfl) (by decide) (by decide) (by decide) ?_
      refine xv_ior fX5_put_39 ?_
      refine xv_putI fX5_put_40 gX5_41 rfl (tp5_6 _) (sx_1 _ _) ⟨rfl, rfl⟩ ?_
      exact xv_vret fX5_put_43 rfl (xv_eq_I rfl (xPut_eq I p k x))

theorem l_isBare (n : Nat) (c : Nat × Nat) (I : xv_I) (J : xv_J) {p : Nat} (hp : p < 10) : ∀ (m k : Nat) , k + m = 12 → (∀ j, j < k → I (3 + p) j = 0) → xv_W mX5_isBare 2 0 0 (xv_eq (.inl (some (.int (bi (∀ k, k < 12 → I (3 + p) k = 0))))) (sx n c) (I) (rx c) J) 0 0 (sx n c) I (rx c) J 2 [some (.ref 1), some (.int (nI p)), some (.int (nI k))] [] := by
  intro m
  induction m with
  | zero =>
    intro k  hm i0
    obtain rfl : k = 12 := by omega
    refine xv_il2 fX5_isBare_2 ?_
    refine xv_k fX5_isBare_3 ?_
    refine xv_ic_ge fX5_isBare_5 (fun h_5 => ?_) (fun h_5 => ?_)
    · refine xv_k fX5_isBare_25 ?_
      exact xv_iret fX5_isBare_26 rfl rfl (xv_eq_I (by rw [bi_t i0]) rfl)
    · exact absurd (nI_le (Nat.le_refl _) (by decide)) h_5
  | succ m ih =>
    intro k  hm i0
    have hk : k < 12 := by omega
    show xv_W mX5_isBare 2 0 0 _ 0 0 (sx n c) I (rx c) J 2 [some (.ref 1), some (.int (nI p)), some (.int (nI k))] []
    refine xv_il2 fX5_isBare_2 ?_
    refine xv_k fX5_isBare_3 ?_
    refine xv_ic_ge fX5_isBare_5 (fun h_5 => ?_) (fun h_5 => ?_)
    · exact absurd h_5 (nI_ge hk (by decide))
    · refine xv_al0 fX5_isBare_8 ?_
      refine xv_il1 fX5_isBare_9 ?_
      refine xv_il2 fX5_isBare_10 ?_
      refine xv_callV2R (c_at n c _ J hp hk) fX5_isBare_11 YX5_at VX5_at lX5_48 rfl rfl (sx_1 _ _) (Nat.le_of_ble_eq_true rfl) (by decide) (by decide) (by decide) ?_
      refine xv_if_eq fX5_isBare_14 (fun h_14 => ?_) (fun h_14 => ?_)
      · refine xv_iincN2 (a := 1) fX5_isBare_19 (by decide) ?_
        refine xv_goto fX5_isBare_22 ?_
        exact ih (k + 1) (by omega) (lt_or i0 h_14)
      · refine xv_k fX5_isBare_17 ?_
        exact xv_iret fX5_isBare_18 rfl rfl (xv_eq_I (by rw [bi_f (fun h => h_14 (h k hk))]) rfl)

theorem c_isBare (n : Nat) (c : Nat × Nat) (I : xv_I) (J : xv_J) {p : Nat} (hp : p < 10) : xv_Met mX5_isBare 2 0 0 (sx n c) I (rx c) J [.ref 1, .int (nI p)] (xv_eq (.inl (some (.int (bi (∀ k, k < 12 → I (3 + p) k = 0))))) (sx n c) (I) (rx c) J) := by
  refine xv_Met.of (by decide +kernel) (Nat.le_of_ble_eq_true rfl) (List.forall_mem_cons.mpr ⟨rfl, List.forall_mem_cons.mpr ⟨rfl, fun _ h => nomatch h⟩⟩) ?_
  show xv_W mX5_isBare 2 0 0 _ 0 0 (sx n c) I (rx c) J 0 [some (.ref 1), some (.int (nI p)), none] []
  refine xv_k fX5_isBare_0 ?_
  refine xv_is2 fX5_isBare_1 ?_
  exact l_isBare n c I J hp 12 0 rfl (fun j hj => absurd hj (Nat.not_lt_zero j))

def xFree1 (x : Int32) (p : Nat) (I : xv_I) : xv_I := it (fun k I => if I (3 + p) k = x then xPut I p k (nI 0) else I) 12 0 I
def xFree (x : Int32) (I : xv_I) : xv_I := it (xFree1 x) 10 0 I
theorem l_freeAll1 (n : Nat) (c : Nat × Nat) (J : xv_J) {p : Nat} {x : Int32} (hp : p < 10) {Q : xv_Q} : ∀ (m k : Nat) (I : xv_I), k + m = 12 → xv_W mX5_freeAllOf 2 0 0 Q 0 0 (sx n c) (it (fun k I => if I (3 + p) k = x then xPut I p k (nI 0) else I) m k I) (rx c) J 39 [some (.ref 1), some (.int x), some (.int (nI p)), some (.int (nI 12))] [] → xv_W mX5_freeAllOf 2 0 0 Q 0 0 (sx n c) I (rx c) J 10 [some (.ref 1), some (.int x), some (.int (nI p)), some (.int (nI k))] [] := by
  intro m
  induction m with
  | zero =>
    intro k I hm  hx
    obtain rfl : k = 12 := by omega
    refine xv_il3 fX5_freeAllOf_10 ?_
    refine xv_k fX5_freeAllOf_11 ?_
    refine xv_ic_ge fX5_freeAllOf_13 (fun h_13 => ?_) (fun h_13 => ?_)
    · exact hx
    · exact absurd (nI_le (Nat.le_refl _) (by decide)) h_13
  | succ m ih =>
    intro k I hm  hx
    have hk : k < 12 := by omega
    show xv_W mX5_freeAllOf 2 0 0 _ 0 0 (sx n c) I (rx c) J 10 [some (.ref 1), some (.int x), some (.int (nI p)), some (.int (nI k))] []
    refine xv_il3 fX5_freeAllOf_10 ?_
    refine xv_k fX5_freeAllOf_11 ?_
    refine xv_ic_ge fX5_freeAllOf_13 (fun h_13 => ?_) (fun h_13 => ?_)
    · exact absurd h_13 (nI_ge hk (by decide))
    · refine xv_al0 fX5_freeAllOf_16 ?_
      refine xv_il2 fX5_freeAllOf_17 ?_
      refine xv_il3 fX5_freeAllOf_18 ?_
      refine xv_callV2R (c_at n c _ J hp hk) fX5_freeAllOf_19 YX5_at VX5_at lX5_48 rfl rfl (sx_1 _ _) (Nat.le_of_ble_eq_true rfl) (by decide) (by decide) (by decide) ?_
      refine xv_il1 fX5_freeAllOf_22 ?_
      refine xv_ic_ne fX5_freeAllOf_23 (fun h_23 => ?_) (fun h_23 => ?_)
      · refine xv_iincN3 (a := 1) fX5_freeAllOf_33 (by decide) ?_
        refine xv_goto fX5_freeAllOf_36 ?_
        refine xv_eqI (I' := if I (3 + p) k = x then xPut I p k (nI 0) else I) (if_neg h_23).symm ?_
        exact ih (k + 1) _ (by omega) hx
      · refine xv_al0 fX5_freeAllOf_26 ?_
        refine xv_il2 fX5_freeAllOf_27 ?_
        refine xv_il3 fX5_freeAllOf_28 ?_
        refine xv_k fX5_freeAllOf_29 ?_
        refine xv_callV3V (c_put n c _ J hp hk) fX5_freeAllOf_30 YX5_put VX5_put lX5_52 rfl rfl (sx_1 _ _) (Nat.le_of_ble_eq_true rfl) (by decide) (by decide) (by decide) ?_
        refine xv_iincN3 (a := 1) fX5_freeAllOf_33 (by decide) ?_
        refine xv_goto fX5_freeAllOf_36 ?_
        refine xv_eqI (I' := if I (3 + p) k = x then xPut I p k (nI 0) else I) (if_pos h_23).symm ?_
        exact ih (k + 1) _ (by omega) hx

theorem l_freeAll (n : Nat) (c : Nat × Nat) (J : xv_J) {x : Int32} {Q : xv_Q} : ∀ (m k : Nat) (I : xv_I) (l3 : Option Value), k + m = 10 → (∀ l3, xv_W mX5_freeAllOf 2 0 0 Q 0 0 (sx n c) (it (xFree1 x) m k I) (rx c) J 45 (some (.ref 1) :: some (.int x) :: some (.int (nI 10)) :: l3 :: []) []) → xv_W mX5_freeAllOf 2 0 0 Q 0 0 (sx n c) I (rx c) J 2 (some (.ref 1) :: some (.int x) :: some (.int (nI k)) :: l3 :: []) [] := by
  intro m
  induction m with
  | zero =>
    intro k I l3 hm i0
    obtain rfl : k = 10 := by omega
    refine xv_il2 fX5_freeAllOf_2 ?_
    refine xv_k fX5_freeAllOf_3 ?_
    refine xv_ic_ge fX5_freeAllOf_5 (fun h_5 => ?_) (fun h_5 => ?_)
    · exact i0 _
    · exact absurd (nI_le (Nat.le_refl _) (by decide)) h_5
  | succ m ih =>
    intro k I l3 hm i0
    have hk : k < 10 := by omega
    show xv_W mX5_freeAllOf 2 0 0 _ 0 0 (sx n c) I (rx c) J 2 (some (.ref 1) :: some (.int x) :: some (.int (nI k)) :: l3 :: []) []
    refine xv_il2 fX5_freeAllOf_2 ?_
    refine xv_k fX5_freeAllOf_3 ?_
    refine xv_ic_ge fX5_freeAllOf_5 (fun h_5 => ?_) (fun h_5 => ?_)
    · exact absurd h_5 (nI_ge hk (by decide))
    · refine xv_k fX5_freeAllOf_8 ?_
      refine xv_is3 fX5_freeAllOf_9 ?_
      refine l_freeAll1 n c J hk 12 0 I rfl ?_
      refine xv_iincN2 (a := 1) fX5_freeAllOf_39 (by decide) ?_
      refine xv_goto fX5_freeAllOf_42 ?_
      exact ih (k + 1) _ _ (by omega) i0

theorem c_freeAllOf (n : Nat) (c : Nat × Nat) (I : xv_I) (J : xv_J) {x : Int32} : xv_Met mX5_freeAllOf 2 0 0 (sx n c) I (rx c) J [.ref 1, .int x] (xv_eq (.inl none) (sx n c) (xFree x I) (rx c) J) := by
  refine xv_Met.of (by decide +kernel) (Nat.le_of_ble_eq_true rfl) (List.forall_mem_cons.mpr ⟨rfl, List.forall_mem_cons.mpr ⟨rfl, fun _ h => nomatch h⟩⟩) ?_
  show xv_W mX5_freeAllOf 2 0 0 _ 0 0 (sx n c) I (rx c) J 0 [some (.ref 1), some (.int x), none, none] []
  refine xv_k fX5_freeAllOf_0 ?_
  refine xv_is2 fX5_freeAllOf_1 ?_
  exact l_freeAll n c J (x := x) 10 0 I none rfl (fun l3 => by exact xv_vret fX5_freeAllOf_45 rfl (xv_eq_I rfl rfl))

theorem c_sectionOf (n : Nat) (c : Nat × Nat) (I : xv_I) (J : xv_J) {p : Nat} (hp : p < 10) : xv_Met mX5_sectionOf 1 0 0 (sx n c) I (rx c) J [.ref 1, .int (nI p)] (xv_eq (.inl (some (.int (I 13 p)))) (sx n c) (I) (rx c) J) := by
  refine xv_Met.of (by decide +kernel) (Nat.le_of_ble_eq_true rfl) (List.forall_mem_cons.mpr ⟨rfl, List.forall_mem_cons.mpr ⟨rfl, fun _ h => nomatch h⟩⟩) ?_
  show xv_W mX5_sectionOf 1 0 0 _ 0 0 (sx n c) I (rx c) J 0 [some (.ref 1), some (.int (nI p))] []
  refine xv_il1 fX5_sectionOf_0 ?_
  refine xv_callS1R (c_isPage_in n c I J hp) fX5_sectionOf_1 YX10_isPage VX10_isPage lX5_34 rfl (Nat.le_of_ble_eq_true rfl) (by decide) (by decide) (by decide) ?_
  refine xv_if_eq fX5_sectionOf_4 (fun h_4 => ?_) (fun h_4 => ?_)
  · exact absurd h_4 (by decide)
  · refine xv_al0 fX5_sectionOf_7 ?_
    refine xv_getR fX5_sectionOf_8 gX5_16 rfl (sx_1 _ _) (rx_1_1 _) ?_
    refine xv_il1 fX5_sectionOf_11 ?_
    refine xv_ialdN fX5_sectionOf_12 (sx_13 _ _) (⟨hp, by decide⟩) ?_
    refine xv_goto fX5_sectionOf_13 ?_
    exact xv_iret fX5_sectionOf_17 rfl rfl xv_eq_i

theorem c_hasColour (n : Nat) (c : Nat × Nat) (I : xv_I) (J : xv_J) {p : Nat} (hp : p < 10) : xv_Met mX5_hasColour 1 0 0 (sx n c) I (rx c) J [.ref 1, .int (nI p)] (xv_eq (.inl (some (.int (if I 14 p = 0 then nI 0 else nI 1)))) (sx n c) (I) (rx c) J) := by
  refine xv_Met.of (by decide +kernel) (Nat.le_of_ble_eq_true rfl) (List.forall_mem_cons.mpr ⟨rfl, List.forall_mem_cons.mpr ⟨rfl, fun _ h => nomatch h⟩⟩) ?_
  show xv_W mX5_hasColour 1 0 0 _ 0 0 (sx n c) I (rx c) J 0 [some (.ref 1), some (.int (nI p))] []
  refine xv_il1 fX5_hasColour_0 ?_
  refine xv_callS1R (c_isPage_in n c I J hp) fX5_hasColour_1 YX10_isPage VX10_isPage lX5_34 rfl (Nat.le_of_ble_eq_true rfl) (by decide) (by decide) (by decide) ?_
  refine xv_if_eq fX5_hasColour_4 (fun h_4 => ?_) (fun h_4 => ?_)
  · exact absurd h_4 (by decide)
  · refine xv_al0 fX5_hasColour_7 ?_
    refine xv_getR fX5_hasColour_8 gX5_20 rfl (sx_1 _ _) (rx_1_2 _) ?_
    refine xv_il1 fX5_hasColour_11 ?_
    refine xv_zaldN fX5_hasColour_12 (sx_14 _ _) (⟨hp, by decide⟩) ?_
    refine xv_if_eq fX5_hasColour_13 (fun h_13 => ?_) (fun h_13 => ?_)
    · refine xv_k fX5_hasColour_20 ?_
      exact xv_iret fX5_hasColour_21 rfl (by decide) (xv_eq_I (by simp_all) rfl)
    · refine xv_k fX5_hasColour_16 ?_
      refine xv_goto fX5_hasColour_17 ?_
      exact xv_iret fX5_hasColour_21 rfl (by decide) (xv_eq_I (by simp_all) rfl)

theorem c_setKind (n : Nat) (c : Nat × Nat) (I : xv_I) (J : xv_J) {p : Nat} {x y : Int32} (hp : p < 10) (hy : narrow .boolean (.int y) = .int y) : xv_Met mX5_setKind 1 0 0 (sx n c) I (rx c) J [.ref 1, .int (nI p), .int x, .int y] (xv_eq (.inl none) (sx n c) (xv_u (xv_u I 13 p x) 14 p y) (rx c) J) := by
  refine xv_Met.of (by decide +kernel) (Nat.le_of_ble_eq_true rfl) (List.forall_mem_cons.mpr ⟨rfl, List.forall_mem_cons.mpr ⟨rfl, List.forall_mem_cons.mpr ⟨rfl, List.forall_mem_cons.mpr ⟨rfl, fun _ h => nomatch h⟩⟩⟩⟩) ?_
  show xv_W mX5_setKind 1 0 0 _ 0 0 (sx n c) I (rx c) J 0 [some (.ref 1), some (.int (nI p)), some (.int x), some (.int y)] []
  refine xv_il1 fX5_setKind_0 ?_
  refine xv_callS1R (c_isPage_in n c I J hp) fX5_setKind_1 YX10_isPage VX10_isPage lX5_34 rfl (Nat.le_of_ble_eq_true rfl) (by decide) (by decide) (by decide) ?_
  refine xv_if_eq fX5_setKind_4 (fun h_4 => ?_) (fun h_4 => ?_)
  · exact absurd h_4 (by decide)
  · refine xv_al0 fX5_setKind_7 ?_
    refine xv_getR fX5_setKind_8 gX5_16 rfl (sx_1 _ _) (rx_1_1 _) ?_
    refine xv_il1 fX5_setKind_11 ?_
    refine xv_il2 fX5_setKind_12 ?_
    refine xv_iastN fX5_setKind_13 (sx_13 _ _) (⟨hp, by decide⟩) ?_
    refine xv_al0 fX5_setKind_14 ?_
    refine xv_getR fX5_setKind_15 gX5_20 rfl (sx_1 _ _) (rx_1_2 _) ?_
    refine xv_il1 fX5_setKind_18 ?_
    refine xv_il3 fX5_setKind_19 ?_
    refine xv_zastN fX5_setKind_20 (sx_14 _ _) (⟨hp, by decide⟩) (hy) ?_
    exact xv_vret fX5_setKind_21 rfl xv_eq_i

/-- the lowest free cell -/
noncomputable def xLow (I : xv_I) (p : Nat) : Int32 := fsP (fun k => I (3 + p) k = 0) 12

theorem l_lowestFree (n : Nat) (c : Nat × Nat) (I : xv_I) (J : xv_J) {p : Nat} (hp : p < 10) : ∀ (m k : Nat) , k + m = 12 → (∀ j, j < k → ¬ I (3 + p) j = 0) → xv_W mX5_lowestFree 2 0 0 (xv_eq (.inl (some (.int (xLow I p)))) (sx n c) (I) (rx c) J) 0 0 (sx n c) I (rx c) J 2 [some (.ref 1), some (.int (nI p)), some (.int (nI k))] [] := by
  intro m
  induction m with
  | zero =>
    intro k  hm i0
    obtain rfl : k = 12 := by omega
    refine xv_il2 fX5_lowestFree_2 ?_
    refine xv_k fX5_lowestFree_3 ?_
    refine xv_ic_ge fX5_lowestFree_5 (fun h_5 => ?_) (fun h_5 => ?_)
    · refine xv_k fX5_lowestFree_25 ?_
      exact xv_iret fX5_lowestFree_26 rfl rfl (xv_eq_I (by rw [xLow, fsP_no (P := fun k => I (3 + p) k = 0) i0]) rfl)
    · exact absurd (nI_le (Nat.le_refl _) (by decide)) h_5
  | succ m ih =>
    intro k  hm i0
    have hk : k < 12 := by omega
    show xv_W mX5_lowestFree 2 0 0 _ 0 0 (sx n c) I (rx c) J 2 [some (.ref 1), some (.int (nI p)), some (.int (nI k))] []
    refine xv_il2 fX5_lowestFree_2 ?_
    refine xv_k fX5_lowestFree_3 ?_
    refine xv_ic_ge fX5_lowestFree_5 (fun h_5 => ?_) (fun h_5 => ?_)
    · exact absurd h_5 (nI_ge hk (by decide))
    · refine xv_al0 fX5_lowestFree_8 ?_
      refine xv_il1 fX5_lowestFree_9 ?_
      refine xv_il2 fX5_lowestFree_10 ?_
      refine xv_callV2R (c_at n c _ J hp hk) fX5_lowestFree_11 YX5_at VX5_at lX5_48 rfl rfl (sx_1 _ _) (Nat.le_of_ble_eq_true rfl) (by decide) (by decide) (by decide) ?_
      refine xv_if_ne fX5_lowestFree_14 (fun h_14 => ?_) (fun h_14 => ?_)
      · refine xv_iincN2 (a := 1) fX5_lowestFree_19 (by decide) ?_
        refine xv_goto fX5_lowestFree_22 ?_
        exact ih (k + 1) (by omega) (lt_or i0 h_14)
      · refine xv_il2 fX5_lowestFree_17 ?_
        exact xv_iret fX5_lowestFree_18 rfl rfl (xv_eq_I (by rw [xLow, fsP_eq (P := fun k => I (3 + p) k = 0) i0 h_14 hk]) rfl)

theorem c_lowestFree (n : Nat) (c : Nat × Nat) (I : xv_I) (J : xv_J) {p : Nat} (hp : p < 10) : xv_Met mX5_lowestFree 2 0 0 (sx n c) I (rx c) J [.ref 1, .int (nI p)] (xv_eq (.inl (some (.int (xLow I p)))) (sx n c) (I) (rx c) J) := by
  refine xv_Met.of (by decide +kernel) (Nat.le_of_ble_eq_true rfl) (List.forall_mem_cons.mpr ⟨rfl, List.forall_mem_cons.mpr ⟨rfl, fun _ h => nomatch h⟩⟩) ?_
  show xv_W mX5_lowestFree 2 0 0 _ 0 0 (sx n c) I (rx c) J 0 [some (.ref 1), some (.int (nI p)), none] []
  refine xv_k fX5_lowestFree_0 ?_
  refine xv_is2 fX5_lowestFree_1 ?_
  exact l_lowestFree n c I J hp 12 0 rfl lt_no

def xPl1 (I : xv_I) (x : Int32) (p : Nat) (a : Int32) : Int32 := it (fun k a => if I (3 + p) k = x then a ||| nI (2 ^ (p / 2)) else a) 12 0 a
def xPl (I : xv_I) (x : Int32) : Int32 := it (xPl1 I x) 10 0 (nI 0)
theorem l_plates1 (n : Nat) (c : Nat × Nat) (I : xv_I) (J : xv_J) {p : Nat} {x : Int32} (hp : p < 10) {Q : xv_Q} : ∀ (m k : Nat) (a : Int32), k + m = 12 → xv_W mX5_platesOf 2 0 0 Q 0 0 (sx n c) I (rx c) J 44 [some (.ref 1), some (.int x), some (.int (it (fun k a => if I (3 + p) k = x then a ||| nI (2 ^ (p / 2)) else a) m k a)), some (.int (nI p)), some (.int (nI 12))] [] → xv_W mX5_platesOf 2 0 0 Q 0 0 (sx n c) I (rx c) J 13 [some (.ref 1), some (.int x), some (.int a), some (.int (nI p)), some (.int (nI k))] [] := by
  intro m
  induction m with
  | zero =>
    intro k a hm  hx
    obtain rfl : k = 12 := by omega
    refine xv_il4 fX5_platesOf_13 ?_
    refine xv_k fX5_platesOf_15 ?_
    refine xv_ic_ge fX5_platesOf_17 (fun h_17 => ?_) (fun h_17 => ?_)
    · exact hx
    · exact absurd (nI_le (Nat.le_refl _) (by decide)) h_17
  | succ m ih =>
    intro k a hm  hx
    have hk : k < 12 := by omega
    show xv_W mX5_platesOf 2 0 0 _ 0 0 (sx n c) I (rx c) J 13 [some (.ref 1), some (.int x), some (.int a), some (.int (nI p)), some (.int (nI k))] []
    refine xv_il4 fX5_platesOf_13 ?_
    refine xv_k fX5_platesOf_15 ?_
    refine xv_ic_ge fX5_platesOf_17 (fun h_17 => ?_) (fun h_17 => ?_)
    · exact absurd h_17 (nI_ge hk (by decide))
    · refine xv_al0 fX5_platesOf_20 ?_
      refine xv_il3 fX5_platesOf_21 ?_
      refine xv_il4 fX5_platesOf_22 ?_
      refine xv_callV2R (c_at n c _ J hp hk) fX5_platesOf_24 YX5_at VX5_at lX5_48 rfl rfl (sx_1 _ _) (Nat.le_of_ble_eq_true rfl) (by decide) (by decide) (by decide) ?_
      refine xv_il1 fX5_platesOf_27 ?_
      refine xv_ic_ne fX5_platesOf_28 (fun h_28 => ?_) (fun h_28 => ?_)
      · refine xv_iincN4 (a := 1) fX5_platesOf_38 (by decide) ?_
        refine xv_goto fX5_platesOf_41 ?_
        exact ih (k + 1) _ (by omega) (by rw [show it (fun k a => if I (3 + p) k = x then a ||| nI (2 ^ (p / 2)) else a) (m + 1) k a = it (fun k a => if I (3 + p) k = x then a ||| nI (2 ^ (p / 2)) else a) m (k + 1) (if I (3 + p) k = x then a ||| nI (2 ^ (p / 2)) else a) from rfl, if_neg h_28] at hx; exact hx)
      · refine xv_il2 fX5_platesOf_31 ?_
        refine xv_il3 fX5_platesOf_32 ?_
        refine xv_callS1R (c_plateOf n c _ J hp) fX5_platesOf_33 YX10_plateOf VX10_plateOf lX5_44 rfl (Nat.le_of_ble_eq_true rfl) (by decide) (by decide) (by decide) ?_
        refine xv_ior fX5_platesOf_36 ?_
        refine xv_is2 fX5_platesOf_37 ?_
        refine xv_iincN4 (a := 1) fX5_platesOf_38 (by decide) ?_
        refine xv_goto fX5_platesOf_41 ?_
        exact ih (k + 1) _ (by omega) (by rw [show it (fun k a => if I (3 + p) k = x then a ||| nI (2 ^ (p / 2)) else a) (m + 1) k a = it (fun k a => if I (3 + p) k = x then a ||| nI (2 ^ (p / 2)) else a) m (k + 1) (if I (3 + p) k = x then a ||| nI (2 ^ (p / 2)) else a) from rfl, if_pos h_28] at hx; exact hx)

theorem l_plates (n : Nat) (c : Nat × Nat) (I : xv_I) (J : xv_J) {x : Int32} {Q : xv_Q} : ∀ (m k : Nat) (a : Int32) (l4 : Option Value), k + m = 10 → (∀ l4, xv_W mX5_platesOf 2 0 0 Q 0 0 (sx n c) I (rx c) J 50 (some (.ref 1) :: some (.int x) :: some (.int (it (xPl1 I x) m k a)) :: some (.int (nI 10)) :: l4 :: []) []) → xv_W mX5_platesOf 2 0 0 Q 0 0 (sx n c) I (rx c) J 4 (some (.ref 1) :: some (.int x) :: some (.int a) :: some (.int (nI k)) :: l4 :: []) [] := by
  intro m
  induction m with
  | zero =>
    intro k a l4 hm i0
    obtain rfl : k = 10 := by omega
    refine xv_il3 fX5_platesOf_4 ?_
    refine xv_k fX5_platesOf_5 ?_
    refine xv_ic_ge fX5_platesOf_7 (fun h_7 => ?_) (fun h_7 => ?_)
    · exact i0 _
    · exact absurd (nI_le (Nat.le_refl _) (by decide)) h_7
  | succ m ih =>
    intro k a l4 hm i0
    have hk : k < 10 := by omega
    show xv_W mX5_platesOf 2 0 0 _ 0 0 (sx n c) I (rx c) J 4 (some (.ref 1) :: some (.int x) :: some (.int a) :: some (.int (nI k)) :: l4 :: []) []
    refine xv_il3 fX5_platesOf_4 ?_
    refine xv_k fX5_platesOf_5 ?_
    refine xv_ic_ge fX5_platesOf_7 (fun h_7 => ?_) (fun h_7 => ?_)
    · exact absurd h_7 (nI_ge hk (by decide))
    · refine xv_k fX5_platesOf_10 ?_
      refine xv_is4 fX5_platesOf_11 ?_
      refine l_plates1 n c I J hk 12 0 _ rfl ?_
      refine xv_iincN3 (a := 1) fX5_platesOf_44 (by decide) ?_
      refine xv_goto fX5_platesOf_47 ?_
      exact ih (k + 1) _ _ (by omega) i0

theorem c_platesOf (n : Nat) (c : Nat × Nat) (I : xv_I) (J : xv_J) {x : Int32} : xv_Met mX5_platesOf 2 0 0 (sx n c) I (rx c) J [.ref 1, .int x] (xv_eq (.inl (some (.int (xPl I x)))) (sx n c) (I) (rx c) J) := by
  refine xv_Met.of (by decide +kernel) (Nat.le_of_ble_eq_true rfl) (List.forall_mem_cons.mpr ⟨rfl, List.forall_mem_cons.mpr ⟨rfl, fun _ h => nomatch h⟩⟩) ?_
  show xv_W mX5_platesOf 2 0 0 _ 0 0 (sx n c) I (rx c) J 0 [some (.ref 1), some (.int x), none, none, none] []
  refine xv_k fX5_platesOf_0 ?_
  refine xv_is2 fX5_platesOf_1 ?_
  refine xv_k fX5_platesOf_2 ?_
  refine xv_is3 fX5_platesOf_3 ?_
  exact l_plates n c I J (x := x) 10 0 _ none rfl (fun l4 => by exact xv_il2 fX5_platesOf_50 (xv_iret fX5_platesOf_51 rfl rfl (xv_eq_I rfl rfl)))

/-- a rectangle of free cells -/
abbrev xFreeR (I : xv_I) (p f w h : Nat) : Prop := ∀ d, d < h → ∀ r, r < w → I (3 + p) (f + 3 * d + r) = 0

theorem l_isFR1 (n : Nat) (c : Nat × Nat) (I : xv_I) (J : xv_J) {p f w h d : Nat} (hp : p < 10) (hw : w ≤ 3) (hb : f + 3 * h + w ≤ 15) (hd : d < h) : ∀ (m k : Nat) , k + m = w → (∀ j, j < k → I (3 + p) (f + 3 * d + j) = 0) → ((∀ r, r < w → I (3 + p) (f + 3 * d + r) = 0) → xv_W mX5_isFreeRectangle 2 0 0 (xv_eq (.inl (some (.int (bi (xFreeR I p f w h))))) (sx n c) (I) (rx c) J) 0 0 (sx n c) I (rx c) J 44 (some (.ref 1) :: some (.int (nI p)) :: some (.int (nI f)) :: some (.int (nI w)) :: some (.int (nI h)) :: some (.int (nI d)) :: some (.int (nI w)) :: []) []) → xv_W mX5_isFreeRectangle 2 0 0 (xv_eq (.inl (some (.int (bi (xFreeR I p f w h))))) (sx n c) (I) (rx c) J) 0 0 (sx n c) I (rx c) J 13 (some (.ref 1) :: some (.int (nI p)) :: some (.int (nI f)) :: some (.int (nI w)) :: some (.int (nI h)) :: some (.int (nI d)) :: some (.int (nI k)) :: []) [] := by
  intro m
  induction m with
  | zero =>
    intro k  hm i0 i1
    obtain rfl : k = w := by omega
    refine xv_il6 fX5_isFreeRectangle_13 ?_
    refine xv_il3 fX5_isFreeRectangle_15 ?_
    refine xv_ic_ge fX5_isFreeRectangle_16 (fun h_16 => ?_) (fun h_16 => ?_)
    · exact i1 i0
    · exact absurd (nI_le (Nat.le_refl _) (by omega)) h_16
  | succ m ih =>
    intro k  hm i0 i1
    have hk : k < w := by omega
    show xv_W mX5_isFreeRectangle 2 0 0 _ 0 0 (sx n c) I (rx c) J 13 (some (.ref 1) :: some (.int (nI p)) :: some (.int (nI f)) :: some (.int (nI w)) :: some (.int (nI h)) :: some (.int (nI d)) :: some (.int (nI k)) :: []) []
    refine xv_il6 fX5_isFreeRectangle_13 ?_
    refine xv_il3 fX5_isFreeRectangle_15 ?_
    refine xv_ic_ge fX5_isFreeRectangle_16 (fun h_16 => ?_) (fun h_16 => ?_)
    · exact absurd h_16 (nI_ge hk (by omega))
    · refine xv_al0 fX5_isFreeRectangle_19 ?_
      refine xv_il1 fX5_isFreeRectangle_20 ?_
      refine xv_il2 fX5_isFreeRectangle_21 ?_
      refine xv_k fX5_isFreeRectangle_22 ?_
      refine xv_il5 fX5_isFreeRectangle_23 ?_
      refine xv_imul fX5_isFreeRectangle_25 ?_
      refine xv_iadd fX5_isFreeRectangle_26 ?_
      refine xv_il6 fX5_isFreeRectangle_27 ?_
      refine xv_iadd fX5_isFreeRectangle_29 ?_
      refine xv_eqi (y := nI (f + 3 * d + k)) (by rw [nI_mul, nI_add, nI_add]) ?_
      refine xv_callV2R (c_at n c _ J hp (k := f + 3 * d + k) (by omega)) fX5_isFreeRectangle_30 YX5_at VX5_at lX5_48 rfl rfl (sx_1 _ _) (Nat.le_of_ble_eq_true rfl) (by decide) (by decide) (by decide) ?_
      refine xv_if_eq fX5_isFreeRectangle_33 (fun h_33 => ?_) (fun h_33 => ?_)
      · refine xv_iincN6 (a := 1) fX5_isFreeRectangle_38 (by decide) ?_
        refine xv_goto fX5_isFreeRectangle_41 ?_
        exact ih (k + 1) (by omega) (lt_or i0 h_33) i1
      · refine xv_k fX5_isFreeRectangle_36 ?_
        exact xv_iret fX5_isFreeRectangle_37 rfl rfl (xv_eq_I (by rw [bi_f (fun h9 => h_33 (h9 d hd k hk))]) rfl)

theorem l_isFR (n : Nat) (c : Nat × Nat) (I : xv_I) (J : xv_J) {p f w h : Nat} (hp : p < 10) (hw : w ≤ 3) (hb : f + 3 * h + w ≤ 15) : ∀ (m k : Nat) (l6 : Option Value), k + m = h → (∀ d, d < k → ∀ r, r < w → I (3 + p) (f + 3 * d + r) = 0) → xv_W mX5_isFreeRectangle 2 0 0 (xv_eq (.inl (some (.int (bi (xFreeR I p f w h))))) (sx n c) (I) (rx c) J) 0 0 (sx n c) I (rx c) J 3 (some (.ref 1) :: some (.int (nI p)) :: some (.int (nI f)) :: some (.int (nI w)) :: some (.int (nI h)) :: some (.int (nI k)) :: l6 :: []) [] := by
  intro m
  induction m with
  | zero =>
    intro k l6 hm i0
    obtain rfl : k = h := by omega
    refine xv_il5 fX5_isFreeRectangle_3 ?_
    refine xv_il4 fX5_isFreeRectangle_5 ?_
    refine xv_ic_ge fX5_isFreeRectangle_7 (fun h_7 => ?_) (fun h_7 => ?_)
    · refine xv_k fX5_isFreeRectangle_50 ?_
      exact xv_iret fX5_isFreeRectangle_51 rfl rfl (xv_eq_I (by rw [bi_t i0]) rfl)
    · exact absurd (nI_le (Nat.le_refl _) (by omega)) h_7
  | succ m ih =>
    intro k l6 hm i0
    have hk : k < h := by omega
    show xv_W mX5_isFreeRectangle 2 0 0 _ 0 0 (sx n c) I (rx c) J 3 (some (.ref 1) :: some (.int (nI p)) :: some (.int (nI f)) :: some (.int (nI w)) :: some (.int (nI h)) :: some (.int (nI k)) :: l6 :: []) []
    refine xv_il5 fX5_isFreeRectangle_3 ?_
    refine xv_il4 fX5_isFreeRectangle_5 ?_
    refine xv_ic_ge fX5_isFreeRectangle_7 (fun h_7 => ?_) (fun h_7 => ?_)
    · exact absurd h_7 (nI_ge hk (by omega))
    · refine xv_k fX5_isFreeRectangle_10 ?_
      refine xv_is6 fX5_isFreeRectangle_11 ?_
      refine l_isFR1 n c I J hp hw hb hk w 0 (by omega) lt_no (fun i1 => ?_)
      refine xv_iincN5 (a := 1) fX5_isFreeRectangle_44 (by decide) ?_
      refine xv_goto fX5_isFreeRectangle_47 ?_
      exact ih (k + 1) _ (by omega) (lt_or i0 i1)

theorem c_isFR (n : Nat) (c : Nat × Nat) (I : xv_I) (J : xv_J) {p f w h : Nat} (hp : p < 10) (hw : w ≤ 3) (hb : f + 3 * h + w ≤ 15) : xv_Met mX5_isFreeRectangle 2 0 0 (sx n c) I (rx c) J [.ref 1, .int (nI p), .int (nI f), .int (nI w), .int (nI h)] (xv_eq (.inl (some (.int (bi (xFreeR I p f w h))))) (sx n c) (I) (rx c) J) := by
  refine xv_Met.of (by decide +kernel) (Nat.le_of_ble_eq_true rfl) (List.forall_mem_cons.mpr ⟨rfl, List.forall_mem_cons.mpr ⟨rfl, List.forall_mem_cons.mpr ⟨rfl, List.forall_mem_cons.mpr ⟨rfl, List.forall_mem_cons.mpr ⟨rfl, fun _ h => nomatch h⟩⟩⟩⟩⟩) ?_
  show xv_W mX5_isFreeRectangle 2 0 0 _ 0 0 (sx n c) I (rx c) J 0 [some (.ref 1), some (.int (nI p)), some (.int (nI f)), some (.int (nI w)), some (.int (nI h)), none, none] []
  refine xv_k fX5_isFreeRectangle_0 ?_
  refine xv_is5 fX5_isFreeRectangle_1 ?_
  exact l_isFR n c I J hp hw hb h 0 none (by omega) lt_no

/-- whether an advertisement's rectangle may begin at a cell -/
abbrev xFits (I : xv_I) (p w h j : Nat) : Prop := j % 3 + w ≤ 3 ∧ j / 3 + h ≤ 4 ∧ xFreeR I p j w h
noncomputable def xFR (I : xv_I) (p w h : Nat) : Int32 := fsP (xFits I p w h) 12

theorem l_FR1 (n : Nat) (c : Nat × Nat) (I : xv_I) (J : xv_J) {p w h r : Nat} (hp : p < 10) (hw : 1 ≤ w ∧ w ≤ 3) (hh : 1 ≤ h ∧ h ≤ 4) (hr : r + h ≤ 4) : ∀ (m k : Nat), k + m = 4 → k + w ≤ 4 → (∀ j, j < 3 * r + k → ¬ xFits I p w h j) → ((∀ l5, (∀ j, j < 3 * (r + 1) → ¬ xFits I p w h j) → xv_W mX5_freeRectangle 3 0 0 (xv_eq (.inl (some (.int (xFR I p w h)))) (sx n c) (I) (rx c) J) 0 0 (sx n c) I (rx c) J 53 (some (.ref 1) :: some (.int (nI p)) :: some (.int (nI w)) :: some (.int (nI h)) :: some (.int (nI r)) :: l5 :: []) [])) → xv_W mX5_freeRectangle 3 0 0 (xv_eq (.inl (some (.int (xFR I p w h)))) (sx n c) (I) (rx c) J) 0 0 (sx n c) I (rx c) J 14 (some (.ref 1) :: some (.int (nI p)) :: some (.int (nI w)) :: some (.int (nI h)) :: some (.int (nI r)) :: some (.int (nI k)) :: []) [] := by
  intro m
  induction m with
  | zero =>
    intro k hm hk i0 i1
    show xv_W mX5_freeRectangle 3 0 0 (xv_eq (.inl (some (.int (xFR I p w h)))) (sx n c) (I) (rx c) J) 0 0 (sx n c) I (rx c) J 14 (some (.ref 1) :: some (.int (nI p)) :: some (.int (nI w)) :: some (.int (nI h)) :: some (.int (nI r)) :: some (.int (nI k)) :: []) []
    refine xv_il5 fX5_freeRectangle_14 ?_
    refine xv_il2 fX5_freeRectangle_16 ?_
    refine xv_iadd fX5_freeRectangle_17 ?_
    rw [nI_add]
    refine xv_k fX5_freeRectangle_18 ?_
    refine xv_ic_gt fX5_freeRectangle_19 (fun h_19 => ?_) (fun h_19 => ?_)
    · exact i1 _ (fun j hj => if h9 : j < 3 * r + k then i0 j h9 else fun hx => by have := hx.1; omega)
    · exact absurd (nI_lt (by omega) (by omega)) h_19
  | succ m ih =>
    intro k hm hk i0 i1
    show xv_W mX5_freeRectangle 3 0 0 (xv_eq (.inl (some (.int (xFR I p w h)))) (sx n c) (I) (rx c) J) 0 0 (sx n c) I (rx c) J 14 (some (.ref 1) :: some (.int (nI p)) :: some (.int (nI w)) :: some (.int (nI h)) :: some (.int (nI r)) :: some (.int (nI k)) :: []) []
    refine xv_il5 fX5_freeRectangle_14 ?_
    refine xv_il2 fX5_freeRectangle_16 ?_
    refine xv_iadd fX5_freeRectangle_17 ?_
    rw [nI_add]
    refine xv_k fX5_freeRectangle_18 ?_
    refine xv_ic_gt fX5_freeRectangle_19 (fun h_19 => ?_) (fun h_19 => ?_)
    · exact i1 _ (fun j hj => if h9 : j < 3 * r + k then i0 j h9 else fun hx => by
        have := hx.1
        have h8 : 3 < k + w := by
          rcases Nat.lt_or_ge 3 (k + w) with q9 | q9
          · exact q9
          · exact absurd h_19 (nI_nlt q9 (by omega))
        omega)
    · obtain hk3 : k + w ≤ 3 := by
        rcases Nat.lt_or_ge 3 (k + w) with q9 | q9
        · exact absurd (nI_lt q9 (by omega)) h_19
        · exact q9
      refine xv_al0 fX5_freeRectangle_22 ?_
      refine xv_il1 fX5_freeRectangle_23 ?_
      refine xv_k fX5_freeRectangle_24 ?_
      refine xv_il4 fX5_freeRectangle_25 ?_
      refine xv_imul fX5_freeRectangle_27 ?_
      refine xv_il5 fX5_freeRectangle_28 ?_
      refine xv_iadd fX5_freeRectangle_30 ?_
      rw [nI_mul, nI_add]
      refine xv_il2 fX5_freeRectangle_31 ?_
      refine xv_il3 fX5_freeRectangle_32 ?_
      refine xv_callV4R (c_isFR n c _ J hp (f := 3 * r + k) (w := w) (h := h) hw.2 (by omega)) fX5_freeRectangle_33 YX5_isFreeRectangle VX5_isFreeRectangle lX5_56 rfl rfl (sx_1 _ _) (Nat.le_of_ble_eq_true rfl) (by decide) (by decide) (by decide) ?_
      refine xv_if_eq fX5_freeRectangle_36 (fun h_36 => ?_) (fun h_36 => ?_)
      · refine xv_iincN5 (a := 1) fX5_freeRectangle_47 (by decide) ?_
        refine xv_goto fX5_freeRectangle_50 ?_
        obtain h_36' : ¬ xFits I p w h (3 * r + k) := fun hx => by
          rw [bi_t hx.2.2] at h_36
          exact absurd h_36 (by decide)
        exact ih (k + 1) (by omega) (by omega) (lt_or i0 h_36') i1
      · refine xv_k fX5_freeRectangle_39 ?_
        refine xv_il4 fX5_freeRectangle_40 ?_
        refine xv_imul fX5_freeRectangle_42 ?_
        refine xv_il5 fX5_freeRectangle_43 ?_
        refine xv_iadd fX5_freeRectangle_45 ?_
        rw [nI_mul, nI_add]
        exact xv_iret fX5_freeRectangle_46 rfl rfl (xv_eq_I (by rw [xFR, fsP_eq (k := 3 * r + k) i0 ⟨by omega, by omega, Classical.byContradiction fun hx => h_36 (bi_f hx)⟩ (by omega)]) rfl)

theorem l_FR (n : Nat) (c : Nat × Nat) (I : xv_I) (J : xv_J) {p w h : Nat} (hp : p < 10) (hw : 1 ≤ w ∧ w ≤ 3) (hh : 1 ≤ h ∧ h ≤ 4) : ∀ (m k : Nat) (l5 : Option Value), k + m = 5 → k + h ≤ 5 → (∀ j, j < 3 * k → ¬ xFits I p w h j) → xv_W mX5_freeRectangle 3 0 0 (xv_eq (.inl (some (.int (xFR I p w h)))) (sx n c) (I) (rx c) J) 0 0 (sx n c) I (rx c) J 3 (some (.ref 1) :: some (.int (nI p)) :: some (.int (nI w)) :: some (.int (nI h)) :: some (.int (nI k)) :: l5 :: []) [] := by
  intro m
  induction m with
  | zero =>
    intro k l5 hm hk i0
    show xv_W mX5_freeRectangle 3 0 0 (xv_eq (.inl (some (.int (xFR I p w h)))) (sx n c) (I) (rx c) J) 0 0 (sx n c) I (rx c) J 3 (some (.ref 1) :: some (.int (nI p)) :: some (.int (nI w)) :: some (.int (nI h)) :: some (.int (nI k)) :: l5 :: []) []
    refine xv_il4 fX5_freeRectangle_3 ?_
    refine xv_il3 fX5_freeRectangle_5 ?_
    refine xv_iadd fX5_freeRectangle_6 ?_
    rw [nI_add]
    refine xv_k fX5_freeRectangle_7 ?_
    refine xv_ic_gt fX5_freeRectangle_8 (fun h_8 => ?_) (fun h_8 => ?_)
    · refine xv_k fX5_freeRectangle_59 ?_
      exact xv_iret fX5_freeRectangle_60 rfl rfl (xv_eq_I (by rw [xFR, fsP_no (fun j hj => if h9 : j < 3 * k then i0 j h9 else fun hx => by
      have := hx.2.1
      skip
      omega)]) rfl)
    · exact absurd (nI_lt (by omega) (by omega)) h_8
  | succ m ih =>
    intro k l5 hm hk i0
    show xv_W mX5_freeRectangle 3 0 0 (xv_eq (.inl (some (.int (xFR I p w h)))) (sx n c) (I) (rx c) J) 0 0 (sx n c) I (rx c) J 3 (some (.ref 1) :: some (.int (nI p)) :: some (.int (nI w)) :: some (.int (nI h)) :: some (.int (nI k)) :: l5 :: []) []
    refine xv_il4 fX5_freeRectangle_3 ?_
    refine xv_il3 fX5_freeRectangle_5 ?_
    refine xv_iadd fX5_freeRectangle_6 ?_
    rw [nI_add]
    refine xv_k fX5_freeRectangle_7 ?_
    refine xv_ic_gt fX5_freeRectangle_8 (fun h_8 => ?_) (fun h_8 => ?_)
    · refine xv_k fX5_freeRectangle_59 ?_
      exact xv_iret fX5_freeRectangle_60 rfl rfl (xv_eq_I (by rw [xFR, fsP_no (fun j hj => if h9 : j < 3 * k then i0 j h9 else fun hx => by
      have := hx.2.1
      have h8 : 4 < k + h := by
        rcases Nat.lt_or_ge 4 (k + h) with q9 | q9
        · exact q9
        · exact absurd h_8 (nI_nlt q9 (by omega))
      omega)]) rfl)
    · obtain hk4 : k + h ≤ 4 := by
        rcases Nat.lt_or_ge 4 (k + h) with q9 | q9
        · exact absurd (nI_lt q9 (by omega)) h_8
        · exact q9
      refine xv_k fX5_freeRectangle_11 ?_
      refine xv_is5 fX5_freeRectangle_12 ?_
      refine l_FR1 n c I J hp hw hh hk4 4 0 (by omega) (by omega) (by simpa using i0) (fun l5 i1 => ?_)
      refine xv_iincN4 (a := 1) fX5_freeRectangle_53 (by decide) ?_
      refine xv_goto fX5_freeRectangle_56 ?_
      exact ih (k + 1) _ (by omega) (by omega) i1

theorem c_FR (n : Nat) (c : Nat × Nat) (I : xv_I) (J : xv_J) {p w h : Nat} (hp : p < 10) (hw : 1 ≤ w ∧ w ≤ 3) (hh : 1 ≤ h ∧ h ≤ 4) : xv_Met mX5_freeRectangle 3 0 0 (sx n c) I (rx c) J [.ref 1, .int (nI p), .int (nI w), .int (nI h)] (xv_eq (.inl (some (.int (xFR I p w h)))) (sx n c) (I) (rx c) J) := by
  refine xv_Met.of (by decide +kernel) (Nat.le_of_ble_eq_true rfl) (List.forall_mem_cons.mpr ⟨rfl, List.forall_mem_cons.mpr ⟨rfl, List.forall_mem_cons.mpr ⟨rfl, List.forall_mem_cons.mpr ⟨rfl, fun _ h => nomatch h⟩⟩⟩⟩) ?_
  show xv_W mX5_freeRectangle 3 0 0 _ 0 0 (sx n c) I (rx c) J 0 [some (.ref 1), some (.int (nI p)), some (.int (nI w)), some (.int (nI h)), none, none] []
  refine xv_k fX5_freeRectangle_0 ?_
  refine xv_is4 fX5_freeRectangle_1 ?_
  exact l_FR n c I J hp hw hh 5 0 none (by omega) (by omega) (fun j hj => absurd hj (by omega))

theorem xPut_ad (I : xv_I) {p k : Nat} (x : Int32) {a : Nat} (j : Nat) (ha : 100 ≤ a) (hp : p < 10) : xPut I p k x a j = I a j := by
  unfold xPut
  rw [xv_u_ne _ _ _ (by omega), xv_u_ne _ _ _ (by omega), xv_u_ne _ _ _ (by omega)]
/-- the cells of a rectangle get something -/
def xFill1 (p f w : Nat) (x : Int32) (d : Nat) (I : xv_I) : xv_I := it (fun r I => xPut I p (f + 3 * d + r) x) w 0 I
def xFill (p f w h : Nat) (x : Int32) (I : xv_I) : xv_I := it (xFill1 p f w x) h 0 I
/-- an advertisement that lies at a place -/
abbrev xLies (I : xv_I) (a p f w h : Nat) : Prop := I a 6 = nI p ∧ I a 7 = nI f ∧ I a 1 = nI w ∧ I a 2 = nI h
theorem xLies_put {I : xv_I} {a p f w h q k : Nat} {x : Int32} (ha : 100 ≤ a) (hq : q < 10) (hl : xLies I a p f w h) : xLies (xPut I q k x) a p f w h := by
  unfold xLies
  rw [xPut_ad _ _ _ ha hq, xPut_ad _ _ _ ha hq, xPut_ad _ _ _ ha hq, xPut_ad _ _ _ ha hq]
  exact hl

theorem l_fill1 (n : Nat) (c : Nat × Nat) (J : xv_J) {a p f w h d : Nat} {x : Int32} (ha : sx n c a = some (.inl 0)) (ha2 : 100 ≤ a) (hp : p < 10) (hb : f + 3 * h + w ≤ 15) (hd : d < h) (hw : w ≤ 3) {Q : xv_Q} : ∀ (m k : Nat) (I : xv_I), k + m = w → (xLies I a p f w h) → xv_W mX5_fillRectangle 2 0 0 Q 0 0 (sx n c) (it (fun r I => xPut I p (f + 3 * d + r) x) m k I) (rx c) J 48 (some (.ref 1) :: some (.ref a) :: some (.int x) :: some (.int (nI d)) :: some (.int (nI w)) :: []) [] → xv_W mX5_fillRectangle 2 0 0 Q 0 0 (sx n c) I (rx c) J 13 (some (.ref 1) :: some (.ref a) :: some (.int x) :: some (.int (nI d)) :: some (.int (nI k)) :: []) [] := by
  intro m
  induction m with
  | zero =>
    intro k I hm i0 hx
    obtain rfl : k = w := by omega
    refine xv_il4 fX5_fillRectangle_13 ?_
    refine xv_al1 fX5_fillRectangle_15 ?_
    refine xv_getI fX5_fillRectangle_16 gX5_65 rfl ha ?_
    rw [i0.2.2.1]
    refine xv_ic_ge fX5_fillRectangle_19 (fun h_19 => ?_) (fun h_19 => ?_)
    · exact hx
    · exact absurd (nI_le (Nat.le_refl _) (by omega)) h_19
  | succ m ih =>
    intro k I hm i0 hx
    have hk : k < w := by omega
    show xv_W mX5_fillRectangle 2 0 0 _ 0 0 (sx n c) I (rx c) J 13 (some (.ref 1) :: some (.ref a) :: some (.int x) :: some (.int (nI d)) :: some (.int (nI k)) :: []) []
    refine xv_il4 fX5_fillRectangle_13 ?_
    refine xv_al1 fX5_fillRectangle_15 ?_
    refine xv_getI fX5_fillRectangle_16 gX5_65 rfl ha ?_
    rw [i0.2.2.1]
    refine xv_ic_ge fX5_fillRectangle_19 (fun h_19 => ?_) (fun h_19 => ?_)
    · exact absurd h_19 (nI_ge hk (by omega))
    · refine xv_al0 fX5_fillRectangle_22 ?_
      refine xv_al1 fX5_fillRectangle_23 ?_
      refine xv_getI fX5_fillRectangle_24 gX5_68 rfl ha ?_
      rw [i0.1]
      refine xv_al1 fX5_fillRectangle_27 ?_
      refine xv_getI fX5_fillRectangle_28 gX5_71 rfl ha ?_
      rw [i0.2.1]
      refine xv_k fX5_fillRectangle_31 ?_
      refine xv_il3 fX5_fillRectangle_32 ?_
      refine xv_imul fX5_fillRectangle_33 ?_
      refine xv_iadd fX5_fillRectangle_34 ?_
      refine xv_il4 fX5_fillRectangle_35 ?_
      refine xv_iadd fX5_fillRectangle_37 ?_
      rw [nI_mul, nI_add, nI_add]
      refine xv_il2 fX5_fillRectangle_38 ?_
      refine xv_callV3V (c_put n c _ J hp (k := f + 3 * d + k) (by omega)) fX5_fillRectangle_39 YX5_put VX5_put lX5_52 rfl rfl (sx_1 _ _) (Nat.le_of_ble_eq_true rfl) (by decide) (by decide) (by decide) ?_
      refine xv_iincN4 (a := 1) fX5_fillRectangle_42 (by decide) ?_
      refine xv_goto fX5_fillRectangle_45 ?_
      exact ih (k + 1) _ (by omega) (xLies_put ha2 hp i0) hx

theorem xLies_it {I : xv_I} {a p f w h d : Nat} {x : Int32} (ha : 100 ≤ a) (hp : p < 10) (hl : xLies I a p f w h) : xLies (xFill1 p f w x d I) a p f w h := by
  have : ∀ (m k : Nat) (I : xv_I), xLies I a p f w h → xLies (it (fun r I => xPut I p (f + 3 * d + r) x) m k I) a p f w h := by
    intro m
    induction m with
    | zero => exact fun k I h => h
    | succ m ih => exact fun k I h => ih (k + 1) _ (xLies_put ha hp h)
  exact this w 0 I hl

theorem l_fill (n : Nat) (c : Nat × Nat) (J : xv_J) {a p f w h : Nat} {x : Int32} (ha : sx n c a = some (.inl 0)) (ha2 : 100 ≤ a) (hp : p < 10) (hb : f + 3 * h + w ≤ 15) (hh : h ≤ 4) (hw : w ≤ 3) {Q : xv_Q} : ∀ (m k : Nat) (I : xv_I) (l4 : Option Value), k + m = h → (xLies I a p f w h) → (∀ l4, xv_W mX5_fillRectangle 2 0 0 Q 0 0 (sx n c) (it (xFill1 p f w x) m k I) (rx c) J 54 (some (.ref 1) :: some (.ref a) :: some (.int x) :: some (.int (nI h)) :: l4 :: []) []) → xv_W mX5_fillRectangle 2 0 0 Q 0 0 (sx n c) I (rx c) J 2 (some (.ref 1) :: some (.ref a) :: some (.int x) :: some (.int (nI k)) :: l4 :: []) [] := by
  intro m
  induction m with
  | zero =>
    intro k I l4 hm i0 i1
    obtain rfl : k = h := by omega
    refine xv_il3 fX5_fillRectangle_2 ?_
    refine xv_al1 fX5_fillRectangle_3 ?_
    refine xv_getI fX5_fillRectangle_4 gX5_60 rfl ha ?_
    rw [i0.2.2.2]
    refine xv_ic_ge fX5_fillRectangle_7 (fun h_7 => ?_) (fun h_7 => ?_)
    · exact i1 _
    · exact absurd (nI_le (Nat.le_refl _) (by omega)) h_7
  | succ m ih =>
    intro k I l4 hm i0 i1
    have hk : k < h := by omega
    show xv_W mX5_fillRectangle 2 0 0 _ 0 0 (sx n c) I (rx c) J 2 (some (.ref 1) :: some (.ref a) :: some (.int x) :: some (.int (nI k)) :: l4 :: []) []
    refine xv_il3 fX5_fillRectangle_2 ?_
    refine xv_al1 fX5_fillRectangle_3 ?_
    refine xv_getI fX5_fillRectangle_4 gX5_60 rfl ha ?_
    rw [i0.2.2.2]
    refine xv_ic_ge fX5_fillRectangle_7 (fun h_7 => ?_) (fun h_7 => ?_)
    · exact absurd h_7 (nI_ge hk (by omega))
    · refine xv_k fX5_fillRectangle_10 ?_
      refine xv_is4 fX5_fillRectangle_11 ?_
      refine l_fill1 n c J ha ha2 hp hb hk hw w 0 I (by omega) i0 ?_
      refine xv_iincN3 (a := 1) fX5_fillRectangle_48 (by decide) ?_
      refine xv_goto fX5_fillRectangle_51 ?_
      exact ih (k + 1) _ _ (by omega) (xLies_it ha2 hp i0) i1

theorem c_fill (n : Nat) (c : Nat × Nat) (I : xv_I) (J : xv_J) {a p f w h : Nat} {x : Int32} (ha : sx n c a = some (.inl 0)) (ha2 : 100 ≤ a) (hp : p < 10) (hb : f + 3 * h + w ≤ 15) (hh : h ≤ 4) (hw : w ≤ 3) (hl : xLies I a p f w h) : xv_Met mX5_fillRectangle 2 0 0 (sx n c) I (rx c) J [.ref 1, .ref a, .int x] (xv_eq (.inl none) (sx n c) (xFill p f w h x I) (rx c) J) := by
  refine xv_Met.of (by decide +kernel) (Nat.le_of_ble_eq_true rfl) (List.forall_mem_cons.mpr ⟨rfl, List.forall_mem_cons.mpr ⟨rfl, List.forall_mem_cons.mpr ⟨rfl, fun _ h => nomatch h⟩⟩⟩) ?_
  show xv_W mX5_fillRectangle 2 0 0 _ 0 0 (sx n c) I (rx c) J 0 [some (.ref 1), some (.ref a), some (.int x), none, none] []
  refine xv_k fX5_fillRectangle_0 ?_
  refine xv_is3 fX5_fillRectangle_1 ?_
  exact l_fill n c J ha ha2 hp hb hh hw h 0 I none (by omega) hl (fun l4 => by exact xv_vret fX5_fillRectangle_54 rfl (xv_eq_I rfl rfl))

theorem nI_sa {k s : Nat} (h : s ≤ k + 1) : nI k - nI s + nI 1 = nI (k + 1 - s) := by
  rw [← nI_sub h, ← nI_add, Int32.sub_eq_add_neg, Int32.sub_eq_add_neg, Int32.add_assoc, Int32.add_assoc, Int32.add_comm (-nI s)]
/-- a place that is free, or taken by what goes -/
abbrev xOpen (I : xv_I) (p : Nat) (x : Int32) (k : Nat) : Prop := I (3 + p) (3 * (k % 4) + k / 4) = 0 ∨ I (3 + p) (3 * (k % 4) + k / 4) = x
/-- the first place of so many in a row: m places from k on, after a run -/
noncomputable def xRun (ok : Nat → Prop) (s : Nat) : Nat → Nat → Nat → Int32
  | 0, _, _ => -1
  | m + 1, k, run => @ite _ (ok k) (Classical.propDecidable _) (if s ≤ run + 1 then nI (k + 1 - s) else xRun ok s m (k + 1) (run + 1)) (if s ≤ 0 then nI (k + 1 - s) else xRun ok s m (k + 1) 0)
theorem xRun_y {ok : Nat → Prop} {s m k run : Nat} (h : ok k) : xRun ok s (m + 1) k run = if s ≤ run + 1 then nI (k + 1 - s) else xRun ok s m (k + 1) (run + 1) := by
  rw [xRun, if_pos h]
theorem xRun_n {ok : Nat → Prop} {s m k run : Nat} (h : ¬ ok k) : xRun ok s (m + 1) k run = if s ≤ 0 then nI (k + 1 - s) else xRun ok s m (k + 1) 0 := by
  rw [xRun, if_neg h]

theorem l_freeRun (n : Nat) (c : Nat × Nat) (I : xv_I) (J : xv_J) {p s : Nat} {x : Int32} (hp : p < 10) (hs1 : 0 < s) (hs2 : s ≤ 100) : ∀ (m k : Nat) (run : Nat) (l6 : Option Value), k + m = 12 → (run ≤ k) → xv_W mX5_freeRun 2 0 0 (xv_eq (.inl (some (.int (xRun (xOpen I p x) s m k run)))) (sx n c) (I) (rx c) J) 0 0 (sx n c) I (rx c) J 6 (some (.ref 1) :: some (.int (nI p)) :: some (.int (nI s)) :: some (.int x) :: some (.int (nI run)) :: some (.int (nI k)) :: l6 :: []) [] := by
  intro m
  induction m with
  | zero =>
    intro k run l6 hm i0
    obtain rfl : k = 12 := by omega
    refine xv_il5 fX5_freeRun_6 ?_
    refine xv_k fX5_freeRun_8 ?_
    refine xv_ic_ge fX5_freeRun_10 (fun h_10 => ?_) (fun h_10 => ?_)
    · refine xv_k fX5_freeRun_65 ?_
      exact xv_iret fX5_freeRun_66 rfl rfl (xv_eq_I rfl rfl)
    · exact absurd (nI_le (Nat.le_refl _) (by decide)) h_10
  | succ m ih =>
    intro k run l6 hm i0
    have hk : k < 12 := by omega
    show xv_W mX5_freeRun 2 0 0 _ 0 0 (sx n c) I (rx c) J 6 (some (.ref 1) :: some (.int (nI p)) :: some (.int (nI s)) :: some (.int x) :: some (.int (nI run)) :: some (.int (nI k)) :: l6 :: []) []
    refine xv_il5 fX5_freeRun_6 ?_
    refine xv_k fX5_freeRun_8 ?_
    refine xv_ic_ge fX5_freeRun_10 (fun h_10 => ?_) (fun h_10 => ?_)
    · exact absurd h_10 (nI_ge hk (by decide))
    · refine xv_al0 fX5_freeRun_13 ?_
      refine xv_il1 fX5_freeRun_14 ?_
      refine xv_il5 fX5_freeRun_15 ?_
      refine xv_callS1R (c_cellIn n c I J hk) fX5_freeRun_17 YX10_cellInColumns VX10_cellInColumns lX5_74 rfl (Nat.le_of_ble_eq_true rfl) (by decide) (by decide) (by decide) ?_
      refine xv_callV2R (c_at n c _ J hp (k := 3 * (k % 4) + k / 4) (by omega)) fX5_freeRun_20 YX5_at VX5_at lX5_48 rfl rfl (sx_1 _ _) (Nat.le_of_ble_eq_true rfl) (by decide) (by decide) (by decide) ?_
      refine xv_is6 fX5_freeRun_23 ?_
      refine xv_il6 fX5_freeRun_25 ?_
      refine xv_if_eq fX5_freeRun_27 (fun h_27 => ?_) (fun h_27 => ?_)
      · refine xv_il4 fX5_freeRun_36 ?_
        refine xv_k fX5_freeRun_38 ?_
        refine xv_iadd fX5_freeRun_39 ?_
        rw [nI_add]
        refine xv_goto fX5_freeRun_40 ?_
        refine xv_is4 fX5_freeRun_44 ?_
        refine xv_il4 fX5_freeRun_46 ?_
        refine xv_il2 fX5_freeRun_48 ?_
        refine xv_ic_lt fX5_freeRun_49 (fun h_49 => ?_) (fun h_49 => ?_)
        · refine xv_iincN5 (a := 1) fX5_freeRun_59 (by decide) ?_
          refine xv_goto fX5_freeRun_62 ?_
          obtain hs9 : ¬ s ≤ run + 1 := by
            intro q9
            exact absurd h_49 (nI_nlt q9 (by omega))
          rw [xRun_y (Or.inl h_27), if_neg hs9]
          exact ih (k + 1) (run + 1) _ (by omega) (by omega)
        · refine xv_il5 fX5_freeRun_52 ?_
          refine xv_il2 fX5_freeRun_54 ?_
          refine xv_isub fX5_freeRun_55 ?_
          refine xv_k fX5_freeRun_56 ?_
          refine xv_iadd fX5_freeRun_57 ?_
          exact xv_iret fX5_freeRun_58 rfl rfl (xv_eq_I (by
  have hs9 : s ≤ run + 1 := by
    rcases Nat.lt_or_ge (run + 1) s with q9 | q9
    · exact absurd (nI_lt q9 (by omega)) h_49
    · exact q9
  rw [xRun_y (Or.inl h_27), if_pos hs9, nI_sa (by omega)]) rfl)
      · refine xv_il6 fX5_freeRun_30 ?_
        refine xv_il3 fX5_freeRun_32 ?_
        refine xv_ic_ne fX5_freeRun_33 (fun h_33 => ?_) (fun h_33 => ?_)
        · refine xv_k fX5_freeRun_43 ?_
          refine xv_is4 fX5_freeRun_44 ?_
          refine xv_il4 fX5_freeRun_46 ?_
          refine xv_il2 fX5_freeRun_48 ?_
          refine xv_ic_lt fX5_freeRun_49 (fun h_49 => ?_) (fun h_49 => ?_)
          · refine xv_iincN5 (a := 1) fX5_freeRun_59 (by decide) ?_
            refine xv_goto fX5_freeRun_62 ?_
            rw [xRun_n (fun h9 => h9.elim h_27 h_33), if_neg (by omega)]
            exact ih (k + 1) 0 _ (by omega) (by omega)
          · refine xv_il5 fX5_freeRun_52 ?_
            refine xv_il2 fX5_freeRun_54 ?_
            refine xv_isub fX5_freeRun_55 ?_
            refine xv_k fX5_freeRun_56 ?_
            refine xv_iadd fX5_freeRun_57 ?_
            exact xv_iret fX5_freeRun_58 rfl rfl (absurd (nI_lt hs1 (by omega)) h_49)
        · refine xv_il4 fX5_freeRun_36 ?_
          refine xv_k fX5_freeRun_38 ?_
          refine xv_iadd fX5_freeRun_39 ?_
          rw [nI_add]
          refine xv_goto fX5_freeRun_40 ?_
          refine xv_is4 fX5_freeRun_44 ?_
          refine xv_il4 fX5_freeRun_46 ?_
          refine xv_il2 fX5_freeRun_48 ?_
          refine xv_ic_lt fX5_freeRun_49 (fun h_49 => ?_) (fun h_49 => ?_)
          · refine xv_iincN5 (a := 1) fX5_freeRun_59 (by decide) ?_
            refine xv_goto fX5_freeRun_62 ?_
            obtain hs9 : ¬ s ≤ run + 1 := by
              intro q9
              exact absurd h_49 (nI_nlt q9 (by omega))
            rw [xRun_y (Or.inr h_33), if_neg hs9]
            exact ih (k + 1) (run + 1) _ (by omega) (by omega)
          · refine xv_il5 fX5_freeRun_52 ?_
            refine xv_il2 fX5_freeRun_54 ?_
            refine xv_isub fX5_freeRun_55 ?_
            refine xv_k fX5_freeRun_56 ?_
            refine xv_iadd fX5_freeRun_57 ?_
            exact xv_iret fX5_freeRun_58 rfl rfl (xv_eq_I (by
  have hs9 : s ≤ run + 1 := by
    rcases Nat.lt_or_ge (run + 1) s with q9 | q9
    · exact absurd (nI_lt q9 (by omega)) h_49
    · exact q9
  rw [xRun_y (Or.inr h_33), if_pos hs9, nI_sa (by omega)]) rfl)

theorem c_freeRun (n : Nat) (c : Nat × Nat) (I : xv_I) (J : xv_J) {p s : Nat} {x : Int32} (hp : p < 10) (hs1 : 0 < s) (hs2 : s ≤ 100) : xv_Met mX5_freeRun 2 0 0 (sx n c) I (rx c) J [.ref 1, .int (nI p), .int (nI s), .int x] (xv_eq (.inl (some (.int (xRun (xOpen I p x) s 12 0 0)))) (sx n c) (I) (rx c) J) := by
  refine xv_Met.of (by decide +kernel) (Nat.le_of_ble_eq_true rfl) (List.forall_mem_cons.mpr ⟨rfl, List.forall_mem_cons.mpr ⟨rfl, List.forall_mem_cons.mpr ⟨rfl, List.forall_mem_cons.mpr ⟨rfl, fun _ h => nomatch h⟩⟩⟩⟩) ?_
  show xv_W mX5_freeRun 2 0 0 _ 0 0 (sx n c) I (rx c) J 0 [some (.ref 1), some (.int (nI p)), some (.int (nI s)), some (.int x), none, none, none] []
  refine xv_k fX5_freeRun_0 ?_
  refine xv_is4 fX5_freeRun_1 ?_
  refine xv_k fX5_freeRun_3 ?_
  refine xv_is5 fX5_freeRun_4 ?_
  exact l_freeRun n c I J hp hs1 hs2 12 0 0 none (by omega) (by omega)
