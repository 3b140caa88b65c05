/-- what the law's rows say of a cell -/
def cE (I : xv_I) (p k : Nat) : Int32 := if p < 5 then I 66 (12 * p + k) else I 67 (12 * p + k - 60)
def xCp (p k : Nat) (x : Int32) (I : xv_I) : xv_I := if p < 5 then xv_u I 66 (12 * p + k) x else xv_u I 67 (12 * p + k - 60) x
theorem p_lt5 {p : Nat} (hp : p < 10) (h : ¬ nI 5 ≤ nI p) : p < 5 := Nat.lt_of_not_le fun q => h (nI_le q (by omega))
theorem p_ge5 {p : Nat} (h : nI 5 ≤ nI p) : 5 ≤ p := Nat.le_of_not_lt fun q => nI_ge q (by decide) h
theorem part_tail {x : Int32} {lim : Nat} (h : 0 < lim) (h2 : lim < 2 ^ 31) : ∃ v, v < lim ∧ (x &&& nI 2147483647) - (x &&& nI 2147483647) / nI lim * nI lim = nI v := by
  obtain ⟨y, rfl⟩ : ∃ y, x = nI y := ⟨x.toBitVec.toNat, by
    apply Int32.toBitVec_inj.mp
    show _ = (Int32.ofNat _).toBitVec
    simp⟩
  rw [show (2147483647 : Nat) = 2 ^ 31 - 1 from rfl, fa_mask y 31, nI_rem (Nat.mod_lt _ (by decide)) h2]
  exact ⟨_, Nat.mod_lt _ h, rfl⟩
theorem c_part (n : Nat) (c : Nat × Nat) (I : xv_I) (J : xv_J) {k lim : Nat} (hn : n % 1000 ≤ 260) (hk : k < 200) (h : 0 < lim) (h2 : lim < 2 ^ 31) : xv_Met mL_part 0 0 0 (sx n c) I (rx c) J [.ref 99, .int (nI k), .int (nI lim)] (fun o s i r j => (∃ v, v < lim ∧ o = .inl (some (.int (nI v)))) ∧ s = sx n c ∧ i = I ∧ r = rx c ∧ j = J) := by
  refine xv_Met.of (by decide +kernel) (Nat.le_of_ble_eq_true rfl) (List.forall_mem_cons.mpr ⟨rfl, List.forall_mem_cons.mpr ⟨rfl, List.forall_mem_cons.mpr ⟨rfl, fun _ h => nomatch h⟩⟩⟩) ?_
  show xv_W mL_part 0 0 0 _ 0 0 (sx n c) I (rx c) J 0 [some (.ref 99), some (.int (nI k)), some (.int (nI lim)), none] []
  refine xv_il1 fL_part_0 ?_
  refine xv_al0 fL_part_1 ?_
  refine xv_slen fL_part_2 (sx_99 _ _) ?_
  refine xv_ic_ge fL_part_3 (fun h_3 => ?_) (fun h_3 => ?_)
  · refine xv_k fL_part_12 ?_
    refine xv_il1 fL_part_15 ?_
    refine xv_imul fL_part_16 ?_
    refine xv_eqi (y := nI (709 * k)) (nI_mul _ _) ?_
    refine xv_k fL_part_17 ?_
    refine xv_il1 fL_part_20 ?_
    refine xv_imul fL_part_21 ?_
    refine xv_eqi (y := nI (587 * k)) (nI_mul _ _) ?_
    refine xv_il1 fL_part_22 ?_
    refine xv_imul fL_part_23 ?_
    refine xv_iadd fL_part_24 ?_
    refine xv_is3 fL_part_25 ?_
    refine xv_il3 fL_part_26 ?_
    refine xv_k fL_part_27 ?_
    refine xv_iand fL_part_29 ?_
    refine xv_il2 fL_part_30 ?_
    refine xv_irem fL_part_31 (nI_ne0 h h2) ?_
    obtain ⟨v, hv, e9⟩ := part_tail (lim := lim) h h2
    rw [e9]
    exact xv_iret fL_part_32 rfl rfl ⟨⟨v, hv, rfl⟩, rfl, rfl, rfl, rfl⟩
  · refine xv_al0 fL_part_6 ?_
    refine xv_il1 fL_part_7 ?_
    refine xv_sldN fL_part_8 (sx_99 _ _) (⟨Nat.lt_of_not_le fun q => h_3 (nI_le q (by omega)), by omega⟩) ?_
    refine xv_goto fL_part_9 ?_
    refine xv_is3 fL_part_25 ?_
    refine xv_il3 fL_part_26 ?_
    refine xv_k fL_part_27 ?_
    refine xv_iand fL_part_29 ?_
    refine xv_il2 fL_part_30 ?_
    refine xv_irem fL_part_31 (nI_ne0 h h2) ?_
    obtain ⟨v, hv, e9⟩ := part_tail (lim := lim) h h2
    rw [e9]
    exact xv_iret fL_part_32 rfl rfl ⟨⟨v, hv, rfl⟩, rfl, rfl, rfl, rfl⟩
theorem c_cellA (n : Nat) (c : Nat × Nat) (I : xv_I) (J : xv_J) {p k : Nat} (hp : p < 10) (hk : k < 12) (hp5 : p < 5) : xv_Met mL_cell 0 0 0 (sx n c) I (rx c) J [.ref 66, .ref 67, .int (nI p), .int (nI k)] (xv_eq (.inl (some (.int (I 66 (12 * p + k))))) (sx n c) (I) (rx c) J) := by
  refine xv_Met.of (by decide +kernel) (Nat.le_of_ble_eq_true rfl) (List.forall_mem_cons.mpr ⟨rfl, List.forall_mem_cons.mpr ⟨rfl, List.forall_mem_cons.mpr ⟨rfl, List.forall_mem_cons.mpr ⟨rfl, fun _ h => nomatch h⟩⟩⟩⟩) ?_
  show xv_W mL_cell 0 0 0 _ 0 0 (sx n c) I (rx c) J 0 [some (.ref 66), some (.ref 67), some (.int (nI p)), some (.int (nI k))] []
  refine xv_il2 fL_cell_0 ?_
  refine xv_k fL_cell_1 ?_
  refine xv_ic_ge fL_cell_2 (fun h_2 => ?_) (fun h_2 => ?_)
  · exact absurd h_2 (nI_ge hp5 (by decide))
  · refine xv_al0 fL_cell_5 ?_
    refine xv_k fL_cell_6 ?_
    refine xv_il2 fL_cell_8 ?_
    refine xv_imul fL_cell_9 ?_
    refine xv_eqi (y := nI (12 * p)) (nI_mul _ _) ?_
    refine xv_il3 fL_cell_10 ?_
    refine xv_iadd fL_cell_11 ?_
    refine xv_eqi (y := nI (12 * p + k)) (nI_add _ _) ?_
    refine xv_ialdN fL_cell_12 (sx_66 _ _) (⟨by omega, by decide⟩) ?_
    refine xv_goto fL_cell_13 ?_
    exact xv_iret fL_cell_27 rfl rfl xv_eq_i

theorem c_cellB (n : Nat) (c : Nat × Nat) (I : xv_I) (J : xv_J) {p k : Nat} (hp : p < 10) (hk : k < 12) (hp5 : 5 ≤ p) : xv_Met mL_cell 0 0 0 (sx n c) I (rx c) J [.ref 66, .ref 67, .int (nI p), .int (nI k)] (xv_eq (.inl (some (.int (I 67 (12 * p + k - 60))))) (sx n c) (I) (rx c) J) := by
  refine xv_Met.of (by decide +kernel) (Nat.le_of_ble_eq_true rfl) (List.forall_mem_cons.mpr ⟨rfl, List.forall_mem_cons.mpr ⟨rfl, List.forall_mem_cons.mpr ⟨rfl, List.forall_mem_cons.mpr ⟨rfl, fun _ h => nomatch h⟩⟩⟩⟩) ?_
  show xv_W mL_cell 0 0 0 _ 0 0 (sx n c) I (rx c) J 0 [some (.ref 66), some (.ref 67), some (.int (nI p)), some (.int (nI k))] []
  refine xv_il2 fL_cell_0 ?_
  refine xv_k fL_cell_1 ?_
  refine xv_ic_ge fL_cell_2 (fun h_2 => ?_) (fun h_2 => ?_)
  · refine xv_al1 fL_cell_16 ?_
    refine xv_k fL_cell_17 ?_
    refine xv_il2 fL_cell_19 ?_
    refine xv_imul fL_cell_20 ?_
    refine xv_eqi (y := nI (12 * p)) (nI_mul _ _) ?_
    refine xv_il3 fL_cell_21 ?_
    refine xv_iadd fL_cell_22 ?_
    refine xv_eqi (y := nI (12 * p + k)) (nI_add _ _) ?_
    refine xv_k fL_cell_23 ?_
    refine xv_isub fL_cell_25 ?_
    refine xv_eqi (y := nI (12 * p + k - 60)) (nI_sub (by omega)) ?_
    refine xv_ialdN fL_cell_26 (sx_67 _ _) (⟨by omega, by decide⟩) ?_
    exact xv_iret fL_cell_27 rfl rfl xv_eq_i
  · exact absurd (nI_le hp5 (by omega)) h_2

theorem c_cell (n : Nat) (c : Nat × Nat) (I : xv_I) (J : xv_J) {p k : Nat} (hp : p < 10) (hk : k < 12) : xv_Met mL_cell 0 0 0 (sx n c) I (rx c) J [.ref 66, .ref 67, .int (nI p), .int (nI k)] (xv_eq (.inl (some (.int (cE I p k)))) (sx n c) (I) (rx c) J) := by
  unfold cE
  by_cases h : p < 5
  · rw [if_pos h]
    exact c_cellA n c I J hp hk h
  · rw [if_neg h]
    exact c_cellB n c I J hp hk (by omega)
theorem c_putsA (n : Nat) (c : Nat × Nat) (I : xv_I) (J : xv_J) {p k : Nat} {x : Int32} (hp : p < 10) (hk : k < 12) (hp5 : p < 5) : xv_Met mL_puts 0 0 0 (sx n c) I (rx c) J [.ref 66, .ref 67, .int (nI p), .int (nI k), .int x] (xv_eq (.inl none) (sx n c) (xv_u I 66 (12 * p + k) x) (rx c) J) := by
  refine xv_Met.of (by decide +kernel) (Nat.le_of_ble_eq_true rfl) (List.forall_mem_cons.mpr ⟨rfl, List.forall_mem_cons.mpr ⟨rfl, List.forall_mem_cons.mpr ⟨rfl, List.forall_mem_cons.mpr ⟨rfl, List.forall_mem_cons.mpr ⟨rfl, fun _ h => nomatch h⟩⟩⟩⟩⟩) ?_
  show xv_W mL_puts 0 0 0 _ 0 0 (sx n c) I (rx c) J 0 [some (.ref 66), some (.ref 67), some (.int (nI p)), some (.int (nI k)), some (.int x)] []
  refine xv_il2 fL_puts_0 ?_
  refine xv_k fL_puts_1 ?_
  refine xv_ic_ge fL_puts_2 (fun h_2 => ?_) (fun h_2 => ?_)
  · exact absurd h_2 (nI_ge hp5 (by decide))
  · refine xv_al0 fL_puts_5 ?_
    refine xv_k fL_puts_6 ?_
    refine xv_il2 fL_puts_8 ?_
    refine xv_imul fL_puts_9 ?_
    refine xv_eqi (y := nI (12 * p)) (nI_mul _ _) ?_
    refine xv_il3 fL_puts_10 ?_
    refine xv_iadd fL_puts_11 ?_
    refine xv_eqi (y := nI (12 * p + k)) (nI_add _ _) ?_
    refine xv_il4 fL_puts_12 ?_
    refine xv_iastN fL_puts_14 (sx_66 _ _) (⟨by omega, by decide⟩) ?_
    refine xv_goto fL_puts_15 ?_
    exact xv_vret fL_puts_31 rfl xv_eq_i

theorem c_putsB (n : Nat) (c : Nat × Nat) (I : xv_I) (J : xv_J) {p k : Nat} {x : Int32} (hp : p < 10) (hk : k < 12) (hp5 : 5 ≤ p) : xv_Met mL_puts 0 0 0 (sx n c) I (rx c) J [.ref 66, .ref 67, .int (nI p), .int (nI k), .int x] (xv_eq (.inl none) (sx n c) (xv_u I 67 (12 * p + k - 60) x) (rx c) J) := by
  refine xv_Met.of (by decide +kernel) (Nat.le_of_ble_eq_true rfl) (List.forall_mem_cons.mpr ⟨rfl, List.forall_mem_cons.mpr ⟨rfl, List.forall_mem_cons.mpr ⟨rfl, List.forall_mem_cons.mpr ⟨rfl, List.forall_mem_cons.mpr ⟨rfl, fun _ h => nomatch h⟩⟩⟩⟩⟩) ?_
  show xv_W mL_puts 0 0 0 _ 0 0 (sx n c) I (rx c) J 0 [some (.ref 66), some (.ref 67), some (.int (nI p)), some (.int (nI k)), some (.int x)] []
  refine xv_il2 fL_puts_0 ?_
  refine xv_k fL_puts_1 ?_
  refine xv_ic_ge fL_puts_2 (fun h_2 => ?_) (fun h_2 => ?_)
  · refine xv_al1 fL_puts_18 ?_
    refine xv_k fL_puts_19 ?_
    refine xv_il2 fL_puts_21 ?_
    refine xv_imul fL_puts_22 ?_
    refine xv_eqi (y := nI (12 * p)) (nI_mul _ _) ?_
    refine xv_il3 fL_puts_23 ?_
    refine xv_iadd fL_puts_24 ?_
    refine xv_eqi (y := nI (12 * p + k)) (nI_add _ _) ?_
    refine xv_k fL_puts_25 ?_
    refine xv_isub fL_puts_27 ?_
    refine xv_eqi (y := nI (12 * p + k - 60)) (nI_sub (by omega)) ?_
    refine xv_il4 fL_puts_28 ?_
    refine xv_iastN fL_puts_30 (sx_67 _ _) (⟨by omega, by decide⟩) ?_
    exact xv_vret fL_puts_31 rfl xv_eq_i
  · exact absurd (nI_le hp5 (by omega)) h_2

theorem c_puts (n : Nat) (c : Nat × Nat) (I : xv_I) (J : xv_J) {p k : Nat} {x : Int32} (hp : p < 10) (hk : k < 12) : xv_Met mL_puts 0 0 0 (sx n c) I (rx c) J [.ref 66, .ref 67, .int (nI p), .int (nI k), .int x] (xv_eq (.inl none) (sx n c) (xCp p k x I) (rx c) J) := by
  unfold xCp
  by_cases h : p < 5
  · rw [if_pos h]
    exact c_putsA n c I J hp hk h
  · rw [if_neg h]
    exact c_putsB n c I J hp hk (by omega)
def xCn1 (x : Int32) (k : Nat) (s : Int32) : Int32 := s + (x >>> (nI k &&& 31) &&& nI 1)
def xCn (x : Int32) : Int32 := it (xCn1 x) 6 0 (nI 0)
def pop (b : Nat) : Nat := b % 2 + b / 2 % 2 + b / 4 % 2 + b / 8 % 2 + b / 16 % 2 + b / 32 % 2
theorem xCn_n : ∀ b, b < 64 → xCn (nI b) = nI (pop b) := by decide +kernel
theorem xBC_n : ∀ b, b < 64 → xBC (nI b) = nI (pop b) := by decide +kernel
theorem pop_le (b : Nat) : pop b ≤ 6 := by
  unfold pop
  omega
theorem l_count (n : Nat) (c : Nat × Nat) (I : xv_I) (J : xv_J) {x : Int32} {Q : xv_Q} : ∀ (m k : Nat) (s : Int32), k + m = 6 → xv_W mL_count 0 0 0 Q 0 0 (sx n c) I (rx c) J 24 [some (.int x), some (.int (it (xCn1 x) m k s)), some (.int (nI 6))] [] → xv_W mL_count 0 0 0 Q 0 0 (sx n c) I (rx c) J 4 [some (.int x), some (.int s), some (.int (nI k))] [] := by
  intro m
  induction m with
  | zero =>
    intro k s hm  hx
    obtain rfl : k = 6 := by omega
    refine xv_il2 fL_count_4 ?_
    refine xv_k fL_count_5 ?_
    refine xv_ic_ge fL_count_7 (fun h_7 => ?_) (fun h_7 => ?_)
    · exact hx
    · exact absurd (nI_le (Nat.le_refl _) (by decide)) h_7
  | succ m ih =>
    intro k s hm  hx
    have hk : k < 6 := by omega
    show xv_W mL_count 0 0 0 _ 0 0 (sx n c) I (rx c) J 4 [some (.int x), some (.int s), some (.int (nI k))] []
    refine xv_il2 fL_count_4 ?_
    refine xv_k fL_count_5 ?_
    refine xv_ic_ge fL_count_7 (fun h_7 => ?_) (fun h_7 => ?_)
    · exact absurd h_7 (nI_ge hk (by decide))
    · refine xv_il1 fL_count_10 ?_
      refine xv_il0 fL_count_11 ?_
      refine xv_il2 fL_count_12 ?_
      refine xv_ishr fL_count_13 ?_
      refine xv_k fL_count_14 ?_
      refine xv_iand fL_count_15 ?_
      refine xv_iadd fL_count_16 ?_
      refine xv_is1 fL_count_17 ?_
      refine xv_iincN2 (a := 1) fL_count_18 (by decide) ?_
      refine xv_goto fL_count_21 ?_
      exact ih (k + 1) (xCn1 x k s) (by omega) hx

theorem c_count (n : Nat) (c : Nat × Nat) (I : xv_I) (J : xv_J) {x : Int32} : xv_Met mL_count 0 0 0 (sx n c) I (rx c) J [.int x] (xv_eq (.inl (some (.int (xCn x)))) (sx n c) (I) (rx c) J) := by
  refine xv_Met.of (by decide +kernel) (Nat.le_of_ble_eq_true rfl) (List.forall_mem_cons.mpr ⟨rfl, fun _ h => nomatch h⟩) ?_
  show xv_W mL_count 0 0 0 _ 0 0 (sx n c) I (rx c) J 0 [some (.int x), none, none] []
  refine xv_k fL_count_0 ?_
  refine xv_is1 fL_count_1 ?_
  refine xv_k fL_count_2 ?_
  refine xv_is2 fL_count_3 ?_
  exact l_count n c I J 6 0 (nI 0) rfl (by exact xv_il1 fL_count_24 (xv_iret fL_count_25 rfl rfl (xv_eq_I rfl rfl)))

/-- d has just n digits, none of them 0 -/
def Dg : Nat → Nat → Prop
  | 0, d => d = 0
  | n + 1, d => ¬ d % 10 = 0 ∧ Dg n (d / 10)
theorem l_lines (n : Nat) (c : Nat × Nat) (I : xv_I) (J : xv_J) {x : Int32} : ∀ (np k d : Nat), Dg np d → d < 2 ^ 31 → xv_W mL_lines 0 0 0 (xv_eq (.inl (some (.int (nI (k + np))))) (sx n c) (I) (rx c) J) 0 0 (sx n c) I (rx c) J 4 [some (.int x), some (.int (nI k)), some (.int (nI d))] [] := by
  intro np
  induction np with
  | zero =>
    intro k d hd h31
    obtain rfl : d = 0 := hd
    show xv_W mL_lines 0 0 0 _ 0 0 (sx n c) I (rx c) J 4 [some (.int x), some (.int (nI k)), some (.int (nI 0))] []
    refine xv_il2 fL_lines_4 ?_
    refine xv_if_le fL_lines_5 (fun h_5 => ?_) (fun h_5 => ?_)
    · refine xv_il1 fL_lines_19 ?_
      exact xv_iret fL_lines_20 rfl rfl xv_eq_i
    · exact absurd (by decide) h_5
  | succ np ih =>
    intro k d hd h31
    have hd0 : 0 < d := Nat.pos_of_ne_zero fun q => hd.1 (by rw [q])
    show xv_W mL_lines 0 0 0 _ 0 0 (sx n c) I (rx c) J 4 [some (.int x), some (.int (nI k)), some (.int (nI d))] []
    refine xv_il2 fL_lines_4 ?_
    refine xv_if_le fL_lines_5 (fun h_5 => ?_) (fun h_5 => ?_)
    · exact absurd h_5 (nI_nle hd0 h31)
    · refine xv_iincN1 (a := 1) fL_lines_8 (by decide) ?_
      refine xv_il2 fL_lines_11 ?_
      refine xv_k fL_lines_12 ?_
      refine xv_idiv fL_lines_14 (by decide) ?_
      refine xv_eqi (y := nI (d / 10)) (nI_div h31 (by decide)) ?_
      refine xv_is2 fL_lines_15 ?_
      refine xv_goto fL_lines_16 ?_
      rw [show k + (np + 1) = k + 1 + np by omega]
      exact ih (k + 1) (d / 10) hd.2 (by omega)

theorem c_lawLines (n : Nat) (c : Nat × Nat) (I : xv_I) (J : xv_J) {np d : Nat} (hd : Dg np d) (h31 : d < 2 ^ 31) : xv_Met mL_lines 0 0 0 (sx n c) I (rx c) J [.int (nI d)] (xv_eq (.inl (some (.int (nI np)))) (sx n c) (I) (rx c) J) := by
  refine xv_Met.of (by decide +kernel) (Nat.le_of_ble_eq_true rfl) (List.forall_mem_cons.mpr ⟨rfl, fun _ h => nomatch h⟩) ?_
  show xv_W mL_lines 0 0 0 _ 0 0 (sx n c) I (rx c) J 0 [some (.int (nI d)), none, none] []
  refine xv_k fL_lines_0 ?_
  refine xv_is1 fL_lines_1 ?_
  refine xv_il0 fL_lines_2 ?_
  refine xv_is2 fL_lines_3 ?_
  rw [show nI np = nI (0 + np) by rw [Nat.zero_add]]
  exact l_lines n c I J (x := nI d) np 0 d hd h31

theorem cIn_12 : ∀ s, s < 12 → cIn s < 12 ∧ cIn s % 3 * 4 + cIn s / 3 = s := by decide
theorem cIn_d (s : Nat) : s % 4 * 3 + s / 4 = cIn s := by
  show s % 4 * 3 + s / 4 = 3 * (s % 4) + s / 4
  omega
theorem l_inCol (n : Nat) (c : Nat × Nat) (I : xv_I) (J : xv_J) {p st sz w : Nat} {x : Int32} (hp : p < 10) (h12 : st + sz ≤ 12) (hsz : 0 < sz) (hw : w = 10000 * p + 100 * cIn st + sz) (hc : ∀ j, j < sz → cE I p (cIn (st + j)) = x) (hw9 : w % 100 = sz) {Q : xv_Q} : ∀ (m k : Nat) (l8 : Option Value), k + m = (w % 100) → (∀ l8, xv_W mL_inColumns 1 0 0 Q 0 0 (sx n c) I (rx c) J 94 [some (.ref 66), some (.ref 67), some (.int (nI w)), some (.int x), some (.int (nI p)), some (.int (nI (cIn st))), some (.int (nI 1)), some (.int (nI (w % 100))), l8] []) → xv_W mL_inColumns 1 0 0 Q 0 0 (sx n c) I (rx c) J 22 [some (.ref 66), some (.ref 67), some (.int (nI w)), some (.int x), some (.int (nI p)), some (.int (nI (cIn st))), some (.int (nI 1)), some (.int (nI k)), l8] [] := by
  intro m
  induction m with
  | zero =>
    intro k l8 hm i0
    obtain rfl : k = (w % 100) := by omega
    refine xv_il7 fL_inColumns_22 ?_
    refine xv_il2 fL_inColumns_24 ?_
    refine xv_k fL_inColumns_25 ?_
    refine xv_irem fL_inColumns_27 (by decide) ?_
    refine xv_eqi (y := nI (w % 100)) (nI_rem (by have := (cIn_12 st (by omega)).1; omega) (by decide)) ?_
    refine xv_ic_ge fL_inColumns_28 (fun h_28 => ?_) (fun h_28 => ?_)
    · exact i0 _
    · exact absurd (nI_le (Nat.le_refl _) (by omega)) h_28
  | succ m ih =>
    intro k l8 hm i0
    have hk : k < (w % 100) := by omega
    show xv_W mL_inColumns 1 0 0 _ 0 0 (sx n c) I (rx c) J 22 [some (.ref 66), some (.ref 67), some (.int (nI w)), some (.int x), some (.int (nI p)), some (.int (nI (cIn st))), some (.int (nI 1)), some (.int (nI k)), l8] []
    refine xv_il7 fL_inColumns_22 ?_
    refine xv_il2 fL_inColumns_24 ?_
    refine xv_k fL_inColumns_25 ?_
    refine xv_irem fL_inColumns_27 (by decide) ?_
    refine xv_eqi (y := nI (w % 100)) (nI_rem (by have := (cIn_12 st (by omega)).1; omega) (by decide)) ?_
    refine xv_ic_ge fL_inColumns_28 (fun h_28 => ?_) (fun h_28 => ?_)
    · exact absurd h_28 (nI_ge hk (by omega))
    · refine xv_il5 fL_inColumns_31 ?_
      refine xv_k fL_inColumns_33 ?_
      refine xv_irem fL_inColumns_34 (by decide) ?_
      refine xv_eqi (y := nI (cIn st % 3)) (nI_rem (by have := (cIn_12 st (by omega)).1; omega) (by decide)) ?_
      refine xv_k fL_inColumns_35 ?_
      refine xv_imul fL_inColumns_36 ?_
      refine xv_eqi (y := nI (cIn st % 3 * 4)) (nI_mul _ _) ?_
      refine xv_il5 fL_inColumns_37 ?_
      refine xv_k fL_inColumns_39 ?_
      refine xv_idiv fL_inColumns_40 (by decide) ?_
      refine xv_eqi (y := nI (cIn st / 3)) (nI_div (by have := (cIn_12 st (by omega)).1; omega) (by decide)) ?_
      refine xv_iadd fL_inColumns_41 ?_
      refine xv_eqi (y := nI st) (by rw [nI_add, (cIn_12 st (by omega)).2]) ?_
      refine xv_il7 fL_inColumns_42 ?_
      refine xv_iadd fL_inColumns_44 ?_
      refine xv_eqi (y := nI (st + k)) (nI_add _ _) ?_
      refine xv_is8 fL_inColumns_45 ?_
      refine xv_il6 fL_inColumns_47 ?_
      refine xv_if_eq fL_inColumns_49 (fun h_49 => ?_) (fun h_49 => ?_)
      · exact absurd h_49 (by decide)
      · refine xv_il8 fL_inColumns_52 ?_
        refine xv_k fL_inColumns_54 ?_
        refine xv_ic_ge fL_inColumns_56 (fun h_56 => ?_) (fun h_56 => ?_)
        · exact absurd h_56 (nI_ge (by omega) (by decide))
        · refine xv_al0 fL_inColumns_59 ?_
          refine xv_al1 fL_inColumns_60 ?_
          refine xv_il4 fL_inColumns_61 ?_
          refine xv_il8 fL_inColumns_63 ?_
          refine xv_k fL_inColumns_65 ?_
          refine xv_irem fL_inColumns_66 (by decide) ?_
          refine xv_eqi (y := nI ((st + k) % 4)) (nI_rem (by omega) (by decide)) ?_
          refine xv_k fL_inColumns_67 ?_
          refine xv_imul fL_inColumns_68 ?_
          refine xv_eqi (y := nI ((st + k) % 4 * 3)) (nI_mul _ _) ?_
          refine xv_il8 fL_inColumns_69 ?_
          refine xv_k fL_inColumns_71 ?_
          refine xv_idiv fL_inColumns_72 (by decide) ?_
          refine xv_eqi (y := nI ((st + k) / 4)) (nI_div (by omega) (by decide)) ?_
          refine xv_iadd fL_inColumns_73 ?_
          refine xv_eqi (y := nI (cIn (st + k))) (by rw [nI_add, cIn_d]) ?_
          refine xv_callS4R (c_cell n c I J hp (cIn_12 (st + k) (by omega)).1) fL_inColumns_74 YL_cell VL_cell lL_96 rfl (Nat.le_of_ble_eq_true rfl) (by decide) (by decide) (by decide) ?_
          refine xv_il3 fL_inColumns_77 ?_
          refine xv_ic_ne fL_inColumns_78 (fun h_78 => ?_) (fun h_78 => ?_)
          · exact absurd (hc k (by omega)) h_78
          · refine xv_k fL_inColumns_81 ?_
            refine xv_goto fL_inColumns_82 ?_
            refine xv_is6 fL_inColumns_86 ?_
            refine xv_iincN7 (a := 1) fL_inColumns_88 (by decide) ?_
            refine xv_goto fL_inColumns_91 ?_
            exact ih (k + 1) _ (by omega) i0

theorem c_inCol (n : Nat) (c : Nat × Nat) (I : xv_I) (J : xv_J) {p st sz w : Nat} {x : Int32} (hp : p < 10) (h12 : st + sz ≤ 12) (hsz : 0 < sz) (hw : w = 10000 * p + 100 * cIn st + sz) (hc : ∀ j, j < sz → cE I p (cIn (st + j)) = x) : xv_Met mL_inColumns 1 0 0 (sx n c) I (rx c) J [.ref 66, .ref 67, .int (nI w), .int x] (xv_eq (.inl (some (.int (nI 1)))) (sx n c) (I) (rx c) J) := by
  refine xv_Met.of (by decide +kernel) (Nat.le_of_ble_eq_true rfl) (List.forall_mem_cons.mpr ⟨rfl, List.forall_mem_cons.mpr ⟨rfl, List.forall_mem_cons.mpr ⟨rfl, List.forall_mem_cons.mpr ⟨rfl, fun _ h => nomatch h⟩⟩⟩⟩) ?_
  show xv_W mL_inColumns 1 0 0 _ 0 0 (sx n c) I (rx c) J 0 [some (.ref 66), some (.ref 67), some (.int (nI w)), some (.int x), none, none, none, none, none] []
  refine xv_il2 fL_inColumns_0 ?_
  refine xv_k fL_inColumns_1 ?_
  refine xv_idiv fL_inColumns_4 (by decide) ?_
  refine xv_eqi (y := nI p) (by rw [nI_div (by have := (cIn_12 st (by omega)).1; omega) (by decide)]; congr 1; have := (cIn_12 st (by omega)).1; omega) ?_
  refine xv_is4 fL_inColumns_5 ?_
  refine xv_il2 fL_inColumns_7 ?_
  refine xv_k fL_inColumns_8 ?_
  refine xv_idiv fL_inColumns_10 (by decide) ?_
  refine xv_eqi (y := nI (w / 100)) (nI_div (by have := (cIn_12 st (by omega)).1; omega) (by decide)) ?_
  refine xv_k fL_inColumns_11 ?_
  refine xv_irem fL_inColumns_13 (by decide) ?_
  refine xv_eqi (y := nI (cIn st)) (by rw [nI_rem (by have := (cIn_12 st (by omega)).1; omega) (by decide)]; congr 1; have := (cIn_12 st (by omega)).1; omega) ?_
  refine xv_is5 fL_inColumns_14 ?_
  refine xv_k fL_inColumns_16 ?_
  refine xv_is6 fL_inColumns_17 ?_
  refine xv_k fL_inColumns_19 ?_
  refine xv_is7 fL_inColumns_20 ?_
  exact l_inCol n c I J hp h12 hsz hw hc (by have := (cIn_12 st (by omega)).1; omega) (w % 100) 0 none (by omega) (fun l8 => by exact xv_il6 fL_inColumns_94 (xv_iret fL_inColumns_96 rfl (by decide) xv_eq_i))

