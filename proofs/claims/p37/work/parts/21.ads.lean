abbrev okR (lo hi : Nat) (x : Int32) : Prop := ¬ x < nI lo ∧ x ≤ nI hi
theorem okR_n {lo hi k : Nat} (h1 : lo ≤ k) (h2 : k ≤ hi) (h3 : hi < 2 ^ 31) : okR lo hi (nI k) := ⟨nI_nlt h1 (by omega), nI_le h2 h3⟩
theorem okR_x {lo hi : Nat} {x : Int32} (h : ¬ okR lo hi x) : x < nI lo ∨ ¬ x ≤ nI hi := by
  by_cases h1 : x < nI lo
  · exact Or.inl h1
  · exact Or.inr (fun q => h ⟨h1, q⟩)
theorem p_page_a (n : Nat) (c : Nat × Nat) (I : xv_I) (J : xv_J) {x : Int32} (hx : ¬ (¬ x < 0 ∧ ¬ nI 10 ≤ x)) {y z : Int32} : xv_Met mX10_page 8 16 128 (sx n c) I (rx c) J [.ref 0, .int x, .int y, .int z] (xv_eq (.inr "java/lang/IndexOutOfBoundsException") (sx n c) (I) (rx c) J) := by
  refine xv_Met.of (by decide +kernel) (Nat.le_of_ble_eq_true rfl) (List.forall_mem_cons.mpr ⟨rfl, List.forall_mem_cons.mpr ⟨rfl, List.forall_mem_cons.mpr ⟨rfl, List.forall_mem_cons.mpr ⟨rfl, fun _ h => nomatch h⟩⟩⟩⟩) ?_
  show xv_W mX10_page 8 16 128 _ 16 128 (sx n c) I (rx c) J 0 [some (.ref 0), some (.int x), some (.int y), some (.int z)] []
  refine xv_il1 fX10_page_0 ?_
  exact xv_callS1X (c_needPage_out n c I J hx) fX10_page_1 YX10_needPage VX10_needPage lX10_79 rfl (Nat.le_of_ble_eq_true rfl) (by decide) (by decide) (by decide) xv_eq_i

theorem p_page_b (n : Nat) (c : Nat × Nat) (I : xv_I) (J : xv_J) {p : Nat} (hp : p < 10) {y z : Int32} (hy : ¬ okR 0 3 y) : xv_Met mX10_page 8 16 128 (sx n c) I (rx c) J [.ref 0, .int (nI p), .int y, .int z] (xv_eq (.inr "java/lang/IllegalArgumentException") (sx n c) (I) (rx c) J) := by
  refine xv_Met.of (by decide +kernel) (Nat.le_of_ble_eq_true rfl) (List.forall_mem_cons.mpr ⟨rfl, List.forall_mem_cons.mpr ⟨rfl, List.forall_mem_cons.mpr ⟨rfl, List.forall_mem_cons.mpr ⟨rfl, fun _ h => nomatch h⟩⟩⟩⟩) ?_
  show xv_W mX10_page 8 16 128 _ 16 128 (sx n c) I (rx c) J 0 [some (.ref 0), some (.int (nI p)), some (.int y), some (.int z)] []
  refine xv_il1 fX10_page_0 ?_
  refine xv_callS1V (c_needPage_in n c I J hp) fX10_page_1 YX10_needPage VX10_needPage lX10_79 rfl (Nat.le_of_ble_eq_true rfl) (by decide) (by decide) (by decide) ?_
  refine xv_il2 fX10_page_4 ?_
  refine xv_k fX10_page_5 ?_
  refine xv_k fX10_page_6 ?_
  exact xv_callS3X (c_needRange_out n c I J (okR_x hy)) fX10_page_7 YX10_needRange VX10_needRange lX10_83 rfl (Nat.le_of_ble_eq_true rfl) (by decide) (by decide) (by decide) xv_eq_i

theorem p_page_c (n : Nat) (c : Nat × Nat) (I : xv_I) (J : xv_J) {p : Nat} (hp : p < 10) {y z : Int32} (hy : okR 0 3 y) (hb : ¬ ∀ k, k < 12 → I (3 + p) k = 0) : xv_Met mX10_page 8 16 128 (sx n c) I (rx c) J [.ref 0, .int (nI p), .int y, .int z] (xv_eq (.inr "java/lang/IllegalStateException") (sx n c) (I) (rx c) J) := by
  refine xv_Met.of (by decide +kernel) (Nat.le_of_ble_eq_true rfl) (List.forall_mem_cons.mpr ⟨rfl, List.forall_mem_cons.mpr ⟨rfl, List.forall_mem_cons.mpr ⟨rfl, List.forall_mem_cons.mpr ⟨rfl, fun _ h => nomatch h⟩⟩⟩⟩) ?_
  show xv_W mX10_page 8 16 128 _ 16 128 (sx n c) I (rx c) J 0 [some (.ref 0), some (.int (nI p)), some (.int y), some (.int z)] []
  refine xv_il1 fX10_page_0 ?_
  refine xv_callS1V (c_needPage_in n c I J hp) fX10_page_1 YX10_needPage VX10_needPage lX10_79 rfl (Nat.le_of_ble_eq_true rfl) (by decide) (by decide) (by decide) ?_
  refine xv_il2 fX10_page_4 ?_
  refine xv_k fX10_page_5 ?_
  refine xv_k fX10_page_6 ?_
  refine xv_callS3V (c_needRange_in n c I J (hy).1 (hy).2) fX10_page_7 YX10_needRange VX10_needRange lX10_83 rfl (Nat.le_of_ble_eq_true rfl) (by decide) (by decide) (by decide) ?_
  refine xv_al0 fX10_page_10 ?_
  refine xv_getR fX10_page_11 gX10_10 rfl (sx_0 _ _) (rx_0_0 _) ?_
  refine xv_il1 fX10_page_14 ?_
  refine xv_callV1R (c_isBare n c I J hp) fX10_page_15 YX5_isBare VX5_isBare lX10_87 rfl rfl (sx_1 _ _) (Nat.le_of_ble_eq_true rfl) (by decide) (by decide) (by decide) ?_
  refine xv_if_ne fX10_page_18 (fun h_18 => ?_) (fun h_18 => ?_)
  · exact absurd (bi_1 (fun q => h_18 q)) hb
  · exact xv_throw fX10_page_21 hX10_93 rfl (by decide) (by decide) (by decide) (by decide) xv_eq_i

theorem p_page_ok (n : Nat) (c : Nat × Nat) (I : xv_I) (J : xv_J) {p : Nat} (hp : p < 10) {y z : Int32} (hy : okR 0 3 y) (hz : narrow .boolean (.int z) = .int z) (hb : ∀ k, k < 12 → I (3 + p) k = 0) : xv_Met mX10_page 8 16 128 (sx n c) I (rx c) J [.ref 0, .int (nI p), .int y, .int z] (xv_eq (.inl none) (sx n c) (xv_u (xv_u I 13 p y) 14 p z) (rx c) J) := by
  refine xv_Met.of (by decide +kernel) (Nat.le_of_ble_eq_true rfl) (List.forall_mem_cons.mpr ⟨rfl, List.forall_mem_cons.mpr ⟨rfl, List.forall_mem_cons.mpr ⟨rfl, List.forall_mem_cons.mpr ⟨rfl, fun _ h => nomatch h⟩⟩⟩⟩) ?_
  show xv_W mX10_page 8 16 128 _ 16 128 (sx n c) I (rx c) J 0 [some (.ref 0), some (.int (nI p)), some (.int y), some (.int z)] []
  refine xv_il1 fX10_page_0 ?_
  refine xv_callS1V (c_needPage_in n c I J hp) fX10_page_1 YX10_needPage VX10_needPage lX10_79 rfl (Nat.le_of_ble_eq_true rfl) (by decide) (by decide) (by decide) ?_
  refine xv_il2 fX10_page_4 ?_
  refine xv_k fX10_page_5 ?_
  refine xv_k fX10_page_6 ?_
  refine xv_callS3V (c_needRange_in n c I J (hy).1 (hy).2) fX10_page_7 YX10_needRange VX10_needRange lX10_83 rfl (Nat.le_of_ble_eq_true rfl) (by decide) (by decide) (by decide) ?_
  refine xv_al0 fX10_page_10 ?_
  refine xv_getR fX10_page_11 gX10_10 rfl (sx_0 _ _) (rx_0_0 _) ?_
  refine xv_il1 fX10_page_14 ?_
  refine xv_callV1R (c_isBare n c I J hp) fX10_page_15 YX5_isBare VX5_isBare lX10_87 rfl rfl (sx_1 _ _) (Nat.le_of_ble_eq_true rfl) (by decide) (by decide) (by decide) ?_
  refine xv_if_ne fX10_page_18 (fun h_18 => ?_) (fun h_18 => ?_)
  · refine xv_al0 fX10_page_31 ?_
    refine xv_getR fX10_page_32 gX10_10 rfl (sx_0 _ _) (rx_0_0 _) ?_
    refine xv_il1 fX10_page_35 ?_
    refine xv_il2 fX10_page_36 ?_
    refine xv_il3 fX10_page_37 ?_
    refine xv_callV3V (c_setKind n c I J hp hz) fX10_page_38 YX5_setKind VX5_setKind lX10_98 rfl rfl (sx_1 _ _) (Nat.le_of_ble_eq_true rfl) (by decide) (by decide) (by decide) ?_
    exact xv_vret fX10_page_41 rfl xv_eq_i
  · exact absurd hb (bi_0 h_18)

theorem p_cell_a (n : Nat) (c : Nat × Nat) (I : xv_I) (J : xv_J) {x : Int32} (hx : ¬ (¬ x < 0 ∧ ¬ nI 10 ≤ x)) {y : Int32} : xv_Met mX10_cell 8 16 128 (sx n c) I (rx c) J [.ref 0, .int x, .int y] (xv_eq (.inr "java/lang/IndexOutOfBoundsException") (sx n c) (I) (rx c) J) := by
  refine xv_Met.of (by decide +kernel) (Nat.le_of_ble_eq_true rfl) (List.forall_mem_cons.mpr ⟨rfl, List.forall_mem_cons.mpr ⟨rfl, List.forall_mem_cons.mpr ⟨rfl, fun _ h => nomatch h⟩⟩⟩) ?_
  show xv_W mX10_cell 8 16 128 _ 16 128 (sx n c) I (rx c) J 0 [some (.ref 0), some (.int x), some (.int y)] []
  refine xv_il1 fX10_cell_0 ?_
  exact xv_callS1X (c_needPage_out n c I J hx) fX10_cell_1 YX10_needPage VX10_needPage lX10_79 rfl (Nat.le_of_ble_eq_true rfl) (by decide) (by decide) (by decide) xv_eq_i

theorem p_cell_b (n : Nat) (c : Nat × Nat) (I : xv_I) (J : xv_J) {p : Nat} (hp : p < 10) {y : Int32} (hy : ¬ (¬ y < 0 ∧ ¬ nI 12 ≤ y)) : xv_Met mX10_cell 8 16 128 (sx n c) I (rx c) J [.ref 0, .int (nI p), .int y] (xv_eq (.inr "java/lang/IndexOutOfBoundsException") (sx n c) (I) (rx c) J) := by
  refine xv_Met.of (by decide +kernel) (Nat.le_of_ble_eq_true rfl) (List.forall_mem_cons.mpr ⟨rfl, List.forall_mem_cons.mpr ⟨rfl, List.forall_mem_cons.mpr ⟨rfl, fun _ h => nomatch h⟩⟩⟩) ?_
  show xv_W mX10_cell 8 16 128 _ 16 128 (sx n c) I (rx c) J 0 [some (.ref 0), some (.int (nI p)), some (.int y)] []
  refine xv_il1 fX10_cell_0 ?_
  refine xv_callS1V (c_needPage_in n c I J hp) fX10_cell_1 YX10_needPage VX10_needPage lX10_79 rfl (Nat.le_of_ble_eq_true rfl) (by decide) (by decide) (by decide) ?_
  refine xv_il2 fX10_cell_4 ?_
  exact xv_callS1X (c_needCell_out n c I J hy) fX10_cell_5 YX10_needCell VX10_needCell lX10_102 rfl (Nat.le_of_ble_eq_true rfl) (by decide) (by decide) (by decide) xv_eq_i

theorem p_cell_ok (n : Nat) (c : Nat × Nat) (I : xv_I) (J : xv_J) {p k : Nat} (hp : p < 10) (hk : k < 12) : xv_Met mX10_cell 8 16 128 (sx n c) I (rx c) J [.ref 0, .int (nI p), .int (nI k)] (xv_eq (.inl (some (.int (I (3 + p) k)))) (sx n c) (I) (rx c) J) := by
  refine xv_Met.of (by decide +kernel) (Nat.le_of_ble_eq_true rfl) (List.forall_mem_cons.mpr ⟨rfl, List.forall_mem_cons.mpr ⟨rfl, List.forall_mem_cons.mpr ⟨rfl, fun _ h => nomatch h⟩⟩⟩) ?_
  show xv_W mX10_cell 8 16 128 _ 16 128 (sx n c) I (rx c) J 0 [some (.ref 0), some (.int (nI p)), some (.int (nI k))] []
  refine xv_il1 fX10_cell_0 ?_
  refine xv_callS1V (c_needPage_in n c I J hp) fX10_cell_1 YX10_needPage VX10_needPage lX10_79 rfl (Nat.le_of_ble_eq_true rfl) (by decide) (by decide) (by decide) ?_
  refine xv_il2 fX10_cell_4 ?_
  refine xv_callS1V (c_needCell_in n c I J hk) fX10_cell_5 YX10_needCell VX10_needCell lX10_102 rfl (Nat.le_of_ble_eq_true rfl) (by decide) (by decide) (by decide) ?_
  refine xv_al0 fX10_cell_8 ?_
  refine xv_getR fX10_cell_9 gX10_10 rfl (sx_0 _ _) (rx_0_0 _) ?_
  refine xv_il1 fX10_cell_12 ?_
  refine xv_il2 fX10_cell_13 ?_
  refine xv_callV2R (c_at n c I J hp hk) fX10_cell_14 YX5_at VX5_at lX10_105 rfl rfl (sx_1 _ _) (Nat.le_of_ble_eq_true rfl) (by decide) (by decide) (by decide) ?_
  exact xv_iret fX10_cell_17 rfl rfl xv_eq_i

theorem p_touched (n : Nat) (c : Nat × Nat) (I : xv_I) (J : xv_J)  : xv_Met mX10_touched 8 16 128 (sx n c) I (rx c) J [.ref 0] (xv_eq (.inl (some (.int (I 1 6)))) (sx n c) (I) (rx c) J) := by
  refine xv_Met.of (by decide +kernel) (Nat.le_of_ble_eq_true rfl) (List.forall_mem_cons.mpr ⟨rfl, fun _ h => nomatch h⟩) ?_
  show xv_W mX10_touched 8 16 128 _ 16 128 (sx n c) I (rx c) J 0 [some (.ref 0)] []
  refine xv_al0 fX10_touched_0 ?_
  refine xv_getR fX10_touched_1 gX10_10 rfl (sx_0 _ _) (rx_0_0 _) ?_
  refine xv_getI fX10_touched_4 gX10_109 rfl (sx_1 _ _) ?_
  exact xv_iret fX10_touched_7 rfl rfl xv_eq_i

theorem p_distance_a (n : Nat) (c : Nat × Nat) (I : xv_I) (J : xv_J) {x y : Int32} (hx : ¬ okR 0 3 x) : xv_Met mX10_distance 8 16 128 (sx n c) I (rx c) J [.ref 0, .int x, .int y] (xv_eq (.inr "java/lang/IllegalArgumentException") (sx n c) (I) (rx c) J) := by
  refine xv_Met.of (by decide +kernel) (Nat.le_of_ble_eq_true rfl) (List.forall_mem_cons.mpr ⟨rfl, List.forall_mem_cons.mpr ⟨rfl, List.forall_mem_cons.mpr ⟨rfl, fun _ h => nomatch h⟩⟩⟩) ?_
  show xv_W mX10_distance 8 16 128 _ 16 128 (sx n c) I (rx c) J 0 [some (.ref 0), some (.int x), some (.int y), none] []
  refine xv_il1 fX10_distance_0 ?_
  refine xv_k fX10_distance_1 ?_
  refine xv_k fX10_distance_2 ?_
  exact xv_callS3X (c_needRange_out n c I J (okR_x hx)) fX10_distance_3 YX10_needRange VX10_needRange lX10_83 rfl (Nat.le_of_ble_eq_true rfl) (by decide) (by decide) (by decide) xv_eq_i

theorem p_distance_b (n : Nat) (c : Nat × Nat) (I : xv_I) (J : xv_J) {x y : Int32} (hx : okR 0 3 x) (hy : ¬ okR 0 9 y) : xv_Met mX10_distance 8 16 128 (sx n c) I (rx c) J [.ref 0, .int x, .int y] (xv_eq (.inr "java/lang/IllegalArgumentException") (sx n c) (I) (rx c) J) := by
  refine xv_Met.of (by decide +kernel) (Nat.le_of_ble_eq_true rfl) (List.forall_mem_cons.mpr ⟨rfl, List.forall_mem_cons.mpr ⟨rfl, List.forall_mem_cons.mpr ⟨rfl, fun _ h => nomatch h⟩⟩⟩) ?_
  show xv_W mX10_distance 8 16 128 _ 16 128 (sx n c) I (rx c) J 0 [some (.ref 0), some (.int x), some (.int y), none] []
  refine xv_il1 fX10_distance_0 ?_
  refine xv_k fX10_distance_1 ?_
  refine xv_k fX10_distance_2 ?_
  refine xv_callS3V (c_needRange_in n c I J (hx).1 (hx).2) fX10_distance_3 YX10_needRange VX10_needRange lX10_83 rfl (Nat.le_of_ble_eq_true rfl) (by decide) (by decide) (by decide) ?_
  refine xv_il2 fX10_distance_6 ?_
  refine xv_k fX10_distance_7 ?_
  refine xv_k fX10_distance_8 ?_
  exact xv_callS3X (c_needRange_out n c I J (okR_x hy)) fX10_distance_10 YX10_needRange VX10_needRange lX10_83 rfl (Nat.le_of_ble_eq_true rfl) (by decide) (by decide) (by decide) xv_eq_i

theorem p_distance_ok (n : Nat) (c : Nat × Nat) (I : xv_I) (J : xv_J) {k : Nat} (hk : k < 4) {y : Int32} (hy : okR 0 9 y) : xv_Met mX10_distance 8 16 128 (sx n c) I (rx c) J [.ref 0, .int (nI k), .int y] (xv_eq (.inl (some (.int (I 17 k)))) (sx n c) (xv_u I 17 k y) (rx c) J) := by
  refine xv_Met.of (by decide +kernel) (Nat.le_of_ble_eq_true rfl) (List.forall_mem_cons.mpr ⟨rfl, List.forall_mem_cons.mpr ⟨rfl, List.forall_mem_cons.mpr ⟨rfl, fun _ h => nomatch h⟩⟩⟩) ?_
  show xv_W mX10_distance 8 16 128 _ 16 128 (sx n c) I (rx c) J 0 [some (.ref 0), some (.int (nI k)), some (.int y), none] []
  refine xv_il1 fX10_distance_0 ?_
  refine xv_k fX10_distance_1 ?_
  refine xv_k fX10_distance_2 ?_
  refine xv_callS3V (c_needRange_in n c I J (okR_n (Nat.zero_le _) (by omega : k ≤ 3) (by decide)).1 (okR_n (Nat.zero_le _) (by omega : k ≤ 3) (by decide)).2) fX10_distance_3 YX10_needRange VX10_needRange lX10_83 rfl (Nat.le_of_ble_eq_true rfl) (by decide) (by decide) (by decide) ?_
  refine xv_il2 fX10_distance_6 ?_
  refine xv_k fX10_distance_7 ?_
  refine xv_k fX10_distance_8 ?_
  refine xv_callS3V (c_needRange_in n c I J (hy).1 (hy).2) fX10_distance_10 YX10_needRange VX10_needRange lX10_83 rfl (Nat.le_of_ble_eq_true rfl) (by decide) (by decide) (by decide) ?_
  refine xv_al0 fX10_distance_13 ?_
  refine xv_il1 fX10_distance_14 ?_
  refine xv_callV1R (c_distOf n c I J hk) fX10_distance_15 YX10_distanceOf VX10_distanceOf lX10_113 rfl rfl (sx_0 _ _) (Nat.le_of_ble_eq_true rfl) (by decide) (by decide) (by decide) ?_
  refine xv_is3 fX10_distance_18 ?_
  refine xv_al0 fX10_distance_19 ?_
  refine xv_getR fX10_distance_20 gX10_16 rfl (sx_0 _ _) (rx_0_1 _) ?_
  refine xv_il1 fX10_distance_23 ?_
  refine xv_il2 fX10_distance_24 ?_
  refine xv_iastN fX10_distance_25 (sx_17 _ _) (⟨hk, by decide⟩) ?_
  refine xv_il3 fX10_distance_26 ?_
  exact xv_iret fX10_distance_27 rfl rfl xv_eq_i

abbrev xFar (I : xv_I) (c : Nat × Nat) (a ct p : Nat) : Prop := ∀ i, i < c.1 → ¬ (i ≠ a ∧ ¬ I (100 + i) 6 = -1 ∧ I (100 + i) 0 = I (100 + a) 0 ∧ xApart (nI p) (I (100 + i) 6) < I 17 ct)
theorem bi_n {P : Prop} (h : P) : ¬ bi P = 0 := fun q => bi_0 q h
theorem l_far (n : Nat) (c : Nat × Nat) (I : xv_I) (J : xv_J) {a : Nat} (ha : a < c.1) (ha2 : a < 20) {ct p : Nat} (hct : I (100 + a) 0 = nI ct) (hct2 : ct < 4) (hn : I 0 3 = nI c.1) (hn2 : c.1 ≤ 20) : ∀ (m k : Nat) (l4 : Option Value), k + m = c.1 → (∀ i, i < k → ¬ (i ≠ a ∧ ¬ I (100 + i) 6 = -1 ∧ I (100 + i) 0 = I (100 + a) 0 ∧ xApart (nI p) (I (100 + i) 6) < I 17 ct)) → xv_W mX10_isFarFromItsLike 2 0 0 (xv_eq (.inl (some (.int (bi (xFar I c a ct p))))) (sx n c) (I) (rx c) J) 0 0 (sx n c) I (rx c) J 2 (some (.ref 0) :: some (.ref (100 + a)) :: some (.int (nI p)) :: some (.int (nI k)) :: l4 :: []) [] := by
  intro m
  induction m with
  | zero =>
    intro k l4 hm i0
    obtain rfl : k = c.1 := by omega
    refine xv_il3 fX10_isFarFromItsLike_2 ?_
    refine xv_al0 fX10_isFarFromItsLike_3 ?_
    refine xv_getI fX10_isFarFromItsLike_4 gX10_117 rfl (sx_0 _ _) ?_
    rw [hn]
    refine xv_ic_ge fX10_isFarFromItsLike_7 (fun h_7 => ?_) (fun h_7 => ?_)
    · refine xv_k fX10_isFarFromItsLike_86 ?_
      exact xv_iret fX10_isFarFromItsLike_87 rfl (by decide) (xv_eq_I (by rw [bi_t i0]) rfl)
    · exact absurd (nI_le (Nat.le_refl _) (by omega)) h_7
  | succ m ih =>
    intro k l4 hm i0
    have hk : k < c.1 := by omega
    show xv_W mX10_isFarFromItsLike 2 0 0 _ 0 0 (sx n c) I (rx c) J 2 (some (.ref 0) :: some (.ref (100 + a)) :: some (.int (nI p)) :: some (.int (nI k)) :: l4 :: []) []
    refine xv_il3 fX10_isFarFromItsLike_2 ?_
    refine xv_al0 fX10_isFarFromItsLike_3 ?_
    refine xv_getI fX10_isFarFromItsLike_4 gX10_117 rfl (sx_0 _ _) ?_
    rw [hn]
    refine xv_ic_ge fX10_isFarFromItsLike_7 (fun h_7 => ?_) (fun h_7 => ?_)
    · exact absurd h_7 (nI_ge hk (by omega))
    · refine xv_il3 fX10_isFarFromItsLike_10 ?_
      refine xv_al0 fX10_isFarFromItsLike_11 ?_
      refine xv_getR fX10_isFarFromItsLike_12 gX10_22 rfl (sx_0 _ _) (rx_0_2 _) ?_
      refine xv_alen fX10_isFarFromItsLike_15 (sx_18 _ _) (x := nI 20) rfl ?_
      refine xv_ic_ge fX10_isFarFromItsLike_16 (fun h_16 => ?_) (fun h_16 => ?_)
      · exact absurd h_16 (nI_ge (by omega) (by decide))
      · refine xv_al0 fX10_isFarFromItsLike_19 ?_
        refine xv_getR fX10_isFarFromItsLike_20 gX10_22 rfl (sx_0 _ _) (rx_0_2 _) ?_
        refine xv_il3 fX10_isFarFromItsLike_23 ?_
        refine xv_aaldK fX10_isFarFromItsLike_24 (sx_18 _ _) (Or.inl ⟨_, rfl⟩) (⟨by omega, by decide⟩) (rx_ad _ hk (by omega)) ?_
        refine xv_as4 fX10_isFarFromItsLike_25 ?_
        refine xv_al4 fX10_isFarFromItsLike_27 ?_
        refine xv_ifnull_r fX10_isFarFromItsLike_29 ?_
        refine xv_al4 fX10_isFarFromItsLike_32 ?_
        refine xv_al1 fX10_isFarFromItsLike_34 ?_
        refine xv_acmp_eq fX10_isFarFromItsLike_35 (fun h_35 => ?_) (fun h_35 => ?_)
        · refine xv_iincN3 (a := 1) fX10_isFarFromItsLike_80 (by decide) ?_
          refine xv_goto fX10_isFarFromItsLike_83 ?_
          exact ih (k + 1) _ (by omega) (lt_or i0 (fun h => h.1 (by omega)))
        · refine xv_al4 fX10_isFarFromItsLike_38 ?_
          refine xv_callV0R (c_isPlaced n c I J hk (by omega)) fX10_isFarFromItsLike_40 YX0_isPlaced VX0_isPlaced lX10_129 rfl rfl (sx_ad _ _ hk (by omega)) (Nat.le_of_ble_eq_true rfl) (by decide) (by decide) (by decide) ?_
          refine xv_if_eq fX10_isFarFromItsLike_43 (fun h_43 => ?_) (fun h_43 => ?_)
          · refine xv_iincN3 (a := 1) fX10_isFarFromItsLike_80 (by decide) ?_
            refine xv_goto fX10_isFarFromItsLike_83 ?_
            exact ih (k + 1) _ (by omega) (lt_or i0 (fun h => bi_0 h_43 h.2.1))
          · refine xv_al4 fX10_isFarFromItsLike_46 ?_
            refine xv_getI fX10_isFarFromItsLike_48 gX10_426 rfl (sx_ad _ _ hk (by omega)) ?_
            refine xv_al1 fX10_isFarFromItsLike_51 ?_
            refine xv_getI fX10_isFarFromItsLike_52 gX10_426 rfl (sx_ad _ _ ha ha2) ?_
            refine xv_ic_ne fX10_isFarFromItsLike_55 (fun h_55 => ?_) (fun h_55 => ?_)
            · refine xv_iincN3 (a := 1) fX10_isFarFromItsLike_80 (by decide) ?_
              refine xv_goto fX10_isFarFromItsLike_83 ?_
              exact ih (k + 1) _ (by omega) (lt_or i0 (fun h => h_55 h.2.2.1))
            · refine xv_il2 fX10_isFarFromItsLike_58 ?_
              refine xv_al4 fX10_isFarFromItsLike_59 ?_
              refine xv_getI fX10_isFarFromItsLike_61 gX10_177 rfl (sx_ad _ _ hk (by omega)) ?_
              refine xv_callS2R (c_apart n c I J _ _) fX10_isFarFromItsLike_64 YX10_pagesApart VX10_pagesApart lX10_429 rfl (Nat.le_of_ble_eq_true rfl) (by decide) (by decide) (by decide) ?_
              refine xv_al0 fX10_isFarFromItsLike_67 ?_
              refine xv_al1 fX10_isFarFromItsLike_68 ?_
              refine xv_getI fX10_isFarFromItsLike_69 gX10_426 rfl (sx_ad _ _ ha ha2) ?_
              rw [hct]
              refine xv_callV1R (c_distOf n c I J hct2) fX10_isFarFromItsLike_72 YX10_distanceOf VX10_distanceOf lX10_113 rfl rfl (sx_0 _ _) (Nat.le_of_ble_eq_true rfl) (by decide) (by decide) (by decide) ?_
              refine xv_ic_ge fX10_isFarFromItsLike_75 (fun h_75 => ?_) (fun h_75 => ?_)
              · refine xv_iincN3 (a := 1) fX10_isFarFromItsLike_80 (by decide) ?_
                refine xv_goto fX10_isFarFromItsLike_83 ?_
                exact ih (k + 1) _ (by omega) (lt_or i0 (fun h => absurd h.2.2.2 (fa_le_nlt h_75)))
              · refine xv_k fX10_isFarFromItsLike_78 ?_
                exact xv_iret fX10_isFarFromItsLike_79 rfl (by decide) (xv_eq_I (by rw [bi_f (fun h => h k hk ⟨fun q => h_35 (by rw [q]), bi_1 h_43, h_55, fa_of_nle h_75⟩)]) rfl)

theorem c_far (n : Nat) (c : Nat × Nat) (I : xv_I) (J : xv_J) {a : Nat} (ha : a < c.1) (ha2 : a < 20) {ct p : Nat} (hct : I (100 + a) 0 = nI ct) (hct2 : ct < 4) (hn : I 0 3 = nI c.1) (hn2 : c.1 ≤ 20) : xv_Met mX10_isFarFromItsLike 2 0 0 (sx n c) I (rx c) J [.ref 0, .ref (100 + a), .int (nI p)] (xv_eq (.inl (some (.int (bi (xFar I c a ct p))))) (sx n c) (I) (rx c) J) := by
  refine xv_Met.of (by decide +kernel) (Nat.le_of_ble_eq_true rfl) (List.forall_mem_cons.mpr ⟨rfl, List.forall_mem_cons.mpr ⟨rfl, List.forall_mem_cons.mpr ⟨rfl, fun _ h => nomatch h⟩⟩⟩) ?_
  show xv_W mX10_isFarFromItsLike 2 0 0 _ 0 0 (sx n c) I (rx c) J 0 [some (.ref 0), some (.ref (100 + a)), some (.int (nI p)), none, none] []
  refine xv_k fX10_isFarFromItsLike_0 ?_
  refine xv_is3 fX10_isFarFromItsLike_1 ?_
  exact l_far n c I J ha ha2 hct hct2 hn hn2 c.1 0 none (by omega) lt_no

abbrev xFitPg (I : xv_I) (c : Nat × Nat) (a ct p : Nat) : Prop := (I (100 + a) 4 = -1 ∨ I (100 + a) 4 = I 13 p) ∧ (I (100 + a) 3 = 0 ∨ ¬ I 14 p = 0) ∧ xFar I c a ct p
theorem narrow_bi (P : Prop) : narrow .boolean (.int (bi P)) = .int (bi P) := by
  by_cases h : P
  · rw [bi_t h]; decide
  · rw [bi_f h]; decide
theorem bi_iff {P Q : Prop} (h : P ↔ Q) : bi P = bi Q := by rw [propext h]
theorem if01 {a : Int32} : (if a = 0 then nI 0 else nI 1) = 0 ↔ a = 0 := by
  by_cases h : a = 0
  · rw [if_pos h]; exact ⟨fun _ => h, fun _ => by decide⟩
  · rw [if_neg h]; exact ⟨fun q => absurd q (by decide), fun q => absurd q h⟩
theorem c_fits (n : Nat) (c : Nat × Nat) (I : xv_I) (J : xv_J) {a : Nat} (ha : a < c.1) (ha2 : a < 20) {ct p : Nat} (hct : I (100 + a) 0 = nI ct) (hct2 : ct < 4) (hn : I 0 3 = nI c.1) (hn2 : c.1 ≤ 20) (hp : p < 10) : xv_Met mX10_fits 4 0 0 (sx n c) I (rx c) J [.ref 0, .ref (100 + a), .int (nI p)] (xv_eq (.inl (some (.int (bi (xFitPg I c a ct p))))) (sx n c) (I) (rx c) J) := by
  refine xv_Met.of (by decide +kernel) (Nat.le_of_ble_eq_true rfl) (List.forall_mem_cons.mpr ⟨rfl, List.forall_mem_cons.mpr ⟨rfl, List.forall_mem_cons.mpr ⟨rfl, fun _ h => nomatch h⟩⟩⟩) ?_
  show xv_W mX10_fits 4 0 0 _ 0 0 (sx n c) I (rx c) J 0 [some (.ref 0), some (.ref (100 + a)), some (.int (nI p))] []
  refine xv_al1 fX10_fits_0 ?_
  refine xv_getI fX10_fits_1 gX10_415 rfl (sx_ad _ _ ha ha2) ?_
  refine xv_k fX10_fits_4 ?_
  refine xv_ic_eq fX10_fits_5 (fun h_5 => ?_) (fun h_5 => ?_)
  · refine xv_al1 fX10_fits_25 ?_
    refine xv_getI fX10_fits_26 gX10_416 rfl (sx_ad _ _ ha ha2) ?_
    refine xv_if_eq fX10_fits_29 (fun h_29 => ?_) (fun h_29 => ?_)
    · refine xv_al0 fX10_fits_45 ?_
      refine xv_al1 fX10_fits_46 ?_
      refine xv_il2 fX10_fits_47 ?_
      refine xv_callV2R (c_far n c I J ha ha2 hct hct2 hn hn2) fX10_fits_48 YX10_isFarFromItsLike VX10_isFarFromItsLike lX10_423 rfl rfl (sx_0 _ _) (Nat.le_of_ble_eq_true rfl) (by decide) (by decide) (by decide) ?_
      exact xv_iret fX10_fits_51 rfl (narrow_bi _) (xv_eq_I (by rw [bi_iff (P := xFar I c a ct p) (Q := xFitPg I c a ct p) ⟨fun h => ⟨(Or.inl h_5), (Or.inl h_29), h⟩, fun h => h.2.2⟩]) rfl)
    · refine xv_al0 fX10_fits_32 ?_
      refine xv_getR fX10_fits_33 gX10_10 rfl (sx_0 _ _) (rx_0_0 _) ?_
      refine xv_il2 fX10_fits_36 ?_
      refine xv_callV1R (c_hasColour n c I J hp) fX10_fits_37 YX5_hasColour VX5_hasColour lX10_420 rfl rfl (sx_1 _ _) (Nat.le_of_ble_eq_true rfl) (by decide) (by decide) (by decide) ?_
      refine xv_if_ne fX10_fits_40 (fun h_40 => ?_) (fun h_40 => ?_)
      · refine xv_al0 fX10_fits_45 ?_
        refine xv_al1 fX10_fits_46 ?_
        refine xv_il2 fX10_fits_47 ?_
        refine xv_callV2R (c_far n c I J ha ha2 hct hct2 hn hn2) fX10_fits_48 YX10_isFarFromItsLike VX10_isFarFromItsLike lX10_423 rfl rfl (sx_0 _ _) (Nat.le_of_ble_eq_true rfl) (by decide) (by decide) (by decide) ?_
        exact xv_iret fX10_fits_51 rfl (narrow_bi _) (xv_eq_I (by rw [bi_iff (P := xFar I c a ct p) (Q := xFitPg I c a ct p) ⟨fun h => ⟨(Or.inl h_5), (Or.inr (fun q => h_40 (if01.mpr q))), h⟩, fun h => h.2.2⟩]) rfl)
      · refine xv_k fX10_fits_43 ?_
        exact xv_iret fX10_fits_44 rfl (by decide) (xv_eq_I (by rw [bi_f (fun h => h.2.1.elim h_29 (fun q => q (if01.mp h_40)))]) rfl)
  · refine xv_al1 fX10_fits_8 ?_
    refine xv_getI fX10_fits_9 gX10_415 rfl (sx_ad _ _ ha ha2) ?_
    refine xv_al0 fX10_fits_12 ?_
    refine xv_getR fX10_fits_13 gX10_10 rfl (sx_0 _ _) (rx_0_0 _) ?_
    refine xv_il2 fX10_fits_16 ?_
    refine xv_callV1R (c_sectionOf n c I J hp) fX10_fits_17 YX5_sectionOf VX5_sectionOf lX10_318 rfl rfl (sx_1 _ _) (Nat.le_of_ble_eq_true rfl) (by decide) (by decide) (by decide) ?_
    refine xv_ic_eq fX10_fits_20 (fun h_20 => ?_) (fun h_20 => ?_)
    · refine xv_al1 fX10_fits_25 ?_
      refine xv_getI fX10_fits_26 gX10_416 rfl (sx_ad _ _ ha ha2) ?_
      refine xv_if_eq fX10_fits_29 (fun h_29 => ?_) (fun h_29 => ?_)
      · refine xv_al0 fX10_fits_45 ?_
        refine xv_al1 fX10_fits_46 ?_
        refine xv_il2 fX10_fits_47 ?_
        refine xv_callV2R (c_far n c I J ha ha2 hct hct2 hn hn2) fX10_fits_48 YX10_isFarFromItsLike VX10_isFarFromItsLike lX10_423 rfl rfl (sx_0 _ _) (Nat.le_of_ble_eq_true rfl) (by decide) (by decide) (by decide) ?_
        exact xv_iret fX10_fits_51 rfl (narrow_bi _) (xv_eq_I (by rw [bi_iff (P := xFar I c a ct p) (Q := xFitPg I c a ct p) ⟨fun h => ⟨(Or.inr h_20), (Or.inl h_29), h⟩, fun h => h.2.2⟩]) rfl)
      · refine xv_al0 fX10_fits_32 ?_
        refine xv_getR fX10_fits_33 gX10_10 rfl (sx_0 _ _) (rx_0_0 _) ?_
        refine xv_il2 fX10_fits_36 ?_
        refine xv_callV1R (c_hasColour n c I J hp) fX10_fits_37 YX5_hasColour VX5_hasColour lX10_420 rfl rfl (sx_1 _ _) (Nat.le_of_ble_eq_true rfl) (by decide) (by decide) (by decide) ?_
        refine xv_if_ne fX10_fits_40 (fun h_40 => ?_) (fun h_40 => ?_)
        · refine xv_al0 fX10_fits_45 ?_
          refine xv_al1 fX10_fits_46 ?_
          refine xv_il2 fX10_fits_47 ?_
          refine xv_callV2R (c_far n c I J ha ha2 hct hct2 hn hn2) fX10_fits_48 YX10_isFarFromItsLike VX10_isFarFromItsLike lX10_423 rfl rfl (sx_0 _ _) (Nat.le_of_ble_eq_true rfl) (by decide) (by decide) (by decide) ?_
          exact xv_iret fX10_fits_51 rfl (narrow_bi _) (xv_eq_I (by rw [bi_iff (P := xFar I c a ct p) (Q := xFitPg I c a ct p) ⟨fun h => ⟨(Or.inr h_20), (Or.inr (fun q => h_40 (if01.mpr q))), h⟩, fun h => h.2.2⟩]) rfl)
        · refine xv_k fX10_fits_43 ?_
          exact xv_iret fX10_fits_44 rfl (by decide) (xv_eq_I (by rw [bi_f (fun h => h.2.1.elim h_29 (fun q => q (if01.mp h_40)))]) rfl)
    · refine xv_k fX10_fits_23 ?_
      exact xv_iret fX10_fits_24 rfl (by decide) (xv_eq_I (by rw [bi_f (fun h => h.1.elim h_5 h_20)]) rfl)

theorem p_place_a (n : Nat) (c : Nat × Nat) (I : xv_I) (J : xv_J) {x : Int32} (hx : ∀ k, x = nI k → k < 20 → c.1 ≤ k) : xv_Met mX10_place 8 16 128 (sx n c) I (rx c) J [.ref 0, .int x] (xv_eq (.inr "java/lang/IndexOutOfBoundsException") (sx n c) (I) (rx c) J) := by
  refine xv_Met.of (by decide +kernel) (Nat.le_of_ble_eq_true rfl) (List.forall_mem_cons.mpr ⟨rfl, List.forall_mem_cons.mpr ⟨rfl, fun _ h => nomatch h⟩⟩) ?_
  show xv_W mX10_place 8 16 128 _ 16 128 (sx n c) I (rx c) J 0 [some (.ref 0), some (.int x), none, none, none] []
  refine xv_al0 fX10_place_0 ?_
  refine xv_il1 fX10_place_1 ?_
  exact xv_callV1X (c_needAd_out n c I J hx) fX10_place_2 YX10_needAdvert VX10_needAdvert lX10_125 rfl rfl (sx_0 _ _) (Nat.le_of_ble_eq_true rfl) (by decide) (by decide) (by decide) xv_eq_i

theorem p_place_b (n : Nat) (c : Nat × Nat) (I : xv_I) (J : xv_J) {a : Nat} (ha : a < c.1) (ha2 : a < 20) (hpl : ¬ I (100 + a) 6 = -1) : xv_Met mX10_place 8 16 128 (sx n c) I (rx c) J [.ref 0, .int (nI a)] (xv_eq (.inr "java/lang/IllegalStateException") (sx n c) (I) (rx c) J) := by
  refine xv_Met.of (by decide +kernel) (Nat.le_of_ble_eq_true rfl) (List.forall_mem_cons.mpr ⟨rfl, List.forall_mem_cons.mpr ⟨rfl, fun _ h => nomatch h⟩⟩) ?_
  show xv_W mX10_place 8 16 128 _ 16 128 (sx n c) I (rx c) J 0 [some (.ref 0), some (.int (nI a)), none, none, none] []
  refine xv_al0 fX10_place_0 ?_
  refine xv_il1 fX10_place_1 ?_
  refine xv_callV1R (c_needAd_in n c I J ha ha2) fX10_place_2 YX10_needAdvert VX10_needAdvert lX10_125 rfl rfl (sx_0 _ _) (Nat.le_of_ble_eq_true rfl) (by decide) (by decide) (by decide) ?_
  refine xv_as2 fX10_place_5 ?_
  refine xv_al2 fX10_place_6 ?_
  refine xv_callV0R (c_isPlaced n c I J ha ha2) fX10_place_7 YX0_isPlaced VX0_isPlaced lX10_129 rfl rfl (sx_ad _ _ ha ha2) (Nat.le_of_ble_eq_true rfl) (by decide) (by decide) (by decide) ?_
  refine xv_if_eq fX10_place_10 (fun h_10 => ?_) (fun h_10 => ?_)
  · exact absurd hpl (bi_0 h_10)
  · exact xv_throw fX10_place_13 hX10_133 rfl (by decide) (by decide) (by decide) (by decide) xv_eq_i

theorem fsP_cases (P : Nat → Prop) (n : Nat) : (fsP P n = -1 ∧ ∀ j, j < n → ¬ P j) ∨ ∃ k, k < n ∧ P k ∧ (∀ j, j < k → ¬ P j) ∧ fsP P n = nI k := by
  have key : ∀ m, m ≤ n → (∀ j, j < m → ¬ P j) ∨ ∃ k, k < n ∧ P k ∧ ∀ j, j < k → ¬ P j := by
    intro m
    induction m with
    | zero => exact fun _ => Or.inl lt_no
    | succ m ih =>
      intro hm
      rcases ih (by omega) with h | h
      · by_cases h9 : P m
        · exact Or.inr ⟨m, by omega, h9, h⟩
        · exact Or.inl (lt_or h h9)
      · exact Or.inr h
  rcases key n (Nat.le_refl _) with h | ⟨k, h1, h2, h3⟩
  · exact Or.inl ⟨fsP_no h, h⟩
  · exact Or.inr ⟨k, h1, h2, h3, fsP_eq h3 h2 h1⟩
theorem nI_nm1 {k : Nat} (h : k < 2 ^ 31) : ¬ nI k = -1 := fun q => by
  have h1 := congrArg Int32.toInt q
  rw [nI_toInt h] at h1
  have : (-1 : Int32).toInt = -1 := by decide
  omega
def xPl2 (I : xv_I) (a p f w h : Nat) : xv_I := xFill p f w h (nI (100 + a)) (xv_u (xv_u I (100 + a) 6 (nI p)) (100 + a) 7 (nI f))
theorem xLies_fill {I : xv_I} {a p f w h : Nat} {x : Int32} (ha : 100 ≤ a) (hp : p < 10) (hl : xLies I a p f w h) : xLies (xFill p f w h x I) a p f w h := it_inv (fun s : xv_I => xLies s a p f w h) (fun k s hs => xLies_it ha hp hs) _ _ _ hl
/-- the place that is taken: the lowest page, there the lowest cell -/
abbrev xSpot (I : xv_I) (c : Nat × Nat) (a ct w h p f : Nat) : Prop := xFitPg I c a ct p ∧ f < 12 ∧ xFits I p w h f ∧ ∀ j, j < f → ¬ xFits I p w h j
def xQplace (n : Nat) (c : Nat × Nat) (I : xv_I) (J : xv_J) (a ct w h lo hi : Nat) : xv_Q := fun o s i r j => s = sx n c ∧ r = rx c ∧ j = J ∧ ((o = .inl (some (.int (-1))) ∧ i = I ∧ ∀ p, lo ≤ p → p ≤ hi → ∀ f, ¬ xSpot I c a ct w h p f) ∨ ∃ p f, lo ≤ p ∧ p ≤ hi ∧ xSpot I c a ct w h p f ∧ (∀ q, lo ≤ q → q < p → ∀ g, ¬ xSpot I c a ct w h q g) ∧ o = .inl (some (.int (nI (100 * p + f)))) ∧ i = xPl2 I a p f w h)
theorem hz_lo {I : xv_I} {a lo hi : Nat} (hz : (I (100 + a) 5 = -1 ∧ lo = 0 ∧ hi = 6) ∨ ∃ z, z < 3 ∧ I (100 + a) 5 = nI z ∧ lo = 7 + z ∧ hi = 7 + z) : (if I (100 + a) 5 = -1 then nI 0 else nI 7 + I (100 + a) 5) = nI lo ∧ (if I (100 + a) 5 = -1 then nI 6 else nI 7 + I (100 + a) 5) = nI hi ∧ lo ≤ hi ∧ hi < 10 := by
  rcases hz with ⟨h1, rfl, rfl⟩ | ⟨z, h1, h2, rfl, rfl⟩
  · rw [if_pos h1, if_pos h1]
    exact ⟨rfl, rfl, by decide, by decide⟩
  · have : ¬ I (100 + a) 5 = -1 := by rw [h2]; exact nI_nm1 (by omega)
    rw [if_neg this, if_neg this, h2, nI_add]
    exact ⟨rfl, rfl, Nat.le_refl _, by omega⟩
theorem l_place (n : Nat) (c : Nat × Nat) (I : xv_I) (J : xv_J) {a : Nat} (ha : a < c.1) (ha2 : a < 20) {ct w h lo hi : Nat} (hct : I (100 + a) 0 = nI ct) (hct2 : ct < 4) (hn : I 0 3 = nI c.1) (hn2 : c.1 ≤ 20) (hw : I (100 + a) 1 = nI w) (hh : I (100 + a) 2 = nI h) (hw2 : 1 ≤ w ∧ w ≤ 3) (hh2 : 1 ≤ h ∧ h ≤ 4) (hz : (I (100 + a) 5 = -1 ∧ lo = 0 ∧ hi = 6) ∨ ∃ z, z < 3 ∧ I (100 + a) 5 = nI z ∧ lo = 7 + z ∧ hi = 7 + z) : ∀ (m p : Nat) (l4 : Option Value), p + m = hi + 1 → lo ≤ p → (∀ q, lo ≤ q → q < p → ∀ f, ¬ xSpot I c a ct w h q f) → xv_W mX10_place 8 16 128 (xQplace n c I J a ct w h lo hi) 15 122 (sx n c) I (rx c) J 28 (some (.ref 0) :: some (.int (nI a)) :: some (.ref (100 + a)) :: some (.int (nI p)) :: l4 :: []) [] := by
  intro m
  obtain ⟨hlo, hhi, hle, h10⟩ := hz_lo hz
  induction m with
  | zero =>
    intro p l4 hm hlp i0
    show xv_W mX10_place 8 16 128 _ 15 122 (sx n c) I (rx c) J 28 (some (.ref 0) :: some (.int (nI a)) :: some (.ref (100 + a)) :: some (.int (nI p)) :: l4 :: []) []
    refine xv_il3 fX10_place_28 ?_
    refine xv_al2 fX10_place_29 ?_
    refine xv_callV0R (c_highPage n c I J ha ha2) fX10_place_30 YX0_highestPage VX0_highestPage lX10_139 rfl rfl (sx_ad _ _ ha ha2) (Nat.le_of_ble_eq_true rfl) (by decide) (by decide) (by decide) ?_
    rw [hhi]
    refine xv_ic_gt fX10_place_33 (fun h_33 => ?_) (fun h_33 => ?_)
    · refine xv_k fX10_place_103 ?_
      exact xv_iret fX10_place_104 rfl rfl ⟨rfl, rfl, rfl, Or.inl ⟨rfl, rfl, fun q h1 h2 => i0 q h1 (by omega)⟩⟩
    · exact absurd (nI_lt (by omega) (by omega)) h_33
  | succ m ih =>
    intro p l4 hm hlp i0
    show xv_W mX10_place 8 16 128 _ 15 122 (sx n c) I (rx c) J 28 (some (.ref 0) :: some (.int (nI a)) :: some (.ref (100 + a)) :: some (.int (nI p)) :: l4 :: []) []
    refine xv_il3 fX10_place_28 ?_
    refine xv_al2 fX10_place_29 ?_
    refine xv_callV0R (c_highPage n c I J ha ha2) fX10_place_30 YX0_highestPage VX0_highestPage lX10_139 rfl rfl (sx_ad _ _ ha ha2) (Nat.le_of_ble_eq_true rfl) (by decide) (by decide) (by decide) ?_
    rw [hhi]
    refine xv_ic_gt fX10_place_33 (fun h_33 => ?_) (fun h_33 => ?_)
    · exact absurd h_33 (nI_nlt (by omega) (by omega))
    · refine xv_al0 fX10_place_36 ?_
      refine xv_al2 fX10_place_37 ?_
      refine xv_il3 fX10_place_38 ?_
      refine xv_callV2R (c_fits n c I J ha ha2 hct hct2 hn hn2 (p := p) (by omega)) fX10_place_39 YX10_fits VX10_fits lX10_142 rfl rfl (sx_0 _ _) (Nat.le_of_ble_eq_true rfl) (by decide) (by decide) (by decide) ?_
      refine xv_if_eq fX10_place_42 (fun h_42 => ?_) (fun h_42 => ?_)
      · refine xv_k fX10_place_64 ?_
        refine xv_is4 fX10_place_65 ?_
        refine xv_il4 fX10_place_67 ?_
        refine xv_k fX10_place_69 ?_
        refine xv_ic_eq fX10_place_70 (fun h_70 => ?_) (fun h_70 => ?_)
        · refine xv_iincN3 (a := 1) fX10_place_97 (by decide) ?_
          refine xv_goto fX10_place_100 ?_
          exact ih (p + 1) _ (by omega) (by omega) (fun q h1 h2 f => if h3 : q < p then i0 q h1 h3 f else by
            rw [show q = p by omega]
            exact fun hs => bi_0 h_42 hs.1)
        · exact absurd rfl h_70
      · refine xv_al0 fX10_place_45 ?_
        refine xv_getR fX10_place_46 gX10_10 rfl (sx_0 _ _) (rx_0_0 _) ?_
        refine xv_il3 fX10_place_49 ?_
        refine xv_al2 fX10_place_50 ?_
        refine xv_getI fX10_place_51 gX10_146 rfl (sx_ad _ _ ha ha2) ?_
        rw [hw]
        refine xv_al2 fX10_place_54 ?_
        refine xv_getI fX10_place_55 gX10_149 rfl (sx_ad _ _ ha ha2) ?_
        rw [hh]
        refine xv_callV3R (c_FR n c I J (p := p) (by omega) hw2 hh2) fX10_place_58 YX5_freeRectangle VX5_freeRectangle lX10_152 rfl rfl (sx_1 _ _) (Nat.le_of_ble_eq_true rfl) (by decide) (by decide) (by decide) ?_
        refine xv_goto fX10_place_61 ?_
        refine xv_is4 fX10_place_65 ?_
        refine xv_il4 fX10_place_67 ?_
        refine xv_k fX10_place_69 ?_
        refine xv_ic_eq fX10_place_70 (fun h_70 => ?_) (fun h_70 => ?_)
        · refine xv_iincN3 (a := 1) fX10_place_97 (by decide) ?_
          refine xv_goto fX10_place_100 ?_
          exact ih (p + 1) _ (by omega) (by omega) (fun q h1 h2 f => if h3 : q < p then i0 q h1 h3 f else by
            rw [show q = p by omega]
            exact fun hs => by
              rcases fsP_cases (xFits I p w h) 12 with q9 | ⟨k9, q1, q2, q3, q4⟩
              · exact q9.2 f hs.2.1 hs.2.2.1
              · exact absurd (show nI k9 = -1 from q4.symm.trans h_70) (nI_nm1 (by omega)))
        · obtain ⟨f, hf1, hf2, hf3, hf4⟩ := (fsP_cases (xFits I p w h) 12).resolve_left (fun q => h_70 q.1)
          rw [show xFR I p w h = nI f from hf4]
          refine xv_al2 fX10_place_73 ?_
          refine xv_il3 fX10_place_74 ?_
          refine xv_il4 fX10_place_75 ?_
          refine xv_callV2V (c_putAt n c I J ha ha2) fX10_place_77 YX0_putAt VX0_putAt lX10_156 rfl rfl (sx_ad _ _ ha ha2) (Nat.le_of_ble_eq_true rfl) (by decide) (by decide) (by decide) ?_
          refine xv_al0 fX10_place_80 ?_
          refine xv_getR fX10_place_81 gX10_10 rfl (sx_0 _ _) (rx_0_0 _) ?_
          refine xv_al2 fX10_place_84 ?_
          refine xv_k fX10_place_85 ?_
          refine xv_il1 fX10_place_87 ?_
          refine xv_iadd fX10_place_88 ?_
          rw [nI_add]
          obtain hl9 : xLies (xv_u (xv_u I (100 + a) 6 (nI p)) (100 + a) 7 (nI f)) (100 + a) p f w h := ⟨by rw [xv_u_nk _ _ _ (by decide), xv_u_eq], by rw [xv_u_eq], by rw [xv_u_nk _ _ _ (by decide), xv_u_nk _ _ _ (by decide), hw], by rw [xv_u_nk _ _ _ (by decide), xv_u_nk _ _ _ (by decide), hh]⟩
          refine xv_callV2V (c_fill n c _ J (sx_ad _ _ ha ha2) (by omega) (p := p) (by omega) (f := f) (w := w) (h := h) (by have := hf2.1; have := hf2.2.1; omega) hh2.2 hw2.2 hl9) fX10_place_89 YX5_fillRectangle VX5_fillRectangle lX10_160 rfl rfl (sx_1 _ _) (Nat.le_of_ble_eq_true rfl) (by decide) (by decide) (by decide) ?_
          refine xv_al2 fX10_place_92 ?_
          refine xv_callV0R (c_where n c _ J ha ha2) fX10_place_93 YX0_whereItIs VX0_whereItIs lX10_164 rfl rfl (sx_ad _ _ ha ha2) (Nat.le_of_ble_eq_true rfl) (by decide) (by decide) (by decide) ?_
          obtain hl8 := xLies_fill (x := nI (100 + a)) (by omega) (by omega) hl9
          rw [hl8.1, hl8.2.1, nI_mul, nI_add]
          exact xv_iret fX10_place_96 rfl rfl ⟨rfl, rfl, rfl, Or.inr ⟨p, f, hlp, by omega, ⟨bi_1 h_42, hf1, hf2, hf3⟩, i0, rfl, rfl⟩⟩

theorem p_place_ok (n : Nat) (c : Nat × Nat) (I : xv_I) (J : xv_J) {a : Nat} (ha : a < c.1) (ha2 : a < 20) {ct w h lo hi : Nat} (hct : I (100 + a) 0 = nI ct) (hct2 : ct < 4) (hn : I 0 3 = nI c.1) (hn2 : c.1 ≤ 20) (hw : I (100 + a) 1 = nI w) (hh : I (100 + a) 2 = nI h) (hw2 : 1 ≤ w ∧ w ≤ 3) (hh2 : 1 ≤ h ∧ h ≤ 4) (hz : (I (100 + a) 5 = -1 ∧ lo = 0 ∧ hi = 6) ∨ ∃ z, z < 3 ∧ I (100 + a) 5 = nI z ∧ lo = 7 + z ∧ hi = 7 + z) (hpl : I (100 + a) 6 = -1) : xv_Met mX10_place 8 16 128 (sx n c) I (rx c) J [.ref 0, .int (nI a)] (xQplace n c I J a ct w h lo hi) := by
  refine xv_Met.of (by decide +kernel) (Nat.le_of_ble_eq_true rfl) (List.forall_mem_cons.mpr ⟨rfl, List.forall_mem_cons.mpr ⟨rfl, fun _ h => nomatch h⟩⟩) ?_
  show xv_W mX10_place 8 16 128 _ 16 128 (sx n c) I (rx c) J 0 [some (.ref 0), some (.int (nI a)), none, none, none] []
  refine xv_al0 fX10_place_0 ?_
  refine xv_il1 fX10_place_1 ?_
  refine xv_callV1R (c_needAd_in n c I J ha ha2) fX10_place_2 YX10_needAdvert VX10_needAdvert lX10_125 rfl rfl (sx_0 _ _) (Nat.le_of_ble_eq_true rfl) (by decide) (by decide) (by decide) ?_
  refine xv_as2 fX10_place_5 ?_
  refine xv_al2 fX10_place_6 ?_
  refine xv_callV0R (c_isPlaced n c I J ha ha2) fX10_place_7 YX0_isPlaced VX0_isPlaced lX10_129 rfl rfl (sx_ad _ _ ha ha2) (Nat.le_of_ble_eq_true rfl) (by decide) (by decide) (by decide) ?_
  refine xv_if_eq fX10_place_10 (fun h_10 => ?_) (fun h_10 => ?_)
  · refine xv_al2 fX10_place_23 ?_
    refine xv_callV0R (c_lowPage n c I J ha ha2) fX10_place_24 YX0_lowestPage VX0_lowestPage lX10_135 rfl rfl (sx_ad _ _ ha ha2) (Nat.le_of_ble_eq_true rfl) (by decide) (by decide) (by decide) ?_
    rw [(hz_lo hz).1]
    refine xv_is3 fX10_place_27 ?_
    obtain ⟨hlo, hhi, hle, h10⟩ := hz_lo hz
    exact l_place n c I J ha ha2 hct hct2 hn hn2 hw hh hw2 hh2 hz (hi + 1 - lo) lo none (by omega) (Nat.le_refl _) (fun q h1 h2 => absurd h1 (by omega))
  · exact absurd hpl (bi_1 h_10)
theorem p_takeOff_a (n : Nat) (c : Nat × Nat) (I : xv_I) (J : xv_J) {x : Int32} (hx : ∀ k, x = nI k → k < 20 → c.1 ≤ k) : xv_Met mX10_takeOff 8 16 128 (sx n c) I (rx c) J [.ref 0, .int x] (xv_eq (.inr "java/lang/IndexOutOfBoundsException") (sx n c) (I) (rx c) J) := by
  refine xv_Met.of (by decide +kernel) (Nat.le_of_ble_eq_true rfl) (List.forall_mem_cons.mpr ⟨rfl, List.forall_mem_cons.mpr ⟨rfl, fun _ h => nomatch h⟩⟩) ?_
  show xv_W mX10_takeOff 8 16 128 _ 16 128 (sx n c) I (rx c) J 0 [some (.ref 0), some (.int x), none, none] []
  refine xv_al0 fX10_takeOff_0 ?_
  refine xv_il1 fX10_takeOff_1 ?_
  exact xv_callV1X (c_needAd_out n c I J hx) fX10_takeOff_2 YX10_needAdvert VX10_needAdvert lX10_125 rfl rfl (sx_0 _ _) (Nat.le_of_ble_eq_true rfl) (by decide) (by decide) (by decide) xv_eq_i

theorem p_takeOff_b (n : Nat) (c : Nat × Nat) (I : xv_I) (J : xv_J) {a : Nat} (ha : a < c.1) (ha2 : a < 20) (hpl : I (100 + a) 6 = -1) : xv_Met mX10_takeOff 8 16 128 (sx n c) I (rx c) J [.ref 0, .int (nI a)] (xv_eq (.inr "java/lang/IllegalStateException") (sx n c) (I) (rx c) J) := by
  refine xv_Met.of (by decide +kernel) (Nat.le_of_ble_eq_true rfl) (List.forall_mem_cons.mpr ⟨rfl, List.forall_mem_cons.mpr ⟨rfl, fun _ h => nomatch h⟩⟩) ?_
  show xv_W mX10_takeOff 8 16 128 _ 16 128 (sx n c) I (rx c) J 0 [some (.ref 0), some (.int (nI a)), none, none] []
  refine xv_al0 fX10_takeOff_0 ?_
  refine xv_il1 fX10_takeOff_1 ?_
  refine xv_callV1R (c_needAd_in n c I J ha ha2) fX10_takeOff_2 YX10_needAdvert VX10_needAdvert lX10_125 rfl rfl (sx_0 _ _) (Nat.le_of_ble_eq_true rfl) (by decide) (by decide) (by decide) ?_
  refine xv_as2 fX10_takeOff_5 ?_
  refine xv_al2 fX10_takeOff_6 ?_
  refine xv_callV0R (c_isPlaced n c I J ha ha2) fX10_takeOff_7 YX0_isPlaced VX0_isPlaced lX10_129 rfl rfl (sx_ad _ _ ha ha2) (Nat.le_of_ble_eq_true rfl) (by decide) (by decide) (by decide) ?_
  refine xv_if_ne fX10_takeOff_10 (fun h_10 => ?_) (fun h_10 => ?_)
  · exact absurd hpl (bi_1 h_10)
  · exact xv_throw fX10_takeOff_13 hX10_167 rfl (by decide) (by decide) (by decide) (by decide) xv_eq_i

theorem p_takeOff_ok (n : Nat) (c : Nat × Nat) (I : xv_I) (J : xv_J) {a : Nat} (ha : a < c.1) (ha2 : a < 20) (hpl : ¬ I (100 + a) 6 = -1) : xv_Met mX10_takeOff 8 16 128 (sx n c) I (rx c) J [.ref 0, .int (nI a)] (xv_eq (.inl (some (.int (nI 100 * I (100 + a) 6 + I (100 + a) 7)))) (sx n c) (xv_u (xv_u (xFree (nI (100 + a)) I) (100 + a) 6 (-1)) (100 + a) 7 (-1)) (rx c) J) := by
  refine xv_Met.of (by decide +kernel) (Nat.le_of_ble_eq_true rfl) (List.forall_mem_cons.mpr ⟨rfl, List.forall_mem_cons.mpr ⟨rfl, fun _ h => nomatch h⟩⟩) ?_
  show xv_W mX10_takeOff 8 16 128 _ 16 128 (sx n c) I (rx c) J 0 [some (.ref 0), some (.int (nI a)), none, none] []
  refine xv_al0 fX10_takeOff_0 ?_
  refine xv_il1 fX10_takeOff_1 ?_
  refine xv_callV1R (c_needAd_in n c I J ha ha2) fX10_takeOff_2 YX10_needAdvert VX10_needAdvert lX10_125 rfl rfl (sx_0 _ _) (Nat.le_of_ble_eq_true rfl) (by decide) (by decide) (by decide) ?_
  refine xv_as2 fX10_takeOff_5 ?_
  refine xv_al2 fX10_takeOff_6 ?_
  refine xv_callV0R (c_isPlaced n c I J ha ha2) fX10_takeOff_7 YX0_isPlaced VX0_isPlaced lX10_129 rfl rfl (sx_ad _ _ ha ha2) (Nat.le_of_ble_eq_true rfl) (by decide) (by decide) (by decide) ?_
  refine xv_if_ne fX10_takeOff_10 (fun h_10 => ?_) (fun h_10 => ?_)
  · refine xv_al2 fX10_takeOff_23 ?_
    refine xv_callV0R (c_where n c I J ha ha2) fX10_takeOff_24 YX0_whereItIs VX0_whereItIs lX10_164 rfl rfl (sx_ad _ _ ha ha2) (Nat.le_of_ble_eq_true rfl) (by decide) (by decide) (by decide) ?_
    refine xv_is3 fX10_takeOff_27 ?_
    refine xv_al0 fX10_takeOff_28 ?_
    refine xv_getR fX10_takeOff_29 gX10_10 rfl (sx_0 _ _) (rx_0_0 _) ?_
    refine xv_k fX10_takeOff_32 ?_
    refine xv_il1 fX10_takeOff_34 ?_
    refine xv_iadd fX10_takeOff_35 ?_
    rw [nI_add]
    refine xv_callV1V (c_freeAllOf n c I J) fX10_takeOff_36 YX5_freeAllOf VX5_freeAllOf lX10_169 rfl rfl (sx_1 _ _) (Nat.le_of_ble_eq_true rfl) (by decide) (by decide) (by decide) ?_
    refine xv_al2 fX10_takeOff_39 ?_
    refine xv_k fX10_takeOff_40 ?_
    refine xv_k fX10_takeOff_41 ?_
    refine xv_callV2V (c_putAt n c _ J ha ha2) fX10_takeOff_42 YX0_putAt VX0_putAt lX10_156 rfl rfl (sx_ad _ _ ha ha2) (Nat.le_of_ble_eq_true rfl) (by decide) (by decide) (by decide) ?_
    refine xv_il3 fX10_takeOff_45 ?_
    exact xv_iret fX10_takeOff_46 rfl rfl xv_eq_i
  · exact absurd hpl (bi_0 h_10)

noncomputable def xIn1 (I : xv_I) (z i s : Nat) : Nat := iteP (¬ I (100 + i) 6 = -1 ∧ (I (100 + i) 6 < nI 7 ∨ I (100 + i) 6 = nI 7 + nI z)) (s + 1) s
noncomputable def xIn (I : xv_I) (c1 z : Nat) : Nat := it (xIn1 I z) c1 0 0
theorem l_adIn (n : Nat) (c : Nat × Nat) (I : xv_I) (J : xv_J) {z : Nat} (hn : I 0 3 = nI c.1) (hn2 : c.1 ≤ 20) {Q : xv_Q} : ∀ (m k : Nat) (s : Nat) (l4 : Option Value), k + m = c.1 → (∀ l4, xv_W mX10_advertsIn 8 16 128 Q 16 128 (sx n c) I (rx c) J 82 (some (.ref 0) :: some (.int (nI z)) :: some (.int (nI (it (xIn1 I z) m k s))) :: some (.int (nI c.1)) :: l4 :: []) []) → xv_W mX10_advertsIn 8 16 128 Q 16 128 (sx n c) I (rx c) J 23 (some (.ref 0) :: some (.int (nI z)) :: some (.int (nI s)) :: some (.int (nI k)) :: l4 :: []) [] := by
  intro m
  induction m with
  | zero =>
    intro k s l4 hm i0
    obtain rfl : k = c.1 := by omega
    refine xv_il3 fX10_advertsIn_23 ?_
    refine xv_al0 fX10_advertsIn_24 ?_
    refine xv_getI fX10_advertsIn_25 gX10_117 rfl (sx_0 _ _) ?_
    rw [hn]
    refine xv_ic_ge fX10_advertsIn_28 (fun h_28 => ?_) (fun h_28 => ?_)
    · exact i0 _
    · exact absurd (nI_le (Nat.le_refl _) (by omega)) h_28
  | succ m ih =>
    intro k s l4 hm i0
    have hk : k < c.1 := by omega
    show xv_W mX10_advertsIn 8 16 128 _ 16 128 (sx n c) I (rx c) J 23 (some (.ref 0) :: some (.int (nI z)) :: some (.int (nI s)) :: some (.int (nI k)) :: l4 :: []) []
    refine xv_il3 fX10_advertsIn_23 ?_
    refine xv_al0 fX10_advertsIn_24 ?_
    refine xv_getI fX10_advertsIn_25 gX10_117 rfl (sx_0 _ _) ?_
    rw [hn]
    refine xv_ic_ge fX10_advertsIn_28 (fun h_28 => ?_) (fun h_28 => ?_)
    · exact absurd h_28 (nI_ge hk (by omega))
    · refine xv_il3 fX10_advertsIn_31 ?_
      refine xv_al0 fX10_advertsIn_32 ?_
      refine xv_getR fX10_advertsIn_33 gX10_22 rfl (sx_0 _ _) (rx_0_2 _) ?_
      refine xv_alen fX10_advertsIn_36 (sx_18 _ _) (x := nI 20) rfl ?_
      refine xv_ic_ge fX10_advertsIn_37 (fun h_37 => ?_) (fun h_37 => ?_)
      · exact absurd h_37 (nI_ge (by omega) (by decide))
      · refine xv_al0 fX10_advertsIn_40 ?_
        refine xv_getR fX10_advertsIn_41 gX10_22 rfl (sx_0 _ _) (rx_0_2 _) ?_
        refine xv_il3 fX10_advertsIn_44 ?_
        refine xv_aaldK fX10_advertsIn_45 (sx_18 _ _) (Or.inl ⟨_, rfl⟩) (⟨by omega, by decide⟩) (rx_ad _ hk (by omega)) ?_
        refine xv_as4 fX10_advertsIn_46 ?_
        refine xv_al4 fX10_advertsIn_48 ?_
        refine xv_ifnull_r fX10_advertsIn_50 ?_
        refine xv_al4 fX10_advertsIn_53 ?_
        refine xv_callV0R (c_isPlaced n c I J hk (by omega)) fX10_advertsIn_55 YX0_isPlaced VX0_isPlaced lX10_129 rfl rfl (sx_ad _ _ hk (by omega)) (Nat.le_of_ble_eq_true rfl) (by decide) (by decide) (by decide) ?_
        refine xv_if_eq fX10_advertsIn_58 (fun h_58 => ?_) (fun h_58 => ?_)
        · refine xv_iincN3 (a := 1) fX10_advertsIn_76 (by decide) ?_
          refine xv_goto fX10_advertsIn_79 ?_
          exact ih (k + 1) s _ (by omega) (by rw [show it (xIn1 I z) (m + 1) k s = it (xIn1 I z) m (k + 1) (xIn1 I z k s) from rfl, xIn1, iteP_f (fun h => bi_0 h_58 h.1)] at i0; exact i0)
        · refine xv_al4 fX10_advertsIn_61 ?_
          refine xv_getI fX10_advertsIn_63 gX10_177 rfl (sx_ad _ _ hk (by omega)) ?_
          refine xv_il1 fX10_advertsIn_66 ?_
          refine xv_callS2R (c_inCopies n c I J _ _) fX10_advertsIn_67 YX10_isInCopies VX10_isInCopies lX10_180 rfl (Nat.le_of_ble_eq_true rfl) (by decide) (by decide) (by decide) ?_
          refine xv_if_eq fX10_advertsIn_70 (fun h_70 => ?_) (fun h_70 => ?_)
          · refine xv_iincN3 (a := 1) fX10_advertsIn_76 (by decide) ?_
            refine xv_goto fX10_advertsIn_79 ?_
            exact ih (k + 1) s _ (by omega) (by rw [show it (xIn1 I z) (m + 1) k s = it (xIn1 I z) m (k + 1) (xIn1 I z k s) from rfl, xIn1, iteP_f (fun h => bi_0 h_70 h.2)] at i0; exact i0)
          · refine xv_iincN2 (a := 1) fX10_advertsIn_73 (by decide) ?_
            refine xv_iincN3 (a := 1) fX10_advertsIn_76 (by decide) ?_
            refine xv_goto fX10_advertsIn_79 ?_
            exact ih (k + 1) (s + 1) _ (by omega) (by rw [show it (xIn1 I z) (m + 1) k s = it (xIn1 I z) m (k + 1) (xIn1 I z k s) from rfl, xIn1, iteP_t ⟨bi_1 h_58, bi_1 h_70⟩] at i0; exact i0)

theorem p_advertsIn_a (n : Nat) (c : Nat × Nat) (I : xv_I) (J : xv_J) {x : Int32} (hx : x < 0 ∨ ¬ x < nI 3) : xv_Met mX10_advertsIn 8 16 128 (sx n c) I (rx c) J [.ref 0, .int x] (xv_eq (.inr "java/lang/IndexOutOfBoundsException") (sx n c) (I) (rx c) J) := by
  refine xv_Met.of (by decide +kernel) (Nat.le_of_ble_eq_true rfl) (List.forall_mem_cons.mpr ⟨rfl, List.forall_mem_cons.mpr ⟨rfl, fun _ h => nomatch h⟩⟩) ?_
  show xv_W mX10_advertsIn 8 16 128 _ 16 128 (sx n c) I (rx c) J 0 [some (.ref 0), some (.int x), none, none, none] []
  refine xv_il1 fX10_advertsIn_0 ?_
  refine xv_if_lt fX10_advertsIn_1 (fun h_1 => ?_) (fun h_1 => ?_)
  · exact xv_throw fX10_advertsIn_9 hX10_174 rfl (by decide) (by decide) (by decide) (by decide) xv_eq_i
  · refine xv_il1 fX10_advertsIn_4 ?_
    refine xv_k fX10_advertsIn_5 ?_
    refine xv_ic_lt fX10_advertsIn_6 (fun h_6 => ?_) (fun h_6 => ?_)
    · exact absurd h_6 (hx.resolve_left h_1)
    · exact xv_throw fX10_advertsIn_9 hX10_174 rfl (by decide) (by decide) (by decide) (by decide) xv_eq_i

theorem p_advertsIn_ok (n : Nat) (c : Nat × Nat) (I : xv_I) (J : xv_J) {z : Nat} (hz : z < 3) (hn : I 0 3 = nI c.1) (hn2 : c.1 ≤ 20) : xv_Met mX10_advertsIn 8 16 128 (sx n c) I (rx c) J [.ref 0, .int (nI z)] (xv_eq (.inl (some (.int (nI (xIn I c.1 z))))) (sx n c) (I) (rx c) J) := by
  refine xv_Met.of (by decide +kernel) (Nat.le_of_ble_eq_true rfl) (List.forall_mem_cons.mpr ⟨rfl, List.forall_mem_cons.mpr ⟨rfl, fun _ h => nomatch h⟩⟩) ?_
  show xv_W mX10_advertsIn 8 16 128 _ 16 128 (sx n c) I (rx c) J 0 [some (.ref 0), some (.int (nI z)), none, none, none] []
  refine xv_il1 fX10_advertsIn_0 ?_
  refine xv_if_lt fX10_advertsIn_1 (fun h_1 => ?_) (fun h_1 => ?_)
  · exact absurd h_1 (nI_pos (by omega))
  · refine xv_il1 fX10_advertsIn_4 ?_
    refine xv_k fX10_advertsIn_5 ?_
    refine xv_ic_lt fX10_advertsIn_6 (fun h_6 => ?_) (fun h_6 => ?_)
    · refine xv_k fX10_advertsIn_19 ?_
      refine xv_is2 fX10_advertsIn_20 ?_
      refine xv_k fX10_advertsIn_21 ?_
      refine xv_is3 fX10_advertsIn_22 ?_
      exact l_adIn n c I J hn hn2 c.1 0 0 none (by omega) (fun l4 => by exact xv_il2 fX10_advertsIn_82 (xv_iret fX10_advertsIn_83 rfl rfl (xv_eq_I rfl rfl)))
    · exact absurd (nI_lt hz (by decide)) h_6
