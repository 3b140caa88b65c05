theorem xv_cstI : Cond.castable "java/lang/IndexOutOfBoundsException" "java/lang/IndexOutOfBoundsException" ∈ xv_tbl := (xv_tbl_mem 300 (by decide +kernel) rfl)
theorem xv_cstA : Cond.castable "java/lang/IllegalArgumentException" "java/lang/IllegalArgumentException" ∈ xv_tbl := (xv_tbl_mem 371 (by decide +kernel) rfl)
theorem xv_cstS : Cond.castable "java/lang/IllegalStateException" "java/lang/IllegalStateException" ∈ xv_tbl := (xv_tbl_mem 399 (by decide +kernel) rfl)
theorem hn_page_I : xv_Hn mL_page 4 "java/lang/IndexOutOfBoundsException" (nI 1) := ⟨[], [(⟨0, 7, 14, 15⟩ : ExceptionTableEntry), (⟨0, 7, 18, 17⟩ : ExceptionTableEntry)], (⟨0, 7, 10, 13⟩ : ExceptionTableEntry), _, 4, 12, 13, 14, rfl, (fun _ h => nomatch h), by decide, by decide, kL_13, xv_cstI, fL_page_10, by decide, ⟨1, by decide +kernel, by decide +kernel, rfl⟩, fL_page_13⟩
theorem hn_page_A : xv_Hn mL_page 4 "java/lang/IllegalArgumentException" (nI 2) := ⟨[(⟨0, 7, 10, 13⟩ : ExceptionTableEntry)], [(⟨0, 7, 18, 17⟩ : ExceptionTableEntry)], (⟨0, 7, 14, 15⟩ : ExceptionTableEntry), _, 4, 16, 17, 18, rfl, (List.forall_mem_cons.mpr ⟨Or.inr ⟨by decide, _, kL_13, by decide +kernel⟩, fun _ h => nomatch h⟩), by decide, by decide, kL_15, xv_cstA, fL_page_14, by decide, ⟨2, by decide +kernel, by decide +kernel, rfl⟩, fL_page_17⟩
theorem hn_page_S : xv_Hn mL_page 4 "java/lang/IllegalStateException" (nI 3) := ⟨[(⟨0, 7, 10, 13⟩ : ExceptionTableEntry), (⟨0, 7, 14, 15⟩ : ExceptionTableEntry)], [], (⟨0, 7, 18, 17⟩ : ExceptionTableEntry), _, 4, 20, 21, 22, rfl, (List.forall_mem_cons.mpr ⟨Or.inr ⟨by decide, _, kL_13, by decide +kernel⟩, List.forall_mem_cons.mpr ⟨Or.inr ⟨by decide, _, kL_15, by decide +kernel⟩, fun _ h => nomatch h⟩⟩), by decide, by decide, kL_17, xv_cstS, fL_page_18, by decide, ⟨3, by decide +kernel, by decide +kernel, rfl⟩, fL_page_21⟩
theorem w_page_ok (n : Nat) (c c' : Nat × Nat) (J : xv_J) {I I' : xv_I} {x1 x2 x3 : Int32} (hM : xv_Met mX10_page 8 16 128 (sx n c) I (rx c) J [.ref 0, .int x1, .int x2, .int x3] (xv_eq (.inl none) (sx n c') I' (rx c') J)) : xv_Met mL_page 9 16 128 (sx n c) I (rx c) J [.ref 0, .int x1, .int x2, .int x3] (xv_eq (.inl (some (.int (nI 0)))) (sx n c') I' (rx c') J) := by
  refine xv_Met.of (by decide +kernel) (Nat.le_of_ble_eq_true rfl) (List.forall_mem_cons.mpr ⟨rfl, List.forall_mem_cons.mpr ⟨rfl, List.forall_mem_cons.mpr ⟨rfl, List.forall_mem_cons.mpr ⟨rfl, fun _ h => nomatch h⟩⟩⟩⟩) ?_
  show xv_W mL_page 9 16 128 _ 16 128 (sx n c) I (rx c) J 0 [some (.ref 0), some (.int x1), some (.int x2), some (.int x3), none] []
  refine xv_al0 fL_page_0 ?_
  refine xv_il1 fL_page_1 ?_
  refine xv_il2 fL_page_2 ?_
  refine xv_il3 fL_page_3 ?_
  refine xv_callVH (As := [.int x1, .int x2, .int x3]) (S := []) (kc' := 0) (ks' := 0) hM fL_page_4 YX10_page VX10_page lL_7 rfl rfl (sx_0 _ _) rfl rfl (Nat.le_of_ble_eq_true rfl) (by decide) (by decide) (by decide) ?_ ?_
  · intro r s i rf j h _
    obtain ⟨h1, rfl, rfl, rfl, rfl⟩ := h
    cases h1
    refine xv_goto fL_page_7 ?_
    refine xv_k fL_page_22 ?_
    exact xv_iret fL_page_23 rfl rfl xv_eq_i
  · intro E s i rf j h
    obtain ⟨h1, -⟩ := h
    cases h1

theorem w_page_I (n : Nat) (c c' : Nat × Nat) (J : xv_J) {I I' : xv_I} {x1 x2 x3 : Int32} (hM : xv_Met mX10_page 8 16 128 (sx n c) I (rx c) J [.ref 0, .int x1, .int x2, .int x3] (xv_eq (.inr "java/lang/IndexOutOfBoundsException") (sx n c') I' (rx c') J)) : xv_Met mL_page 9 16 128 (sx n c) I (rx c) J [.ref 0, .int x1, .int x2, .int x3] (xv_eq (.inl (some (.int (nI 1)))) (sx n c') I' (rx c') J) := by
  refine xv_Met.of (by decide +kernel) (Nat.le_of_ble_eq_true rfl) (List.forall_mem_cons.mpr ⟨rfl, List.forall_mem_cons.mpr ⟨rfl, List.forall_mem_cons.mpr ⟨rfl, List.forall_mem_cons.mpr ⟨rfl, fun _ h => nomatch h⟩⟩⟩⟩) ?_
  show xv_W mL_page 9 16 128 _ 16 128 (sx n c) I (rx c) J 0 [some (.ref 0), some (.int x1), some (.int x2), some (.int x3), none] []
  refine xv_al0 fL_page_0 ?_
  refine xv_il1 fL_page_1 ?_
  refine xv_il2 fL_page_2 ?_
  refine xv_il3 fL_page_3 ?_
  refine xv_callVH (As := [.int x1, .int x2, .int x3]) (S := []) (kc' := 0) (ks' := 0) hM fL_page_4 YX10_page VX10_page lL_7 rfl rfl (sx_0 _ _) rfl rfl (Nat.le_of_ble_eq_true rfl) (by decide) (by decide) (by decide) ?_ ?_
  · intro r s i rf j h _
    obtain ⟨h1, -⟩ := h
    cases h1
  · intro E s i rf j h
    obtain ⟨h1, rfl, rfl, rfl, rfl⟩ := h
    cases h1
    exact ⟨_, hn_page_I, xv_eq_i⟩

theorem w_page_A (n : Nat) (c c' : Nat × Nat) (J : xv_J) {I I' : xv_I} {x1 x2 x3 : Int32} (hM : xv_Met mX10_page 8 16 128 (sx n c) I (rx c) J [.ref 0, .int x1, .int x2, .int x3] (xv_eq (.inr "java/lang/IllegalArgumentException") (sx n c') I' (rx c') J)) : xv_Met mL_page 9 16 128 (sx n c) I (rx c) J [.ref 0, .int x1, .int x2, .int x3] (xv_eq (.inl (some (.int (nI 2)))) (sx n c') I' (rx c') J) := by
  refine xv_Met.of (by decide +kernel) (Nat.le_of_ble_eq_true rfl) (List.forall_mem_cons.mpr ⟨rfl, List.forall_mem_cons.mpr ⟨rfl, List.forall_mem_cons.mpr ⟨rfl, List.forall_mem_cons.mpr ⟨rfl, fun _ h => nomatch h⟩⟩⟩⟩) ?_
  show xv_W mL_page 9 16 128 _ 16 128 (sx n c) I (rx c) J 0 [some (.ref 0), some (.int x1), some (.int x2), some (.int x3), none] []
  refine xv_al0 fL_page_0 ?_
  refine xv_il1 fL_page_1 ?_
  refine xv_il2 fL_page_2 ?_
  refine xv_il3 fL_page_3 ?_
  refine xv_callVH (As := [.int x1, .int x2, .int x3]) (S := []) (kc' := 0) (ks' := 0) hM fL_page_4 YX10_page VX10_page lL_7 rfl rfl (sx_0 _ _) rfl rfl (Nat.le_of_ble_eq_true rfl) (by decide) (by decide) (by decide) ?_ ?_
  · intro r s i rf j h _
    obtain ⟨h1, -⟩ := h
    cases h1
  · intro E s i rf j h
    obtain ⟨h1, rfl, rfl, rfl, rfl⟩ := h
    cases h1
    exact ⟨_, hn_page_A, xv_eq_i⟩

theorem w_page_S (n : Nat) (c c' : Nat × Nat) (J : xv_J) {I I' : xv_I} {x1 x2 x3 : Int32} (hM : xv_Met mX10_page 8 16 128 (sx n c) I (rx c) J [.ref 0, .int x1, .int x2, .int x3] (xv_eq (.inr "java/lang/IllegalStateException") (sx n c') I' (rx c') J)) : xv_Met mL_page 9 16 128 (sx n c) I (rx c) J [.ref 0, .int x1, .int x2, .int x3] (xv_eq (.inl (some (.int (nI 3)))) (sx n c') I' (rx c') J) := by
  refine xv_Met.of (by decide +kernel) (Nat.le_of_ble_eq_true rfl) (List.forall_mem_cons.mpr ⟨rfl, List.forall_mem_cons.mpr ⟨rfl, List.forall_mem_cons.mpr ⟨rfl, List.forall_mem_cons.mpr ⟨rfl, fun _ h => nomatch h⟩⟩⟩⟩) ?_
  show xv_W mL_page 9 16 128 _ 16 128 (sx n c) I (rx c) J 0 [some (.ref 0), some (.int x1), some (.int x2), some (.int x3), none] []
  refine xv_al0 fL_page_0 ?_
  refine xv_il1 fL_page_1 ?_
  refine xv_il2 fL_page_2 ?_
  refine xv_il3 fL_page_3 ?_
  refine xv_callVH (As := [.int x1, .int x2, .int x3]) (S := []) (kc' := 0) (ks' := 0) hM fL_page_4 YX10_page VX10_page lL_7 rfl rfl (sx_0 _ _) rfl rfl (Nat.le_of_ble_eq_true rfl) (by decide) (by decide) (by decide) ?_ ?_
  · intro r s i rf j h _
    obtain ⟨h1, -⟩ := h
    cases h1
  · intro E s i rf j h
    obtain ⟨h1, rfl, rfl, rfl, rfl⟩ := h
    cases h1
    exact ⟨_, hn_page_S, xv_eq_i⟩

theorem hn_cell_I : xv_Hn mL_cell 5 "java/lang/IndexOutOfBoundsException" (nI 1) := ⟨[], [], (⟨0, 10, 13, 13⟩ : ExceptionTableEntry), _, 4, 15, 16, 17, rfl, (fun _ h => nomatch h), by decide, by decide, kL_13, xv_cstI, fL_cell_13, by decide, ⟨1, by decide +kernel, by decide +kernel, rfl⟩, fL_cell_16⟩
theorem w_cell_ok (n : Nat) (c c' : Nat × Nat) (J : xv_J) {I I' : xv_I} {x1 x2 : Int32} {v : Int32} (hM : xv_Met mX10_cell 8 16 128 (sx n c) I (rx c) J [.ref 0, .int x1, .int x2] (xv_eq (.inl (some (.int (v)))) (sx n c') I' (rx c') J)) : xv_Met mL_cell 9 16 128 (sx n c) I (rx c) J [.ref 0, .int x1, .int x2, .ref 98] (xv_eq (.inl (some (.int (nI 0)))) (sx n c') I' (rx c') (xv_u J 98 0 v.toInt64)) := by
  refine xv_Met.of (by decide +kernel) (Nat.le_of_ble_eq_true rfl) (List.forall_mem_cons.mpr ⟨rfl, List.forall_mem_cons.mpr ⟨rfl, List.forall_mem_cons.mpr ⟨rfl, List.forall_mem_cons.mpr ⟨rfl, fun _ h => nomatch h⟩⟩⟩⟩) ?_
  show xv_W mL_cell 9 16 128 _ 16 128 (sx n c) I (rx c) J 0 [some (.ref 0), some (.int x1), some (.int x2), some (.ref 98), none] []
  refine xv_al3 fL_cell_0 ?_
  refine xv_k fL_cell_1 ?_
  refine xv_al0 fL_cell_2 ?_
  refine xv_il1 fL_cell_3 ?_
  refine xv_il2 fL_cell_4 ?_
  refine xv_callVH (As := [.int x1, .int x2]) (S := [.int (nI 0), .ref 98]) (kc' := 0) (ks' := 0) hM fL_cell_5 YX10_cell VX10_cell lL_19 rfl rfl (sx_0 _ _) rfl rfl (Nat.le_of_ble_eq_true rfl) (by decide) (by decide) (by decide) ?_ ?_
  · intro r s i rf j h _
    obtain ⟨h1, rfl, rfl, rfl, rfl⟩ := h
    cases h1
    refine xv_i2l fL_cell_8 ?_
    refine xv_lastN fL_cell_9 (sx_98 _ _) (⟨by decide, by decide⟩) ?_
    refine xv_goto fL_cell_10 ?_
    refine xv_k fL_cell_17 ?_
    exact xv_iret fL_cell_18 rfl rfl xv_eq_i
  · intro E s i rf j h
    obtain ⟨h1, -⟩ := h
    cases h1

theorem w_cell_I (n : Nat) (c c' : Nat × Nat) (J : xv_J) {I I' : xv_I} {x1 x2 : Int32} (hM : xv_Met mX10_cell 8 16 128 (sx n c) I (rx c) J [.ref 0, .int x1, .int x2] (xv_eq (.inr "java/lang/IndexOutOfBoundsException") (sx n c') I' (rx c') J)) : xv_Met mL_cell 9 16 128 (sx n c) I (rx c) J [.ref 0, .int x1, .int x2, .ref 98] (xv_eq (.inl (some (.int (nI 1)))) (sx n c') I' (rx c') J) := by
  refine xv_Met.of (by decide +kernel) (Nat.le_of_ble_eq_true rfl) (List.forall_mem_cons.mpr ⟨rfl, List.forall_mem_cons.mpr ⟨rfl, List.forall_mem_cons.mpr ⟨rfl, List.forall_mem_cons.mpr ⟨rfl, fun _ h => nomatch h⟩⟩⟩⟩) ?_
  show xv_W mL_cell 9 16 128 _ 16 128 (sx n c) I (rx c) J 0 [some (.ref 0), some (.int x1), some (.int x2), some (.ref 98), none] []
  refine xv_al3 fL_cell_0 ?_
  refine xv_k fL_cell_1 ?_
  refine xv_al0 fL_cell_2 ?_
  refine xv_il1 fL_cell_3 ?_
  refine xv_il2 fL_cell_4 ?_
  refine xv_callVH (As := [.int x1, .int x2]) (S := [.int (nI 0), .ref 98]) (kc' := 0) (ks' := 0) hM fL_cell_5 YX10_cell VX10_cell lL_19 rfl rfl (sx_0 _ _) rfl rfl (Nat.le_of_ble_eq_true rfl) (by decide) (by decide) (by decide) ?_ ?_
  · intro r s i rf j h _
    obtain ⟨h1, -⟩ := h
    cases h1
  · intro E s i rf j h
    obtain ⟨h1, rfl, rfl, rfl, rfl⟩ := h
    cases h1
    exact ⟨_, hn_cell_I, xv_eq_i⟩

theorem hn_distance_A : xv_Hn mL_distance 5 "java/lang/IllegalArgumentException" (nI 1) := ⟨[], [], (⟨0, 10, 13, 15⟩ : ExceptionTableEntry), _, 4, 15, 16, 17, rfl, (fun _ h => nomatch h), by decide, by decide, kL_15, xv_cstA, fL_distance_13, by decide, ⟨1, by decide +kernel, by decide +kernel, rfl⟩, fL_distance_16⟩
theorem w_distance_ok (n : Nat) (c c' : Nat × Nat) (J : xv_J) {I I' : xv_I} {x1 x2 : Int32} {v : Int32} (hM : xv_Met mX10_distance 8 16 128 (sx n c) I (rx c) J [.ref 0, .int x1, .int x2] (xv_eq (.inl (some (.int (v)))) (sx n c') I' (rx c') J)) : xv_Met mL_distance 9 16 128 (sx n c) I (rx c) J [.ref 0, .int x1, .int x2, .ref 98] (xv_eq (.inl (some (.int (nI 0)))) (sx n c') I' (rx c') (xv_u J 98 0 v.toInt64)) := by
  refine xv_Met.of (by decide +kernel) (Nat.le_of_ble_eq_true rfl) (List.forall_mem_cons.mpr ⟨rfl, List.forall_mem_cons.mpr ⟨rfl, List.forall_mem_cons.mpr ⟨rfl, List.forall_mem_cons.mpr ⟨rfl, fun _ h => nomatch h⟩⟩⟩⟩) ?_
  show xv_W mL_distance 9 16 128 _ 16 128 (sx n c) I (rx c) J 0 [some (.ref 0), some (.int x1), some (.int x2), some (.ref 98), none] []
  refine xv_al3 fL_distance_0 ?_
  refine xv_k fL_distance_1 ?_
  refine xv_al0 fL_distance_2 ?_
  refine xv_il1 fL_distance_3 ?_
  refine xv_il2 fL_distance_4 ?_
  refine xv_callVH (As := [.int x1, .int x2]) (S := [.int (nI 0), .ref 98]) (kc' := 0) (ks' := 0) hM fL_distance_5 YX10_distance VX10_distance lL_23 rfl rfl (sx_0 _ _) rfl rfl (Nat.le_of_ble_eq_true rfl) (by decide) (by decide) (by decide) ?_ ?_
  · intro r s i rf j h _
    obtain ⟨h1, rfl, rfl, rfl, rfl⟩ := h
    cases h1
    refine xv_i2l fL_distance_8 ?_
    refine xv_lastN fL_distance_9 (sx_98 _ _) (⟨by decide, by decide⟩) ?_
    refine xv_goto fL_distance_10 ?_
    refine xv_k fL_distance_17 ?_
    exact xv_iret fL_distance_18 rfl rfl xv_eq_i
  · intro E s i rf j h
    obtain ⟨h1, -⟩ := h
    cases h1

theorem w_distance_A (n : Nat) (c c' : Nat × Nat) (J : xv_J) {I I' : xv_I} {x1 x2 : Int32} (hM : xv_Met mX10_distance 8 16 128 (sx n c) I (rx c) J [.ref 0, .int x1, .int x2] (xv_eq (.inr "java/lang/IllegalArgumentException") (sx n c') I' (rx c') J)) : xv_Met mL_distance 9 16 128 (sx n c) I (rx c) J [.ref 0, .int x1, .int x2, .ref 98] (xv_eq (.inl (some (.int (nI 1)))) (sx n c') I' (rx c') J) := by
  refine xv_Met.of (by decide +kernel) (Nat.le_of_ble_eq_true rfl) (List.forall_mem_cons.mpr ⟨rfl, List.forall_mem_cons.mpr ⟨rfl, List.forall_mem_cons.mpr ⟨rfl, List.forall_mem_cons.mpr ⟨rfl, fun _ h => nomatch h⟩⟩⟩⟩) ?_
  show xv_W mL_distance 9 16 128 _ 16 128 (sx n c) I (rx c) J 0 [some (.ref 0), some (.int x1), some (.int x2), some (.ref 98), none] []
  refine xv_al3 fL_distance_0 ?_
  refine xv_k fL_distance_1 ?_
  refine xv_al0 fL_distance_2 ?_
  refine xv_il1 fL_distance_3 ?_
  refine xv_il2 fL_distance_4 ?_
  refine xv_callVH (As := [.int x1, .int x2]) (S := [.int (nI 0), .ref 98]) (kc' := 0) (ks' := 0) hM fL_distance_5 YX10_distance VX10_distance lL_23 rfl rfl (sx_0 _ _) rfl rfl (Nat.le_of_ble_eq_true rfl) (by decide) (by decide) (by decide) ?_ ?_
  · intro r s i rf j h _
    obtain ⟨h1, -⟩ := h
    cases h1
  · intro E s i rf j h
    obtain ⟨h1, rfl, rfl, rfl, rfl⟩ := h
    cases h1
    exact ⟨_, hn_distance_A, xv_eq_i⟩

theorem hn_advert_A : xv_Hn mL_advert 13 "java/lang/IllegalArgumentException" (nI 1) := ⟨[], [(⟨0, 18, 25, 17⟩ : ExceptionTableEntry)], (⟨0, 18, 21, 15⟩ : ExceptionTableEntry), _, 8, 23, 24, 25, rfl, (fun _ h => nomatch h), by decide, by decide, kL_15, xv_cstA, fL_advert_21, by decide, ⟨1, by decide +kernel, by decide +kernel, rfl⟩, fL_advert_24⟩
theorem hn_advert_S : xv_Hn mL_advert 13 "java/lang/IllegalStateException" (nI 2) := ⟨[(⟨0, 18, 21, 15⟩ : ExceptionTableEntry)], [], (⟨0, 18, 25, 17⟩ : ExceptionTableEntry), _, 8, 27, 28, 29, rfl, (List.forall_mem_cons.mpr ⟨Or.inr ⟨by decide, _, kL_15, by decide +kernel⟩, fun _ h => nomatch h⟩), by decide, by decide, kL_17, xv_cstS, fL_advert_25, by decide, ⟨2, by decide +kernel, by decide +kernel, rfl⟩, fL_advert_28⟩
theorem w_advert_ok (n : Nat) (c c' : Nat × Nat) (J : xv_J) {I I' : xv_I} {x1 x2 x3 x4 x5 x6 : Int32} {v : Int32} (hM : xv_Met mX10_advert 8 16 128 (sx n c) I (rx c) J [.ref 0, .int x1, .int x2, .int x3, .int x4, .int x5, .int x6] (xv_eq (.inl (some (.int (v)))) (sx n c') I' (rx c') J)) : xv_Met mL_advert 9 16 128 (sx n c) I (rx c) J [.ref 0, .int x1, .int x2, .int x3, .int x4, .int x5, .int x6, .ref 98] (xv_eq (.inl (some (.int (nI 0)))) (sx n c') I' (rx c') (xv_u J 98 0 v.toInt64)) := by
  refine xv_Met.of (by decide +kernel) (Nat.le_of_ble_eq_true rfl) (List.forall_mem_cons.mpr ⟨rfl, List.forall_mem_cons.mpr ⟨rfl, List.forall_mem_cons.mpr ⟨rfl, List.forall_mem_cons.mpr ⟨rfl, List.forall_mem_cons.mpr ⟨rfl, List.forall_mem_cons.mpr ⟨rfl, List.forall_mem_cons.mpr ⟨rfl, List.forall_mem_cons.mpr ⟨rfl, fun _ h => nomatch h⟩⟩⟩⟩⟩⟩⟩⟩) ?_
  show xv_W mL_advert 9 16 128 _ 16 128 (sx n c) I (rx c) J 0 [some (.ref 0), some (.int x1), some (.int x2), some (.int x3), some (.int x4), some (.int x5), some (.int x6), some (.ref 98), none] []
  refine xv_al7 fL_advert_0 ?_
  refine xv_k fL_advert_2 ?_
  refine xv_al0 fL_advert_3 ?_
  refine xv_il1 fL_advert_4 ?_
  refine xv_il2 fL_advert_5 ?_
  refine xv_il3 fL_advert_6 ?_
  refine xv_il4 fL_advert_7 ?_
  refine xv_il5 fL_advert_9 ?_
  refine xv_il6 fL_advert_11 ?_
  refine xv_callVH (As := [.int x1, .int x2, .int x3, .int x4, .int x5, .int x6]) (S := [.int (nI 0), .ref 98]) (kc' := 0) (ks' := 0) hM fL_advert_13 YX10_advert VX10_advert lL_26 rfl rfl (sx_0 _ _) rfl rfl (Nat.le_of_ble_eq_true rfl) (by decide) (by decide) (by decide) ?_ ?_
  · intro r s i rf j h _
    obtain ⟨h1, rfl, rfl, rfl, rfl⟩ := h
    cases h1
    refine xv_i2l fL_advert_16 ?_
    refine xv_lastN fL_advert_17 (sx_98 _ _) (⟨by decide, by decide⟩) ?_
    refine xv_goto fL_advert_18 ?_
    refine xv_k fL_advert_29 ?_
    exact xv_iret fL_advert_30 rfl rfl xv_eq_i
  · intro E s i rf j h
    obtain ⟨h1, -⟩ := h
    cases h1

theorem w_advert_A (n : Nat) (c c' : Nat × Nat) (J : xv_J) {I I' : xv_I} {x1 x2 x3 x4 x5 x6 : Int32} (hM : xv_Met mX10_advert 8 16 128 (sx n c) I (rx c) J [.ref 0, .int x1, .int x2, .int x3, .int x4, .int x5, .int x6] (xv_eq (.inr "java/lang/IllegalArgumentException") (sx n c') I' (rx c') J)) : xv_Met mL_advert 9 16 128 (sx n c) I (rx c) J [.ref 0, .int x1, .int x2, .int x3, .int x4, .int x5, .int x6, .ref 98] (xv_eq (.inl (some (.int (nI 1)))) (sx n c') I' (rx c') J) := by
  refine xv_Met.of (by decide +kernel) (Nat.le_of_ble_eq_true rfl) (List.forall_mem_cons.mpr ⟨rfl, List.forall_mem_cons.mpr ⟨rfl, List.forall_mem_cons.mpr ⟨rfl, List.forall_mem_cons.mpr ⟨rfl, List.forall_mem_cons.mpr ⟨rfl, List.forall_mem_cons.mpr ⟨rfl, List.forall_mem_cons.mpr ⟨rfl, List.forall_mem_cons.mpr ⟨rfl, fun _ h => nomatch h⟩⟩⟩⟩⟩⟩⟩⟩) ?_
  show xv_W mL_advert 9 16 128 _ 16 128 (sx n c) I (rx c) J 0 [some (.ref 0), some (.int x1), some (.int x2), some (.int x3), some (.int x4), some (.int x5), some (.int x6), some (.ref 98), none] []
  refine xv_al7 fL_advert_0 ?_
  refine xv_k fL_advert_2 ?_
  refine xv_al0 fL_advert_3 ?_
  refine xv_il1 fL_advert_4 ?_
  refine xv_il2 fL_advert_5 ?_
  refine xv_il3 fL_advert_6 ?_
  refine xv_il4 fL_advert_7 ?_
  refine xv_il5 fL_advert_9 ?_
  refine xv_il6 fL_advert_11 ?_
  refine xv_callVH (As := [.int x1, .int x2, .int x3, .int x4, .int x5, .int x6]) (S := [.int (nI 0), .ref 98]) (kc' := 0) (ks' := 0) hM fL_advert_13 YX10_advert VX10_advert lL_26 rfl rfl (sx_0 _ _) rfl rfl (Nat.le_of_ble_eq_true rfl) (by decide) (by decide) (by decide) ?_ ?_
  · intro r s i rf j h _
    obtain ⟨h1, -⟩ := h
    cases h1
  · intro E s i rf j h
    obtain ⟨h1, rfl, rfl, rfl, rfl⟩ := h
    cases h1
    exact ⟨_, hn_advert_A, xv_eq_i⟩

theorem w_advert_S (n : Nat) (c c' : Nat × Nat) (J : xv_J) {I I' : xv_I} {x1 x2 x3 x4 x5 x6 : Int32} (hM : xv_Met mX10_advert 8 16 128 (sx n c) I (rx c) J [.ref 0, .int x1, .int x2, .int x3, .int x4, .int x5, .int x6] (xv_eq (.inr "java/lang/IllegalStateException") (sx n c') I' (rx c') J)) : xv_Met mL_advert 9 16 128 (sx n c) I (rx c) J [.ref 0, .int x1, .int x2, .int x3, .int x4, .int x5, .int x6, .ref 98] (xv_eq (.inl (some (.int (nI 2)))) (sx n c') I' (rx c') J) := by
  refine xv_Met.of (by decide +kernel) (Nat.le_of_ble_eq_true rfl) (List.forall_mem_cons.mpr ⟨rfl, List.forall_mem_cons.mpr ⟨rfl, List.forall_mem_cons.mpr ⟨rfl, List.forall_mem_cons.mpr ⟨rfl, List.forall_mem_cons.mpr ⟨rfl, List.forall_mem_cons.mpr ⟨rfl, List.forall_mem_cons.mpr ⟨rfl, List.forall_mem_cons.mpr ⟨rfl, fun _ h => nomatch h⟩⟩⟩⟩⟩⟩⟩⟩) ?_
  show xv_W mL_advert 9 16 128 _ 16 128 (sx n c) I (rx c) J 0 [some (.ref 0), some (.int x1), some (.int x2), some (.int x3), some (.int x4), some (.int x5), some (.int x6), some (.ref 98), none] []
  refine xv_al7 fL_advert_0 ?_
  refine xv_k fL_advert_2 ?_
  refine xv_al0 fL_advert_3 ?_
  refine xv_il1 fL_advert_4 ?_
  refine xv_il2 fL_advert_5 ?_
  refine xv_il3 fL_advert_6 ?_
  refine xv_il4 fL_advert_7 ?_
  refine xv_il5 fL_advert_9 ?_
  refine xv_il6 fL_advert_11 ?_
  refine xv_callVH (As := [.int x1, .int x2, .int x3, .int x4, .int x5, .int x6]) (S := [.int (nI 0), .ref 98]) (kc' := 0) (ks' := 0) hM fL_advert_13 YX10_advert VX10_advert lL_26 rfl rfl (sx_0 _ _) rfl rfl (Nat.le_of_ble_eq_true rfl) (by decide) (by decide) (by decide) ?_ ?_
  · intro r s i rf j h _
    obtain ⟨h1, -⟩ := h
    cases h1
  · intro E s i rf j h
    obtain ⟨h1, rfl, rfl, rfl, rfl⟩ := h
    cases h1
    exact ⟨_, hn_advert_S, xv_eq_i⟩

theorem hn_place_I : xv_Hn mL_place 4 "java/lang/IndexOutOfBoundsException" (nI 1) := ⟨[], [(⟨0, 9, 15, 17⟩ : ExceptionTableEntry)], (⟨0, 9, 12, 13⟩ : ExceptionTableEntry), _, 3, 13, 14, 15, rfl, (fun _ h => nomatch h), by decide, by decide, kL_13, xv_cstI, fL_place_12, by decide, ⟨1, by decide +kernel, by decide +kernel, rfl⟩, fL_place_14⟩
theorem hn_place_S : xv_Hn mL_place 4 "java/lang/IllegalStateException" (nI 2) := ⟨[(⟨0, 9, 12, 13⟩ : ExceptionTableEntry)], [], (⟨0, 9, 15, 17⟩ : ExceptionTableEntry), _, 3, 16, 17, 18, rfl, (List.forall_mem_cons.mpr ⟨Or.inr ⟨by decide, _, kL_13, by decide +kernel⟩, fun _ h => nomatch h⟩), by decide, by decide, kL_17, xv_cstS, fL_place_15, by decide, ⟨2, by decide +kernel, by decide +kernel, rfl⟩, fL_place_17⟩
theorem w_place_ok (n : Nat) (c c' : Nat × Nat) (J : xv_J) {I I' : xv_I} {x1 : Int32} {v : Int32} (hM : xv_Met mX10_place 8 16 128 (sx n c) I (rx c) J [.ref 0, .int x1] (xv_eq (.inl (some (.int (v)))) (sx n c') I' (rx c') J)) : xv_Met mL_place 9 16 128 (sx n c) I (rx c) J [.ref 0, .int x1, .ref 98] (xv_eq (.inl (some (.int (nI 0)))) (sx n c') I' (rx c') (xv_u J 98 0 v.toInt64)) := by
  refine xv_Met.of (by decide +kernel) (Nat.le_of_ble_eq_true rfl) (List.forall_mem_cons.mpr ⟨rfl, List.forall_mem_cons.mpr ⟨rfl, List.forall_mem_cons.mpr ⟨rfl, fun _ h => nomatch h⟩⟩⟩) ?_
  show xv_W mL_place 9 16 128 _ 16 128 (sx n c) I (rx c) J 0 [some (.ref 0), some (.int x1), some (.ref 98), none] []
  refine xv_al2 fL_place_0 ?_
  refine xv_k fL_place_1 ?_
  refine xv_al0 fL_place_2 ?_
  refine xv_il1 fL_place_3 ?_
  refine xv_callVH (As := [.int x1]) (S := [.int (nI 0), .ref 98]) (kc' := 0) (ks' := 0) hM fL_place_4 YX10_place VX10_place lL_30 rfl rfl (sx_0 _ _) rfl rfl (Nat.le_of_ble_eq_true rfl) (by decide) (by decide) (by decide) ?_ ?_
  · intro r s i rf j h _
    obtain ⟨h1, rfl, rfl, rfl, rfl⟩ := h
    cases h1
    refine xv_i2l fL_place_7 ?_
    refine xv_lastN fL_place_8 (sx_98 _ _) (⟨by decide, by decide⟩) ?_
    refine xv_goto fL_place_9 ?_
    refine xv_k fL_place_18 ?_
    exact xv_iret fL_place_19 rfl rfl xv_eq_i
  · intro E s i rf j h
    obtain ⟨h1, -⟩ := h
    cases h1

theorem w_place_I (n : Nat) (c c' : Nat × Nat) (J : xv_J) {I I' : xv_I} {x1 : Int32} (hM : xv_Met mX10_place 8 16 128 (sx n c) I (rx c) J [.ref 0, .int x1] (xv_eq (.inr "java/lang/IndexOutOfBoundsException") (sx n c') I' (rx c') J)) : xv_Met mL_place 9 16 128 (sx n c) I (rx c) J [.ref 0, .int x1, .ref 98] (xv_eq (.inl (some (.int (nI 1)))) (sx n c') I' (rx c') J) := by
  refine xv_Met.of (by decide +kernel) (Nat.le_of_ble_eq_true rfl) (List.forall_mem_cons.mpr ⟨rfl, List.forall_mem_cons.mpr ⟨rfl, List.forall_mem_cons.mpr ⟨rfl, fun _ h => nomatch h⟩⟩⟩) ?_
  show xv_W mL_place 9 16 128 _ 16 128 (sx n c) I (rx c) J 0 [some (.ref 0), some (.int x1), some (.ref 98), none] []
  refine xv_al2 fL_place_0 ?_
  refine xv_k fL_place_1 ?_
  refine xv_al0 fL_place_2 ?_
  refine xv_il1 fL_place_3 ?_
  refine xv_callVH (As := [.int x1]) (S := [.int (nI 0), .ref 98]) (kc' := 0) (ks' := 0) hM fL_place_4 YX10_place VX10_place lL_30 rfl rfl (sx_0 _ _) rfl rfl (Nat.le_of_ble_eq_true rfl) (by decide) (by decide) (by decide) ?_ ?_
  · intro r s i rf j h _
    obtain ⟨h1, -⟩ := h
    cases h1
  · intro E s i rf j h
    obtain ⟨h1, rfl, rfl, rfl, rfl⟩ := h
    cases h1
    exact ⟨_, hn_place_I, xv_eq_i⟩

theorem w_place_S (n : Nat) (c c' : Nat × Nat) (J : xv_J) {I I' : xv_I} {x1 : Int32} (hM : xv_Met mX10_place 8 16 128 (sx n c) I (rx c) J [.ref 0, .int x1] (xv_eq (.inr "java/lang/IllegalStateException") (sx n c') I' (rx c') J)) : xv_Met mL_place 9 16 128 (sx n c) I (rx c) J [.ref 0, .int x1, .ref 98] (xv_eq (.inl (some (.int (nI 2)))) (sx n c') I' (rx c') J) := by
  refine xv_Met.of (by decide +kernel) (Nat.le_of_ble_eq_true rfl) (List.forall_mem_cons.mpr ⟨rfl, List.forall_mem_cons.mpr ⟨rfl, List.forall_mem_cons.mpr ⟨rfl, fun _ h => nomatch h⟩⟩⟩) ?_
  show xv_W mL_place 9 16 128 _ 16 128 (sx n c) I (rx c) J 0 [some (.ref 0), some (.int x1), some (.ref 98), none] []
  refine xv_al2 fL_place_0 ?_
  refine xv_k fL_place_1 ?_
  refine xv_al0 fL_place_2 ?_
  refine xv_il1 fL_place_3 ?_
  refine xv_callVH (As := [.int x1]) (S := [.int (nI 0), .ref 98]) (kc' := 0) (ks' := 0) hM fL_place_4 YX10_place VX10_place lL_30 rfl rfl (sx_0 _ _) rfl rfl (Nat.le_of_ble_eq_true rfl) (by decide) (by decide) (by decide) ?_ ?_
  · intro r s i rf j h _
    obtain ⟨h1, -⟩ := h
    cases h1
  · intro E s i rf j h
    obtain ⟨h1, rfl, rfl, rfl, rfl⟩ := h
    cases h1
    exact ⟨_, hn_place_S, xv_eq_i⟩

theorem hn_takeOff_I : xv_Hn mL_takeOff 4 "java/lang/IndexOutOfBoundsException" (nI 1) := ⟨[], [(⟨0, 9, 15, 17⟩ : ExceptionTableEntry)], (⟨0, 9, 12, 13⟩ : ExceptionTableEntry), _, 3, 13, 14, 15, rfl, (fun _ h => nomatch h), by decide, by decide, kL_13, xv_cstI, fL_takeOff_12, by decide, ⟨1, by decide +kernel, by decide +kernel, rfl⟩, fL_takeOff_14⟩
theorem hn_takeOff_S : xv_Hn mL_takeOff 4 "java/lang/IllegalStateException" (nI 2) := ⟨[(⟨0, 9, 12, 13⟩ : ExceptionTableEntry)], [], (⟨0, 9, 15, 17⟩ : ExceptionTableEntry), _, 3, 16, 17, 18, rfl, (List.forall_mem_cons.mpr ⟨Or.inr ⟨by decide, _, kL_13, by decide +kernel⟩, fun _ h => nomatch h⟩), by decide, by decide, kL_17, xv_cstS, fL_takeOff_15, by decide, ⟨2, by decide +kernel, by decide +kernel, rfl⟩, fL_takeOff_17⟩
theorem w_takeOff_ok (n : Nat) (c c' : Nat × Nat) (J : xv_J) {I I' : xv_I} {x1 : Int32} {v : Int32} (hM : xv_Met mX10_takeOff 8 16 128 (sx n c) I (rx c) J [.ref 0, .int x1] (xv_eq (.inl (some (.int (v)))) (sx n c') I' (rx c') J)) : xv_Met mL_takeOff 9 16 128 (sx n c) I (rx c) J [.ref 0, .int x1, .ref 98] (xv_eq (.inl (some (.int (nI 0)))) (sx n c') I' (rx c') (xv_u J 98 0 v.toInt64)) := by
  refine xv_Met.of (by decide +kernel) (Nat.le_of_ble_eq_true rfl) (List.forall_mem_cons.mpr ⟨rfl, List.forall_mem_cons.mpr ⟨rfl, List.forall_mem_cons.mpr ⟨rfl, fun _ h => nomatch h⟩⟩⟩) ?_
  show xv_W mL_takeOff 9 16 128 _ 16 128 (sx n c) I (rx c) J 0 [some (.ref 0), some (.int x1), some (.ref 98), none] []
  refine xv_al2 fL_takeOff_0 ?_
  refine xv_k fL_takeOff_1 ?_
  refine xv_al0 fL_takeOff_2 ?_
  refine xv_il1 fL_takeOff_3 ?_
  refine xv_callVH (As := [.int x1]) (S := [.int (nI 0), .ref 98]) (kc' := 0) (ks' := 0) hM fL_takeOff_4 YX10_takeOff VX10_takeOff lL_34 rfl rfl (sx_0 _ _) rfl rfl (Nat.le_of_ble_eq_true rfl) (by decide) (by decide) (by decide) ?_ ?_
  · intro r s i rf j h _
    obtain ⟨h1, rfl, rfl, rfl, rfl⟩ := h
    cases h1
    refine xv_i2l fL_takeOff_7 ?_
    refine xv_lastN fL_takeOff_8 (sx_98 _ _) (⟨by decide, by decide⟩) ?_
    refine xv_goto fL_takeOff_9 ?_
    refine xv_k fL_takeOff_18 ?_
    exact xv_iret fL_takeOff_19 rfl rfl xv_eq_i
  · intro E s i rf j h
    obtain ⟨h1, -⟩ := h
    cases h1

theorem w_takeOff_I (n : Nat) (c c' : Nat × Nat) (J : xv_J) {I I' : xv_I} {x1 : Int32} (hM : xv_Met mX10_takeOff 8 16 128 (sx n c) I (rx c) J [.ref 0, .int x1] (xv_eq (.inr "java/lang/IndexOutOfBoundsException") (sx n c') I' (rx c') J)) : xv_Met mL_takeOff 9 16 128 (sx n c) I (rx c) J [.ref 0, .int x1, .ref 98] (xv_eq (.inl (some (.int (nI 1)))) (sx n c') I' (rx c') J) := by
  refine xv_Met.of (by decide +kernel) (Nat.le_of_ble_eq_true rfl) (List.forall_mem_cons.mpr ⟨rfl, List.forall_mem_cons.mpr ⟨rfl, List.forall_mem_cons.mpr ⟨rfl, fun _ h => nomatch h⟩⟩⟩) ?_
  show xv_W mL_takeOff 9 16 128 _ 16 128 (sx n c) I (rx c) J 0 [some (.ref 0), some (.int x1), some (.ref 98), none] []
  refine xv_al2 fL_takeOff_0 ?_
  refine xv_k fL_takeOff_1 ?_
  refine xv_al0 fL_takeOff_2 ?_
  refine xv_il1 fL_takeOff_3 ?_
  refine xv_callVH (As := [.int x1]) (S := [.int (nI 0), .ref 98]) (kc' := 0) (ks' := 0) hM fL_takeOff_4 YX10_takeOff VX10_takeOff lL_34 rfl rfl (sx_0 _ _) rfl rfl (Nat.le_of_ble_eq_true rfl) (by decide) (by decide) (by decide) ?_ ?_
  · intro r s i rf j h _
    obtain ⟨h1, -⟩ := h
    cases h1
  · intro E s i rf j h
    obtain ⟨h1, rfl, rfl, rfl, rfl⟩ := h
    cases h1
    exact ⟨_, hn_takeOff_I, xv_eq_i⟩

theorem w_takeOff_S (n : Nat) (c c' : Nat × Nat) (J : xv_J) {I I' : xv_I} {x1 : Int32} (hM : xv_Met mX10_takeOff 8 16 128 (sx n c) I (rx c) J [.ref 0, .int x1] (xv_eq (.inr "java/lang/IllegalStateException") (sx n c') I' (rx c') J)) : xv_Met mL_takeOff 9 16 128 (sx n c) I (rx c) J [.ref 0, .int x1, .ref 98] (xv_eq (.inl (some (.int (nI 2)))) (sx n c') I' (rx c') J) := by
  refine xv_Met.of (by decide +kernel) (Nat.le_of_ble_eq_true rfl) (List.forall_mem_cons.mpr ⟨rfl, List.forall_mem_cons.mpr ⟨rfl, List.forall_mem_cons.mpr ⟨rfl, fun _ h => nomatch h⟩⟩⟩) ?_
  show xv_W mL_takeOff 9 16 128 _ 16 128 (sx n c) I (rx c) J 0 [some (.ref 0), some (.int x1), some (.ref 98), none] []
  refine xv_al2 fL_takeOff_0 ?_
  refine xv_k fL_takeOff_1 ?_
  refine xv_al0 fL_takeOff_2 ?_
  refine xv_il1 fL_takeOff_3 ?_
  refine xv_callVH (As := [.int x1]) (S := [.int (nI 0), .ref 98]) (kc' := 0) (ks' := 0) hM fL_takeOff_4 YX10_takeOff VX10_takeOff lL_34 rfl rfl (sx_0 _ _) rfl rfl (Nat.le_of_ble_eq_true rfl) (by decide) (by decide) (by decide) ?_ ?_
  · intro r s i rf j h _
    obtain ⟨h1, -⟩ := h
    cases h1
  · intro E s i rf j h
    obtain ⟨h1, rfl, rfl, rfl, rfl⟩ := h
    cases h1
    exact ⟨_, hn_takeOff_S, xv_eq_i⟩

theorem hn_advertsIn_I : xv_Hn mL_advertsIn 4 "java/lang/IndexOutOfBoundsException" (nI 1) := ⟨[], [], (⟨0, 9, 12, 13⟩ : ExceptionTableEntry), _, 3, 13, 14, 15, rfl, (fun _ h => nomatch h), by decide, by decide, kL_13, xv_cstI, fL_advertsIn_12, by decide, ⟨1, by decide +kernel, by decide +kernel, rfl⟩, fL_advertsIn_14⟩
theorem w_advertsIn_ok (n : Nat) (c c' : Nat × Nat) (J : xv_J) {I I' : xv_I} {x1 : Int32} {v : Int32} (hM : xv_Met mX10_advertsIn 8 16 128 (sx n c) I (rx c) J [.ref 0, .int x1] (xv_eq (.inl (some (.int (v)))) (sx n c') I' (rx c') J)) : xv_Met mL_advertsIn 9 16 128 (sx n c) I (rx c) J [.ref 0, .int x1, .ref 98] (xv_eq (.inl (some (.int (nI 0)))) (sx n c') I' (rx c') (xv_u J 98 0 v.toInt64)) := by
  refine xv_Met.of (by decide +kernel) (Nat.le_of_ble_eq_true rfl) (List.forall_mem_cons.mpr ⟨rfl, List.forall_mem_cons.mpr ⟨rfl, List.forall_mem_cons.mpr ⟨rfl, fun _ h => nomatch h⟩⟩⟩) ?_
  show xv_W mL_advertsIn 9 16 128 _ 16 128 (sx n c) I (rx c) J 0 [some (.ref 0), some (.int x1), some (.ref 98), none] []
  refine xv_al2 fL_advertsIn_0 ?_
  refine xv_k fL_advertsIn_1 ?_
  refine xv_al0 fL_advertsIn_2 ?_
  refine xv_il1 fL_advertsIn_3 ?_
  refine xv_callVH (As := [.int x1]) (S := [.int (nI 0), .ref 98]) (kc' := 0) (ks' := 0) hM fL_advertsIn_4 YX10_advertsIn VX10_advertsIn lL_37 rfl rfl (sx_0 _ _) rfl rfl (Nat.le_of_ble_eq_true rfl) (by decide) (by decide) (by decide) ?_ ?_
  · intro r s i rf j h _
    obtain ⟨h1, rfl, rfl, rfl, rfl⟩ := h
    cases h1
    refine xv_i2l fL_advertsIn_7 ?_
    refine xv_lastN fL_advertsIn_8 (sx_98 _ _) (⟨by decide, by decide⟩) ?_
    refine xv_goto fL_advertsIn_9 ?_
    refine xv_k fL_advertsIn_15 ?_
    exact xv_iret fL_advertsIn_16 rfl rfl xv_eq_i
  · intro E s i rf j h
    obtain ⟨h1, -⟩ := h
    cases h1

theorem w_advertsIn_I (n : Nat) (c c' : Nat × Nat) (J : xv_J) {I I' : xv_I} {x1 : Int32} (hM : xv_Met mX10_advertsIn 8 16 128 (sx n c) I (rx c) J [.ref 0, .int x1] (xv_eq (.inr "java/lang/IndexOutOfBoundsException") (sx n c') I' (rx c') J)) : xv_Met mL_advertsIn 9 16 128 (sx n c) I (rx c) J [.ref 0, .int x1, .ref 98] (xv_eq (.inl (some (.int (nI 1)))) (sx n c') I' (rx c') J) := by
  refine xv_Met.of (by decide +kernel) (Nat.le_of_ble_eq_true rfl) (List.forall_mem_cons.mpr ⟨rfl, List.forall_mem_cons.mpr ⟨rfl, List.forall_mem_cons.mpr ⟨rfl, fun _ h => nomatch h⟩⟩⟩) ?_
  show xv_W mL_advertsIn 9 16 128 _ 16 128 (sx n c) I (rx c) J 0 [some (.ref 0), some (.int x1), some (.ref 98), none] []
  refine xv_al2 fL_advertsIn_0 ?_
  refine xv_k fL_advertsIn_1 ?_
  refine xv_al0 fL_advertsIn_2 ?_
  refine xv_il1 fL_advertsIn_3 ?_
  refine xv_callVH (As := [.int x1]) (S := [.int (nI 0), .ref 98]) (kc' := 0) (ks' := 0) hM fL_advertsIn_4 YX10_advertsIn VX10_advertsIn lL_37 rfl rfl (sx_0 _ _) rfl rfl (Nat.le_of_ble_eq_true rfl) (by decide) (by decide) (by decide) ?_ ?_
  · intro r s i rf j h _
    obtain ⟨h1, -⟩ := h
    cases h1
  · intro E s i rf j h
    obtain ⟨h1, rfl, rfl, rfl, rfl⟩ := h
    cases h1
    exact ⟨_, hn_advertsIn_I, xv_eq_i⟩

theorem hn_story_A : xv_Hn mL_story 7 "java/lang/IllegalArgumentException" (nI 1) := ⟨[], [(⟨0, 12, 19, 17⟩ : ExceptionTableEntry)], (⟨0, 12, 15, 15⟩ : ExceptionTableEntry), _, 5, 17, 18, 19, rfl, (fun _ h => nomatch h), by decide, by decide, kL_15, xv_cstA, fL_story_15, by decide, ⟨1, by decide +kernel, by decide +kernel, rfl⟩, fL_story_18⟩
theorem hn_story_S : xv_Hn mL_story 7 "java/lang/IllegalStateException" (nI 2) := ⟨[(⟨0, 12, 15, 15⟩ : ExceptionTableEntry)], [], (⟨0, 12, 19, 17⟩ : ExceptionTableEntry), _, 5, 21, 22, 23, rfl, (List.forall_mem_cons.mpr ⟨Or.inr ⟨by decide, _, kL_15, by decide +kernel⟩, fun _ h => nomatch h⟩), by decide, by decide, kL_17, xv_cstS, fL_story_19, by decide, ⟨2, by decide +kernel, by decide +kernel, rfl⟩, fL_story_22⟩
theorem w_story_ok (n : Nat) (c c' : Nat × Nat) (J : xv_J) {I I' : xv_I} {x1 x2 x3 : Int32} {v : Int32} (hM : xv_Met mX10_story 8 16 128 (sx n c) I (rx c) J [.ref 0, .int x1, .int x2, .int x3] (xv_eq (.inl (some (.int (v)))) (sx n c') I' (rx c') J)) : xv_Met mL_story 9 16 128 (sx n c) I (rx c) J [.ref 0, .int x1, .int x2, .int x3, .ref 98] (xv_eq (.inl (some (.int (nI 0)))) (sx n c') I' (rx c') (xv_u J 98 0 v.toInt64)) := by
  refine xv_Met.of (by decide +kernel) (Nat.le_of_ble_eq_true rfl) (List.forall_mem_cons.mpr ⟨rfl, List.forall_mem_cons.mpr ⟨rfl, List.forall_mem_cons.mpr ⟨rfl, List.forall_mem_cons.mpr ⟨rfl, List.forall_mem_cons.mpr ⟨rfl, fun _ h => nomatch h⟩⟩⟩⟩⟩) ?_
  show xv_W mL_story 9 16 128 _ 16 128 (sx n c) I (rx c) J 0 [some (.ref 0), some (.int x1), some (.int x2), some (.int x3), some (.ref 98), none] []
  refine xv_al4 fL_story_0 ?_
  refine xv_k fL_story_2 ?_
  refine xv_al0 fL_story_3 ?_
  refine xv_il1 fL_story_4 ?_
  refine xv_il2 fL_story_5 ?_
  refine xv_il3 fL_story_6 ?_
  refine xv_callVH (As := [.int x1, .int x2, .int x3]) (S := [.int (nI 0), .ref 98]) (kc' := 0) (ks' := 0) hM fL_story_7 YX10_story VX10_story lL_40 rfl rfl (sx_0 _ _) rfl rfl (Nat.le_of_ble_eq_true rfl) (by decide) (by decide) (by decide) ?_ ?_
  · intro r s i rf j h _
    obtain ⟨h1, rfl, rfl, rfl, rfl⟩ := h
    cases h1
    refine xv_i2l fL_story_10 ?_
    refine xv_lastN fL_story_11 (sx_98 _ _) (⟨by decide, by decide⟩) ?_
    refine xv_goto fL_story_12 ?_
    refine xv_k fL_story_23 ?_
    exact xv_iret fL_story_24 rfl rfl xv_eq_i
  · intro E s i rf j h
    obtain ⟨h1, -⟩ := h
    cases h1

theorem w_story_A (n : Nat) (c c' : Nat × Nat) (J : xv_J) {I I' : xv_I} {x1 x2 x3 : Int32} (hM : xv_Met mX10_story 8 16 128 (sx n c) I (rx c) J [.ref 0, .int x1, .int x2, .int x3] (xv_eq (.inr "java/lang/IllegalArgumentException") (sx n c') I' (rx c') J)) : xv_Met mL_story 9 16 128 (sx n c) I (rx c) J [.ref 0, .int x1, .int x2, .int x3, .ref 98] (xv_eq (.inl (some (.int (nI 1)))) (sx n c') I' (rx c') J) := by
  refine xv_Met.of (by decide +kernel) (Nat.le_of_ble_eq_true rfl) (List.forall_mem_cons.mpr ⟨rfl, List.forall_mem_cons.mpr ⟨rfl, List.forall_mem_cons.mpr ⟨rfl, List.forall_mem_cons.mpr ⟨rfl, List.forall_mem_cons.mpr ⟨rfl, fun _ h => nomatch h⟩⟩⟩⟩⟩) ?_
  show xv_W mL_story 9 16 128 _ 16 128 (sx n c) I (rx c) J 0 [some (.ref 0), some (.int x1), some (.int x2), some (.int x3), some (.ref 98), none] []
  refine xv_al4 fL_story_0 ?_
  refine xv_k fL_story_2 ?_
  refine xv_al0 fL_story_3 ?_
  refine xv_il1 fL_story_4 ?_
  refine xv_il2 fL_story_5 ?_
  refine xv_il3 fL_story_6 ?_
  refine xv_callVH (As := [.int x1, .int x2, .int x3]) (S := [.int (nI 0), .ref 98]) (kc' := 0) (ks' := 0) hM fL_story_7 YX10_story VX10_story lL_40 rfl rfl (sx_0 _ _) rfl rfl (Nat.le_of_ble_eq_true rfl) (by decide) (by decide) (by decide) ?_ ?_
  · intro r s i rf j h _
    obtain ⟨h1, -⟩ := h
    cases h1
  · intro E s i rf j h
    obtain ⟨h1, rfl, rfl, rfl, rfl⟩ := h
    cases h1
    exact ⟨_, hn_story_A, xv_eq_i⟩

theorem w_story_S (n : Nat) (c c' : Nat × Nat) (J : xv_J) {I I' : xv_I} {x1 x2 x3 : Int32} (hM : xv_Met mX10_story 8 16 128 (sx n c) I (rx c) J [.ref 0, .int x1, .int x2, .int x3] (xv_eq (.inr "java/lang/IllegalStateException") (sx n c') I' (rx c') J)) : xv_Met mL_story 9 16 128 (sx n c) I (rx c) J [.ref 0, .int x1, .int x2, .int x3, .ref 98] (xv_eq (.inl (some (.int (nI 2)))) (sx n c') I' (rx c') J) := by
  refine xv_Met.of (by decide +kernel) (Nat.le_of_ble_eq_true rfl) (List.forall_mem_cons.mpr ⟨rfl, List.forall_mem_cons.mpr ⟨rfl, List.forall_mem_cons.mpr ⟨rfl, List.forall_mem_cons.mpr ⟨rfl, List.forall_mem_cons.mpr ⟨rfl, fun _ h => nomatch h⟩⟩⟩⟩⟩) ?_
  show xv_W mL_story 9 16 128 _ 16 128 (sx n c) I (rx c) J 0 [some (.ref 0), some (.int x1), some (.int x2), some (.int x3), some (.ref 98), none] []
  refine xv_al4 fL_story_0 ?_
  refine xv_k fL_story_2 ?_
  refine xv_al0 fL_story_3 ?_
  refine xv_il1 fL_story_4 ?_
  refine xv_il2 fL_story_5 ?_
  refine xv_il3 fL_story_6 ?_
  refine xv_callVH (As := [.int x1, .int x2, .int x3]) (S := [.int (nI 0), .ref 98]) (kc' := 0) (ks' := 0) hM fL_story_7 YX10_story VX10_story lL_40 rfl rfl (sx_0 _ _) rfl rfl (Nat.le_of_ble_eq_true rfl) (by decide) (by decide) (by decide) ?_ ?_
  · intro r s i rf j h _
    obtain ⟨h1, -⟩ := h
    cases h1
  · intro E s i rf j h
    obtain ⟨h1, rfl, rfl, rfl, rfl⟩ := h
    cases h1
    exact ⟨_, hn_story_S, xv_eq_i⟩

theorem hn_lay_I : xv_Hn mL_lay 4 "java/lang/IndexOutOfBoundsException" (nI 1) := ⟨[], [(⟨0, 9, 15, 17⟩ : ExceptionTableEntry)], (⟨0, 9, 12, 13⟩ : ExceptionTableEntry), _, 3, 13, 14, 15, rfl, (fun _ h => nomatch h), by decide, by decide, kL_13, xv_cstI, fL_lay_12, by decide, ⟨1, by decide +kernel, by decide +kernel, rfl⟩, fL_lay_14⟩
theorem hn_lay_S : xv_Hn mL_lay 4 "java/lang/IllegalStateException" (nI 2) := ⟨[(⟨0, 9, 12, 13⟩ : ExceptionTableEntry)], [], (⟨0, 9, 15, 17⟩ : ExceptionTableEntry), _, 3, 16, 17, 18, rfl, (List.forall_mem_cons.mpr ⟨Or.inr ⟨by decide, _, kL_13, by decide +kernel⟩, fun _ h => nomatch h⟩), by decide, by decide, kL_17, xv_cstS, fL_lay_15, by decide, ⟨2, by decide +kernel, by decide +kernel, rfl⟩, fL_lay_17⟩
theorem w_lay_ok (n : Nat) (c c' : Nat × Nat) (J : xv_J) {I I' : xv_I} {x1 : Int32} {v : Int32} (hM : xv_Met mX10_lay 8 16 128 (sx n c) I (rx c) J [.ref 0, .int x1] (xv_eq (.inl (some (.int (v)))) (sx n c') I' (rx c') J)) : xv_Met mL_lay 9 16 128 (sx n c) I (rx c) J [.ref 0, .int x1, .ref 98] (xv_eq (.inl (some (.int (nI 0)))) (sx n c') I' (rx c') (xv_u J 98 0 v.toInt64)) := by
  refine xv_Met.of (by decide +kernel) (Nat.le_of_ble_eq_true rfl) (List.forall_mem_cons.mpr ⟨rfl, List.forall_mem_cons.mpr ⟨rfl, List.forall_mem_cons.mpr ⟨rfl, fun _ h => nomatch h⟩⟩⟩) ?_
  show xv_W mL_lay 9 16 128 _ 16 128 (sx n c) I (rx c) J 0 [some (.ref 0), some (.int x1), some (.ref 98), none] []
  refine xv_al2 fL_lay_0 ?_
  refine xv_k fL_lay_1 ?_
  refine xv_al0 fL_lay_2 ?_
  refine xv_il1 fL_lay_3 ?_
  refine xv_callVH (As := [.int x1]) (S := [.int (nI 0), .ref 98]) (kc' := 0) (ks' := 0) hM fL_lay_4 YX10_lay VX10_lay lL_44 rfl rfl (sx_0 _ _) rfl rfl (Nat.le_of_ble_eq_true rfl) (by decide) (by decide) (by decide) ?_ ?_
  · intro r s i rf j h _
    obtain ⟨h1, rfl, rfl, rfl, rfl⟩ := h
    cases h1
    refine xv_i2l fL_lay_7 ?_
    refine xv_lastN fL_lay_8 (sx_98 _ _) (⟨by decide, by decide⟩) ?_
    refine xv_goto fL_lay_9 ?_
    refine xv_k fL_lay_18 ?_
    exact xv_iret fL_lay_19 rfl rfl xv_eq_i
  · intro E s i rf j h
    obtain ⟨h1, -⟩ := h
    cases h1

theorem w_lay_I (n : Nat) (c c' : Nat × Nat) (J : xv_J) {I I' : xv_I} {x1 : Int32} (hM : xv_Met mX10_lay 8 16 128 (sx n c) I (rx c) J [.ref 0, .int x1] (xv_eq (.inr "java/lang/IndexOutOfBoundsException") (sx n c') I' (rx c') J)) : xv_Met mL_lay 9 16 128 (sx n c) I (rx c) J [.ref 0, .int x1, .ref 98] (xv_eq (.inl (some (.int (nI 1)))) (sx n c') I' (rx c') J) := by
  refine xv_Met.of (by decide +kernel) (Nat.le_of_ble_eq_true rfl) (List.forall_mem_cons.mpr ⟨rfl, List.forall_mem_cons.mpr ⟨rfl, List.forall_mem_cons.mpr ⟨rfl, fun _ h => nomatch h⟩⟩⟩) ?_
  show xv_W mL_lay 9 16 128 _ 16 128 (sx n c) I (rx c) J 0 [some (.ref 0), some (.int x1), some (.ref 98), none] []
  refine xv_al2 fL_lay_0 ?_
  refine xv_k fL_lay_1 ?_
  refine xv_al0 fL_lay_2 ?_
  refine xv_il1 fL_lay_3 ?_
  refine xv_callVH (As := [.int x1]) (S := [.int (nI 0), .ref 98]) (kc' := 0) (ks' := 0) hM fL_lay_4 YX10_lay VX10_lay lL_44 rfl rfl (sx_0 _ _) rfl rfl (Nat.le_of_ble_eq_true rfl) (by decide) (by decide) (by decide) ?_ ?_
  · intro r s i rf j h _
    obtain ⟨h1, -⟩ := h
    cases h1
  · intro E s i rf j h
    obtain ⟨h1, rfl, rfl, rfl, rfl⟩ := h
    cases h1
    exact ⟨_, hn_lay_I, xv_eq_i⟩

theorem w_lay_S (n : Nat) (c c' : Nat × Nat) (J : xv_J) {I I' : xv_I} {x1 : Int32} (hM : xv_Met mX10_lay 8 16 128 (sx n c) I (rx c) J [.ref 0, .int x1] (xv_eq (.inr "java/lang/IllegalStateException") (sx n c') I' (rx c') J)) : xv_Met mL_lay 9 16 128 (sx n c) I (rx c) J [.ref 0, .int x1, .ref 98] (xv_eq (.inl (some (.int (nI 2)))) (sx n c') I' (rx c') J) := by
  refine xv_Met.of (by decide +kernel) (Nat.le_of_ble_eq_true rfl) (List.forall_mem_cons.mpr ⟨rfl, List.forall_mem_cons.mpr ⟨rfl, List.forall_mem_cons.mpr ⟨rfl, fun _ h => nomatch h⟩⟩⟩) ?_
  show xv_W mL_lay 9 16 128 _ 16 128 (sx n c) I (rx c) J 0 [some (.ref 0), some (.int x1), some (.ref 98), none] []
  refine xv_al2 fL_lay_0 ?_
  refine xv_k fL_lay_1 ?_
  refine xv_al0 fL_lay_2 ?_
  refine xv_il1 fL_lay_3 ?_
  refine xv_callVH (As := [.int x1]) (S := [.int (nI 0), .ref 98]) (kc' := 0) (ks' := 0) hM fL_lay_4 YX10_lay VX10_lay lL_44 rfl rfl (sx_0 _ _) rfl rfl (Nat.le_of_ble_eq_true rfl) (by decide) (by decide) (by decide) ?_ ?_
  · intro r s i rf j h _
    obtain ⟨h1, -⟩ := h
    cases h1
  · intro E s i rf j h
    obtain ⟨h1, rfl, rfl, rfl, rfl⟩ := h
    cases h1
    exact ⟨_, hn_lay_S, xv_eq_i⟩

theorem hn_lift_I : xv_Hn mL_lift 4 "java/lang/IndexOutOfBoundsException" (nI 1) := ⟨[], [(⟨0, 9, 15, 17⟩ : ExceptionTableEntry)], (⟨0, 9, 12, 13⟩ : ExceptionTableEntry), _, 3, 13, 14, 15, rfl, (fun _ h => nomatch h), by decide, by decide, kL_13, xv_cstI, fL_lift_12, by decide, ⟨1, by decide +kernel, by decide +kernel, rfl⟩, fL_lift_14⟩
theorem hn_lift_S : xv_Hn mL_lift 4 "java/lang/IllegalStateException" (nI 2) := ⟨[(⟨0, 9, 12, 13⟩ : ExceptionTableEntry)], [], (⟨0, 9, 15, 17⟩ : ExceptionTableEntry), _, 3, 16, 17, 18, rfl, (List.forall_mem_cons.mpr ⟨Or.inr ⟨by decide, _, kL_13, by decide +kernel⟩, fun _ h => nomatch h⟩), by decide, by decide, kL_17, xv_cstS, fL_lift_15, by decide, ⟨2, by decide +kernel, by decide +kernel, rfl⟩, fL_lift_17⟩
theorem w_lift_ok (n : Nat) (c c' : Nat × Nat) (J : xv_J) {I I' : xv_I} {x1 : Int32} {v : Int32} (hM : xv_Met mX10_lift 8 16 128 (sx n c) I (rx c) J [.ref 0, .int x1] (xv_eq (.inl (some (.int (v)))) (sx n c') I' (rx c') J)) : xv_Met mL_lift 9 16 128 (sx n c) I (rx c) J [.ref 0, .int x1, .ref 98] (xv_eq (.inl (some (.int (nI 0)))) (sx n c') I' (rx c') (xv_u J 98 0 v.toInt64)) := by
  refine xv_Met.of (by decide +kernel) (Nat.le_of_ble_eq_true rfl) (List.forall_mem_cons.mpr ⟨rfl, List.forall_mem_cons.mpr ⟨rfl, List.forall_mem_cons.mpr ⟨rfl, fun _ h => nomatch h⟩⟩⟩) ?_
  show xv_W mL_lift 9 16 128 _ 16 128 (sx n c) I (rx c) J 0 [some (.ref 0), some (.int x1), some (.ref 98), none] []
  refine xv_al2 fL_lift_0 ?_
  refine xv_k fL_lift_1 ?_
  refine xv_al0 fL_lift_2 ?_
  refine xv_il1 fL_lift_3 ?_
  refine xv_callVH (As := [.int x1]) (S := [.int (nI 0), .ref 98]) (kc' := 0) (ks' := 0) hM fL_lift_4 YX10_lift VX10_lift lL_47 rfl rfl (sx_0 _ _) rfl rfl (Nat.le_of_ble_eq_true rfl) (by decide) (by decide) (by decide) ?_ ?_
  · intro r s i rf j h _
    obtain ⟨h1, rfl, rfl, rfl, rfl⟩ := h
    cases h1
    refine xv_i2l fL_lift_7 ?_
    refine xv_lastN fL_lift_8 (sx_98 _ _) (⟨by decide, by decide⟩) ?_
    refine xv_goto fL_lift_9 ?_
    refine xv_k fL_lift_18 ?_
    exact xv_iret fL_lift_19 rfl rfl xv_eq_i
  · intro E s i rf j h
    obtain ⟨h1, -⟩ := h
    cases h1

theorem w_lift_I (n : Nat) (c c' : Nat × Nat) (J : xv_J) {I I' : xv_I} {x1 : Int32} (hM : xv_Met mX10_lift 8 16 128 (sx n c) I (rx c) J [.ref 0, .int x1] (xv_eq (.inr "java/lang/IndexOutOfBoundsException") (sx n c') I' (rx c') J)) : xv_Met mL_lift 9 16 128 (sx n c) I (rx c) J [.ref 0, .int x1, .ref 98] (xv_eq (.inl (some (.int (nI 1)))) (sx n c') I' (rx c') J) := by
  refine xv_Met.of (by decide +kernel) (Nat.le_of_ble_eq_true rfl) (List.forall_mem_cons.mpr ⟨rfl, List.forall_mem_cons.mpr ⟨rfl, List.forall_mem_cons.mpr ⟨rfl, fun _ h => nomatch h⟩⟩⟩) ?_
  show xv_W mL_lift 9 16 128 _ 16 128 (sx n c) I (rx c) J 0 [some (.ref 0), some (.int x1), some (.ref 98), none] []
  refine xv_al2 fL_lift_0 ?_
  refine xv_k fL_lift_1 ?_
  refine xv_al0 fL_lift_2 ?_
  refine xv_il1 fL_lift_3 ?_
  refine xv_callVH (As := [.int x1]) (S := [.int (nI 0), .ref 98]) (kc' := 0) (ks' := 0) hM fL_lift_4 YX10_lift VX10_lift lL_47 rfl rfl (sx_0 _ _) rfl rfl (Nat.le_of_ble_eq_true rfl) (by decide) (by decide) (by decide) ?_ ?_
  · intro r s i rf j h _
    obtain ⟨h1, -⟩ := h
    cases h1
  · intro E s i rf j h
    obtain ⟨h1, rfl, rfl, rfl, rfl⟩ := h
    cases h1
    exact ⟨_, hn_lift_I, xv_eq_i⟩

theorem w_lift_S (n : Nat) (c c' : Nat × Nat) (J : xv_J) {I I' : xv_I} {x1 : Int32} (hM : xv_Met mX10_lift 8 16 128 (sx n c) I (rx c) J [.ref 0, .int x1] (xv_eq (.inr "java/lang/IllegalStateException") (sx n c') I' (rx c') J)) : xv_Met mL_lift 9 16 128 (sx n c) I (rx c) J [.ref 0, .int x1, .ref 98] (xv_eq (.inl (some (.int (nI 2)))) (sx n c') I' (rx c') J) := by
  refine xv_Met.of (by decide +kernel) (Nat.le_of_ble_eq_true rfl) (List.forall_mem_cons.mpr ⟨rfl, List.forall_mem_cons.mpr ⟨rfl, List.forall_mem_cons.mpr ⟨rfl, fun _ h => nomatch h⟩⟩⟩) ?_
  show xv_W mL_lift 9 16 128 _ 16 128 (sx n c) I (rx c) J 0 [some (.ref 0), some (.int x1), some (.ref 98), none] []
  refine xv_al2 fL_lift_0 ?_
  refine xv_k fL_lift_1 ?_
  refine xv_al0 fL_lift_2 ?_
  refine xv_il1 fL_lift_3 ?_
  refine xv_callVH (As := [.int x1]) (S := [.int (nI 0), .ref 98]) (kc' := 0) (ks' := 0) hM fL_lift_4 YX10_lift VX10_lift lL_47 rfl rfl (sx_0 _ _) rfl rfl (Nat.le_of_ble_eq_true rfl) (by decide) (by decide) (by decide) ?_ ?_
  · intro r s i rf j h _
    obtain ⟨h1, -⟩ := h
    cases h1
  · intro E s i rf j h
    obtain ⟨h1, rfl, rfl, rfl, rfl⟩ := h
    cases h1
    exact ⟨_, hn_lift_S, xv_eq_i⟩

theorem hn_change_I : xv_Hn mL_change 5 "java/lang/IndexOutOfBoundsException" (nI 1) := ⟨[], [(⟨0, 10, 17, 17⟩ : ExceptionTableEntry)], (⟨0, 10, 13, 13⟩ : ExceptionTableEntry), _, 4, 15, 16, 17, rfl, (fun _ h => nomatch h), by decide, by decide, kL_13, xv_cstI, fL_change_13, by decide, ⟨1, by decide +kernel, by decide +kernel, rfl⟩, fL_change_16⟩
theorem hn_change_S : xv_Hn mL_change 5 "java/lang/IllegalStateException" (nI 2) := ⟨[(⟨0, 10, 13, 13⟩ : ExceptionTableEntry)], [], (⟨0, 10, 17, 17⟩ : ExceptionTableEntry), _, 4, 19, 20, 21, rfl, (List.forall_mem_cons.mpr ⟨Or.inr ⟨by decide, _, kL_13, by decide +kernel⟩, fun _ h => nomatch h⟩), by decide, by decide, kL_17, xv_cstS, fL_change_17, by decide, ⟨2, by decide +kernel, by decide +kernel, rfl⟩, fL_change_20⟩
theorem w_change_ok (n : Nat) (c c' : Nat × Nat) (J : xv_J) {I I' : xv_I} {x1 x2 : Int32} {v : Int32} (hM : xv_Met mX10_change 8 16 128 (sx n c) I (rx c) J [.ref 0, .int x1, .int x2] (xv_eq (.inl (some (.int (v)))) (sx n c') I' (rx c') J)) : xv_Met mL_change 9 16 128 (sx n c) I (rx c) J [.ref 0, .int x1, .int x2, .ref 98] (xv_eq (.inl (some (.int (nI 0)))) (sx n c') I' (rx c') (xv_u J 98 0 v.toInt64)) := by
  refine xv_Met.of (by decide +kernel) (Nat.le_of_ble_eq_true rfl) (List.forall_mem_cons.mpr ⟨rfl, List.forall_mem_cons.mpr ⟨rfl, List.forall_mem_cons.mpr ⟨rfl, List.forall_mem_cons.mpr ⟨rfl, fun _ h => nomatch h⟩⟩⟩⟩) ?_
  show xv_W mL_change 9 16 128 _ 16 128 (sx n c) I (rx c) J 0 [some (.ref 0), some (.int x1), some (.int x2), some (.ref 98), none] []
  refine xv_al3 fL_change_0 ?_
  refine xv_k fL_change_1 ?_
  refine xv_al0 fL_change_2 ?_
  refine xv_il1 fL_change_3 ?_
  refine xv_il2 fL_change_4 ?_
  refine xv_callVH (As := [.int x1, .int x2]) (S := [.int (nI 0), .ref 98]) (kc' := 0) (ks' := 0) hM fL_change_5 YX10_change VX10_change lL_50 rfl rfl (sx_0 _ _) rfl rfl (Nat.le_of_ble_eq_true rfl) (by decide) (by decide) (by decide) ?_ ?_
  · intro r s i rf j h _
    obtain ⟨h1, rfl, rfl, rfl, rfl⟩ := h
    cases h1
    refine xv_i2l fL_change_8 ?_
    refine xv_lastN fL_change_9 (sx_98 _ _) (⟨by decide, by decide⟩) ?_
    refine xv_goto fL_change_10 ?_
    refine xv_k fL_change_21 ?_
    exact xv_iret fL_change_22 rfl rfl xv_eq_i
  · intro E s i rf j h
    obtain ⟨h1, -⟩ := h
    cases h1

theorem w_change_I (n : Nat) (c c' : Nat × Nat) (J : xv_J) {I I' : xv_I} {x1 x2 : Int32} (hM : xv_Met mX10_change 8 16 128 (sx n c) I (rx c) J [.ref 0, .int x1, .int x2] (xv_eq (.inr "java/lang/IndexOutOfBoundsException") (sx n c') I' (rx c') J)) : xv_Met mL_change 9 16 128 (sx n c) I (rx c) J [.ref 0, .int x1, .int x2, .ref 98] (xv_eq (.inl (some (.int (nI 1)))) (sx n c') I' (rx c') J) := by
  refine xv_Met.of (by decide +kernel) (Nat.le_of_ble_eq_true rfl) (List.forall_mem_cons.mpr ⟨rfl, List.forall_mem_cons.mpr ⟨rfl, List.forall_mem_cons.mpr ⟨rfl, List.forall_mem_cons.mpr ⟨rfl, fun _ h => nomatch h⟩⟩⟩⟩) ?_
  show xv_W mL_change 9 16 128 _ 16 128 (sx n c) I (rx c) J 0 [some (.ref 0), some (.int x1), some (.int x2), some (.ref 98), none] []
  refine xv_al3 fL_change_0 ?_
  refine xv_k fL_change_1 ?_
  refine xv_al0 fL_change_2 ?_
  refine xv_il1 fL_change_3 ?_
  refine xv_il2 fL_change_4 ?_
  refine xv_callVH (As := [.int x1, .int x2]) (S := [.int (nI 0), .ref 98]) (kc' := 0) (ks' := 0) hM fL_change_5 YX10_change VX10_change lL_50 rfl rfl (sx_0 _ _) rfl rfl (Nat.le_of_ble_eq_true rfl) (by decide) (by decide) (by decide) ?_ ?_
  · intro r s i rf j h _
    obtain ⟨h1, -⟩ := h
    cases h1
  · intro E s i rf j h
    obtain ⟨h1, rfl, rfl, rfl, rfl⟩ := h
    cases h1
    exact ⟨_, hn_change_I, xv_eq_i⟩

theorem w_change_S (n : Nat) (c c' : Nat × Nat) (J : xv_J) {I I' : xv_I} {x1 x2 : Int32} (hM : xv_Met mX10_change 8 16 128 (sx n c) I (rx c) J [.ref 0, .int x1, .int x2] (xv_eq (.inr "java/lang/IllegalStateException") (sx n c') I' (rx c') J)) : xv_Met mL_change 9 16 128 (sx n c) I (rx c) J [.ref 0, .int x1, .int x2, .ref 98] (xv_eq (.inl (some (.int (nI 2)))) (sx n c') I' (rx c') J) := by
  refine xv_Met.of (by decide +kernel) (Nat.le_of_ble_eq_true rfl) (List.forall_mem_cons.mpr ⟨rfl, List.forall_mem_cons.mpr ⟨rfl, List.forall_mem_cons.mpr ⟨rfl, List.forall_mem_cons.mpr ⟨rfl, fun _ h => nomatch h⟩⟩⟩⟩) ?_
  show xv_W mL_change 9 16 128 _ 16 128 (sx n c) I (rx c) J 0 [some (.ref 0), some (.int x1), some (.int x2), some (.ref 98), none] []
  refine xv_al3 fL_change_0 ?_
  refine xv_k fL_change_1 ?_
  refine xv_al0 fL_change_2 ?_
  refine xv_il1 fL_change_3 ?_
  refine xv_il2 fL_change_4 ?_
  refine xv_callVH (As := [.int x1, .int x2]) (S := [.int (nI 0), .ref 98]) (kc' := 0) (ks' := 0) hM fL_change_5 YX10_change VX10_change lL_50 rfl rfl (sx_0 _ _) rfl rfl (Nat.le_of_ble_eq_true rfl) (by decide) (by decide) (by decide) ?_ ?_
  · intro r s i rf j h _
    obtain ⟨h1, -⟩ := h
    cases h1
  · intro E s i rf j h
    obtain ⟨h1, rfl, rfl, rfl, rfl⟩ := h
    cases h1
    exact ⟨_, hn_change_S, xv_eq_i⟩

theorem hn_part_I : xv_Hn mL_part 5 "java/lang/IndexOutOfBoundsException" (nI 1) := ⟨[], [(⟨0, 10, 17, 15⟩ : ExceptionTableEntry)], (⟨0, 10, 13, 13⟩ : ExceptionTableEntry), _, 4, 15, 16, 17, rfl, (fun _ h => nomatch h), by decide, by decide, kL_13, xv_cstI, fL_part_13, by decide, ⟨1, by decide +kernel, by decide +kernel, rfl⟩, fL_part_16⟩
theorem hn_part_A : xv_Hn mL_part 5 "java/lang/IllegalArgumentException" (nI 2) := ⟨[(⟨0, 10, 13, 13⟩ : ExceptionTableEntry)], [], (⟨0, 10, 17, 15⟩ : ExceptionTableEntry), _, 4, 19, 20, 21, rfl, (List.forall_mem_cons.mpr ⟨Or.inr ⟨by decide, _, kL_13, by decide +kernel⟩, fun _ h => nomatch h⟩), by decide, by decide, kL_15, xv_cstA, fL_part_17, by decide, ⟨2, by decide +kernel, by decide +kernel, rfl⟩, fL_part_20⟩
theorem w_part_ok (n : Nat) (c c' : Nat × Nat) (J : xv_J) {I I' : xv_I} {x1 x2 : Int32} {v : Int32} (hM : xv_Met mX10_part 8 16 128 (sx n c) I (rx c) J [.ref 0, .int x1, .int x2] (xv_eq (.inl (some (.int (v)))) (sx n c') I' (rx c') J)) : xv_Met mL_part 9 16 128 (sx n c) I (rx c) J [.ref 0, .int x1, .int x2, .ref 98] (xv_eq (.inl (some (.int (nI 0)))) (sx n c') I' (rx c') (xv_u J 98 0 v.toInt64)) := by
  refine xv_Met.of (by decide +kernel) (Nat.le_of_ble_eq_true rfl) (List.forall_mem_cons.mpr ⟨rfl, List.forall_mem_cons.mpr ⟨rfl, List.forall_mem_cons.mpr ⟨rfl, List.forall_mem_cons.mpr ⟨rfl, fun _ h => nomatch h⟩⟩⟩⟩) ?_
  show xv_W mL_part 9 16 128 _ 16 128 (sx n c) I (rx c) J 0 [some (.ref 0), some (.int x1), some (.int x2), some (.ref 98), none] []
  refine xv_al3 fL_part_0 ?_
  refine xv_k fL_part_1 ?_
  refine xv_al0 fL_part_2 ?_
  refine xv_il1 fL_part_3 ?_
  refine xv_il2 fL_part_4 ?_
  refine xv_callVH (As := [.int x1, .int x2]) (S := [.int (nI 0), .ref 98]) (kc' := 0) (ks' := 0) hM fL_part_5 YX10_part VX10_part lL_53 rfl rfl (sx_0 _ _) rfl rfl (Nat.le_of_ble_eq_true rfl) (by decide) (by decide) (by decide) ?_ ?_
  · intro r s i rf j h _
    obtain ⟨h1, rfl, rfl, rfl, rfl⟩ := h
    cases h1
    refine xv_i2l fL_part_8 ?_
    refine xv_lastN fL_part_9 (sx_98 _ _) (⟨by decide, by decide⟩) ?_
    refine xv_goto fL_part_10 ?_
    refine xv_k fL_part_21 ?_
    exact xv_iret fL_part_22 rfl rfl xv_eq_i
  · intro E s i rf j h
    obtain ⟨h1, -⟩ := h
    cases h1

theorem w_part_I (n : Nat) (c c' : Nat × Nat) (J : xv_J) {I I' : xv_I} {x1 x2 : Int32} (hM : xv_Met mX10_part 8 16 128 (sx n c) I (rx c) J [.ref 0, .int x1, .int x2] (xv_eq (.inr "java/lang/IndexOutOfBoundsException") (sx n c') I' (rx c') J)) : xv_Met mL_part 9 16 128 (sx n c) I (rx c) J [.ref 0, .int x1, .int x2, .ref 98] (xv_eq (.inl (some (.int (nI 1)))) (sx n c') I' (rx c') J) := by
  refine xv_Met.of (by decide +kernel) (Nat.le_of_ble_eq_true rfl) (List.forall_mem_cons.mpr ⟨rfl, List.forall_mem_cons.mpr ⟨rfl, List.forall_mem_cons.mpr ⟨rfl, List.forall_mem_cons.mpr ⟨rfl, fun _ h => nomatch h⟩⟩⟩⟩) ?_
  show xv_W mL_part 9 16 128 _ 16 128 (sx n c) I (rx c) J 0 [some (.ref 0), some (.int x1), some (.int x2), some (.ref 98), none] []
  refine xv_al3 fL_part_0 ?_
  refine xv_k fL_part_1 ?_
  refine xv_al0 fL_part_2 ?_
  refine xv_il1 fL_part_3 ?_
  refine xv_il2 fL_part_4 ?_
  refine xv_callVH (As := [.int x1, .int x2]) (S := [.int (nI 0), .ref 98]) (kc' := 0) (ks' := 0) hM fL_part_5 YX10_part VX10_part lL_53 rfl rfl (sx_0 _ _) rfl rfl (Nat.le_of_ble_eq_true rfl) (by decide) (by decide) (by decide) ?_ ?_
  · intro r s i rf j h _
    obtain ⟨h1, -⟩ := h
    cases h1
  · intro E s i rf j h
    obtain ⟨h1, rfl, rfl, rfl, rfl⟩ := h
    cases h1
    exact ⟨_, hn_part_I, xv_eq_i⟩

theorem w_part_A (n : Nat) (c c' : Nat × Nat) (J : xv_J) {I I' : xv_I} {x1 x2 : Int32} (hM : xv_Met mX10_part 8 16 128 (sx n c) I (rx c) J [.ref 0, .int x1, .int x2] (xv_eq (.inr "java/lang/IllegalArgumentException") (sx n c') I' (rx c') J)) : xv_Met mL_part 9 16 128 (sx n c) I (rx c) J [.ref 0, .int x1, .int x2, .ref 98] (xv_eq (.inl (some (.int (nI 2)))) (sx n c') I' (rx c') J) := by
  refine xv_Met.of (by decide +kernel) (Nat.le_of_ble_eq_true rfl) (List.forall_mem_cons.mpr ⟨rfl, List.forall_mem_cons.mpr ⟨rfl, List.forall_mem_cons.mpr ⟨rfl, List.forall_mem_cons.mpr ⟨rfl, fun _ h => nomatch h⟩⟩⟩⟩) ?_
  show xv_W mL_part 9 16 128 _ 16 128 (sx n c) I (rx c) J 0 [some (.ref 0), some (.int x1), some (.int x2), some (.ref 98), none] []
  refine xv_al3 fL_part_0 ?_
  refine xv_k fL_part_1 ?_
  refine xv_al0 fL_part_2 ?_
  refine xv_il1 fL_part_3 ?_
  refine xv_il2 fL_part_4 ?_
  refine xv_callVH (As := [.int x1, .int x2]) (S := [.int (nI 0), .ref 98]) (kc' := 0) (ks' := 0) hM fL_part_5 YX10_part VX10_part lL_53 rfl rfl (sx_0 _ _) rfl rfl (Nat.le_of_ble_eq_true rfl) (by decide) (by decide) (by decide) ?_ ?_
  · intro r s i rf j h _
    obtain ⟨h1, -⟩ := h
    cases h1
  · intro E s i rf j h
    obtain ⟨h1, rfl, rfl, rfl, rfl⟩ := h
    cases h1
    exact ⟨_, hn_part_A, xv_eq_i⟩

theorem hn_person_I : xv_Hn mL_person 4 "java/lang/IndexOutOfBoundsException" (nI 1) := ⟨[], [], (⟨0, 16, 19, 13⟩ : ExceptionTableEntry), _, 3, 20, 21, 22, rfl, (fun _ h => nomatch h), by decide, by decide, kL_13, xv_cstI, fL_person_19, by decide, ⟨1, by decide +kernel, by decide +kernel, rfl⟩, fL_person_21⟩
theorem w_person_ok (n : Nat) (c c' : Nat × Nat) (J : xv_J) {I I' : xv_I} {x1 : Int32} {v : Int32} (hM : xv_Met mX10_person 8 16 128 (sx n c) I (rx c) J [.ref 0, .int x1] (xv_eq (.inl (some (.int (v)))) (sx n c') I' (rx c') J)) : xv_Met mL_person 9 16 128 (sx n c) I (rx c) J [.ref 0, .int x1, .ref 98] (xv_eq (.inl (some (.int (nI 0)))) (sx n c') I' (rx c') (xv_u J 98 0 (if v = 0 then 0 else 1))) := by
  refine xv_Met.of (by decide +kernel) (Nat.le_of_ble_eq_true rfl) (List.forall_mem_cons.mpr ⟨rfl, List.forall_mem_cons.mpr ⟨rfl, List.forall_mem_cons.mpr ⟨rfl, fun _ h => nomatch h⟩⟩⟩) ?_
  show xv_W mL_person 9 16 128 _ 16 128 (sx n c) I (rx c) J 0 [some (.ref 0), some (.int x1), some (.ref 98), none] []
  refine xv_al2 fL_person_0 ?_
  refine xv_k fL_person_1 ?_
  refine xv_al0 fL_person_2 ?_
  refine xv_il1 fL_person_3 ?_
  refine xv_callVH (As := [.int x1]) (S := [.int (nI 0), .ref 98]) (kc' := 0) (ks' := 0) hM fL_person_4 YX10_person VX10_person lL_56 rfl rfl (sx_0 _ _) rfl rfl (Nat.le_of_ble_eq_true rfl) (by decide) (by decide) (by decide) ?_ ?_
  · intro r s i rf j h _
    obtain ⟨h1, rfl, rfl, rfl, rfl⟩ := h
    cases h1
    refine xv_if_eq fL_person_7 (fun h_7 => ?_) (fun h_7 => ?_)
    · refine xv_lconst fL_person_14 ?_
      refine xv_lastN fL_person_15 (sx_98 _ _) (⟨by decide, by decide⟩) ?_
      refine xv_goto fL_person_16 ?_
      refine xv_k fL_person_22 ?_
      exact xv_iret fL_person_23 rfl rfl ⟨rfl, rfl, rfl, rfl, by rw [if_pos h_7]; rfl⟩
    · refine xv_lconst fL_person_10 ?_
      refine xv_goto fL_person_11 ?_
      refine xv_lastN fL_person_15 (sx_98 _ _) (⟨by decide, by decide⟩) ?_
      refine xv_goto fL_person_16 ?_
      refine xv_k fL_person_22 ?_
      exact xv_iret fL_person_23 rfl rfl ⟨rfl, rfl, rfl, rfl, by rw [if_neg h_7]; rfl⟩
  · intro E s i rf j h
    obtain ⟨h1, -⟩ := h
    cases h1

theorem w_person_I (n : Nat) (c c' : Nat × Nat) (J : xv_J) {I I' : xv_I} {x1 : Int32} (hM : xv_Met mX10_person 8 16 128 (sx n c) I (rx c) J [.ref 0, .int x1] (xv_eq (.inr "java/lang/IndexOutOfBoundsException") (sx n c') I' (rx c') J)) : xv_Met mL_person 9 16 128 (sx n c) I (rx c) J [.ref 0, .int x1, .ref 98] (xv_eq (.inl (some (.int (nI 1)))) (sx n c') I' (rx c') J) := by
  refine xv_Met.of (by decide +kernel) (Nat.le_of_ble_eq_true rfl) (List.forall_mem_cons.mpr ⟨rfl, List.forall_mem_cons.mpr ⟨rfl, List.forall_mem_cons.mpr ⟨rfl, fun _ h => nomatch h⟩⟩⟩) ?_
  show xv_W mL_person 9 16 128 _ 16 128 (sx n c) I (rx c) J 0 [some (.ref 0), some (.int x1), some (.ref 98), none] []
  refine xv_al2 fL_person_0 ?_
  refine xv_k fL_person_1 ?_
  refine xv_al0 fL_person_2 ?_
  refine xv_il1 fL_person_3 ?_
  refine xv_callVH (As := [.int x1]) (S := [.int (nI 0), .ref 98]) (kc' := 0) (ks' := 0) hM fL_person_4 YX10_person VX10_person lL_56 rfl rfl (sx_0 _ _) rfl rfl (Nat.le_of_ble_eq_true rfl) (by decide) (by decide) (by decide) ?_ ?_
  · intro r s i rf j h _
    obtain ⟨h1, -⟩ := h
    cases h1
  · intro E s i rf j h
    obtain ⟨h1, rfl, rfl, rfl, rfl⟩ := h
    cases h1
    exact ⟨_, hn_person_I, xv_eq_i⟩

theorem hn_sign_I : xv_Hn mL_sign 5 "java/lang/IndexOutOfBoundsException" (nI 1) := ⟨[], [(⟨0, 10, 17, 17⟩ : ExceptionTableEntry)], (⟨0, 10, 13, 13⟩ : ExceptionTableEntry), _, 4, 15, 16, 17, rfl, (fun _ h => nomatch h), by decide, by decide, kL_13, xv_cstI, fL_sign_13, by decide, ⟨1, by decide +kernel, by decide +kernel, rfl⟩, fL_sign_16⟩
theorem hn_sign_S : xv_Hn mL_sign 5 "java/lang/IllegalStateException" (nI 2) := ⟨[(⟨0, 10, 13, 13⟩ : ExceptionTableEntry)], [], (⟨0, 10, 17, 17⟩ : ExceptionTableEntry), _, 4, 19, 20, 21, rfl, (List.forall_mem_cons.mpr ⟨Or.inr ⟨by decide, _, kL_13, by decide +kernel⟩, fun _ h => nomatch h⟩), by decide, by decide, kL_17, xv_cstS, fL_sign_17, by decide, ⟨2, by decide +kernel, by decide +kernel, rfl⟩, fL_sign_20⟩
theorem w_sign_ok (n : Nat) (c c' : Nat × Nat) (J : xv_J) {I I' : xv_I} {x1 x2 : Int32} {v : Int32} (hM : xv_Met mX10_sign 8 16 128 (sx n c) I (rx c) J [.ref 0, .int x1, .int x2] (xv_eq (.inl (some (.int (v)))) (sx n c') I' (rx c') J)) : xv_Met mL_sign 9 16 128 (sx n c) I (rx c) J [.ref 0, .int x1, .int x2, .ref 98] (xv_eq (.inl (some (.int (nI 0)))) (sx n c') I' (rx c') (xv_u J 98 0 v.toInt64)) := by
  refine xv_Met.of (by decide +kernel) (Nat.le_of_ble_eq_true rfl) (List.forall_mem_cons.mpr ⟨rfl, List.forall_mem_cons.mpr ⟨rfl, List.forall_mem_cons.mpr ⟨rfl, List.forall_mem_cons.mpr ⟨rfl, fun _ h => nomatch h⟩⟩⟩⟩) ?_
  show xv_W mL_sign 9 16 128 _ 16 128 (sx n c) I (rx c) J 0 [some (.ref 0), some (.int x1), some (.int x2), some (.ref 98), none] []
  refine xv_al3 fL_sign_0 ?_
  refine xv_k fL_sign_1 ?_
  refine xv_al0 fL_sign_2 ?_
  refine xv_il1 fL_sign_3 ?_
  refine xv_il2 fL_sign_4 ?_
  refine xv_callVH (As := [.int x1, .int x2]) (S := [.int (nI 0), .ref 98]) (kc' := 0) (ks' := 0) hM fL_sign_5 YX10_sign VX10_sign lL_60 rfl rfl (sx_0 _ _) rfl rfl (Nat.le_of_ble_eq_true rfl) (by decide) (by decide) (by decide) ?_ ?_
  · intro r s i rf j h _
    obtain ⟨h1, rfl, rfl, rfl, rfl⟩ := h
    cases h1
    refine xv_i2l fL_sign_8 ?_
    refine xv_lastN fL_sign_9 (sx_98 _ _) (⟨by decide, by decide⟩) ?_
    refine xv_goto fL_sign_10 ?_
    refine xv_k fL_sign_21 ?_
    exact xv_iret fL_sign_22 rfl rfl xv_eq_i
  · intro E s i rf j h
    obtain ⟨h1, -⟩ := h
    cases h1

theorem w_sign_I (n : Nat) (c c' : Nat × Nat) (J : xv_J) {I I' : xv_I} {x1 x2 : Int32} (hM : xv_Met mX10_sign 8 16 128 (sx n c) I (rx c) J [.ref 0, .int x1, .int x2] (xv_eq (.inr "java/lang/IndexOutOfBoundsException") (sx n c') I' (rx c') J)) : xv_Met mL_sign 9 16 128 (sx n c) I (rx c) J [.ref 0, .int x1, .int x2, .ref 98] (xv_eq (.inl (some (.int (nI 1)))) (sx n c') I' (rx c') J) := by
  refine xv_Met.of (by decide +kernel) (Nat.le_of_ble_eq_true rfl) (List.forall_mem_cons.mpr ⟨rfl, List.forall_mem_cons.mpr ⟨rfl, List.forall_mem_cons.mpr ⟨rfl, List.forall_mem_cons.mpr ⟨rfl, fun _ h => nomatch h⟩⟩⟩⟩) ?_
  show xv_W mL_sign 9 16 128 _ 16 128 (sx n c) I (rx c) J 0 [some (.ref 0), some (.int x1), some (.int x2), some (.ref 98), none] []
  refine xv_al3 fL_sign_0 ?_
  refine xv_k fL_sign_1 ?_
  refine xv_al0 fL_sign_2 ?_
  refine xv_il1 fL_sign_3 ?_
  refine xv_il2 fL_sign_4 ?_
  refine xv_callVH (As := [.int x1, .int x2]) (S := [.int (nI 0), .ref 98]) (kc' := 0) (ks' := 0) hM fL_sign_5 YX10_sign VX10_sign lL_60 rfl rfl (sx_0 _ _) rfl rfl (Nat.le_of_ble_eq_true rfl) (by decide) (by decide) (by decide) ?_ ?_
  · intro r s i rf j h _
    obtain ⟨h1, -⟩ := h
    cases h1
  · intro E s i rf j h
    obtain ⟨h1, rfl, rfl, rfl, rfl⟩ := h
    cases h1
    exact ⟨_, hn_sign_I, xv_eq_i⟩

theorem w_sign_S (n : Nat) (c c' : Nat × Nat) (J : xv_J) {I I' : xv_I} {x1 x2 : Int32} (hM : xv_Met mX10_sign 8 16 128 (sx n c) I (rx c) J [.ref 0, .int x1, .int x2] (xv_eq (.inr "java/lang/IllegalStateException") (sx n c') I' (rx c') J)) : xv_Met mL_sign 9 16 128 (sx n c) I (rx c) J [.ref 0, .int x1, .int x2, .ref 98] (xv_eq (.inl (some (.int (nI 2)))) (sx n c') I' (rx c') J) := by
  refine xv_Met.of (by decide +kernel) (Nat.le_of_ble_eq_true rfl) (List.forall_mem_cons.mpr ⟨rfl, List.forall_mem_cons.mpr ⟨rfl, List.forall_mem_cons.mpr ⟨rfl, List.forall_mem_cons.mpr ⟨rfl, fun _ h => nomatch h⟩⟩⟩⟩) ?_
  show xv_W mL_sign 9 16 128 _ 16 128 (sx n c) I (rx c) J 0 [some (.ref 0), some (.int x1), some (.int x2), some (.ref 98), none] []
  refine xv_al3 fL_sign_0 ?_
  refine xv_k fL_sign_1 ?_
  refine xv_al0 fL_sign_2 ?_
  refine xv_il1 fL_sign_3 ?_
  refine xv_il2 fL_sign_4 ?_
  refine xv_callVH (As := [.int x1, .int x2]) (S := [.int (nI 0), .ref 98]) (kc' := 0) (ks' := 0) hM fL_sign_5 YX10_sign VX10_sign lL_60 rfl rfl (sx_0 _ _) rfl rfl (Nat.le_of_ble_eq_true rfl) (by decide) (by decide) (by decide) ?_ ?_
  · intro r s i rf j h _
    obtain ⟨h1, -⟩ := h
    cases h1
  · intro E s i rf j h
    obtain ⟨h1, rfl, rfl, rfl, rfl⟩ := h
    cases h1
    exact ⟨_, hn_sign_S, xv_eq_i⟩

theorem hn_hold_I : xv_Hn mL_hold 5 "java/lang/IndexOutOfBoundsException" (nI 1) := ⟨[], [(⟨0, 17, 24, 17⟩ : ExceptionTableEntry)], (⟨0, 17, 20, 13⟩ : ExceptionTableEntry), _, 4, 22, 23, 24, rfl, (fun _ h => nomatch h), by decide, by decide, kL_13, xv_cstI, fL_hold_20, by decide, ⟨1, by decide +kernel, by decide +kernel, rfl⟩, fL_hold_23⟩
theorem hn_hold_S : xv_Hn mL_hold 5 "java/lang/IllegalStateException" (nI 2) := ⟨[(⟨0, 17, 20, 13⟩ : ExceptionTableEntry)], [], (⟨0, 17, 24, 17⟩ : ExceptionTableEntry), _, 4, 26, 27, 28, rfl, (List.forall_mem_cons.mpr ⟨Or.inr ⟨by decide, _, kL_13, by decide +kernel⟩, fun _ h => nomatch h⟩), by decide, by decide, kL_17, xv_cstS, fL_hold_24, by decide, ⟨2, by decide +kernel, by decide +kernel, rfl⟩, fL_hold_27⟩
theorem w_hold_ok (n : Nat) (c c' : Nat × Nat) (J : xv_J) {I I' : xv_I} {x1 x2 : Int32} {v : Int32} (hM : xv_Met mX10_hold 8 16 128 (sx n c) I (rx c) J [.ref 0, .int x1, .int x2] (xv_eq (.inl (some (.int (v)))) (sx n c') I' (rx c') J)) : xv_Met mL_hold 9 16 128 (sx n c) I (rx c) J [.ref 0, .int x1, .int x2, .ref 98] (xv_eq (.inl (some (.int (nI 0)))) (sx n c') I' (rx c') (xv_u J 98 0 (if v = 0 then 0 else 1))) := by
  refine xv_Met.of (by decide +kernel) (Nat.le_of_ble_eq_true rfl) (List.forall_mem_cons.mpr ⟨rfl, List.forall_mem_cons.mpr ⟨rfl, List.forall_mem_cons.mpr ⟨rfl, List.forall_mem_cons.mpr ⟨rfl, fun _ h => nomatch h⟩⟩⟩⟩) ?_
  show xv_W mL_hold 9 16 128 _ 16 128 (sx n c) I (rx c) J 0 [some (.ref 0), some (.int x1), some (.int x2), some (.ref 98), none] []
  refine xv_al3 fL_hold_0 ?_
  refine xv_k fL_hold_1 ?_
  refine xv_al0 fL_hold_2 ?_
  refine xv_il1 fL_hold_3 ?_
  refine xv_il2 fL_hold_4 ?_
  refine xv_callVH (As := [.int x1, .int x2]) (S := [.int (nI 0), .ref 98]) (kc' := 0) (ks' := 0) hM fL_hold_5 YX10_hold VX10_hold lL_63 rfl rfl (sx_0 _ _) rfl rfl (Nat.le_of_ble_eq_true rfl) (by decide) (by decide) (by decide) ?_ ?_
  · intro r s i rf j h _
    obtain ⟨h1, rfl, rfl, rfl, rfl⟩ := h
    cases h1
    refine xv_if_eq fL_hold_8 (fun h_8 => ?_) (fun h_8 => ?_)
    · refine xv_lconst fL_hold_15 ?_
      refine xv_lastN fL_hold_16 (sx_98 _ _) (⟨by decide, by decide⟩) ?_
      refine xv_goto fL_hold_17 ?_
      refine xv_k fL_hold_28 ?_
      exact xv_iret fL_hold_29 rfl rfl ⟨rfl, rfl, rfl, rfl, by rw [if_pos h_8]; rfl⟩
    · refine xv_lconst fL_hold_11 ?_
      refine xv_goto fL_hold_12 ?_
      refine xv_lastN fL_hold_16 (sx_98 _ _) (⟨by decide, by decide⟩) ?_
      refine xv_goto fL_hold_17 ?_
      refine xv_k fL_hold_28 ?_
      exact xv_iret fL_hold_29 rfl rfl ⟨rfl, rfl, rfl, rfl, by rw [if_neg h_8]; rfl⟩
  · intro E s i rf j h
    obtain ⟨h1, -⟩ := h
    cases h1

theorem w_hold_I (n : Nat) (c c' : Nat × Nat) (J : xv_J) {I I' : xv_I} {x1 x2 : Int32} (hM : xv_Met mX10_hold 8 16 128 (sx n c) I (rx c) J [.ref 0, .int x1, .int x2] (xv_eq (.inr "java/lang/IndexOutOfBoundsException") (sx n c') I' (rx c') J)) : xv_Met mL_hold 9 16 128 (sx n c) I (rx c) J [.ref 0, .int x1, .int x2, .ref 98] (xv_eq (.inl (some (.int (nI 1)))) (sx n c') I' (rx c') J) := by
  refine xv_Met.of (by decide +kernel) (Nat.le_of_ble_eq_true rfl) (List.forall_mem_cons.mpr ⟨rfl, List.forall_mem_cons.mpr ⟨rfl, List.forall_mem_cons.mpr ⟨rfl, List.forall_mem_cons.mpr ⟨rfl, fun _ h => nomatch h⟩⟩⟩⟩) ?_
  show xv_W mL_hold 9 16 128 _ 16 128 (sx n c) I (rx c) J 0 [some (.ref 0), some (.int x1), some (.int x2), some (.ref 98), none] []
  refine xv_al3 fL_hold_0 ?_
  refine xv_k fL_hold_1 ?_
  refine xv_al0 fL_hold_2 ?_
  refine xv_il1 fL_hold_3 ?_
  refine xv_il2 fL_hold_4 ?_
  refine xv_callVH (As := [.int x1, .int x2]) (S := [.int (nI 0), .ref 98]) (kc' := 0) (ks' := 0) hM fL_hold_5 YX10_hold VX10_hold lL_63 rfl rfl (sx_0 _ _) rfl rfl (Nat.le_of_ble_eq_true rfl) (by decide) (by decide) (by decide) ?_ ?_
  · intro r s i rf j h _
    obtain ⟨h1, -⟩ := h
    cases h1
  · intro E s i rf j h
    obtain ⟨h1, rfl, rfl, rfl, rfl⟩ := h
    cases h1
    exact ⟨_, hn_hold_I, xv_eq_i⟩

theorem w_hold_S (n : Nat) (c c' : Nat × Nat) (J : xv_J) {I I' : xv_I} {x1 x2 : Int32} (hM : xv_Met mX10_hold 8 16 128 (sx n c) I (rx c) J [.ref 0, .int x1, .int x2] (xv_eq (.inr "java/lang/IllegalStateException") (sx n c') I' (rx c') J)) : xv_Met mL_hold 9 16 128 (sx n c) I (rx c) J [.ref 0, .int x1, .int x2, .ref 98] (xv_eq (.inl (some (.int (nI 2)))) (sx n c') I' (rx c') J) := by
  refine xv_Met.of (by decide +kernel) (Nat.le_of_ble_eq_true rfl) (List.forall_mem_cons.mpr ⟨rfl, List.forall_mem_cons.mpr ⟨rfl, List.forall_mem_cons.mpr ⟨rfl, List.forall_mem_cons.mpr ⟨rfl, fun _ h => nomatch h⟩⟩⟩⟩) ?_
  show xv_W mL_hold 9 16 128 _ 16 128 (sx n c) I (rx c) J 0 [some (.ref 0), some (.int x1), some (.int x2), some (.ref 98), none] []
  refine xv_al3 fL_hold_0 ?_
  refine xv_k fL_hold_1 ?_
  refine xv_al0 fL_hold_2 ?_
  refine xv_il1 fL_hold_3 ?_
  refine xv_il2 fL_hold_4 ?_
  refine xv_callVH (As := [.int x1, .int x2]) (S := [.int (nI 0), .ref 98]) (kc' := 0) (ks' := 0) hM fL_hold_5 YX10_hold VX10_hold lL_63 rfl rfl (sx_0 _ _) rfl rfl (Nat.le_of_ble_eq_true rfl) (by decide) (by decide) (by decide) ?_ ?_
  · intro r s i rf j h _
    obtain ⟨h1, -⟩ := h
    cases h1
  · intro E s i rf j h
    obtain ⟨h1, rfl, rfl, rfl, rfl⟩ := h
    cases h1
    exact ⟨_, hn_hold_S, xv_eq_i⟩

theorem hn_isReady_I : xv_Hn mL_isReady 4 "java/lang/IndexOutOfBoundsException" (nI 1) := ⟨[], [], (⟨0, 16, 19, 13⟩ : ExceptionTableEntry), _, 3, 20, 21, 22, rfl, (fun _ h => nomatch h), by decide, by decide, kL_13, xv_cstI, fL_isReady_19, by decide, ⟨1, by decide +kernel, by decide +kernel, rfl⟩, fL_isReady_21⟩
theorem w_isReady_ok (n : Nat) (c c' : Nat × Nat) (J : xv_J) {I I' : xv_I} {x1 : Int32} {v : Int32} (hM : xv_Met mX10_isReady 8 16 128 (sx n c) I (rx c) J [.ref 0, .int x1] (xv_eq (.inl (some (.int (v)))) (sx n c') I' (rx c') J)) : xv_Met mL_isReady 9 16 128 (sx n c) I (rx c) J [.ref 0, .int x1, .ref 98] (xv_eq (.inl (some (.int (nI 0)))) (sx n c') I' (rx c') (xv_u J 98 0 (if v = 0 then 0 else 1))) := by
  refine xv_Met.of (by decide +kernel) (Nat.le_of_ble_eq_true rfl) (List.forall_mem_cons.mpr ⟨rfl, List.forall_mem_cons.mpr ⟨rfl, List.forall_mem_cons.mpr ⟨rfl, fun _ h => nomatch h⟩⟩⟩) ?_
  show xv_W mL_isReady 9 16 128 _ 16 128 (sx n c) I (rx c) J 0 [some (.ref 0), some (.int x1), some (.ref 98), none] []
  refine xv_al2 fL_isReady_0 ?_
  refine xv_k fL_isReady_1 ?_
  refine xv_al0 fL_isReady_2 ?_
  refine xv_il1 fL_isReady_3 ?_
  refine xv_callVH (As := [.int x1]) (S := [.int (nI 0), .ref 98]) (kc' := 0) (ks' := 0) hM fL_isReady_4 YX10_isReady VX10_isReady lL_67 rfl rfl (sx_0 _ _) rfl rfl (Nat.le_of_ble_eq_true rfl) (by decide) (by decide) (by decide) ?_ ?_
  · intro r s i rf j h _
    obtain ⟨h1, rfl, rfl, rfl, rfl⟩ := h
    cases h1
    refine xv_if_eq fL_isReady_7 (fun h_7 => ?_) (fun h_7 => ?_)
    · refine xv_lconst fL_isReady_14 ?_
      refine xv_lastN fL_isReady_15 (sx_98 _ _) (⟨by decide, by decide⟩) ?_
      refine xv_goto fL_isReady_16 ?_
      refine xv_k fL_isReady_22 ?_
      exact xv_iret fL_isReady_23 rfl rfl ⟨rfl, rfl, rfl, rfl, by rw [if_pos h_7]; rfl⟩
    · refine xv_lconst fL_isReady_10 ?_
      refine xv_goto fL_isReady_11 ?_
      refine xv_lastN fL_isReady_15 (sx_98 _ _) (⟨by decide, by decide⟩) ?_
      refine xv_goto fL_isReady_16 ?_
      refine xv_k fL_isReady_22 ?_
      exact xv_iret fL_isReady_23 rfl rfl ⟨rfl, rfl, rfl, rfl, by rw [if_neg h_7]; rfl⟩
  · intro E s i rf j h
    obtain ⟨h1, -⟩ := h
    cases h1

theorem w_isReady_I (n : Nat) (c c' : Nat × Nat) (J : xv_J) {I I' : xv_I} {x1 : Int32} (hM : xv_Met mX10_isReady 8 16 128 (sx n c) I (rx c) J [.ref 0, .int x1] (xv_eq (.inr "java/lang/IndexOutOfBoundsException") (sx n c') I' (rx c') J)) : xv_Met mL_isReady 9 16 128 (sx n c) I (rx c) J [.ref 0, .int x1, .ref 98] (xv_eq (.inl (some (.int (nI 1)))) (sx n c') I' (rx c') J) := by
  refine xv_Met.of (by decide +kernel) (Nat.le_of_ble_eq_true rfl) (List.forall_mem_cons.mpr ⟨rfl, List.forall_mem_cons.mpr ⟨rfl, List.forall_mem_cons.mpr ⟨rfl, fun _ h => nomatch h⟩⟩⟩) ?_
  show xv_W mL_isReady 9 16 128 _ 16 128 (sx n c) I (rx c) J 0 [some (.ref 0), some (.int x1), some (.ref 98), none] []
  refine xv_al2 fL_isReady_0 ?_
  refine xv_k fL_isReady_1 ?_
  refine xv_al0 fL_isReady_2 ?_
  refine xv_il1 fL_isReady_3 ?_
  refine xv_callVH (As := [.int x1]) (S := [.int (nI 0), .ref 98]) (kc' := 0) (ks' := 0) hM fL_isReady_4 YX10_isReady VX10_isReady lL_67 rfl rfl (sx_0 _ _) rfl rfl (Nat.le_of_ble_eq_true rfl) (by decide) (by decide) (by decide) ?_ ?_
  · intro r s i rf j h _
    obtain ⟨h1, -⟩ := h
    cases h1
  · intro E s i rf j h
    obtain ⟨h1, rfl, rfl, rfl, rfl⟩ := h
    cases h1
    exact ⟨_, hn_isReady_I, xv_eq_i⟩

theorem hn_close_S : xv_Hn mL_close 3 "java/lang/IllegalStateException" (nI 1) := ⟨[], [], (⟨0, 8, 11, 17⟩ : ExceptionTableEntry), _, 2, 12, 13, 14, rfl, (fun _ h => nomatch h), by decide, by decide, kL_17, xv_cstS, fL_close_11, by decide, ⟨1, by decide +kernel, by decide +kernel, rfl⟩, fL_close_13⟩
theorem w_close_ok (n : Nat) (c c' : Nat × Nat) (J : xv_J) {I I' : xv_I} {v : Int32} (hM : xv_Met mX10_close 8 16 128 (sx n c) I (rx c) J [.ref 0] (xv_eq (.inl (some (.int (v)))) (sx n c') I' (rx c') J)) : xv_Met mL_close 9 16 128 (sx n c) I (rx c) J [.ref 0, .ref 98] (xv_eq (.inl (some (.int (nI 0)))) (sx n c') I' (rx c') (xv_u J 98 0 v.toInt64)) := by
  refine xv_Met.of (by decide +kernel) (Nat.le_of_ble_eq_true rfl) (List.forall_mem_cons.mpr ⟨rfl, List.forall_mem_cons.mpr ⟨rfl, fun _ h => nomatch h⟩⟩) ?_
  show xv_W mL_close 9 16 128 _ 16 128 (sx n c) I (rx c) J 0 [some (.ref 0), some (.ref 98), none] []
  refine xv_al1 fL_close_0 ?_
  refine xv_k fL_close_1 ?_
  refine xv_al0 fL_close_2 ?_
  refine xv_callVH (As := []) (S := [.int (nI 0), .ref 98]) (kc' := 0) (ks' := 0) hM fL_close_3 YX10_close VX10_close lL_70 rfl rfl (sx_0 _ _) rfl rfl (Nat.le_of_ble_eq_true rfl) (by decide) (by decide) (by decide) ?_ ?_
  · intro r s i rf j h _
    obtain ⟨h1, rfl, rfl, rfl, rfl⟩ := h
    cases h1
    refine xv_i2l fL_close_6 ?_
    refine xv_lastN fL_close_7 (sx_98 _ _) (⟨by decide, by decide⟩) ?_
    refine xv_goto fL_close_8 ?_
    refine xv_k fL_close_14 ?_
    exact xv_iret fL_close_15 rfl rfl xv_eq_i
  · intro E s i rf j h
    obtain ⟨h1, -⟩ := h
    cases h1

theorem w_close_S (n : Nat) (c c' : Nat × Nat) (J : xv_J) {I I' : xv_I} (hM : xv_Met mX10_close 8 16 128 (sx n c) I (rx c) J [.ref 0] (xv_eq (.inr "java/lang/IllegalStateException") (sx n c') I' (rx c') J)) : xv_Met mL_close 9 16 128 (sx n c) I (rx c) J [.ref 0, .ref 98] (xv_eq (.inl (some (.int (nI 1)))) (sx n c') I' (rx c') J) := by
  refine xv_Met.of (by decide +kernel) (Nat.le_of_ble_eq_true rfl) (List.forall_mem_cons.mpr ⟨rfl, List.forall_mem_cons.mpr ⟨rfl, fun _ h => nomatch h⟩⟩) ?_
  show xv_W mL_close 9 16 128 _ 16 128 (sx n c) I (rx c) J 0 [some (.ref 0), some (.ref 98), none] []
  refine xv_al1 fL_close_0 ?_
  refine xv_k fL_close_1 ?_
  refine xv_al0 fL_close_2 ?_
  refine xv_callVH (As := []) (S := [.int (nI 0), .ref 98]) (kc' := 0) (ks' := 0) hM fL_close_3 YX10_close VX10_close lL_70 rfl rfl (sx_0 _ _) rfl rfl (Nat.le_of_ble_eq_true rfl) (by decide) (by decide) (by decide) ?_ ?_
  · intro r s i rf j h _
    obtain ⟨h1, -⟩ := h
    cases h1
  · intro E s i rf j h
    obtain ⟨h1, rfl, rfl, rfl, rfl⟩ := h
    cases h1
    exact ⟨_, hn_close_S, xv_eq_i⟩

theorem hn_printed_I : xv_Hn mL_printed 7 "java/lang/IndexOutOfBoundsException" (nI 1) := ⟨[], [], (⟨0, 12, 15, 13⟩ : ExceptionTableEntry), _, 5, 17, 18, 19, rfl, (fun _ h => nomatch h), by decide, by decide, kL_13, xv_cstI, fL_printed_15, by decide, ⟨1, by decide +kernel, by decide +kernel, rfl⟩, fL_printed_18⟩
theorem w_printed_ok (n : Nat) (c c' : Nat × Nat) (J : xv_J) {I I' : xv_I} {x1 x2 x3 : Int32} {v : Int32} (hM : xv_Met mX10_printed 8 16 128 (sx n c) I (rx c) J [.ref 0, .int x1, .int x2, .int x3] (xv_eq (.inl (some (.int (v)))) (sx n c') I' (rx c') J)) : xv_Met mL_printed 9 16 128 (sx n c) I (rx c) J [.ref 0, .int x1, .int x2, .int x3, .ref 98] (xv_eq (.inl (some (.int (nI 0)))) (sx n c') I' (rx c') (xv_u J 98 0 v.toInt64)) := by
  refine xv_Met.of (by decide +kernel) (Nat.le_of_ble_eq_true rfl) (List.forall_mem_cons.mpr ⟨rfl, List.forall_mem_cons.mpr ⟨rfl, List.forall_mem_cons.mpr ⟨rfl, List.forall_mem_cons.mpr ⟨rfl, List.forall_mem_cons.mpr ⟨rfl, fun _ h => nomatch h⟩⟩⟩⟩⟩) ?_
  show xv_W mL_printed 9 16 128 _ 16 128 (sx n c) I (rx c) J 0 [some (.ref 0), some (.int x1), some (.int x2), some (.int x3), some (.ref 98), none] []
  refine xv_al4 fL_printed_0 ?_
  refine xv_k fL_printed_2 ?_
  refine xv_al0 fL_printed_3 ?_
  refine xv_il1 fL_printed_4 ?_
  refine xv_il2 fL_printed_5 ?_
  refine xv_il3 fL_printed_6 ?_
  refine xv_callVH (As := [.int x1, .int x2, .int x3]) (S := [.int (nI 0), .ref 98]) (kc' := 0) (ks' := 0) hM fL_printed_7 YX10_printed VX10_printed lL_74 rfl rfl (sx_0 _ _) rfl rfl (Nat.le_of_ble_eq_true rfl) (by decide) (by decide) (by decide) ?_ ?_
  · intro r s i rf j h _
    obtain ⟨h1, rfl, rfl, rfl, rfl⟩ := h
    cases h1
    refine xv_i2l fL_printed_10 ?_
    refine xv_lastN fL_printed_11 (sx_98 _ _) (⟨by decide, by decide⟩) ?_
    refine xv_goto fL_printed_12 ?_
    refine xv_k fL_printed_19 ?_
    exact xv_iret fL_printed_20 rfl rfl xv_eq_i
  · intro E s i rf j h
    obtain ⟨h1, -⟩ := h
    cases h1

theorem w_printed_I (n : Nat) (c c' : Nat × Nat) (J : xv_J) {I I' : xv_I} {x1 x2 x3 : Int32} (hM : xv_Met mX10_printed 8 16 128 (sx n c) I (rx c) J [.ref 0, .int x1, .int x2, .int x3] (xv_eq (.inr "java/lang/IndexOutOfBoundsException") (sx n c') I' (rx c') J)) : xv_Met mL_printed 9 16 128 (sx n c) I (rx c) J [.ref 0, .int x1, .int x2, .int x3, .ref 98] (xv_eq (.inl (some (.int (nI 1)))) (sx n c') I' (rx c') J) := by
  refine xv_Met.of (by decide +kernel) (Nat.le_of_ble_eq_true rfl) (List.forall_mem_cons.mpr ⟨rfl, List.forall_mem_cons.mpr ⟨rfl, List.forall_mem_cons.mpr ⟨rfl, List.forall_mem_cons.mpr ⟨rfl, List.forall_mem_cons.mpr ⟨rfl, fun _ h => nomatch h⟩⟩⟩⟩⟩) ?_
  show xv_W mL_printed 9 16 128 _ 16 128 (sx n c) I (rx c) J 0 [some (.ref 0), some (.int x1), some (.int x2), some (.int x3), some (.ref 98), none] []
  refine xv_al4 fL_printed_0 ?_
  refine xv_k fL_printed_2 ?_
  refine xv_al0 fL_printed_3 ?_
  refine xv_il1 fL_printed_4 ?_
  refine xv_il2 fL_printed_5 ?_
  refine xv_il3 fL_printed_6 ?_
  refine xv_callVH (As := [.int x1, .int x2, .int x3]) (S := [.int (nI 0), .ref 98]) (kc' := 0) (ks' := 0) hM fL_printed_7 YX10_printed VX10_printed lL_74 rfl rfl (sx_0 _ _) rfl rfl (Nat.le_of_ble_eq_true rfl) (by decide) (by decide) (by decide) ?_ ?_
  · intro r s i rf j h _
    obtain ⟨h1, -⟩ := h
    cases h1
  · intro E s i rf j h
    obtain ⟨h1, rfl, rfl, rfl, rfl⟩ := h
    cases h1
    exact ⟨_, hn_printed_I, xv_eq_i⟩

theorem hn_correct_I : xv_Hn mL_correct 5 "java/lang/IndexOutOfBoundsException" (nI 1) := ⟨[], [(⟨0, 10, 17, 17⟩ : ExceptionTableEntry)], (⟨0, 10, 13, 13⟩ : ExceptionTableEntry), _, 4, 15, 16, 17, rfl, (fun _ h => nomatch h), by decide, by decide, kL_13, xv_cstI, fL_correct_13, by decide, ⟨1, by decide +kernel, by decide +kernel, rfl⟩, fL_correct_16⟩
theorem hn_correct_S : xv_Hn mL_correct 5 "java/lang/IllegalStateException" (nI 2) := ⟨[(⟨0, 10, 13, 13⟩ : ExceptionTableEntry)], [], (⟨0, 10, 17, 17⟩ : ExceptionTableEntry), _, 4, 19, 20, 21, rfl, (List.forall_mem_cons.mpr ⟨Or.inr ⟨by decide, _, kL_13, by decide +kernel⟩, fun _ h => nomatch h⟩), by decide, by decide, kL_17, xv_cstS, fL_correct_17, by decide, ⟨2, by decide +kernel, by decide +kernel, rfl⟩, fL_correct_20⟩
theorem w_correct_ok (n : Nat) (c c' : Nat × Nat) (J : xv_J) {I I' : xv_I} {x1 x2 : Int32} {v : Int32} (hM : xv_Met mX10_correct 8 16 128 (sx n c) I (rx c) J [.ref 0, .int x1, .int x2] (xv_eq (.inl (some (.int (v)))) (sx n c') I' (rx c') J)) : xv_Met mL_correct 9 16 128 (sx n c) I (rx c) J [.ref 0, .int x1, .int x2, .ref 98] (xv_eq (.inl (some (.int (nI 0)))) (sx n c') I' (rx c') (xv_u J 98 0 v.toInt64)) := by
  refine xv_Met.of (by decide +kernel) (Nat.le_of_ble_eq_true rfl) (List.forall_mem_cons.mpr ⟨rfl, List.forall_mem_cons.mpr ⟨rfl, List.forall_mem_cons.mpr ⟨rfl, List.forall_mem_cons.mpr ⟨rfl, fun _ h => nomatch h⟩⟩⟩⟩) ?_
  show xv_W mL_correct 9 16 128 _ 16 128 (sx n c) I (rx c) J 0 [some (.ref 0), some (.int x1), some (.int x2), some (.ref 98), none] []
  refine xv_al3 fL_correct_0 ?_
  refine xv_k fL_correct_1 ?_
  refine xv_al0 fL_correct_2 ?_
  refine xv_il1 fL_correct_3 ?_
  refine xv_il2 fL_correct_4 ?_
  refine xv_callVH (As := [.int x1, .int x2]) (S := [.int (nI 0), .ref 98]) (kc' := 0) (ks' := 0) hM fL_correct_5 YX10_correct VX10_correct lL_77 rfl rfl (sx_0 _ _) rfl rfl (Nat.le_of_ble_eq_true rfl) (by decide) (by decide) (by decide) ?_ ?_
  · intro r s i rf j h _
    obtain ⟨h1, rfl, rfl, rfl, rfl⟩ := h
    cases h1
    refine xv_i2l fL_correct_8 ?_
    refine xv_lastN fL_correct_9 (sx_98 _ _) (⟨by decide, by decide⟩) ?_
    refine xv_goto fL_correct_10 ?_
    refine xv_k fL_correct_21 ?_
    exact xv_iret fL_correct_22 rfl rfl xv_eq_i
  · intro E s i rf j h
    obtain ⟨h1, -⟩ := h
    cases h1

theorem w_correct_I (n : Nat) (c c' : Nat × Nat) (J : xv_J) {I I' : xv_I} {x1 x2 : Int32} (hM : xv_Met mX10_correct 8 16 128 (sx n c) I (rx c) J [.ref 0, .int x1, .int x2] (xv_eq (.inr "java/lang/IndexOutOfBoundsException") (sx n c') I' (rx c') J)) : xv_Met mL_correct 9 16 128 (sx n c) I (rx c) J [.ref 0, .int x1, .int x2, .ref 98] (xv_eq (.inl (some (.int (nI 1)))) (sx n c') I' (rx c') J) := by
  refine xv_Met.of (by decide +kernel) (Nat.le_of_ble_eq_true rfl) (List.forall_mem_cons.mpr ⟨rfl, List.forall_mem_cons.mpr ⟨rfl, List.forall_mem_cons.mpr ⟨rfl, List.forall_mem_cons.mpr ⟨rfl, fun _ h => nomatch h⟩⟩⟩⟩) ?_
  show xv_W mL_correct 9 16 128 _ 16 128 (sx n c) I (rx c) J 0 [some (.ref 0), some (.int x1), some (.int x2), some (.ref 98), none] []
  refine xv_al3 fL_correct_0 ?_
  refine xv_k fL_correct_1 ?_
  refine xv_al0 fL_correct_2 ?_
  refine xv_il1 fL_correct_3 ?_
  refine xv_il2 fL_correct_4 ?_
  refine xv_callVH (As := [.int x1, .int x2]) (S := [.int (nI 0), .ref 98]) (kc' := 0) (ks' := 0) hM fL_correct_5 YX10_correct VX10_correct lL_77 rfl rfl (sx_0 _ _) rfl rfl (Nat.le_of_ble_eq_true rfl) (by decide) (by decide) (by decide) ?_ ?_
  · intro r s i rf j h _
    obtain ⟨h1, -⟩ := h
    cases h1
  · intro E s i rf j h
    obtain ⟨h1, rfl, rfl, rfl, rfl⟩ := h
    cases h1
    exact ⟨_, hn_correct_I, xv_eq_i⟩

theorem w_correct_S (n : Nat) (c c' : Nat × Nat) (J : xv_J) {I I' : xv_I} {x1 x2 : Int32} (hM : xv_Met mX10_correct 8 16 128 (sx n c) I (rx c) J [.ref 0, .int x1, .int x2] (xv_eq (.inr "java/lang/IllegalStateException") (sx n c') I' (rx c') J)) : xv_Met mL_correct 9 16 128 (sx n c) I (rx c) J [.ref 0, .int x1, .int x2, .ref 98] (xv_eq (.inl (some (.int (nI 2)))) (sx n c') I' (rx c') J) := by
  refine xv_Met.of (by decide +kernel) (Nat.le_of_ble_eq_true rfl) (List.forall_mem_cons.mpr ⟨rfl, List.forall_mem_cons.mpr ⟨rfl, List.forall_mem_cons.mpr ⟨rfl, List.forall_mem_cons.mpr ⟨rfl, fun _ h => nomatch h⟩⟩⟩⟩) ?_
  show xv_W mL_correct 9 16 128 _ 16 128 (sx n c) I (rx c) J 0 [some (.ref 0), some (.int x1), some (.int x2), some (.ref 98), none] []
  refine xv_al3 fL_correct_0 ?_
  refine xv_k fL_correct_1 ?_
  refine xv_al0 fL_correct_2 ?_
  refine xv_il1 fL_correct_3 ?_
  refine xv_il2 fL_correct_4 ?_
  refine xv_callVH (As := [.int x1, .int x2]) (S := [.int (nI 0), .ref 98]) (kc' := 0) (ks' := 0) hM fL_correct_5 YX10_correct VX10_correct lL_77 rfl rfl (sx_0 _ _) rfl rfl (Nat.le_of_ble_eq_true rfl) (by decide) (by decide) (by decide) ?_ ?_
  · intro r s i rf j h _
    obtain ⟨h1, -⟩ := h
    cases h1
  · intro E s i rf j h
    obtain ⟨h1, rfl, rfl, rfl, rfl⟩ := h
    cases h1
    exact ⟨_, hn_correct_S, xv_eq_i⟩

theorem hn_placeCorrection_S : xv_Hn mL_placeCorrection 3 "java/lang/IllegalStateException" (nI 1) := ⟨[], [], (⟨0, 8, 11, 17⟩ : ExceptionTableEntry), _, 2, 12, 13, 14, rfl, (fun _ h => nomatch h), by decide, by decide, kL_17, xv_cstS, fL_placeCorrection_11, by decide, ⟨1, by decide +kernel, by decide +kernel, rfl⟩, fL_placeCorrection_13⟩
theorem w_placeCorrection_ok (n : Nat) (c c' : Nat × Nat) (J : xv_J) {I I' : xv_I} {v : Int32} (hM : xv_Met mX10_placeCorrection 8 16 128 (sx n c) I (rx c) J [.ref 0] (xv_eq (.inl (some (.int (v)))) (sx n c') I' (rx c') J)) : xv_Met mL_placeCorrection 9 16 128 (sx n c) I (rx c) J [.ref 0, .ref 98] (xv_eq (.inl (some (.int (nI 0)))) (sx n c') I' (rx c') (xv_u J 98 0 v.toInt64)) := by
  refine xv_Met.of (by decide +kernel) (Nat.le_of_ble_eq_true rfl) (List.forall_mem_cons.mpr ⟨rfl, List.forall_mem_cons.mpr ⟨rfl, fun _ h => nomatch h⟩⟩) ?_
  show xv_W mL_placeCorrection 9 16 128 _ 16 128 (sx n c) I (rx c) J 0 [some (.ref 0), some (.ref 98), none] []
  refine xv_al1 fL_placeCorrection_0 ?_
  refine xv_k fL_placeCorrection_1 ?_
  refine xv_al0 fL_placeCorrection_2 ?_
  refine xv_callVH (As := []) (S := [.int (nI 0), .ref 98]) (kc' := 0) (ks' := 0) hM fL_placeCorrection_3 YX10_placeCorrection VX10_placeCorrection lL_80 rfl rfl (sx_0 _ _) rfl rfl (Nat.le_of_ble_eq_true rfl) (by decide) (by decide) (by decide) ?_ ?_
  · intro r s i rf j h _
    obtain ⟨h1, rfl, rfl, rfl, rfl⟩ := h
    cases h1
    refine xv_i2l fL_placeCorrection_6 ?_
    refine xv_lastN fL_placeCorrection_7 (sx_98 _ _) (⟨by decide, by decide⟩) ?_
    refine xv_goto fL_placeCorrection_8 ?_
    refine xv_k fL_placeCorrection_14 ?_
    exact xv_iret fL_placeCorrection_15 rfl rfl xv_eq_i
  · intro E s i rf j h
    obtain ⟨h1, -⟩ := h
    cases h1

theorem w_placeCorrection_S (n : Nat) (c c' : Nat × Nat) (J : xv_J) {I I' : xv_I} (hM : xv_Met mX10_placeCorrection 8 16 128 (sx n c) I (rx c) J [.ref 0] (xv_eq (.inr "java/lang/IllegalStateException") (sx n c') I' (rx c') J)) : xv_Met mL_placeCorrection 9 16 128 (sx n c) I (rx c) J [.ref 0, .ref 98] (xv_eq (.inl (some (.int (nI 1)))) (sx n c') I' (rx c') J) := by
  refine xv_Met.of (by decide +kernel) (Nat.le_of_ble_eq_true rfl) (List.forall_mem_cons.mpr ⟨rfl, List.forall_mem_cons.mpr ⟨rfl, fun _ h => nomatch h⟩⟩) ?_
  show xv_W mL_placeCorrection 9 16 128 _ 16 128 (sx n c) I (rx c) J 0 [some (.ref 0), some (.ref 98), none] []
  refine xv_al1 fL_placeCorrection_0 ?_
  refine xv_k fL_placeCorrection_1 ?_
  refine xv_al0 fL_placeCorrection_2 ?_
  refine xv_callVH (As := []) (S := [.int (nI 0), .ref 98]) (kc' := 0) (ks' := 0) hM fL_placeCorrection_3 YX10_placeCorrection VX10_placeCorrection lL_80 rfl rfl (sx_0 _ _) rfl rfl (Nat.le_of_ble_eq_true rfl) (by decide) (by decide) (by decide) ?_ ?_
  · intro r s i rf j h _
    obtain ⟨h1, -⟩ := h
    cases h1
  · intro E s i rf j h
    obtain ⟨h1, rfl, rfl, rfl, rfl⟩ := h
    cases h1
    exact ⟨_, hn_placeCorrection_S, xv_eq_i⟩

theorem hn_clean_I : xv_Hn mL_clean 4 "java/lang/IndexOutOfBoundsException" (nI 1) := ⟨[], [], (⟨0, 9, 12, 13⟩ : ExceptionTableEntry), _, 3, 13, 14, 15, rfl, (fun _ h => nomatch h), by decide, by decide, kL_13, xv_cstI, fL_clean_12, by decide, ⟨1, by decide +kernel, by decide +kernel, rfl⟩, fL_clean_14⟩
theorem w_clean_ok (n : Nat) (c c' : Nat × Nat) (J : xv_J) {I I' : xv_I} {x1 : Int32} {v : Int32} (hM : xv_Met mX10_clean 8 16 128 (sx n c) I (rx c) J [.ref 0, .int x1] (xv_eq (.inl (some (.int (v)))) (sx n c') I' (rx c') J)) : xv_Met mL_clean 9 16 128 (sx n c) I (rx c) J [.ref 0, .int x1, .ref 98] (xv_eq (.inl (some (.int (nI 0)))) (sx n c') I' (rx c') (xv_u J 98 0 v.toInt64)) := by
  refine xv_Met.of (by decide +kernel) (Nat.le_of_ble_eq_true rfl) (List.forall_mem_cons.mpr ⟨rfl, List.forall_mem_cons.mpr ⟨rfl, List.forall_mem_cons.mpr ⟨rfl, fun _ h => nomatch h⟩⟩⟩) ?_
  show xv_W mL_clean 9 16 128 _ 16 128 (sx n c) I (rx c) J 0 [some (.ref 0), some (.int x1), some (.ref 98), none] []
  refine xv_al2 fL_clean_0 ?_
  refine xv_k fL_clean_1 ?_
  refine xv_al0 fL_clean_2 ?_
  refine xv_il1 fL_clean_3 ?_
  refine xv_callVH (As := [.int x1]) (S := [.int (nI 0), .ref 98]) (kc' := 0) (ks' := 0) hM fL_clean_4 YX10_clean VX10_clean lL_83 rfl rfl (sx_0 _ _) rfl rfl (Nat.le_of_ble_eq_true rfl) (by decide) (by decide) (by decide) ?_ ?_
  · intro r s i rf j h _
    obtain ⟨h1, rfl, rfl, rfl, rfl⟩ := h
    cases h1
    refine xv_i2l fL_clean_7 ?_
    refine xv_lastN fL_clean_8 (sx_98 _ _) (⟨by decide, by decide⟩) ?_
    refine xv_goto fL_clean_9 ?_
    refine xv_k fL_clean_15 ?_
    exact xv_iret fL_clean_16 rfl rfl xv_eq_i
  · intro E s i rf j h
    obtain ⟨h1, -⟩ := h
    cases h1

theorem w_clean_I (n : Nat) (c c' : Nat × Nat) (J : xv_J) {I I' : xv_I} {x1 : Int32} (hM : xv_Met mX10_clean 8 16 128 (sx n c) I (rx c) J [.ref 0, .int x1] (xv_eq (.inr "java/lang/IndexOutOfBoundsException") (sx n c') I' (rx c') J)) : xv_Met mL_clean 9 16 128 (sx n c) I (rx c) J [.ref 0, .int x1, .ref 98] (xv_eq (.inl (some (.int (nI 1)))) (sx n c') I' (rx c') J) := by
  refine xv_Met.of (by decide +kernel) (Nat.le_of_ble_eq_true rfl) (List.forall_mem_cons.mpr ⟨rfl, List.forall_mem_cons.mpr ⟨rfl, List.forall_mem_cons.mpr ⟨rfl, fun _ h => nomatch h⟩⟩⟩) ?_
  show xv_W mL_clean 9 16 128 _ 16 128 (sx n c) I (rx c) J 0 [some (.ref 0), some (.int x1), some (.ref 98), none] []
  refine xv_al2 fL_clean_0 ?_
  refine xv_k fL_clean_1 ?_
  refine xv_al0 fL_clean_2 ?_
  refine xv_il1 fL_clean_3 ?_
  refine xv_callVH (As := [.int x1]) (S := [.int (nI 0), .ref 98]) (kc' := 0) (ks' := 0) hM fL_clean_4 YX10_clean VX10_clean lL_83 rfl rfl (sx_0 _ _) rfl rfl (Nat.le_of_ble_eq_true rfl) (by decide) (by decide) (by decide) ?_ ?_
  · intro r s i rf j h _
    obtain ⟨h1, -⟩ := h
    cases h1
  · intro E s i rf j h
    obtain ⟨h1, rfl, rfl, rfl, rfl⟩ := h
    cases h1
    exact ⟨_, hn_clean_I, xv_eq_i⟩

theorem hn_pass_A : xv_Hn mL_pass 4 "java/lang/IllegalArgumentException" (nI 1) := ⟨[], [], (⟨0, 9, 12, 15⟩ : ExceptionTableEntry), _, 3, 13, 14, 15, rfl, (fun _ h => nomatch h), by decide, by decide, kL_15, xv_cstA, fL_pass_12, by decide, ⟨1, by decide +kernel, by decide +kernel, rfl⟩, fL_pass_14⟩
theorem w_pass_ok (n : Nat) (c c' : Nat × Nat) (J : xv_J) {I I' : xv_I} {x1 : Int32} {v : Int32} (hM : xv_Met mX10_pass 8 16 128 (sx n c) I (rx c) J [.ref 0, .int x1] (xv_eq (.inl (some (.int (v)))) (sx n c') I' (rx c') J)) : xv_Met mL_pass 9 16 128 (sx n c) I (rx c) J [.ref 0, .int x1, .ref 98] (xv_eq (.inl (some (.int (nI 0)))) (sx n c') I' (rx c') (xv_u J 98 0 v.toInt64)) := by
  refine xv_Met.of (by decide +kernel) (Nat.le_of_ble_eq_true rfl) (List.forall_mem_cons.mpr ⟨rfl, List.forall_mem_cons.mpr ⟨rfl, List.forall_mem_cons.mpr ⟨rfl, fun _ h => nomatch h⟩⟩⟩) ?_
  show xv_W mL_pass 9 16 128 _ 16 128 (sx n c) I (rx c) J 0 [some (.ref 0), some (.int x1), some (.ref 98), none] []
  refine xv_al2 fL_pass_0 ?_
  refine xv_k fL_pass_1 ?_
  refine xv_al0 fL_pass_2 ?_
  refine xv_il1 fL_pass_3 ?_
  refine xv_callVH (As := [.int x1]) (S := [.int (nI 0), .ref 98]) (kc' := 0) (ks' := 0) hM fL_pass_4 YX10_pass VX10_pass lL_86 rfl rfl (sx_0 _ _) rfl rfl (Nat.le_of_ble_eq_true rfl) (by decide) (by decide) (by decide) ?_ ?_
  · intro r s i rf j h _
    obtain ⟨h1, rfl, rfl, rfl, rfl⟩ := h
    cases h1
    refine xv_i2l fL_pass_7 ?_
    refine xv_lastN fL_pass_8 (sx_98 _ _) (⟨by decide, by decide⟩) ?_
    refine xv_goto fL_pass_9 ?_
    refine xv_k fL_pass_15 ?_
    exact xv_iret fL_pass_16 rfl rfl xv_eq_i
  · intro E s i rf j h
    obtain ⟨h1, -⟩ := h
    cases h1

theorem w_pass_A (n : Nat) (c c' : Nat × Nat) (J : xv_J) {I I' : xv_I} {x1 : Int32} (hM : xv_Met mX10_pass 8 16 128 (sx n c) I (rx c) J [.ref 0, .int x1] (xv_eq (.inr "java/lang/IllegalArgumentException") (sx n c') I' (rx c') J)) : xv_Met mL_pass 9 16 128 (sx n c) I (rx c) J [.ref 0, .int x1, .ref 98] (xv_eq (.inl (some (.int (nI 1)))) (sx n c') I' (rx c') J) := by
  refine xv_Met.of (by decide +kernel) (Nat.le_of_ble_eq_true rfl) (List.forall_mem_cons.mpr ⟨rfl, List.forall_mem_cons.mpr ⟨rfl, List.forall_mem_cons.mpr ⟨rfl, fun _ h => nomatch h⟩⟩⟩) ?_
  show xv_W mL_pass 9 16 128 _ 16 128 (sx n c) I (rx c) J 0 [some (.ref 0), some (.int x1), some (.ref 98), none] []
  refine xv_al2 fL_pass_0 ?_
  refine xv_k fL_pass_1 ?_
  refine xv_al0 fL_pass_2 ?_
  refine xv_il1 fL_pass_3 ?_
  refine xv_callVH (As := [.int x1]) (S := [.int (nI 0), .ref 98]) (kc' := 0) (ks' := 0) hM fL_pass_4 YX10_pass VX10_pass lL_86 rfl rfl (sx_0 _ _) rfl rfl (Nat.le_of_ble_eq_true rfl) (by decide) (by decide) (by decide) ?_ ?_
  · intro r s i rf j h _
    obtain ⟨h1, -⟩ := h
    cases h1
  · intro E s i rf j h
    obtain ⟨h1, rfl, rfl, rfl, rfl⟩ := h
    cases h1
    exact ⟨_, hn_pass_A, xv_eq_i⟩

theorem hn_truck_A : xv_Hn mL_truck 5 "java/lang/IllegalArgumentException" (nI 1) := ⟨[], [(⟨0, 10, 17, 17⟩ : ExceptionTableEntry)], (⟨0, 10, 13, 15⟩ : ExceptionTableEntry), _, 4, 15, 16, 17, rfl, (fun _ h => nomatch h), by decide, by decide, kL_15, xv_cstA, fL_truck_13, by decide, ⟨1, by decide +kernel, by decide +kernel, rfl⟩, fL_truck_16⟩
theorem hn_truck_S : xv_Hn mL_truck 5 "java/lang/IllegalStateException" (nI 2) := ⟨[(⟨0, 10, 13, 15⟩ : ExceptionTableEntry)], [], (⟨0, 10, 17, 17⟩ : ExceptionTableEntry), _, 4, 19, 20, 21, rfl, (List.forall_mem_cons.mpr ⟨Or.inr ⟨by decide, _, kL_15, by decide +kernel⟩, fun _ h => nomatch h⟩), by decide, by decide, kL_17, xv_cstS, fL_truck_17, by decide, ⟨2, by decide +kernel, by decide +kernel, rfl⟩, fL_truck_20⟩
theorem w_truck_ok (n : Nat) (c c' : Nat × Nat) (J : xv_J) {I I' : xv_I} {x1 x2 : Int32} {v : Int32} (hM : xv_Met mX10_truck 8 16 128 (sx n c) I (rx c) J [.ref 0, .int x1, .int x2] (xv_eq (.inl (some (.int (v)))) (sx n c') I' (rx c') J)) : xv_Met mL_truck 9 16 128 (sx n c) I (rx c) J [.ref 0, .int x1, .int x2, .ref 98] (xv_eq (.inl (some (.int (nI 0)))) (sx n c') I' (rx c') (xv_u J 98 0 v.toInt64)) := by
  refine xv_Met.of (by decide +kernel) (Nat.le_of_ble_eq_true rfl) (List.forall_mem_cons.mpr ⟨rfl, List.forall_mem_cons.mpr ⟨rfl, List.forall_mem_cons.mpr ⟨rfl, List.forall_mem_cons.mpr ⟨rfl, fun _ h => nomatch h⟩⟩⟩⟩) ?_
  show xv_W mL_truck 9 16 128 _ 16 128 (sx n c) I (rx c) J 0 [some (.ref 0), some (.int x1), some (.int x2), some (.ref 98), none] []
  refine xv_al3 fL_truck_0 ?_
  refine xv_k fL_truck_1 ?_
  refine xv_al0 fL_truck_2 ?_
  refine xv_il1 fL_truck_3 ?_
  refine xv_il2 fL_truck_4 ?_
  refine xv_callVH (As := [.int x1, .int x2]) (S := [.int (nI 0), .ref 98]) (kc' := 0) (ks' := 0) hM fL_truck_5 YX10_truck VX10_truck lL_89 rfl rfl (sx_0 _ _) rfl rfl (Nat.le_of_ble_eq_true rfl) (by decide) (by decide) (by decide) ?_ ?_
  · intro r s i rf j h _
    obtain ⟨h1, rfl, rfl, rfl, rfl⟩ := h
    cases h1
    refine xv_i2l fL_truck_8 ?_
    refine xv_lastN fL_truck_9 (sx_98 _ _) (⟨by decide, by decide⟩) ?_
    refine xv_goto fL_truck_10 ?_
    refine xv_k fL_truck_21 ?_
    exact xv_iret fL_truck_22 rfl rfl xv_eq_i
  · intro E s i rf j h
    obtain ⟨h1, -⟩ := h
    cases h1

theorem w_truck_A (n : Nat) (c c' : Nat × Nat) (J : xv_J) {I I' : xv_I} {x1 x2 : Int32} (hM : xv_Met mX10_truck 8 16 128 (sx n c) I (rx c) J [.ref 0, .int x1, .int x2] (xv_eq (.inr "java/lang/IllegalArgumentException") (sx n c') I' (rx c') J)) : xv_Met mL_truck 9 16 128 (sx n c) I (rx c) J [.ref 0, .int x1, .int x2, .ref 98] (xv_eq (.inl (some (.int (nI 1)))) (sx n c') I' (rx c') J) := by
  refine xv_Met.of (by decide +kernel) (Nat.le_of_ble_eq_true rfl) (List.forall_mem_cons.mpr ⟨rfl, List.forall_mem_cons.mpr ⟨rfl, List.forall_mem_cons.mpr ⟨rfl, List.forall_mem_cons.mpr ⟨rfl, fun _ h => nomatch h⟩⟩⟩⟩) ?_
  show xv_W mL_truck 9 16 128 _ 16 128 (sx n c) I (rx c) J 0 [some (.ref 0), some (.int x1), some (.int x2), some (.ref 98), none] []
  refine xv_al3 fL_truck_0 ?_
  refine xv_k fL_truck_1 ?_
  refine xv_al0 fL_truck_2 ?_
  refine xv_il1 fL_truck_3 ?_
  refine xv_il2 fL_truck_4 ?_
  refine xv_callVH (As := [.int x1, .int x2]) (S := [.int (nI 0), .ref 98]) (kc' := 0) (ks' := 0) hM fL_truck_5 YX10_truck VX10_truck lL_89 rfl rfl (sx_0 _ _) rfl rfl (Nat.le_of_ble_eq_true rfl) (by decide) (by decide) (by decide) ?_ ?_
  · intro r s i rf j h _
    obtain ⟨h1, -⟩ := h
    cases h1
  · intro E s i rf j h
    obtain ⟨h1, rfl, rfl, rfl, rfl⟩ := h
    cases h1
    exact ⟨_, hn_truck_A, xv_eq_i⟩

theorem w_truck_S (n : Nat) (c c' : Nat × Nat) (J : xv_J) {I I' : xv_I} {x1 x2 : Int32} (hM : xv_Met mX10_truck 8 16 128 (sx n c) I (rx c) J [.ref 0, .int x1, .int x2] (xv_eq (.inr "java/lang/IllegalStateException") (sx n c') I' (rx c') J)) : xv_Met mL_truck 9 16 128 (sx n c) I (rx c) J [.ref 0, .int x1, .int x2, .ref 98] (xv_eq (.inl (some (.int (nI 2)))) (sx n c') I' (rx c') J) := by
  refine xv_Met.of (by decide +kernel) (Nat.le_of_ble_eq_true rfl) (List.forall_mem_cons.mpr ⟨rfl, List.forall_mem_cons.mpr ⟨rfl, List.forall_mem_cons.mpr ⟨rfl, List.forall_mem_cons.mpr ⟨rfl, fun _ h => nomatch h⟩⟩⟩⟩) ?_
  show xv_W mL_truck 9 16 128 _ 16 128 (sx n c) I (rx c) J 0 [some (.ref 0), some (.int x1), some (.int x2), some (.ref 98), none] []
  refine xv_al3 fL_truck_0 ?_
  refine xv_k fL_truck_1 ?_
  refine xv_al0 fL_truck_2 ?_
  refine xv_il1 fL_truck_3 ?_
  refine xv_il2 fL_truck_4 ?_
  refine xv_callVH (As := [.int x1, .int x2]) (S := [.int (nI 0), .ref 98]) (kc' := 0) (ks' := 0) hM fL_truck_5 YX10_truck VX10_truck lL_89 rfl rfl (sx_0 _ _) rfl rfl (Nat.le_of_ble_eq_true rfl) (by decide) (by decide) (by decide) ?_ ?_
  · intro r s i rf j h _
    obtain ⟨h1, -⟩ := h
    cases h1
  · intro E s i rf j h
    obtain ⟨h1, rfl, rfl, rfl, rfl⟩ := h
    cases h1
    exact ⟨_, hn_truck_S, xv_eq_i⟩

theorem hn_late_I : xv_Hn mL_late 5 "java/lang/IndexOutOfBoundsException" (nI 1) := ⟨[], [], (⟨0, 10, 13, 13⟩ : ExceptionTableEntry), _, 4, 15, 16, 17, rfl, (fun _ h => nomatch h), by decide, by decide, kL_13, xv_cstI, fL_late_13, by decide, ⟨1, by decide +kernel, by decide +kernel, rfl⟩, fL_late_16⟩
theorem w_late_ok (n : Nat) (c c' : Nat × Nat) (J : xv_J) {I I' : xv_I} {x1 x2 : Int32} {v : Int32} (hM : xv_Met mX10_late 8 16 128 (sx n c) I (rx c) J [.ref 0, .int x1, .int x2] (xv_eq (.inl (some (.int (v)))) (sx n c') I' (rx c') J)) : xv_Met mL_late 9 16 128 (sx n c) I (rx c) J [.ref 0, .int x1, .int x2, .ref 98] (xv_eq (.inl (some (.int (nI 0)))) (sx n c') I' (rx c') (xv_u J 98 0 v.toInt64)) := by
  refine xv_Met.of (by decide +kernel) (Nat.le_of_ble_eq_true rfl) (List.forall_mem_cons.mpr ⟨rfl, List.forall_mem_cons.mpr ⟨rfl, List.forall_mem_cons.mpr ⟨rfl, List.forall_mem_cons.mpr ⟨rfl, fun _ h => nomatch h⟩⟩⟩⟩) ?_
  show xv_W mL_late 9 16 128 _ 16 128 (sx n c) I (rx c) J 0 [some (.ref 0), some (.int x1), some (.int x2), some (.ref 98), none] []
  refine xv_al3 fL_late_0 ?_
  refine xv_k fL_late_1 ?_
  refine xv_al0 fL_late_2 ?_
  refine xv_il1 fL_late_3 ?_
  refine xv_il2 fL_late_4 ?_
  refine xv_callVH (As := [.int x1, .int x2]) (S := [.int (nI 0), .ref 98]) (kc' := 0) (ks' := 0) hM fL_late_5 YX10_late VX10_late lL_92 rfl rfl (sx_0 _ _) rfl rfl (Nat.le_of_ble_eq_true rfl) (by decide) (by decide) (by decide) ?_ ?_
  · intro r s i rf j h _
    obtain ⟨h1, rfl, rfl, rfl, rfl⟩ := h
    cases h1
    refine xv_i2l fL_late_8 ?_
    refine xv_lastN fL_late_9 (sx_98 _ _) (⟨by decide, by decide⟩) ?_
    refine xv_goto fL_late_10 ?_
    refine xv_k fL_late_17 ?_
    exact xv_iret fL_late_18 rfl rfl xv_eq_i
  · intro E s i rf j h
    obtain ⟨h1, -⟩ := h
    cases h1

theorem w_late_I (n : Nat) (c c' : Nat × Nat) (J : xv_J) {I I' : xv_I} {x1 x2 : Int32} (hM : xv_Met mX10_late 8 16 128 (sx n c) I (rx c) J [.ref 0, .int x1, .int x2] (xv_eq (.inr "java/lang/IndexOutOfBoundsException") (sx n c') I' (rx c') J)) : xv_Met mL_late 9 16 128 (sx n c) I (rx c) J [.ref 0, .int x1, .int x2, .ref 98] (xv_eq (.inl (some (.int (nI 1)))) (sx n c') I' (rx c') J) := by
  refine xv_Met.of (by decide +kernel) (Nat.le_of_ble_eq_true rfl) (List.forall_mem_cons.mpr ⟨rfl, List.forall_mem_cons.mpr ⟨rfl, List.forall_mem_cons.mpr ⟨rfl, List.forall_mem_cons.mpr ⟨rfl, fun _ h => nomatch h⟩⟩⟩⟩) ?_
  show xv_W mL_late 9 16 128 _ 16 128 (sx n c) I (rx c) J 0 [some (.ref 0), some (.int x1), some (.int x2), some (.ref 98), none] []
  refine xv_al3 fL_late_0 ?_
  refine xv_k fL_late_1 ?_
  refine xv_al0 fL_late_2 ?_
  refine xv_il1 fL_late_3 ?_
  refine xv_il2 fL_late_4 ?_
  refine xv_callVH (As := [.int x1, .int x2]) (S := [.int (nI 0), .ref 98]) (kc' := 0) (ks' := 0) hM fL_late_5 YX10_late VX10_late lL_92 rfl rfl (sx_0 _ _) rfl rfl (Nat.le_of_ble_eq_true rfl) (by decide) (by decide) (by decide) ?_ ?_
  · intro r s i rf j h _
    obtain ⟨h1, -⟩ := h
    cases h1
  · intro E s i rf j h
    obtain ⟨h1, rfl, rfl, rfl, rfl⟩ := h
    cases h1
    exact ⟨_, hn_late_I, xv_eq_i⟩

theorem hn_word_A : xv_Hn mL_word 5 "java/lang/IllegalArgumentException" (nI 1) := ⟨[], [(⟨0, 10, 17, 17⟩ : ExceptionTableEntry)], (⟨0, 10, 13, 15⟩ : ExceptionTableEntry), _, 4, 15, 16, 17, rfl, (fun _ h => nomatch h), by decide, by decide, kL_15, xv_cstA, fL_word_13, by decide, ⟨1, by decide +kernel, by decide +kernel, rfl⟩, fL_word_16⟩
theorem hn_word_S : xv_Hn mL_word 5 "java/lang/IllegalStateException" (nI 2) := ⟨[(⟨0, 10, 13, 15⟩ : ExceptionTableEntry)], [], (⟨0, 10, 17, 17⟩ : ExceptionTableEntry), _, 4, 19, 20, 21, rfl, (List.forall_mem_cons.mpr ⟨Or.inr ⟨by decide, _, kL_15, by decide +kernel⟩, fun _ h => nomatch h⟩), by decide, by decide, kL_17, xv_cstS, fL_word_17, by decide, ⟨2, by decide +kernel, by decide +kernel, rfl⟩, fL_word_20⟩
theorem w_word_ok (n : Nat) (c c' : Nat × Nat) (J : xv_J) {I I' : xv_I} {x1 x2 : Int32} {v : Int32} (hM : xv_Met mX10_word 8 16 128 (sx n c) I (rx c) J [.ref 0, .int x1, .int x2] (xv_eq (.inl (some (.int (v)))) (sx n c') I' (rx c') J)) : xv_Met mL_word 9 16 128 (sx n c) I (rx c) J [.ref 0, .int x1, .int x2, .ref 98] (xv_eq (.inl (some (.int (nI 0)))) (sx n c') I' (rx c') (xv_u J 98 0 v.toInt64)) := by
  refine xv_Met.of (by decide +kernel) (Nat.le_of_ble_eq_true rfl) (List.forall_mem_cons.mpr ⟨rfl, List.forall_mem_cons.mpr ⟨rfl, List.forall_mem_cons.mpr ⟨rfl, List.forall_mem_cons.mpr ⟨rfl, fun _ h => nomatch h⟩⟩⟩⟩) ?_
  show xv_W mL_word 9 16 128 _ 16 128 (sx n c) I (rx c) J 0 [some (.ref 0), some (.int x1), some (.int x2), some (.ref 98), none] []
  refine xv_al3 fL_word_0 ?_
  refine xv_k fL_word_1 ?_
  refine xv_al0 fL_word_2 ?_
  refine xv_il1 fL_word_3 ?_
  refine xv_il2 fL_word_4 ?_
  refine xv_callVH (As := [.int x1, .int x2]) (S := [.int (nI 0), .ref 98]) (kc' := 0) (ks' := 0) hM fL_word_5 YX10_word VX10_word lL_95 rfl rfl (sx_0 _ _) rfl rfl (Nat.le_of_ble_eq_true rfl) (by decide) (by decide) (by decide) ?_ ?_
  · intro r s i rf j h _
    obtain ⟨h1, rfl, rfl, rfl, rfl⟩ := h
    cases h1
    refine xv_i2l fL_word_8 ?_
    refine xv_lastN fL_word_9 (sx_98 _ _) (⟨by decide, by decide⟩) ?_
    refine xv_goto fL_word_10 ?_
    refine xv_k fL_word_21 ?_
    exact xv_iret fL_word_22 rfl rfl xv_eq_i
  · intro E s i rf j h
    obtain ⟨h1, -⟩ := h
    cases h1

theorem w_word_A (n : Nat) (c c' : Nat × Nat) (J : xv_J) {I I' : xv_I} {x1 x2 : Int32} (hM : xv_Met mX10_word 8 16 128 (sx n c) I (rx c) J [.ref 0, .int x1, .int x2] (xv_eq (.inr "java/lang/IllegalArgumentException") (sx n c') I' (rx c') J)) : xv_Met mL_word 9 16 128 (sx n c) I (rx c) J [.ref 0, .int x1, .int x2, .ref 98] (xv_eq (.inl (some (.int (nI 1)))) (sx n c') I' (rx c') J) := by
  refine xv_Met.of (by decide +kernel) (Nat.le_of_ble_eq_true rfl) (List.forall_mem_cons.mpr ⟨rfl, List.forall_mem_cons.mpr ⟨rfl, List.forall_mem_cons.mpr ⟨rfl, List.forall_mem_cons.mpr ⟨rfl, fun _ h => nomatch h⟩⟩⟩⟩) ?_
  show xv_W mL_word 9 16 128 _ 16 128 (sx n c) I (rx c) J 0 [some (.ref 0), some (.int x1), some (.int x2), some (.ref 98), none] []
  refine xv_al3 fL_word_0 ?_
  refine xv_k fL_word_1 ?_
  refine xv_al0 fL_word_2 ?_
  refine xv_il1 fL_word_3 ?_
  refine xv_il2 fL_word_4 ?_
  refine xv_callVH (As := [.int x1, .int x2]) (S := [.int (nI 0), .ref 98]) (kc' := 0) (ks' := 0) hM fL_word_5 YX10_word VX10_word lL_95 rfl rfl (sx_0 _ _) rfl rfl (Nat.le_of_ble_eq_true rfl) (by decide) (by decide) (by decide) ?_ ?_
  · intro r s i rf j h _
    obtain ⟨h1, -⟩ := h
    cases h1
  · intro E s i rf j h
    obtain ⟨h1, rfl, rfl, rfl, rfl⟩ := h
    cases h1
    exact ⟨_, hn_word_A, xv_eq_i⟩

theorem w_word_S (n : Nat) (c c' : Nat × Nat) (J : xv_J) {I I' : xv_I} {x1 x2 : Int32} (hM : xv_Met mX10_word 8 16 128 (sx n c) I (rx c) J [.ref 0, .int x1, .int x2] (xv_eq (.inr "java/lang/IllegalStateException") (sx n c') I' (rx c') J)) : xv_Met mL_word 9 16 128 (sx n c) I (rx c) J [.ref 0, .int x1, .int x2, .ref 98] (xv_eq (.inl (some (.int (nI 2)))) (sx n c') I' (rx c') J) := by
  refine xv_Met.of (by decide +kernel) (Nat.le_of_ble_eq_true rfl) (List.forall_mem_cons.mpr ⟨rfl, List.forall_mem_cons.mpr ⟨rfl, List.forall_mem_cons.mpr ⟨rfl, List.forall_mem_cons.mpr ⟨rfl, fun _ h => nomatch h⟩⟩⟩⟩) ?_
  show xv_W mL_word 9 16 128 _ 16 128 (sx n c) I (rx c) J 0 [some (.ref 0), some (.int x1), some (.int x2), some (.ref 98), none] []
  refine xv_al3 fL_word_0 ?_
  refine xv_k fL_word_1 ?_
  refine xv_al0 fL_word_2 ?_
  refine xv_il1 fL_word_3 ?_
  refine xv_il2 fL_word_4 ?_
  refine xv_callVH (As := [.int x1, .int x2]) (S := [.int (nI 0), .ref 98]) (kc' := 0) (ks' := 0) hM fL_word_5 YX10_word VX10_word lL_95 rfl rfl (sx_0 _ _) rfl rfl (Nat.le_of_ble_eq_true rfl) (by decide) (by decide) (by decide) ?_ ?_
  · intro r s i rf j h _
    obtain ⟨h1, -⟩ := h
    cases h1
  · intro E s i rf j h
    obtain ⟨h1, rfl, rfl, rfl, rfl⟩ := h
    cases h1
    exact ⟨_, hn_word_S, xv_eq_i⟩

theorem hn_fit_A : xv_Hn mL_fit 4 "java/lang/IllegalArgumentException" (nI 1) := ⟨[], [], (⟨0, 9, 12, 15⟩ : ExceptionTableEntry), _, 3, 13, 14, 15, rfl, (fun _ h => nomatch h), by decide, by decide, kL_15, xv_cstA, fL_fit_12, by decide, ⟨1, by decide +kernel, by decide +kernel, rfl⟩, fL_fit_14⟩
theorem w_fit_ok (n : Nat) (c c' : Nat × Nat) (J : xv_J) {I I' : xv_I} {x1 : Int32} {v : Int32} (hM : xv_Met mX10_fit 8 16 128 (sx n c) I (rx c) J [.ref 0, .int x1] (xv_eq (.inl (some (.int (v)))) (sx n c') I' (rx c') J)) : xv_Met mL_fit 9 16 128 (sx n c) I (rx c) J [.ref 0, .int x1, .ref 98] (xv_eq (.inl (some (.int (nI 0)))) (sx n c') I' (rx c') (xv_u J 98 0 v.toInt64)) := by
  refine xv_Met.of (by decide +kernel) (Nat.le_of_ble_eq_true rfl) (List.forall_mem_cons.mpr ⟨rfl, List.forall_mem_cons.mpr ⟨rfl, List.forall_mem_cons.mpr ⟨rfl, fun _ h => nomatch h⟩⟩⟩) ?_
  show xv_W mL_fit 9 16 128 _ 16 128 (sx n c) I (rx c) J 0 [some (.ref 0), some (.int x1), some (.ref 98), none] []
  refine xv_al2 fL_fit_0 ?_
  refine xv_k fL_fit_1 ?_
  refine xv_al0 fL_fit_2 ?_
  refine xv_il1 fL_fit_3 ?_
  refine xv_callVH (As := [.int x1]) (S := [.int (nI 0), .ref 98]) (kc' := 0) (ks' := 0) hM fL_fit_4 YX10_fit VX10_fit lL_98 rfl rfl (sx_0 _ _) rfl rfl (Nat.le_of_ble_eq_true rfl) (by decide) (by decide) (by decide) ?_ ?_
  · intro r s i rf j h _
    obtain ⟨h1, rfl, rfl, rfl, rfl⟩ := h
    cases h1
    refine xv_i2l fL_fit_7 ?_
    refine xv_lastN fL_fit_8 (sx_98 _ _) (⟨by decide, by decide⟩) ?_
    refine xv_goto fL_fit_9 ?_
    refine xv_k fL_fit_15 ?_
    exact xv_iret fL_fit_16 rfl rfl xv_eq_i
  · intro E s i rf j h
    obtain ⟨h1, -⟩ := h
    cases h1

theorem w_fit_A (n : Nat) (c c' : Nat × Nat) (J : xv_J) {I I' : xv_I} {x1 : Int32} (hM : xv_Met mX10_fit 8 16 128 (sx n c) I (rx c) J [.ref 0, .int x1] (xv_eq (.inr "java/lang/IllegalArgumentException") (sx n c') I' (rx c') J)) : xv_Met mL_fit 9 16 128 (sx n c) I (rx c) J [.ref 0, .int x1, .ref 98] (xv_eq (.inl (some (.int (nI 1)))) (sx n c') I' (rx c') J) := by
  refine xv_Met.of (by decide +kernel) (Nat.le_of_ble_eq_true rfl) (List.forall_mem_cons.mpr ⟨rfl, List.forall_mem_cons.mpr ⟨rfl, List.forall_mem_cons.mpr ⟨rfl, fun _ h => nomatch h⟩⟩⟩) ?_
  show xv_W mL_fit 9 16 128 _ 16 128 (sx n c) I (rx c) J 0 [some (.ref 0), some (.int x1), some (.ref 98), none] []
  refine xv_al2 fL_fit_0 ?_
  refine xv_k fL_fit_1 ?_
  refine xv_al0 fL_fit_2 ?_
  refine xv_il1 fL_fit_3 ?_
  refine xv_callVH (As := [.int x1]) (S := [.int (nI 0), .ref 98]) (kc' := 0) (ks' := 0) hM fL_fit_4 YX10_fit VX10_fit lL_98 rfl rfl (sx_0 _ _) rfl rfl (Nat.le_of_ble_eq_true rfl) (by decide) (by decide) (by decide) ?_ ?_
  · intro r s i rf j h _
    obtain ⟨h1, -⟩ := h
    cases h1
  · intro E s i rf j h
    obtain ⟨h1, rfl, rfl, rfl, rfl⟩ := h
    cases h1
    exact ⟨_, hn_fit_A, xv_eq_i⟩

theorem hn_weigh_A : xv_Hn mL_weigh 5 "java/lang/IllegalArgumentException" (nI 1) := ⟨[], [], (⟨0, 10, 13, 15⟩ : ExceptionTableEntry), _, 4, 15, 16, 17, rfl, (fun _ h => nomatch h), by decide, by decide, kL_15, xv_cstA, fL_weigh_13, by decide, ⟨1, by decide +kernel, by decide +kernel, rfl⟩, fL_weigh_16⟩
theorem w_weigh_ok (n : Nat) (c c' : Nat × Nat) (J : xv_J) {I I' : xv_I} {x1 x2 : Int32} {v : Int32} (hM : xv_Met mX10_weigh 8 16 128 (sx n c) I (rx c) J [.ref 0, .int x1, .int x2] (xv_eq (.inl (some (.int (v)))) (sx n c') I' (rx c') J)) : xv_Met mL_weigh 9 16 128 (sx n c) I (rx c) J [.ref 0, .int x1, .int x2, .ref 98] (xv_eq (.inl (some (.int (nI 0)))) (sx n c') I' (rx c') (xv_u J 98 0 v.toInt64)) := by
  refine xv_Met.of (by decide +kernel) (Nat.le_of_ble_eq_true rfl) (List.forall_mem_cons.mpr ⟨rfl, List.forall_mem_cons.mpr ⟨rfl, List.forall_mem_cons.mpr ⟨rfl, List.forall_mem_cons.mpr ⟨rfl, fun _ h => nomatch h⟩⟩⟩⟩) ?_
  show xv_W mL_weigh 9 16 128 _ 16 128 (sx n c) I (rx c) J 0 [some (.ref 0), some (.int x1), some (.int x2), some (.ref 98), none] []
  refine xv_al3 fL_weigh_0 ?_
  refine xv_k fL_weigh_1 ?_
  refine xv_al0 fL_weigh_2 ?_
  refine xv_il1 fL_weigh_3 ?_
  refine xv_il2 fL_weigh_4 ?_
  refine xv_callVH (As := [.int x1, .int x2]) (S := [.int (nI 0), .ref 98]) (kc' := 0) (ks' := 0) hM fL_weigh_5 YX10_weigh VX10_weigh lL_101 rfl rfl (sx_0 _ _) rfl rfl (Nat.le_of_ble_eq_true rfl) (by decide) (by decide) (by decide) ?_ ?_
  · intro r s i rf j h _
    obtain ⟨h1, rfl, rfl, rfl, rfl⟩ := h
    cases h1
    refine xv_i2l fL_weigh_8 ?_
    refine xv_lastN fL_weigh_9 (sx_98 _ _) (⟨by decide, by decide⟩) ?_
    refine xv_goto fL_weigh_10 ?_
    refine xv_k fL_weigh_17 ?_
    exact xv_iret fL_weigh_18 rfl rfl xv_eq_i
  · intro E s i rf j h
    obtain ⟨h1, -⟩ := h
    cases h1

theorem w_weigh_A (n : Nat) (c c' : Nat × Nat) (J : xv_J) {I I' : xv_I} {x1 x2 : Int32} (hM : xv_Met mX10_weigh 8 16 128 (sx n c) I (rx c) J [.ref 0, .int x1, .int x2] (xv_eq (.inr "java/lang/IllegalArgumentException") (sx n c') I' (rx c') J)) : xv_Met mL_weigh 9 16 128 (sx n c) I (rx c) J [.ref 0, .int x1, .int x2, .ref 98] (xv_eq (.inl (some (.int (nI 1)))) (sx n c') I' (rx c') J) := by
  refine xv_Met.of (by decide +kernel) (Nat.le_of_ble_eq_true rfl) (List.forall_mem_cons.mpr ⟨rfl, List.forall_mem_cons.mpr ⟨rfl, List.forall_mem_cons.mpr ⟨rfl, List.forall_mem_cons.mpr ⟨rfl, fun _ h => nomatch h⟩⟩⟩⟩) ?_
  show xv_W mL_weigh 9 16 128 _ 16 128 (sx n c) I (rx c) J 0 [some (.ref 0), some (.int x1), some (.int x2), some (.ref 98), none] []
  refine xv_al3 fL_weigh_0 ?_
  refine xv_k fL_weigh_1 ?_
  refine xv_al0 fL_weigh_2 ?_
  refine xv_il1 fL_weigh_3 ?_
  refine xv_il2 fL_weigh_4 ?_
  refine xv_callVH (As := [.int x1, .int x2]) (S := [.int (nI 0), .ref 98]) (kc' := 0) (ks' := 0) hM fL_weigh_5 YX10_weigh VX10_weigh lL_101 rfl rfl (sx_0 _ _) rfl rfl (Nat.le_of_ble_eq_true rfl) (by decide) (by decide) (by decide) ?_ ?_
  · intro r s i rf j h _
    obtain ⟨h1, -⟩ := h
    cases h1
  · intro E s i rf j h
    obtain ⟨h1, rfl, rfl, rfl, rfl⟩ := h
    cases h1
    exact ⟨_, hn_weigh_A, xv_eq_i⟩

theorem hn_crop_A : xv_Hn mL_crop 5 "java/lang/IllegalArgumentException" (nI 1) := ⟨[], [], (⟨0, 10, 13, 15⟩ : ExceptionTableEntry), _, 4, 15, 16, 17, rfl, (fun _ h => nomatch h), by decide, by decide, kL_15, xv_cstA, fL_crop_13, by decide, ⟨1, by decide +kernel, by decide +kernel, rfl⟩, fL_crop_16⟩
theorem w_crop_ok (n : Nat) (c c' : Nat × Nat) (J : xv_J) {I I' : xv_I} {x1 x2 : Int32} {v : Int32} (hM : xv_Met mX10_crop 8 16 128 (sx n c) I (rx c) J [.ref 0, .int x1, .int x2] (xv_eq (.inl (some (.int (v)))) (sx n c') I' (rx c') J)) : xv_Met mL_crop 9 16 128 (sx n c) I (rx c) J [.ref 0, .int x1, .int x2, .ref 98] (xv_eq (.inl (some (.int (nI 0)))) (sx n c') I' (rx c') (xv_u J 98 0 v.toInt64)) := by
  refine xv_Met.of (by decide +kernel) (Nat.le_of_ble_eq_true rfl) (List.forall_mem_cons.mpr ⟨rfl, List.forall_mem_cons.mpr ⟨rfl, List.forall_mem_cons.mpr ⟨rfl, List.forall_mem_cons.mpr ⟨rfl, fun _ h => nomatch h⟩⟩⟩⟩) ?_
  show xv_W mL_crop 9 16 128 _ 16 128 (sx n c) I (rx c) J 0 [some (.ref 0), some (.int x1), some (.int x2), some (.ref 98), none] []
  refine xv_al3 fL_crop_0 ?_
  refine xv_k fL_crop_1 ?_
  refine xv_al0 fL_crop_2 ?_
  refine xv_il1 fL_crop_3 ?_
  refine xv_il2 fL_crop_4 ?_
  refine xv_callVH (As := [.int x1, .int x2]) (S := [.int (nI 0), .ref 98]) (kc' := 0) (ks' := 0) hM fL_crop_5 YX10_crop VX10_crop lL_104 rfl rfl (sx_0 _ _) rfl rfl (Nat.le_of_ble_eq_true rfl) (by decide) (by decide) (by decide) ?_ ?_
  · intro r s i rf j h _
    obtain ⟨h1, rfl, rfl, rfl, rfl⟩ := h
    cases h1
    refine xv_i2l fL_crop_8 ?_
    refine xv_lastN fL_crop_9 (sx_98 _ _) (⟨by decide, by decide⟩) ?_
    refine xv_goto fL_crop_10 ?_
    refine xv_k fL_crop_17 ?_
    exact xv_iret fL_crop_18 rfl rfl xv_eq_i
  · intro E s i rf j h
    obtain ⟨h1, -⟩ := h
    cases h1

theorem w_crop_A (n : Nat) (c c' : Nat × Nat) (J : xv_J) {I I' : xv_I} {x1 x2 : Int32} (hM : xv_Met mX10_crop 8 16 128 (sx n c) I (rx c) J [.ref 0, .int x1, .int x2] (xv_eq (.inr "java/lang/IllegalArgumentException") (sx n c') I' (rx c') J)) : xv_Met mL_crop 9 16 128 (sx n c) I (rx c) J [.ref 0, .int x1, .int x2, .ref 98] (xv_eq (.inl (some (.int (nI 1)))) (sx n c') I' (rx c') J) := by
  refine xv_Met.of (by decide +kernel) (Nat.le_of_ble_eq_true rfl) (List.forall_mem_cons.mpr ⟨rfl, List.forall_mem_cons.mpr ⟨rfl, List.forall_mem_cons.mpr ⟨rfl, List.forall_mem_cons.mpr ⟨rfl, fun _ h => nomatch h⟩⟩⟩⟩) ?_
  show xv_W mL_crop 9 16 128 _ 16 128 (sx n c) I (rx c) J 0 [some (.ref 0), some (.int x1), some (.int x2), some (.ref 98), none] []
  refine xv_al3 fL_crop_0 ?_
  refine xv_k fL_crop_1 ?_
  refine xv_al0 fL_crop_2 ?_
  refine xv_il1 fL_crop_3 ?_
  refine xv_il2 fL_crop_4 ?_
  refine xv_callVH (As := [.int x1, .int x2]) (S := [.int (nI 0), .ref 98]) (kc' := 0) (ks' := 0) hM fL_crop_5 YX10_crop VX10_crop lL_104 rfl rfl (sx_0 _ _) rfl rfl (Nat.le_of_ble_eq_true rfl) (by decide) (by decide) (by decide) ?_ ?_
  · intro r s i rf j h _
    obtain ⟨h1, -⟩ := h
    cases h1
  · intro E s i rf j h
    obtain ⟨h1, rfl, rfl, rfl, rfl⟩ := h
    cases h1
    exact ⟨_, hn_crop_A, xv_eq_i⟩

theorem hn_wire_A : xv_Hn mL_wire 5 "java/lang/IllegalArgumentException" (nI 1) := ⟨[], [(⟨0, 10, 17, 17⟩ : ExceptionTableEntry)], (⟨0, 10, 13, 15⟩ : ExceptionTableEntry), _, 4, 15, 16, 17, rfl, (fun _ h => nomatch h), by decide, by decide, kL_15, xv_cstA, fL_wire_13, by decide, ⟨1, by decide +kernel, by decide +kernel, rfl⟩, fL_wire_16⟩
theorem hn_wire_S : xv_Hn mL_wire 5 "java/lang/IllegalStateException" (nI 2) := ⟨[(⟨0, 10, 13, 15⟩ : ExceptionTableEntry)], [], (⟨0, 10, 17, 17⟩ : ExceptionTableEntry), _, 4, 19, 20, 21, rfl, (List.forall_mem_cons.mpr ⟨Or.inr ⟨by decide, _, kL_15, by decide +kernel⟩, fun _ h => nomatch h⟩), by decide, by decide, kL_17, xv_cstS, fL_wire_17, by decide, ⟨2, by decide +kernel, by decide +kernel, rfl⟩, fL_wire_20⟩
theorem w_wire_ok (n : Nat) (c c' : Nat × Nat) (J : xv_J) {I I' : xv_I} {x1 x2 : Int32} {v : Int32} (hM : xv_Met mX10_wire 8 16 128 (sx n c) I (rx c) J [.ref 0, .int x1, .int x2] (xv_eq (.inl (some (.int (v)))) (sx n c') I' (rx c') J)) : xv_Met mL_wire 9 16 128 (sx n c) I (rx c) J [.ref 0, .int x1, .int x2, .ref 98] (xv_eq (.inl (some (.int (nI 0)))) (sx n c') I' (rx c') (xv_u J 98 0 v.toInt64)) := by
  refine xv_Met.of (by decide +kernel) (Nat.le_of_ble_eq_true rfl) (List.forall_mem_cons.mpr ⟨rfl, List.forall_mem_cons.mpr ⟨rfl, List.forall_mem_cons.mpr ⟨rfl, List.forall_mem_cons.mpr ⟨rfl, fun _ h => nomatch h⟩⟩⟩⟩) ?_
  show xv_W mL_wire 9 16 128 _ 16 128 (sx n c) I (rx c) J 0 [some (.ref 0), some (.int x1), some (.int x2), some (.ref 98), none] []
  refine xv_al3 fL_wire_0 ?_
  refine xv_k fL_wire_1 ?_
  refine xv_al0 fL_wire_2 ?_
  refine xv_il1 fL_wire_3 ?_
  refine xv_il2 fL_wire_4 ?_
  refine xv_callVH (As := [.int x1, .int x2]) (S := [.int (nI 0), .ref 98]) (kc' := 0) (ks' := 0) hM fL_wire_5 YX10_wire VX10_wire lL_107 rfl rfl (sx_0 _ _) rfl rfl (Nat.le_of_ble_eq_true rfl) (by decide) (by decide) (by decide) ?_ ?_
  · intro r s i rf j h _
    obtain ⟨h1, rfl, rfl, rfl, rfl⟩ := h
    cases h1
    refine xv_i2l fL_wire_8 ?_
    refine xv_lastN fL_wire_9 (sx_98 _ _) (⟨by decide, by decide⟩) ?_
    refine xv_goto fL_wire_10 ?_
    refine xv_k fL_wire_21 ?_
    exact xv_iret fL_wire_22 rfl rfl xv_eq_i
  · intro E s i rf j h
    obtain ⟨h1, -⟩ := h
    cases h1

theorem w_wire_A (n : Nat) (c c' : Nat × Nat) (J : xv_J) {I I' : xv_I} {x1 x2 : Int32} (hM : xv_Met mX10_wire 8 16 128 (sx n c) I (rx c) J [.ref 0, .int x1, .int x2] (xv_eq (.inr "java/lang/IllegalArgumentException") (sx n c') I' (rx c') J)) : xv_Met mL_wire 9 16 128 (sx n c) I (rx c) J [.ref 0, .int x1, .int x2, .ref 98] (xv_eq (.inl (some (.int (nI 1)))) (sx n c') I' (rx c') J) := by
  refine xv_Met.of (by decide +kernel) (Nat.le_of_ble_eq_true rfl) (List.forall_mem_cons.mpr ⟨rfl, List.forall_mem_cons.mpr ⟨rfl, List.forall_mem_cons.mpr ⟨rfl, List.forall_mem_cons.mpr ⟨rfl, fun _ h => nomatch h⟩⟩⟩⟩) ?_
  show xv_W mL_wire 9 16 128 _ 16 128 (sx n c) I (rx c) J 0 [some (.ref 0), some (.int x1), some (.int x2), some (.ref 98), none] []
  refine xv_al3 fL_wire_0 ?_
  refine xv_k fL_wire_1 ?_
  refine xv_al0 fL_wire_2 ?_
  refine xv_il1 fL_wire_3 ?_
  refine xv_il2 fL_wire_4 ?_
  refine xv_callVH (As := [.int x1, .int x2]) (S := [.int (nI 0), .ref 98]) (kc' := 0) (ks' := 0) hM fL_wire_5 YX10_wire VX10_wire lL_107 rfl rfl (sx_0 _ _) rfl rfl (Nat.le_of_ble_eq_true rfl) (by decide) (by decide) (by decide) ?_ ?_
  · intro r s i rf j h _
    obtain ⟨h1, -⟩ := h
    cases h1
  · intro E s i rf j h
    obtain ⟨h1, rfl, rfl, rfl, rfl⟩ := h
    cases h1
    exact ⟨_, hn_wire_A, xv_eq_i⟩

theorem w_wire_S (n : Nat) (c c' : Nat × Nat) (J : xv_J) {I I' : xv_I} {x1 x2 : Int32} (hM : xv_Met mX10_wire 8 16 128 (sx n c) I (rx c) J [.ref 0, .int x1, .int x2] (xv_eq (.inr "java/lang/IllegalStateException") (sx n c') I' (rx c') J)) : xv_Met mL_wire 9 16 128 (sx n c) I (rx c) J [.ref 0, .int x1, .int x2, .ref 98] (xv_eq (.inl (some (.int (nI 2)))) (sx n c') I' (rx c') J) := by
  refine xv_Met.of (by decide +kernel) (Nat.le_of_ble_eq_true rfl) (List.forall_mem_cons.mpr ⟨rfl, List.forall_mem_cons.mpr ⟨rfl, List.forall_mem_cons.mpr ⟨rfl, List.forall_mem_cons.mpr ⟨rfl, fun _ h => nomatch h⟩⟩⟩⟩) ?_
  show xv_W mL_wire 9 16 128 _ 16 128 (sx n c) I (rx c) J 0 [some (.ref 0), some (.int x1), some (.int x2), some (.ref 98), none] []
  refine xv_al3 fL_wire_0 ?_
  refine xv_k fL_wire_1 ?_
  refine xv_al0 fL_wire_2 ?_
  refine xv_il1 fL_wire_3 ?_
  refine xv_il2 fL_wire_4 ?_
  refine xv_callVH (As := [.int x1, .int x2]) (S := [.int (nI 0), .ref 98]) (kc' := 0) (ks' := 0) hM fL_wire_5 YX10_wire VX10_wire lL_107 rfl rfl (sx_0 _ _) rfl rfl (Nat.le_of_ble_eq_true rfl) (by decide) (by decide) (by decide) ?_ ?_
  · intro r s i rf j h _
    obtain ⟨h1, -⟩ := h
    cases h1
  · intro E s i rf j h
    obtain ⟨h1, rfl, rfl, rfl, rfl⟩ := h
    cases h1
    exact ⟨_, hn_wire_S, xv_eq_i⟩

theorem hn_take_S : xv_Hn mL_take 3 "java/lang/IllegalStateException" (nI 1) := ⟨[], [], (⟨0, 8, 11, 17⟩ : ExceptionTableEntry), _, 2, 12, 13, 14, rfl, (fun _ h => nomatch h), by decide, by decide, kL_17, xv_cstS, fL_take_11, by decide, ⟨1, by decide +kernel, by decide +kernel, rfl⟩, fL_take_13⟩
theorem w_take_ok (n : Nat) (c c' : Nat × Nat) (J : xv_J) {I I' : xv_I} {v : Int32} (hM : xv_Met mX10_take 8 16 128 (sx n c) I (rx c) J [.ref 0] (xv_eq (.inl (some (.int (v)))) (sx n c') I' (rx c') J)) : xv_Met mL_take 9 16 128 (sx n c) I (rx c) J [.ref 0, .ref 98] (xv_eq (.inl (some (.int (nI 0)))) (sx n c') I' (rx c') (xv_u J 98 0 v.toInt64)) := by
  refine xv_Met.of (by decide +kernel) (Nat.le_of_ble_eq_true rfl) (List.forall_mem_cons.mpr ⟨rfl, List.forall_mem_cons.mpr ⟨rfl, fun _ h => nomatch h⟩⟩) ?_
  show xv_W mL_take 9 16 128 _ 16 128 (sx n c) I (rx c) J 0 [some (.ref 0), some (.ref 98), none] []
  refine xv_al1 fL_take_0 ?_
  refine xv_k fL_take_1 ?_
  refine xv_al0 fL_take_2 ?_
  refine xv_callVH (As := []) (S := [.int (nI 0), .ref 98]) (kc' := 0) (ks' := 0) hM fL_take_3 YX10_take VX10_take lL_110 rfl rfl (sx_0 _ _) rfl rfl (Nat.le_of_ble_eq_true rfl) (by decide) (by decide) (by decide) ?_ ?_
  · intro r s i rf j h _
    obtain ⟨h1, rfl, rfl, rfl, rfl⟩ := h
    cases h1
    refine xv_i2l fL_take_6 ?_
    refine xv_lastN fL_take_7 (sx_98 _ _) (⟨by decide, by decide⟩) ?_
    refine xv_goto fL_take_8 ?_
    refine xv_k fL_take_14 ?_
    exact xv_iret fL_take_15 rfl rfl xv_eq_i
  · intro E s i rf j h
    obtain ⟨h1, -⟩ := h
    cases h1

theorem w_take_S (n : Nat) (c c' : Nat × Nat) (J : xv_J) {I I' : xv_I} (hM : xv_Met mX10_take 8 16 128 (sx n c) I (rx c) J [.ref 0] (xv_eq (.inr "java/lang/IllegalStateException") (sx n c') I' (rx c') J)) : xv_Met mL_take 9 16 128 (sx n c) I (rx c) J [.ref 0, .ref 98] (xv_eq (.inl (some (.int (nI 1)))) (sx n c') I' (rx c') J) := by
  refine xv_Met.of (by decide +kernel) (Nat.le_of_ble_eq_true rfl) (List.forall_mem_cons.mpr ⟨rfl, List.forall_mem_cons.mpr ⟨rfl, fun _ h => nomatch h⟩⟩) ?_
  show xv_W mL_take 9 16 128 _ 16 128 (sx n c) I (rx c) J 0 [some (.ref 0), some (.ref 98), none] []
  refine xv_al1 fL_take_0 ?_
  refine xv_k fL_take_1 ?_
  refine xv_al0 fL_take_2 ?_
  refine xv_callVH (As := []) (S := [.int (nI 0), .ref 98]) (kc' := 0) (ks' := 0) hM fL_take_3 YX10_take VX10_take lL_110 rfl rfl (sx_0 _ _) rfl rfl (Nat.le_of_ble_eq_true rfl) (by decide) (by decide) (by decide) ?_ ?_
  · intro r s i rf j h _
    obtain ⟨h1, -⟩ := h
    cases h1
  · intro E s i rf j h
    obtain ⟨h1, rfl, rfl, rfl, rfl⟩ := h
    cases h1
    exact ⟨_, hn_take_S, xv_eq_i⟩

theorem hn_numbers_A : xv_Hn mL_numbers 3 "java/lang/IllegalArgumentException" (nI 1) := ⟨[], [], (⟨0, 6, 9, 15⟩ : ExceptionTableEntry), _, 3, 10, 11, 12, rfl, (fun _ h => nomatch h), by decide, by decide, kL_15, xv_cstA, fL_numbers_9, by decide, ⟨1, by decide +kernel, by decide +kernel, rfl⟩, fL_numbers_11⟩
theorem w_numbers_ok (n : Nat) (c c' : Nat × Nat) (J : xv_J) {I I' : xv_I} {x1 x2 : Int32} (hM : xv_Met mX10_numbers 8 16 128 (sx n c) I (rx c) J [.ref 0, .int x1, .int x2] (xv_eq (.inl none) (sx n c') I' (rx c') J)) : xv_Met mL_numbers 9 16 128 (sx n c) I (rx c) J [.ref 0, .int x1, .int x2] (xv_eq (.inl (some (.int (nI 0)))) (sx n c') I' (rx c') J) := by
  refine xv_Met.of (by decide +kernel) (Nat.le_of_ble_eq_true rfl) (List.forall_mem_cons.mpr ⟨rfl, List.forall_mem_cons.mpr ⟨rfl, List.forall_mem_cons.mpr ⟨rfl, fun _ h => nomatch h⟩⟩⟩) ?_
  show xv_W mL_numbers 9 16 128 _ 16 128 (sx n c) I (rx c) J 0 [some (.ref 0), some (.int x1), some (.int x2), none] []
  refine xv_al0 fL_numbers_0 ?_
  refine xv_il1 fL_numbers_1 ?_
  refine xv_il2 fL_numbers_2 ?_
  refine xv_callVH (As := [.int x1, .int x2]) (S := []) (kc' := 0) (ks' := 0) hM fL_numbers_3 YX10_numbers VX10_numbers lL_113 rfl rfl (sx_0 _ _) rfl rfl (Nat.le_of_ble_eq_true rfl) (by decide) (by decide) (by decide) ?_ ?_
  · intro r s i rf j h _
    obtain ⟨h1, rfl, rfl, rfl, rfl⟩ := h
    cases h1
    refine xv_goto fL_numbers_6 ?_
    refine xv_k fL_numbers_12 ?_
    exact xv_iret fL_numbers_13 rfl rfl xv_eq_i
  · intro E s i rf j h
    obtain ⟨h1, -⟩ := h
    cases h1

theorem w_numbers_A (n : Nat) (c c' : Nat × Nat) (J : xv_J) {I I' : xv_I} {x1 x2 : Int32} (hM : xv_Met mX10_numbers 8 16 128 (sx n c) I (rx c) J [.ref 0, .int x1, .int x2] (xv_eq (.inr "java/lang/IllegalArgumentException") (sx n c') I' (rx c') J)) : xv_Met mL_numbers 9 16 128 (sx n c) I (rx c) J [.ref 0, .int x1, .int x2] (xv_eq (.inl (some (.int (nI 1)))) (sx n c') I' (rx c') J) := by
  refine xv_Met.of (by decide +kernel) (Nat.le_of_ble_eq_true rfl) (List.forall_mem_cons.mpr ⟨rfl, List.forall_mem_cons.mpr ⟨rfl, List.forall_mem_cons.mpr ⟨rfl, fun _ h => nomatch h⟩⟩⟩) ?_
  show xv_W mL_numbers 9 16 128 _ 16 128 (sx n c) I (rx c) J 0 [some (.ref 0), some (.int x1), some (.int x2), none] []
  refine xv_al0 fL_numbers_0 ?_
  refine xv_il1 fL_numbers_1 ?_
  refine xv_il2 fL_numbers_2 ?_
  refine xv_callVH (As := [.int x1, .int x2]) (S := []) (kc' := 0) (ks' := 0) hM fL_numbers_3 YX10_numbers VX10_numbers lL_113 rfl rfl (sx_0 _ _) rfl rfl (Nat.le_of_ble_eq_true rfl) (by decide) (by decide) (by decide) ?_ ?_
  · intro r s i rf j h _
    obtain ⟨h1, -⟩ := h
    cases h1
  · intro E s i rf j h
    obtain ⟨h1, rfl, rfl, rfl, rfl⟩ := h
    cases h1
    exact ⟨_, hn_numbers_A, xv_eq_i⟩
