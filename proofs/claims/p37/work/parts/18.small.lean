theorem xv_kw {M : xv_M} {d mc ms kc ks : Nat} {Q : xv_Q} {sh : xv_Sh} {I : xv_I} {Rf : xv_Rf} {J : xv_J} {pc pc' : Nat} {L : List (Option Value)} {S : List Value} {idx : Nat} {v : Int32} (hf : xv_F M pc (.ldc_w idx) 3 pc') (hc : Cond.constant M.1.cls idx v ∈ xv_tbl) (k : xv_W M d mc ms Q kc ks sh I Rf J pc' L (.int v :: S)) : xv_W M d mc ms Q kc ks sh I Rf J pc L S := by
  obtain ⟨h1, rfl⟩ := hf
  intro p l e R s m args below meth c D A sh0 ad0 ca0 ad ca H locs cells slots ls C X hw hR hS hL hO hcc hs
  exact lv_ldcw C.1 C.2.1 C.2.2.2.2.1 (C.2.2.2.2.2.1 _ hc) h1 (k C X hw hR hS hL (xv_ok_i hO _) hcc hs)
theorem bcw_265 : Cond.constant RJ6 265 1431655765 ∈ xv_tbl := (xv_tbl_mem 644 (by decide +kernel) rfl)
theorem bcw_266 : Cond.constant RJ6 266 858993459 ∈ xv_tbl := (xv_tbl_mem 645 (by decide +kernel) rfl)
theorem bcw_267 : Cond.constant RJ6 267 252645135 ∈ xv_tbl := (xv_tbl_mem 646 (by decide +kernel) rfl)
def us (x : Int32) (k : Nat) : Int32 := (x.toUInt32 >>> ((nI k).toUInt32 &&& Int32.toUInt32 31)).toInt32
/-- Integer.bitCount, as it is written -/
def xBC (x : Int32) : Int32 :=
  let a := x - (us x 1 &&& 1431655765)
  let b := (a &&& 858993459) + (us a 2 &&& 858993459)
  let c := (b + us b 4) &&& 252645135
  let d := c + us c 8
  let e := d + us d 16
  e &&& nI 63
theorem c_bc (n : Nat) (c : Nat × Nat) (I : xv_I) (J : xv_J) (x : Int32) : xv_Met mJ6_bitCount_0f7a4 0 0 0 (sx n c) I (rx c) J [.int x] (xv_eq (.inl (some (.int (xBC x)))) (sx n c) (I) (rx c) J) := by
  refine xv_Met.of (by decide +kernel) (Nat.le_of_ble_eq_true rfl) (List.forall_mem_cons.mpr ⟨rfl, fun _ h => nomatch h⟩) ?_
  show xv_W mJ6_bitCount_0f7a4 0 0 0 _ 0 0 (sx n c) I (rx c) J 0 [some (.int x)] []
  refine xv_il0 fJ6_bitCount_0f7a4_0 ?_
  refine xv_il0 fJ6_bitCount_0f7a4_1 ?_
  refine xv_k fJ6_bitCount_0f7a4_2 ?_
  refine xv_iushr fJ6_bitCount_0f7a4_3 ?_
  refine xv_kw fJ6_bitCount_0f7a4_4 bcw_265 ?_
  refine xv_iand fJ6_bitCount_0f7a4_7 ?_
  refine xv_isub fJ6_bitCount_0f7a4_8 ?_
  refine xv_is0 fJ6_bitCount_0f7a4_9 ?_
  refine xv_il0 fJ6_bitCount_0f7a4_10 ?_
  refine xv_kw fJ6_bitCount_0f7a4_11 bcw_266 ?_
  refine xv_iand fJ6_bitCount_0f7a4_14 ?_
  refine xv_il0 fJ6_bitCount_0f7a4_15 ?_
  refine xv_k fJ6_bitCount_0f7a4_16 ?_
  refine xv_iushr fJ6_bitCount_0f7a4_17 ?_
  refine xv_kw fJ6_bitCount_0f7a4_18 bcw_266 ?_
  refine xv_iand fJ6_bitCount_0f7a4_21 ?_
  refine xv_iadd fJ6_bitCount_0f7a4_22 ?_
  refine xv_is0 fJ6_bitCount_0f7a4_23 ?_
  refine xv_il0 fJ6_bitCount_0f7a4_24 ?_
  refine xv_il0 fJ6_bitCount_0f7a4_25 ?_
  refine xv_k fJ6_bitCount_0f7a4_26 ?_
  refine xv_iushr fJ6_bitCount_0f7a4_27 ?_
  refine xv_iadd fJ6_bitCount_0f7a4_28 ?_
  refine xv_kw fJ6_bitCount_0f7a4_29 bcw_267 ?_
  refine xv_iand fJ6_bitCount_0f7a4_32 ?_
  refine xv_is0 fJ6_bitCount_0f7a4_33 ?_
  refine xv_il0 fJ6_bitCount_0f7a4_34 ?_
  refine xv_il0 fJ6_bitCount_0f7a4_35 ?_
  refine xv_k fJ6_bitCount_0f7a4_36 ?_
  refine xv_iushr fJ6_bitCount_0f7a4_38 ?_
  refine xv_iadd fJ6_bitCount_0f7a4_39 ?_
  refine xv_is0 fJ6_bitCount_0f7a4_40 ?_
  refine xv_il0 fJ6_bitCount_0f7a4_41 ?_
  refine xv_il0 fJ6_bitCount_0f7a4_42 ?_
  refine xv_k fJ6_bitCount_0f7a4_43 ?_
  refine xv_iushr fJ6_bitCount_0f7a4_45 ?_
  refine xv_iadd fJ6_bitCount_0f7a4_46 ?_
  refine xv_is0 fJ6_bitCount_0f7a4_47 ?_
  refine xv_il0 fJ6_bitCount_0f7a4_48 ?_
  refine xv_k fJ6_bitCount_0f7a4_49 ?_
  refine xv_iand fJ6_bitCount_0f7a4_51 ?_
  exact xv_iret fJ6_bitCount_0f7a4_52 rfl rfl xv_eq_i

theorem c_isThere (n : Nat) (c : Nat × Nat) (I : xv_I) (J : xv_J) {q : Nat} (hq : q < 6) : xv_Met mX5_isThere 0 0 0 (sx n c) I (rx c) J [.ref 1, .int (nI q)] (xv_eq (.inl (some (.int (bi (¬ I 1 5 &&& nI (2 ^ q) = 0))))) (sx n c) (I) (rx c) J) := by
  refine xv_Met.of (by decide +kernel) (Nat.le_of_ble_eq_true rfl) (List.forall_mem_cons.mpr ⟨rfl, List.forall_mem_cons.mpr ⟨rfl, fun _ h => nomatch h⟩⟩) ?_
  show xv_W mX5_isThere 0 0 0 _ 0 0 (sx n c) I (rx c) J 0 [some (.ref 1), some (.int (nI q))] []
  refine xv_al0 fX5_isThere_0 ?_
  refine xv_getI fX5_isThere_1 gX5_30 rfl (sx_1 _ _) ?_
  refine xv_k fX5_isThere_4 ?_
  refine xv_il1 fX5_isThere_5 ?_
  refine xv_ishl fX5_isThere_6 ?_
  rw [sh1 _ (by omega)]
  refine xv_iand fX5_isThere_7 ?_
  refine xv_if_eq fX5_isThere_8 (fun h_8 => ?_) (fun h_8 => ?_)
  · refine xv_k fX5_isThere_15 ?_
    exact xv_iret fX5_isThere_16 rfl (by decide) (xv_eq_I (by rw [bi_f (fun h => h h_8)]) rfl)
  · refine xv_k fX5_isThere_11 ?_
    refine xv_goto fX5_isThere_12 ?_
    exact xv_iret fX5_isThere_16 rfl (by decide) (xv_eq_I (by rw [bi_t h_8]) rfl)

theorem c_comeBack (n : Nat) (c : Nat × Nat) (I : xv_I) (J : xv_J) {q : Nat} (hq : q < 6) : xv_Met mX5_letComeBack 0 0 0 (sx n c) I (rx c) J [.ref 1, .int (nI q)] (xv_eq (.inl none) (sx n c) (xv_u I 1 5 (I 1 5 ||| nI (2 ^ q))) (rx c) J) := by
  refine xv_Met.of (by decide +kernel) (Nat.le_of_ble_eq_true rfl) (List.forall_mem_cons.mpr ⟨rfl, List.forall_mem_cons.mpr ⟨rfl, fun _ h => nomatch h⟩⟩) ?_
  show xv_W mX5_letComeBack 0 0 0 _ 0 0 (sx n c) I (rx c) J 0 [some (.ref 1), some (.int (nI q))] []
  refine xv_al0 fX5_letComeBack_0 ?_
  refine xv_dup_r fX5_letComeBack_1 ?_
  refine xv_getI fX5_letComeBack_2 gX5_30 rfl (sx_1 _ _) ?_
  refine xv_k fX5_letComeBack_5 ?_
  refine xv_il1 fX5_letComeBack_6 ?_
  refine xv_ishl fX5_letComeBack_7 ?_
  rw [sh1 _ (by omega)]
  refine xv_ior fX5_letComeBack_8 ?_
  refine xv_putI fX5_letComeBack_9 gX5_30 rfl (tp5_5 _) (sx_1 _ _) ⟨rfl, rfl⟩ ?_
  exact xv_vret fX5_letComeBack_12 rfl xv_eq_i

def xLeave1 (y : Int32) (p : Nat) (I : xv_I) : xv_I := xv_u (xv_u I 15 p (I 15 p &&& y)) 16 p (xv_u I 15 p (I 15 p &&& y) 16 p &&& y)
def xLeave (q : Nat) (I : xv_I) : xv_I := it (xLeave1 (nI (2 ^ q) ^^^ (-1))) 10 0 (xv_u I 1 5 (I 1 5 &&& (nI (2 ^ q) ^^^ (-1))))
theorem l_leave (n : Nat) (c : Nat × Nat) (J : xv_J) {y z : Int32} {Q : xv_Q} : ∀ (m k : Nat) (I : xv_I), k + m = 10 → xv_W mX5_letLeave 0 0 0 Q 0 0 (sx n c) (it (xLeave1 y) m k I) (rx c) J 50 [some (.ref 1), some (.int z), some (.int y), some (.int (nI 10))] [] → xv_W mX5_letLeave 0 0 0 Q 0 0 (sx n c) I (rx c) J 18 [some (.ref 1), some (.int z), some (.int y), some (.int (nI k))] [] := by
  intro m
  induction m with
  | zero =>
    intro k I hm  hx
    obtain rfl : k = 10 := by omega
    refine xv_il3 fX5_letLeave_18 ?_
    refine xv_k fX5_letLeave_19 ?_
    refine xv_ic_ge fX5_letLeave_21 (fun h_21 => ?_) (fun h_21 => ?_)
    · exact hx
    · exact absurd (nI_le (Nat.le_refl _) (by decide)) h_21
  | succ m ih =>
    intro k I hm  hx
    have hk : k < 10 := by omega
    show xv_W mX5_letLeave 0 0 0 _ 0 0 (sx n c) I (rx c) J 18 [some (.ref 1), some (.int z), some (.int y), some (.int (nI k))] []
    refine xv_il3 fX5_letLeave_18 ?_
    refine xv_k fX5_letLeave_19 ?_
    refine xv_ic_ge fX5_letLeave_21 (fun h_21 => ?_) (fun h_21 => ?_)
    · exact absurd h_21 (nI_ge hk (by decide))
    · refine xv_al0 fX5_letLeave_24 ?_
      refine xv_getR fX5_letLeave_25 gX5_24 rfl (sx_1 _ _) (rx_1_3 _) ?_
      refine xv_il3 fX5_letLeave_28 ?_
      refine xv_dup2 fX5_letLeave_29 ?_
      refine xv_ialdN fX5_letLeave_30 (sx_15 _ _) (⟨hk, by decide⟩) ?_
      refine xv_il2 fX5_letLeave_31 ?_
      refine xv_iand fX5_letLeave_32 ?_
      refine xv_iastN fX5_letLeave_33 (sx_15 _ _) (⟨hk, by decide⟩) ?_
      refine xv_al0 fX5_letLeave_34 ?_
      refine xv_getR fX5_letLeave_35 gX5_27 rfl (sx_1 _ _) (rx_1_4 _) ?_
      refine xv_il3 fX5_letLeave_38 ?_
      refine xv_dup2 fX5_letLeave_39 ?_
      refine xv_ialdN fX5_letLeave_40 (sx_16 _ _) (⟨hk, by decide⟩) ?_
      refine xv_il2 fX5_letLeave_41 ?_
      refine xv_iand fX5_letLeave_42 ?_
      refine xv_iastN fX5_letLeave_43 (sx_16 _ _) (⟨hk, by decide⟩) ?_
      refine xv_iincN3 (a := 1) fX5_letLeave_44 (by decide) ?_
      refine xv_goto fX5_letLeave_47 ?_
      exact ih (k + 1) (xLeave1 y k I) (by omega) hx

theorem c_leave (n : Nat) (c : Nat × Nat) (I : xv_I) (J : xv_J) {q : Nat} (hq : q < 6) : xv_Met mX5_letLeave 0 0 0 (sx n c) I (rx c) J [.ref 1, .int (nI q)] (xv_eq (.inl none) (sx n c) (xLeave q I) (rx c) J) := by
  refine xv_Met.of (by decide +kernel) (Nat.le_of_ble_eq_true rfl) (List.forall_mem_cons.mpr ⟨rfl, List.forall_mem_cons.mpr ⟨rfl, fun _ h => nomatch h⟩⟩) ?_
  show xv_W mX5_letLeave 0 0 0 _ 0 0 (sx n c) I (rx c) J 0 [some (.ref 1), some (.int (nI q)), none, none] []
  refine xv_k fX5_letLeave_0 ?_
  refine xv_il1 fX5_letLeave_1 ?_
  refine xv_ishl fX5_letLeave_2 ?_
  rw [sh1 _ (by omega)]
  refine xv_k fX5_letLeave_3 ?_
  refine xv_ixor fX5_letLeave_4 ?_
  refine xv_is2 fX5_letLeave_5 ?_
  refine xv_al0 fX5_letLeave_6 ?_
  refine xv_dup_r fX5_letLeave_7 ?_
  refine xv_getI fX5_letLeave_8 gX5_30 rfl (sx_1 _ _) ?_
  refine xv_il2 fX5_letLeave_11 ?_
  refine xv_iand fX5_letLeave_12 ?_
  refine xv_putI fX5_letLeave_13 gX5_30 rfl (tp5_5 _) (sx_1 _ _) ⟨rfl, rfl⟩ ?_
  refine xv_k fX5_letLeave_16 ?_
  refine xv_is3 fX5_letLeave_17 ?_
  exact l_leave n c J 10 0 _ rfl (by exact xv_vret fX5_letLeave_50 rfl (xv_eq_I rfl rfl))

theorem c_hasSigned (n : Nat) (c : Nat × Nat) (I : xv_I) (J : xv_J) {p q : Nat} (hp : p < 10) (hq : q < 6) : xv_Met mX5_hasSigned 1 0 0 (sx n c) I (rx c) J [.ref 1, .int (nI p), .int (nI q)] (xv_eq (.inl (some (.int (bi (¬ I 15 p &&& nI (2 ^ q) = 0))))) (sx n c) (I) (rx c) J) := by
  refine xv_Met.of (by decide +kernel) (Nat.le_of_ble_eq_true rfl) (List.forall_mem_cons.mpr ⟨rfl, List.forall_mem_cons.mpr ⟨rfl, List.forall_mem_cons.mpr ⟨rfl, fun _ h => nomatch h⟩⟩⟩) ?_
  show xv_W mX5_hasSigned 1 0 0 _ 0 0 (sx n c) I (rx c) J 0 [some (.ref 1), some (.int (nI p)), some (.int (nI q))] []
  refine xv_il1 fX5_hasSigned_0 ?_
  refine xv_callS1R (c_isPage_in n c I J hp) fX5_hasSigned_1 YX10_isPage VX10_isPage lX5_34 rfl (Nat.le_of_ble_eq_true rfl) (by decide) (by decide) (by decide) ?_
  refine xv_if_eq fX5_hasSigned_4 (fun h_4 => ?_) (fun h_4 => ?_)
  · exact absurd h_4 (by decide)
  · refine xv_al0 fX5_hasSigned_7 ?_
    refine xv_getR fX5_hasSigned_8 gX5_24 rfl (sx_1 _ _) (rx_1_3 _) ?_
    refine xv_il1 fX5_hasSigned_11 ?_
    refine xv_ialdN fX5_hasSigned_12 (sx_15 _ _) (⟨hp, by decide⟩) ?_
    refine xv_k fX5_hasSigned_13 ?_
    refine xv_il2 fX5_hasSigned_14 ?_
    refine xv_ishl fX5_hasSigned_15 ?_
    rw [sh1 _ (by omega)]
    refine xv_iand fX5_hasSigned_16 ?_
    refine xv_if_eq fX5_hasSigned_17 (fun h_17 => ?_) (fun h_17 => ?_)
    · refine xv_k fX5_hasSigned_24 ?_
      exact xv_iret fX5_hasSigned_25 rfl (by decide) (xv_eq_I (by rw [bi_f (fun h => h h_17)]) rfl)
    · refine xv_k fX5_hasSigned_20 ?_
      refine xv_goto fX5_hasSigned_21 ?_
      exact xv_iret fX5_hasSigned_25 rfl (by decide) (xv_eq_I (by rw [bi_t h_17]) rfl)

theorem c_addSig (n : Nat) (c : Nat × Nat) (I : xv_I) (J : xv_J) {p q : Nat} (hp : p < 10) (hq : q < 6) : xv_Met mX5_addSignature 1 0 0 (sx n c) I (rx c) J [.ref 1, .int (nI p), .int (nI q)] (xv_eq (.inl (some (.int (xBC (I 15 p ||| nI (2 ^ q)))))) (sx n c) (xv_u I 15 p (I 15 p ||| nI (2 ^ q))) (rx c) J) := by
  refine xv_Met.of (by decide +kernel) (Nat.le_of_ble_eq_true rfl) (List.forall_mem_cons.mpr ⟨rfl, List.forall_mem_cons.mpr ⟨rfl, List.forall_mem_cons.mpr ⟨rfl, fun _ h => nomatch h⟩⟩⟩) ?_
  show xv_W mX5_addSignature 1 0 0 _ 0 0 (sx n c) I (rx c) J 0 [some (.ref 1), some (.int (nI p)), some (.int (nI q))] []
  refine xv_il1 fX5_addSignature_0 ?_
  refine xv_callS1R (c_isPage_in n c I J hp) fX5_addSignature_1 YX10_isPage VX10_isPage lX5_34 rfl (Nat.le_of_ble_eq_true rfl) (by decide) (by decide) (by decide) ?_
  refine xv_if_ne fX5_addSignature_4 (fun h_4 => ?_) (fun h_4 => ?_)
  · refine xv_al0 fX5_addSignature_9 ?_
    refine xv_getR fX5_addSignature_10 gX5_24 rfl (sx_1 _ _) (rx_1_3 _) ?_
    refine xv_il1 fX5_addSignature_13 ?_
    refine xv_dup2 fX5_addSignature_14 ?_
    refine xv_ialdN fX5_addSignature_15 (sx_15 _ _) (⟨hp, by decide⟩) ?_
    refine xv_k fX5_addSignature_16 ?_
    refine xv_il2 fX5_addSignature_17 ?_
    refine xv_ishl fX5_addSignature_18 ?_
    rw [sh1 _ (by omega)]
    refine xv_ior fX5_addSignature_19 ?_
    refine xv_iastN fX5_addSignature_20 (sx_15 _ _) (⟨hp, by decide⟩) ?_
    refine xv_al0 fX5_addSignature_21 ?_
    refine xv_getR fX5_addSignature_22 gX5_24 rfl (sx_1 _ _) (rx_1_3 _) ?_
    refine xv_il1 fX5_addSignature_25 ?_
    refine xv_ialdN fX5_addSignature_26 (sx_15 _ _) (⟨hp, by decide⟩) ?_
    rw [xv_u_eq]
    refine xv_callS1R (c_bc n c _ J (_)) fX5_addSignature_27 YJ6_bitCount_0f7a4 VJ6_bitCount_0f7a4 lX5_77 rfl (Nat.le_of_ble_eq_true rfl) (by decide) (by decide) (by decide) ?_
    exact xv_iret fX5_addSignature_30 rfl rfl xv_eq_i
  · exact absurd h_4 (by decide)

theorem c_turnHold (n : Nat) (c : Nat × Nat) (I : xv_I) (J : xv_J) {p q : Nat} (hp : p < 10) (hq : q < 6) : xv_Met mX5_turnHold 1 0 0 (sx n c) I (rx c) J [.ref 1, .int (nI p), .int (nI q)] (xv_eq (.inl (some (.int (bi (¬ (I 16 p ^^^ nI (2 ^ q)) &&& nI (2 ^ q) = 0))))) (sx n c) (xv_u I 16 p (I 16 p ^^^ nI (2 ^ q))) (rx c) J) := by
  refine xv_Met.of (by decide +kernel) (Nat.le_of_ble_eq_true rfl) (List.forall_mem_cons.mpr ⟨rfl, List.forall_mem_cons.mpr ⟨rfl, List.forall_mem_cons.mpr ⟨rfl, fun _ h => nomatch h⟩⟩⟩) ?_
  show xv_W mX5_turnHold 1 0 0 _ 0 0 (sx n c) I (rx c) J 0 [some (.ref 1), some (.int (nI p)), some (.int (nI q))] []
  refine xv_il1 fX5_turnHold_0 ?_
  refine xv_callS1R (c_isPage_in n c I J hp) fX5_turnHold_1 YX10_isPage VX10_isPage lX5_34 rfl (Nat.le_of_ble_eq_true rfl) (by decide) (by decide) (by decide) ?_
  refine xv_if_ne fX5_turnHold_4 (fun h_4 => ?_) (fun h_4 => ?_)
  · refine xv_al0 fX5_turnHold_9 ?_
    refine xv_getR fX5_turnHold_10 gX5_27 rfl (sx_1 _ _) (rx_1_4 _) ?_
    refine xv_il1 fX5_turnHold_13 ?_
    refine xv_dup2 fX5_turnHold_14 ?_
    refine xv_ialdN fX5_turnHold_15 (sx_16 _ _) (⟨hp, by decide⟩) ?_
    refine xv_k fX5_turnHold_16 ?_
    refine xv_il2 fX5_turnHold_17 ?_
    refine xv_ishl fX5_turnHold_18 ?_
    rw [sh1 _ (by omega)]
    refine xv_ixor fX5_turnHold_19 ?_
    refine xv_iastN fX5_turnHold_20 (sx_16 _ _) (⟨hp, by decide⟩) ?_
    refine xv_al0 fX5_turnHold_21 ?_
    refine xv_getR fX5_turnHold_22 gX5_27 rfl (sx_1 _ _) (rx_1_4 _) ?_
    refine xv_il1 fX5_turnHold_25 ?_
    refine xv_ialdN fX5_turnHold_26 (sx_16 _ _) (⟨hp, by decide⟩) ?_
    rw [xv_u_eq]
    refine xv_k fX5_turnHold_27 ?_
    refine xv_il2 fX5_turnHold_28 ?_
    refine xv_ishl fX5_turnHold_29 ?_
    rw [sh1 _ (by omega)]
    refine xv_iand fX5_turnHold_30 ?_
    refine xv_if_eq fX5_turnHold_31 (fun h_31 => ?_) (fun h_31 => ?_)
    · refine xv_k fX5_turnHold_38 ?_
      exact xv_iret fX5_turnHold_39 rfl (by decide) (xv_eq_I (by rw [bi_f (fun h => h h_31)]) rfl)
    · refine xv_k fX5_turnHold_34 ?_
      refine xv_goto fX5_turnHold_35 ?_
      exact xv_iret fX5_turnHold_39 rfl (by decide) (xv_eq_I (by rw [bi_t h_31]) rfl)
  · exact absurd h_4 (by decide)

abbrev xReady (I : xv_I) (p : Nat) : Prop := I 16 p = 0 ∧ ((∀ k, k < 12 → I (3 + p) k = 0) ∨ ¬ xBC (I 15 p) < nI 2)
theorem bi_1 {P : Prop} (h : ¬ bi P = 0) : P := Classical.byContradiction fun q => h (bi_f q)
theorem bi_0 {P : Prop} (h : bi P = 0) : ¬ P := fun q => by rw [bi_t q] at h; exact absurd h (by decide)
theorem c_canGo (n : Nat) (c : Nat × Nat) (I : xv_I) (J : xv_J) {p : Nat} (hp : p < 10) : xv_Met mX5_canGo 3 0 0 (sx n c) I (rx c) J [.ref 1, .int (nI p)] (xv_eq (.inl (some (.int (bi (xReady I p))))) (sx n c) (I) (rx c) J) := by
  refine xv_Met.of (by decide +kernel) (Nat.le_of_ble_eq_true rfl) (List.forall_mem_cons.mpr ⟨rfl, List.forall_mem_cons.mpr ⟨rfl, fun _ h => nomatch h⟩⟩) ?_
  show xv_W mX5_canGo 3 0 0 _ 0 0 (sx n c) I (rx c) J 0 [some (.ref 1), some (.int (nI p))] []
  refine xv_il1 fX5_canGo_0 ?_
  refine xv_callS1R (c_isPage_in n c I J hp) fX5_canGo_1 YX10_isPage VX10_isPage lX5_34 rfl (Nat.le_of_ble_eq_true rfl) (by decide) (by decide) (by decide) ?_
  refine xv_if_eq fX5_canGo_4 (fun h_4 => ?_) (fun h_4 => ?_)
  · exact absurd h_4 (by decide)
  · refine xv_al0 fX5_canGo_7 ?_
    refine xv_getR fX5_canGo_8 gX5_27 rfl (sx_1 _ _) (rx_1_4 _) ?_
    refine xv_il1 fX5_canGo_11 ?_
    refine xv_ialdN fX5_canGo_12 (sx_16 _ _) (⟨hp, by decide⟩) ?_
    refine xv_if_eq fX5_canGo_13 (fun h_13 => ?_) (fun h_13 => ?_)
    · refine xv_al0 fX5_canGo_18 ?_
      refine xv_il1 fX5_canGo_19 ?_
      refine xv_callV1R (c_isBare n c I J hp) fX5_canGo_20 YX5_isBare VX5_isBare lX5_82 rfl rfl (sx_1 _ _) (Nat.le_of_ble_eq_true rfl) (by decide) (by decide) (by decide) ?_
      refine xv_if_ne fX5_canGo_23 (fun h_23 => ?_) (fun h_23 => ?_)
      · refine xv_k fX5_canGo_39 ?_
        refine xv_goto fX5_canGo_40 ?_
        exact xv_iret fX5_canGo_44 rfl (by decide) (xv_eq_I (by rw [bi_t ⟨h_13, Or.inl (bi_1 h_23)⟩]) rfl)
      · refine xv_al0 fX5_canGo_26 ?_
        refine xv_getR fX5_canGo_27 gX5_24 rfl (sx_1 _ _) (rx_1_3 _) ?_
        refine xv_il1 fX5_canGo_30 ?_
        refine xv_ialdN fX5_canGo_31 (sx_15 _ _) (⟨hp, by decide⟩) ?_
        refine xv_callS1R (c_bc n c _ J (_)) fX5_canGo_32 YJ6_bitCount_0f7a4 VJ6_bitCount_0f7a4 lX5_77 rfl (Nat.le_of_ble_eq_true rfl) (by decide) (by decide) (by decide) ?_
        refine xv_k fX5_canGo_35 ?_
        refine xv_ic_lt fX5_canGo_36 (fun h_36 => ?_) (fun h_36 => ?_)
        · refine xv_k fX5_canGo_43 ?_
          exact xv_iret fX5_canGo_44 rfl (by decide) (xv_eq_I (by rw [bi_f (fun h => h.2.elim (bi_0 h_23) (fun q => q h_36))]) rfl)
        · refine xv_k fX5_canGo_39 ?_
          refine xv_goto fX5_canGo_40 ?_
          exact xv_iret fX5_canGo_44 rfl (by decide) (xv_eq_I (by rw [bi_t ⟨h_13, Or.inr h_36⟩]) rfl)
    · refine xv_k fX5_canGo_16 ?_
      exact xv_iret fX5_canGo_17 rfl rfl (xv_eq_I (by rw [bi_f (fun h => h_13 h.1)]) rfl)

theorem l_canAllGo (n : Nat) (c : Nat × Nat) (I : xv_I) (J : xv_J)  : ∀ (m k : Nat) , k + m = 10 → (∀ j, j < k → xReady I j) → xv_W mX5_canAllGo 4 0 0 (xv_eq (.inl (some (.int (bi (∀ p, p < 10 → xReady I p))))) (sx n c) (I) (rx c) J) 0 0 (sx n c) I (rx c) J 2 [some (.ref 1), some (.int (nI k))] [] := by
  intro m
  induction m with
  | zero =>
    intro k  hm i0
    obtain rfl : k = 10 := by omega
    refine xv_il1 fX5_canAllGo_2 ?_
    refine xv_k fX5_canAllGo_3 ?_
    refine xv_ic_ge fX5_canAllGo_5 (fun h_5 => ?_) (fun h_5 => ?_)
    · refine xv_k fX5_canAllGo_24 ?_
      exact xv_iret fX5_canAllGo_25 rfl rfl (xv_eq_I (by rw [bi_t i0]) rfl)
    · exact absurd (nI_le (Nat.le_refl _) (by decide)) h_5
  | succ m ih =>
    intro k  hm i0
    have hk : k < 10 := by omega
    show xv_W mX5_canAllGo 4 0 0 _ 0 0 (sx n c) I (rx c) J 2 [some (.ref 1), some (.int (nI k))] []
    refine xv_il1 fX5_canAllGo_2 ?_
    refine xv_k fX5_canAllGo_3 ?_
    refine xv_ic_ge fX5_canAllGo_5 (fun h_5 => ?_) (fun h_5 => ?_)
    · exact absurd h_5 (nI_ge hk (by decide))
    · refine xv_al0 fX5_canAllGo_8 ?_
      refine xv_il1 fX5_canAllGo_9 ?_
      refine xv_callV1R (c_canGo n c I J hk) fX5_canAllGo_10 YX5_canGo VX5_canGo lX5_85 rfl rfl (sx_1 _ _) (Nat.le_of_ble_eq_true rfl) (by decide) (by decide) (by decide) ?_
      refine xv_if_ne fX5_canAllGo_13 (fun h_13 => ?_) (fun h_13 => ?_)
      · refine xv_iincN1 (a := 1) fX5_canAllGo_18 (by decide) ?_
        refine xv_goto fX5_canAllGo_21 ?_
        exact ih (k + 1) (by omega) (lt_or i0 (bi_1 h_13))
      · refine xv_k fX5_canAllGo_16 ?_
        exact xv_iret fX5_canAllGo_17 rfl rfl (xv_eq_I (by rw [bi_f (fun h => bi_0 h_13 (h k hk))]) rfl)

theorem c_canAllGo (n : Nat) (c : Nat × Nat) (I : xv_I) (J : xv_J)  : xv_Met mX5_canAllGo 4 0 0 (sx n c) I (rx c) J [.ref 1] (xv_eq (.inl (some (.int (bi (∀ p, p < 10 → xReady I p))))) (sx n c) (I) (rx c) J) := by
  refine xv_Met.of (by decide +kernel) (Nat.le_of_ble_eq_true rfl) (List.forall_mem_cons.mpr ⟨rfl, fun _ h => nomatch h⟩) ?_
  show xv_W mX5_canAllGo 4 0 0 _ 0 0 (sx n c) I (rx c) J 0 [some (.ref 1), none] []
  refine xv_k fX5_canAllGo_0 ?_
  refine xv_is1 fX5_canAllGo_1 ?_
  exact l_canAllGo n c I J 10 0 rfl lt_no

theorem c_needPage_in (n : Nat) (c : Nat × Nat) (I : xv_I) (J : xv_J) {p : Nat} (hp : p < 10) : xv_Met mX10_needPage 6 1 6 (sx n c) I (rx c) J [.int (nI p)] (xv_eq (.inl none) (sx n c) (I) (rx c) J) := by
  refine xv_Met.of (by decide +kernel) (Nat.le_of_ble_eq_true rfl) (List.forall_mem_cons.mpr ⟨rfl, fun _ h => nomatch h⟩) ?_
  show xv_W mX10_needPage 6 1 6 _ 1 6 (sx n c) I (rx c) J 0 [some (.int (nI p))] []
  refine xv_il0 fX10_needPage_0 ?_
  refine xv_callS1R (c_isPage_in n c I J hp) fX10_needPage_1 YX10_isPage VX10_isPage lX10_392 rfl (Nat.le_of_ble_eq_true rfl) (by decide) (by decide) (by decide) ?_
  refine xv_if_ne fX10_needPage_4 (fun h_4 => ?_) (fun h_4 => ?_)
  · exact xv_vret fX10_needPage_18 rfl xv_eq_i
  · exact absurd h_4 (by decide)

theorem c_needPage_out (n : Nat) (c : Nat × Nat) (I : xv_I) (J : xv_J) {x : Int32} (hx : ¬ (¬ x < 0 ∧ ¬ nI 10 ≤ x)) : xv_Met mX10_needPage 6 1 6 (sx n c) I (rx c) J [.int x] (xv_eq (.inr "java/lang/IndexOutOfBoundsException") (sx n c) (I) (rx c) J) := by
  refine xv_Met.of (by decide +kernel) (Nat.le_of_ble_eq_true rfl) (List.forall_mem_cons.mpr ⟨rfl, fun _ h => nomatch h⟩) ?_
  show xv_W mX10_needPage 6 1 6 _ 1 6 (sx n c) I (rx c) J 0 [some (.int x)] []
  refine xv_il0 fX10_needPage_0 ?_
  refine xv_callS1R (c_isPage n c I J x) fX10_needPage_1 YX10_isPage VX10_isPage lX10_392 rfl (Nat.le_of_ble_eq_true rfl) (by decide) (by decide) (by decide) ?_
  rw [if_neg hx]
  refine xv_if_ne fX10_needPage_4 (fun h_4 => ?_) (fun h_4 => ?_)
  · exact absurd (by decide) h_4
  · exact xv_throw fX10_needPage_7 hX10_395 rfl (by decide) (by decide) (by decide) (by decide) xv_eq_i

theorem c_needCell_in (n : Nat) (c : Nat × Nat) (I : xv_I) (J : xv_J) {p : Nat} (hp : p < 12) : xv_Met mX10_needCell 6 1 6 (sx n c) I (rx c) J [.int (nI p)] (xv_eq (.inl none) (sx n c) (I) (rx c) J) := by
  refine xv_Met.of (by decide +kernel) (Nat.le_of_ble_eq_true rfl) (List.forall_mem_cons.mpr ⟨rfl, fun _ h => nomatch h⟩) ?_
  show xv_W mX10_needCell 6 1 6 _ 1 6 (sx n c) I (rx c) J 0 [some (.int (nI p))] []
  refine xv_il0 fX10_needCell_0 ?_
  refine xv_callS1R (c_isCell_in n c I J hp) fX10_needCell_1 YX10_isCell VX10_isCell lX10_397 rfl (Nat.le_of_ble_eq_true rfl) (by decide) (by decide) (by decide) ?_
  refine xv_if_ne fX10_needCell_4 (fun h_4 => ?_) (fun h_4 => ?_)
  · exact xv_vret fX10_needCell_18 rfl xv_eq_i
  · exact absurd h_4 (by decide)

theorem c_needCell_out (n : Nat) (c : Nat × Nat) (I : xv_I) (J : xv_J) {x : Int32} (hx : ¬ (¬ x < 0 ∧ ¬ nI 12 ≤ x)) : xv_Met mX10_needCell 6 1 6 (sx n c) I (rx c) J [.int x] (xv_eq (.inr "java/lang/IndexOutOfBoundsException") (sx n c) (I) (rx c) J) := by
  refine xv_Met.of (by decide +kernel) (Nat.le_of_ble_eq_true rfl) (List.forall_mem_cons.mpr ⟨rfl, fun _ h => nomatch h⟩) ?_
  show xv_W mX10_needCell 6 1 6 _ 1 6 (sx n c) I (rx c) J 0 [some (.int x)] []
  refine xv_il0 fX10_needCell_0 ?_
  refine xv_callS1R (c_isCell n c I J x) fX10_needCell_1 YX10_isCell VX10_isCell lX10_397 rfl (Nat.le_of_ble_eq_true rfl) (by decide) (by decide) (by decide) ?_
  rw [if_neg hx]
  refine xv_if_ne fX10_needCell_4 (fun h_4 => ?_) (fun h_4 => ?_)
  · exact absurd (by decide) h_4
  · exact xv_throw fX10_needCell_7 hX10_400 rfl (by decide) (by decide) (by decide) (by decide) xv_eq_i

theorem c_needPerson_in (n : Nat) (c : Nat × Nat) (I : xv_I) (J : xv_J) {q : Nat} (hq : q < 6) : xv_Met mX10_needPerson 6 1 6 (sx n c) I (rx c) J [.int (nI q)] (xv_eq (.inl none) (sx n c) (I) (rx c) J) := by
  refine xv_Met.of (by decide +kernel) (Nat.le_of_ble_eq_true rfl) (List.forall_mem_cons.mpr ⟨rfl, fun _ h => nomatch h⟩) ?_
  show xv_W mX10_needPerson 6 1 6 _ 1 6 (sx n c) I (rx c) J 0 [some (.int (nI q))] []
  refine xv_il0 fX10_needPerson_0 ?_
  refine xv_if_lt fX10_needPerson_1 (fun h_1 => ?_) (fun h_1 => ?_)
  · exact absurd h_1 (nI_pos (by omega))
  · refine xv_il0 fX10_needPerson_4 ?_
    refine xv_k fX10_needPerson_5 ?_
    refine xv_ic_lt fX10_needPerson_7 (fun h_7 => ?_) (fun h_7 => ?_)
    · exact xv_vret fX10_needPerson_21 rfl xv_eq_i
    · exact absurd (nI_lt hq (by decide)) h_7

theorem c_needPerson_out (n : Nat) (c : Nat × Nat) (I : xv_I) (J : xv_J) {x : Int32} (hx : x < 0 ∨ ¬ x < nI 6) : xv_Met mX10_needPerson 6 1 6 (sx n c) I (rx c) J [.int x] (xv_eq (.inr "java/lang/IndexOutOfBoundsException") (sx n c) (I) (rx c) J) := by
  refine xv_Met.of (by decide +kernel) (Nat.le_of_ble_eq_true rfl) (List.forall_mem_cons.mpr ⟨rfl, fun _ h => nomatch h⟩) ?_
  show xv_W mX10_needPerson 6 1 6 _ 1 6 (sx n c) I (rx c) J 0 [some (.int x)] []
  refine xv_il0 fX10_needPerson_0 ?_
  refine xv_if_lt fX10_needPerson_1 (fun h_1 => ?_) (fun h_1 => ?_)
  · exact xv_throw fX10_needPerson_10 hX10_402 rfl (by decide) (by decide) (by decide) (by decide) xv_eq_i
  · refine xv_il0 fX10_needPerson_4 ?_
    refine xv_k fX10_needPerson_5 ?_
    refine xv_ic_lt fX10_needPerson_7 (fun h_7 => ?_) (fun h_7 => ?_)
    · exact absurd h_7 (hx.resolve_left h_1)
    · exact xv_throw fX10_needPerson_10 hX10_402 rfl (by decide) (by decide) (by decide) (by decide) xv_eq_i

theorem c_needRange_in (n : Nat) (c : Nat × Nat) (I : xv_I) (J : xv_J) {x lo hi : Int32} (h1 : ¬ x < lo) (h2 : x ≤ hi) : xv_Met mX10_needRange 6 1 6 (sx n c) I (rx c) J [.int x, .int lo, .int hi] (xv_eq (.inl none) (sx n c) (I) (rx c) J) := by
  refine xv_Met.of (by decide +kernel) (Nat.le_of_ble_eq_true rfl) (List.forall_mem_cons.mpr ⟨rfl, List.forall_mem_cons.mpr ⟨rfl, List.forall_mem_cons.mpr ⟨rfl, fun _ h => nomatch h⟩⟩⟩) ?_
  show xv_W mX10_needRange 6 1 6 _ 1 6 (sx n c) I (rx c) J 0 [some (.int x), some (.int lo), some (.int hi)] []
  refine xv_il0 fX10_needRange_0 ?_
  refine xv_il1 fX10_needRange_1 ?_
  refine xv_ic_lt fX10_needRange_2 (fun h_2 => ?_) (fun h_2 => ?_)
  · exact absurd h_2 h1
  · refine xv_il0 fX10_needRange_5 ?_
    refine xv_il2 fX10_needRange_6 ?_
    refine xv_ic_le fX10_needRange_7 (fun h_7 => ?_) (fun h_7 => ?_)
    · exact xv_vret fX10_needRange_21 rfl xv_eq_i
    · exact absurd h2 h_7

theorem c_needRange_out (n : Nat) (c : Nat × Nat) (I : xv_I) (J : xv_J) {x lo hi : Int32} (hx : x < lo ∨ ¬ x ≤ hi) : xv_Met mX10_needRange 6 1 6 (sx n c) I (rx c) J [.int x, .int lo, .int hi] (xv_eq (.inr "java/lang/IllegalArgumentException") (sx n c) (I) (rx c) J) := by
  refine xv_Met.of (by decide +kernel) (Nat.le_of_ble_eq_true rfl) (List.forall_mem_cons.mpr ⟨rfl, List.forall_mem_cons.mpr ⟨rfl, List.forall_mem_cons.mpr ⟨rfl, fun _ h => nomatch h⟩⟩⟩) ?_
  show xv_W mX10_needRange 6 1 6 _ 1 6 (sx n c) I (rx c) J 0 [some (.int x), some (.int lo), some (.int hi)] []
  refine xv_il0 fX10_needRange_0 ?_
  refine xv_il1 fX10_needRange_1 ?_
  refine xv_ic_lt fX10_needRange_2 (fun h_2 => ?_) (fun h_2 => ?_)
  · exact xv_throw fX10_needRange_10 hX10_404 rfl (by decide) (by decide) (by decide) (by decide) xv_eq_i
  · refine xv_il0 fX10_needRange_5 ?_
    refine xv_il2 fX10_needRange_6 ?_
    refine xv_ic_le fX10_needRange_7 (fun h_7 => ?_) (fun h_7 => ?_)
    · exact absurd h_7 (hx.resolve_left h_2)
    · exact xv_throw fX10_needRange_10 hX10_404 rfl (by decide) (by decide) (by decide) (by decide) xv_eq_i

theorem c_needEd_in (n : Nat) (c : Nat × Nat) (I : xv_I) (J : xv_J) {x : Int32} (h1 : ¬ x < 0) (h2 : x < I 29 2) : xv_Met mX10_needEdition 6 1 6 (sx n c) I (rx c) J [.ref 0, .int x] (xv_eq (.inl none) (sx n c) (I) (rx c) J) := by
  refine xv_Met.of (by decide +kernel) (Nat.le_of_ble_eq_true rfl) (List.forall_mem_cons.mpr ⟨rfl, List.forall_mem_cons.mpr ⟨rfl, fun _ h => nomatch h⟩⟩) ?_
  show xv_W mX10_needEdition 6 1 6 _ 1 6 (sx n c) I (rx c) J 0 [some (.ref 0), some (.int x)] []
  refine xv_il1 fX10_needEdition_0 ?_
  refine xv_if_lt fX10_needEdition_1 (fun h_1 => ?_) (fun h_1 => ?_)
  · exact absurd h_1 h1
  · refine xv_il1 fX10_needEdition_4 ?_
    refine xv_al0 fX10_needEdition_5 ?_
    refine xv_getR fX10_needEdition_6 gX10_44 rfl (sx_0 _ _) (rx_0_7 _) ?_
    refine xv_getI fX10_needEdition_9 gX10_282 rfl (sx_29 _ _) ?_
    refine xv_ic_lt fX10_needEdition_12 (fun h_12 => ?_) (fun h_12 => ?_)
    · exact xv_vret fX10_needEdition_26 rfl xv_eq_i
    · exact absurd h2 h_12

theorem c_needEd_out (n : Nat) (c : Nat × Nat) (I : xv_I) (J : xv_J) {x : Int32} (hx : x < 0 ∨ ¬ x < I 29 2) : xv_Met mX10_needEdition 6 1 6 (sx n c) I (rx c) J [.ref 0, .int x] (xv_eq (.inr "java/lang/IndexOutOfBoundsException") (sx n c) (I) (rx c) J) := by
  refine xv_Met.of (by decide +kernel) (Nat.le_of_ble_eq_true rfl) (List.forall_mem_cons.mpr ⟨rfl, List.forall_mem_cons.mpr ⟨rfl, fun _ h => nomatch h⟩⟩) ?_
  show xv_W mX10_needEdition 6 1 6 _ 1 6 (sx n c) I (rx c) J 0 [some (.ref 0), some (.int x)] []
  refine xv_il1 fX10_needEdition_0 ?_
  refine xv_if_lt fX10_needEdition_1 (fun h_1 => ?_) (fun h_1 => ?_)
  · exact xv_throw fX10_needEdition_15 hX10_406 rfl (by decide) (by decide) (by decide) (by decide) xv_eq_i
  · refine xv_il1 fX10_needEdition_4 ?_
    refine xv_al0 fX10_needEdition_5 ?_
    refine xv_getR fX10_needEdition_6 gX10_44 rfl (sx_0 _ _) (rx_0_7 _) ?_
    refine xv_getI fX10_needEdition_9 gX10_282 rfl (sx_29 _ _) ?_
    refine xv_ic_lt fX10_needEdition_12 (fun h_12 => ?_) (fun h_12 => ?_)
    · exact absurd h_12 (hx.resolve_left h_1)
    · exact xv_throw fX10_needEdition_15 hX10_406 rfl (by decide) (by decide) (by decide) (by decide) xv_eq_i

theorem c_needAd_in (n : Nat) (c : Nat × Nat) (I : xv_I) (J : xv_J) {a : Nat} (ha : a < c.1) (ha2 : a < 20) : xv_Met mX10_needAdvert 6 1 6 (sx n c) I (rx c) J [.ref 0, .int (nI a)] (xv_eq (.inl (some (.ref (100 + a)))) (sx n c) (I) (rx c) J) := by
  refine xv_Met.of (by decide +kernel) (Nat.le_of_ble_eq_true rfl) (List.forall_mem_cons.mpr ⟨rfl, List.forall_mem_cons.mpr ⟨rfl, fun _ h => nomatch h⟩⟩) ?_
  show xv_W mX10_needAdvert 6 1 6 _ 1 6 (sx n c) I (rx c) J 0 [some (.ref 0), some (.int (nI a)), none] []
  refine xv_il1 fX10_needAdvert_0 ?_
  refine xv_if_lt fX10_needAdvert_1 (fun h_1 => ?_) (fun h_1 => ?_)
  · exact absurd h_1 (nI_pos (by omega))
  · refine xv_il1 fX10_needAdvert_4 ?_
    refine xv_al0 fX10_needAdvert_5 ?_
    refine xv_getR fX10_needAdvert_6 gX10_22 rfl (sx_0 _ _) (rx_0_2 _) ?_
    refine xv_alen fX10_needAdvert_9 (sx_18 _ _) (x := nI 20) rfl ?_
    refine xv_ic_ge fX10_needAdvert_10 (fun h_10 => ?_) (fun h_10 => ?_)
    · exact absurd h_10 (nI_ge ha2 (by decide))
    · refine xv_al0 fX10_needAdvert_13 ?_
      refine xv_getR fX10_needAdvert_14 gX10_22 rfl (sx_0 _ _) (rx_0_2 _) ?_
      refine xv_il1 fX10_needAdvert_17 ?_
      refine xv_aaldK fX10_needAdvert_18 (sx_18 _ _) (Or.inl ⟨_, rfl⟩) (⟨ha2, by decide⟩) (rx_ad _ ha ha2) ?_
      refine xv_goto fX10_needAdvert_19 ?_
      refine xv_as2 fX10_needAdvert_23 ?_
      refine xv_al2 fX10_needAdvert_24 ?_
      refine xv_ifnon_r fX10_needAdvert_25 ?_
      refine xv_al2 fX10_needAdvert_39 ?_
      exact xv_aret fX10_needAdvert_40 rfl (Or.inl ⟨_, rfl⟩) xv_eq_i

theorem nI_or (x : Int32) : x < 0 ∨ ∃ k, k < 2 ^ 31 ∧ x = nI k := by
  by_cases h : x < 0
  · exact Or.inl h
  · exact Or.inr (nI_of h)

theorem c_needAd_out (n : Nat) (c : Nat × Nat) (I : xv_I) (J : xv_J) {x : Int32} (hx : ∀ k, x = nI k → k < 20 → c.1 ≤ k) : xv_Met mX10_needAdvert 6 1 6 (sx n c) I (rx c) J [.ref 0, .int x] (xv_eq (.inr "java/lang/IndexOutOfBoundsException") (sx n c) (I) (rx c) J) := by
  refine xv_Met.of (by decide +kernel) (Nat.le_of_ble_eq_true rfl) (List.forall_mem_cons.mpr ⟨rfl, List.forall_mem_cons.mpr ⟨rfl, fun _ h => nomatch h⟩⟩) ?_
  show xv_W mX10_needAdvert 6 1 6 _ 1 6 (sx n c) I (rx c) J 0 [some (.ref 0), some (.int x), none] []
  refine xv_il1 fX10_needAdvert_0 ?_
  refine xv_if_lt fX10_needAdvert_1 (fun h_1 => ?_) (fun h_1 => ?_)
  · refine xv_null fX10_needAdvert_22 ?_
    refine xv_asN2 fX10_needAdvert_23 ?_
    refine xv_an2 fX10_needAdvert_24 ?_
    refine xv_ifnon_n fX10_needAdvert_25 ?_
    exact xv_throw fX10_needAdvert_28 hX10_408 rfl (by decide) (by decide) (by decide) (by decide) xv_eq_i
  · refine xv_il1 fX10_needAdvert_4 ?_
    refine xv_al0 fX10_needAdvert_5 ?_
    refine xv_getR fX10_needAdvert_6 gX10_22 rfl (sx_0 _ _) (rx_0_2 _) ?_
    refine xv_alen fX10_needAdvert_9 (sx_18 _ _) (x := nI 20) rfl ?_
    refine xv_ic_ge fX10_needAdvert_10 (fun h_10 => ?_) (fun h_10 => ?_)
    · refine xv_null fX10_needAdvert_22 ?_
      refine xv_asN2 fX10_needAdvert_23 ?_
      refine xv_an2 fX10_needAdvert_24 ?_
      refine xv_ifnon_n fX10_needAdvert_25 ?_
      exact xv_throw fX10_needAdvert_28 hX10_408 rfl (by decide) (by decide) (by decide) (by decide) xv_eq_i
    · obtain ⟨a, ha31, rfl⟩ := (nI_or x).resolve_left h_1
      obtain ha20 : a < 20 := by
        rcases Nat.lt_or_ge a 20 with q9 | q9
        · exact q9
        · exact absurd (nI_le q9 ha31) h_10
      refine xv_al0 fX10_needAdvert_13 ?_
      refine xv_getR fX10_needAdvert_14 gX10_22 rfl (sx_0 _ _) (rx_0_2 _) ?_
      refine xv_il1 fX10_needAdvert_17 ?_
      refine xv_aaldKN fX10_needAdvert_18 (sx_18 _ _) (Or.inl ⟨_, rfl⟩) (⟨ha20, by decide⟩) (rx_adn _ (hx a rfl ha20)) ?_
      refine xv_goto fX10_needAdvert_19 ?_
      refine xv_asN2 fX10_needAdvert_23 ?_
      refine xv_an2 fX10_needAdvert_24 ?_
      refine xv_ifnon_n fX10_needAdvert_25 ?_
      exact xv_throw fX10_needAdvert_28 hX10_408 rfl (by decide) (by decide) (by decide) (by decide) xv_eq_i

theorem c_stAt_in (n : Nat) (c : Nat × Nat) (I : xv_I) (J : xv_J) {a : Nat} (hs : a < c.2) (hs2 : a < 20) : xv_Met mX10_storyAt 5 0 0 (sx n c) I (rx c) J [.ref 0, .int (nI a)] (xv_eq (.inl (some (.ref (200 + 5 * a)))) (sx n c) (I) (rx c) J) := by
  refine xv_Met.of (by decide +kernel) (Nat.le_of_ble_eq_true rfl) (List.forall_mem_cons.mpr ⟨rfl, List.forall_mem_cons.mpr ⟨rfl, fun _ h => nomatch h⟩⟩) ?_
  show xv_W mX10_storyAt 5 0 0 _ 0 0 (sx n c) I (rx c) J 0 [some (.ref 0), some (.int (nI a))] []
  refine xv_il1 fX10_storyAt_0 ?_
  refine xv_if_lt fX10_storyAt_1 (fun h_1 => ?_) (fun h_1 => ?_)
  · exact absurd h_1 (nI_pos (by omega))
  · refine xv_il1 fX10_storyAt_4 ?_
    refine xv_al0 fX10_storyAt_5 ?_
    refine xv_getR fX10_storyAt_6 gX10_28 rfl (sx_0 _ _) (rx_0_4 _) ?_
    refine xv_alen fX10_storyAt_9 (sx_19 _ _) (x := nI 20) rfl ?_
    refine xv_ic_ge fX10_storyAt_10 (fun h_10 => ?_) (fun h_10 => ?_)
    · exact absurd h_10 (nI_ge hs2 (by decide))
    · refine xv_al0 fX10_storyAt_13 ?_
      refine xv_getR fX10_storyAt_14 gX10_28 rfl (sx_0 _ _) (rx_0_4 _) ?_
      refine xv_il1 fX10_storyAt_17 ?_
      refine xv_aaldK fX10_storyAt_18 (sx_19 _ _) (Or.inl ⟨_, rfl⟩) (⟨hs2, by decide⟩) (rx_st _ hs hs2) ?_
      refine xv_goto fX10_storyAt_19 ?_
      exact xv_aret fX10_storyAt_23 rfl (Or.inl ⟨_, rfl⟩) xv_eq_i

theorem c_stAt_out (n : Nat) (c : Nat × Nat) (I : xv_I) (J : xv_J) {x : Int32} (hx : ∀ k, x = nI k → k < 20 → c.2 ≤ k) : xv_Met mX10_storyAt 5 0 0 (sx n c) I (rx c) J [.ref 0, .int x] (xv_eq (.inl (some .null)) (sx n c) (I) (rx c) J) := by
  refine xv_Met.of (by decide +kernel) (Nat.le_of_ble_eq_true rfl) (List.forall_mem_cons.mpr ⟨rfl, List.forall_mem_cons.mpr ⟨rfl, fun _ h => nomatch h⟩⟩) ?_
  show xv_W mX10_storyAt 5 0 0 _ 0 0 (sx n c) I (rx c) J 0 [some (.ref 0), some (.int x)] []
  refine xv_il1 fX10_storyAt_0 ?_
  refine xv_if_lt fX10_storyAt_1 (fun h_1 => ?_) (fun h_1 => ?_)
  · refine xv_null fX10_storyAt_22 ?_
    exact xv_nret fX10_storyAt_23 rfl (Or.inl ⟨_, rfl⟩) xv_eq_i
  · refine xv_il1 fX10_storyAt_4 ?_
    refine xv_al0 fX10_storyAt_5 ?_
    refine xv_getR fX10_storyAt_6 gX10_28 rfl (sx_0 _ _) (rx_0_4 _) ?_
    refine xv_alen fX10_storyAt_9 (sx_19 _ _) (x := nI 20) rfl ?_
    refine xv_ic_ge fX10_storyAt_10 (fun h_10 => ?_) (fun h_10 => ?_)
    · refine xv_null fX10_storyAt_22 ?_
      exact xv_nret fX10_storyAt_23 rfl (Or.inl ⟨_, rfl⟩) xv_eq_i
    · obtain ⟨a, ha31, rfl⟩ := (nI_or x).resolve_left h_1
      obtain ha20 : a < 20 := by
        rcases Nat.lt_or_ge a 20 with q9 | q9
        · exact q9
        · exact absurd (nI_le q9 ha31) h_10
      refine xv_al0 fX10_storyAt_13 ?_
      refine xv_getR fX10_storyAt_14 gX10_28 rfl (sx_0 _ _) (rx_0_4 _) ?_
      refine xv_il1 fX10_storyAt_17 ?_
      refine xv_aaldKN fX10_storyAt_18 (sx_19 _ _) (Or.inl ⟨_, rfl⟩) (⟨ha20, by decide⟩) (rx_stn _ (hx a rfl ha20)) ?_
      refine xv_goto fX10_storyAt_19 ?_
      exact xv_nret fX10_storyAt_23 rfl (Or.inl ⟨_, rfl⟩) xv_eq_i

theorem c_needSt_in (n : Nat) (c : Nat × Nat) (I : xv_I) (J : xv_J) {a : Nat} (hs : a < c.2) (hs2 : a < 20) : xv_Met mX10_needStory 6 1 6 (sx n c) I (rx c) J [.ref 0, .int (nI a)] (xv_eq (.inl (some (.ref (200 + 5 * a)))) (sx n c) (I) (rx c) J) := by
  refine xv_Met.of (by decide +kernel) (Nat.le_of_ble_eq_true rfl) (List.forall_mem_cons.mpr ⟨rfl, List.forall_mem_cons.mpr ⟨rfl, fun _ h => nomatch h⟩⟩) ?_
  show xv_W mX10_needStory 6 1 6 _ 1 6 (sx n c) I (rx c) J 0 [some (.ref 0), some (.int (nI a)), none] []
  refine xv_al0 fX10_needStory_0 ?_
  refine xv_il1 fX10_needStory_1 ?_
  refine xv_callV1R (c_stAt_in n c I J hs hs2) fX10_needStory_2 YX10_storyAt VX10_storyAt lX10_315 rfl rfl (sx_0 _ _) (Nat.le_of_ble_eq_true rfl) (by decide) (by decide) (by decide) ?_
  refine xv_as2 fX10_needStory_5 ?_
  refine xv_al2 fX10_needStory_6 ?_
  refine xv_ifnon_r fX10_needStory_7 ?_
  refine xv_al2 fX10_needStory_21 ?_
  exact xv_aret fX10_needStory_22 rfl (Or.inl ⟨_, rfl⟩) xv_eq_i

theorem c_needSt_out (n : Nat) (c : Nat × Nat) (I : xv_I) (J : xv_J) {x : Int32} (hx : ∀ k, x = nI k → k < 20 → c.2 ≤ k) : xv_Met mX10_needStory 6 1 6 (sx n c) I (rx c) J [.ref 0, .int x] (xv_eq (.inr "java/lang/IndexOutOfBoundsException") (sx n c) (I) (rx c) J) := by
  refine xv_Met.of (by decide +kernel) (Nat.le_of_ble_eq_true rfl) (List.forall_mem_cons.mpr ⟨rfl, List.forall_mem_cons.mpr ⟨rfl, fun _ h => nomatch h⟩⟩) ?_
  show xv_W mX10_needStory 6 1 6 _ 1 6 (sx n c) I (rx c) J 0 [some (.ref 0), some (.int x), none] []
  refine xv_al0 fX10_needStory_0 ?_
  refine xv_il1 fX10_needStory_1 ?_
  refine xv_callV1R (c_stAt_out n c I J hx) fX10_needStory_2 YX10_storyAt VX10_storyAt lX10_315 rfl rfl (sx_0 _ _) (Nat.le_of_ble_eq_true rfl) (by decide) (by decide) (by decide) ?_
  refine xv_asN2 fX10_needStory_5 ?_
  refine xv_an2 fX10_needStory_6 ?_
  refine xv_ifnon_n fX10_needStory_7 ?_
  exact xv_throw fX10_needStory_10 hX10_410 rfl (by decide) (by decide) (by decide) (by decide) xv_eq_i

theorem c_isZone (n : Nat) (c : Nat × Nat) (I : xv_I) (J : xv_J) (x : Int32) : xv_Met mX10_isZonePage 0 0 0 (sx n c) I (rx c) J [.int x] (xv_eq (.inl (some (.int (bi (¬ x < nI 7))))) (sx n c) (I) (rx c) J) := by
  refine xv_Met.of (by decide +kernel) (Nat.le_of_ble_eq_true rfl) (List.forall_mem_cons.mpr ⟨rfl, fun _ h => nomatch h⟩) ?_
  show xv_W mX10_isZonePage 0 0 0 _ 0 0 (sx n c) I (rx c) J 0 [some (.int x)] []
  refine xv_il0 fX10_isZonePage_0 ?_
  refine xv_k fX10_isZonePage_1 ?_
  refine xv_ic_lt fX10_isZonePage_3 (fun h_3 => ?_) (fun h_3 => ?_)
  · refine xv_k fX10_isZonePage_10 ?_
    exact xv_iret fX10_isZonePage_11 rfl (by decide) (xv_eq_I (by rw [bi_f (fun h => h h_3)]) rfl)
  · refine xv_k fX10_isZonePage_6 ?_
    refine xv_goto fX10_isZonePage_7 ?_
    exact xv_iret fX10_isZonePage_11 rfl (by decide) (xv_eq_I (by rw [bi_t h_3]) rfl)

theorem c_inCopies (n : Nat) (c : Nat × Nat) (I : xv_I) (J : xv_J) (x y : Int32) : xv_Met mX10_isInCopies 1 0 0 (sx n c) I (rx c) J [.int x, .int y] (xv_eq (.inl (some (.int (bi (x < nI 7 ∨ x = nI 7 + y))))) (sx n c) (I) (rx c) J) := by
  refine xv_Met.of (by decide +kernel) (Nat.le_of_ble_eq_true rfl) (List.forall_mem_cons.mpr ⟨rfl, List.forall_mem_cons.mpr ⟨rfl, fun _ h => nomatch h⟩⟩) ?_
  show xv_W mX10_isInCopies 1 0 0 _ 0 0 (sx n c) I (rx c) J 0 [some (.int x), some (.int y)] []
  refine xv_il0 fX10_isInCopies_0 ?_
  refine xv_callS1R (c_isZone n c I J x) fX10_isInCopies_1 YX10_isZonePage VX10_isZonePage lX10_412 rfl (Nat.le_of_ble_eq_true rfl) (by decide) (by decide) (by decide) ?_
  refine xv_if_eq fX10_isInCopies_4 (fun h_4 => ?_) (fun h_4 => ?_)
  · refine xv_k fX10_isInCopies_15 ?_
    refine xv_goto fX10_isInCopies_16 ?_
    exact xv_iret fX10_isInCopies_20 rfl (by decide) (xv_eq_I (by rw [bi_t (Or.inl (Classical.not_not.mp (bi_0 h_4)))]) rfl)
  · refine xv_il0 fX10_isInCopies_7 ?_
    refine xv_k fX10_isInCopies_8 ?_
    refine xv_il1 fX10_isInCopies_10 ?_
    refine xv_iadd fX10_isInCopies_11 ?_
    refine xv_ic_ne fX10_isInCopies_12 (fun h_12 => ?_) (fun h_12 => ?_)
    · refine xv_k fX10_isInCopies_19 ?_
      exact xv_iret fX10_isInCopies_20 rfl (by decide) (xv_eq_I (by rw [bi_f (fun h => h.elim (bi_1 h_4) h_12)]) rfl)
    · refine xv_k fX10_isInCopies_15 ?_
      refine xv_goto fX10_isInCopies_16 ?_
      exact xv_iret fX10_isInCopies_20 rfl (by decide) (xv_eq_I (by rw [bi_t (Or.inr h_12)]) rfl)

def xApart (x y : Int32) : Int32 := if ¬ x < nI 7 ∧ ¬ y < nI 7 ∧ ¬ x = y then nI 10 else if y ≤ x then x - y else y - x
theorem c_apart (n : Nat) (c : Nat × Nat) (I : xv_I) (J : xv_J) (x y : Int32) : xv_Met mX10_pagesApart 1 0 0 (sx n c) I (rx c) J [.int x, .int y] (xv_eq (.inl (some (.int (xApart x y)))) (sx n c) (I) (rx c) J) := by
  refine xv_Met.of (by decide +kernel) (Nat.le_of_ble_eq_true rfl) (List.forall_mem_cons.mpr ⟨rfl, List.forall_mem_cons.mpr ⟨rfl, fun _ h => nomatch h⟩⟩) ?_
  show xv_W mX10_pagesApart 1 0 0 _ 0 0 (sx n c) I (rx c) J 0 [some (.int x), some (.int y)] []
  refine xv_il0 fX10_pagesApart_0 ?_
  refine xv_callS1R (c_isZone n c I J x) fX10_pagesApart_1 YX10_isZonePage VX10_isZonePage lX10_412 rfl (Nat.le_of_ble_eq_true rfl) (by decide) (by decide) (by decide) ?_
  refine xv_if_eq fX10_pagesApart_4 (fun h_4 => ?_) (fun h_4 => ?_)
  · refine xv_il0 fX10_pagesApart_22 ?_
    refine xv_il1 fX10_pagesApart_23 ?_
    refine xv_ic_ge fX10_pagesApart_24 (fun h_24 => ?_) (fun h_24 => ?_)
    · refine xv_il0 fX10_pagesApart_33 ?_
      refine xv_il1 fX10_pagesApart_34 ?_
      refine xv_isub fX10_pagesApart_35 ?_
      exact xv_iret fX10_pagesApart_36 rfl rfl (xv_eq_I (by rw [xApart, if_neg (fun h => bi_0 h_4 h.1), if_pos h_24]) rfl)
    · refine xv_il1 fX10_pagesApart_27 ?_
      refine xv_il0 fX10_pagesApart_28 ?_
      refine xv_isub fX10_pagesApart_29 ?_
      refine xv_goto fX10_pagesApart_30 ?_
      exact xv_iret fX10_pagesApart_36 rfl rfl (xv_eq_I (by rw [xApart, if_neg (fun h => bi_0 h_4 h.1), if_neg h_24]) rfl)
  · refine xv_il1 fX10_pagesApart_7 ?_
    refine xv_callS1R (c_isZone n c I J y) fX10_pagesApart_8 YX10_isZonePage VX10_isZonePage lX10_412 rfl (Nat.le_of_ble_eq_true rfl) (by decide) (by decide) (by decide) ?_
    refine xv_if_eq fX10_pagesApart_11 (fun h_11 => ?_) (fun h_11 => ?_)
    · refine xv_il0 fX10_pagesApart_22 ?_
      refine xv_il1 fX10_pagesApart_23 ?_
      refine xv_ic_ge fX10_pagesApart_24 (fun h_24 => ?_) (fun h_24 => ?_)
      · refine xv_il0 fX10_pagesApart_33 ?_
        refine xv_il1 fX10_pagesApart_34 ?_
        refine xv_isub fX10_pagesApart_35 ?_
        exact xv_iret fX10_pagesApart_36 rfl rfl (xv_eq_I (by rw [xApart, if_neg (fun h => bi_0 h_11 h.2.1), if_pos h_24]) rfl)
      · refine xv_il1 fX10_pagesApart_27 ?_
        refine xv_il0 fX10_pagesApart_28 ?_
        refine xv_isub fX10_pagesApart_29 ?_
        refine xv_goto fX10_pagesApart_30 ?_
        exact xv_iret fX10_pagesApart_36 rfl rfl (xv_eq_I (by rw [xApart, if_neg (fun h => bi_0 h_11 h.2.1), if_neg h_24]) rfl)
    · refine xv_il0 fX10_pagesApart_14 ?_
      refine xv_il1 fX10_pagesApart_15 ?_
      refine xv_ic_eq fX10_pagesApart_16 (fun h_16 => ?_) (fun h_16 => ?_)
      · refine xv_il0 fX10_pagesApart_22 ?_
        refine xv_il1 fX10_pagesApart_23 ?_
        refine xv_ic_ge fX10_pagesApart_24 (fun h_24 => ?_) (fun h_24 => ?_)
        · refine xv_il0 fX10_pagesApart_33 ?_
          refine xv_il1 fX10_pagesApart_34 ?_
          refine xv_isub fX10_pagesApart_35 ?_
          exact xv_iret fX10_pagesApart_36 rfl rfl (xv_eq_I (by rw [xApart, if_neg (fun h => h.2.2 h_16), if_pos h_24]) rfl)
        · refine xv_il1 fX10_pagesApart_27 ?_
          refine xv_il0 fX10_pagesApart_28 ?_
          refine xv_isub fX10_pagesApart_29 ?_
          refine xv_goto fX10_pagesApart_30 ?_
          exact xv_iret fX10_pagesApart_36 rfl rfl (xv_eq_I (by rw [xApart, if_neg (fun h => h.2.2 h_16), if_neg h_24]) rfl)
      · refine xv_k fX10_pagesApart_19 ?_
        exact xv_iret fX10_pagesApart_21 rfl rfl (xv_eq_I (by rw [xApart, if_pos ⟨bi_1 h_4, bi_1 h_11, h_16⟩]) rfl)

theorem c_distOf (n : Nat) (c : Nat × Nat) (I : xv_I) (J : xv_J) {k : Nat} (hk : k < 4) : xv_Met mX10_distanceOf 0 0 0 (sx n c) I (rx c) J [.ref 0, .int (nI k)] (xv_eq (.inl (some (.int (I 17 k)))) (sx n c) (I) (rx c) J) := by
  refine xv_Met.of (by decide +kernel) (Nat.le_of_ble_eq_true rfl) (List.forall_mem_cons.mpr ⟨rfl, List.forall_mem_cons.mpr ⟨rfl, fun _ h => nomatch h⟩⟩) ?_
  show xv_W mX10_distanceOf 0 0 0 _ 0 0 (sx n c) I (rx c) J 0 [some (.ref 0), some (.int (nI k))] []
  refine xv_il1 fX10_distanceOf_0 ?_
  refine xv_if_lt fX10_distanceOf_1 (fun h_1 => ?_) (fun h_1 => ?_)
  · exact absurd h_1 (nI_pos (by omega))
  · refine xv_il1 fX10_distanceOf_4 ?_
    refine xv_al0 fX10_distanceOf_5 ?_
    refine xv_getR fX10_distanceOf_6 gX10_16 rfl (sx_0 _ _) (rx_0_1 _) ?_
    refine xv_alen fX10_distanceOf_9 (sx_17 _ _) (x := nI 4) rfl ?_
    refine xv_ic_ge fX10_distanceOf_10 (fun h_10 => ?_) (fun h_10 => ?_)
    · exact absurd h_10 (nI_ge hk (by decide))
    · refine xv_al0 fX10_distanceOf_13 ?_
      refine xv_getR fX10_distanceOf_14 gX10_16 rfl (sx_0 _ _) (rx_0_1 _) ?_
      refine xv_il1 fX10_distanceOf_17 ?_
      refine xv_ialdN fX10_distanceOf_18 (sx_17 _ _) (⟨hk, by decide⟩) ?_
      refine xv_goto fX10_distanceOf_19 ?_
      exact xv_iret fX10_distanceOf_23 rfl rfl xv_eq_i

/-- m times divided by 10 -/
def xD10 : Nat → Int32 → Int32
  | 0, x => x
  | m + 1, x => xD10 m (x / nI 10)
def xDig (x : Int32) (s p : Nat) : Int32 := xD10 (s - (p + 1)) x - xD10 (s - (p + 1)) x / nI 10 * nI 10

theorem c_lowPage (n : Nat) (c : Nat × Nat) (I : xv_I) (J : xv_J) {a : Nat} (ha : a < c.1) (ha2 : a < 20) : xv_Met mX0_lowestPage 0 0 0 (sx n c) I (rx c) J [.ref (100 + a)] (xv_eq (.inl (some (.int (if I (100 + a) 5 = -1 then nI 0 else nI 7 + I (100 + a) 5)))) (sx n c) (I) (rx c) J) := by
  refine xv_Met.of (by decide +kernel) (Nat.le_of_ble_eq_true rfl) (List.forall_mem_cons.mpr ⟨rfl, fun _ h => nomatch h⟩) ?_
  show xv_W mX0_lowestPage 0 0 0 _ 0 0 (sx n c) I (rx c) J 0 [some (.ref (100 + a))] []
  refine xv_al0 fX0_lowestPage_0 ?_
  refine xv_getI fX0_lowestPage_1 gX0_28 rfl (sx_ad _ _ ha ha2) ?_
  refine xv_k fX0_lowestPage_4 ?_
  refine xv_ic_ne fX0_lowestPage_5 (fun h_5 => ?_) (fun h_5 => ?_)
  · refine xv_k fX0_lowestPage_12 ?_
    refine xv_al0 fX0_lowestPage_14 ?_
    refine xv_getI fX0_lowestPage_15 gX0_28 rfl (sx_ad _ _ ha ha2) ?_
    refine xv_iadd fX0_lowestPage_18 ?_
    exact xv_iret fX0_lowestPage_19 rfl rfl (xv_eq_I (by rw [if_neg h_5]) rfl)
  · refine xv_k fX0_lowestPage_8 ?_
    refine xv_goto fX0_lowestPage_9 ?_
    exact xv_iret fX0_lowestPage_19 rfl rfl (xv_eq_I (by rw [if_pos h_5]) rfl)

theorem c_highPage (n : Nat) (c : Nat × Nat) (I : xv_I) (J : xv_J) {a : Nat} (ha : a < c.1) (ha2 : a < 20) : xv_Met mX0_highestPage 0 0 0 (sx n c) I (rx c) J [.ref (100 + a)] (xv_eq (.inl (some (.int (if I (100 + a) 5 = -1 then nI 6 else nI 7 + I (100 + a) 5)))) (sx n c) (I) (rx c) J) := by
  refine xv_Met.of (by decide +kernel) (Nat.le_of_ble_eq_true rfl) (List.forall_mem_cons.mpr ⟨rfl, fun _ h => nomatch h⟩) ?_
  show xv_W mX0_highestPage 0 0 0 _ 0 0 (sx n c) I (rx c) J 0 [some (.ref (100 + a))] []
  refine xv_al0 fX0_highestPage_0 ?_
  refine xv_getI fX0_highestPage_1 gX0_28 rfl (sx_ad _ _ ha ha2) ?_
  refine xv_k fX0_highestPage_4 ?_
  refine xv_ic_ne fX0_highestPage_5 (fun h_5 => ?_) (fun h_5 => ?_)
  · refine xv_k fX0_highestPage_13 ?_
    refine xv_al0 fX0_highestPage_15 ?_
    refine xv_getI fX0_highestPage_16 gX0_28 rfl (sx_ad _ _ ha ha2) ?_
    refine xv_iadd fX0_highestPage_19 ?_
    exact xv_iret fX0_highestPage_20 rfl rfl (xv_eq_I (by rw [if_neg h_5]) rfl)
  · refine xv_k fX0_highestPage_8 ?_
    refine xv_goto fX0_highestPage_10 ?_
    exact xv_iret fX0_highestPage_20 rfl rfl (xv_eq_I (by rw [if_pos h_5]) rfl)

theorem c_isPlaced (n : Nat) (c : Nat × Nat) (I : xv_I) (J : xv_J) {a : Nat} (ha : a < c.1) (ha2 : a < 20) : xv_Met mX0_isPlaced 0 0 0 (sx n c) I (rx c) J [.ref (100 + a)] (xv_eq (.inl (some (.int (bi (¬ I (100 + a) 6 = -1))))) (sx n c) (I) (rx c) J) := by
  refine xv_Met.of (by decide +kernel) (Nat.le_of_ble_eq_true rfl) (List.forall_mem_cons.mpr ⟨rfl, fun _ h => nomatch h⟩) ?_
  show xv_W mX0_isPlaced 0 0 0 _ 0 0 (sx n c) I (rx c) J 0 [some (.ref (100 + a))] []
  refine xv_al0 fX0_isPlaced_0 ?_
  refine xv_getI fX0_isPlaced_1 gX0_31 rfl (sx_ad _ _ ha ha2) ?_
  refine xv_k fX0_isPlaced_4 ?_
  refine xv_ic_eq fX0_isPlaced_5 (fun h_5 => ?_) (fun h_5 => ?_)
  · refine xv_k fX0_isPlaced_12 ?_
    exact xv_iret fX0_isPlaced_13 rfl (by decide) (xv_eq_I (by rw [bi_f (fun h => h h_5)]) rfl)
  · refine xv_k fX0_isPlaced_8 ?_
    refine xv_goto fX0_isPlaced_9 ?_
    exact xv_iret fX0_isPlaced_13 rfl (by decide) (xv_eq_I (by rw [bi_t h_5]) rfl)

theorem c_putAt (n : Nat) (c : Nat × Nat) (I : xv_I) (J : xv_J) {a : Nat} (ha : a < c.1) (ha2 : a < 20) {x y : Int32} : xv_Met mX0_putAt 0 0 0 (sx n c) I (rx c) J [.ref (100 + a), .int x, .int y] (xv_eq (.inl none) (sx n c) (xv_u (xv_u I (100 + a) 6 x) (100 + a) 7 y) (rx c) J) := by
  refine xv_Met.of (by decide +kernel) (Nat.le_of_ble_eq_true rfl) (List.forall_mem_cons.mpr ⟨rfl, List.forall_mem_cons.mpr ⟨rfl, List.forall_mem_cons.mpr ⟨rfl, fun _ h => nomatch h⟩⟩⟩) ?_
  show xv_W mX0_putAt 0 0 0 _ 0 0 (sx n c) I (rx c) J 0 [some (.ref (100 + a)), some (.int x), some (.int y)] []
  refine xv_al0 fX0_putAt_0 ?_
  refine xv_il1 fX0_putAt_1 ?_
  refine xv_putI fX0_putAt_2 gX0_31 rfl (tp0_6 _) (sx_ad _ _ ha ha2) ⟨rfl, rfl⟩ ?_
  refine xv_al0 fX0_putAt_5 ?_
  refine xv_il2 fX0_putAt_6 ?_
  refine xv_putI fX0_putAt_7 gX0_34 rfl (tp0_7 _) (sx_ad _ _ ha ha2) ⟨rfl, rfl⟩ ?_
  exact xv_vret fX0_putAt_10 rfl xv_eq_i

theorem c_where (n : Nat) (c : Nat × Nat) (I : xv_I) (J : xv_J) {a : Nat} (ha : a < c.1) (ha2 : a < 20) : xv_Met mX0_whereItIs 0 0 0 (sx n c) I (rx c) J [.ref (100 + a)] (xv_eq (.inl (some (.int (nI 100 * I (100 + a) 6 + I (100 + a) 7)))) (sx n c) (I) (rx c) J) := by
  refine xv_Met.of (by decide +kernel) (Nat.le_of_ble_eq_true rfl) (List.forall_mem_cons.mpr ⟨rfl, fun _ h => nomatch h⟩) ?_
  show xv_W mX0_whereItIs 0 0 0 _ 0 0 (sx n c) I (rx c) J 0 [some (.ref (100 + a))] []
  refine xv_k fX0_whereItIs_0 ?_
  refine xv_al0 fX0_whereItIs_2 ?_
  refine xv_getI fX0_whereItIs_3 gX0_31 rfl (sx_ad _ _ ha ha2) ?_
  refine xv_imul fX0_whereItIs_6 ?_
  refine xv_al0 fX0_whereItIs_7 ?_
  refine xv_getI fX0_whereItIs_8 gX0_34 rfl (sx_ad _ _ ha ha2) ?_
  refine xv_iadd fX0_whereItIs_11 ?_
  exact xv_iret fX0_whereItIs_12 rfl rfl xv_eq_i
