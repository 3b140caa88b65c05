noncomputable def iteP {α : Type} (P : Prop) (a b : α) : α := @ite _ P (Classical.propDecidable P) a b
theorem iteP_t {α : Type} {P : Prop} (h : P) (a b : α) : iteP P a b = a := by unfold iteP; exact if_pos h
theorem iteP_f {α : Type} {P : Prop} (h : ¬ P) (a b : α) : iteP P a b = b := by unfold iteP; exact if_neg h
/-- a way, its rows behind it -/
abbrev isWay (n : Nat) (c : Nat × Nat) (w : Nat) : Prop := sx n c w = some (.inl 8) ∧ sx n c (w + 1) = some (.inr (.inl (.int, 2))) ∧ sx n c (w + 2) = some (.inr (.inl (.int, 2))) ∧ sx n c (w + 3) = some (.inr (.inl (.int, 2))) ∧ rx c w 1 = some (w + 1) ∧ rx c w 2 = some (w + 2) ∧ rx c w 3 = some (w + 3)
theorem isWay_21 (n : Nat) (c : Nat × Nat) : isWay n c 21 := ⟨rfl, rfl, rfl, rfl, rfl, rfl, rfl⟩
theorem isWay_25 (n : Nat) (c : Nat × Nat) : isWay n c 25 := ⟨rfl, rfl, rfl, rfl, rfl, rfl, rfl⟩
theorem isWay_st (n : Nat) (c : Nat × Nat) {a : Nat} (hs : a < c.2) (hs2 : a < 20) : isWay n c (201 + 5 * a) := by
  have e2 : 201 + 5 * a + 1 = 202 + 5 * a := by omega
  have e3 : 201 + 5 * a + 2 = 203 + 5 * a := by omega
  have e4 : 201 + 5 * a + 3 = 204 + 5 * a := by omega
  unfold isWay
  rw [e2, e3, e4]
  exact ⟨sx_wy n c hs hs2, sx_w2 n c hs hs2, sx_w3 n c hs hs2, sx_w4 n c hs hs2, rx_w1 c hs hs2, rx_w2 c hs hs2, rx_w3 c hs hs2⟩
def xPlate (x : Int32) : Int32 := nI 1 <<< ((x / nI 2) &&& 31)
theorem xPlate_n {p : Nat} (hp : p < 10) : xPlate (nI p) = nI (2 ^ (p / 2)) := by
  unfold xPlate
  rw [nI_div (by omega) (by decide), sh1 _ (by omega)]
def xSetPart (w i : Nat) (pg st sz : Int32) (I : xv_I) : xv_I := xv_u (xv_u (xv_u I (w + 1) i pg) (w + 2) i st) (w + 3) i sz
def xClear (w : Nat) (I : xv_I) : xv_I := it (fun i I => xSetPart w i (-1) (-1) (nI 0) I) 2 0 (xv_u I w 0 (nI 0))
def xCopy1 (w v i : Nat) (I : xv_I) : xv_I := xSetPart w i (I (v + 1) i) (I (v + 2) i) (I (v + 3) i) I
def xCopy (w v : Nat) (I : xv_I) : xv_I := it (xCopy1 w v) 2 0 (xv_u I w 0 (I v 0))
def xWPl1 (I : xv_I) (w i : Nat) (a : Int32) : Int32 := if I (w + 3) i ≤ 0 then a else a ||| xPlate (I (w + 1) i)
def xWPl (I : xv_I) (w : Nat) : Int32 := it (xWPl1 I w) 2 0 (nI 0)
theorem c_plateX (n : Nat) (c : Nat × Nat) (I : xv_I) (J : xv_J) (x : Int32) : xv_Met mX10_plateOf 0 0 0 (sx n c) I (rx c) J [.int x] (xv_eq (.inl (some (.int (xPlate x)))) (sx n c) (I) (rx c) J) := by
  refine xv_Met.of (by decide +kernel) (Nat.le_of_ble_eq_true rfl) (List.forall_mem_cons.mpr ⟨rfl, fun _ h => nomatch h⟩) ?_
  show xv_W mX10_plateOf 0 0 0 _ 0 0 (sx n c) I (rx c) J 0 [some (.int x)] []
  refine xv_k fX10_plateOf_0 ?_
  refine xv_il0 fX10_plateOf_1 ?_
  refine xv_k fX10_plateOf_2 ?_
  refine xv_idiv fX10_plateOf_3 (by decide) ?_
  refine xv_ishl fX10_plateOf_4 ?_
  exact xv_iret fX10_plateOf_5 rfl rfl xv_eq_i

theorem c_pageOf (n : Nat) (c : Nat × Nat) (I : xv_I) (J : xv_J) {w : Nat} (hw : isWay n c w) {i : Nat} (hi : i < 2) : xv_Met mX8_pageOf 0 0 0 (sx n c) I (rx c) J [.ref w, .int (nI i)] (xv_eq (.inl (some (.int (I (w + 1) i)))) (sx n c) (I) (rx c) J) := by
  refine xv_Met.of (by decide +kernel) (Nat.le_of_ble_eq_true rfl) (List.forall_mem_cons.mpr ⟨rfl, List.forall_mem_cons.mpr ⟨rfl, fun _ h => nomatch h⟩⟩) ?_
  show xv_W mX8_pageOf 0 0 0 _ 0 0 (sx n c) I (rx c) J 0 [some (.ref w), some (.int (nI i))] []
  refine xv_il1 fX8_pageOf_0 ?_
  refine xv_if_lt fX8_pageOf_1 (fun h_1 => ?_) (fun h_1 => ?_)
  · exact absurd h_1 (nI_pos (by omega))
  · refine xv_il1 fX8_pageOf_4 ?_
    refine xv_k fX8_pageOf_5 ?_
    refine xv_ic_ge fX8_pageOf_6 (fun h_6 => ?_) (fun h_6 => ?_)
    · exact absurd h_6 (nI_ge hi (by decide))
    · refine xv_al0 fX8_pageOf_9 ?_
      refine xv_getR fX8_pageOf_10 gX8_9 rfl hw.1 hw.2.2.2.2.1 ?_
      refine xv_il1 fX8_pageOf_13 ?_
      refine xv_ialdN fX8_pageOf_14 hw.2.1 (⟨hi, by decide⟩) ?_
      refine xv_goto fX8_pageOf_15 ?_
      exact xv_iret fX8_pageOf_19 rfl rfl xv_eq_i

theorem c_startOf (n : Nat) (c : Nat × Nat) (I : xv_I) (J : xv_J) {w : Nat} (hw : isWay n c w) {i : Nat} (hi : i < 2) : xv_Met mX8_start 0 0 0 (sx n c) I (rx c) J [.ref w, .int (nI i)] (xv_eq (.inl (some (.int (I (w + 2) i)))) (sx n c) (I) (rx c) J) := by
  refine xv_Met.of (by decide +kernel) (Nat.le_of_ble_eq_true rfl) (List.forall_mem_cons.mpr ⟨rfl, List.forall_mem_cons.mpr ⟨rfl, fun _ h => nomatch h⟩⟩) ?_
  show xv_W mX8_start 0 0 0 _ 0 0 (sx n c) I (rx c) J 0 [some (.ref w), some (.int (nI i))] []
  refine xv_il1 fX8_start_0 ?_
  refine xv_if_lt fX8_start_1 (fun h_1 => ?_) (fun h_1 => ?_)
  · exact absurd h_1 (nI_pos (by omega))
  · refine xv_il1 fX8_start_4 ?_
    refine xv_k fX8_start_5 ?_
    refine xv_ic_ge fX8_start_6 (fun h_6 => ?_) (fun h_6 => ?_)
    · exact absurd h_6 (nI_ge hi (by decide))
    · refine xv_al0 fX8_start_9 ?_
      refine xv_getR fX8_start_10 gX8_15 rfl hw.1 hw.2.2.2.2.2.1 ?_
      refine xv_il1 fX8_start_13 ?_
      refine xv_ialdN fX8_start_14 hw.2.2.1 (⟨hi, by decide⟩) ?_
      refine xv_goto fX8_start_15 ?_
      exact xv_iret fX8_start_19 rfl rfl xv_eq_i

theorem c_sizeOf (n : Nat) (c : Nat × Nat) (I : xv_I) (J : xv_J) {w : Nat} (hw : isWay n c w) {i : Nat} (hi : i < 2) : xv_Met mX8_size 0 0 0 (sx n c) I (rx c) J [.ref w, .int (nI i)] (xv_eq (.inl (some (.int (I (w + 3) i)))) (sx n c) (I) (rx c) J) := by
  refine xv_Met.of (by decide +kernel) (Nat.le_of_ble_eq_true rfl) (List.forall_mem_cons.mpr ⟨rfl, List.forall_mem_cons.mpr ⟨rfl, fun _ h => nomatch h⟩⟩) ?_
  show xv_W mX8_size 0 0 0 _ 0 0 (sx n c) I (rx c) J 0 [some (.ref w), some (.int (nI i))] []
  refine xv_il1 fX8_size_0 ?_
  refine xv_if_lt fX8_size_1 (fun h_1 => ?_) (fun h_1 => ?_)
  · exact absurd h_1 (nI_pos (by omega))
  · refine xv_il1 fX8_size_4 ?_
    refine xv_k fX8_size_5 ?_
    refine xv_ic_ge fX8_size_6 (fun h_6 => ?_) (fun h_6 => ?_)
    · exact absurd h_6 (nI_ge hi (by decide))
    · refine xv_al0 fX8_size_9 ?_
      refine xv_getR fX8_size_10 gX8_18 rfl hw.1 hw.2.2.2.2.2.2 ?_
      refine xv_il1 fX8_size_13 ?_
      refine xv_ialdN fX8_size_14 hw.2.2.2.1 (⟨hi, by decide⟩) ?_
      refine xv_goto fX8_size_15 ?_
      exact xv_iret fX8_size_19 rfl rfl xv_eq_i

theorem c_setPart (n : Nat) (c : Nat × Nat) (I : xv_I) (J : xv_J) {w : Nat} (hw : isWay n c w) {i : Nat} {pg st sz : Int32} (hi : i < 2) : xv_Met mX8_setPart 0 0 0 (sx n c) I (rx c) J [.ref w, .int (nI i), .int pg, .int st, .int sz] (xv_eq (.inl none) (sx n c) (xSetPart w i pg st sz I) (rx c) J) := by
  refine xv_Met.of (by decide +kernel) (Nat.le_of_ble_eq_true rfl) (List.forall_mem_cons.mpr ⟨rfl, List.forall_mem_cons.mpr ⟨rfl, List.forall_mem_cons.mpr ⟨rfl, List.forall_mem_cons.mpr ⟨rfl, List.forall_mem_cons.mpr ⟨rfl, fun _ h => nomatch h⟩⟩⟩⟩⟩) ?_
  show xv_W mX8_setPart 0 0 0 _ 0 0 (sx n c) I (rx c) J 0 [some (.ref w), some (.int (nI i)), some (.int pg), some (.int st), some (.int sz)] []
  refine xv_il1 fX8_setPart_0 ?_
  refine xv_if_lt fX8_setPart_1 (fun h_1 => ?_) (fun h_1 => ?_)
  · exact absurd h_1 (nI_pos (by omega))
  · refine xv_il1 fX8_setPart_4 ?_
    refine xv_k fX8_setPart_5 ?_
    refine xv_ic_ge fX8_setPart_6 (fun h_6 => ?_) (fun h_6 => ?_)
    · exact absurd h_6 (nI_ge hi (by decide))
    · refine xv_al0 fX8_setPart_9 ?_
      refine xv_getR fX8_setPart_10 gX8_9 rfl hw.1 hw.2.2.2.2.1 ?_
      refine xv_il1 fX8_setPart_13 ?_
      refine xv_il2 fX8_setPart_14 ?_
      refine xv_iastN fX8_setPart_15 hw.2.1 (⟨hi, by decide⟩) ?_
      refine xv_al0 fX8_setPart_16 ?_
      refine xv_getR fX8_setPart_17 gX8_15 rfl hw.1 hw.2.2.2.2.2.1 ?_
      refine xv_il1 fX8_setPart_20 ?_
      refine xv_il3 fX8_setPart_21 ?_
      refine xv_iastN fX8_setPart_22 hw.2.2.1 (⟨hi, by decide⟩) ?_
      refine xv_al0 fX8_setPart_23 ?_
      refine xv_getR fX8_setPart_24 gX8_18 rfl hw.1 hw.2.2.2.2.2.2 ?_
      refine xv_il1 fX8_setPart_27 ?_
      refine xv_il4 fX8_setPart_28 ?_
      refine xv_iastN fX8_setPart_30 hw.2.2.2.1 (⟨hi, by decide⟩) ?_
      exact xv_vret fX8_setPart_31 rfl (xv_eq_I rfl rfl)

theorem l_clear (n : Nat) (c : Nat × Nat) (J : xv_J) {w : Nat} (hw : isWay n c w) {Q : xv_Q} : ∀ (m k : Nat) (I : xv_I), k + m = 2 → xv_W mX8_clear 1 0 0 Q 0 0 (sx n c) (it (fun i I => xSetPart w i (-1) (-1) (nI 0) I) m k I) (rx c) J 26 [some (.ref w), some (.int (nI 2))] [] → xv_W mX8_clear 1 0 0 Q 0 0 (sx n c) I (rx c) J 7 [some (.ref w), some (.int (nI k))] [] := by
  intro m
  induction m with
  | zero =>
    intro k I hm  hx
    obtain rfl : k = 2 := by omega
    refine xv_il1 fX8_clear_7 ?_
    refine xv_k fX8_clear_8 ?_
    refine xv_ic_ge fX8_clear_9 (fun h_9 => ?_) (fun h_9 => ?_)
    · exact hx
    · exact absurd (nI_le (Nat.le_refl _) (by decide)) h_9
  | succ m ih =>
    intro k I hm  hx
    have hk : k < 2 := by omega
    show xv_W mX8_clear 1 0 0 _ 0 0 (sx n c) I (rx c) J 7 [some (.ref w), some (.int (nI k))] []
    refine xv_il1 fX8_clear_7 ?_
    refine xv_k fX8_clear_8 ?_
    refine xv_ic_ge fX8_clear_9 (fun h_9 => ?_) (fun h_9 => ?_)
    · exact absurd h_9 (nI_ge hk (by decide))
    · refine xv_al0 fX8_clear_12 ?_
      refine xv_il1 fX8_clear_13 ?_
      refine xv_k fX8_clear_14 ?_
      refine xv_k fX8_clear_15 ?_
      refine xv_k fX8_clear_16 ?_
      refine xv_callV4V (c_setPart n c _ J hw hk) fX8_clear_17 YX8_setPart VX8_setPart lX8_25 rfl rfl hw.1 (Nat.le_of_ble_eq_true rfl) (by decide) (by decide) (by decide) ?_
      refine xv_iincN1 (a := 1) fX8_clear_20 (by decide) ?_
      refine xv_goto fX8_clear_23 ?_
      exact ih (k + 1) _ (by omega) hx

theorem c_clear (n : Nat) (c : Nat × Nat) (I : xv_I) (J : xv_J) {w : Nat} (hw : isWay n c w) : xv_Met mX8_clear 1 0 0 (sx n c) I (rx c) J [.ref w] (xv_eq (.inl none) (sx n c) (xClear w I) (rx c) J) := by
  refine xv_Met.of (by decide +kernel) (Nat.le_of_ble_eq_true rfl) (List.forall_mem_cons.mpr ⟨rfl, fun _ h => nomatch h⟩) ?_
  show xv_W mX8_clear 1 0 0 _ 0 0 (sx n c) I (rx c) J 0 [some (.ref w), none] []
  refine xv_al0 fX8_clear_0 ?_
  refine xv_k fX8_clear_1 ?_
  refine xv_putI fX8_clear_2 gX8_21 rfl (tp8_0 _) hw.1 ⟨rfl, rfl⟩ ?_
  refine xv_k fX8_clear_5 ?_
  refine xv_is1 fX8_clear_6 ?_
  exact l_clear n c J hw 2 0 _ rfl (by exact xv_vret fX8_clear_26 rfl (xv_eq_I rfl rfl))

theorem l_copy (n : Nat) (c : Nat × Nat) (J : xv_J) {w : Nat} (hw : isWay n c w) {v : Nat} (hv : isWay n c v) {Q : xv_Q} : ∀ (m k : Nat) (I : xv_I), k + m = 2 → xv_W mX8_copy 1 0 0 Q 0 0 (sx n c) (it (xCopy1 w v) m k I) (rx c) J 41 [some (.ref w), some (.ref v), some (.int (nI 2))] [] → xv_W mX8_copy 1 0 0 Q 0 0 (sx n c) I (rx c) J 10 [some (.ref w), some (.ref v), some (.int (nI k))] [] := by
  intro m
  induction m with
  | zero =>
    intro k I hm  hx
    obtain rfl : k = 2 := by omega
    refine xv_il2 fX8_copy_10 ?_
    refine xv_k fX8_copy_11 ?_
    refine xv_ic_ge fX8_copy_12 (fun h_12 => ?_) (fun h_12 => ?_)
    · exact hx
    · exact absurd (nI_le (Nat.le_refl _) (by decide)) h_12
  | succ m ih =>
    intro k I hm  hx
    have hk : k < 2 := by omega
    show xv_W mX8_copy 1 0 0 _ 0 0 (sx n c) I (rx c) J 10 [some (.ref w), some (.ref v), some (.int (nI k))] []
    refine xv_il2 fX8_copy_10 ?_
    refine xv_k fX8_copy_11 ?_
    refine xv_ic_ge fX8_copy_12 (fun h_12 => ?_) (fun h_12 => ?_)
    · exact absurd h_12 (nI_ge hk (by decide))
    · refine xv_al0 fX8_copy_15 ?_
      refine xv_il2 fX8_copy_16 ?_
      refine xv_al1 fX8_copy_17 ?_
      refine xv_il2 fX8_copy_18 ?_
      refine xv_callV1R (c_pageOf n c _ J hv hk) fX8_copy_19 YX8_pageOf VX8_pageOf lX8_29 rfl rfl hv.1 (Nat.le_of_ble_eq_true rfl) (by decide) (by decide) (by decide) ?_
      refine xv_al1 fX8_copy_22 ?_
      refine xv_il2 fX8_copy_23 ?_
      refine xv_callV1R (c_startOf n c _ J hv hk) fX8_copy_24 YX8_start VX8_start lX8_33 rfl rfl hv.1 (Nat.le_of_ble_eq_true rfl) (by decide) (by decide) (by decide) ?_
      refine xv_al1 fX8_copy_27 ?_
      refine xv_il2 fX8_copy_28 ?_
      refine xv_callV1R (c_sizeOf n c _ J hv hk) fX8_copy_29 YX8_size VX8_size lX8_36 rfl rfl hv.1 (Nat.le_of_ble_eq_true rfl) (by decide) (by decide) (by decide) ?_
      refine xv_callV4V (c_setPart n c _ J hw hk) fX8_copy_32 YX8_setPart VX8_setPart lX8_25 rfl rfl hw.1 (Nat.le_of_ble_eq_true rfl) (by decide) (by decide) (by decide) ?_
      refine xv_iincN2 (a := 1) fX8_copy_35 (by decide) ?_
      refine xv_goto fX8_copy_38 ?_
      exact ih (k + 1) _ (by omega) hx

theorem c_copy (n : Nat) (c : Nat × Nat) (I : xv_I) (J : xv_J) {w : Nat} (hw : isWay n c w) {v : Nat} (hv : isWay n c v) : xv_Met mX8_copy 1 0 0 (sx n c) I (rx c) J [.ref w, .ref v] (xv_eq (.inl none) (sx n c) (xCopy w v I) (rx c) J) := by
  refine xv_Met.of (by decide +kernel) (Nat.le_of_ble_eq_true rfl) (List.forall_mem_cons.mpr ⟨rfl, List.forall_mem_cons.mpr ⟨rfl, fun _ h => nomatch h⟩⟩) ?_
  show xv_W mX8_copy 1 0 0 _ 0 0 (sx n c) I (rx c) J 0 [some (.ref w), some (.ref v), none] []
  refine xv_al0 fX8_copy_0 ?_
  refine xv_al1 fX8_copy_1 ?_
  refine xv_getI fX8_copy_2 gX8_21 rfl hv.1 ?_
  refine xv_putI fX8_copy_5 gX8_21 rfl (tp8_0 _) hw.1 ⟨rfl, rfl⟩ ?_
  refine xv_k fX8_copy_8 ?_
  refine xv_is2 fX8_copy_9 ?_
  exact l_copy n c J hw hv 2 0 _ rfl (by exact xv_vret fX8_copy_41 rfl (xv_eq_I rfl rfl))

theorem l_wplates (n : Nat) (c : Nat × Nat) (I : xv_I) (J : xv_J) {w : Nat} (hw : isWay n c w) {Q : xv_Q} : ∀ (m k : Nat) (a : Int32), k + m = 2 → xv_W mX8_plates 1 0 0 Q 0 0 (sx n c) I (rx c) J 36 [some (.ref w), some (.int (it (xWPl1 I w) m k a)), some (.int (nI 2))] [] → xv_W mX8_plates 1 0 0 Q 0 0 (sx n c) I (rx c) J 4 [some (.ref w), some (.int a), some (.int (nI k))] [] := by
  intro m
  induction m with
  | zero =>
    intro k a hm  hx
    obtain rfl : k = 2 := by omega
    refine xv_il2 fX8_plates_4 ?_
    refine xv_k fX8_plates_5 ?_
    refine xv_ic_ge fX8_plates_6 (fun h_6 => ?_) (fun h_6 => ?_)
    · exact hx
    · exact absurd (nI_le (Nat.le_refl _) (by decide)) h_6
  | succ m ih =>
    intro k a hm  hx
    have hk : k < 2 := by omega
    show xv_W mX8_plates 1 0 0 _ 0 0 (sx n c) I (rx c) J 4 [some (.ref w), some (.int a), some (.int (nI k))] []
    refine xv_il2 fX8_plates_4 ?_
    refine xv_k fX8_plates_5 ?_
    refine xv_ic_ge fX8_plates_6 (fun h_6 => ?_) (fun h_6 => ?_)
    · exact absurd h_6 (nI_ge hk (by decide))
    · refine xv_al0 fX8_plates_9 ?_
      refine xv_getR fX8_plates_10 gX8_18 rfl hw.1 hw.2.2.2.2.2.2 ?_
      refine xv_il2 fX8_plates_13 ?_
      refine xv_ialdN fX8_plates_14 hw.2.2.2.1 (⟨hk, by decide⟩) ?_
      refine xv_if_le fX8_plates_15 (fun h_15 => ?_) (fun h_15 => ?_)
      · refine xv_iincN2 (a := 1) fX8_plates_30 (by decide) ?_
        refine xv_goto fX8_plates_33 ?_
        exact ih (k + 1) _ (by omega) (by rw [show it (xWPl1 I w) (m + 1) k a = it (xWPl1 I w) m (k + 1) (xWPl1 I w k a) from rfl, xWPl1, if_pos h_15] at hx; exact hx)
      · refine xv_il1 fX8_plates_18 ?_
        refine xv_al0 fX8_plates_19 ?_
        refine xv_getR fX8_plates_20 gX8_9 rfl hw.1 hw.2.2.2.2.1 ?_
        refine xv_il2 fX8_plates_23 ?_
        refine xv_ialdN fX8_plates_24 hw.2.1 (⟨hk, by decide⟩) ?_
        refine xv_callS1R (c_plateX n c _ J _) fX8_plates_25 YX10_plateOf VX10_plateOf lX8_39 rfl (Nat.le_of_ble_eq_true rfl) (by decide) (by decide) (by decide) ?_
        refine xv_ior fX8_plates_28 ?_
        refine xv_is1 fX8_plates_29 ?_
        refine xv_iincN2 (a := 1) fX8_plates_30 (by decide) ?_
        refine xv_goto fX8_plates_33 ?_
        exact ih (k + 1) _ (by omega) (by rw [show it (xWPl1 I w) (m + 1) k a = it (xWPl1 I w) m (k + 1) (xWPl1 I w k a) from rfl, xWPl1, if_neg h_15] at hx; exact hx)

theorem c_wplates (n : Nat) (c : Nat × Nat) (I : xv_I) (J : xv_J) {w : Nat} (hw : isWay n c w) : xv_Met mX8_plates 1 0 0 (sx n c) I (rx c) J [.ref w] (xv_eq (.inl (some (.int (xWPl I w)))) (sx n c) (I) (rx c) J) := by
  refine xv_Met.of (by decide +kernel) (Nat.le_of_ble_eq_true rfl) (List.forall_mem_cons.mpr ⟨rfl, fun _ h => nomatch h⟩) ?_
  show xv_W mX8_plates 1 0 0 _ 0 0 (sx n c) I (rx c) J 0 [some (.ref w), none, none] []
  refine xv_k fX8_plates_0 ?_
  refine xv_is1 fX8_plates_1 ?_
  refine xv_k fX8_plates_2 ?_
  refine xv_is2 fX8_plates_3 ?_
  exact l_wplates n c I J hw 2 0 _ rfl (by exact xv_il1 fX8_plates_36 (xv_iret fX8_plates_37 rfl rfl (xv_eq_I rfl rfl)))

theorem c_isLaid (n : Nat) (c : Nat × Nat) (I : xv_I) (J : xv_J) {a : Nat} (hs : a < c.2) (hs2 : a < 20) : xv_Met mX6_isLaid 0 0 0 (sx n c) I (rx c) J [.ref (200 + 5 * a)] (xv_eq (.inl (some (.int (bi (¬ I (201 + 5 * a) 0 ≤ 0))))) (sx n c) (I) (rx c) J) := by
  refine xv_Met.of (by decide +kernel) (Nat.le_of_ble_eq_true rfl) (List.forall_mem_cons.mpr ⟨rfl, fun _ h => nomatch h⟩) ?_
  show xv_W mX6_isLaid 0 0 0 _ 0 0 (sx n c) I (rx c) J 0 [some (.ref (200 + 5 * a))] []
  refine xv_al0 fX6_isLaid_0 ?_
  refine xv_getR fX6_isLaid_1 gX6_27 rfl (sx_st _ _ hs hs2) (rx_way _ hs hs2) ?_
  refine xv_getI fX6_isLaid_4 gX6_31 rfl (sx_wy _ _ hs hs2) ?_
  refine xv_if_le fX6_isLaid_7 (fun h_7 => ?_) (fun h_7 => ?_)
  · refine xv_k fX6_isLaid_14 ?_
    exact xv_iret fX6_isLaid_15 rfl (by decide) (xv_eq_I (by rw [bi_f (fun h => h h_7)]) rfl)
  · refine xv_k fX6_isLaid_10 ?_
    refine xv_goto fX6_isLaid_11 ?_
    exact xv_iret fX6_isLaid_15 rfl (by decide) (xv_eq_I (by rw [bi_t h_7]) rfl)

/-- the sum of m digits, the last ones first -/
def xDS : Nat → Int32 → Int32 → Int32
  | 0, _, s => s
  | m + 1, r, s => xDS m (r / nI 10) (s + (r - r / nI 10 * nI 10))
def xLines (x : Int32) (np k : Nat) : Int32 := xDS k (xD10 (np - k) x) (nI 0)
def xCells (x : Int32) (np f t : Nat) : Int32 := (xLines x np t - xLines x np f + nI 5 - nI 1) / nI 5
theorem l_lines1 (n : Nat) (c : Nat × Nat) (I : xv_I) (J : xv_J) {a : Nat} (hs : a < c.2) (hs2 : a < 20) {np q : Nat} (hnp : I (200 + 5 * a) 2 = nI np) (hnp2 : np ≤ 6) (hq : q ≤ np) {Q : xv_Q} : ∀ (m k : Nat) (r : Int32), k + m = np → xv_W mX6_linesOfFirst 0 0 0 Q 0 0 (sx n c) I (rx c) J 26 (some (.ref (200 + 5 * a)) :: some (.int (nI q)) :: some (.int (xD10 m r)) :: some (.int (nI np)) :: none :: []) [] → xv_W mX6_linesOfFirst 0 0 0 Q 0 0 (sx n c) I (rx c) J 7 (some (.ref (200 + 5 * a)) :: some (.int (nI q)) :: some (.int r) :: some (.int (nI k)) :: none :: []) [] := by
  intro m
  induction m with
  | zero =>
    intro k r hm  hx
    obtain rfl : k = np := by omega
    refine xv_il3 fX6_linesOfFirst_7 ?_
    refine xv_al0 fX6_linesOfFirst_8 ?_
    refine xv_getI fX6_linesOfFirst_9 gX6_18 rfl (sx_st _ _ hs hs2) ?_
    rw [hnp]
    refine xv_ic_ge fX6_linesOfFirst_12 (fun h_12 => ?_) (fun h_12 => ?_)
    · exact hx
    · exact absurd (nI_le (Nat.le_refl _) (by omega)) h_12
  | succ m ih =>
    intro k r hm  hx
    have hk : k < np := by omega
    show xv_W mX6_linesOfFirst 0 0 0 _ 0 0 (sx n c) I (rx c) J 7 (some (.ref (200 + 5 * a)) :: some (.int (nI q)) :: some (.int r) :: some (.int (nI k)) :: none :: []) []
    refine xv_il3 fX6_linesOfFirst_7 ?_
    refine xv_al0 fX6_linesOfFirst_8 ?_
    refine xv_getI fX6_linesOfFirst_9 gX6_18 rfl (sx_st _ _ hs hs2) ?_
    rw [hnp]
    refine xv_ic_ge fX6_linesOfFirst_12 (fun h_12 => ?_) (fun h_12 => ?_)
    · exact absurd h_12 (nI_ge hk (by omega))
    · refine xv_il2 fX6_linesOfFirst_15 ?_
      refine xv_k fX6_linesOfFirst_16 ?_
      refine xv_idiv fX6_linesOfFirst_18 (by decide) ?_
      refine xv_is2 fX6_linesOfFirst_19 ?_
      refine xv_iincN3 (a := 1) fX6_linesOfFirst_20 (by decide) ?_
      refine xv_goto fX6_linesOfFirst_23 ?_
      exact ih (k + 1) _ (by omega) hx

theorem l_lines2 (n : Nat) (c : Nat × Nat) (I : xv_I) (J : xv_J) {a : Nat} (hs : a < c.2) (hs2 : a < 20) {q : Nat} (hq : q ≤ 6) {Q : xv_Q} : ∀ (m k : Nat) (r s : Int32), k + m = q → (∀ r9, xv_W mX6_linesOfFirst 0 0 0 Q 0 0 (sx n c) I (rx c) J 55 (some (.ref (200 + 5 * a)) :: some (.int (nI q)) :: some (.int r9) :: some (.int (xDS m r s)) :: some (.int (nI q)) :: []) []) → xv_W mX6_linesOfFirst 0 0 0 Q 0 0 (sx n c) I (rx c) J 31 (some (.ref (200 + 5 * a)) :: some (.int (nI q)) :: some (.int r) :: some (.int s) :: some (.int (nI k)) :: []) [] := by
  intro m
  induction m with
  | zero =>
    intro k r s hm i0
    obtain rfl : k = q := by omega
    refine xv_il4 fX6_linesOfFirst_31 ?_
    refine xv_il1 fX6_linesOfFirst_33 ?_
    refine xv_ic_ge fX6_linesOfFirst_34 (fun h_34 => ?_) (fun h_34 => ?_)
    · exact i0 _
    · exact absurd (nI_le (Nat.le_refl _) (by omega)) h_34
  | succ m ih =>
    intro k r s hm i0
    have hk : k < q := by omega
    show xv_W mX6_linesOfFirst 0 0 0 _ 0 0 (sx n c) I (rx c) J 31 (some (.ref (200 + 5 * a)) :: some (.int (nI q)) :: some (.int r) :: some (.int s) :: some (.int (nI k)) :: []) []
    refine xv_il4 fX6_linesOfFirst_31 ?_
    refine xv_il1 fX6_linesOfFirst_33 ?_
    refine xv_ic_ge fX6_linesOfFirst_34 (fun h_34 => ?_) (fun h_34 => ?_)
    · exact absurd h_34 (nI_ge hk (by omega))
    · refine xv_il3 fX6_linesOfFirst_37 ?_
      refine xv_il2 fX6_linesOfFirst_38 ?_
      refine xv_k fX6_linesOfFirst_39 ?_
      refine xv_irem fX6_linesOfFirst_41 (by decide) ?_
      refine xv_iadd fX6_linesOfFirst_42 ?_
      refine xv_is3 fX6_linesOfFirst_43 ?_
      refine xv_il2 fX6_linesOfFirst_44 ?_
      refine xv_k fX6_linesOfFirst_45 ?_
      refine xv_idiv fX6_linesOfFirst_47 (by decide) ?_
      refine xv_is2 fX6_linesOfFirst_48 ?_
      refine xv_iincN4 (a := 1) fX6_linesOfFirst_49 (by decide) ?_
      refine xv_goto fX6_linesOfFirst_52 ?_
      exact ih (k + 1) _ _ (by omega) i0

theorem c_lines (n : Nat) (c : Nat × Nat) (I : xv_I) (J : xv_J) {a : Nat} (hs : a < c.2) (hs2 : a < 20) {np q : Nat} (hnp : I (200 + 5 * a) 2 = nI np) (hnp2 : np ≤ 6) (hq : q ≤ np) : xv_Met mX6_linesOfFirst 0 0 0 (sx n c) I (rx c) J [.ref (200 + 5 * a), .int (nI q)] (xv_eq (.inl (some (.int (xLines (I (200 + 5 * a) 1) np q)))) (sx n c) (I) (rx c) J) := by
  refine xv_Met.of (by decide +kernel) (Nat.le_of_ble_eq_true rfl) (List.forall_mem_cons.mpr ⟨rfl, List.forall_mem_cons.mpr ⟨rfl, fun _ h => nomatch h⟩⟩) ?_
  show xv_W mX6_linesOfFirst 0 0 0 _ 0 0 (sx n c) I (rx c) J 0 [some (.ref (200 + 5 * a)), some (.int (nI q)), none, none, none] []
  refine xv_al0 fX6_linesOfFirst_0 ?_
  refine xv_getI fX6_linesOfFirst_1 gX6_15 rfl (sx_st _ _ hs hs2) ?_
  refine xv_is2 fX6_linesOfFirst_4 ?_
  refine xv_il1 fX6_linesOfFirst_5 ?_
  refine xv_is3 fX6_linesOfFirst_6 ?_
  refine l_lines1 n c I J hs hs2 hnp hnp2 hq (np - q) q _ (by omega) ?_
  refine xv_k fX6_linesOfFirst_26 ?_
  refine xv_is3 fX6_linesOfFirst_27 ?_
  refine xv_k fX6_linesOfFirst_28 ?_
  refine xv_is4 fX6_linesOfFirst_29 ?_
  exact l_lines2 n c I J hs hs2 (by omega) q 0 _ _ (by omega) (fun r9 => by exact xv_il3 fX6_linesOfFirst_55 (xv_iret fX6_linesOfFirst_56 rfl rfl (xv_eq_I rfl rfl)))

theorem c_cells (n : Nat) (c : Nat × Nat) (I : xv_I) (J : xv_J) {a : Nat} (hs : a < c.2) (hs2 : a < 20) {np f t : Nat} (hnp : I (200 + 5 * a) 2 = nI np) (hnp2 : np ≤ 6) (hf : f ≤ np) (ht : t ≤ np) : xv_Met mX6_cellsFor 1 0 0 (sx n c) I (rx c) J [.ref (200 + 5 * a), .int (nI f), .int (nI t)] (xv_eq (.inl (some (.int (xCells (I (200 + 5 * a) 1) np f t)))) (sx n c) (I) (rx c) J) := by
  refine xv_Met.of (by decide +kernel) (Nat.le_of_ble_eq_true rfl) (List.forall_mem_cons.mpr ⟨rfl, List.forall_mem_cons.mpr ⟨rfl, List.forall_mem_cons.mpr ⟨rfl, fun _ h => nomatch h⟩⟩⟩) ?_
  show xv_W mX6_cellsFor 1 0 0 _ 0 0 (sx n c) I (rx c) J 0 [some (.ref (200 + 5 * a)), some (.int (nI f)), some (.int (nI t)), none] []
  refine xv_al0 fX6_cellsFor_0 ?_
  refine xv_il2 fX6_cellsFor_1 ?_
  refine xv_callV1R (c_lines n c I J hs hs2 hnp hnp2 ht) fX6_cellsFor_2 YX6_linesOfFirst VX6_linesOfFirst lX6_32 rfl rfl (sx_st _ _ hs hs2) (Nat.le_of_ble_eq_true rfl) (by decide) (by decide) (by decide) ?_
  refine xv_al0 fX6_cellsFor_5 ?_
  refine xv_il1 fX6_cellsFor_6 ?_
  refine xv_callV1R (c_lines n c I J hs hs2 hnp hnp2 hf) fX6_cellsFor_7 YX6_linesOfFirst VX6_linesOfFirst lX6_32 rfl rfl (sx_st _ _ hs hs2) (Nat.le_of_ble_eq_true rfl) (by decide) (by decide) (by decide) ?_
  refine xv_isub fX6_cellsFor_10 ?_
  refine xv_is3 fX6_cellsFor_11 ?_
  refine xv_il3 fX6_cellsFor_12 ?_
  refine xv_k fX6_cellsFor_13 ?_
  refine xv_iadd fX6_cellsFor_14 ?_
  refine xv_k fX6_cellsFor_15 ?_
  refine xv_isub fX6_cellsFor_16 ?_
  refine xv_k fX6_cellsFor_17 ?_
  refine xv_idiv fX6_cellsFor_18 (by decide) ?_
  exact xv_iret fX6_cellsFor_19 rfl rfl (xv_eq_I rfl rfl)

/-- whether a run of z cells fits on page p of section s -/
abbrev xSRok (I : xv_I) (p : Nat) (s : Int32) (z : Nat) : Prop := I 13 p = s ∧ ¬ xRun (xOpen I p (I 20 3)) z 12 0 0 = -1
noncomputable def xSRI (I : xv_I) (i p z : Nat) : xv_I := xSetPart 25 i (nI p) (xRun (xOpen I p (I 20 3)) z 12 0 0) (nI z) I
noncomputable def xSR (I : xv_I) (i p : Nat) (s : Int32) (z : Nat) : xv_I := iteP (xSRok I p s z) (xSRI I i p z) I
def xCost (I : xv_I) : Int32 := xBC (xWPl I 25 &&& (I 20 4 ^^^ (-1)))
noncomputable def xKeep (I : xv_I) : xv_I := iteP (I 21 0 = 0 ∨ xCost I < I 20 5) (xv_u (xCopy 21 25 I) 20 5 (xCost I)) I
theorem c_setRun (n : Nat) (c : Nat × Nat) (I : xv_I) (J : xv_J) {i p z : Nat} {s : Int32} (hi : i < 2) (hp : p < 10) (hz : 0 < z) (hz2 : z ≤ 100) : xv_Met mX3_setRun 3 0 0 (sx n c) I (rx c) J [.ref 20, .int (nI i), .int (nI p), .int s, .int (nI z)] (xv_eq (.inl (some (.int (bi (xSRok I p s z))))) (sx n c) (xSR I i p s z) (rx c) J) := by
  refine xv_Met.of (by decide +kernel) (Nat.le_of_ble_eq_true rfl) (List.forall_mem_cons.mpr ⟨rfl, List.forall_mem_cons.mpr ⟨rfl, List.forall_mem_cons.mpr ⟨rfl, List.forall_mem_cons.mpr ⟨rfl, List.forall_mem_cons.mpr ⟨rfl, fun _ h => nomatch h⟩⟩⟩⟩⟩) ?_
  show xv_W mX3_setRun 3 0 0 _ 0 0 (sx n c) I (rx c) J 0 [some (.ref 20), some (.int (nI i)), some (.int (nI p)), some (.int s), some (.int (nI z)), none] []
  refine xv_al0 fX3_setRun_0 ?_
  refine xv_getR fX3_setRun_1 gX3_9 rfl (sx_20 _ _) (rx_20_0 _) ?_
  refine xv_il2 fX3_setRun_4 ?_
  refine xv_callV1R (c_sectionOf n c I J hp) fX3_setRun_5 YX5_sectionOf VX5_sectionOf lX3_65 rfl rfl (sx_1 _ _) (Nat.le_of_ble_eq_true rfl) (by decide) (by decide) (by decide) ?_
  refine xv_il3 fX3_setRun_8 ?_
  refine xv_ic_eq fX3_setRun_9 (fun h_9 => ?_) (fun h_9 => ?_)
  · refine xv_al0 fX3_setRun_14 ?_
    refine xv_getR fX3_setRun_15 gX3_9 rfl (sx_20 _ _) (rx_20_0 _) ?_
    refine xv_il2 fX3_setRun_18 ?_
    refine xv_il4 fX3_setRun_19 ?_
    refine xv_al0 fX3_setRun_21 ?_
    refine xv_getI fX3_setRun_22 gX3_25 rfl (sx_20 _ _) ?_
    refine xv_callV3R (c_freeRun n c I J hp hz hz2) fX3_setRun_25 YX5_freeRun VX5_freeRun lX3_71 rfl rfl (sx_1 _ _) (Nat.le_of_ble_eq_true rfl) (by decide) (by decide) (by decide) ?_
    refine xv_is5 fX3_setRun_28 ?_
    refine xv_il5 fX3_setRun_30 ?_
    refine xv_k fX3_setRun_32 ?_
    refine xv_ic_ne fX3_setRun_33 (fun h_33 => ?_) (fun h_33 => ?_)
    · refine xv_al0 fX3_setRun_38 ?_
      refine xv_getR fX3_setRun_39 gX3_22 rfl (sx_20 _ _) (rx_20_2 _) ?_
      refine xv_il1 fX3_setRun_42 ?_
      refine xv_il2 fX3_setRun_43 ?_
      refine xv_il5 fX3_setRun_44 ?_
      refine xv_il4 fX3_setRun_46 ?_
      refine xv_callV4V (c_setPart n c _ J (isWay_25 n c) hi) fX3_setRun_48 YX8_setPart VX8_setPart lX3_75 rfl rfl (sx_25 _ _) (Nat.le_of_ble_eq_true rfl) (by decide) (by decide) (by decide) ?_
      refine xv_k fX3_setRun_51 ?_
      exact xv_iret fX3_setRun_52 rfl (by decide) (xv_eq_I (by rw [bi_t ⟨h_9, h_33⟩]) (by rw [xSR, iteP_t ⟨h_9, h_33⟩]; rfl))
    · refine xv_k fX3_setRun_36 ?_
      exact xv_iret fX3_setRun_37 rfl (by decide) (xv_eq_I (by rw [bi_f (fun h => h.2 h_33)]) (by rw [xSR, iteP_f (fun h => h.2 h_33)]))
  · refine xv_k fX3_setRun_12 ?_
    exact xv_iret fX3_setRun_13 rfl (by decide) (xv_eq_I (by rw [bi_f (fun h => h_9 h.1)]) (by rw [xSR, iteP_f (fun h => h_9 h.1)]))

theorem fa_le_nlt {a b : Int32} (h : a ≤ b) : ¬ b < a := fun q => by
  rw [fa_le] at h
  rw [fa_lt] at q
  omega
theorem c_keep (n : Nat) (c : Nat × Nat) (I : xv_I) (J : xv_J)  : xv_Met mX3_keepIfCheaper 2 0 0 (sx n c) I (rx c) J [.ref 20] (xv_eq (.inl none) (sx n c) (xKeep I) (rx c) J) := by
  refine xv_Met.of (by decide +kernel) (Nat.le_of_ble_eq_true rfl) (List.forall_mem_cons.mpr ⟨rfl, fun _ h => nomatch h⟩) ?_
  show xv_W mX3_keepIfCheaper 2 0 0 _ 0 0 (sx n c) I (rx c) J 0 [some (.ref 20), none] []
  refine xv_al0 fX3_keepIfCheaper_0 ?_
  refine xv_getR fX3_keepIfCheaper_1 gX3_22 rfl (sx_20 _ _) (rx_20_2 _) ?_
  refine xv_callV0R (c_wplates n c I J (isWay_25 n c)) fX3_keepIfCheaper_4 YX8_plates VX8_plates lX3_79 rfl rfl (sx_25 _ _) (Nat.le_of_ble_eq_true rfl) (by decide) (by decide) (by decide) ?_
  refine xv_al0 fX3_keepIfCheaper_7 ?_
  refine xv_getI fX3_keepIfCheaper_8 gX3_29 rfl (sx_20 _ _) ?_
  refine xv_k fX3_keepIfCheaper_11 ?_
  refine xv_ixor fX3_keepIfCheaper_12 ?_
  refine xv_iand fX3_keepIfCheaper_13 ?_
  refine xv_callS1R (c_bc n c _ J (_)) fX3_keepIfCheaper_14 YJ6_bitCount_0f7a4 VJ6_bitCount_0f7a4 lX3_83 rfl (Nat.le_of_ble_eq_true rfl) (by decide) (by decide) (by decide) ?_
  refine xv_is1 fX3_keepIfCheaper_17 ?_
  refine xv_al0 fX3_keepIfCheaper_18 ?_
  refine xv_getR fX3_keepIfCheaper_19 gX3_18 rfl (sx_20 _ _) (rx_20_1 _) ?_
  refine xv_getI fX3_keepIfCheaper_22 gX3_47 rfl (sx_21 _ _) ?_
  refine xv_if_eq fX3_keepIfCheaper_25 (fun h_25 => ?_) (fun h_25 => ?_)
  · refine xv_al0 fX3_keepIfCheaper_36 ?_
    refine xv_getR fX3_keepIfCheaper_37 gX3_18 rfl (sx_20 _ _) (rx_20_1 _) ?_
    refine xv_al0 fX3_keepIfCheaper_40 ?_
    refine xv_getR fX3_keepIfCheaper_41 gX3_22 rfl (sx_20 _ _) (rx_20_2 _) ?_
    refine xv_callV1V (c_copy n c _ J (isWay_21 n c) (isWay_25 n c)) fX3_keepIfCheaper_44 YX8_copy VX8_copy lX3_91 rfl rfl (sx_21 _ _) (Nat.le_of_ble_eq_true rfl) (by decide) (by decide) (by decide) ?_
    refine xv_al0 fX3_keepIfCheaper_47 ?_
    refine xv_il1 fX3_keepIfCheaper_48 ?_
    refine xv_putI fX3_keepIfCheaper_49 gX3_88 rfl (tp3_5 _) (sx_20 _ _) ⟨rfl, rfl⟩ ?_
    exact xv_vret fX3_keepIfCheaper_52 rfl (xv_eq_I rfl (by rw [xKeep, iteP_t (show I 21 0 = 0 ∨ xCost I < I 20 5 from Or.inl h_25)]; rfl))
  · refine xv_il1 fX3_keepIfCheaper_28 ?_
    refine xv_al0 fX3_keepIfCheaper_29 ?_
    refine xv_getI fX3_keepIfCheaper_30 gX3_88 rfl (sx_20 _ _) ?_
    refine xv_ic_ge fX3_keepIfCheaper_33 (fun h_33 => ?_) (fun h_33 => ?_)
    · exact xv_vret fX3_keepIfCheaper_52 rfl (xv_eq_I rfl (by rw [xKeep, iteP_f (fun h => h.elim h_25 (fun q => absurd q (fa_le_nlt h_33)))]))
    · refine xv_al0 fX3_keepIfCheaper_36 ?_
      refine xv_getR fX3_keepIfCheaper_37 gX3_18 rfl (sx_20 _ _) (rx_20_1 _) ?_
      refine xv_al0 fX3_keepIfCheaper_40 ?_
      refine xv_getR fX3_keepIfCheaper_41 gX3_22 rfl (sx_20 _ _) (rx_20_2 _) ?_
      refine xv_callV1V (c_copy n c _ J (isWay_21 n c) (isWay_25 n c)) fX3_keepIfCheaper_44 YX8_copy VX8_copy lX3_91 rfl rfl (sx_21 _ _) (Nat.le_of_ble_eq_true rfl) (by decide) (by decide) (by decide) ?_
      refine xv_al0 fX3_keepIfCheaper_47 ?_
      refine xv_il1 fX3_keepIfCheaper_48 ?_
      refine xv_putI fX3_keepIfCheaper_49 gX3_88 rfl (tp3_5 _) (sx_20 _ _) ⟨rfl, rfl⟩ ?_
      exact xv_vret fX3_keepIfCheaper_52 rfl (xv_eq_I rfl (by rw [xKeep, iteP_t (show I 21 0 = 0 ∨ xCost I < I 20 5 from Or.inr (fa_of_nle h_33))]; rfl))

/-- a story with np paragraphs, at least lo, and cz f t cells for those from f to t -/
abbrev xSt (I : xv_I) (a np lo : Nat) (cz : Nat → Nat → Nat) (sc : Int32) : Prop := I (200 + 5 * a) 0 = sc ∧ I (200 + 5 * a) 2 = nI np ∧ I (200 + 5 * a) 3 = nI lo ∧ 1 ≤ lo ∧ lo ≤ np ∧ np ≤ 6 ∧ ∀ f t, f < t → t ≤ np → xCells (I (200 + 5 * a) 1) np f t = nI (cz f t) ∧ 0 < cz f t ∧ cz f t ≤ 100
theorem xSt.to {I I' : xv_I} {a np lo : Nat} {cz : Nat → Nat → Nat} {sc : Int32} (h : xSt I a np lo cz sc) (h2 : ∀ j, I' (200 + 5 * a) j = I (200 + 5 * a) j) : xSt I' a np lo cz sc := by
  unfold xSt
  simp only [h2]
  exact h
theorem xSetPart_o (I : xv_I) {w i : Nat} (pg st sz : Int32) {v : Nat} (j : Nat) (h : v ≠ w + 1 ∧ v ≠ w + 2 ∧ v ≠ w + 3) : xSetPart w i pg st sz I v j = I v j := by
  unfold xSetPart
  rw [xv_u_ne _ _ _ h.2.2, xv_u_ne _ _ _ h.2.1, xv_u_ne _ _ _ h.1]
theorem it_inv {α : Type} (P : α → Prop) {f : Nat → α → α} (hf : ∀ k s, P s → P (f k s)) : ∀ (m k : Nat) (s : α), P s → P (it f m k s)
  | 0, _, _, h => h
  | m + 1, k, s, h => it_inv P hf m (k + 1) _ (hf k s h)
theorem xClear_o (I : xv_I) {w v : Nat} (j : Nat) (h : v < w ∨ w + 3 < v) : xClear w I v j = I v j := by
  unfold xClear
  refine it_inv (fun s : xv_I => s v j = I v j) (fun k s hs => ?_) 2 0 _ ?_
  · rw [xSetPart_o _ _ _ _ _ ⟨by omega, by omega, by omega⟩]
    exact hs
  · exact xv_u_ne _ _ _ (by omega)
theorem xCopy_o (I : xv_I) {w u v : Nat} (j : Nat) (h : v < w ∨ w + 3 < v) : xCopy w u I v j = I v j := by
  unfold xCopy
  refine it_inv (fun s : xv_I => s v j = I v j) (fun k s hs => ?_) 2 0 _ ?_
  · unfold xCopy1
    rw [xSetPart_o _ _ _ _ _ ⟨by omega, by omega, by omega⟩]
    exact hs
  · exact xv_u_ne _ _ _ (by omega)
theorem xSR_o (I : xv_I) {i p z : Nat} {s : Int32} {v : Nat} (j : Nat) (h : 100 ≤ v) : xSR I i p s z v j = I v j := by
  unfold xSR
  by_cases h9 : xSRok I p s z
  · rw [iteP_t h9, xSRI, xSetPart_o _ _ _ _ _ ⟨by omega, by omega, by omega⟩]
  · rw [iteP_f h9]
theorem xKeep_o (I : xv_I) {v : Nat} (j : Nat) (h : 100 ≤ v) : xKeep I v j = I v j := by
  unfold xKeep
  by_cases h9 : I 21 0 = 0 ∨ xCost I < I 20 5
  · rw [iteP_t h9, xv_u_ne _ _ _ (by omega), xCopy_o _ _ (Or.inr (by omega))]
  · rw [iteP_f h9]
/-- one page tried -/
noncomputable def xOne1 (sc : Int32) (z p : Nat) (I : xv_I) : xv_I := iteP (xSRok I p sc z) (xKeep (xSR I 0 p sc z)) I
noncomputable def xOne (sc : Int32) (z k : Nat) (I : xv_I) : xv_I := it (xOne1 sc z) 7 0 (xv_u (xClear 25 I) 25 0 (nI k))
theorem xOne1_o (I : xv_I) {sc : Int32} {z p v : Nat} (j : Nat) (h : 100 ≤ v) : xOne1 sc z p I v j = I v j := by
  unfold xOne1
  by_cases h9 : xSRok I p sc z
  · rw [iteP_t h9, xKeep_o _ _ h, xSR_o _ _ h]
  · rw [iteP_f h9]
theorem xOne_o (I : xv_I) {sc : Int32} {z k v : Nat} (j : Nat) (h : 100 ≤ v) : xOne sc z k I v j = I v j := by
  unfold xOne
  refine it_inv (fun s : xv_I => s v j = I v j) (fun k s hs => ?_) 7 0 _ ?_
  · rw [xOne1_o _ _ h]
    exact hs
  · rw [xv_u_ne _ _ _ (by omega), xClear_o _ _ (Or.inr (by omega))]
theorem l_one (n : Nat) (c : Nat × Nat) (J : xv_J) {a : Nat} (hs : a < c.2) (hs2 : a < 20) {np lo : Nat} {cz : Nat → Nat → Nat} {sc : Int32} {q z : Nat} (hz : 0 < z) (hz2 : z ≤ 100) {Q : xv_Q} : ∀ (m k : Nat) (I : xv_I), k + m = 7 → (xSt I a np lo cz sc) → xv_W mX3_tryOnePage 4 0 0 Q 0 0 (sx n c) (it (xOne1 sc z) m k I) (rx c) J 57 (some (.ref 20) :: some (.ref (200 + 5 * a)) :: some (.int (nI q)) :: some (.int (nI z)) :: some (.int (nI 7)) :: []) [] → xv_W mX3_tryOnePage 4 0 0 Q 0 0 (sx n c) I (rx c) J 25 (some (.ref 20) :: some (.ref (200 + 5 * a)) :: some (.int (nI q)) :: some (.int (nI z)) :: some (.int (nI k)) :: []) [] := by
  intro m
  induction m with
  | zero =>
    intro k I hm i0 hx
    obtain rfl : k = 7 := by omega
    refine xv_il4 fX3_tryOnePage_25 ?_
    refine xv_k fX3_tryOnePage_27 ?_
    refine xv_ic_ge fX3_tryOnePage_29 (fun h_29 => ?_) (fun h_29 => ?_)
    · exact hx
    · exact absurd (nI_le (Nat.le_refl _) (by decide)) h_29
  | succ m ih =>
    intro k I hm i0 hx
    have hk : k < 7 := by omega
    show xv_W mX3_tryOnePage 4 0 0 _ 0 0 (sx n c) I (rx c) J 25 (some (.ref 20) :: some (.ref (200 + 5 * a)) :: some (.int (nI q)) :: some (.int (nI z)) :: some (.int (nI k)) :: []) []
    refine xv_il4 fX3_tryOnePage_25 ?_
    refine xv_k fX3_tryOnePage_27 ?_
    refine xv_ic_ge fX3_tryOnePage_29 (fun h_29 => ?_) (fun h_29 => ?_)
    · exact absurd h_29 (nI_ge hk (by decide))
    · refine xv_al0 fX3_tryOnePage_32 ?_
      refine xv_k fX3_tryOnePage_33 ?_
      refine xv_il4 fX3_tryOnePage_34 ?_
      refine xv_al1 fX3_tryOnePage_36 ?_
      refine xv_getI fX3_tryOnePage_37 gX3_55 rfl (sx_st _ _ hs hs2) ?_
      rw [i0.1]
      refine xv_il3 fX3_tryOnePage_40 ?_
      refine xv_callV4R (c_setRun n c _ J (i := 0) (by decide) (p := k) (by omega) hz hz2) fX3_tryOnePage_41 YX3_setRun VX3_setRun lX3_58 rfl rfl (sx_20 _ _) (Nat.le_of_ble_eq_true rfl) (by decide) (by decide) (by decide) ?_
      refine xv_if_eq fX3_tryOnePage_44 (fun h_44 => ?_) (fun h_44 => ?_)
      · refine xv_iincN4 (a := 1) fX3_tryOnePage_51 (by decide) ?_
        refine xv_goto fX3_tryOnePage_54 ?_
        refine xv_eqI (I' := xOne1 sc z k I) (by rw [xOne1, iteP_f (bi_0 h_44), xSR, iteP_f (bi_0 h_44)]) ?_
        exact ih (k + 1) _ (by omega) (i0.to (fun j => xOne1_o _ _ (by omega))) hx
      · refine xv_al0 fX3_tryOnePage_47 ?_
        refine xv_callV0V (c_keep n c _ J) fX3_tryOnePage_48 YX3_keepIfCheaper VX3_keepIfCheaper lX3_62 rfl rfl (sx_20 _ _) (Nat.le_of_ble_eq_true rfl) (by decide) (by decide) (by decide) ?_
        refine xv_iincN4 (a := 1) fX3_tryOnePage_51 (by decide) ?_
        refine xv_goto fX3_tryOnePage_54 ?_
        refine xv_eqI (I' := xOne1 sc z k I) (by rw [xOne1, iteP_t (bi_1 h_44)]) ?_
        exact ih (k + 1) _ (by omega) (i0.to (fun j => xOne1_o _ _ (by omega))) hx

theorem c_one (n : Nat) (c : Nat × Nat) (I : xv_I) (J : xv_J) {a : Nat} (hs : a < c.2) (hs2 : a < 20) {np lo : Nat} {cz : Nat → Nat → Nat} {sc : Int32} {q : Nat} (hS : xSt I a np lo cz sc) (hq : 1 ≤ q) (hq2 : q ≤ np) : xv_Met mX3_tryOnePage 4 0 0 (sx n c) I (rx c) J [.ref 20, .ref (200 + 5 * a), .int (nI q)] (xv_eq (.inl none) (sx n c) (xOne sc (cz 0 q) q I) (rx c) J) := by
  refine xv_Met.of (by decide +kernel) (Nat.le_of_ble_eq_true rfl) (List.forall_mem_cons.mpr ⟨rfl, List.forall_mem_cons.mpr ⟨rfl, List.forall_mem_cons.mpr ⟨rfl, fun _ h => nomatch h⟩⟩⟩) ?_
  show xv_W mX3_tryOnePage 4 0 0 _ 0 0 (sx n c) I (rx c) J 0 [some (.ref 20), some (.ref (200 + 5 * a)), some (.int (nI q)), none, none] []
  refine xv_al0 fX3_tryOnePage_0 ?_
  refine xv_getR fX3_tryOnePage_1 gX3_22 rfl (sx_20 _ _) (rx_20_2 _) ?_
  refine xv_callV0V (c_clear n c _ J (isWay_25 n c)) fX3_tryOnePage_4 YX8_clear VX8_clear lX3_32 rfl rfl (sx_25 _ _) (Nat.le_of_ble_eq_true rfl) (by decide) (by decide) (by decide) ?_
  refine xv_al0 fX3_tryOnePage_7 ?_
  refine xv_getR fX3_tryOnePage_8 gX3_22 rfl (sx_20 _ _) (rx_20_2 _) ?_
  refine xv_il2 fX3_tryOnePage_11 ?_
  refine xv_putI fX3_tryOnePage_12 gX3_47 rfl (tp8_0 _) (sx_25 _ _) ⟨rfl, rfl⟩ ?_
  obtain hS' : xSt (xv_u (xClear 25 I) 25 0 (nI q)) a np lo cz sc := hS.to (fun j => by rw [xv_u_ne _ _ _ (by omega), xClear_o _ _ (Or.inr (by omega))])
  obtain ⟨hc1, hc2, hc3⟩ := hS'.2.2.2.2.2.2 0 q (by omega) hq2
  refine xv_al1 fX3_tryOnePage_15 ?_
  refine xv_k fX3_tryOnePage_16 ?_
  refine xv_il2 fX3_tryOnePage_17 ?_
  refine xv_callV2R (c_cells n c _ J hs hs2 hS'.2.1 hS'.2.2.2.2.2.1 (Nat.zero_le _) hq2) fX3_tryOnePage_18 YX6_cellsFor VX6_cellsFor lX3_51 rfl rfl (sx_st _ _ hs hs2) (Nat.le_of_ble_eq_true rfl) (by decide) (by decide) (by decide) ?_
  rw [hc1]
  refine xv_is3 fX3_tryOnePage_21 ?_
  refine xv_k fX3_tryOnePage_22 ?_
  refine xv_is4 fX3_tryOnePage_23 ?_
  exact l_one n c J hs hs2 hc2 hc3 7 0 _ rfl hS' (by exact xv_vret fX3_tryOnePage_57 rfl (xv_eq_I rfl rfl))

/-- two pages tried -/
noncomputable def xTwo2 (z q : Nat) (I : xv_I) : xv_I := iteP (xSRok I q (nI 0) z) (xKeep (xSR I 1 q (nI 0) z)) I
noncomputable def xTwo1 (sc : Int32) (z1 z2 p : Nat) (I : xv_I) : xv_I := iteP (xSRok I p sc z1) (it (xTwo2 z2) (7 - (p + 1)) (p + 1) (xSR I 0 p sc z1)) I
noncomputable def xTwoA (sc : Int32) (cz : Nat → Nat → Nat) (k h : Nat) (I : xv_I) : xv_I := it (xTwo1 sc (cz 0 h) (cz h k)) 7 0 I
noncomputable def xTwoL (sc : Int32) (cz : Nat → Nat → Nat) (k : Nat) : Nat → xv_I → xv_I
  | 0, I => I
  | h + 1, I => xTwoL sc cz k h (xTwoA sc cz k (h + 1) I)
noncomputable def xTwo (sc : Int32) (cz : Nat → Nat → Nat) (k : Nat) (I : xv_I) : xv_I := xTwoL sc cz k (k - 1) (xv_u I 25 0 (nI k))
theorem xTwo2_o (I : xv_I) {z q v : Nat} (j : Nat) (h : 100 ≤ v) : xTwo2 z q I v j = I v j := by
  unfold xTwo2
  by_cases h9 : xSRok I q (nI 0) z
  · rw [iteP_t h9, xKeep_o _ _ h, xSR_o _ _ h]
  · rw [iteP_f h9]
theorem xTwo1_o (I : xv_I) {sc : Int32} {z1 z2 p v : Nat} (j : Nat) (h : 100 ≤ v) : xTwo1 sc z1 z2 p I v j = I v j := by
  unfold xTwo1
  by_cases h9 : xSRok I p sc z1
  · rw [iteP_t h9]
    refine it_inv (fun s : xv_I => s v j = I v j) (fun k s hs => ?_) _ _ _ (xSR_o _ _ h)
    rw [xTwo2_o _ _ h]
    exact hs
  · rw [iteP_f h9]
theorem xTwoA_o (I : xv_I) {sc : Int32} {cz : Nat → Nat → Nat} {k p v : Nat} (j : Nat) (h : 100 ≤ v) : xTwoA sc cz k p I v j = I v j := by
  unfold xTwoA
  refine it_inv (fun s : xv_I => s v j = I v j) (fun k s hs => ?_) _ _ _ rfl
  rw [xTwo1_o _ _ h]
  exact hs
theorem xTwoL_o {sc : Int32} {cz : Nat → Nat → Nat} {k v : Nat} (j : Nat) (h : 100 ≤ v) : ∀ (p : Nat) (I : xv_I), xTwoL sc cz k p I v j = I v j
  | 0, _ => rfl
  | p + 1, I => by rw [xTwoL, xTwoL_o j h p, xTwoA_o _ _ h]
theorem xTwo_o (I : xv_I) {sc : Int32} {cz : Nat → Nat → Nat} {k v : Nat} (j : Nat) (h : 100 ≤ v) : xTwo sc cz k I v j = I v j := by
  rw [xTwo, xTwoL_o _ h, xv_u_ne _ _ _ (by omega)]
theorem l_two2 (n : Nat) (c : Nat × Nat) (J : xv_J) {a : Nat} (hs : a < c.2) (hs2 : a < 20) {q z1 z2 g p : Nat} (hz : 0 < z1) (hz2 : z1 ≤ 100) (hy : 0 < z2) (hy2 : z2 ≤ 100) (hp : p < 7) {Q : xv_Q} : ∀ (m k : Nat) (I : xv_I), k + m = 7 → xv_W mX3_tryTwoPages 4 0 0 Q 0 0 (sx n c) (it (xTwo2 z2) m k I) (rx c) J 98 (some (.ref 20) :: some (.ref (200 + 5 * a)) :: some (.int (nI q)) :: some (.int (nI g)) :: some (.int (nI z1)) :: some (.int (nI z2)) :: some (.int (nI p)) :: some (.int (nI 7)) :: []) [] → xv_W mX3_tryTwoPages 4 0 0 Q 0 0 (sx n c) I (rx c) J 68 (some (.ref 20) :: some (.ref (200 + 5 * a)) :: some (.int (nI q)) :: some (.int (nI g)) :: some (.int (nI z1)) :: some (.int (nI z2)) :: some (.int (nI p)) :: some (.int (nI k)) :: []) [] := by
  intro m
  induction m with
  | zero =>
    intro k I hm  hx
    obtain rfl : k = 7 := by omega
    refine xv_il7 fX3_tryTwoPages_68 ?_
    refine xv_k fX3_tryTwoPages_70 ?_
    refine xv_ic_ge fX3_tryTwoPages_72 (fun h_72 => ?_) (fun h_72 => ?_)
    · exact hx
    · exact absurd (nI_le (Nat.le_refl _) (by decide)) h_72
  | succ m ih =>
    intro k I hm  hx
    have hk : k < 7 := by omega
    show xv_W mX3_tryTwoPages 4 0 0 _ 0 0 (sx n c) I (rx c) J 68 (some (.ref 20) :: some (.ref (200 + 5 * a)) :: some (.int (nI q)) :: some (.int (nI g)) :: some (.int (nI z1)) :: some (.int (nI z2)) :: some (.int (nI p)) :: some (.int (nI k)) :: []) []
    refine xv_il7 fX3_tryTwoPages_68 ?_
    refine xv_k fX3_tryTwoPages_70 ?_
    refine xv_ic_ge fX3_tryTwoPages_72 (fun h_72 => ?_) (fun h_72 => ?_)
    · exact absurd h_72 (nI_ge hk (by decide))
    · refine xv_al0 fX3_tryTwoPages_75 ?_
      refine xv_k fX3_tryTwoPages_76 ?_
      refine xv_il7 fX3_tryTwoPages_77 ?_
      refine xv_k fX3_tryTwoPages_79 ?_
      refine xv_il5 fX3_tryTwoPages_80 ?_
      refine xv_callV4R (c_setRun n c _ J (i := 1) (by decide) (p := k) (by omega) hy hy2) fX3_tryTwoPages_82 YX3_setRun VX3_setRun lX3_58 rfl rfl (sx_20 _ _) (Nat.le_of_ble_eq_true rfl) (by decide) (by decide) (by decide) ?_
      refine xv_if_eq fX3_tryTwoPages_85 (fun h_85 => ?_) (fun h_85 => ?_)
      · refine xv_iincN7 (a := 1) fX3_tryTwoPages_92 (by decide) ?_
        refine xv_goto fX3_tryTwoPages_95 ?_
        refine xv_eqI (I' := xTwo2 z2 k I) (by rw [xTwo2, iteP_f (bi_0 h_85), xSR, iteP_f (bi_0 h_85)]) ?_
        exact ih (k + 1) _ (by omega) hx
      · refine xv_al0 fX3_tryTwoPages_88 ?_
        refine xv_callV0V (c_keep n c _ J) fX3_tryTwoPages_89 YX3_keepIfCheaper VX3_keepIfCheaper lX3_62 rfl rfl (sx_20 _ _) (Nat.le_of_ble_eq_true rfl) (by decide) (by decide) (by decide) ?_
        refine xv_iincN7 (a := 1) fX3_tryTwoPages_92 (by decide) ?_
        refine xv_goto fX3_tryTwoPages_95 ?_
        refine xv_eqI (I' := xTwo2 z2 k I) (by rw [xTwo2, iteP_t (bi_1 h_85)]) ?_
        exact ih (k + 1) _ (by omega) hx

theorem l_two1 (n : Nat) (c : Nat × Nat) (J : xv_J) {a : Nat} (hs : a < c.2) (hs2 : a < 20) {np lo : Nat} {cz : Nat → Nat → Nat} {sc : Int32} {q z1 z2 g : Nat} (hz : 0 < z1) (hz2 : z1 ≤ 100) (hy : 0 < z2) (hy2 : z2 ≤ 100) {Q : xv_Q} : ∀ (m k : Nat) (I : xv_I) (l7 : Option Value), k + m = 7 → (xSt I a np lo cz sc) → (∀ l7, xv_W mX3_tryTwoPages 4 0 0 Q 0 0 (sx n c) (it (xTwo1 sc z1 z2) m k I) (rx c) J 104 (some (.ref 20) :: some (.ref (200 + 5 * a)) :: some (.int (nI q)) :: some (.int (nI g)) :: some (.int (nI z1)) :: some (.int (nI z2)) :: some (.int (nI 7)) :: l7 :: []) []) → xv_W mX3_tryTwoPages 4 0 0 Q 0 0 (sx n c) I (rx c) J 36 (some (.ref 20) :: some (.ref (200 + 5 * a)) :: some (.int (nI q)) :: some (.int (nI g)) :: some (.int (nI z1)) :: some (.int (nI z2)) :: some (.int (nI k)) :: l7 :: []) [] := by
  intro m
  induction m with
  | zero =>
    intro k I l7 hm i0 i1
    obtain rfl : k = 7 := by omega
    refine xv_il6 fX3_tryTwoPages_36 ?_
    refine xv_k fX3_tryTwoPages_38 ?_
    refine xv_ic_ge fX3_tryTwoPages_40 (fun h_40 => ?_) (fun h_40 => ?_)
    · exact i1 _
    · exact absurd (nI_le (Nat.le_refl _) (by decide)) h_40
  | succ m ih =>
    intro k I l7 hm i0 i1
    have hk : k < 7 := by omega
    show xv_W mX3_tryTwoPages 4 0 0 _ 0 0 (sx n c) I (rx c) J 36 (some (.ref 20) :: some (.ref (200 + 5 * a)) :: some (.int (nI q)) :: some (.int (nI g)) :: some (.int (nI z1)) :: some (.int (nI z2)) :: some (.int (nI k)) :: l7 :: []) []
    refine xv_il6 fX3_tryTwoPages_36 ?_
    refine xv_k fX3_tryTwoPages_38 ?_
    refine xv_ic_ge fX3_tryTwoPages_40 (fun h_40 => ?_) (fun h_40 => ?_)
    · exact absurd h_40 (nI_ge hk (by decide))
    · refine xv_al0 fX3_tryTwoPages_43 ?_
      refine xv_k fX3_tryTwoPages_44 ?_
      refine xv_il6 fX3_tryTwoPages_45 ?_
      refine xv_al1 fX3_tryTwoPages_47 ?_
      refine xv_getI fX3_tryTwoPages_48 gX3_55 rfl (sx_st _ _ hs hs2) ?_
      rw [i0.1]
      refine xv_il4 fX3_tryTwoPages_51 ?_
      refine xv_callV4R (c_setRun n c _ J (i := 0) (by decide) (p := k) (by omega) hz hz2) fX3_tryTwoPages_53 YX3_setRun VX3_setRun lX3_58 rfl rfl (sx_20 _ _) (Nat.le_of_ble_eq_true rfl) (by decide) (by decide) (by decide) ?_
      refine xv_if_ne fX3_tryTwoPages_56 (fun h_56 => ?_) (fun h_56 => ?_)
      · refine xv_il6 fX3_tryTwoPages_62 ?_
        refine xv_k fX3_tryTwoPages_64 ?_
        refine xv_iadd fX3_tryTwoPages_65 ?_
        rw [nI_add]
        refine xv_is7 fX3_tryTwoPages_66 ?_
        refine l_two2 n c J hs hs2 hz hz2 hy hy2 hk (7 - (k + 1)) (k + 1) _ (by omega) ?_
        refine xv_iincN6 (a := 1) fX3_tryTwoPages_98 (by decide) ?_
        refine xv_goto fX3_tryTwoPages_101 ?_
        refine xv_eqI (I' := xTwo1 sc z1 z2 k I) (by rw [xTwo1, iteP_t (bi_1 h_56)]) ?_
        exact ih (k + 1) _ _ (by omega) (i0.to (fun j => xTwo1_o _ _ (by omega))) i1
      · refine xv_goto fX3_tryTwoPages_59 ?_
        refine xv_iincN6 (a := 1) fX3_tryTwoPages_98 (by decide) ?_
        refine xv_goto fX3_tryTwoPages_101 ?_
        refine xv_eqI (I' := xTwo1 sc z1 z2 k I) (by rw [xTwo1, iteP_f (bi_0 h_56), xSR, iteP_f (bi_0 h_56)]) ?_
        exact ih (k + 1) _ _ (by omega) (i0.to (fun j => xTwo1_o _ _ (by omega))) i1

theorem l_two (n : Nat) (c : Nat × Nat) (J : xv_J) {Q : xv_Q} {a : Nat} (hs : a < c.2) (hs2 : a < 20) {np lo : Nat} {cz : Nat → Nat → Nat} {sc : Int32} {q : Nat} (hq2 : q ≤ np) : ∀ (k : Nat) (I : xv_I) (l4 l5 l6 l7 : Option Value), k < q → xSt I a np lo cz sc → (∀ l4 l5 l6 l7, xv_W mX3_tryTwoPages 4 0 0 Q 0 0 (sx n c) (xTwoL sc cz q k I) (rx c) J 110 (some (.ref 20) :: some (.ref (200 + 5 * a)) :: some (.int (nI q)) :: some (.int (nI 0)) :: l4 :: l5 :: l6 :: l7 :: []) []) → xv_W mX3_tryTwoPages 4 0 0 Q 0 0 (sx n c) I (rx c) J 12 (some (.ref 20) :: some (.ref (200 + 5 * a)) :: some (.int (nI q)) :: some (.int (nI k)) :: l4 :: l5 :: l6 :: l7 :: []) [] := by
  intro k
  induction k with
  | zero =>
    intro I l4 l5 l6 l7 hk i0 i1
    show xv_W mX3_tryTwoPages 4 0 0 _ 0 0 (sx n c) I (rx c) J 12 (some (.ref 20) :: some (.ref (200 + 5 * a)) :: some (.int (nI q)) :: some (.int (nI 0)) :: l4 :: l5 :: l6 :: l7 :: []) []
    refine xv_il3 fX3_tryTwoPages_12 ?_
    refine xv_k fX3_tryTwoPages_13 ?_
    refine xv_ic_lt fX3_tryTwoPages_14 (fun h_14 => ?_) (fun h_14 => ?_)
    · exact i1 _ _ _ _
    · exact absurd (by decide) h_14
  | succ k ih =>
    intro I l4 l5 l6 l7 hk i0 i1
    show xv_W mX3_tryTwoPages 4 0 0 _ 0 0 (sx n c) I (rx c) J 12 (some (.ref 20) :: some (.ref (200 + 5 * a)) :: some (.int (nI q)) :: some (.int (nI (k + 1))) :: l4 :: l5 :: l6 :: l7 :: []) []
    refine xv_il3 fX3_tryTwoPages_12 ?_
    refine xv_k fX3_tryTwoPages_13 ?_
    refine xv_ic_lt fX3_tryTwoPages_14 (fun h_14 => ?_) (fun h_14 => ?_)
    · exact absurd h_14 (nI_nlt (by omega) (by omega))
    · obtain ⟨hc1, hc2, hc3⟩ := i0.2.2.2.2.2.2 0 (k + 1) (by omega) (by omega)
      obtain ⟨hd1, hd2, hd3⟩ := i0.2.2.2.2.2.2 (k + 1) q (by omega) hq2
      refine xv_al1 fX3_tryTwoPages_17 ?_
      refine xv_k fX3_tryTwoPages_18 ?_
      refine xv_il3 fX3_tryTwoPages_19 ?_
      refine xv_callV2R (c_cells n c _ J hs hs2 i0.2.1 i0.2.2.2.2.2.1 (Nat.zero_le _) (t := k + 1) (by omega)) fX3_tryTwoPages_20 YX6_cellsFor VX6_cellsFor lX3_51 rfl rfl (sx_st _ _ hs hs2) (Nat.le_of_ble_eq_true rfl) (by decide) (by decide) (by decide) ?_
      rw [hc1]
      refine xv_is4 fX3_tryTwoPages_23 ?_
      refine xv_al1 fX3_tryTwoPages_25 ?_
      refine xv_il3 fX3_tryTwoPages_26 ?_
      refine xv_il2 fX3_tryTwoPages_27 ?_
      refine xv_callV2R (c_cells n c _ J hs hs2 i0.2.1 i0.2.2.2.2.2.1 (f := k + 1) (by omega) hq2) fX3_tryTwoPages_28 YX6_cellsFor VX6_cellsFor lX3_51 rfl rfl (sx_st _ _ hs hs2) (Nat.le_of_ble_eq_true rfl) (by decide) (by decide) (by decide) ?_
      rw [hd1]
      refine xv_is5 fX3_tryTwoPages_31 ?_
      refine xv_k fX3_tryTwoPages_33 ?_
      refine xv_is6 fX3_tryTwoPages_34 ?_
      refine l_two1 n c J hs hs2 hc2 hc3 hd2 hd3 7 0 _ _ rfl i0 (fun l7 => ?_)
      refine xv_iincD3 fX3_tryTwoPages_104 (by omega) ?_
      refine xv_goto fX3_tryTwoPages_107 ?_
      rw [show k + 1 - 1 = k from rfl]
      exact ih _ _ _ _ _ (by omega) (i0.to (fun j => xTwoA_o _ _ (by omega))) i1

theorem c_two (n : Nat) (c : Nat × Nat) (I : xv_I) (J : xv_J) {a : Nat} (hs : a < c.2) (hs2 : a < 20) {np lo : Nat} {cz : Nat → Nat → Nat} {sc : Int32} {q : Nat} (hS : xSt I a np lo cz sc) (hq : 1 ≤ q) (hq2 : q ≤ np) : xv_Met mX3_tryTwoPages 4 0 0 (sx n c) I (rx c) J [.ref 20, .ref (200 + 5 * a), .int (nI q)] (xv_eq (.inl none) (sx n c) (xTwo sc cz q I) (rx c) J) := by
  refine xv_Met.of (by decide +kernel) (Nat.le_of_ble_eq_true rfl) (List.forall_mem_cons.mpr ⟨rfl, List.forall_mem_cons.mpr ⟨rfl, List.forall_mem_cons.mpr ⟨rfl, fun _ h => nomatch h⟩⟩⟩) ?_
  show xv_W mX3_tryTwoPages 4 0 0 _ 0 0 (sx n c) I (rx c) J 0 [some (.ref 20), some (.ref (200 + 5 * a)), some (.int (nI q)), none, none, none, none, none] []
  refine xv_al0 fX3_tryTwoPages_0 ?_
  refine xv_getR fX3_tryTwoPages_1 gX3_22 rfl (sx_20 _ _) (rx_20_2 _) ?_
  refine xv_il2 fX3_tryTwoPages_4 ?_
  refine xv_putI fX3_tryTwoPages_5 gX3_47 rfl (tp8_0 _) (sx_25 _ _) ⟨rfl, rfl⟩ ?_
  refine xv_il2 fX3_tryTwoPages_8 ?_
  refine xv_k fX3_tryTwoPages_9 ?_
  refine xv_isub fX3_tryTwoPages_10 ?_
  rw [nI_sub hq]
  refine xv_is3 fX3_tryTwoPages_11 ?_
  exact l_two n c J hs hs2 hq2 (q - 1) _ _ _ _ _ (by omega) (hS.to (fun j => xv_u_ne _ _ _ (by omega))) (fun l4 l5 l6 l7 => by exact xv_vret fX3_tryTwoPages_110 rfl (xv_eq_I rfl rfl))

noncomputable def xMid (sc : Int32) (cz : Nat → Nat → Nat) (k : Nat) (I : xv_I) : xv_I := if xOne sc (cz 0 k) k I 21 0 = 0 then xTwo sc cz k (xOne sc (cz 0 k) k I) else xOne sc (cz 0 k) k I
noncomputable def xFindL (sc : Int32) (cz : Nat → Nat → Nat) : Nat → Nat → xv_I → Int32 × xv_I
  | 0, _, I => (nI 0, I)
  | m + 1, k, I => if xMid sc cz k I 21 0 ≤ 0 then xFindL sc cz m (k - 1) (xMid sc cz k I) else (nI 1, xMid sc cz k I)
noncomputable def xFind (sc : Int32) (cz : Nat → Nat → Nat) (np lo : Nat) (g cl : Int32) (I : xv_I) : Int32 × xv_I := xFindL sc cz (np + 1 - lo) np (xClear 21 (xv_u (xv_u I 20 3 g) 20 4 cl))
theorem xMid_o (I : xv_I) {sc : Int32} {cz : Nat → Nat → Nat} {k v : Nat} (j : Nat) (h : 100 ≤ v) : xMid sc cz k I v j = I v j := by
  unfold xMid
  split
  · rw [xTwo_o _ _ h, xOne_o _ _ h]
  · rw [xOne_o _ _ h]
theorem l_find (n : Nat) (c : Nat × Nat) (J : xv_J) {a : Nat} (hs : a < c.2) (hs2 : a < 20) {np lo : Nat} {cz : Nat → Nat → Nat} {sc : Int32} {x y : Int32} : ∀ (m k : Nat) (I : xv_I), k + 1 = lo + m → k ≤ np → xSt I a np lo cz sc → xv_W mX3_find 5 0 0 (xv_eq (.inl (some (.int ((xFindL sc cz m k I).1)))) (sx n c) ((xFindL sc cz m k I).2) (rx c) J) 0 0 (sx n c) I (rx c) J 23 [some (.ref 20), some (.ref (200 + 5 * a)), some (.int x), some (.int y), some (.int (nI k))] [] := by
  intro m
  induction m with
  | zero =>
    intro k I hm hk i0
    show xv_W mX3_find 5 0 0 _ 0 0 (sx n c) I (rx c) J 23 [some (.ref 20), some (.ref (200 + 5 * a)), some (.int x), some (.int y), some (.int (nI k))] []
    refine xv_il4 fX3_find_23 ?_
    refine xv_al1 fX3_find_25 ?_
    refine xv_getI fX3_find_26 gX3_40 rfl (sx_st _ _ hs hs2) ?_
    rw [i0.2.2.1]
    refine xv_ic_lt fX3_find_29 (fun h_29 => ?_) (fun h_29 => ?_)
    · refine xv_k fX3_find_74 ?_
      exact xv_iret fX3_find_75 rfl (by decide) (xv_eq_I rfl rfl)
    · exact absurd (nI_lt (by omega) (by have := i0.2.2.2.2.1; have := i0.2.2.2.2.2.1; omega)) h_29
  | succ m ih =>
    intro k I hm hk i0
    show xv_W mX3_find 5 0 0 _ 0 0 (sx n c) I (rx c) J 23 [some (.ref 20), some (.ref (200 + 5 * a)), some (.int x), some (.int y), some (.int (nI k))] []
    refine xv_il4 fX3_find_23 ?_
    refine xv_al1 fX3_find_25 ?_
    refine xv_getI fX3_find_26 gX3_40 rfl (sx_st _ _ hs hs2) ?_
    rw [i0.2.2.1]
    refine xv_ic_lt fX3_find_29 (fun h_29 => ?_) (fun h_29 => ?_)
    · exact absurd h_29 (nI_nlt (by omega) (by have := i0.2.2.2.2.2.1; omega))
    · obtain hk1 : 1 ≤ k := by have := i0.2.2.2.1; omega
      refine xv_al0 fX3_find_32 ?_
      refine xv_al1 fX3_find_33 ?_
      refine xv_il4 fX3_find_34 ?_
      refine xv_callV2V (c_one n c _ J hs hs2 i0 hk1 hk) fX3_find_36 YX3_tryOnePage VX3_tryOnePage lX3_43 rfl rfl (sx_20 _ _) (Nat.le_of_ble_eq_true rfl) (by decide) (by decide) (by decide) ?_
      refine xv_al0 fX3_find_39 ?_
      refine xv_getR fX3_find_40 gX3_18 rfl (sx_20 _ _) (rx_20_1 _) ?_
      refine xv_getI fX3_find_43 gX3_47 rfl (sx_21 _ _) ?_
      refine xv_if_ne fX3_find_46 (fun h_46 => ?_) (fun h_46 => ?_)
      · refine xv_eqI (I' := xMid sc cz k I) (by rw [xMid, if_neg h_46]) ?_
        refine xv_al0 fX3_find_56 ?_
        refine xv_getR fX3_find_57 gX3_18 rfl (sx_20 _ _) (rx_20_1 _) ?_
        refine xv_getI fX3_find_60 gX3_47 rfl (sx_21 _ _) ?_
        refine xv_if_le fX3_find_63 (fun h_63 => ?_) (fun h_63 => ?_)
        · refine xv_iincD4 fX3_find_68 (by omega) ?_
          refine xv_goto fX3_find_71 ?_
          rw [xFindL, if_pos h_63]
          exact ih (k - 1) _ (by omega) (by omega) (i0.to (fun j => xMid_o _ _ (by omega)))
        · refine xv_k fX3_find_66 ?_
          exact xv_iret fX3_find_67 rfl (by decide) (xv_eq_I (by rw [xFindL, if_neg h_63]) (by rw [xFindL, if_neg h_63]))
      · refine xv_al0 fX3_find_49 ?_
        refine xv_al1 fX3_find_50 ?_
        refine xv_il4 fX3_find_51 ?_
        refine xv_callV2V (c_two n c _ J hs hs2 (i0.to (fun j => xOne_o _ _ (by omega))) hk1 hk) fX3_find_53 YX3_tryTwoPages VX3_tryTwoPages lX3_48 rfl rfl (sx_20 _ _) (Nat.le_of_ble_eq_true rfl) (by decide) (by decide) (by decide) ?_
        refine xv_eqI (I' := xMid sc cz k I) (by rw [xMid, if_pos h_46]) ?_
        refine xv_al0 fX3_find_56 ?_
        refine xv_getR fX3_find_57 gX3_18 rfl (sx_20 _ _) (rx_20_1 _) ?_
        refine xv_getI fX3_find_60 gX3_47 rfl (sx_21 _ _) ?_
        refine xv_if_le fX3_find_63 (fun h_63 => ?_) (fun h_63 => ?_)
        · refine xv_iincD4 fX3_find_68 (by omega) ?_
          refine xv_goto fX3_find_71 ?_
          rw [xFindL, if_pos h_63]
          exact ih (k - 1) _ (by omega) (by omega) (i0.to (fun j => xMid_o _ _ (by omega)))
        · refine xv_k fX3_find_66 ?_
          exact xv_iret fX3_find_67 rfl (by decide) (xv_eq_I (by rw [xFindL, if_neg h_63]) (by rw [xFindL, if_neg h_63]))

theorem c_find (n : Nat) (c : Nat × Nat) (I : xv_I) (J : xv_J) {a : Nat} (hs : a < c.2) (hs2 : a < 20) {np lo : Nat} {cz : Nat → Nat → Nat} {sc : Int32} {x y : Int32} (hS : xSt I a np lo cz sc) : xv_Met mX3_find 5 0 0 (sx n c) I (rx c) J [.ref 20, .ref (200 + 5 * a), .int x, .int y] (xv_eq (.inl (some (.int ((xFind sc cz np lo x y I).1)))) (sx n c) ((xFind sc cz np lo x y I).2) (rx c) J) := by
  refine xv_Met.of (by decide +kernel) (Nat.le_of_ble_eq_true rfl) (List.forall_mem_cons.mpr ⟨rfl, List.forall_mem_cons.mpr ⟨rfl, List.forall_mem_cons.mpr ⟨rfl, List.forall_mem_cons.mpr ⟨rfl, fun _ h => nomatch h⟩⟩⟩⟩) ?_
  show xv_W mX3_find 5 0 0 _ 0 0 (sx n c) I (rx c) J 0 [some (.ref 20), some (.ref (200 + 5 * a)), some (.int x), some (.int y), none] []
  refine xv_al0 fX3_find_0 ?_
  refine xv_il2 fX3_find_1 ?_
  refine xv_putI fX3_find_2 gX3_25 rfl (tp3_3 _) (sx_20 _ _) ⟨rfl, rfl⟩ ?_
  refine xv_al0 fX3_find_5 ?_
  refine xv_il3 fX3_find_6 ?_
  refine xv_putI fX3_find_7 gX3_29 rfl (tp3_4 _) (sx_20 _ _) ⟨rfl, rfl⟩ ?_
  refine xv_al0 fX3_find_10 ?_
  refine xv_getR fX3_find_11 gX3_18 rfl (sx_20 _ _) (rx_20_1 _) ?_
  refine xv_callV0V (c_clear n c _ J (isWay_21 n c)) fX3_find_14 YX8_clear VX8_clear lX3_32 rfl rfl (sx_21 _ _) (Nat.le_of_ble_eq_true rfl) (by decide) (by decide) (by decide) ?_
  obtain hS' : xSt (xClear 21 (xv_u (xv_u I 20 3 x) 20 4 y)) a np lo cz sc := hS.to (fun j => by rw [xClear_o _ _ (Or.inr (by omega)), xv_u_ne _ _ _ (by omega), xv_u_ne _ _ _ (by omega)])
  refine xv_al1 fX3_find_17 ?_
  refine xv_getI fX3_find_18 gX3_35 rfl (sx_st _ _ hs hs2) ?_
  rw [hS'.2.1]
  refine xv_is4 fX3_find_21 ?_
  exact l_find n c J hs hs2 (np + 1 - lo) np _ (by have := hS.2.2.2.2.1; omega) (Nat.le_refl _) hS'
