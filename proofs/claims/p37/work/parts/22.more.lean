abbrev xWy (I : xv_I) (w : Nat) (pg st sz : Nat → Nat) : Prop := ∀ i, i < 2 → I (w + 3) i = nI (sz i) ∧ sz i ≤ 12 ∧ (0 < sz i → I (w + 1) i = nI (pg i) ∧ pg i < 10 ∧ I (w + 2) i = nI (st i) ∧ st i + sz i ≤ 12)
theorem xWy.to {I I' : xv_I} {w : Nat} {pg st sz : Nat → Nat} (h : xWy I w pg st sz) (h2 : ∀ v j, w < v → I' v j = I v j) : xWy I' w pg st sz := fun i hi => by
  rw [h2 _ _ (by omega), h2 _ _ (by omega), h2 _ _ (by omega)]
  exact h i hi
theorem xCopy_rows (I : xv_I) {w u : Nat} (h : w + 3 < u ∨ u + 3 < w) {i : Nat} (hi : i < 2) : xCopy w u I (w + 1) i = I (u + 1) i ∧ xCopy w u I (w + 2) i = I (u + 2) i ∧ xCopy w u I (w + 3) i = I (u + 3) i := by
  rcases (show i = 0 ∨ i = 1 by omega) with rfl | rfl <;>
    simp only [xCopy, it, xCopy1, xSetPart, xv_u] <;>
    refine ⟨?_, ?_, ?_⟩ <;> simp (disch := omega) [Nat.add_left_cancel_iff] <;> (try (intros; omega))
theorem xCopy_wy {I : xv_I} {w u : Nat} {pg st sz : Nat → Nat} (h : xWy I u pg st sz) (hu : w + 3 < u ∨ u + 3 < w) : xWy (xCopy w u I) w pg st sz := fun i hi => by
  rw [(xCopy_rows I hu hi).1, (xCopy_rows I hu hi).2.1, (xCopy_rows I hu hi).2.2]
  exact h i hi
abbrev cIn (k : Nat) : Nat := 3 * (k % 4) + k / 4
def xOut1 (pg st : Nat) (x : Int32) (j : Nat) (I : xv_I) : xv_I := xPut I pg (cIn (st + j)) x
def xOut2 (pg st sz : Nat → Nat) (x : Int32) (i : Nat) (I : xv_I) : xv_I := it (xOut1 (pg i) (st i) x) (sz i) 0 I
def xOut (w : Nat) (pg st sz : Nat → Nat) (x : Int32) (I : xv_I) : xv_I := it (xOut2 pg st sz x) 2 0 (xCopy w 21 I)
theorem xPut_o (I : xv_I) {p k : Nat} {x : Int32} (hp : p < 10) {v : Nat} (j : Nat) (h : 15 < v) : xPut I p k x v j = I v j := by
  unfold xPut
  rw [xv_u_ne _ _ _ (by omega), xv_u_ne _ _ _ (by omega), xv_u_ne _ _ _ (by omega)]
theorem xOut1_o (I : xv_I) {p s k : Nat} {x : Int32} (hp : p < 10) {v : Nat} (j : Nat) (h : 15 < v) : xOut1 p s x k I v j = I v j := xPut_o I hp j h
theorem xOut2_o (I : xv_I) {pg st sz : Nat → Nat} {x : Int32} {i : Nat} (hp : 0 < sz i → pg i < 10) {v : Nat} (j : Nat) (h : 15 < v) : xOut2 pg st sz x i I v j = I v j := by
  rcases Nat.eq_zero_or_pos (sz i) with h9 | h9
  · unfold xOut2
    rw [h9]
    rfl
  · exact it_inv (fun s : xv_I => s v j = I v j) (fun k s hs => (xOut1_o _ (hp h9) j h).trans hs) _ _ _ rfl
theorem xWy_to {I I' : xv_I} {w : Nat} {pg st sz : Nat → Nat} (h : xWy I w pg st sz) (h2 : ∀ v j, w < v → v ≤ w + 3 → I' v j = I v j) : xWy I' w pg st sz := fun i hi => by
  rw [h2 _ _ (by omega) (by omega), h2 _ _ (by omega) (by omega), h2 _ _ (by omega) (by omega)]
  exact h i hi
theorem l_out1 (n : Nat) (c : Nat × Nat) (J : xv_J) {a : Nat} (hs : a < c.2) (hs2 : a < 20) {pg st sz : Nat → Nat} {x : Int32} {i : Nat} (hi : i < 2) (hsz : sz i ≤ 12) {y : Int32} (hy : 0 < sz i → y = nI (st i) ∧ pg i < 10 ∧ st i + sz i ≤ 12) {Q : xv_Q} : ∀ (m k : Nat) (I : xv_I), k + m = (sz i) → (0 < sz i → I (201 + 5 * a + 1) i = nI (pg i)) → xv_W mX10_putOut 2 0 0 Q 0 0 (sx n c) (it (xOut1 (pg i) (st i) x) m k I) (rx c) J 81 (some (.ref 0) :: some (.ref (200 + 5 * a)) :: some (.int x) :: some (.int (nI i)) :: some (.int y) :: some (.int (nI (sz i))) :: some (.int (nI (sz i))) :: []) [] → xv_W mX10_putOut 2 0 0 Q 0 0 (sx n c) I (rx c) J 44 (some (.ref 0) :: some (.ref (200 + 5 * a)) :: some (.int x) :: some (.int (nI i)) :: some (.int y) :: some (.int (nI (sz i))) :: some (.int (nI k)) :: []) [] := by
  intro m
  induction m with
  | zero =>
    intro k I hm i0 hx
    obtain rfl : k = (sz i) := by omega
    refine xv_il6 fX10_putOut_44 ?_
    refine xv_il5 fX10_putOut_46 ?_
    refine xv_ic_ge fX10_putOut_48 (fun h_48 => ?_) (fun h_48 => ?_)
    · exact hx
    · exact absurd (nI_le (Nat.le_refl _) (by omega)) h_48
  | succ m ih =>
    intro k I hm i0 hx
    have hk : k < (sz i) := by omega
    show xv_W mX10_putOut 2 0 0 _ 0 0 (sx n c) I (rx c) J 44 (some (.ref 0) :: some (.ref (200 + 5 * a)) :: some (.int x) :: some (.int (nI i)) :: some (.int y) :: some (.int (nI (sz i))) :: some (.int (nI k)) :: []) []
    refine xv_il6 fX10_putOut_44 ?_
    refine xv_il5 fX10_putOut_46 ?_
    refine xv_ic_ge fX10_putOut_48 (fun h_48 => ?_) (fun h_48 => ?_)
    · exact absurd h_48 (nI_ge hk (by omega))
    · refine xv_al0 fX10_putOut_51 ?_
      refine xv_getR fX10_putOut_52 gX10_10 rfl (sx_0 _ _) (rx_0_0 _) ?_
      refine xv_al1 fX10_putOut_55 ?_
      refine xv_getR fX10_putOut_56 gX10_212 rfl (sx_st _ _ hs hs2) (rx_way _ hs hs2) ?_
      refine xv_il3 fX10_putOut_59 ?_
      refine xv_callV1R (c_pageOf n c _ J (isWay_st n c hs hs2) hi) fX10_putOut_60 YX8_pageOf VX8_pageOf lX10_239 rfl rfl (sx_wy _ _ hs hs2) (Nat.le_of_ble_eq_true rfl) (by decide) (by decide) (by decide) ?_
      rw [i0 (by omega)]
      refine xv_il4 fX10_putOut_63 ?_
      refine xv_il6 fX10_putOut_65 ?_
      refine xv_iadd fX10_putOut_67 ?_
      refine xv_eqi (y := nI (st i + k)) (by rw [(hy (by omega)).1, nI_add]) ?_
      refine xv_callS1R (c_cellIn n c _ J (k := st i + k) (by have := (hy (by omega)).2.2; omega)) fX10_putOut_68 YX10_cellInColumns VX10_cellInColumns lX10_245 rfl (Nat.le_of_ble_eq_true rfl) (by decide) (by decide) (by decide) ?_
      refine xv_il2 fX10_putOut_71 ?_
      refine xv_callV3V (c_put n c _ J (hy (by omega)).2.1 (by have := (hy (by omega)).2.2; omega)) fX10_putOut_72 YX5_put VX5_put lX10_327 rfl rfl (sx_1 _ _) (Nat.le_of_ble_eq_true rfl) (by decide) (by decide) (by decide) ?_
      refine xv_iincN6 (a := 1) fX10_putOut_75 (by decide) ?_
      refine xv_goto fX10_putOut_78 ?_
      exact ih (k + 1) (xOut1 (pg i) (st i) x k I) (by omega) (fun h => (xOut1_o _ (hy h).2.1 _ (by omega)).trans (i0 h)) hx

theorem l_out2 (n : Nat) (c : Nat × Nat) (J : xv_J) {a : Nat} (hs : a < c.2) (hs2 : a < 20) {pg st sz : Nat → Nat} {x : Int32} {Q : xv_Q} : ∀ (m k : Nat) (I : xv_I) (l4 l5 l6 : Option Value), k + m = 2 → (xWy I (201 + 5 * a) pg st sz) → (∀ l4 l5 l6, xv_W mX10_putOut 2 0 0 Q 0 0 (sx n c) (it (xOut2 pg st sz x) m k I) (rx c) J 87 (some (.ref 0) :: some (.ref (200 + 5 * a)) :: some (.int x) :: some (.int (nI 2)) :: l4 :: l5 :: l6 :: []) []) → xv_W mX10_putOut 2 0 0 Q 0 0 (sx n c) I (rx c) J 16 (some (.ref 0) :: some (.ref (200 + 5 * a)) :: some (.int x) :: some (.int (nI k)) :: l4 :: l5 :: l6 :: []) [] := by
  intro m
  induction m with
  | zero =>
    intro k I l4 l5 l6 hm i0 i1
    obtain rfl : k = 2 := by omega
    refine xv_il3 fX10_putOut_16 ?_
    refine xv_k fX10_putOut_17 ?_
    refine xv_ic_ge fX10_putOut_18 (fun h_18 => ?_) (fun h_18 => ?_)
    · exact i1 _ _ _
    · exact absurd (nI_le (Nat.le_refl _) (by decide)) h_18
  | succ m ih =>
    intro k I l4 l5 l6 hm i0 i1
    have hk : k < 2 := by omega
    show xv_W mX10_putOut 2 0 0 _ 0 0 (sx n c) I (rx c) J 16 (some (.ref 0) :: some (.ref (200 + 5 * a)) :: some (.int x) :: some (.int (nI k)) :: l4 :: l5 :: l6 :: []) []
    refine xv_il3 fX10_putOut_16 ?_
    refine xv_k fX10_putOut_17 ?_
    refine xv_ic_ge fX10_putOut_18 (fun h_18 => ?_) (fun h_18 => ?_)
    · exact absurd h_18 (nI_ge hk (by decide))
    · refine xv_al1 fX10_putOut_21 ?_
      refine xv_getR fX10_putOut_22 gX10_212 rfl (sx_st _ _ hs hs2) (rx_way _ hs hs2) ?_
      refine xv_il3 fX10_putOut_25 ?_
      refine xv_callV1R (c_startOf n c _ J (isWay_st n c hs hs2) hk) fX10_putOut_26 YX8_start VX8_start lX10_242 rfl rfl (sx_wy _ _ hs hs2) (Nat.le_of_ble_eq_true rfl) (by decide) (by decide) (by decide) ?_
      refine xv_is4 fX10_putOut_29 ?_
      refine xv_al1 fX10_putOut_31 ?_
      refine xv_getR fX10_putOut_32 gX10_212 rfl (sx_st _ _ hs hs2) (rx_way _ hs hs2) ?_
      refine xv_il3 fX10_putOut_35 ?_
      refine xv_callV1R (c_sizeOf n c _ J (isWay_st n c hs hs2) hk) fX10_putOut_36 YX8_size VX8_size lX10_236 rfl rfl (sx_wy _ _ hs hs2) (Nat.le_of_ble_eq_true rfl) (by decide) (by decide) (by decide) ?_
      rw [(i0 k hk).1]
      refine xv_is5 fX10_putOut_39 ?_
      refine xv_k fX10_putOut_41 ?_
      refine xv_is6 fX10_putOut_42 ?_
      refine l_out1 n c J hs hs2 (pg := pg) (st := st) hk (i0 k hk).2.1 (fun h => ⟨((i0 k hk).2.2 h).2.2.1, ((i0 k hk).2.2 h).2.1, ((i0 k hk).2.2 h).2.2.2⟩) (sz k) 0 _ (by omega) (fun h => ((i0 k hk).2.2 h).1) ?_
      refine xv_iincN3 (a := 1) fX10_putOut_81 (by decide) ?_
      refine xv_goto fX10_putOut_84 ?_
      exact ih (k + 1) (xOut2 pg st sz x k I) _ _ _ (by omega) (i0.to (fun v j hv => xOut2_o _ (fun h => ((i0 k hk).2.2 h).2.1) _ (by omega))) i1

theorem c_putOut (n : Nat) (c : Nat × Nat) (I : xv_I) (J : xv_J) {a : Nat} (hs : a < c.2) (hs2 : a < 20) {pg st sz : Nat → Nat} {x : Int32} (hwy : xWy I 21 pg st sz) : xv_Met mX10_putOut 2 0 0 (sx n c) I (rx c) J [.ref 0, .ref (200 + 5 * a), .int x] (xv_eq (.inl none) (sx n c) (xOut (201 + 5 * a) pg st sz x I) (rx c) J) := by
  refine xv_Met.of (by decide +kernel) (Nat.le_of_ble_eq_true rfl) (List.forall_mem_cons.mpr ⟨rfl, List.forall_mem_cons.mpr ⟨rfl, List.forall_mem_cons.mpr ⟨rfl, fun _ h => nomatch h⟩⟩⟩) ?_
  show xv_W mX10_putOut 2 0 0 _ 0 0 (sx n c) I (rx c) J 0 [some (.ref 0), some (.ref (200 + 5 * a)), some (.int x), none, none, none, none] []
  refine xv_al1 fX10_putOut_0 ?_
  refine xv_getR fX10_putOut_1 gX10_212 rfl (sx_st _ _ hs hs2) (rx_way _ hs hs2) ?_
  refine xv_al0 fX10_putOut_4 ?_
  refine xv_getR fX10_putOut_5 gX10_37 rfl (sx_0 _ _) (rx_0_6 _) ?_
  refine xv_getR fX10_putOut_8 gX10_432 rfl (sx_20 _ _) (rx_20_1 _) ?_
  refine xv_callV1V (c_copy n c _ J (isWay_st n c hs hs2) (isWay_21 n c)) fX10_putOut_11 YX8_copy VX8_copy lX10_435 rfl rfl (sx_wy _ _ hs hs2) (Nat.le_of_ble_eq_true rfl) (by decide) (by decide) (by decide) ?_
  refine xv_k fX10_putOut_14 ?_
  refine xv_is3 fX10_putOut_15 ?_
  exact l_out2 n c J hs hs2 2 0 _ _ _ _ rfl (xCopy_wy hwy (Or.inr (by omega))) (fun l4 l5 l6 => by exact xv_vret fX10_putOut_87 rfl (xv_eq_I rfl rfl))

theorem p_lay_a (n : Nat) (c : Nat × Nat) (I : xv_I) (J : xv_J) {x : Int32} (hx : ∀ k, x = nI k → k < 20 → c.2 ≤ k) : xv_Met mX10_lay 8 16 128 (sx n c) I (rx c) J [.ref 0, .int x] (xv_eq (.inr "java/lang/IndexOutOfBoundsException") (sx n c) (I) (rx c) J) := by
  refine xv_Met.of (by decide +kernel) (Nat.le_of_ble_eq_true rfl) (List.forall_mem_cons.mpr ⟨rfl, List.forall_mem_cons.mpr ⟨rfl, fun _ h => nomatch h⟩⟩) ?_
  show xv_W mX10_lay 8 16 128 _ 16 128 (sx n c) I (rx c) J 0 [some (.ref 0), some (.int x), none] []
  refine xv_al0 fX10_lay_0 ?_
  refine xv_il1 fX10_lay_1 ?_
  exact xv_callV1X (c_needSt_out n c I J hx) fX10_lay_2 YX10_needStory VX10_needStory lX10_195 rfl rfl (sx_0 _ _) (Nat.le_of_ble_eq_true rfl) (by decide) (by decide) (by decide) xv_eq_i

theorem p_lay_b (n : Nat) (c : Nat × Nat) (I : xv_I) (J : xv_J) {a : Nat} (hs : a < c.2) (hs2 : a < 20) (hl : ¬ I (201 + 5 * a) 0 ≤ 0) : xv_Met mX10_lay 8 16 128 (sx n c) I (rx c) J [.ref 0, .int (nI a)] (xv_eq (.inr "java/lang/IllegalStateException") (sx n c) (I) (rx c) J) := by
  refine xv_Met.of (by decide +kernel) (Nat.le_of_ble_eq_true rfl) (List.forall_mem_cons.mpr ⟨rfl, List.forall_mem_cons.mpr ⟨rfl, fun _ h => nomatch h⟩⟩) ?_
  show xv_W mX10_lay 8 16 128 _ 16 128 (sx n c) I (rx c) J 0 [some (.ref 0), some (.int (nI a)), none] []
  refine xv_al0 fX10_lay_0 ?_
  refine xv_il1 fX10_lay_1 ?_
  refine xv_callV1R (c_needSt_in n c I J hs hs2) fX10_lay_2 YX10_needStory VX10_needStory lX10_195 rfl rfl (sx_0 _ _) (Nat.le_of_ble_eq_true rfl) (by decide) (by decide) (by decide) ?_
  refine xv_as2 fX10_lay_5 ?_
  refine xv_al2 fX10_lay_6 ?_
  refine xv_callV0R (c_isLaid n c I J hs hs2) fX10_lay_7 YX6_isLaid VX6_isLaid lX10_199 rfl rfl (sx_st _ _ hs hs2) (Nat.le_of_ble_eq_true rfl) (by decide) (by decide) (by decide) ?_
  refine xv_if_eq fX10_lay_10 (fun h_10 => ?_) (fun h_10 => ?_)
  · exact absurd hl (bi_0 h_10)
  · exact xv_throw fX10_lay_13 hX10_202 rfl (by decide) (by decide) (by decide) (by decide) xv_eq_i

theorem p_lay_no (n : Nat) (c : Nat × Nat) (I : xv_I) (J : xv_J) {a : Nat} (hs : a < c.2) (hs2 : a < 20) {np lo : Nat} {cz : Nat → Nat → Nat} {sc : Int32} (hS : xSt I a np lo cz sc) (hl : ¬ ¬ I (201 + 5 * a) 0 ≤ 0) (hf : (xFind sc cz np lo (nI 0) (nI 31) I).1 = 0) : xv_Met mX10_lay 8 16 128 (sx n c) I (rx c) J [.ref 0, .int (nI a)] (xv_eq (.inl (some (.int (nI 0)))) (sx n c) ((xFind sc cz np lo (nI 0) (nI 31) I).2) (rx c) J) := by
  refine xv_Met.of (by decide +kernel) (Nat.le_of_ble_eq_true rfl) (List.forall_mem_cons.mpr ⟨rfl, List.forall_mem_cons.mpr ⟨rfl, fun _ h => nomatch h⟩⟩) ?_
  show xv_W mX10_lay 8 16 128 _ 16 128 (sx n c) I (rx c) J 0 [some (.ref 0), some (.int (nI a)), none] []
  refine xv_al0 fX10_lay_0 ?_
  refine xv_il1 fX10_lay_1 ?_
  refine xv_callV1R (c_needSt_in n c I J hs hs2) fX10_lay_2 YX10_needStory VX10_needStory lX10_195 rfl rfl (sx_0 _ _) (Nat.le_of_ble_eq_true rfl) (by decide) (by decide) (by decide) ?_
  refine xv_as2 fX10_lay_5 ?_
  refine xv_al2 fX10_lay_6 ?_
  refine xv_callV0R (c_isLaid n c I J hs hs2) fX10_lay_7 YX6_isLaid VX6_isLaid lX10_199 rfl rfl (sx_st _ _ hs hs2) (Nat.le_of_ble_eq_true rfl) (by decide) (by decide) (by decide) ?_
  refine xv_if_eq fX10_lay_10 (fun h_10 => ?_) (fun h_10 => ?_)
  · refine xv_al0 fX10_lay_23 ?_
    refine xv_getR fX10_lay_24 gX10_37 rfl (sx_0 _ _) (rx_0_6 _) ?_
    refine xv_al2 fX10_lay_27 ?_
    refine xv_k fX10_lay_28 ?_
    refine xv_k fX10_lay_29 ?_
    refine xv_callV3R (c_find n c I J hs hs2 hS) fX10_lay_31 YX3_find VX3_find lX10_204 rfl rfl (sx_20 _ _) (Nat.le_of_ble_eq_true rfl) (by decide) (by decide) (by decide) ?_
    refine xv_if_ne fX10_lay_34 (fun h_34 => ?_) (fun h_34 => ?_)
    · exact absurd hf h_34
    · refine xv_k fX10_lay_37 ?_
      exact xv_iret fX10_lay_38 rfl rfl xv_eq_i
  · exact absurd (bi_1 h_10) hl

theorem p_lay_ok (n : Nat) (c : Nat × Nat) (I : xv_I) (J : xv_J) {a : Nat} (hs : a < c.2) (hs2 : a < 20) {np lo : Nat} {cz : Nat → Nat → Nat} {sc : Int32} (hS : xSt I a np lo cz sc) {pg st sz : Nat → Nat} (hl : ¬ ¬ I (201 + 5 * a) 0 ≤ 0) (hf : ¬ (xFind sc cz np lo (nI 0) (nI 31) I).1 = 0) (hwy : xWy (xFind sc cz np lo (nI 0) (nI 31) I).2 21 pg st sz) : xv_Met mX10_lay 8 16 128 (sx n c) I (rx c) J [.ref 0, .int (nI a)] (xv_eq (.inl (some (.int (xOut (201 + 5 * a) pg st sz (nI (200 + a)) (xFind sc cz np lo (nI 0) (nI 31) I).2 (201 + 5 * a) 0)))) (sx n c) (xOut (201 + 5 * a) pg st sz (nI (200 + a)) (xFind sc cz np lo (nI 0) (nI 31) I).2) (rx c) J) := by
  refine xv_Met.of (by decide +kernel) (Nat.le_of_ble_eq_true rfl) (List.forall_mem_cons.mpr ⟨rfl, List.forall_mem_cons.mpr ⟨rfl, fun _ h => nomatch h⟩⟩) ?_
  show xv_W mX10_lay 8 16 128 _ 16 128 (sx n c) I (rx c) J 0 [some (.ref 0), some (.int (nI a)), none] []
  refine xv_al0 fX10_lay_0 ?_
  refine xv_il1 fX10_lay_1 ?_
  refine xv_callV1R (c_needSt_in n c I J hs hs2) fX10_lay_2 YX10_needStory VX10_needStory lX10_195 rfl rfl (sx_0 _ _) (Nat.le_of_ble_eq_true rfl) (by decide) (by decide) (by decide) ?_
  refine xv_as2 fX10_lay_5 ?_
  refine xv_al2 fX10_lay_6 ?_
  refine xv_callV0R (c_isLaid n c I J hs hs2) fX10_lay_7 YX6_isLaid VX6_isLaid lX10_199 rfl rfl (sx_st _ _ hs hs2) (Nat.le_of_ble_eq_true rfl) (by decide) (by decide) (by decide) ?_
  refine xv_if_eq fX10_lay_10 (fun h_10 => ?_) (fun h_10 => ?_)
  · refine xv_al0 fX10_lay_23 ?_
    refine xv_getR fX10_lay_24 gX10_37 rfl (sx_0 _ _) (rx_0_6 _) ?_
    refine xv_al2 fX10_lay_27 ?_
    refine xv_k fX10_lay_28 ?_
    refine xv_k fX10_lay_29 ?_
    refine xv_callV3R (c_find n c I J hs hs2 hS) fX10_lay_31 YX3_find VX3_find lX10_204 rfl rfl (sx_20 _ _) (Nat.le_of_ble_eq_true rfl) (by decide) (by decide) (by decide) ?_
    refine xv_if_ne fX10_lay_34 (fun h_34 => ?_) (fun h_34 => ?_)
    · refine xv_al0 fX10_lay_39 ?_
      refine xv_al2 fX10_lay_40 ?_
      refine xv_k fX10_lay_41 ?_
      refine xv_il1 fX10_lay_44 ?_
      refine xv_iadd fX10_lay_45 ?_
      rw [nI_add]
      refine xv_callV2V (c_putOut n c _ J hs hs2 hwy) fX10_lay_46 YX10_putOut VX10_putOut lX10_208 rfl rfl (sx_0 _ _) (Nat.le_of_ble_eq_true rfl) (by decide) (by decide) (by decide) ?_
      refine xv_al2 fX10_lay_49 ?_
      refine xv_getR fX10_lay_50 gX10_212 rfl (sx_st _ _ hs hs2) (rx_way _ hs hs2) ?_
      refine xv_getI fX10_lay_53 gX10_216 rfl (sx_wy _ _ hs hs2) ?_
      exact xv_iret fX10_lay_56 rfl rfl xv_eq_i
    · exact absurd h_34 hf
  · exact absurd (bi_1 h_10) hl

theorem p_lift_a (n : Nat) (c : Nat × Nat) (I : xv_I) (J : xv_J) {x : Int32} (hx : ∀ k, x = nI k → k < 20 → c.2 ≤ k) : xv_Met mX10_lift 8 16 128 (sx n c) I (rx c) J [.ref 0, .int x] (xv_eq (.inr "java/lang/IndexOutOfBoundsException") (sx n c) (I) (rx c) J) := by
  refine xv_Met.of (by decide +kernel) (Nat.le_of_ble_eq_true rfl) (List.forall_mem_cons.mpr ⟨rfl, List.forall_mem_cons.mpr ⟨rfl, fun _ h => nomatch h⟩⟩) ?_
  show xv_W mX10_lift 8 16 128 _ 16 128 (sx n c) I (rx c) J 0 [some (.ref 0), some (.int x), none, none] []
  refine xv_al0 fX10_lift_0 ?_
  refine xv_il1 fX10_lift_1 ?_
  exact xv_callV1X (c_needSt_out n c I J hx) fX10_lift_2 YX10_needStory VX10_needStory lX10_195 rfl rfl (sx_0 _ _) (Nat.le_of_ble_eq_true rfl) (by decide) (by decide) (by decide) xv_eq_i

theorem p_lift_b (n : Nat) (c : Nat × Nat) (I : xv_I) (J : xv_J) {a : Nat} (hs : a < c.2) (hs2 : a < 20) (hl : ¬ ¬ I (201 + 5 * a) 0 ≤ 0) : xv_Met mX10_lift 8 16 128 (sx n c) I (rx c) J [.ref 0, .int (nI a)] (xv_eq (.inr "java/lang/IllegalStateException") (sx n c) (I) (rx c) J) := by
  refine xv_Met.of (by decide +kernel) (Nat.le_of_ble_eq_true rfl) (List.forall_mem_cons.mpr ⟨rfl, List.forall_mem_cons.mpr ⟨rfl, fun _ h => nomatch h⟩⟩) ?_
  show xv_W mX10_lift 8 16 128 _ 16 128 (sx n c) I (rx c) J 0 [some (.ref 0), some (.int (nI a)), none, none] []
  refine xv_al0 fX10_lift_0 ?_
  refine xv_il1 fX10_lift_1 ?_
  refine xv_callV1R (c_needSt_in n c I J hs hs2) fX10_lift_2 YX10_needStory VX10_needStory lX10_195 rfl rfl (sx_0 _ _) (Nat.le_of_ble_eq_true rfl) (by decide) (by decide) (by decide) ?_
  refine xv_as2 fX10_lift_5 ?_
  refine xv_al2 fX10_lift_6 ?_
  refine xv_callV0R (c_isLaid n c I J hs hs2) fX10_lift_7 YX6_isLaid VX6_isLaid lX10_199 rfl rfl (sx_st _ _ hs hs2) (Nat.le_of_ble_eq_true rfl) (by decide) (by decide) (by decide) ?_
  refine xv_if_ne fX10_lift_10 (fun h_10 => ?_) (fun h_10 => ?_)
  · exact absurd (bi_1 h_10) hl
  · exact xv_throw fX10_lift_13 hX10_221 rfl (by decide) (by decide) (by decide) (by decide) xv_eq_i

theorem p_lift_ok (n : Nat) (c : Nat × Nat) (I : xv_I) (J : xv_J) {a : Nat} (hs : a < c.2) (hs2 : a < 20) (hl : ¬ I (201 + 5 * a) 0 ≤ 0) : xv_Met mX10_lift 8 16 128 (sx n c) I (rx c) J [.ref 0, .int (nI a)] (xv_eq (.inl (some (.int (I (201 + 5 * a) 0)))) (sx n c) (xClear (201 + 5 * a) (xFree (nI (200 + a)) I)) (rx c) J) := by
  refine xv_Met.of (by decide +kernel) (Nat.le_of_ble_eq_true rfl) (List.forall_mem_cons.mpr ⟨rfl, List.forall_mem_cons.mpr ⟨rfl, fun _ h => nomatch h⟩⟩) ?_
  show xv_W mX10_lift 8 16 128 _ 16 128 (sx n c) I (rx c) J 0 [some (.ref 0), some (.int (nI a)), none, none] []
  refine xv_al0 fX10_lift_0 ?_
  refine xv_il1 fX10_lift_1 ?_
  refine xv_callV1R (c_needSt_in n c I J hs hs2) fX10_lift_2 YX10_needStory VX10_needStory lX10_195 rfl rfl (sx_0 _ _) (Nat.le_of_ble_eq_true rfl) (by decide) (by decide) (by decide) ?_
  refine xv_as2 fX10_lift_5 ?_
  refine xv_al2 fX10_lift_6 ?_
  refine xv_callV0R (c_isLaid n c I J hs hs2) fX10_lift_7 YX6_isLaid VX6_isLaid lX10_199 rfl rfl (sx_st _ _ hs hs2) (Nat.le_of_ble_eq_true rfl) (by decide) (by decide) (by decide) ?_
  refine xv_if_ne fX10_lift_10 (fun h_10 => ?_) (fun h_10 => ?_)
  · refine xv_al2 fX10_lift_23 ?_
    refine xv_getR fX10_lift_24 gX10_212 rfl (sx_st _ _ hs hs2) (rx_way _ hs hs2) ?_
    refine xv_getI fX10_lift_27 gX10_216 rfl (sx_wy _ _ hs hs2) ?_
    refine xv_is3 fX10_lift_30 ?_
    refine xv_al0 fX10_lift_31 ?_
    refine xv_getR fX10_lift_32 gX10_10 rfl (sx_0 _ _) (rx_0_0 _) ?_
    refine xv_k fX10_lift_35 ?_
    refine xv_il1 fX10_lift_38 ?_
    refine xv_iadd fX10_lift_39 ?_
    rw [nI_add]
    refine xv_callV1V (c_freeAllOf n c _ J) fX10_lift_40 YX5_freeAllOf VX5_freeAllOf lX10_169 rfl rfl (sx_1 _ _) (Nat.le_of_ble_eq_true rfl) (by decide) (by decide) (by decide) ?_
    refine xv_al2 fX10_lift_43 ?_
    refine xv_getR fX10_lift_44 gX10_212 rfl (sx_st _ _ hs hs2) (rx_way _ hs hs2) ?_
    refine xv_callV0V (c_clear n c _ J (isWay_st n c hs hs2)) fX10_lift_47 YX8_clear VX8_clear lX10_223 rfl rfl (sx_wy _ _ hs hs2) (Nat.le_of_ble_eq_true rfl) (by decide) (by decide) (by decide) ?_
    refine xv_il3 fX10_lift_50 ?_
    exact xv_iret fX10_lift_51 rfl rfl xv_eq_i
  · exact absurd hl (bi_0 h_10)

theorem p_change_a (n : Nat) (c : Nat × Nat) (I : xv_I) (J : xv_J) {x : Int32} (hx : ∀ k, x = nI k → k < 20 → c.2 ≤ k) {y : Int32} : xv_Met mX10_change 8 16 128 (sx n c) I (rx c) J [.ref 0, .int x, .int y] (xv_eq (.inr "java/lang/IndexOutOfBoundsException") (sx n c) (I) (rx c) J) := by
  refine xv_Met.of (by decide +kernel) (Nat.le_of_ble_eq_true rfl) (List.forall_mem_cons.mpr ⟨rfl, List.forall_mem_cons.mpr ⟨rfl, List.forall_mem_cons.mpr ⟨rfl, fun _ h => nomatch h⟩⟩⟩) ?_
  show xv_W mX10_change 8 16 128 _ 16 128 (sx n c) I (rx c) J 0 [some (.ref 0), some (.int x), some (.int y), none, none, none, none] []
  refine xv_al0 fX10_change_0 ?_
  refine xv_il1 fX10_change_1 ?_
  exact xv_callV1X (c_needSt_out n c I J hx) fX10_change_2 YX10_needStory VX10_needStory lX10_195 rfl rfl (sx_0 _ _) (Nat.le_of_ble_eq_true rfl) (by decide) (by decide) (by decide) xv_eq_i

theorem p_change_b (n : Nat) (c : Nat × Nat) (I : xv_I) (J : xv_J) {a : Nat} (hs : a < c.2) (hs2 : a < 20) {x : Int32} (hx : ∀ k, x = nI k → k < 20 → c.2 ≤ k) : xv_Met mX10_change 8 16 128 (sx n c) I (rx c) J [.ref 0, .int (nI a), .int x] (xv_eq (.inr "java/lang/IndexOutOfBoundsException") (sx n c) (I) (rx c) J) := by
  refine xv_Met.of (by decide +kernel) (Nat.le_of_ble_eq_true rfl) (List.forall_mem_cons.mpr ⟨rfl, List.forall_mem_cons.mpr ⟨rfl, List.forall_mem_cons.mpr ⟨rfl, fun _ h => nomatch h⟩⟩⟩) ?_
  show xv_W mX10_change 8 16 128 _ 16 128 (sx n c) I (rx c) J 0 [some (.ref 0), some (.int (nI a)), some (.int x), none, none, none, none] []
  refine xv_al0 fX10_change_0 ?_
  refine xv_il1 fX10_change_1 ?_
  refine xv_callV1R (c_needSt_in n c I J hs hs2) fX10_change_2 YX10_needStory VX10_needStory lX10_195 rfl rfl (sx_0 _ _) (Nat.le_of_ble_eq_true rfl) (by decide) (by decide) (by decide) ?_
  refine xv_as3 fX10_change_5 ?_
  refine xv_al0 fX10_change_6 ?_
  refine xv_il2 fX10_change_7 ?_
  exact xv_callV1X (c_needSt_out n c I J hx) fX10_change_8 YX10_needStory VX10_needStory lX10_195 rfl rfl (sx_0 _ _) (Nat.le_of_ble_eq_true rfl) (by decide) (by decide) (by decide) xv_eq_i

theorem p_change_c (n : Nat) (c : Nat × Nat) (I : xv_I) (J : xv_J) {a : Nat} (hs : a < c.2) (hs2 : a < 20) {b : Nat} (hsb : b < c.2) (hs2b : b < 20) (hl : ¬ (¬ I (201 + 5 * a) 0 ≤ 0 ∧ ¬ ¬ I (201 + 5 * b) 0 ≤ 0)) : xv_Met mX10_change 8 16 128 (sx n c) I (rx c) J [.ref 0, .int (nI a), .int (nI b)] (xv_eq (.inr "java/lang/IllegalStateException") (sx n c) (I) (rx c) J) := by
  refine xv_Met.of (by decide +kernel) (Nat.le_of_ble_eq_true rfl) (List.forall_mem_cons.mpr ⟨rfl, List.forall_mem_cons.mpr ⟨rfl, List.forall_mem_cons.mpr ⟨rfl, fun _ h => nomatch h⟩⟩⟩) ?_
  show xv_W mX10_change 8 16 128 _ 16 128 (sx n c) I (rx c) J 0 [some (.ref 0), some (.int (nI a)), some (.int (nI b)), none, none, none, none] []
  refine xv_al0 fX10_change_0 ?_
  refine xv_il1 fX10_change_1 ?_
  refine xv_callV1R (c_needSt_in n c I J hs hs2) fX10_change_2 YX10_needStory VX10_needStory lX10_195 rfl rfl (sx_0 _ _) (Nat.le_of_ble_eq_true rfl) (by decide) (by decide) (by decide) ?_
  refine xv_as3 fX10_change_5 ?_
  refine xv_al0 fX10_change_6 ?_
  refine xv_il2 fX10_change_7 ?_
  refine xv_callV1R (c_needSt_in n c I J hsb hs2b) fX10_change_8 YX10_needStory VX10_needStory lX10_195 rfl rfl (sx_0 _ _) (Nat.le_of_ble_eq_true rfl) (by decide) (by decide) (by decide) ?_
  refine xv_as4 fX10_change_11 ?_
  refine xv_al3 fX10_change_13 ?_
  refine xv_callV0R (c_isLaid n c I J hs hs2) fX10_change_14 YX6_isLaid VX6_isLaid lX10_199 rfl rfl (sx_st _ _ hs hs2) (Nat.le_of_ble_eq_true rfl) (by decide) (by decide) (by decide) ?_
  refine xv_if_eq fX10_change_17 (fun h_17 => ?_) (fun h_17 => ?_)
  · exact xv_throw fX10_change_28 hX10_226 rfl (by decide) (by decide) (by decide) (by decide) xv_eq_i
  · refine xv_al4 fX10_change_20 ?_
    refine xv_callV0R (c_isLaid n c I J hsb hs2b) fX10_change_22 YX6_isLaid VX6_isLaid lX10_199 rfl rfl (sx_st _ _ hsb hs2b) (Nat.le_of_ble_eq_true rfl) (by decide) (by decide) (by decide) ?_
    refine xv_if_eq fX10_change_25 (fun h_25 => ?_) (fun h_25 => ?_)
    · exact absurd ⟨bi_1 h_17, bi_0 h_25⟩ hl
    · exact xv_throw fX10_change_28 hX10_226 rfl (by decide) (by decide) (by decide) (by decide) xv_eq_i

theorem p_change_no (n : Nat) (c : Nat × Nat) (I : xv_I) (J : xv_J) {a : Nat} (hs : a < c.2) (hs2 : a < 20) {b : Nat} (hsb : b < c.2) (hs2b : b < 20) {np lo : Nat} {cz : Nat → Nat → Nat} {sc : Int32} (hS : xSt I b np lo cz sc) (hl : ¬ I (201 + 5 * a) 0 ≤ 0 ∧ ¬ ¬ I (201 + 5 * b) 0 ≤ 0) (hf : (xFind sc cz np lo (nI (200 + a)) (I 1 6 ||| xPl I (nI (200 + a))) I).1 = 0) : xv_Met mX10_change 8 16 128 (sx n c) I (rx c) J [.ref 0, .int (nI a), .int (nI b)] (xv_eq (.inl (some (.int (-1)))) (sx n c) ((xFind sc cz np lo (nI (200 + a)) (I 1 6 ||| xPl I (nI (200 + a))) I).2) (rx c) J) := by
  refine xv_Met.of (by decide +kernel) (Nat.le_of_ble_eq_true rfl) (List.forall_mem_cons.mpr ⟨rfl, List.forall_mem_cons.mpr ⟨rfl, List.forall_mem_cons.mpr ⟨rfl, fun _ h => nomatch h⟩⟩⟩) ?_
  show xv_W mX10_change 8 16 128 _ 16 128 (sx n c) I (rx c) J 0 [some (.ref 0), some (.int (nI a)), some (.int (nI b)), none, none, none, none] []
  refine xv_al0 fX10_change_0 ?_
  refine xv_il1 fX10_change_1 ?_
  refine xv_callV1R (c_needSt_in n c I J hs hs2) fX10_change_2 YX10_needStory VX10_needStory lX10_195 rfl rfl (sx_0 _ _) (Nat.le_of_ble_eq_true rfl) (by decide) (by decide) (by decide) ?_
  refine xv_as3 fX10_change_5 ?_
  refine xv_al0 fX10_change_6 ?_
  refine xv_il2 fX10_change_7 ?_
  refine xv_callV1R (c_needSt_in n c I J hsb hs2b) fX10_change_8 YX10_needStory VX10_needStory lX10_195 rfl rfl (sx_0 _ _) (Nat.le_of_ble_eq_true rfl) (by decide) (by decide) (by decide) ?_
  refine xv_as4 fX10_change_11 ?_
  refine xv_al3 fX10_change_13 ?_
  refine xv_callV0R (c_isLaid n c I J hs hs2) fX10_change_14 YX6_isLaid VX6_isLaid lX10_199 rfl rfl (sx_st _ _ hs hs2) (Nat.le_of_ble_eq_true rfl) (by decide) (by decide) (by decide) ?_
  refine xv_if_eq fX10_change_17 (fun h_17 => ?_) (fun h_17 => ?_)
  · exact absurd hl.1 (bi_0 h_17)
  · refine xv_al4 fX10_change_20 ?_
    refine xv_callV0R (c_isLaid n c I J hsb hs2b) fX10_change_22 YX6_isLaid VX6_isLaid lX10_199 rfl rfl (sx_st _ _ hsb hs2b) (Nat.le_of_ble_eq_true rfl) (by decide) (by decide) (by decide) ?_
    refine xv_if_eq fX10_change_25 (fun h_25 => ?_) (fun h_25 => ?_)
    · refine xv_al0 fX10_change_38 ?_
      refine xv_getR fX10_change_39 gX10_10 rfl (sx_0 _ _) (rx_0_0 _) ?_
      refine xv_getI fX10_change_42 gX10_109 rfl (sx_1 _ _) ?_
      refine xv_is5 fX10_change_45 ?_
      refine xv_il5 fX10_change_47 ?_
      refine xv_al0 fX10_change_49 ?_
      refine xv_getR fX10_change_50 gX10_10 rfl (sx_0 _ _) (rx_0_0 _) ?_
      refine xv_k fX10_change_53 ?_
      refine xv_il1 fX10_change_56 ?_
      refine xv_iadd fX10_change_57 ?_
      rw [nI_add]
      refine xv_callV1R (c_platesOf n c I J) fX10_change_58 YX5_platesOf VX5_platesOf lX10_228 rfl rfl (sx_1 _ _) (Nat.le_of_ble_eq_true rfl) (by decide) (by decide) (by decide) ?_
      refine xv_ior fX10_change_61 ?_
      refine xv_is6 fX10_change_62 ?_
      refine xv_al0 fX10_change_64 ?_
      refine xv_getR fX10_change_65 gX10_37 rfl (sx_0 _ _) (rx_0_6 _) ?_
      refine xv_al4 fX10_change_68 ?_
      refine xv_k fX10_change_70 ?_
      refine xv_il1 fX10_change_73 ?_
      refine xv_iadd fX10_change_74 ?_
      rw [nI_add]
      refine xv_il6 fX10_change_75 ?_
      refine xv_callV3R (c_find n c I J hsb hs2b hS) fX10_change_77 YX3_find VX3_find lX10_204 rfl rfl (sx_20 _ _) (Nat.le_of_ble_eq_true rfl) (by decide) (by decide) (by decide) ?_
      refine xv_if_ne fX10_change_80 (fun h_80 => ?_) (fun h_80 => ?_)
      · exact absurd hf h_80
      · refine xv_k fX10_change_83 ?_
        exact xv_iret fX10_change_84 rfl rfl xv_eq_i
    · exact absurd (bi_1 h_25) hl.2

theorem xFree_o (I : xv_I) {x : Int32} {v : Nat} (j : Nat) (h : 15 < v) : xFree x I v j = I v j := by
  unfold xFree
  have key : ∀ m k I', k + m ≤ 10 → it (xFree1 x) m k I' v j = I' v j := by
    intro m
    induction m with
    | zero => exact fun k I' _ => rfl
    | succ m ih =>
      intro k I' hk
      rw [it, ih _ _ (by omega)]
      unfold xFree1
      refine it_inv (fun s : xv_I => s v j = I' v j) (fun q s hs => ?_) _ _ _ rfl
      by_cases h9 : s (3 + k) q = x
      · rw [if_pos h9, xPut_o _ (by omega) _ h]
        exact hs
      · rw [if_neg h9]
        exact hs
  exact key 10 0 I (by decide)
theorem xWy_fc {I : xv_I} {pg st sz : Nat → Nat} {w : Nat} {x : Int32} (h : xWy I 21 pg st sz) (hw : 28 < w) : xWy (xClear w (xFree x I)) 21 pg st sz := xWy_to h (fun v j h1 h2 => by rw [xClear_o _ _ (Or.inl (by omega)), xFree_o _ _ (by omega)])
theorem p_change_ok (n : Nat) (c : Nat × Nat) (I : xv_I) (J : xv_J) {a : Nat} (hs : a < c.2) (hs2 : a < 20) {b : Nat} (hsb : b < c.2) (hs2b : b < 20) {np lo : Nat} {cz : Nat → Nat → Nat} {sc : Int32} (hS : xSt I b np lo cz sc) {pg st sz : Nat → Nat} (hl : ¬ I (201 + 5 * a) 0 ≤ 0 ∧ ¬ ¬ I (201 + 5 * b) 0 ≤ 0) (hf : ¬ (xFind sc cz np lo (nI (200 + a)) (I 1 6 ||| xPl I (nI (200 + a))) I).1 = 0) (hwy : xWy (xFind sc cz np lo (nI (200 + a)) (I 1 6 ||| xPl I (nI (200 + a))) I).2 21 pg st sz) : xv_Met mX10_change 8 16 128 (sx n c) I (rx c) J [.ref 0, .int (nI a), .int (nI b)] (xv_eq (.inl (some (.int (xBC ((xOut (201 + 5 * b) pg st sz (nI (200 + b)) (xClear (201 + 5 * a) (xFree (nI (200 + a)) (xFind sc cz np lo (nI (200 + a)) (I 1 6 ||| xPl I (nI (200 + a))) I).2))) 1 6 &&& (I 1 6 ^^^ (-1))))))) (sx n c) ((xOut (201 + 5 * b) pg st sz (nI (200 + b)) (xClear (201 + 5 * a) (xFree (nI (200 + a)) (xFind sc cz np lo (nI (200 + a)) (I 1 6 ||| xPl I (nI (200 + a))) I).2)))) (rx c) J) := by
  refine xv_Met.of (by decide +kernel) (Nat.le_of_ble_eq_true rfl) (List.forall_mem_cons.mpr ⟨rfl, List.forall_mem_cons.mpr ⟨rfl, List.forall_mem_cons.mpr ⟨rfl, fun _ h => nomatch h⟩⟩⟩) ?_
  show xv_W mX10_change 8 16 128 _ 16 128 (sx n c) I (rx c) J 0 [some (.ref 0), some (.int (nI a)), some (.int (nI b)), none, none, none, none] []
  refine xv_al0 fX10_change_0 ?_
  refine xv_il1 fX10_change_1 ?_
  refine xv_callV1R (c_needSt_in n c I J hs hs2) fX10_change_2 YX10_needStory VX10_needStory lX10_195 rfl rfl (sx_0 _ _) (Nat.le_of_ble_eq_true rfl) (by decide) (by decide) (by decide) ?_
  refine xv_as3 fX10_change_5 ?_
  refine xv_al0 fX10_change_6 ?_
  refine xv_il2 fX10_change_7 ?_
  refine xv_callV1R (c_needSt_in n c I J hsb hs2b) fX10_change_8 YX10_needStory VX10_needStory lX10_195 rfl rfl (sx_0 _ _) (Nat.le_of_ble_eq_true rfl) (by decide) (by decide) (by decide) ?_
  refine xv_as4 fX10_change_11 ?_
  refine xv_al3 fX10_change_13 ?_
  refine xv_callV0R (c_isLaid n c I J hs hs2) fX10_change_14 YX6_isLaid VX6_isLaid lX10_199 rfl rfl (sx_st _ _ hs hs2) (Nat.le_of_ble_eq_true rfl) (by decide) (by decide) (by decide) ?_
  refine xv_if_eq fX10_change_17 (fun h_17 => ?_) (fun h_17 => ?_)
  · exact absurd hl.1 (bi_0 h_17)
  · refine xv_al4 fX10_change_20 ?_
    refine xv_callV0R (c_isLaid n c I J hsb hs2b) fX10_change_22 YX6_isLaid VX6_isLaid lX10_199 rfl rfl (sx_st _ _ hsb hs2b) (Nat.le_of_ble_eq_true rfl) (by decide) (by decide) (by decide) ?_
    refine xv_if_eq fX10_change_25 (fun h_25 => ?_) (fun h_25 => ?_)
    · refine xv_al0 fX10_change_38 ?_
      refine xv_getR fX10_change_39 gX10_10 rfl (sx_0 _ _) (rx_0_0 _) ?_
      refine xv_getI fX10_change_42 gX10_109 rfl (sx_1 _ _) ?_
      refine xv_is5 fX10_change_45 ?_
      refine xv_il5 fX10_change_47 ?_
      refine xv_al0 fX10_change_49 ?_
      refine xv_getR fX10_change_50 gX10_10 rfl (sx_0 _ _) (rx_0_0 _) ?_
      refine xv_k fX10_change_53 ?_
      refine xv_il1 fX10_change_56 ?_
      refine xv_iadd fX10_change_57 ?_
      rw [nI_add]
      refine xv_callV1R (c_platesOf n c I J) fX10_change_58 YX5_platesOf VX5_platesOf lX10_228 rfl rfl (sx_1 _ _) (Nat.le_of_ble_eq_true rfl) (by decide) (by decide) (by decide) ?_
      refine xv_ior fX10_change_61 ?_
      refine xv_is6 fX10_change_62 ?_
      refine xv_al0 fX10_change_64 ?_
      refine xv_getR fX10_change_65 gX10_37 rfl (sx_0 _ _) (rx_0_6 _) ?_
      refine xv_al4 fX10_change_68 ?_
      refine xv_k fX10_change_70 ?_
      refine xv_il1 fX10_change_73 ?_
      refine xv_iadd fX10_change_74 ?_
      rw [nI_add]
      refine xv_il6 fX10_change_75 ?_
      refine xv_callV3R (c_find n c I J hsb hs2b hS) fX10_change_77 YX3_find VX3_find lX10_204 rfl rfl (sx_20 _ _) (Nat.le_of_ble_eq_true rfl) (by decide) (by decide) (by decide) ?_
      refine xv_if_ne fX10_change_80 (fun h_80 => ?_) (fun h_80 => ?_)
      · refine xv_al0 fX10_change_85 ?_
        refine xv_getR fX10_change_86 gX10_10 rfl (sx_0 _ _) (rx_0_0 _) ?_
        refine xv_k fX10_change_89 ?_
        refine xv_il1 fX10_change_92 ?_
        refine xv_iadd fX10_change_93 ?_
        rw [nI_add]
        refine xv_callV1V (c_freeAllOf n c _ J) fX10_change_94 YX5_freeAllOf VX5_freeAllOf lX10_169 rfl rfl (sx_1 _ _) (Nat.le_of_ble_eq_true rfl) (by decide) (by decide) (by decide) ?_
        refine xv_al3 fX10_change_97 ?_
        refine xv_getR fX10_change_98 gX10_212 rfl (sx_st _ _ hs hs2) (rx_way _ hs hs2) ?_
        refine xv_callV0V (c_clear n c _ J (isWay_st n c hs hs2)) fX10_change_101 YX8_clear VX8_clear lX10_223 rfl rfl (sx_wy _ _ hs hs2) (Nat.le_of_ble_eq_true rfl) (by decide) (by decide) (by decide) ?_
        refine xv_al0 fX10_change_104 ?_
        refine xv_al4 fX10_change_105 ?_
        refine xv_k fX10_change_107 ?_
        refine xv_il2 fX10_change_110 ?_
        refine xv_iadd fX10_change_111 ?_
        rw [nI_add]
        refine xv_callV2V (c_putOut n c _ J hsb hs2b (xWy_fc hwy (by omega))) fX10_change_112 YX10_putOut VX10_putOut lX10_208 rfl rfl (sx_0 _ _) (Nat.le_of_ble_eq_true rfl) (by decide) (by decide) (by decide) ?_
        refine xv_al0 fX10_change_115 ?_
        refine xv_getR fX10_change_116 gX10_10 rfl (sx_0 _ _) (rx_0_0 _) ?_
        refine xv_getI fX10_change_119 gX10_109 rfl (sx_1 _ _) ?_
        refine xv_il5 fX10_change_122 ?_
        refine xv_k fX10_change_124 ?_
        refine xv_ixor fX10_change_125 ?_
        refine xv_iand fX10_change_126 ?_
        refine xv_callS1R (c_bc n c _ J (_)) fX10_change_127 YJ6_bitCount_0f7a4 VJ6_bitCount_0f7a4 lX10_231 rfl (Nat.le_of_ble_eq_true rfl) (by decide) (by decide) (by decide) ?_
        exact xv_iret fX10_change_130 rfl rfl xv_eq_i
      · exact absurd h_80 hf
    · exact absurd (bi_1 h_25) hl.2

theorem p_part_a (n : Nat) (c : Nat × Nat) (I : xv_I) (J : xv_J) {x : Int32} (hx : ∀ k, x = nI k → k < 20 → c.2 ≤ k) {y : Int32} : xv_Met mX10_part 8 16 128 (sx n c) I (rx c) J [.ref 0, .int x, .int y] (xv_eq (.inr "java/lang/IndexOutOfBoundsException") (sx n c) (I) (rx c) J) := by
  refine xv_Met.of (by decide +kernel) (Nat.le_of_ble_eq_true rfl) (List.forall_mem_cons.mpr ⟨rfl, List.forall_mem_cons.mpr ⟨rfl, List.forall_mem_cons.mpr ⟨rfl, fun _ h => nomatch h⟩⟩⟩) ?_
  show xv_W mX10_part 8 16 128 _ 16 128 (sx n c) I (rx c) J 0 [some (.ref 0), some (.int x), some (.int y), none, none] []
  refine xv_al0 fX10_part_0 ?_
  refine xv_il1 fX10_part_1 ?_
  exact xv_callV1X (c_needSt_out n c I J hx) fX10_part_2 YX10_needStory VX10_needStory lX10_195 rfl rfl (sx_0 _ _) (Nat.le_of_ble_eq_true rfl) (by decide) (by decide) (by decide) xv_eq_i

theorem p_part_b (n : Nat) (c : Nat × Nat) (I : xv_I) (J : xv_J) {a : Nat} (hs : a < c.2) (hs2 : a < 20) {y : Int32} (hy : ¬ okR 0 1 y) : xv_Met mX10_part 8 16 128 (sx n c) I (rx c) J [.ref 0, .int (nI a), .int y] (xv_eq (.inr "java/lang/IllegalArgumentException") (sx n c) (I) (rx c) J) := by
  refine xv_Met.of (by decide +kernel) (Nat.le_of_ble_eq_true rfl) (List.forall_mem_cons.mpr ⟨rfl, List.forall_mem_cons.mpr ⟨rfl, List.forall_mem_cons.mpr ⟨rfl, fun _ h => nomatch h⟩⟩⟩) ?_
  show xv_W mX10_part 8 16 128 _ 16 128 (sx n c) I (rx c) J 0 [some (.ref 0), some (.int (nI a)), some (.int y), none, none] []
  refine xv_al0 fX10_part_0 ?_
  refine xv_il1 fX10_part_1 ?_
  refine xv_callV1R (c_needSt_in n c I J hs hs2) fX10_part_2 YX10_needStory VX10_needStory lX10_195 rfl rfl (sx_0 _ _) (Nat.le_of_ble_eq_true rfl) (by decide) (by decide) (by decide) ?_
  refine xv_as3 fX10_part_5 ?_
  refine xv_il2 fX10_part_6 ?_
  refine xv_k fX10_part_7 ?_
  refine xv_k fX10_part_8 ?_
  exact xv_callS3X (c_needRange_out n c I J (okR_x hy)) fX10_part_9 YX10_needRange VX10_needRange lX10_83 rfl (Nat.le_of_ble_eq_true rfl) (by decide) (by decide) (by decide) xv_eq_i

theorem p_part_no (n : Nat) (c : Nat × Nat) (I : xv_I) (J : xv_J) {a : Nat} (hs : a < c.2) (hs2 : a < 20) {k : Nat} (hk : k < 2) (hz : I (201 + 5 * a + 3) k = 0) : xv_Met mX10_part 8 16 128 (sx n c) I (rx c) J [.ref 0, .int (nI a), .int (nI k)] (xv_eq (.inl (some (.int (-1)))) (sx n c) (I) (rx c) J) := by
  refine xv_Met.of (by decide +kernel) (Nat.le_of_ble_eq_true rfl) (List.forall_mem_cons.mpr ⟨rfl, List.forall_mem_cons.mpr ⟨rfl, List.forall_mem_cons.mpr ⟨rfl, fun _ h => nomatch h⟩⟩⟩) ?_
  show xv_W mX10_part 8 16 128 _ 16 128 (sx n c) I (rx c) J 0 [some (.ref 0), some (.int (nI a)), some (.int (nI k)), none, none] []
  refine xv_al0 fX10_part_0 ?_
  refine xv_il1 fX10_part_1 ?_
  refine xv_callV1R (c_needSt_in n c I J hs hs2) fX10_part_2 YX10_needStory VX10_needStory lX10_195 rfl rfl (sx_0 _ _) (Nat.le_of_ble_eq_true rfl) (by decide) (by decide) (by decide) ?_
  refine xv_as3 fX10_part_5 ?_
  refine xv_il2 fX10_part_6 ?_
  refine xv_k fX10_part_7 ?_
  refine xv_k fX10_part_8 ?_
  refine xv_callS3V (c_needRange_in n c I J ((okR_n (Nat.zero_le _) (by omega) (by decide) : okR 0 1 (nI k))).1 ((okR_n (Nat.zero_le _) (by omega) (by decide) : okR 0 1 (nI k))).2) fX10_part_9 YX10_needRange VX10_needRange lX10_83 rfl (Nat.le_of_ble_eq_true rfl) (by decide) (by decide) (by decide) ?_
  refine xv_al3 fX10_part_12 ?_
  refine xv_getR fX10_part_13 gX10_212 rfl (sx_st _ _ hs hs2) (rx_way _ hs hs2) ?_
  refine xv_il2 fX10_part_16 ?_
  refine xv_callV1R (c_sizeOf n c I J (isWay_st n c hs hs2) hk) fX10_part_17 YX8_size VX8_size lX10_236 rfl rfl (sx_wy _ _ hs hs2) (Nat.le_of_ble_eq_true rfl) (by decide) (by decide) (by decide) ?_
  refine xv_is4 fX10_part_20 ?_
  refine xv_il4 fX10_part_22 ?_
  refine xv_if_ne fX10_part_24 (fun h_24 => ?_) (fun h_24 => ?_)
  · exact absurd hz h_24
  · refine xv_k fX10_part_27 ?_
    exact xv_iret fX10_part_28 rfl rfl xv_eq_i

theorem p_part_ok (n : Nat) (c : Nat × Nat) (I : xv_I) (J : xv_J) {a : Nat} (hs : a < c.2) (hs2 : a < 20) {k st : Nat} (hk : k < 2) (hz : ¬ I (201 + 5 * a + 3) k = 0) (hst : I (201 + 5 * a + 2) k = nI st) (hst2 : st < 12) : xv_Met mX10_part 8 16 128 (sx n c) I (rx c) J [.ref 0, .int (nI a), .int (nI k)] (xv_eq (.inl (some (.int (nI 10000 * I (201 + 5 * a + 1) k + nI 100 * nI (cIn st) + I (201 + 5 * a + 3) k)))) (sx n c) (I) (rx c) J) := by
  refine xv_Met.of (by decide +kernel) (Nat.le_of_ble_eq_true rfl) (List.forall_mem_cons.mpr ⟨rfl, List.forall_mem_cons.mpr ⟨rfl, List.forall_mem_cons.mpr ⟨rfl, fun _ h => nomatch h⟩⟩⟩) ?_
  show xv_W mX10_part 8 16 128 _ 16 128 (sx n c) I (rx c) J 0 [some (.ref 0), some (.int (nI a)), some (.int (nI k)), none, none] []
  refine xv_al0 fX10_part_0 ?_
  refine xv_il1 fX10_part_1 ?_
  refine xv_callV1R (c_needSt_in n c I J hs hs2) fX10_part_2 YX10_needStory VX10_needStory lX10_195 rfl rfl (sx_0 _ _) (Nat.le_of_ble_eq_true rfl) (by decide) (by decide) (by decide) ?_
  refine xv_as3 fX10_part_5 ?_
  refine xv_il2 fX10_part_6 ?_
  refine xv_k fX10_part_7 ?_
  refine xv_k fX10_part_8 ?_
  refine xv_callS3V (c_needRange_in n c I J ((okR_n (Nat.zero_le _) (by omega) (by decide) : okR 0 1 (nI k))).1 ((okR_n (Nat.zero_le _) (by omega) (by decide) : okR 0 1 (nI k))).2) fX10_part_9 YX10_needRange VX10_needRange lX10_83 rfl (Nat.le_of_ble_eq_true rfl) (by decide) (by decide) (by decide) ?_
  refine xv_al3 fX10_part_12 ?_
  refine xv_getR fX10_part_13 gX10_212 rfl (sx_st _ _ hs hs2) (rx_way _ hs hs2) ?_
  refine xv_il2 fX10_part_16 ?_
  refine xv_callV1R (c_sizeOf n c I J (isWay_st n c hs hs2) hk) fX10_part_17 YX8_size VX8_size lX10_236 rfl rfl (sx_wy _ _ hs hs2) (Nat.le_of_ble_eq_true rfl) (by decide) (by decide) (by decide) ?_
  refine xv_is4 fX10_part_20 ?_
  refine xv_il4 fX10_part_22 ?_
  refine xv_if_ne fX10_part_24 (fun h_24 => ?_) (fun h_24 => ?_)
  · refine xv_k fX10_part_29 ?_
    refine xv_al3 fX10_part_32 ?_
    refine xv_getR fX10_part_33 gX10_212 rfl (sx_st _ _ hs hs2) (rx_way _ hs hs2) ?_
    refine xv_il2 fX10_part_36 ?_
    refine xv_callV1R (c_pageOf n c I J (isWay_st n c hs hs2) hk) fX10_part_37 YX8_pageOf VX8_pageOf lX10_239 rfl rfl (sx_wy _ _ hs hs2) (Nat.le_of_ble_eq_true rfl) (by decide) (by decide) (by decide) ?_
    refine xv_imul fX10_part_40 ?_
    refine xv_k fX10_part_41 ?_
    refine xv_al3 fX10_part_43 ?_
    refine xv_getR fX10_part_44 gX10_212 rfl (sx_st _ _ hs hs2) (rx_way _ hs hs2) ?_
    refine xv_il2 fX10_part_47 ?_
    refine xv_callV1R (c_startOf n c I J (isWay_st n c hs hs2) hk) fX10_part_48 YX8_start VX8_start lX10_242 rfl rfl (sx_wy _ _ hs hs2) (Nat.le_of_ble_eq_true rfl) (by decide) (by decide) (by decide) ?_
    rw [hst]
    refine xv_callS1R (c_cellIn n c I J hst2) fX10_part_51 YX10_cellInColumns VX10_cellInColumns lX10_245 rfl (Nat.le_of_ble_eq_true rfl) (by decide) (by decide) (by decide) ?_
    refine xv_imul fX10_part_54 ?_
    refine xv_iadd fX10_part_55 ?_
    refine xv_il4 fX10_part_56 ?_
    refine xv_iadd fX10_part_58 ?_
    exact xv_iret fX10_part_59 rfl rfl xv_eq_i
  · exact absurd h_24 hz

theorem p_person_a (n : Nat) (c : Nat × Nat) (I : xv_I) (J : xv_J) {x : Int32} (hx : x < 0 ∨ ¬ x < nI 6) : xv_Met mX10_person 8 16 128 (sx n c) I (rx c) J [.ref 0, .int x] (xv_eq (.inr "java/lang/IndexOutOfBoundsException") (sx n c) (I) (rx c) J) := by
  refine xv_Met.of (by decide +kernel) (Nat.le_of_ble_eq_true rfl) (List.forall_mem_cons.mpr ⟨rfl, List.forall_mem_cons.mpr ⟨rfl, fun _ h => nomatch h⟩⟩) ?_
  show xv_W mX10_person 8 16 128 _ 16 128 (sx n c) I (rx c) J 0 [some (.ref 0), some (.int x)] []
  refine xv_il1 fX10_person_0 ?_
  exact xv_callS1X (c_needPerson_out n c I J hx) fX10_person_1 YX10_needPerson VX10_needPerson lX10_248 rfl (Nat.le_of_ble_eq_true rfl) (by decide) (by decide) (by decide) xv_eq_i

theorem p_person_out (n : Nat) (c : Nat × Nat) (I : xv_I) (J : xv_J) {q : Nat} (hq : q < 6) (ht : ¬ I 1 5 &&& nI (2 ^ q) = 0) : xv_Met mX10_person 8 16 128 (sx n c) I (rx c) J [.ref 0, .int (nI q)] (xv_eq (.inl (some (.int (bi (¬ xLeave q I 1 5 &&& nI (2 ^ q) = 0))))) (sx n c) (xLeave q I) (rx c) J) := by
  refine xv_Met.of (by decide +kernel) (Nat.le_of_ble_eq_true rfl) (List.forall_mem_cons.mpr ⟨rfl, List.forall_mem_cons.mpr ⟨rfl, fun _ h => nomatch h⟩⟩) ?_
  show xv_W mX10_person 8 16 128 _ 16 128 (sx n c) I (rx c) J 0 [some (.ref 0), some (.int (nI q))] []
  refine xv_il1 fX10_person_0 ?_
  refine xv_callS1V (c_needPerson_in n c I J hq) fX10_person_1 YX10_needPerson VX10_needPerson lX10_248 rfl (Nat.le_of_ble_eq_true rfl) (by decide) (by decide) (by decide) ?_
  refine xv_al0 fX10_person_4 ?_
  refine xv_getR fX10_person_5 gX10_10 rfl (sx_0 _ _) (rx_0_0 _) ?_
  refine xv_il1 fX10_person_8 ?_
  refine xv_callV1R (c_isThere n c I J hq) fX10_person_9 YX5_isThere VX5_isThere lX10_251 rfl rfl (sx_1 _ _) (Nat.le_of_ble_eq_true rfl) (by decide) (by decide) (by decide) ?_
  refine xv_if_eq fX10_person_12 (fun h_12 => ?_) (fun h_12 => ?_)
  · exact absurd ht (bi_0 h_12)
  · refine xv_al0 fX10_person_15 ?_
    refine xv_getR fX10_person_16 gX10_10 rfl (sx_0 _ _) (rx_0_0 _) ?_
    refine xv_il1 fX10_person_19 ?_
    refine xv_callV1V (c_leave n c I J hq) fX10_person_20 YX5_letLeave VX5_letLeave lX10_254 rfl rfl (sx_1 _ _) (Nat.le_of_ble_eq_true rfl) (by decide) (by decide) (by decide) ?_
    refine xv_goto fX10_person_23 ?_
    refine xv_al0 fX10_person_34 ?_
    refine xv_getR fX10_person_35 gX10_10 rfl (sx_0 _ _) (rx_0_0 _) ?_
    refine xv_il1 fX10_person_38 ?_
    refine xv_callV1R (c_isThere n c _ J hq) fX10_person_39 YX5_isThere VX5_isThere lX10_251 rfl rfl (sx_1 _ _) (Nat.le_of_ble_eq_true rfl) (by decide) (by decide) (by decide) ?_
    exact xv_iret fX10_person_42 rfl (narrow_bi _) xv_eq_i

theorem p_person_in (n : Nat) (c : Nat × Nat) (I : xv_I) (J : xv_J) {q : Nat} (hq : q < 6) (ht : ¬ ¬ I 1 5 &&& nI (2 ^ q) = 0) : xv_Met mX10_person 8 16 128 (sx n c) I (rx c) J [.ref 0, .int (nI q)] (xv_eq (.inl (some (.int (bi (¬ xv_u I 1 5 (I 1 5 ||| nI (2 ^ q)) 1 5 &&& nI (2 ^ q) = 0))))) (sx n c) (xv_u I 1 5 (I 1 5 ||| nI (2 ^ q))) (rx c) J) := by
  refine xv_Met.of (by decide +kernel) (Nat.le_of_ble_eq_true rfl) (List.forall_mem_cons.mpr ⟨rfl, List.forall_mem_cons.mpr ⟨rfl, fun _ h => nomatch h⟩⟩) ?_
  show xv_W mX10_person 8 16 128 _ 16 128 (sx n c) I (rx c) J 0 [some (.ref 0), some (.int (nI q))] []
  refine xv_il1 fX10_person_0 ?_
  refine xv_callS1V (c_needPerson_in n c I J hq) fX10_person_1 YX10_needPerson VX10_needPerson lX10_248 rfl (Nat.le_of_ble_eq_true rfl) (by decide) (by decide) (by decide) ?_
  refine xv_al0 fX10_person_4 ?_
  refine xv_getR fX10_person_5 gX10_10 rfl (sx_0 _ _) (rx_0_0 _) ?_
  refine xv_il1 fX10_person_8 ?_
  refine xv_callV1R (c_isThere n c I J hq) fX10_person_9 YX5_isThere VX5_isThere lX10_251 rfl rfl (sx_1 _ _) (Nat.le_of_ble_eq_true rfl) (by decide) (by decide) (by decide) ?_
  refine xv_if_eq fX10_person_12 (fun h_12 => ?_) (fun h_12 => ?_)
  · refine xv_al0 fX10_person_26 ?_
    refine xv_getR fX10_person_27 gX10_10 rfl (sx_0 _ _) (rx_0_0 _) ?_
    refine xv_il1 fX10_person_30 ?_
    refine xv_callV1V (c_comeBack n c I J hq) fX10_person_31 YX5_letComeBack VX5_letComeBack lX10_257 rfl rfl (sx_1 _ _) (Nat.le_of_ble_eq_true rfl) (by decide) (by decide) (by decide) ?_
    refine xv_al0 fX10_person_34 ?_
    refine xv_getR fX10_person_35 gX10_10 rfl (sx_0 _ _) (rx_0_0 _) ?_
    refine xv_il1 fX10_person_38 ?_
    refine xv_callV1R (c_isThere n c _ J hq) fX10_person_39 YX5_isThere VX5_isThere lX10_251 rfl rfl (sx_1 _ _) (Nat.le_of_ble_eq_true rfl) (by decide) (by decide) (by decide) ?_
    exact xv_iret fX10_person_42 rfl (narrow_bi _) xv_eq_i
  · exact absurd (bi_1 h_12) ht

theorem p_sign_a (n : Nat) (c : Nat × Nat) (I : xv_I) (J : xv_J) {x : Int32} (hx : ¬ (¬ x < 0 ∧ ¬ nI 10 ≤ x)) {y : Int32} : xv_Met mX10_sign 8 16 128 (sx n c) I (rx c) J [.ref 0, .int x, .int y] (xv_eq (.inr "java/lang/IndexOutOfBoundsException") (sx n c) (I) (rx c) J) := by
  refine xv_Met.of (by decide +kernel) (Nat.le_of_ble_eq_true rfl) (List.forall_mem_cons.mpr ⟨rfl, List.forall_mem_cons.mpr ⟨rfl, List.forall_mem_cons.mpr ⟨rfl, fun _ h => nomatch h⟩⟩⟩) ?_
  show xv_W mX10_sign 8 16 128 _ 16 128 (sx n c) I (rx c) J 0 [some (.ref 0), some (.int x), some (.int y)] []
  refine xv_il1 fX10_sign_0 ?_
  exact xv_callS1X (c_needPage_out n c I J hx) fX10_sign_1 YX10_needPage VX10_needPage lX10_79 rfl (Nat.le_of_ble_eq_true rfl) (by decide) (by decide) (by decide) xv_eq_i

theorem p_sign_b (n : Nat) (c : Nat × Nat) (I : xv_I) (J : xv_J) {p : Nat} (hp : p < 10) {x : Int32} (hx : x < 0 ∨ ¬ x < nI 6) : xv_Met mX10_sign 8 16 128 (sx n c) I (rx c) J [.ref 0, .int (nI p), .int x] (xv_eq (.inr "java/lang/IndexOutOfBoundsException") (sx n c) (I) (rx c) J) := by
  refine xv_Met.of (by decide +kernel) (Nat.le_of_ble_eq_true rfl) (List.forall_mem_cons.mpr ⟨rfl, List.forall_mem_cons.mpr ⟨rfl, List.forall_mem_cons.mpr ⟨rfl, fun _ h => nomatch h⟩⟩⟩) ?_
  show xv_W mX10_sign 8 16 128 _ 16 128 (sx n c) I (rx c) J 0 [some (.ref 0), some (.int (nI p)), some (.int x)] []
  refine xv_il1 fX10_sign_0 ?_
  refine xv_callS1V (c_needPage_in n c I J hp) fX10_sign_1 YX10_needPage VX10_needPage lX10_79 rfl (Nat.le_of_ble_eq_true rfl) (by decide) (by decide) (by decide) ?_
  refine xv_il2 fX10_sign_4 ?_
  exact xv_callS1X (c_needPerson_out n c I J hx) fX10_sign_5 YX10_needPerson VX10_needPerson lX10_248 rfl (Nat.le_of_ble_eq_true rfl) (by decide) (by decide) (by decide) xv_eq_i

theorem p_sign_c (n : Nat) (c : Nat × Nat) (I : xv_I) (J : xv_J) {p : Nat} (hp : p < 10) {q : Nat} (hq : q < 6) (hx : ¬ (¬ I 1 5 &&& nI (2 ^ q) = 0 ∧ ¬ ¬ I 15 p &&& nI (2 ^ q) = 0)) : xv_Met mX10_sign 8 16 128 (sx n c) I (rx c) J [.ref 0, .int (nI p), .int (nI q)] (xv_eq (.inr "java/lang/IllegalStateException") (sx n c) (I) (rx c) J) := by
  refine xv_Met.of (by decide +kernel) (Nat.le_of_ble_eq_true rfl) (List.forall_mem_cons.mpr ⟨rfl, List.forall_mem_cons.mpr ⟨rfl, List.forall_mem_cons.mpr ⟨rfl, fun _ h => nomatch h⟩⟩⟩) ?_
  show xv_W mX10_sign 8 16 128 _ 16 128 (sx n c) I (rx c) J 0 [some (.ref 0), some (.int (nI p)), some (.int (nI q))] []
  refine xv_il1 fX10_sign_0 ?_
  refine xv_callS1V (c_needPage_in n c I J hp) fX10_sign_1 YX10_needPage VX10_needPage lX10_79 rfl (Nat.le_of_ble_eq_true rfl) (by decide) (by decide) (by decide) ?_
  refine xv_il2 fX10_sign_4 ?_
  refine xv_callS1V (c_needPerson_in n c I J hq) fX10_sign_5 YX10_needPerson VX10_needPerson lX10_248 rfl (Nat.le_of_ble_eq_true rfl) (by decide) (by decide) (by decide) ?_
  refine xv_al0 fX10_sign_8 ?_
  refine xv_getR fX10_sign_9 gX10_10 rfl (sx_0 _ _) (rx_0_0 _) ?_
  refine xv_il2 fX10_sign_12 ?_
  refine xv_callV1R (c_isThere n c I J hq) fX10_sign_13 YX5_isThere VX5_isThere lX10_251 rfl rfl (sx_1 _ _) (Nat.le_of_ble_eq_true rfl) (by decide) (by decide) (by decide) ?_
  refine xv_if_eq fX10_sign_16 (fun h_16 => ?_) (fun h_16 => ?_)
  · exact xv_throw fX10_sign_31 hX10_263 rfl (by decide) (by decide) (by decide) (by decide) xv_eq_i
  · refine xv_al0 fX10_sign_19 ?_
    refine xv_getR fX10_sign_20 gX10_10 rfl (sx_0 _ _) (rx_0_0 _) ?_
    refine xv_il1 fX10_sign_23 ?_
    refine xv_il2 fX10_sign_24 ?_
    refine xv_callV2R (c_hasSigned n c I J hp hq) fX10_sign_25 YX5_hasSigned VX5_hasSigned lX10_260 rfl rfl (sx_1 _ _) (Nat.le_of_ble_eq_true rfl) (by decide) (by decide) (by decide) ?_
    refine xv_if_eq fX10_sign_28 (fun h_28 => ?_) (fun h_28 => ?_)
    · exact absurd ⟨bi_1 h_16, bi_0 h_28⟩ hx
    · exact xv_throw fX10_sign_31 hX10_263 rfl (by decide) (by decide) (by decide) (by decide) xv_eq_i

theorem p_sign_ok (n : Nat) (c : Nat × Nat) (I : xv_I) (J : xv_J) {p : Nat} (hp : p < 10) {q : Nat} (hq : q < 6) (hx : ¬ I 1 5 &&& nI (2 ^ q) = 0 ∧ ¬ ¬ I 15 p &&& nI (2 ^ q) = 0) : xv_Met mX10_sign 8 16 128 (sx n c) I (rx c) J [.ref 0, .int (nI p), .int (nI q)] (xv_eq (.inl (some (.int (xBC (I 15 p ||| nI (2 ^ q)))))) (sx n c) (xv_u I 15 p (I 15 p ||| nI (2 ^ q))) (rx c) J) := by
  refine xv_Met.of (by decide +kernel) (Nat.le_of_ble_eq_true rfl) (List.forall_mem_cons.mpr ⟨rfl, List.forall_mem_cons.mpr ⟨rfl, List.forall_mem_cons.mpr ⟨rfl, fun _ h => nomatch h⟩⟩⟩) ?_
  show xv_W mX10_sign 8 16 128 _ 16 128 (sx n c) I (rx c) J 0 [some (.ref 0), some (.int (nI p)), some (.int (nI q))] []
  refine xv_il1 fX10_sign_0 ?_
  refine xv_callS1V (c_needPage_in n c I J hp) fX10_sign_1 YX10_needPage VX10_needPage lX10_79 rfl (Nat.le_of_ble_eq_true rfl) (by decide) (by decide) (by decide) ?_
  refine xv_il2 fX10_sign_4 ?_
  refine xv_callS1V (c_needPerson_in n c I J hq) fX10_sign_5 YX10_needPerson VX10_needPerson lX10_248 rfl (Nat.le_of_ble_eq_true rfl) (by decide) (by decide) (by decide) ?_
  refine xv_al0 fX10_sign_8 ?_
  refine xv_getR fX10_sign_9 gX10_10 rfl (sx_0 _ _) (rx_0_0 _) ?_
  refine xv_il2 fX10_sign_12 ?_
  refine xv_callV1R (c_isThere n c I J hq) fX10_sign_13 YX5_isThere VX5_isThere lX10_251 rfl rfl (sx_1 _ _) (Nat.le_of_ble_eq_true rfl) (by decide) (by decide) (by decide) ?_
  refine xv_if_eq fX10_sign_16 (fun h_16 => ?_) (fun h_16 => ?_)
  · exact absurd hx.1 (bi_0 h_16)
  · refine xv_al0 fX10_sign_19 ?_
    refine xv_getR fX10_sign_20 gX10_10 rfl (sx_0 _ _) (rx_0_0 _) ?_
    refine xv_il1 fX10_sign_23 ?_
    refine xv_il2 fX10_sign_24 ?_
    refine xv_callV2R (c_hasSigned n c I J hp hq) fX10_sign_25 YX5_hasSigned VX5_hasSigned lX10_260 rfl rfl (sx_1 _ _) (Nat.le_of_ble_eq_true rfl) (by decide) (by decide) (by decide) ?_
    refine xv_if_eq fX10_sign_28 (fun h_28 => ?_) (fun h_28 => ?_)
    · refine xv_al0 fX10_sign_42 ?_
      refine xv_getR fX10_sign_43 gX10_10 rfl (sx_0 _ _) (rx_0_0 _) ?_
      refine xv_il1 fX10_sign_46 ?_
      refine xv_il2 fX10_sign_47 ?_
      refine xv_callV2R (c_addSig n c I J hp hq) fX10_sign_48 YX5_addSignature VX5_addSignature lX10_265 rfl rfl (sx_1 _ _) (Nat.le_of_ble_eq_true rfl) (by decide) (by decide) (by decide) ?_
      exact xv_iret fX10_sign_51 rfl rfl xv_eq_i
    · exact absurd (bi_1 h_28) hx.2

theorem p_hold_a (n : Nat) (c : Nat × Nat) (I : xv_I) (J : xv_J) {x : Int32} (hx : ¬ (¬ x < 0 ∧ ¬ nI 10 ≤ x)) {y : Int32} : xv_Met mX10_hold 8 16 128 (sx n c) I (rx c) J [.ref 0, .int x, .int y] (xv_eq (.inr "java/lang/IndexOutOfBoundsException") (sx n c) (I) (rx c) J) := by
  refine xv_Met.of (by decide +kernel) (Nat.le_of_ble_eq_true rfl) (List.forall_mem_cons.mpr ⟨rfl, List.forall_mem_cons.mpr ⟨rfl, List.forall_mem_cons.mpr ⟨rfl, fun _ h => nomatch h⟩⟩⟩) ?_
  show xv_W mX10_hold 8 16 128 _ 16 128 (sx n c) I (rx c) J 0 [some (.ref 0), some (.int x), some (.int y)] []
  refine xv_il1 fX10_hold_0 ?_
  exact xv_callS1X (c_needPage_out n c I J hx) fX10_hold_1 YX10_needPage VX10_needPage lX10_79 rfl (Nat.le_of_ble_eq_true rfl) (by decide) (by decide) (by decide) xv_eq_i

theorem p_hold_b (n : Nat) (c : Nat × Nat) (I : xv_I) (J : xv_J) {p : Nat} (hp : p < 10) {x : Int32} (hx : x < 0 ∨ ¬ x < nI 6) : xv_Met mX10_hold 8 16 128 (sx n c) I (rx c) J [.ref 0, .int (nI p), .int x] (xv_eq (.inr "java/lang/IndexOutOfBoundsException") (sx n c) (I) (rx c) J) := by
  refine xv_Met.of (by decide +kernel) (Nat.le_of_ble_eq_true rfl) (List.forall_mem_cons.mpr ⟨rfl, List.forall_mem_cons.mpr ⟨rfl, List.forall_mem_cons.mpr ⟨rfl, fun _ h => nomatch h⟩⟩⟩) ?_
  show xv_W mX10_hold 8 16 128 _ 16 128 (sx n c) I (rx c) J 0 [some (.ref 0), some (.int (nI p)), some (.int x)] []
  refine xv_il1 fX10_hold_0 ?_
  refine xv_callS1V (c_needPage_in n c I J hp) fX10_hold_1 YX10_needPage VX10_needPage lX10_79 rfl (Nat.le_of_ble_eq_true rfl) (by decide) (by decide) (by decide) ?_
  refine xv_il2 fX10_hold_4 ?_
  exact xv_callS1X (c_needPerson_out n c I J hx) fX10_hold_5 YX10_needPerson VX10_needPerson lX10_248 rfl (Nat.le_of_ble_eq_true rfl) (by decide) (by decide) (by decide) xv_eq_i

theorem p_hold_c (n : Nat) (c : Nat × Nat) (I : xv_I) (J : xv_J) {p : Nat} (hp : p < 10) {q : Nat} (hq : q < 6) (hx : ¬ ¬ I 1 5 &&& nI (2 ^ q) = 0) : xv_Met mX10_hold 8 16 128 (sx n c) I (rx c) J [.ref 0, .int (nI p), .int (nI q)] (xv_eq (.inr "java/lang/IllegalStateException") (sx n c) (I) (rx c) J) := by
  refine xv_Met.of (by decide +kernel) (Nat.le_of_ble_eq_true rfl) (List.forall_mem_cons.mpr ⟨rfl, List.forall_mem_cons.mpr ⟨rfl, List.forall_mem_cons.mpr ⟨rfl, fun _ h => nomatch h⟩⟩⟩) ?_
  show xv_W mX10_hold 8 16 128 _ 16 128 (sx n c) I (rx c) J 0 [some (.ref 0), some (.int (nI p)), some (.int (nI q))] []
  refine xv_il1 fX10_hold_0 ?_
  refine xv_callS1V (c_needPage_in n c I J hp) fX10_hold_1 YX10_needPage VX10_needPage lX10_79 rfl (Nat.le_of_ble_eq_true rfl) (by decide) (by decide) (by decide) ?_
  refine xv_il2 fX10_hold_4 ?_
  refine xv_callS1V (c_needPerson_in n c I J hq) fX10_hold_5 YX10_needPerson VX10_needPerson lX10_248 rfl (Nat.le_of_ble_eq_true rfl) (by decide) (by decide) (by decide) ?_
  refine xv_al0 fX10_hold_8 ?_
  refine xv_getR fX10_hold_9 gX10_10 rfl (sx_0 _ _) (rx_0_0 _) ?_
  refine xv_il2 fX10_hold_12 ?_
  refine xv_callV1R (c_isThere n c I J hq) fX10_hold_13 YX5_isThere VX5_isThere lX10_251 rfl rfl (sx_1 _ _) (Nat.le_of_ble_eq_true rfl) (by decide) (by decide) (by decide) ?_
  refine xv_if_ne fX10_hold_16 (fun h_16 => ?_) (fun h_16 => ?_)
  · exact absurd (bi_1 h_16) hx
  · exact xv_throw fX10_hold_19 hX10_268 rfl (by decide) (by decide) (by decide) (by decide) xv_eq_i

theorem p_hold_ok (n : Nat) (c : Nat × Nat) (I : xv_I) (J : xv_J) {p : Nat} (hp : p < 10) {q : Nat} (hq : q < 6) (hx : ¬ I 1 5 &&& nI (2 ^ q) = 0) : xv_Met mX10_hold 8 16 128 (sx n c) I (rx c) J [.ref 0, .int (nI p), .int (nI q)] (xv_eq (.inl (some (.int (bi (¬ (I 16 p ^^^ nI (2 ^ q)) &&& nI (2 ^ q) = 0))))) (sx n c) (xv_u I 16 p (I 16 p ^^^ nI (2 ^ q))) (rx c) J) := by
  refine xv_Met.of (by decide +kernel) (Nat.le_of_ble_eq_true rfl) (List.forall_mem_cons.mpr ⟨rfl, List.forall_mem_cons.mpr ⟨rfl, List.forall_mem_cons.mpr ⟨rfl, fun _ h => nomatch h⟩⟩⟩) ?_
  show xv_W mX10_hold 8 16 128 _ 16 128 (sx n c) I (rx c) J 0 [some (.ref 0), some (.int (nI p)), some (.int (nI q))] []
  refine xv_il1 fX10_hold_0 ?_
  refine xv_callS1V (c_needPage_in n c I J hp) fX10_hold_1 YX10_needPage VX10_needPage lX10_79 rfl (Nat.le_of_ble_eq_true rfl) (by decide) (by decide) (by decide) ?_
  refine xv_il2 fX10_hold_4 ?_
  refine xv_callS1V (c_needPerson_in n c I J hq) fX10_hold_5 YX10_needPerson VX10_needPerson lX10_248 rfl (Nat.le_of_ble_eq_true rfl) (by decide) (by decide) (by decide) ?_
  refine xv_al0 fX10_hold_8 ?_
  refine xv_getR fX10_hold_9 gX10_10 rfl (sx_0 _ _) (rx_0_0 _) ?_
  refine xv_il2 fX10_hold_12 ?_
  refine xv_callV1R (c_isThere n c I J hq) fX10_hold_13 YX5_isThere VX5_isThere lX10_251 rfl rfl (sx_1 _ _) (Nat.le_of_ble_eq_true rfl) (by decide) (by decide) (by decide) ?_
  refine xv_if_ne fX10_hold_16 (fun h_16 => ?_) (fun h_16 => ?_)
  · refine xv_al0 fX10_hold_30 ?_
    refine xv_getR fX10_hold_31 gX10_10 rfl (sx_0 _ _) (rx_0_0 _) ?_
    refine xv_il1 fX10_hold_34 ?_
    refine xv_il2 fX10_hold_35 ?_
    refine xv_callV2R (c_turnHold n c I J hp hq) fX10_hold_36 YX5_turnHold VX5_turnHold lX10_270 rfl rfl (sx_1 _ _) (Nat.le_of_ble_eq_true rfl) (by decide) (by decide) (by decide) ?_
    exact xv_iret fX10_hold_39 rfl (narrow_bi _) xv_eq_i
  · exact absurd hx (bi_0 h_16)

theorem p_isReady_a (n : Nat) (c : Nat × Nat) (I : xv_I) (J : xv_J) {x : Int32} (hx : ¬ (¬ x < 0 ∧ ¬ nI 10 ≤ x)) : xv_Met mX10_isReady 8 16 128 (sx n c) I (rx c) J [.ref 0, .int x] (xv_eq (.inr "java/lang/IndexOutOfBoundsException") (sx n c) (I) (rx c) J) := by
  refine xv_Met.of (by decide +kernel) (Nat.le_of_ble_eq_true rfl) (List.forall_mem_cons.mpr ⟨rfl, List.forall_mem_cons.mpr ⟨rfl, fun _ h => nomatch h⟩⟩) ?_
  show xv_W mX10_isReady 8 16 128 _ 16 128 (sx n c) I (rx c) J 0 [some (.ref 0), some (.int x)] []
  refine xv_il1 fX10_isReady_0 ?_
  exact xv_callS1X (c_needPage_out n c I J hx) fX10_isReady_1 YX10_needPage VX10_needPage lX10_79 rfl (Nat.le_of_ble_eq_true rfl) (by decide) (by decide) (by decide) xv_eq_i

theorem p_isReady_ok (n : Nat) (c : Nat × Nat) (I : xv_I) (J : xv_J) {p : Nat} (hp : p < 10) : xv_Met mX10_isReady 8 16 128 (sx n c) I (rx c) J [.ref 0, .int (nI p)] (xv_eq (.inl (some (.int (bi (xReady I p))))) (sx n c) (I) (rx c) J) := by
  refine xv_Met.of (by decide +kernel) (Nat.le_of_ble_eq_true rfl) (List.forall_mem_cons.mpr ⟨rfl, List.forall_mem_cons.mpr ⟨rfl, fun _ h => nomatch h⟩⟩) ?_
  show xv_W mX10_isReady 8 16 128 _ 16 128 (sx n c) I (rx c) J 0 [some (.ref 0), some (.int (nI p))] []
  refine xv_il1 fX10_isReady_0 ?_
  refine xv_callS1V (c_needPage_in n c I J hp) fX10_isReady_1 YX10_needPage VX10_needPage lX10_79 rfl (Nat.le_of_ble_eq_true rfl) (by decide) (by decide) (by decide) ?_
  refine xv_al0 fX10_isReady_4 ?_
  refine xv_getR fX10_isReady_5 gX10_10 rfl (sx_0 _ _) (rx_0_0 _) ?_
  refine xv_il1 fX10_isReady_8 ?_
  refine xv_callV1R (c_canGo n c I J hp) fX10_isReady_9 YX5_canGo VX5_canGo lX10_273 rfl rfl (sx_1 _ _) (Nat.le_of_ble_eq_true rfl) (by decide) (by decide) (by decide) ?_
  exact xv_iret fX10_isReady_12 rfl (narrow_bi _) xv_eq_i

theorem p_close_a (n : Nat) (c : Nat × Nat) (I : xv_I) (J : xv_J) (hx : ¬ ((∀ p, p < 10 → xReady I p) ∧ ¬ nI 0 < I 29 4 ∧ I 29 2 < nI 8)) : xv_Met mX10_close 8 16 128 (sx n c) I (rx c) J [.ref 0] (xv_eq (.inr "java/lang/IllegalStateException") (sx n c) (I) (rx c) J) := by
  refine xv_Met.of (by decide +kernel) (Nat.le_of_ble_eq_true rfl) (List.forall_mem_cons.mpr ⟨rfl, fun _ h => nomatch h⟩) ?_
  show xv_W mX10_close 8 16 128 _ 16 128 (sx n c) I (rx c) J 0 [some (.ref 0)] []
  refine xv_al0 fX10_close_0 ?_
  refine xv_getR fX10_close_1 gX10_10 rfl (sx_0 _ _) (rx_0_0 _) ?_
  refine xv_callV0R (c_canAllGo n c I J) fX10_close_4 YX5_canAllGo VX5_canAllGo lX10_276 rfl rfl (sx_1 _ _) (Nat.le_of_ble_eq_true rfl) (by decide) (by decide) (by decide) ?_
  refine xv_if_eq fX10_close_7 (fun h_7 => ?_) (fun h_7 => ?_)
  · exact xv_throw fX10_close_32 hX10_285 rfl (by decide) (by decide) (by decide) (by decide) xv_eq_i
  · refine xv_al0 fX10_close_10 ?_
    refine xv_getR fX10_close_11 gX10_44 rfl (sx_0 _ _) (rx_0_7 _) ?_
    refine xv_getI fX10_close_14 gX10_279 rfl (sx_29 _ _) ?_
    refine xv_if_gt fX10_close_17 (fun h_17 => ?_) (fun h_17 => ?_)
    · exact xv_throw fX10_close_32 hX10_285 rfl (by decide) (by decide) (by decide) (by decide) xv_eq_i
    · refine xv_al0 fX10_close_20 ?_
      refine xv_getR fX10_close_21 gX10_44 rfl (sx_0 _ _) (rx_0_7 _) ?_
      refine xv_getI fX10_close_24 gX10_282 rfl (sx_29 _ _) ?_
      refine xv_k fX10_close_27 ?_
      refine xv_ic_lt fX10_close_29 (fun h_29 => ?_) (fun h_29 => ?_)
      · exact absurd ⟨bi_1 h_7, h_17, h_29⟩ hx
      · exact xv_throw fX10_close_32 hX10_285 rfl (by decide) (by decide) (by decide) (by decide) xv_eq_i

theorem p_close_ok (n : Nat) (c : Nat × Nat) (I : xv_I) (J : xv_J) {e : Nat} (hc : I 29 2 = nI e) (he : e < 8) (hx : (∀ p, p < 10 → xReady I p) ∧ ¬ nI 0 < I 29 4 ∧ I 29 2 < nI 8) : xv_Met mX10_close 8 16 128 (sx n c) I (rx c) J [.ref 0] (xv_eq (.inl (some (.int (nI e)))) (sx n c) (xv_u (xKept e (I 0 9) I) 1 6 (nI 0)) (rx c) J) := by
  refine xv_Met.of (by decide +kernel) (Nat.le_of_ble_eq_true rfl) (List.forall_mem_cons.mpr ⟨rfl, fun _ h => nomatch h⟩) ?_
  show xv_W mX10_close 8 16 128 _ 16 128 (sx n c) I (rx c) J 0 [some (.ref 0)] []
  refine xv_al0 fX10_close_0 ?_
  refine xv_getR fX10_close_1 gX10_10 rfl (sx_0 _ _) (rx_0_0 _) ?_
  refine xv_callV0R (c_canAllGo n c I J) fX10_close_4 YX5_canAllGo VX5_canAllGo lX10_276 rfl rfl (sx_1 _ _) (Nat.le_of_ble_eq_true rfl) (by decide) (by decide) (by decide) ?_
  refine xv_if_eq fX10_close_7 (fun h_7 => ?_) (fun h_7 => ?_)
  · exact absurd hx.1 (bi_0 h_7)
  · refine xv_al0 fX10_close_10 ?_
    refine xv_getR fX10_close_11 gX10_44 rfl (sx_0 _ _) (rx_0_7 _) ?_
    refine xv_getI fX10_close_14 gX10_279 rfl (sx_29 _ _) ?_
    refine xv_if_gt fX10_close_17 (fun h_17 => ?_) (fun h_17 => ?_)
    · exact absurd h_17 hx.2.1
    · refine xv_al0 fX10_close_20 ?_
      refine xv_getR fX10_close_21 gX10_44 rfl (sx_0 _ _) (rx_0_7 _) ?_
      refine xv_getI fX10_close_24 gX10_282 rfl (sx_29 _ _) ?_
      refine xv_k fX10_close_27 ?_
      refine xv_ic_lt fX10_close_29 (fun h_29 => ?_) (fun h_29 => ?_)
      · refine xv_al0 fX10_close_43 ?_
        refine xv_getR fX10_close_44 gX10_44 rfl (sx_0 _ _) (rx_0_7 _) ?_
        refine xv_al0 fX10_close_47 ?_
        refine xv_getR fX10_close_48 gX10_10 rfl (sx_0 _ _) (rx_0_0 _) ?_
        refine xv_al0 fX10_close_51 ?_
        refine xv_getI fX10_close_52 gX10_287 rfl (sx_0 _ _) ?_
        refine xv_callV2V (c_archive n c I J he hc) fX10_close_55 YX1_keep VX1_keep lX10_290 rfl rfl (sx_29 _ _) (Nat.le_of_ble_eq_true rfl) (by decide) (by decide) (by decide) ?_
        refine xv_al0 fX10_close_58 ?_
        refine xv_getR fX10_close_59 gX10_10 rfl (sx_0 _ _) (rx_0_0 _) ?_
        refine xv_k fX10_close_62 ?_
        refine xv_putI fX10_close_63 gX10_109 rfl (tp5_6 _) (sx_1 _ _) ⟨rfl, rfl⟩ ?_
        refine xv_al0 fX10_close_66 ?_
        refine xv_getR fX10_close_67 gX10_44 rfl (sx_0 _ _) (rx_0_7 _) ?_
        refine xv_getI fX10_close_70 gX10_282 rfl (sx_29 _ _) ?_
        rw [xv_u_ne _ _ _ (by decide), show xKept e (I 0 9) I 29 2 = nI (e + 1) from xv_u_eq _ _ _ _]
        refine xv_k fX10_close_73 ?_
        refine xv_isub fX10_close_74 ?_
        rw [show nI (e + 1) - nI 1 = nI e from nI_sub (Nat.succ_le_succ (Nat.zero_le e))]
        exact xv_iret fX10_close_75 rfl rfl xv_eq_i
      · exact absurd hx.2.2 h_29

theorem p_printed_a (n : Nat) (c : Nat × Nat) (I : xv_I) (J : xv_J) {x : Int32} (hx : x < 0 ∨ ¬ x < I 29 2) {y z : Int32} : xv_Met mX10_printed 8 16 128 (sx n c) I (rx c) J [.ref 0, .int x, .int y, .int z] (xv_eq (.inr "java/lang/IndexOutOfBoundsException") (sx n c) (I) (rx c) J) := by
  refine xv_Met.of (by decide +kernel) (Nat.le_of_ble_eq_true rfl) (List.forall_mem_cons.mpr ⟨rfl, List.forall_mem_cons.mpr ⟨rfl, List.forall_mem_cons.mpr ⟨rfl, List.forall_mem_cons.mpr ⟨rfl, fun _ h => nomatch h⟩⟩⟩⟩) ?_
  show xv_W mX10_printed 8 16 128 _ 16 128 (sx n c) I (rx c) J 0 [some (.ref 0), some (.int x), some (.int y), some (.int z)] []
  refine xv_al0 fX10_printed_0 ?_
  refine xv_il1 fX10_printed_1 ?_
  exact xv_callV1X (c_needEd_out n c I J hx) fX10_printed_2 YX10_needEdition VX10_needEdition lX10_294 rfl rfl (sx_0 _ _) (Nat.le_of_ble_eq_true rfl) (by decide) (by decide) (by decide) xv_eq_i

theorem p_printed_b (n : Nat) (c : Nat × Nat) (I : xv_I) (J : xv_J) {e w : Nat} (he : e < w) (hw : w ≤ 8) (hc : I 29 2 = nI w) {x : Int32} (hx : ¬ (¬ x < 0 ∧ ¬ nI 10 ≤ x)) {z : Int32} : xv_Met mX10_printed 8 16 128 (sx n c) I (rx c) J [.ref 0, .int (nI e), .int x, .int z] (xv_eq (.inr "java/lang/IndexOutOfBoundsException") (sx n c) (I) (rx c) J) := by
  refine xv_Met.of (by decide +kernel) (Nat.le_of_ble_eq_true rfl) (List.forall_mem_cons.mpr ⟨rfl, List.forall_mem_cons.mpr ⟨rfl, List.forall_mem_cons.mpr ⟨rfl, List.forall_mem_cons.mpr ⟨rfl, fun _ h => nomatch h⟩⟩⟩⟩) ?_
  show xv_W mX10_printed 8 16 128 _ 16 128 (sx n c) I (rx c) J 0 [some (.ref 0), some (.int (nI e)), some (.int x), some (.int z)] []
  refine xv_al0 fX10_printed_0 ?_
  refine xv_il1 fX10_printed_1 ?_
  refine xv_callV1V (c_needEd_in n c I J (nI_pos (by omega)) (by rw [hc]; exact nI_lt he (by omega))) fX10_printed_2 YX10_needEdition VX10_needEdition lX10_294 rfl rfl (sx_0 _ _) (Nat.le_of_ble_eq_true rfl) (by decide) (by decide) (by decide) ?_
  refine xv_il2 fX10_printed_5 ?_
  exact xv_callS1X (c_needPage_out n c I J hx) fX10_printed_6 YX10_needPage VX10_needPage lX10_79 rfl (Nat.le_of_ble_eq_true rfl) (by decide) (by decide) (by decide) xv_eq_i

theorem p_printed_c (n : Nat) (c : Nat × Nat) (I : xv_I) (J : xv_J) {e w : Nat} (he : e < w) (hw : w ≤ 8) (hc : I 29 2 = nI w) {p : Nat} (hp : p < 10) {y : Int32} (hy : ¬ (¬ y < 0 ∧ ¬ nI 12 ≤ y)) : xv_Met mX10_printed 8 16 128 (sx n c) I (rx c) J [.ref 0, .int (nI e), .int (nI p), .int y] (xv_eq (.inr "java/lang/IndexOutOfBoundsException") (sx n c) (I) (rx c) J) := by
  refine xv_Met.of (by decide +kernel) (Nat.le_of_ble_eq_true rfl) (List.forall_mem_cons.mpr ⟨rfl, List.forall_mem_cons.mpr ⟨rfl, List.forall_mem_cons.mpr ⟨rfl, List.forall_mem_cons.mpr ⟨rfl, fun _ h => nomatch h⟩⟩⟩⟩) ?_
  show xv_W mX10_printed 8 16 128 _ 16 128 (sx n c) I (rx c) J 0 [some (.ref 0), some (.int (nI e)), some (.int (nI p)), some (.int y)] []
  refine xv_al0 fX10_printed_0 ?_
  refine xv_il1 fX10_printed_1 ?_
  refine xv_callV1V (c_needEd_in n c I J (nI_pos (by omega)) (by rw [hc]; exact nI_lt he (by omega))) fX10_printed_2 YX10_needEdition VX10_needEdition lX10_294 rfl rfl (sx_0 _ _) (Nat.le_of_ble_eq_true rfl) (by decide) (by decide) (by decide) ?_
  refine xv_il2 fX10_printed_5 ?_
  refine xv_callS1V (c_needPage_in n c I J hp) fX10_printed_6 YX10_needPage VX10_needPage lX10_79 rfl (Nat.le_of_ble_eq_true rfl) (by decide) (by decide) (by decide) ?_
  refine xv_il3 fX10_printed_9 ?_
  exact xv_callS1X (c_needCell_out n c I J hy) fX10_printed_10 YX10_needCell VX10_needCell lX10_102 rfl (Nat.le_of_ble_eq_true rfl) (by decide) (by decide) (by decide) xv_eq_i

theorem p_printed_ok (n : Nat) (c : Nat × Nat) (I : xv_I) (J : xv_J) {e w : Nat} (he : e < w) (hw : w ≤ 8) (hc : I 29 2 = nI w) {p : Nat} (hp : p < 10) {k : Nat} (hk : k < 12) : xv_Met mX10_printed 8 16 128 (sx n c) I (rx c) J [.ref 0, .int (nI e), .int (nI p), .int (nI k)] (xv_eq (.inl (some (.int (I (31 + e) (12 * p + k))))) (sx n c) (I) (rx c) J) := by
  refine xv_Met.of (by decide +kernel) (Nat.le_of_ble_eq_true rfl) (List.forall_mem_cons.mpr ⟨rfl, List.forall_mem_cons.mpr ⟨rfl, List.forall_mem_cons.mpr ⟨rfl, List.forall_mem_cons.mpr ⟨rfl, fun _ h => nomatch h⟩⟩⟩⟩) ?_
  show xv_W mX10_printed 8 16 128 _ 16 128 (sx n c) I (rx c) J 0 [some (.ref 0), some (.int (nI e)), some (.int (nI p)), some (.int (nI k))] []
  refine xv_al0 fX10_printed_0 ?_
  refine xv_il1 fX10_printed_1 ?_
  refine xv_callV1V (c_needEd_in n c I J (nI_pos (by omega)) (by rw [hc]; exact nI_lt he (by omega))) fX10_printed_2 YX10_needEdition VX10_needEdition lX10_294 rfl rfl (sx_0 _ _) (Nat.le_of_ble_eq_true rfl) (by decide) (by decide) (by decide) ?_
  refine xv_il2 fX10_printed_5 ?_
  refine xv_callS1V (c_needPage_in n c I J hp) fX10_printed_6 YX10_needPage VX10_needPage lX10_79 rfl (Nat.le_of_ble_eq_true rfl) (by decide) (by decide) (by decide) ?_
  refine xv_il3 fX10_printed_9 ?_
  refine xv_callS1V (c_needCell_in n c I J hk) fX10_printed_10 YX10_needCell VX10_needCell lX10_102 rfl (Nat.le_of_ble_eq_true rfl) (by decide) (by decide) (by decide) ?_
  refine xv_al0 fX10_printed_13 ?_
  refine xv_getR fX10_printed_14 gX10_44 rfl (sx_0 _ _) (rx_0_7 _) ?_
  refine xv_il1 fX10_printed_17 ?_
  refine xv_il2 fX10_printed_18 ?_
  refine xv_il3 fX10_printed_19 ?_
  refine xv_callV3R (c_arAt n c I J he hw hc hp hk) fX10_printed_20 YX1_at VX1_at lX10_297 rfl rfl (sx_29 _ _) (Nat.le_of_ble_eq_true rfl) (by decide) (by decide) (by decide) ?_
  exact xv_iret fX10_printed_23 rfl rfl xv_eq_i

theorem p_correct_a (n : Nat) (c : Nat × Nat) (I : xv_I) (J : xv_J) {x : Int32} (hx : x < 0 ∨ ¬ x < I 29 2) {y : Int32} : xv_Met mX10_correct 8 16 128 (sx n c) I (rx c) J [.ref 0, .int x, .int y] (xv_eq (.inr "java/lang/IndexOutOfBoundsException") (sx n c) (I) (rx c) J) := by
  refine xv_Met.of (by decide +kernel) (Nat.le_of_ble_eq_true rfl) (List.forall_mem_cons.mpr ⟨rfl, List.forall_mem_cons.mpr ⟨rfl, List.forall_mem_cons.mpr ⟨rfl, fun _ h => nomatch h⟩⟩⟩) ?_
  show xv_W mX10_correct 8 16 128 _ 16 128 (sx n c) I (rx c) J 0 [some (.ref 0), some (.int x), some (.int y)] []
  refine xv_al0 fX10_correct_0 ?_
  refine xv_il1 fX10_correct_1 ?_
  exact xv_callV1X (c_needEd_out n c I J hx) fX10_correct_2 YX10_needEdition VX10_needEdition lX10_294 rfl rfl (sx_0 _ _) (Nat.le_of_ble_eq_true rfl) (by decide) (by decide) (by decide) xv_eq_i

theorem p_correct_b (n : Nat) (c : Nat × Nat) (I : xv_I) (J : xv_J) {e w : Nat} (he : e < w) (hw : w ≤ 8) (hc : I 29 2 = nI w) {x : Int32} (hx : ∀ k, x = nI k → k < 20 → c.2 ≤ k) : xv_Met mX10_correct 8 16 128 (sx n c) I (rx c) J [.ref 0, .int (nI e), .int x] (xv_eq (.inr "java/lang/IndexOutOfBoundsException") (sx n c) (I) (rx c) J) := by
  refine xv_Met.of (by decide +kernel) (Nat.le_of_ble_eq_true rfl) (List.forall_mem_cons.mpr ⟨rfl, List.forall_mem_cons.mpr ⟨rfl, List.forall_mem_cons.mpr ⟨rfl, fun _ h => nomatch h⟩⟩⟩) ?_
  show xv_W mX10_correct 8 16 128 _ 16 128 (sx n c) I (rx c) J 0 [some (.ref 0), some (.int (nI e)), some (.int x)] []
  refine xv_al0 fX10_correct_0 ?_
  refine xv_il1 fX10_correct_1 ?_
  refine xv_callV1V (c_needEd_in n c I J (nI_pos (by omega)) (by rw [hc]; exact nI_lt he (by omega))) fX10_correct_2 YX10_needEdition VX10_needEdition lX10_294 rfl rfl (sx_0 _ _) (Nat.le_of_ble_eq_true rfl) (by decide) (by decide) (by decide) ?_
  refine xv_al0 fX10_correct_5 ?_
  refine xv_il2 fX10_correct_6 ?_
  exact xv_callV1X (c_needSt_out n c I J hx) fX10_correct_7 YX10_needStory VX10_needStory lX10_195 rfl rfl (sx_0 _ _) (Nat.le_of_ble_eq_true rfl) (by decide) (by decide) (by decide) xv_eq_i

theorem p_correct_c (n : Nat) (c : Nat × Nat) (I : xv_I) (J : xv_J) {e w : Nat} (he : e < w) (hw : w ≤ 8) (hc : I 29 2 = nI w) {a : Nat} (hs : a < c.2) (hs2 : a < 20) {w4 : Nat} (hw4 : w4 ≤ 5) (hc4 : I 29 4 = nI w4) (hx : ¬ ((∃ j, j < 120 ∧ I (31 + e) j = nI (200 + a)) ∧ (¬ ∃ j, j < w4 ∧ I 40 j = nI a) ∧ w4 < 5)) : xv_Met mX10_correct 8 16 128 (sx n c) I (rx c) J [.ref 0, .int (nI e), .int (nI a)] (xv_eq (.inr "java/lang/IllegalStateException") (sx n c) (I) (rx c) J) := by
  refine xv_Met.of (by decide +kernel) (Nat.le_of_ble_eq_true rfl) (List.forall_mem_cons.mpr ⟨rfl, List.forall_mem_cons.mpr ⟨rfl, List.forall_mem_cons.mpr ⟨rfl, fun _ h => nomatch h⟩⟩⟩) ?_
  show xv_W mX10_correct 8 16 128 _ 16 128 (sx n c) I (rx c) J 0 [some (.ref 0), some (.int (nI e)), some (.int (nI a))] []
  refine xv_al0 fX10_correct_0 ?_
  refine xv_il1 fX10_correct_1 ?_
  refine xv_callV1V (c_needEd_in n c I J (nI_pos (by omega)) (by rw [hc]; exact nI_lt he (by omega))) fX10_correct_2 YX10_needEdition VX10_needEdition lX10_294 rfl rfl (sx_0 _ _) (Nat.le_of_ble_eq_true rfl) (by decide) (by decide) (by decide) ?_
  refine xv_al0 fX10_correct_5 ?_
  refine xv_il2 fX10_correct_6 ?_
  refine xv_callV1R (c_needSt_in n c I J hs hs2) fX10_correct_7 YX10_needStory VX10_needStory lX10_195 rfl rfl (sx_0 _ _) (Nat.le_of_ble_eq_true rfl) (by decide) (by decide) (by decide) ?_
  refine xv_pop_r fX10_correct_10 ?_
  refine xv_al0 fX10_correct_11 ?_
  refine xv_getR fX10_correct_12 gX10_44 rfl (sx_0 _ _) (rx_0_7 _) ?_
  refine xv_il1 fX10_correct_15 ?_
  refine xv_k fX10_correct_16 ?_
  refine xv_il2 fX10_correct_19 ?_
  refine xv_iadd fX10_correct_20 ?_
  rw [nI_add]
  refine xv_callV2R (c_has n c I J he hw hc) fX10_correct_21 YX1_has VX1_has lX10_299 rfl rfl (sx_29 _ _) (Nat.le_of_ble_eq_true rfl) (by decide) (by decide) (by decide) ?_
  refine xv_if_eq fX10_correct_24 (fun h_24 => ?_) (fun h_24 => ?_)
  · exact xv_throw fX10_correct_49 hX10_305 rfl (by decide) (by decide) (by decide) (by decide) xv_eq_i
  · refine xv_al0 fX10_correct_27 ?_
    refine xv_getR fX10_correct_28 gX10_44 rfl (sx_0 _ _) (rx_0_7 _) ?_
    refine xv_il2 fX10_correct_31 ?_
    refine xv_callV1R (c_owes n c I J hw4 hc4) fX10_correct_32 YX1_owes VX1_owes lX10_302 rfl rfl (sx_29 _ _) (Nat.le_of_ble_eq_true rfl) (by decide) (by decide) (by decide) ?_
    refine xv_if_ne fX10_correct_35 (fun h_35 => ?_) (fun h_35 => ?_)
    · exact xv_throw fX10_correct_49 hX10_305 rfl (by decide) (by decide) (by decide) (by decide) xv_eq_i
    · refine xv_al0 fX10_correct_38 ?_
      refine xv_getR fX10_correct_39 gX10_44 rfl (sx_0 _ _) (rx_0_7 _) ?_
      refine xv_getI fX10_correct_42 gX10_279 rfl (sx_29 _ _) ?_
      rw [hc4]
      refine xv_k fX10_correct_45 ?_
      refine xv_ic_lt fX10_correct_46 (fun h_46 => ?_) (fun h_46 => ?_)
      · exact absurd ⟨bi_1 h_24, bi_0 h_35, Nat.lt_of_not_le fun q => nI_nlt q (by omega) h_46⟩ hx
      · exact xv_throw fX10_correct_49 hX10_305 rfl (by decide) (by decide) (by decide) (by decide) xv_eq_i

theorem p_correct_ok (n : Nat) (c : Nat × Nat) (I : xv_I) (J : xv_J) {e w : Nat} (he : e < w) (hw : w ≤ 8) (hc : I 29 2 = nI w) {a : Nat} (hs : a < c.2) (hs2 : a < 20) {w4 : Nat} (hw4 : w4 ≤ 5) (hc4 : I 29 4 = nI w4) (hx : (∃ j, j < 120 ∧ I (31 + e) j = nI (200 + a)) ∧ (¬ ∃ j, j < w4 ∧ I 40 j = nI a) ∧ w4 < 5) : xv_Met mX10_correct 8 16 128 (sx n c) I (rx c) J [.ref 0, .int (nI e), .int (nI a)] (xv_eq (.inl (some (.int (nI (w4 + 1))))) (sx n c) (xv_u (xv_u I 40 w4 (nI a)) 29 4 (nI (w4 + 1))) (rx c) J) := by
  refine xv_Met.of (by decide +kernel) (Nat.le_of_ble_eq_true rfl) (List.forall_mem_cons.mpr ⟨rfl, List.forall_mem_cons.mpr ⟨rfl, List.forall_mem_cons.mpr ⟨rfl, fun _ h => nomatch h⟩⟩⟩) ?_
  show xv_W mX10_correct 8 16 128 _ 16 128 (sx n c) I (rx c) J 0 [some (.ref 0), some (.int (nI e)), some (.int (nI a))] []
  refine xv_al0 fX10_correct_0 ?_
  refine xv_il1 fX10_correct_1 ?_
  refine xv_callV1V (c_needEd_in n c I J (nI_pos (by omega)) (by rw [hc]; exact nI_lt he (by omega))) fX10_correct_2 YX10_needEdition VX10_needEdition lX10_294 rfl rfl (sx_0 _ _) (Nat.le_of_ble_eq_true rfl) (by decide) (by decide) (by decide) ?_
  refine xv_al0 fX10_correct_5 ?_
  refine xv_il2 fX10_correct_6 ?_
  refine xv_callV1R (c_needSt_in n c I J hs hs2) fX10_correct_7 YX10_needStory VX10_needStory lX10_195 rfl rfl (sx_0 _ _) (Nat.le_of_ble_eq_true rfl) (by decide) (by decide) (by decide) ?_
  refine xv_pop_r fX10_correct_10 ?_
  refine xv_al0 fX10_correct_11 ?_
  refine xv_getR fX10_correct_12 gX10_44 rfl (sx_0 _ _) (rx_0_7 _) ?_
  refine xv_il1 fX10_correct_15 ?_
  refine xv_k fX10_correct_16 ?_
  refine xv_il2 fX10_correct_19 ?_
  refine xv_iadd fX10_correct_20 ?_
  rw [nI_add]
  refine xv_callV2R (c_has n c I J he hw hc) fX10_correct_21 YX1_has VX1_has lX10_299 rfl rfl (sx_29 _ _) (Nat.le_of_ble_eq_true rfl) (by decide) (by decide) (by decide) ?_
  refine xv_if_eq fX10_correct_24 (fun h_24 => ?_) (fun h_24 => ?_)
  · exact absurd hx.1 (bi_0 h_24)
  · refine xv_al0 fX10_correct_27 ?_
    refine xv_getR fX10_correct_28 gX10_44 rfl (sx_0 _ _) (rx_0_7 _) ?_
    refine xv_il2 fX10_correct_31 ?_
    refine xv_callV1R (c_owes n c I J hw4 hc4) fX10_correct_32 YX1_owes VX1_owes lX10_302 rfl rfl (sx_29 _ _) (Nat.le_of_ble_eq_true rfl) (by decide) (by decide) (by decide) ?_
    refine xv_if_ne fX10_correct_35 (fun h_35 => ?_) (fun h_35 => ?_)
    · exact absurd (bi_1 h_35) hx.2.1
    · refine xv_al0 fX10_correct_38 ?_
      refine xv_getR fX10_correct_39 gX10_44 rfl (sx_0 _ _) (rx_0_7 _) ?_
      refine xv_getI fX10_correct_42 gX10_279 rfl (sx_29 _ _) ?_
      rw [hc4]
      refine xv_k fX10_correct_45 ?_
      refine xv_ic_lt fX10_correct_46 (fun h_46 => ?_) (fun h_46 => ?_)
      · refine xv_al0 fX10_correct_60 ?_
        refine xv_getR fX10_correct_61 gX10_44 rfl (sx_0 _ _) (rx_0_7 _) ?_
        refine xv_il2 fX10_correct_64 ?_
        refine xv_callV1V (c_addOwed n c I J hx.2.2 hc4) fX10_correct_65 YX1_addOwed VX1_addOwed lX10_307 rfl rfl (sx_29 _ _) (Nat.le_of_ble_eq_true rfl) (by decide) (by decide) (by decide) ?_
        refine xv_al0 fX10_correct_68 ?_
        refine xv_getR fX10_correct_69 gX10_44 rfl (sx_0 _ _) (rx_0_7 _) ?_
        refine xv_getI fX10_correct_72 gX10_279 rfl (sx_29 _ _) ?_
        rw [xv_u_eq]
        exact xv_iret fX10_correct_75 rfl rfl xv_eq_i
      · exact absurd (nI_lt hx.2.2 (by decide)) h_46
