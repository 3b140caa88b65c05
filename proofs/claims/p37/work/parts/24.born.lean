/-- how many digits, none of them 0; 0 if there is one or if they are more than 6 -/
def xParL : Nat → Nat → Int32 → Int32
  | 0, _, _ => nI 0
  | m + 1, k, y => if y = 0 then nI k else if y < 0 then nI 0 else if y - y / nI 10 * nI 10 = 0 then nI 0 else xParL m (k + 1) (y / nI 10)
def xPar (x : Int32) : Int32 := xParL 7 0 x
theorem l_par (n : Nat) (c : Nat × Nat) (I : xv_I) (J : xv_J) {x : Int32} : ∀ (m k : Nat) (y : Int32), k + m = 7 → xv_W mX10_paragraphsOf 0 0 0 (xv_eq (.inl (some (.int (xParL m k y)))) (sx n c) (I) (rx c) J) 0 0 (sx n c) I (rx c) J 4 [some (.int x), some (.int y), some (.int (nI k))] [] := by
  intro m
  induction m with
  | zero =>
    intro k y hm 
    obtain rfl : k = 7 := by omega
    refine xv_il2 fX10_paragraphsOf_4 ?_
    refine xv_k fX10_paragraphsOf_5 ?_
    refine xv_ic_gt fX10_paragraphsOf_7 (fun h_7 => ?_) (fun h_7 => ?_)
    · refine xv_k fX10_paragraphsOf_40 ?_
      exact xv_iret fX10_paragraphsOf_41 rfl rfl (xv_eq_I rfl rfl)
    · exact absurd (by decide) h_7
  | succ m ih =>
    intro k y hm 
    have hk : k < 7 := by omega
    show xv_W mX10_paragraphsOf 0 0 0 _ 0 0 (sx n c) I (rx c) J 4 [some (.int x), some (.int y), some (.int (nI k))] []
    refine xv_il2 fX10_paragraphsOf_4 ?_
    refine xv_k fX10_paragraphsOf_5 ?_
    refine xv_ic_gt fX10_paragraphsOf_7 (fun h_7 => ?_) (fun h_7 => ?_)
    · exact absurd h_7 (nI_nlt (by omega) (by decide))
    · refine xv_il1 fX10_paragraphsOf_10 ?_
      refine xv_if_ne fX10_paragraphsOf_11 (fun h_11 => ?_) (fun h_11 => ?_)
      · refine xv_il1 fX10_paragraphsOf_16 ?_
        refine xv_if_lt fX10_paragraphsOf_17 (fun h_17 => ?_) (fun h_17 => ?_)
        · refine xv_k fX10_paragraphsOf_27 ?_
          exact xv_iret fX10_paragraphsOf_28 rfl rfl (xv_eq_I (by rw [xParL, if_neg h_11, if_pos h_17]) rfl)
        · refine xv_il1 fX10_paragraphsOf_20 ?_
          refine xv_k fX10_paragraphsOf_21 ?_
          refine xv_irem fX10_paragraphsOf_23 (by decide) ?_
          refine xv_if_ne fX10_paragraphsOf_24 (fun h_24 => ?_) (fun h_24 => ?_)
          · refine xv_il1 fX10_paragraphsOf_29 ?_
            refine xv_k fX10_paragraphsOf_30 ?_
            refine xv_idiv fX10_paragraphsOf_32 (by decide) ?_
            refine xv_is1 fX10_paragraphsOf_33 ?_
            refine xv_iincN2 (a := 1) fX10_paragraphsOf_34 (by decide) ?_
            refine xv_goto fX10_paragraphsOf_37 ?_
            rw [xParL, if_neg h_11, if_neg h_17, if_neg h_24]
            exact ih (k + 1) (y / nI 10) (by omega)
          · refine xv_k fX10_paragraphsOf_27 ?_
            exact xv_iret fX10_paragraphsOf_28 rfl rfl (xv_eq_I (by rw [xParL, if_neg h_11, if_neg h_17, if_pos h_24]) rfl)
      · refine xv_il2 fX10_paragraphsOf_14 ?_
        exact xv_iret fX10_paragraphsOf_15 rfl rfl (xv_eq_I (by rw [xParL, if_pos h_11]) rfl)

theorem c_par (n : Nat) (c : Nat × Nat) (I : xv_I) (J : xv_J) (x : Int32) : xv_Met mX10_paragraphsOf 0 0 0 (sx n c) I (rx c) J [.int x] (xv_eq (.inl (some (.int (xPar x)))) (sx n c) (I) (rx c) J) := by
  refine xv_Met.of (by decide +kernel) (Nat.le_of_ble_eq_true rfl) (List.forall_mem_cons.mpr ⟨rfl, fun _ h => nomatch h⟩) ?_
  show xv_W mX10_paragraphsOf 0 0 0 _ 0 0 (sx n c) I (rx c) J 0 [some (.int x), none, none] []
  refine xv_il0 fX10_paragraphsOf_0 ?_
  refine xv_is1 fX10_paragraphsOf_1 ?_
  refine xv_k fX10_paragraphsOf_2 ?_
  refine xv_is2 fX10_paragraphsOf_3 ?_
  exact l_par n c I J 7 0 x rfl

def xAd (b : Nat) (x1 x2 x3 x4 x5 x6 : Int32) (I : xv_I) : xv_I := xv_u (xv_u (xv_u (xv_u (xv_u (xv_u (xv_u (xv_u I b 0 x1) b 1 x2) b 2 x3) b 3 x4) b 4 x5) b 5 x6) b 6 (-1)) b 7 (-1)
theorem c_adInit (sh : xv_Sh) (I : xv_I) (Rf : xv_Rf) (J : xv_J) {b : Nat} {x1 x2 x3 x4 x5 x6 : Int32} (hb : sh b = some (.inl 0)) (hz : narrow .boolean (.int x4) = .int x4 ∧ fits .boolean (.int x4) = true) : xv_Met mX0_init 1 0 0 sh I Rf J [.ref b, .int x1, .int x2, .int x3, .int x4, .int x5, .int x6] (xv_eq (.inl none) sh (xAd b x1 x2 x3 x4 x5 x6 I) Rf J) := by
  refine xv_Met.of (by decide +kernel) (Nat.le_of_ble_eq_true rfl) (List.forall_mem_cons.mpr ⟨rfl, List.forall_mem_cons.mpr ⟨rfl, List.forall_mem_cons.mpr ⟨rfl, List.forall_mem_cons.mpr ⟨rfl, List.forall_mem_cons.mpr ⟨rfl, List.forall_mem_cons.mpr ⟨rfl, List.forall_mem_cons.mpr ⟨rfl, fun _ h => nomatch h⟩⟩⟩⟩⟩⟩⟩) ?_
  show xv_W mX0_init 1 0 0 _ 0 0 sh I Rf J 0 [some (.ref b), some (.int x1), some (.int x2), some (.int x3), some (.int x4), some (.int x5), some (.int x6)] []
  refine xv_al0 fX0_init_0 ?_
  refine xv_obj fX0_init_1 lX0_3 xv_objw (by decide) (by decide) ?_
  refine xv_al0 fX0_init_4 ?_
  refine xv_il1 fX0_init_5 ?_
  refine xv_putI fX0_init_6 gX0_9 rfl tpF0_0 hb ⟨rfl, rfl⟩ ?_
  refine xv_al0 fX0_init_9 ?_
  refine xv_il2 fX0_init_10 ?_
  refine xv_putI fX0_init_11 gX0_15 rfl tpF0_1 hb ⟨rfl, rfl⟩ ?_
  refine xv_al0 fX0_init_14 ?_
  refine xv_il3 fX0_init_15 ?_
  refine xv_putI fX0_init_16 gX0_18 rfl tpF0_2 hb ⟨rfl, rfl⟩ ?_
  refine xv_al0 fX0_init_19 ?_
  refine xv_il4 fX0_init_20 ?_
  refine xv_putI fX0_init_22 gX0_21 rfl tpF0_3 hb hz ?_
  refine xv_al0 fX0_init_25 ?_
  refine xv_il5 fX0_init_26 ?_
  refine xv_putI fX0_init_28 gX0_25 rfl tpF0_4 hb ⟨rfl, rfl⟩ ?_
  refine xv_al0 fX0_init_31 ?_
  refine xv_il6 fX0_init_32 ?_
  refine xv_putI fX0_init_34 gX0_28 rfl tpF0_5 hb ⟨rfl, rfl⟩ ?_
  refine xv_al0 fX0_init_37 ?_
  refine xv_k fX0_init_38 ?_
  refine xv_putI fX0_init_39 gX0_31 rfl (tp0_6 _) hb ⟨rfl, rfl⟩ ?_
  refine xv_al0 fX0_init_42 ?_
  refine xv_k fX0_init_43 ?_
  refine xv_putI fX0_init_44 gX0_34 rfl (tp0_7 _) hb ⟨rfl, rfl⟩ ?_
  exact xv_vret fX0_init_47 rfl xv_eq_i

theorem us_ad (n : Nat) (c : Nat × Nat) (h : c.1 < 20) : xv_us (sx n c) (100 + c.1) (.inl 0) = sx n (c.1 + 1, c.2) := by
  funext v
  unfold xv_us
  by_cases h1 : v = 100 + c.1
  · rw [if_pos h1, h1]
    exact (sx_ad n (c.1 + 1, c.2) (Nat.lt_succ_self _) h).symm
  · rw [if_neg h1]
    unfold sx
    have e : (v < 100 + (c.1 + 1)) = (v < 100 + c.1) := propext ⟨fun q => by omega, fun q => by omega⟩
    simp only [e]
theorem z_ad (c : Nat × Nat) {k : Nat} (h : k < 20) : xv_z (rx c) (100 + k) none = rx c := by
  funext v j
  unfold xv_z
  by_cases h1 : v = 100 + k
  · rw [if_pos h1, h1]
    unfold rx
    rw [if_neg (by omega), if_neg (by omega), if_neg (by omega), if_neg (by omega)]
  · rw [if_neg h1]
theorem u_ad (c : Nat × Nat) (h : c.1 < 20) : xv_u (rx c) 18 c.1 (some (100 + c.1)) = rx (c.1 + 1, c.2) := by
  funext v j
  unfold xv_u
  by_cases h1 : v = 18 ∧ j = c.1
  · rw [if_pos h1, h1.1, h1.2]
    exact (rx_ad (c.1 + 1, c.2) (Nat.lt_succ_self _) h).symm
  · rw [if_neg h1]
    unfold rx
    by_cases h2 : v = 18
    · rw [if_pos h2, if_pos h2]
      have e : (j < c.1 ∧ j < 20) = (j < c.1 + 1 ∧ j < 20) := propext ⟨fun q => by omega, fun q => by omega⟩
      simp only [e]
    · rw [if_neg h2, if_neg h2]
theorem sx_adn (n : Nat) (c : Nat × Nat) {k : Nat} (h : c.1 ≤ k) (h2 : k < 20) : sx n c (100 + k) = none := by
  unfold sx
  rw [if_neg (by omega), if_neg (by omega), if_neg (by omega), if_pos (by omega), if_neg (by omega)]
theorem p_advert_a (n : Nat) (c : Nat × Nat) (I : xv_I) (J : xv_J) {x1 x2 x3 x4 x5 x6 : Int32} (hx : ¬ okR 0 3 x1) : xv_Met mX10_advert 8 16 128 (sx n c) I (rx c) J [.ref 0, .int x1, .int x2, .int x3, .int x4, .int x5, .int x6] (xv_eq (.inr "java/lang/IllegalArgumentException") (sx n c) (I) (rx c) J) := by
  refine xv_Met.of (by decide +kernel) (Nat.le_of_ble_eq_true rfl) (List.forall_mem_cons.mpr ⟨rfl, List.forall_mem_cons.mpr ⟨rfl, List.forall_mem_cons.mpr ⟨rfl, List.forall_mem_cons.mpr ⟨rfl, List.forall_mem_cons.mpr ⟨rfl, List.forall_mem_cons.mpr ⟨rfl, List.forall_mem_cons.mpr ⟨rfl, fun _ h => nomatch h⟩⟩⟩⟩⟩⟩⟩) ?_
  show xv_W mX10_advert 8 16 128 _ 16 128 (sx n c) I (rx c) J 0 [some (.ref 0), some (.int x1), some (.int x2), some (.int x3), some (.int x4), some (.int x5), some (.int x6)] []
  refine xv_il1 fX10_advert_0 ?_
  refine xv_k fX10_advert_1 ?_
  refine xv_k fX10_advert_2 ?_
  exact xv_callS3X (c_needRange_out n c I J (okR_x hx)) fX10_advert_3 YX10_needRange VX10_needRange lX10_83 rfl (Nat.le_of_ble_eq_true rfl) (by decide) (by decide) (by decide) xv_eq_i

theorem p_advert_b (n : Nat) (c : Nat × Nat) (I : xv_I) (J : xv_J) {x1 x2 x3 x4 x5 x6 : Int32} (h1 : okR 0 3 x1) (hx : ¬ okR 1 3 x2) : xv_Met mX10_advert 8 16 128 (sx n c) I (rx c) J [.ref 0, .int x1, .int x2, .int x3, .int x4, .int x5, .int x6] (xv_eq (.inr "java/lang/IllegalArgumentException") (sx n c) (I) (rx c) J) := by
  refine xv_Met.of (by decide +kernel) (Nat.le_of_ble_eq_true rfl) (List.forall_mem_cons.mpr ⟨rfl, List.forall_mem_cons.mpr ⟨rfl, List.forall_mem_cons.mpr ⟨rfl, List.forall_mem_cons.mpr ⟨rfl, List.forall_mem_cons.mpr ⟨rfl, List.forall_mem_cons.mpr ⟨rfl, List.forall_mem_cons.mpr ⟨rfl, fun _ h => nomatch h⟩⟩⟩⟩⟩⟩⟩) ?_
  show xv_W mX10_advert 8 16 128 _ 16 128 (sx n c) I (rx c) J 0 [some (.ref 0), some (.int x1), some (.int x2), some (.int x3), some (.int x4), some (.int x5), some (.int x6)] []
  refine xv_il1 fX10_advert_0 ?_
  refine xv_k fX10_advert_1 ?_
  refine xv_k fX10_advert_2 ?_
  refine xv_callS3V (c_needRange_in n c I J (h1).1 (h1).2) fX10_advert_3 YX10_needRange VX10_needRange lX10_83 rfl (Nat.le_of_ble_eq_true rfl) (by decide) (by decide) (by decide) ?_
  refine xv_il2 fX10_advert_6 ?_
  refine xv_k fX10_advert_7 ?_
  refine xv_k fX10_advert_8 ?_
  exact xv_callS3X (c_needRange_out n c I J (okR_x hx)) fX10_advert_9 YX10_needRange VX10_needRange lX10_83 rfl (Nat.le_of_ble_eq_true rfl) (by decide) (by decide) (by decide) xv_eq_i

theorem p_advert_c (n : Nat) (c : Nat × Nat) (I : xv_I) (J : xv_J) {x1 x2 x3 x4 x5 x6 : Int32} (h1 : okR 0 3 x1) (h2 : okR 1 3 x2) (hx : ¬ okR 1 4 x3) : xv_Met mX10_advert 8 16 128 (sx n c) I (rx c) J [.ref 0, .int x1, .int x2, .int x3, .int x4, .int x5, .int x6] (xv_eq (.inr "java/lang/IllegalArgumentException") (sx n c) (I) (rx c) J) := by
  refine xv_Met.of (by decide +kernel) (Nat.le_of_ble_eq_true rfl) (List.forall_mem_cons.mpr ⟨rfl, List.forall_mem_cons.mpr ⟨rfl, List.forall_mem_cons.mpr ⟨rfl, List.forall_mem_cons.mpr ⟨rfl, List.forall_mem_cons.mpr ⟨rfl, List.forall_mem_cons.mpr ⟨rfl, List.forall_mem_cons.mpr ⟨rfl, fun _ h => nomatch h⟩⟩⟩⟩⟩⟩⟩) ?_
  show xv_W mX10_advert 8 16 128 _ 16 128 (sx n c) I (rx c) J 0 [some (.ref 0), some (.int x1), some (.int x2), some (.int x3), some (.int x4), some (.int x5), some (.int x6)] []
  refine xv_il1 fX10_advert_0 ?_
  refine xv_k fX10_advert_1 ?_
  refine xv_k fX10_advert_2 ?_
  refine xv_callS3V (c_needRange_in n c I J (h1).1 (h1).2) fX10_advert_3 YX10_needRange VX10_needRange lX10_83 rfl (Nat.le_of_ble_eq_true rfl) (by decide) (by decide) (by decide) ?_
  refine xv_il2 fX10_advert_6 ?_
  refine xv_k fX10_advert_7 ?_
  refine xv_k fX10_advert_8 ?_
  refine xv_callS3V (c_needRange_in n c I J (h2).1 (h2).2) fX10_advert_9 YX10_needRange VX10_needRange lX10_83 rfl (Nat.le_of_ble_eq_true rfl) (by decide) (by decide) (by decide) ?_
  refine xv_il3 fX10_advert_12 ?_
  refine xv_k fX10_advert_13 ?_
  refine xv_k fX10_advert_14 ?_
  exact xv_callS3X (c_needRange_out n c I J (okR_x hx)) fX10_advert_15 YX10_needRange VX10_needRange lX10_83 rfl (Nat.le_of_ble_eq_true rfl) (by decide) (by decide) (by decide) xv_eq_i

theorem p_advert_d (n : Nat) (c : Nat × Nat) (I : xv_I) (J : xv_J) {x1 x2 x3 x4 x5 x6 : Int32} (h1 : okR 0 3 x1) (h2 : okR 1 3 x2) (h3 : okR 1 4 x3) (hx : x5 < -1 ∨ ¬ x5 ≤ nI 3) : xv_Met mX10_advert 8 16 128 (sx n c) I (rx c) J [.ref 0, .int x1, .int x2, .int x3, .int x4, .int x5, .int x6] (xv_eq (.inr "java/lang/IllegalArgumentException") (sx n c) (I) (rx c) J) := by
  refine xv_Met.of (by decide +kernel) (Nat.le_of_ble_eq_true rfl) (List.forall_mem_cons.mpr ⟨rfl, List.forall_mem_cons.mpr ⟨rfl, List.forall_mem_cons.mpr ⟨rfl, List.forall_mem_cons.mpr ⟨rfl, List.forall_mem_cons.mpr ⟨rfl, List.forall_mem_cons.mpr ⟨rfl, List.forall_mem_cons.mpr ⟨rfl, fun _ h => nomatch h⟩⟩⟩⟩⟩⟩⟩) ?_
  show xv_W mX10_advert 8 16 128 _ 16 128 (sx n c) I (rx c) J 0 [some (.ref 0), some (.int x1), some (.int x2), some (.int x3), some (.int x4), some (.int x5), some (.int x6)] []
  refine xv_il1 fX10_advert_0 ?_
  refine xv_k fX10_advert_1 ?_
  refine xv_k fX10_advert_2 ?_
  refine xv_callS3V (c_needRange_in n c I J (h1).1 (h1).2) fX10_advert_3 YX10_needRange VX10_needRange lX10_83 rfl (Nat.le_of_ble_eq_true rfl) (by decide) (by decide) (by decide) ?_
  refine xv_il2 fX10_advert_6 ?_
  refine xv_k fX10_advert_7 ?_
  refine xv_k fX10_advert_8 ?_
  refine xv_callS3V (c_needRange_in n c I J (h2).1 (h2).2) fX10_advert_9 YX10_needRange VX10_needRange lX10_83 rfl (Nat.le_of_ble_eq_true rfl) (by decide) (by decide) (by decide) ?_
  refine xv_il3 fX10_advert_12 ?_
  refine xv_k fX10_advert_13 ?_
  refine xv_k fX10_advert_14 ?_
  refine xv_callS3V (c_needRange_in n c I J (h3).1 (h3).2) fX10_advert_15 YX10_needRange VX10_needRange lX10_83 rfl (Nat.le_of_ble_eq_true rfl) (by decide) (by decide) (by decide) ?_
  refine xv_il5 fX10_advert_18 ?_
  refine xv_k fX10_advert_20 ?_
  refine xv_k fX10_advert_21 ?_
  exact xv_callS3X (c_needRange_out n c I J hx) fX10_advert_22 YX10_needRange VX10_needRange lX10_83 rfl (Nat.le_of_ble_eq_true rfl) (by decide) (by decide) (by decide) xv_eq_i

theorem p_advert_e (n : Nat) (c : Nat × Nat) (I : xv_I) (J : xv_J) {x1 x2 x3 x4 x5 x6 : Int32} (h1 : okR 0 3 x1) (h2 : okR 1 3 x2) (h3 : okR 1 4 x3) (h4 : ¬ x5 < -1 ∧ x5 ≤ nI 3) (hx : x6 < -1 ∨ ¬ x6 ≤ nI 2) : xv_Met mX10_advert 8 16 128 (sx n c) I (rx c) J [.ref 0, .int x1, .int x2, .int x3, .int x4, .int x5, .int x6] (xv_eq (.inr "java/lang/IllegalArgumentException") (sx n c) (I) (rx c) J) := by
  refine xv_Met.of (by decide +kernel) (Nat.le_of_ble_eq_true rfl) (List.forall_mem_cons.mpr ⟨rfl, List.forall_mem_cons.mpr ⟨rfl, List.forall_mem_cons.mpr ⟨rfl, List.forall_mem_cons.mpr ⟨rfl, List.forall_mem_cons.mpr ⟨rfl, List.forall_mem_cons.mpr ⟨rfl, List.forall_mem_cons.mpr ⟨rfl, fun _ h => nomatch h⟩⟩⟩⟩⟩⟩⟩) ?_
  show xv_W mX10_advert 8 16 128 _ 16 128 (sx n c) I (rx c) J 0 [some (.ref 0), some (.int x1), some (.int x2), some (.int x3), some (.int x4), some (.int x5), some (.int x6)] []
  refine xv_il1 fX10_advert_0 ?_
  refine xv_k fX10_advert_1 ?_
  refine xv_k fX10_advert_2 ?_
  refine xv_callS3V (c_needRange_in n c I J (h1).1 (h1).2) fX10_advert_3 YX10_needRange VX10_needRange lX10_83 rfl (Nat.le_of_ble_eq_true rfl) (by decide) (by decide) (by decide) ?_
  refine xv_il2 fX10_advert_6 ?_
  refine xv_k fX10_advert_7 ?_
  refine xv_k fX10_advert_8 ?_
  refine xv_callS3V (c_needRange_in n c I J (h2).1 (h2).2) fX10_advert_9 YX10_needRange VX10_needRange lX10_83 rfl (Nat.le_of_ble_eq_true rfl) (by decide) (by decide) (by decide) ?_
  refine xv_il3 fX10_advert_12 ?_
  refine xv_k fX10_advert_13 ?_
  refine xv_k fX10_advert_14 ?_
  refine xv_callS3V (c_needRange_in n c I J (h3).1 (h3).2) fX10_advert_15 YX10_needRange VX10_needRange lX10_83 rfl (Nat.le_of_ble_eq_true rfl) (by decide) (by decide) (by decide) ?_
  refine xv_il5 fX10_advert_18 ?_
  refine xv_k fX10_advert_20 ?_
  refine xv_k fX10_advert_21 ?_
  refine xv_callS3V (c_needRange_in n c I J (h4).1 (h4).2) fX10_advert_22 YX10_needRange VX10_needRange lX10_83 rfl (Nat.le_of_ble_eq_true rfl) (by decide) (by decide) (by decide) ?_
  refine xv_il6 fX10_advert_25 ?_
  refine xv_k fX10_advert_27 ?_
  refine xv_k fX10_advert_28 ?_
  exact xv_callS3X (c_needRange_out n c I J hx) fX10_advert_29 YX10_needRange VX10_needRange lX10_83 rfl (Nat.le_of_ble_eq_true rfl) (by decide) (by decide) (by decide) xv_eq_i

theorem p_advert_f (n : Nat) (c : Nat × Nat) (I : xv_I) (J : xv_J) {x1 x2 x3 x4 x5 x6 : Int32} (h1 : okR 0 3 x1) (h2 : okR 1 3 x2) (h3 : okR 1 4 x3) (h4 : ¬ x5 < -1 ∧ x5 ≤ nI 3) (h5 : ¬ x6 < -1 ∧ x6 ≤ nI 2) (hn : I 0 3 = nI 20) : xv_Met mX10_advert 8 16 128 (sx n c) I (rx c) J [.ref 0, .int x1, .int x2, .int x3, .int x4, .int x5, .int x6] (xv_eq (.inr "java/lang/IllegalStateException") (sx n c) (I) (rx c) J) := by
  refine xv_Met.of (by decide +kernel) (Nat.le_of_ble_eq_true rfl) (List.forall_mem_cons.mpr ⟨rfl, List.forall_mem_cons.mpr ⟨rfl, List.forall_mem_cons.mpr ⟨rfl, List.forall_mem_cons.mpr ⟨rfl, List.forall_mem_cons.mpr ⟨rfl, List.forall_mem_cons.mpr ⟨rfl, List.forall_mem_cons.mpr ⟨rfl, fun _ h => nomatch h⟩⟩⟩⟩⟩⟩⟩) ?_
  show xv_W mX10_advert 8 16 128 _ 16 128 (sx n c) I (rx c) J 0 [some (.ref 0), some (.int x1), some (.int x2), some (.int x3), some (.int x4), some (.int x5), some (.int x6)] []
  refine xv_il1 fX10_advert_0 ?_
  refine xv_k fX10_advert_1 ?_
  refine xv_k fX10_advert_2 ?_
  refine xv_callS3V (c_needRange_in n c I J (h1).1 (h1).2) fX10_advert_3 YX10_needRange VX10_needRange lX10_83 rfl (Nat.le_of_ble_eq_true rfl) (by decide) (by decide) (by decide) ?_
  refine xv_il2 fX10_advert_6 ?_
  refine xv_k fX10_advert_7 ?_
  refine xv_k fX10_advert_8 ?_
  refine xv_callS3V (c_needRange_in n c I J (h2).1 (h2).2) fX10_advert_9 YX10_needRange VX10_needRange lX10_83 rfl (Nat.le_of_ble_eq_true rfl) (by decide) (by decide) (by decide) ?_
  refine xv_il3 fX10_advert_12 ?_
  refine xv_k fX10_advert_13 ?_
  refine xv_k fX10_advert_14 ?_
  refine xv_callS3V (c_needRange_in n c I J (h3).1 (h3).2) fX10_advert_15 YX10_needRange VX10_needRange lX10_83 rfl (Nat.le_of_ble_eq_true rfl) (by decide) (by decide) (by decide) ?_
  refine xv_il5 fX10_advert_18 ?_
  refine xv_k fX10_advert_20 ?_
  refine xv_k fX10_advert_21 ?_
  refine xv_callS3V (c_needRange_in n c I J (h4).1 (h4).2) fX10_advert_22 YX10_needRange VX10_needRange lX10_83 rfl (Nat.le_of_ble_eq_true rfl) (by decide) (by decide) (by decide) ?_
  refine xv_il6 fX10_advert_25 ?_
  refine xv_k fX10_advert_27 ?_
  refine xv_k fX10_advert_28 ?_
  refine xv_callS3V (c_needRange_in n c I J (h5).1 (h5).2) fX10_advert_29 YX10_needRange VX10_needRange lX10_83 rfl (Nat.le_of_ble_eq_true rfl) (by decide) (by decide) (by decide) ?_
  refine xv_al0 fX10_advert_32 ?_
  refine xv_getI fX10_advert_33 gX10_117 rfl (sx_0 _ _) ?_
  rw [hn]
  refine xv_k fX10_advert_36 ?_
  refine xv_ic_lt fX10_advert_38 (fun h_38 => ?_) (fun h_38 => ?_)
  · exact absurd h_38 (by decide)
  · exact xv_throw fX10_advert_41 hX10_120 rfl (by decide) (by decide) (by decide) (by decide) xv_eq_i

theorem xAd_o {b : Nat} {x1 x2 x3 x4 x5 x6 : Int32} {I : xv_I} {v j : Nat} (h : v ≠ b) : xAd b x1 x2 x3 x4 x5 x6 (xv_z I b 0) v j = I v j := by
  unfold xAd
  rw [xv_u_ne _ _ _ h, xv_u_ne _ _ _ h, xv_u_ne _ _ _ h, xv_u_ne _ _ _ h, xv_u_ne _ _ _ h, xv_u_ne _ _ _ h, xv_u_ne _ _ _ h, xv_u_ne _ _ _ h, xv_z_ne _ _ _ h]
theorem p_advert_ok (n : Nat) (c : Nat × Nat) (I : xv_I) (J : xv_J) {x1 x2 x3 x4 x5 x6 : Int32} (h1 : okR 0 3 x1) (h2 : okR 1 3 x2) (h3 : okR 1 4 x3) (h4 : ¬ x5 < -1 ∧ x5 ≤ nI 3) (h5 : ¬ x6 < -1 ∧ x6 ≤ nI 2) (hz : narrow .boolean (.int x4) = .int x4 ∧ fits .boolean (.int x4) = true) (hn : I 0 3 = nI c.1) (hc : c.1 < 20) : xv_Met mX10_advert 8 16 128 (sx n c) I (rx c) J [.ref 0, .int x1, .int x2, .int x3, .int x4, .int x5, .int x6] (xv_eq (.inl (some (.int (nI c.1)))) (sx n (c.1 + 1, c.2)) (xv_u (xAd (100 + c.1) x1 x2 x3 x4 x5 x6 (xv_z I (100 + c.1) 0)) 0 3 (nI (c.1 + 1))) (rx (c.1 + 1, c.2)) J) := by
  refine xv_Met.of (by decide +kernel) (Nat.le_of_ble_eq_true rfl) (List.forall_mem_cons.mpr ⟨rfl, List.forall_mem_cons.mpr ⟨rfl, List.forall_mem_cons.mpr ⟨rfl, List.forall_mem_cons.mpr ⟨rfl, List.forall_mem_cons.mpr ⟨rfl, List.forall_mem_cons.mpr ⟨rfl, List.forall_mem_cons.mpr ⟨rfl, fun _ h => nomatch h⟩⟩⟩⟩⟩⟩⟩) ?_
  show xv_W mX10_advert 8 16 128 _ 16 128 (sx n c) I (rx c) J 0 [some (.ref 0), some (.int x1), some (.int x2), some (.int x3), some (.int x4), some (.int x5), some (.int x6)] []
  refine xv_il1 fX10_advert_0 ?_
  refine xv_k fX10_advert_1 ?_
  refine xv_k fX10_advert_2 ?_
  refine xv_callS3V (c_needRange_in n c I J (h1).1 (h1).2) fX10_advert_3 YX10_needRange VX10_needRange lX10_83 rfl (Nat.le_of_ble_eq_true rfl) (by decide) (by decide) (by decide) ?_
  refine xv_il2 fX10_advert_6 ?_
  refine xv_k fX10_advert_7 ?_
  refine xv_k fX10_advert_8 ?_
  refine xv_callS3V (c_needRange_in n c I J (h2).1 (h2).2) fX10_advert_9 YX10_needRange VX10_needRange lX10_83 rfl (Nat.le_of_ble_eq_true rfl) (by decide) (by decide) (by decide) ?_
  refine xv_il3 fX10_advert_12 ?_
  refine xv_k fX10_advert_13 ?_
  refine xv_k fX10_advert_14 ?_
  refine xv_callS3V (c_needRange_in n c I J (h3).1 (h3).2) fX10_advert_15 YX10_needRange VX10_needRange lX10_83 rfl (Nat.le_of_ble_eq_true rfl) (by decide) (by decide) (by decide) ?_
  refine xv_il5 fX10_advert_18 ?_
  refine xv_k fX10_advert_20 ?_
  refine xv_k fX10_advert_21 ?_
  refine xv_callS3V (c_needRange_in n c I J (h4).1 (h4).2) fX10_advert_22 YX10_needRange VX10_needRange lX10_83 rfl (Nat.le_of_ble_eq_true rfl) (by decide) (by decide) (by decide) ?_
  refine xv_il6 fX10_advert_25 ?_
  refine xv_k fX10_advert_27 ?_
  refine xv_k fX10_advert_28 ?_
  refine xv_callS3V (c_needRange_in n c I J (h5).1 (h5).2) fX10_advert_29 YX10_needRange VX10_needRange lX10_83 rfl (Nat.le_of_ble_eq_true rfl) (by decide) (by decide) (by decide) ?_
  refine xv_al0 fX10_advert_32 ?_
  refine xv_getI fX10_advert_33 gX10_117 rfl (sx_0 _ _) ?_
  rw [hn]
  refine xv_k fX10_advert_36 ?_
  refine xv_ic_lt fX10_advert_38 (fun h_38 => ?_) (fun h_38 => ?_)
  · refine xv_al0 fX10_advert_51 ?_
    refine xv_getR fX10_advert_52 gX10_22 rfl (sx_0 _ _) (rx_0_2 _) ?_
    refine xv_al0 fX10_advert_55 ?_
    refine xv_getI fX10_advert_56 gX10_117 rfl (sx_0 _ _) ?_
    rw [hn]
    refine xv_new (n := (100 + c.1)) (kc' := 10) (ks' := 90) fX10_advert_59 nX10_20 (sx_adn n c (Nat.le_refl _) hc) (by omega) (by omega) ?_
    rw [us_ad n c hc, z_ad c hc]
    refine xv_dup_r fX10_advert_62 ?_
    refine xv_il1 fX10_advert_63 ?_
    refine xv_il2 fX10_advert_64 ?_
    refine xv_il3 fX10_advert_65 ?_
    refine xv_il4 fX10_advert_66 ?_
    refine xv_il5 fX10_advert_68 ?_
    refine xv_il6 fX10_advert_70 ?_
    refine xv_callI6V (c_adInit _ _ _ J (sx_ad n (c.1 + 1, c.2) (Nat.lt_succ_self _) hc) hz) fX10_advert_72 YX0_init VX0_init lX10_122 rfl rfl (Nat.le_of_ble_eq_true rfl) (by decide) (by decide) (by decide) ?_
    refine xv_aastK fX10_advert_75 (sx_18 _ _) (sx_ad n (c.1 + 1, c.2) (Nat.lt_succ_self _) hc) rfl (⟨hc, by decide⟩) ?_
    rw [u_ad c hc]
    refine xv_al0 fX10_advert_76 ?_
    refine xv_dup_r fX10_advert_77 ?_
    refine xv_getI fX10_advert_78 gX10_117 rfl (sx_0 _ _) ?_
    rw [show xAd (100 + c.1) x1 x2 x3 x4 x5 x6 (xv_z I (100 + c.1) 0) 0 3 = nI c.1 from (xAd_o (by omega)).trans hn]
    refine xv_k fX10_advert_81 ?_
    refine xv_iadd fX10_advert_82 ?_
    rw [nI_add]
    refine xv_putI fX10_advert_83 gX10_117 rfl (tp10_3 _) (sx_0 _ _) ⟨rfl, rfl⟩ ?_
    refine xv_al0 fX10_advert_86 ?_
    refine xv_getI fX10_advert_87 gX10_117 rfl (sx_0 _ _) ?_
    rw [xv_u_eq]
    refine xv_k fX10_advert_90 ?_
    refine xv_isub fX10_advert_91 ?_
    rw [show nI (c.1 + 1) - nI 1 = nI c.1 from nI_sub (Nat.succ_le_succ (Nat.zero_le _))]
    exact xv_iret fX10_advert_92 rfl rfl xv_eq_i
  · exact absurd (nI_lt hc (by decide)) h_38
