def xLo (G : Nat → Nat) (k : Nat) : Nat := if G k = 0 then 1 else G k
def xHi (G : Nat → Nat) (k : Nat) : Nat := if G k = 0 then 4 else G k
/-- how many ways the places from k on are filled, m of them -/
noncomputable def xCF (G : Nat → Nat) : Nat → Nat → xv_I → Nat
  | 0, _, _ => 1
  | m + 1, k, I => it (fun g s => s + iteP (xOp I k g) (xCF G m (k + 1) (xTurn k g I)) 0) (xHi G k + 1 - xLo G k) (xLo G k) 0
abbrev xGiv (G : Nat → Nat) (I : xv_I) : Prop := ∀ j, j < 16 → I 52 j = nI (G j) ∧ G j ≤ 4
theorem xor2 (a b : Int32) : a ^^^ b ^^^ b = a := by rw [Int32.xor_assoc, Int32.xor_self, Int32.xor_zero]
theorem xTurn2 (I : xv_I) (k g : Nat) : xTurn k g (xTurn k g I) = I := by
  funext v j
  unfold xTurn
  simp only [xv_u]
  by_cases h1 : v = 55 ∧ j = xQ k
  · obtain ⟨rfl, rfl⟩ := h1
    simp [xor2]
  · by_cases h2 : v = 54 ∧ j = k % 4
    · obtain ⟨rfl, rfl⟩ := h2
      simp [xor2]
    · by_cases h3 : v = 53 ∧ j = k / 4
      · obtain ⟨rfl, rfl⟩ := h3
        simp [xor2]
      · rw [if_neg h1, if_neg h2, if_neg h3, if_neg h1, if_neg h2, if_neg h3]
theorem xTurn_o (I : xv_I) (k g : Nat) {v : Nat} (j : Nat) (h : v < 53) : xTurn k g I v j = I v j := by
  unfold xTurn
  rw [xv_u_ne _ _ _ (by omega), xv_u_ne _ _ _ (by omega), xv_u_ne _ _ _ (by omega)]
theorem xHiLo {G : Nat → Nat} {k : Nat} (h : G k ≤ 4) : 1 ≤ xLo G k ∧ xLo G k ≤ xHi G k ∧ xHi G k ≤ 4 := by
  unfold xHi xLo
  split <;> omega
def wSh (sh : xv_Sh) (b : Nat) : xv_Sh := xv_us (xv_us (xv_us sh (b + 1) (.inr (.inl (.int, 2)))) (b + 2) (.inr (.inl (.int, 2)))) (b + 3) (.inr (.inl (.int, 2)))
def wI (I : xv_I) (b : Nat) : xv_I := xv_z (xv_z (xv_z I (b + 1) 0) (b + 2) 0) (b + 3) 0
def wRf (Rf : xv_Rf) (b : Nat) : xv_Rf := xv_u (xv_z (xv_u (xv_z (xv_u (xv_z Rf (b + 1) none) b 1 (some (b + 1))) (b + 2) none) b 2 (some (b + 2))) (b + 3) none) b 3 (some (b + 3))
theorem wSh_o {sh : xv_Sh} {b v : Nat} (h : v ≤ b ∨ b + 3 < v) : wSh sh b v = sh v := by
  unfold wSh
  rw [xv_us_ne _ _ (by omega), xv_us_ne _ _ (by omega), xv_us_ne _ _ (by omega)]
theorem c_wayInit (sh : xv_Sh) (I : xv_I) (Rf : xv_Rf) (J : xv_J) {b : Nat} (hb : sh b = some (.inl 8)) (h1 : sh (b + 1) = none) (h2 : sh (b + 2) = none) (h3 : sh (b + 3) = none) : xv_Met mX8_init 1 3 6 sh I Rf J [.ref b] (xv_eq (.inl none) (wSh sh b) (wI I b) (wRf Rf b) J) := by
  refine xv_Met.of (by decide +kernel) (Nat.le_of_ble_eq_true rfl) (List.forall_mem_cons.mpr ⟨rfl, fun _ h => nomatch h⟩) ?_
  show xv_W mX8_init 1 3 6 _ 3 6 sh I Rf J 0 [some (.ref b)] []
  refine xv_al0 fX8_init_0 ?_
  refine xv_obj fX8_init_1 lX8_3 xv_objw (by decide) (by decide) ?_
  refine xv_al0 fX8_init_4 ?_
  refine xv_k fX8_init_5 ?_
  refine xv_newI (n := (b + 1)) (k9 := 2) (kc' := 2) (ks' := 4) fX8_init_6 xv_ac_int (by first | exact h1 | exact (xv_us_ne _ _ (by omega)).trans h1 | exact (xv_us_ne _ _ (by omega)).trans ((xv_us_ne _ _ (by omega)).trans h1) | exact (xv_us_ne _ _ (by omega)).trans ((xv_us_ne _ _ (by omega)).trans ((xv_us_ne _ _ (by omega)).trans h1))) (by decide) (by decide) (by decide) (by omega) (by omega) ?_
  refine xv_putR fX8_init_8 gX8_9 rfl tpF8_1 (by first | exact hb | exact (xv_us_ne _ _ (by omega)).trans hb | exact (xv_us_ne _ _ (by omega)).trans ((xv_us_ne _ _ (by omega)).trans hb) | exact (xv_us_ne _ _ (by omega)).trans ((xv_us_ne _ _ (by omega)).trans ((xv_us_ne _ _ (by omega)).trans hb))) (fun _ => ⟨rfl, rfl⟩) ?_
  refine xv_al0 fX8_init_11 ?_
  refine xv_k fX8_init_12 ?_
  refine xv_newI (n := (b + 2)) (k9 := 2) (kc' := 1) (ks' := 2) fX8_init_13 xv_ac_int (by first | exact h2 | exact (xv_us_ne _ _ (by omega)).trans h2 | exact (xv_us_ne _ _ (by omega)).trans ((xv_us_ne _ _ (by omega)).trans h2) | exact (xv_us_ne _ _ (by omega)).trans ((xv_us_ne _ _ (by omega)).trans ((xv_us_ne _ _ (by omega)).trans h2))) (by decide) (by decide) (by decide) (by omega) (by omega) ?_
  refine xv_putR fX8_init_15 gX8_15 rfl tpF8_2 (by first | exact hb | exact (xv_us_ne _ _ (by omega)).trans hb | exact (xv_us_ne _ _ (by omega)).trans ((xv_us_ne _ _ (by omega)).trans hb) | exact (xv_us_ne _ _ (by omega)).trans ((xv_us_ne _ _ (by omega)).trans ((xv_us_ne _ _ (by omega)).trans hb))) (fun _ => ⟨rfl, rfl⟩) ?_
  refine xv_al0 fX8_init_18 ?_
  refine xv_k fX8_init_19 ?_
  refine xv_newI (n := (b + 3)) (k9 := 2) (kc' := 0) (ks' := 0) fX8_init_20 xv_ac_int (by first | exact h3 | exact (xv_us_ne _ _ (by omega)).trans h3 | exact (xv_us_ne _ _ (by omega)).trans ((xv_us_ne _ _ (by omega)).trans h3) | exact (xv_us_ne _ _ (by omega)).trans ((xv_us_ne _ _ (by omega)).trans ((xv_us_ne _ _ (by omega)).trans h3))) (by decide) (by decide) (by decide) (by omega) (by omega) ?_
  refine xv_putR fX8_init_22 gX8_18 rfl tpF8_3 (by first | exact hb | exact (xv_us_ne _ _ (by omega)).trans hb | exact (xv_us_ne _ _ (by omega)).trans ((xv_us_ne _ _ (by omega)).trans hb) | exact (xv_us_ne _ _ (by omega)).trans ((xv_us_ne _ _ (by omega)).trans ((xv_us_ne _ _ (by omega)).trans hb))) (fun _ => ⟨rfl, rfl⟩) ?_
  exact xv_vret fX8_init_25 rfl xv_eq_i

def sSh (sh : xv_Sh) (b : Nat) : xv_Sh := wSh (xv_us sh (b + 1) (.inl 8)) (b + 1)
def sI (I : xv_I) (b : Nat) (x1 x2 x3 x4 : Int32) : xv_I := wI (xv_z (xv_u (xv_u (xv_u (xv_u I b 0 x1) b 1 x2) b 2 x3) b 3 x4) (b + 1) 0) (b + 1)
def sRf (Rf : xv_Rf) (b : Nat) : xv_Rf := xv_u (wRf (xv_z Rf (b + 1) none) (b + 1)) b 4 (some (b + 1))
theorem c_stInit (sh : xv_Sh) (I : xv_I) (Rf : xv_Rf) (J : xv_J) {b : Nat} {x1 x2 x3 x4 : Int32} (hb : sh b = some (.inl 6)) (h1 : sh (b + 1) = none) (h2 : sh (b + 1 + 1) = none) (h3 : sh (b + 1 + 2) = none) (h4 : sh (b + 1 + 3) = none) : xv_Met mX6_init 2 4 10 sh I Rf J [.ref b, .int x1, .int x2, .int x3, .int x4] (xv_eq (.inl none) (sSh sh b) (sI I b x1 x2 x3 x4) (sRf Rf b) J) := by
  refine xv_Met.of (by decide +kernel) (Nat.le_of_ble_eq_true rfl) (List.forall_mem_cons.mpr ⟨rfl, List.forall_mem_cons.mpr ⟨rfl, List.forall_mem_cons.mpr ⟨rfl, List.forall_mem_cons.mpr ⟨rfl, List.forall_mem_cons.mpr ⟨rfl, fun _ h => nomatch h⟩⟩⟩⟩⟩) ?_
  show xv_W mX6_init 2 4 10 _ 4 10 sh I Rf J 0 [some (.ref b), some (.int x1), some (.int x2), some (.int x3), some (.int x4)] []
  refine xv_al0 fX6_init_0 ?_
  refine xv_obj fX6_init_1 lX6_3 xv_objw (by decide) (by decide) ?_
  refine xv_al0 fX6_init_4 ?_
  refine xv_il1 fX6_init_5 ?_
  refine xv_putI fX6_init_6 gX6_9 rfl tpF6_0 (by first | exact hb | exact (wSh_o (by omega)).trans ((xv_us_ne _ _ (by omega)).trans hb)) ⟨rfl, rfl⟩ ?_
  refine xv_al0 fX6_init_9 ?_
  refine xv_il2 fX6_init_10 ?_
  refine xv_putI fX6_init_11 gX6_15 rfl tpF6_1 (by first | exact hb | exact (wSh_o (by omega)).trans ((xv_us_ne _ _ (by omega)).trans hb)) ⟨rfl, rfl⟩ ?_
  refine xv_al0 fX6_init_14 ?_
  refine xv_il3 fX6_init_15 ?_
  refine xv_putI fX6_init_16 gX6_18 rfl tpF6_2 (by first | exact hb | exact (wSh_o (by omega)).trans ((xv_us_ne _ _ (by omega)).trans hb)) ⟨rfl, rfl⟩ ?_
  refine xv_al0 fX6_init_19 ?_
  refine xv_il4 fX6_init_20 ?_
  refine xv_putI fX6_init_22 gX6_21 rfl tpF6_3 (by first | exact hb | exact (wSh_o (by omega)).trans ((xv_us_ne _ _ (by omega)).trans hb)) ⟨rfl, rfl⟩ ?_
  refine xv_al0 fX6_init_25 ?_
  refine xv_new (n := (b + 1)) (kc' := 3) (ks' := 6) fX6_init_26 nX6_24 (h1) (by omega) (by omega) ?_
  refine xv_dup_r fX6_init_29 ?_
  refine xv_callI0V (c_wayInit _ _ _ J (xv_us_eq _ _ _) ((xv_us_ne _ _ (by omega)).trans h2) ((xv_us_ne _ _ (by omega)).trans h3) ((xv_us_ne _ _ (by omega)).trans h4)) fX6_init_30 YX8_init VX8_init lX6_26 rfl rfl (Nat.le_of_ble_eq_true rfl) (by decide) (by decide) (by decide) ?_
  refine xv_putR fX6_init_33 gX6_27 rfl tpF6_4 (by first | exact hb | exact (wSh_o (by omega)).trans ((xv_us_ne _ _ (by omega)).trans hb)) (fun _ => ⟨rfl, rfl⟩) ?_
  exact xv_vret fX6_init_36 rfl xv_eq_i

theorem sx_stn (n : Nat) (c : Nat × Nat) {k j : Nat} (h : c.2 ≤ k) (h2 : k < 20) (hj : j < 5) : sx n c (200 + 5 * k + j) = none := by
  unfold sx
  rw [if_neg (by omega), if_neg (by omega), if_neg (by omega), if_neg (by omega), if_pos (by omega), if_neg (by omega)]
theorem us_st (n : Nat) (c : Nat × Nat) (h : c.2 < 20) : sSh (xv_us (sx n c) (200 + 5 * c.2) (.inl 6)) (200 + 5 * c.2) = sx n (c.1, c.2 + 1) := by
  funext v
  unfold sSh wSh xv_us
  have hh : c.2 < ((c.1, c.2 + 1) : Nat × Nat).2 := Nat.lt_succ_self _
  by_cases e4 : v = 200 + 5 * c.2 + 1 + 3
  · rw [if_pos e4, e4, show 200 + 5 * c.2 + 1 + 3 = 204 + 5 * c.2 by omega]
    exact (sx_w4 n _ hh h).symm
  · rw [if_neg e4]
    by_cases e3 : v = 200 + 5 * c.2 + 1 + 2
    · rw [if_pos e3, e3, show 200 + 5 * c.2 + 1 + 2 = 203 + 5 * c.2 by omega]
      exact (sx_w3 n _ hh h).symm
    · rw [if_neg e3]
      by_cases e2 : v = 200 + 5 * c.2 + 1 + 1
      · rw [if_pos e2, e2, show 200 + 5 * c.2 + 1 + 1 = 202 + 5 * c.2 by omega]
        exact (sx_w2 n _ hh h).symm
      · rw [if_neg e2]
        by_cases e1 : v = 200 + 5 * c.2 + 1
        · rw [if_pos e1, e1, show 200 + 5 * c.2 + 1 = 201 + 5 * c.2 by omega]
          exact (sx_wy n _ hh h).symm
        · rw [if_neg e1]
          by_cases e0 : v = 200 + 5 * c.2
          · rw [if_pos e0, e0]
            exact (sx_st n _ hh h).symm
          · rw [if_neg e0]
            unfold sx
            by_cases g : 200 ≤ v ∧ v < 300
            · have e : (v < 200 + 5 * (c.2 + 1)) = (v < 200 + 5 * c.2) := propext ⟨fun q => by omega, fun q => by omega⟩
              simp only [e]
            · rw [if_neg g, if_neg g]
theorem rx_19 (c : Nat × Nat) (j : Nat) : rx c 19 j = if j < c.2 ∧ j < 20 then some (200 + 5 * j) else none := by
  unfold rx
  rw [if_neg (by decide), if_pos rfl]
theorem u_st (c : Nat × Nat) (h : c.2 < 20) : xv_u (sRf (xv_z (rx c) (200 + 5 * c.2) none) (200 + 5 * c.2)) 19 c.2 (some (200 + 5 * c.2)) = rx (c.1, c.2 + 1) := by
  funext v j
  have hh : c.2 < ((c.1, c.2 + 1) : Nat × Nat).2 := Nat.lt_succ_self _
  have out : ∀ w, w = 200 + 5 * c.2 + 2 ∨ w = 200 + 5 * c.2 + 3 ∨ w = 200 + 5 * c.2 + 4 → rx (c.1, c.2 + 1) w j = none := fun w hw => by
    unfold rx
    rw [if_neg (by omega), if_neg (by omega), if_neg (by omega), if_pos ⟨by omega, by show w < 200 + 5 * (c.2 + 1); omega, by omega⟩, if_neg (by omega), if_neg (by omega)]
  by_cases e19 : v = 19
  · subst e19
    unfold sRf wRf
    by_cases g : j = c.2
    · rw [g, xv_u_eq]
      exact (rx_st _ hh h).symm
    · rw [xv_u_nk _ _ _ g, xv_u_ne _ _ _ (by omega), xv_u_ne _ _ _ (by omega), xv_z_ne _ _ _ (by omega), xv_u_ne _ _ _ (by omega), xv_z_ne _ _ _ (by omega), xv_u_ne _ _ _ (by omega), xv_z_ne _ _ _ (by omega), xv_z_ne _ _ _ (by omega), xv_z_ne _ _ _ (by omega)]
      rw [rx_19, rx_19]
      have e : (j < c.2 ∧ j < 20) = (j < c.2 + 1 ∧ j < 20) := propext ⟨fun q => by omega, fun q => by omega⟩
      simp only [e]
  · rw [xv_u_ne _ _ _ e19]
    unfold sRf
    by_cases e0 : v = 200 + 5 * c.2
    · subst e0
      by_cases g : j = 4
      · subst g
        rw [xv_u_eq]
        exact ((rx_way _ hh h).trans (by congr 1; omega)).symm
      · rw [xv_u_nk _ _ _ g]
        unfold wRf
        rw [xv_u_ne _ _ _ (by omega), xv_z_ne _ _ _ (by omega), xv_u_ne _ _ _ (by omega), xv_z_ne _ _ _ (by omega), xv_u_ne _ _ _ (by omega), xv_z_ne _ _ _ (by omega), xv_z_ne _ _ _ (by omega), xv_z_eq]
        unfold rx
        rw [if_neg (by omega), if_neg (by omega), if_neg (by omega), if_pos ⟨by omega, by show _ < 200 + 5 * (c.2 + 1); omega, by omega⟩, if_pos (by omega), if_neg g]
    · rw [xv_u_ne _ _ _ e0]
      unfold wRf
      by_cases e4 : v = 200 + 5 * c.2 + 1 + 3
      · rw [xv_u_ne _ _ _ (by omega), e4, xv_z_eq, out _ (by omega)]
      · by_cases e3 : v = 200 + 5 * c.2 + 1 + 2
        · rw [xv_u_ne _ _ _ (by omega), xv_z_ne _ _ _ e4, xv_u_ne _ _ _ (by omega), e3, xv_z_eq, out _ (by omega)]
        · by_cases e2 : v = 200 + 5 * c.2 + 1 + 1
          · rw [xv_u_ne _ _ _ (by omega), xv_z_ne _ _ _ e4, xv_u_ne _ _ _ (by omega), xv_z_ne _ _ _ e3, xv_u_ne _ _ _ (by omega), e2, xv_z_eq, out _ (by omega)]
          · by_cases e1 : v = 200 + 5 * c.2 + 1
            · subst e1
              have rj : rx (c.1, c.2 + 1) (200 + 5 * c.2 + 1) j = if 1 ≤ j ∧ j ≤ 3 then some (200 + 5 * c.2 + 1 + j) else none := by
                unfold rx
                rw [if_neg (by omega), if_neg (by omega), if_neg (by omega), if_pos ⟨by omega, by show _ < 200 + 5 * (c.2 + 1); omega, by omega⟩, if_neg (by omega), if_pos (by omega)]
              rw [rj]
              by_cases g3 : j = 3
              · rw [g3, xv_u_eq, if_pos (by decide)]
              · rw [xv_u_nk _ _ _ g3, xv_z_ne _ _ _ (by omega)]
                by_cases g2 : j = 2
                · rw [g2, xv_u_eq, if_pos (by decide)]
                · rw [xv_u_nk _ _ _ g2, xv_z_ne _ _ _ (by omega)]
                  by_cases g1 : j = 1
                  · rw [g1, xv_u_eq, if_pos (by decide)]
                  · rw [xv_u_nk _ _ _ g1, xv_z_ne _ _ _ (by omega), xv_z_eq, if_neg (by omega)]
            · rw [xv_u_ne _ _ _ e1, xv_z_ne _ _ _ e4, xv_u_ne _ _ _ e1, xv_z_ne _ _ _ e3, xv_u_ne _ _ _ e1, xv_z_ne _ _ _ e2, xv_z_ne _ _ _ e1, xv_z_ne _ _ _ e0]
              unfold rx
              rw [if_neg e19, if_neg e19]
              by_cases g : 200 ≤ v ∧ v < 300
              · have e : (v < 200 + 5 * (c.2 + 1)) = (v < 200 + 5 * c.2) := propext ⟨fun q => by omega, fun q => by omega⟩
                simp only [e]
              · rw [if_neg (show ¬ (200 ≤ v ∧ v < 200 + 5 * c.2 ∧ v < 300) from fun q => g ⟨q.1, q.2.2⟩), if_neg (show ¬ (200 ≤ v ∧ v < 200 + 5 * (c.2 + 1) ∧ v < 300) from fun q => g ⟨q.1, q.2.2⟩)]
theorem p_story_a (n : Nat) (c : Nat × Nat) (I : xv_I) (J : xv_J) {x1 x2 x3 : Int32} (hx : ¬ okR 0 3 x1) : xv_Met mX10_story 8 16 128 (sx n c) I (rx c) J [.ref 0, .int x1, .int x2, .int x3] (xv_eq (.inr "java/lang/IllegalArgumentException") (sx n c) (I) (rx c) J) := by
  refine xv_Met.of (by decide +kernel) (Nat.le_of_ble_eq_true rfl) (List.forall_mem_cons.mpr ⟨rfl, List.forall_mem_cons.mpr ⟨rfl, List.forall_mem_cons.mpr ⟨rfl, List.forall_mem_cons.mpr ⟨rfl, fun _ h => nomatch h⟩⟩⟩⟩) ?_
  show xv_W mX10_story 8 16 128 _ 16 128 (sx n c) I (rx c) J 0 [some (.ref 0), some (.int x1), some (.int x2), some (.int x3), none] []
  refine xv_il1 fX10_story_0 ?_
  refine xv_k fX10_story_1 ?_
  refine xv_k fX10_story_2 ?_
  exact xv_callS3X (c_needRange_out n c I J (okR_x hx)) fX10_story_3 YX10_needRange VX10_needRange lX10_83 rfl (Nat.le_of_ble_eq_true rfl) (by decide) (by decide) (by decide) xv_eq_i

theorem p_story_b (n : Nat) (c : Nat × Nat) (I : xv_I) (J : xv_J) {x1 x2 x3 : Int32} (h1 : okR 0 3 x1) (hx : ¬ okR 1 6 (xPar x2)) : xv_Met mX10_story 8 16 128 (sx n c) I (rx c) J [.ref 0, .int x1, .int x2, .int x3] (xv_eq (.inr "java/lang/IllegalArgumentException") (sx n c) (I) (rx c) J) := by
  refine xv_Met.of (by decide +kernel) (Nat.le_of_ble_eq_true rfl) (List.forall_mem_cons.mpr ⟨rfl, List.forall_mem_cons.mpr ⟨rfl, List.forall_mem_cons.mpr ⟨rfl, List.forall_mem_cons.mpr ⟨rfl, fun _ h => nomatch h⟩⟩⟩⟩) ?_
  show xv_W mX10_story 8 16 128 _ 16 128 (sx n c) I (rx c) J 0 [some (.ref 0), some (.int x1), some (.int x2), some (.int x3), none] []
  refine xv_il1 fX10_story_0 ?_
  refine xv_k fX10_story_1 ?_
  refine xv_k fX10_story_2 ?_
  refine xv_callS3V (c_needRange_in n c I J (h1).1 (h1).2) fX10_story_3 YX10_needRange VX10_needRange lX10_83 rfl (Nat.le_of_ble_eq_true rfl) (by decide) (by decide) (by decide) ?_
  refine xv_il2 fX10_story_6 ?_
  refine xv_callS1R (c_par n c I J x2) fX10_story_7 YX10_paragraphsOf VX10_paragraphsOf lX10_184 rfl (Nat.le_of_ble_eq_true rfl) (by decide) (by decide) (by decide) ?_
  refine xv_is4 fX10_story_10 ?_
  refine xv_il4 fX10_story_12 ?_
  refine xv_k fX10_story_14 ?_
  refine xv_k fX10_story_15 ?_
  exact xv_callS3X (c_needRange_out n c I J (okR_x hx)) fX10_story_17 YX10_needRange VX10_needRange lX10_83 rfl (Nat.le_of_ble_eq_true rfl) (by decide) (by decide) (by decide) xv_eq_i

theorem p_story_c (n : Nat) (c : Nat × Nat) (I : xv_I) (J : xv_J) {x1 x2 x3 : Int32} (h1 : okR 0 3 x1) (h2 : okR 1 6 (xPar x2)) (hx : x3 < nI 1 ∨ ¬ x3 ≤ xPar x2) : xv_Met mX10_story 8 16 128 (sx n c) I (rx c) J [.ref 0, .int x1, .int x2, .int x3] (xv_eq (.inr "java/lang/IllegalArgumentException") (sx n c) (I) (rx c) J) := by
  refine xv_Met.of (by decide +kernel) (Nat.le_of_ble_eq_true rfl) (List.forall_mem_cons.mpr ⟨rfl, List.forall_mem_cons.mpr ⟨rfl, List.forall_mem_cons.mpr ⟨rfl, List.forall_mem_cons.mpr ⟨rfl, fun _ h => nomatch h⟩⟩⟩⟩) ?_
  show xv_W mX10_story 8 16 128 _ 16 128 (sx n c) I (rx c) J 0 [some (.ref 0), some (.int x1), some (.int x2), some (.int x3), none] []
  refine xv_il1 fX10_story_0 ?_
  refine xv_k fX10_story_1 ?_
  refine xv_k fX10_story_2 ?_
  refine xv_callS3V (c_needRange_in n c I J (h1).1 (h1).2) fX10_story_3 YX10_needRange VX10_needRange lX10_83 rfl (Nat.le_of_ble_eq_true rfl) (by decide) (by decide) (by decide) ?_
  refine xv_il2 fX10_story_6 ?_
  refine xv_callS1R (c_par n c I J x2) fX10_story_7 YX10_paragraphsOf VX10_paragraphsOf lX10_184 rfl (Nat.le_of_ble_eq_true rfl) (by decide) (by decide) (by decide) ?_
  refine xv_is4 fX10_story_10 ?_
  refine xv_il4 fX10_story_12 ?_
  refine xv_k fX10_story_14 ?_
  refine xv_k fX10_story_15 ?_
  refine xv_callS3V (c_needRange_in n c I J (h2).1 (h2).2) fX10_story_17 YX10_needRange VX10_needRange lX10_83 rfl (Nat.le_of_ble_eq_true rfl) (by decide) (by decide) (by decide) ?_
  refine xv_il3 fX10_story_20 ?_
  refine xv_k fX10_story_21 ?_
  refine xv_il4 fX10_story_22 ?_
  exact xv_callS3X (c_needRange_out n c I J hx) fX10_story_24 YX10_needRange VX10_needRange lX10_83 rfl (Nat.le_of_ble_eq_true rfl) (by decide) (by decide) (by decide) xv_eq_i

theorem p_story_d (n : Nat) (c : Nat × Nat) (I : xv_I) (J : xv_J) {x1 x2 x3 : Int32} (h1 : okR 0 3 x1) (h2 : okR 1 6 (xPar x2)) (h3 : ¬ x3 < nI 1 ∧ x3 ≤ xPar x2) (hn : I 0 5 = nI 20) : xv_Met mX10_story 8 16 128 (sx n c) I (rx c) J [.ref 0, .int x1, .int x2, .int x3] (xv_eq (.inr "java/lang/IllegalStateException") (sx n c) (I) (rx c) J) := by
  refine xv_Met.of (by decide +kernel) (Nat.le_of_ble_eq_true rfl) (List.forall_mem_cons.mpr ⟨rfl, List.forall_mem_cons.mpr ⟨rfl, List.forall_mem_cons.mpr ⟨rfl, List.forall_mem_cons.mpr ⟨rfl, fun _ h => nomatch h⟩⟩⟩⟩) ?_
  show xv_W mX10_story 8 16 128 _ 16 128 (sx n c) I (rx c) J 0 [some (.ref 0), some (.int x1), some (.int x2), some (.int x3), none] []
  refine xv_il1 fX10_story_0 ?_
  refine xv_k fX10_story_1 ?_
  refine xv_k fX10_story_2 ?_
  refine xv_callS3V (c_needRange_in n c I J (h1).1 (h1).2) fX10_story_3 YX10_needRange VX10_needRange lX10_83 rfl (Nat.le_of_ble_eq_true rfl) (by decide) (by decide) (by decide) ?_
  refine xv_il2 fX10_story_6 ?_
  refine xv_callS1R (c_par n c I J x2) fX10_story_7 YX10_paragraphsOf VX10_paragraphsOf lX10_184 rfl (Nat.le_of_ble_eq_true rfl) (by decide) (by decide) (by decide) ?_
  refine xv_is4 fX10_story_10 ?_
  refine xv_il4 fX10_story_12 ?_
  refine xv_k fX10_story_14 ?_
  refine xv_k fX10_story_15 ?_
  refine xv_callS3V (c_needRange_in n c I J (h2).1 (h2).2) fX10_story_17 YX10_needRange VX10_needRange lX10_83 rfl (Nat.le_of_ble_eq_true rfl) (by decide) (by decide) (by decide) ?_
  refine xv_il3 fX10_story_20 ?_
  refine xv_k fX10_story_21 ?_
  refine xv_il4 fX10_story_22 ?_
  refine xv_callS3V (c_needRange_in n c I J h3.1 h3.2) fX10_story_24 YX10_needRange VX10_needRange lX10_83 rfl (Nat.le_of_ble_eq_true rfl) (by decide) (by decide) (by decide) ?_
  refine xv_al0 fX10_story_27 ?_
  refine xv_getI fX10_story_28 gX10_187 rfl (sx_0 _ _) ?_
  rw [hn]
  refine xv_k fX10_story_31 ?_
  refine xv_ic_lt fX10_story_33 (fun h_33 => ?_) (fun h_33 => ?_)
  · exact absurd h_33 (by decide)
  · exact xv_throw fX10_story_36 hX10_190 rfl (by decide) (by decide) (by decide) (by decide) xv_eq_i

theorem sI_o {I : xv_I} {b : Nat} {x1 x2 x3 x4 : Int32} {v j : Nat} (h : v < b) : sI (xv_z I b 0) b x1 x2 x3 x4 v j = I v j := by
  unfold sI wI
  rw [xv_z_ne _ _ _ (by omega), xv_z_ne _ _ _ (by omega), xv_z_ne _ _ _ (by omega), xv_z_ne _ _ _ (by omega), xv_u_ne _ _ _ (by omega), xv_u_ne _ _ _ (by omega), xv_u_ne _ _ _ (by omega), xv_u_ne _ _ _ (by omega), xv_z_ne _ _ _ (by omega)]
theorem p_story_ok (n : Nat) (c : Nat × Nat) (I : xv_I) (J : xv_J) {x1 x2 x3 : Int32} (h1 : okR 0 3 x1) (h2 : okR 1 6 (xPar x2)) (h3 : ¬ x3 < nI 1 ∧ x3 ≤ xPar x2) (hn : I 0 5 = nI c.2) (hc : c.2 < 20) : xv_Met mX10_story 8 16 128 (sx n c) I (rx c) J [.ref 0, .int x1, .int x2, .int x3] (xv_eq (.inl (some (.int (nI c.2)))) (sx n (c.1, c.2 + 1)) (xv_u (sI (xv_z I (200 + 5 * c.2) 0) (200 + 5 * c.2) x1 x2 (xPar x2) x3) 0 5 (nI (c.2 + 1))) (rx (c.1, c.2 + 1)) J) := by
  refine xv_Met.of (by decide +kernel) (Nat.le_of_ble_eq_true rfl) (List.forall_mem_cons.mpr ⟨rfl, List.forall_mem_cons.mpr ⟨rfl, List.forall_mem_cons.mpr ⟨rfl, List.forall_mem_cons.mpr ⟨rfl, fun _ h => nomatch h⟩⟩⟩⟩) ?_
  show xv_W mX10_story 8 16 128 _ 16 128 (sx n c) I (rx c) J 0 [some (.ref 0), some (.int x1), some (.int x2), some (.int x3), none] []
  refine xv_il1 fX10_story_0 ?_
  refine xv_k fX10_story_1 ?_
  refine xv_k fX10_story_2 ?_
  refine xv_callS3V (c_needRange_in n c I J (h1).1 (h1).2) fX10_story_3 YX10_needRange VX10_needRange lX10_83 rfl (Nat.le_of_ble_eq_true rfl) (by decide) (by decide) (by decide) ?_
  refine xv_il2 fX10_story_6 ?_
  refine xv_callS1R (c_par n c I J x2) fX10_story_7 YX10_paragraphsOf VX10_paragraphsOf lX10_184 rfl (Nat.le_of_ble_eq_true rfl) (by decide) (by decide) (by decide) ?_
  refine xv_is4 fX10_story_10 ?_
  refine xv_il4 fX10_story_12 ?_
  refine xv_k fX10_story_14 ?_
  refine xv_k fX10_story_15 ?_
  refine xv_callS3V (c_needRange_in n c I J (h2).1 (h2).2) fX10_story_17 YX10_needRange VX10_needRange lX10_83 rfl (Nat.le_of_ble_eq_true rfl) (by decide) (by decide) (by decide) ?_
  refine xv_il3 fX10_story_20 ?_
  refine xv_k fX10_story_21 ?_
  refine xv_il4 fX10_story_22 ?_
  refine xv_callS3V (c_needRange_in n c I J h3.1 h3.2) fX10_story_24 YX10_needRange VX10_needRange lX10_83 rfl (Nat.le_of_ble_eq_true rfl) (by decide) (by decide) (by decide) ?_
  refine xv_al0 fX10_story_27 ?_
  refine xv_getI fX10_story_28 gX10_187 rfl (sx_0 _ _) ?_
  rw [hn]
  refine xv_k fX10_story_31 ?_
  refine xv_ic_lt fX10_story_33 (fun h_33 => ?_) (fun h_33 => ?_)
  · refine xv_al0 fX10_story_46 ?_
    refine xv_getR fX10_story_47 gX10_28 rfl (sx_0 _ _) (rx_0_4 _) ?_
    refine xv_al0 fX10_story_50 ?_
    refine xv_getI fX10_story_51 gX10_187 rfl (sx_0 _ _) ?_
    rw [hn]
    refine xv_new (n := (200 + 5 * c.2)) (kc' := 10) (ks' := 90) fX10_story_54 nX10_26 (sx_stn n c (j := 0) (Nat.le_refl _) hc (by decide)) (by omega) (by omega) ?_
    refine xv_dup_r fX10_story_57 ?_
    refine xv_il1 fX10_story_58 ?_
    refine xv_il2 fX10_story_59 ?_
    refine xv_il4 fX10_story_60 ?_
    refine xv_il3 fX10_story_62 ?_
    refine xv_callI4V (c_stInit _ _ _ J (b := 200 + 5 * c.2) (xv_us_eq _ _ _) ((xv_us_ne _ _ (by omega)).trans (sx_stn n c (j := 1) (Nat.le_refl _) hc (by decide))) ((xv_us_ne _ _ (by omega)).trans (sx_stn n c (j := 2) (Nat.le_refl _) hc (by decide))) ((xv_us_ne _ _ (by omega)).trans (sx_stn n c (j := 3) (Nat.le_refl _) hc (by decide))) ((xv_us_ne _ _ (by omega)).trans (sx_stn n c (j := 4) (Nat.le_refl _) hc (by decide)))) fX10_story_63 YX6_init VX6_init lX10_192 rfl rfl (Nat.le_of_ble_eq_true rfl) (by decide) (by decide) (by decide) ?_
    rw [us_st n c hc]
    refine xv_aastK fX10_story_66 (sx_19 _ _) (sx_st n (c.1, c.2 + 1) (Nat.lt_succ_self _) hc) rfl (⟨hc, by decide⟩) ?_
    rw [u_st c hc]
    refine xv_al0 fX10_story_67 ?_
    refine xv_dup_r fX10_story_68 ?_
    refine xv_getI fX10_story_69 gX10_187 rfl (sx_0 _ _) ?_
    rw [show (sI (xv_z I (200 + 5 * c.2) 0) (200 + 5 * c.2) x1 x2 (xPar x2) x3) 0 5 = nI c.2 from (sI_o (by omega)).trans hn]
    refine xv_k fX10_story_72 ?_
    refine xv_iadd fX10_story_73 ?_
    rw [nI_add]
    refine xv_putI fX10_story_74 gX10_187 rfl (tp10_5 _) (sx_0 _ _) ⟨rfl, rfl⟩ ?_
    refine xv_al0 fX10_story_77 ?_
    refine xv_getI fX10_story_78 gX10_187 rfl (sx_0 _ _) ?_
    rw [xv_u_eq]
    refine xv_k fX10_story_81 ?_
    refine xv_isub fX10_story_82 ?_
    rw [show nI (c.2 + 1) - nI 1 = nI c.2 from nI_sub (Nat.succ_le_succ (Nat.zero_le _))]
    exact xv_iret fX10_story_83 rfl rfl xv_eq_i
  · exact absurd (nI_lt hc (by decide)) h_33
