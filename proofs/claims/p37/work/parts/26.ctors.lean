theorem xv_ms_o {sh : xv_Sh} {o b N K v : Nat} (h : v ≠ o) (h2 : ¬ (b ≤ v ∧ v < b + N)) : xv_ms sh o b N K v = sh v := by
  unfold xv_ms
  rw [if_neg h, if_neg h2]
def kX5_initSh (sh : xv_Sh) : xv_Sh := (xv_us (xv_us (xv_us (xv_us (xv_ms sh 2 3 10 12) 13 (.inr (.inl (.int, 10)))) 14 (.inr (.inl (.boolean, 10)))) 15 (.inr (.inl (.int, 10)))) 16 (.inr (.inl (.int, 10))))
def kX5_initI (I : xv_I) : xv_I := (xv_u (xv_z (xv_z (xv_z (xv_z (xv_mi I 3 10) 13 0) 14 0) 15 0) 16 0) 1 5 (nI 63))
def kX5_initRf (Rf : xv_Rf) : xv_Rf := (xv_u (xv_z (xv_u (xv_z (xv_u (xv_z (xv_u (xv_z (xv_u (xv_mr Rf 2 3 10) 1 0 (some 2)) 13 none) 1 1 (some 13)) 14 none) 1 2 (some 14)) 15 none) 1 3 (some 15)) 16 none) 1 4 (some 16))
theorem c_X5_init (sh : xv_Sh) (I : xv_I) (Rf : xv_Rf) (J : xv_J) (hb : sh 1 = some (.inl 5)) (h : ∀ v, 2 ≤ v → v ≤ 16 → sh v = none) : xv_Met mX5_init 1 15 170 sh I Rf J [.ref 1] (xv_eq (.inl none) (kX5_initSh sh) (kX5_initI I) (kX5_initRf Rf) J) := by
  refine xv_Met.of (by decide +kernel) (Nat.le_of_ble_eq_true rfl) (List.forall_mem_cons.mpr ⟨rfl, fun _ h => nomatch h⟩) ?_
  show xv_W mX5_init 1 15 170 _ 15 170 sh I Rf J 0 [some (.ref 1)] []
  refine xv_al0 fX5_init_0 ?_
  refine xv_obj fX5_init_1 lX5_3 xv_objw (by decide) (by decide) ?_
  refine xv_al0 fX5_init_4 ?_
  refine xv_k fX5_init_5 ?_
  refine xv_k fX5_init_7 ?_
  refine xv_mna (o := 2) (b := 3) (N := 10) (K := 12) (kc' := 4) (ks' := 40) fX5_init_9 kX5_9 xv_ao_a xv_ac_int (by exact h 2 (by decide) (by decide)) (by decide) (by exact fun i hi => h _ (by omega) (by omega)) (by decide) (by decide) (by decide) (by decide) (by decide) (by decide) (by decide) (by decide) ?_
  refine xv_putR fX5_init_13 gX5_11 rfl tpF5_0 (by exact hb) (fun _ => ⟨rfl, rfl⟩) ?_
  refine xv_al0 fX5_init_16 ?_
  refine xv_k fX5_init_17 ?_
  refine xv_newI (n := 13) (k9 := 10) (kc' := 3) (ks' := 30) fX5_init_19 xv_ac_int (by exact h 13 (by decide) (by decide)) (by decide) (by decide) (by decide) (by decide) (by decide) ?_
  refine xv_putR fX5_init_21 gX5_16 rfl tpF5_1 (by exact hb) (fun _ => ⟨rfl, rfl⟩) ?_
  refine xv_al0 fX5_init_24 ?_
  refine xv_k fX5_init_25 ?_
  refine xv_newZ (n := 14) (k9 := 10) (kc' := 2) (ks' := 20) fX5_init_27 xv_ac_boolean (by exact h 14 (by decide) (by decide)) (by decide) (by decide) (by decide) (by decide) (by decide) ?_
  refine xv_putR fX5_init_29 gX5_20 rfl tpF5_2 (by exact hb) (fun _ => ⟨rfl, rfl⟩) ?_
  refine xv_al0 fX5_init_32 ?_
  refine xv_k fX5_init_33 ?_
  refine xv_newI (n := 15) (k9 := 10) (kc' := 1) (ks' := 10) fX5_init_35 xv_ac_int (by exact h 15 (by decide) (by decide)) (by decide) (by decide) (by decide) (by decide) (by decide) ?_
  refine xv_putR fX5_init_37 gX5_24 rfl tpF5_3 (by exact hb) (fun _ => ⟨rfl, rfl⟩) ?_
  refine xv_al0 fX5_init_40 ?_
  refine xv_k fX5_init_41 ?_
  refine xv_newI (n := 16) (k9 := 10) (kc' := 0) (ks' := 0) fX5_init_43 xv_ac_int (by exact h 16 (by decide) (by decide)) (by decide) (by decide) (by decide) (by decide) (by decide) ?_
  refine xv_putR fX5_init_45 gX5_27 rfl tpF5_4 (by exact hb) (fun _ => ⟨rfl, rfl⟩) ?_
  refine xv_al0 fX5_init_48 ?_
  refine xv_k fX5_init_49 ?_
  refine xv_putI fX5_init_51 gX5_30 rfl (tp5_5 _) (by exact hb) ⟨rfl, rfl⟩ ?_
  exact xv_vret fX5_init_54 rfl xv_eq_i

theorem kX5_initSh_o {sh : xv_Sh} {v : Nat} (h : v < 2 ∨ 16 < v) : kX5_initSh sh v = sh v := by
  unfold kX5_initSh
  exact (xv_us_ne _ _ (by omega)).trans ((xv_us_ne _ _ (by omega)).trans ((xv_us_ne _ _ (by omega)).trans ((xv_us_ne _ _ (by omega)).trans ((xv_ms_o (by omega) (by omega)).trans (rfl)))))
def kX1_initSh (sh : xv_Sh) : xv_Sh := (xv_us (xv_us (xv_ms sh 30 31 8 120) 39 (.inr (.inl (.int, 8)))) 40 (.inr (.inl (.int, 5))))
def kX1_initI (I : xv_I) : xv_I := (xv_z (xv_z (xv_mi I 31 8) 39 0) 40 0)
def kX1_initRf (Rf : xv_Rf) : xv_Rf := (xv_u (xv_z (xv_u (xv_z (xv_u (xv_mr Rf 30 31 8) 29 0 (some 30)) 39 none) 29 1 (some 39)) 40 none) 29 3 (some 40))
theorem c_X1_init (sh : xv_Sh) (I : xv_I) (Rf : xv_Rf) (J : xv_J) (hb : sh 29 = some (.inl 1)) (h : ∀ v, 30 ≤ v → v ≤ 40 → sh v = none) : xv_Met mX1_init 1 11 981 sh I Rf J [.ref 29] (xv_eq (.inl none) (kX1_initSh sh) (kX1_initI I) (kX1_initRf Rf) J) := by
  refine xv_Met.of (by decide +kernel) (Nat.le_of_ble_eq_true rfl) (List.forall_mem_cons.mpr ⟨rfl, fun _ h => nomatch h⟩) ?_
  show xv_W mX1_init 1 11 981 _ 11 981 sh I Rf J 0 [some (.ref 29)] []
  refine xv_al0 fX1_init_0 ?_
  refine xv_obj fX1_init_1 lX1_3 xv_objw (by decide) (by decide) ?_
  refine xv_al0 fX1_init_4 ?_
  refine xv_k fX1_init_5 ?_
  refine xv_k fX1_init_7 ?_
  refine xv_mna (o := 30) (b := 31) (N := 8) (K := 120) (kc' := 2) (ks' := 13) fX1_init_9 kX1_9 xv_ao_a xv_ac_int (by exact h 30 (by decide) (by decide)) (by decide) (by exact fun i hi => h _ (by omega) (by omega)) (by decide) (by decide) (by decide) (by decide) (by decide) (by decide) (by decide) (by decide) ?_
  refine xv_putR fX1_init_13 gX1_11 rfl tpF1_0 (by exact hb) (fun _ => ⟨rfl, rfl⟩) ?_
  refine xv_al0 fX1_init_16 ?_
  refine xv_k fX1_init_17 ?_
  refine xv_newI (n := 39) (k9 := 8) (kc' := 1) (ks' := 5) fX1_init_19 xv_ac_int (by exact h 39 (by decide) (by decide)) (by decide) (by decide) (by decide) (by decide) (by decide) ?_
  refine xv_putR fX1_init_21 gX1_16 rfl tpF1_1 (by exact hb) (fun _ => ⟨rfl, rfl⟩) ?_
  refine xv_al0 fX1_init_24 ?_
  refine xv_k fX1_init_25 ?_
  refine xv_newI (n := 40) (k9 := 5) (kc' := 0) (ks' := 0) fX1_init_26 xv_ac_int (by exact h 40 (by decide) (by decide)) (by decide) (by decide) (by decide) (by decide) (by decide) ?_
  refine xv_putR fX1_init_28 gX1_20 rfl tpF1_3 (by exact hb) (fun _ => ⟨rfl, rfl⟩) ?_
  exact xv_vret fX1_init_31 rfl xv_eq_i

theorem kX1_initSh_o {sh : xv_Sh} {v : Nat} (h : v < 30 ∨ 40 < v) : kX1_initSh sh v = sh v := by
  unfold kX1_initSh
  exact (xv_us_ne _ _ (by omega)).trans ((xv_us_ne _ _ (by omega)).trans ((xv_ms_o (by omega) (by omega)).trans (rfl)))
def kX7_initSh (sh : xv_Sh) : xv_Sh := (xv_us (xv_us sh 42 (.inr (.inl (.int, 6)))) 43 (.inr (.inl (.int, 6))))
def kX7_initI (I : xv_I) : xv_I := (xv_z (xv_z I 42 0) 43 0)
def kX7_initRf (Rf : xv_Rf) : xv_Rf := (xv_u (xv_z (xv_u (xv_z Rf 42 none) 41 0 (some 42)) 43 none) 41 1 (some 43))
theorem c_X7_init (sh : xv_Sh) (I : xv_I) (Rf : xv_Rf) (J : xv_J) (hb : sh 41 = some (.inl 7)) (h : ∀ v, 42 ≤ v → v ≤ 43 → sh v = none) : xv_Met mX7_init 1 2 12 sh I Rf J [.ref 41] (xv_eq (.inl none) (kX7_initSh sh) (kX7_initI I) (kX7_initRf Rf) J) := by
  refine xv_Met.of (by decide +kernel) (Nat.le_of_ble_eq_true rfl) (List.forall_mem_cons.mpr ⟨rfl, fun _ h => nomatch h⟩) ?_
  show xv_W mX7_init 1 2 12 _ 2 12 sh I Rf J 0 [some (.ref 41)] []
  refine xv_al0 fX7_init_0 ?_
  refine xv_obj fX7_init_1 lX7_3 xv_objw (by decide) (by decide) ?_
  refine xv_al0 fX7_init_4 ?_
  refine xv_k fX7_init_5 ?_
  refine xv_newI (n := 42) (k9 := 6) (kc' := 1) (ks' := 6) fX7_init_7 xv_ac_int (by exact h 42 (by decide) (by decide)) (by decide) (by decide) (by decide) (by decide) (by decide) ?_
  refine xv_putR fX7_init_9 gX7_9 rfl tpF7_0 (by exact hb) (fun _ => ⟨rfl, rfl⟩) ?_
  refine xv_al0 fX7_init_12 ?_
  refine xv_k fX7_init_13 ?_
  refine xv_newI (n := 43) (k9 := 6) (kc' := 0) (ks' := 0) fX7_init_15 xv_ac_int (by exact h 43 (by decide) (by decide)) (by decide) (by decide) (by decide) (by decide) (by decide) ?_
  refine xv_putR fX7_init_17 gX7_15 rfl tpF7_1 (by exact hb) (fun _ => ⟨rfl, rfl⟩) ?_
  exact xv_vret fX7_init_20 rfl xv_eq_i

theorem kX7_initSh_o {sh : xv_Sh} {v : Nat} (h : v < 42 ∨ 43 < v) : kX7_initSh sh v = sh v := by
  unfold kX7_initSh
  exact (xv_us_ne _ _ (by omega)).trans ((xv_us_ne _ _ (by omega)).trans (rfl))
def kX2_initSh (sh : xv_Sh) : xv_Sh := (xv_us (xv_us sh 45 (.inr (.inl (.int, 5)))) 46 (.inr (.inl (.int, 5))))
def kX2_initI (I : xv_I) : xv_I := (xv_z (xv_z I 45 0) 46 0)
def kX2_initRf (Rf : xv_Rf) : xv_Rf := (xv_u (xv_z (xv_u (xv_z Rf 45 none) 44 0 (some 45)) 46 none) 44 1 (some 46))
theorem c_X2_init (sh : xv_Sh) (I : xv_I) (Rf : xv_Rf) (J : xv_J) (hb : sh 44 = some (.inl 2)) (h : ∀ v, 45 ≤ v → v ≤ 46 → sh v = none) : xv_Met mX2_init 1 2 10 sh I Rf J [.ref 44] (xv_eq (.inl none) (kX2_initSh sh) (kX2_initI I) (kX2_initRf Rf) J) := by
  refine xv_Met.of (by decide +kernel) (Nat.le_of_ble_eq_true rfl) (List.forall_mem_cons.mpr ⟨rfl, fun _ h => nomatch h⟩) ?_
  show xv_W mX2_init 1 2 10 _ 2 10 sh I Rf J 0 [some (.ref 44)] []
  refine xv_al0 fX2_init_0 ?_
  refine xv_obj fX2_init_1 lX2_3 xv_objw (by decide) (by decide) ?_
  refine xv_al0 fX2_init_4 ?_
  refine xv_k fX2_init_5 ?_
  refine xv_newI (n := 45) (k9 := 5) (kc' := 1) (ks' := 5) fX2_init_6 xv_ac_int (by exact h 45 (by decide) (by decide)) (by decide) (by decide) (by decide) (by decide) (by decide) ?_
  refine xv_putR fX2_init_8 gX2_9 rfl tpF2_0 (by exact hb) (fun _ => ⟨rfl, rfl⟩) ?_
  refine xv_al0 fX2_init_11 ?_
  refine xv_k fX2_init_12 ?_
  refine xv_newI (n := 46) (k9 := 5) (kc' := 0) (ks' := 0) fX2_init_13 xv_ac_int (by exact h 46 (by decide) (by decide)) (by decide) (by decide) (by decide) (by decide) (by decide) ?_
  refine xv_putR fX2_init_15 gX2_15 rfl tpF2_1 (by exact hb) (fun _ => ⟨rfl, rfl⟩) ?_
  exact xv_vret fX2_init_18 rfl xv_eq_i

theorem kX2_initSh_o {sh : xv_Sh} {v : Nat} (h : v < 45 ∨ 46 < v) : kX2_initSh sh v = sh v := by
  unfold kX2_initSh
  exact (xv_us_ne _ _ (by omega)).trans ((xv_us_ne _ _ (by omega)).trans (rfl))
def kX9_initSh (sh : xv_Sh) : xv_Sh := (xv_us (xv_us sh 49 (.inr (.inl (.int, 12)))) 50 (.inr (.inl (.int, 12))))
def kX9_initI (I : xv_I) : xv_I := (xv_z (xv_z I 49 0) 50 0)
def kX9_initRf (Rf : xv_Rf) : xv_Rf := (xv_u (xv_z (xv_u (xv_z Rf 49 none) 48 0 (some 49)) 50 none) 48 1 (some 50))
theorem c_X9_init (sh : xv_Sh) (I : xv_I) (Rf : xv_Rf) (J : xv_J) (hb : sh 48 = some (.inl 9)) (h : ∀ v, 49 ≤ v → v ≤ 50 → sh v = none) : xv_Met mX9_init 1 2 24 sh I Rf J [.ref 48] (xv_eq (.inl none) (kX9_initSh sh) (kX9_initI I) (kX9_initRf Rf) J) := by
  refine xv_Met.of (by decide +kernel) (Nat.le_of_ble_eq_true rfl) (List.forall_mem_cons.mpr ⟨rfl, fun _ h => nomatch h⟩) ?_
  show xv_W mX9_init 1 2 24 _ 2 24 sh I Rf J 0 [some (.ref 48)] []
  refine xv_al0 fX9_init_0 ?_
  refine xv_obj fX9_init_1 lX9_3 xv_objw (by decide) (by decide) ?_
  refine xv_al0 fX9_init_4 ?_
  refine xv_k fX9_init_5 ?_
  refine xv_newI (n := 49) (k9 := 12) (kc' := 1) (ks' := 12) fX9_init_7 xv_ac_int (by exact h 49 (by decide) (by decide)) (by decide) (by decide) (by decide) (by decide) (by decide) ?_
  refine xv_putR fX9_init_9 gX9_9 rfl tpF9_0 (by exact hb) (fun _ => ⟨rfl, rfl⟩) ?_
  refine xv_al0 fX9_init_12 ?_
  refine xv_k fX9_init_13 ?_
  refine xv_newI (n := 50) (k9 := 12) (kc' := 0) (ks' := 0) fX9_init_15 xv_ac_int (by exact h 50 (by decide) (by decide)) (by decide) (by decide) (by decide) (by decide) (by decide) ?_
  refine xv_putR fX9_init_17 gX9_15 rfl tpF9_1 (by exact hb) (fun _ => ⟨rfl, rfl⟩) ?_
  exact xv_vret fX9_init_20 rfl xv_eq_i

theorem kX9_initSh_o {sh : xv_Sh} {v : Nat} (h : v < 49 ∨ 50 < v) : kX9_initSh sh v = sh v := by
  unfold kX9_initSh
  exact (xv_us_ne _ _ (by omega)).trans ((xv_us_ne _ _ (by omega)).trans (rfl))
def kX4_initSh (sh : xv_Sh) : xv_Sh := (xv_us (xv_us (xv_us (xv_us sh 52 (.inr (.inl (.int, 16)))) 53 (.inr (.inl (.int, 4)))) 54 (.inr (.inl (.int, 4)))) 55 (.inr (.inl (.int, 4))))
def kX4_initI (I : xv_I) : xv_I := (xv_z (xv_z (xv_z (xv_z I 52 0) 53 0) 54 0) 55 0)
def kX4_initRf (Rf : xv_Rf) : xv_Rf := (xv_u (xv_z (xv_u (xv_z (xv_u (xv_z (xv_u (xv_z Rf 52 none) 51 0 (some 52)) 53 none) 51 1 (some 53)) 54 none) 51 2 (some 54)) 55 none) 51 3 (some 55))
theorem c_X4_init (sh : xv_Sh) (I : xv_I) (Rf : xv_Rf) (J : xv_J) (hb : sh 51 = some (.inl 4)) (h : ∀ v, 52 ≤ v → v ≤ 55 → sh v = none) : xv_Met mX4_init 1 4 28 sh I Rf J [.ref 51] (xv_eq (.inl none) (kX4_initSh sh) (kX4_initI I) (kX4_initRf Rf) J) := by
  refine xv_Met.of (by decide +kernel) (Nat.le_of_ble_eq_true rfl) (List.forall_mem_cons.mpr ⟨rfl, fun _ h => nomatch h⟩) ?_
  show xv_W mX4_init 1 4 28 _ 4 28 sh I Rf J 0 [some (.ref 51)] []
  refine xv_al0 fX4_init_0 ?_
  refine xv_obj fX4_init_1 lX4_3 xv_objw (by decide) (by decide) ?_
  refine xv_al0 fX4_init_4 ?_
  refine xv_k fX4_init_5 ?_
  refine xv_newI (n := 52) (k9 := 16) (kc' := 3) (ks' := 12) fX4_init_7 xv_ac_int (by exact h 52 (by decide) (by decide)) (by decide) (by decide) (by decide) (by decide) (by decide) ?_
  refine xv_putR fX4_init_9 gX4_9 rfl tpF4_0 (by exact hb) (fun _ => ⟨rfl, rfl⟩) ?_
  refine xv_al0 fX4_init_12 ?_
  refine xv_k fX4_init_13 ?_
  refine xv_newI (n := 53) (k9 := 4) (kc' := 2) (ks' := 8) fX4_init_14 xv_ac_int (by exact h 53 (by decide) (by decide)) (by decide) (by decide) (by decide) (by decide) (by decide) ?_
  refine xv_putR fX4_init_16 gX4_15 rfl tpF4_1 (by exact hb) (fun _ => ⟨rfl, rfl⟩) ?_
  refine xv_al0 fX4_init_19 ?_
  refine xv_k fX4_init_20 ?_
  refine xv_newI (n := 54) (k9 := 4) (kc' := 1) (ks' := 4) fX4_init_21 xv_ac_int (by exact h 54 (by decide) (by decide)) (by decide) (by decide) (by decide) (by decide) (by decide) ?_
  refine xv_putR fX4_init_23 gX4_18 rfl tpF4_2 (by exact hb) (fun _ => ⟨rfl, rfl⟩) ?_
  refine xv_al0 fX4_init_26 ?_
  refine xv_k fX4_init_27 ?_
  refine xv_newI (n := 55) (k9 := 4) (kc' := 0) (ks' := 0) fX4_init_28 xv_ac_int (by exact h 55 (by decide) (by decide)) (by decide) (by decide) (by decide) (by decide) (by decide) ?_
  refine xv_putR fX4_init_30 gX4_21 rfl tpF4_3 (by exact hb) (fun _ => ⟨rfl, rfl⟩) ?_
  exact xv_vret fX4_init_33 rfl xv_eq_i

theorem kX4_initSh_o {sh : xv_Sh} {v : Nat} (h : v < 52 ∨ 55 < v) : kX4_initSh sh v = sh v := by
  unfold kX4_initSh
  exact (xv_us_ne _ _ (by omega)).trans ((xv_us_ne _ _ (by omega)).trans ((xv_us_ne _ _ (by omega)).trans ((xv_us_ne _ _ (by omega)).trans (rfl))))
def kX3_initSh (sh : xv_Sh) : xv_Sh := (wSh (xv_us (wSh (xv_us sh 21 (.inl 8)) 21) 25 (.inl 8)) 25)
def kX3_initI (I : xv_I) : xv_I := (wI (xv_z (wI (xv_z I 21 0) 21) 25 0) 25)
def kX3_initRf (Rf : xv_Rf) : xv_Rf := (xv_u (wRf (xv_z (xv_u (wRf (xv_z (xv_u Rf 20 0 (some 1)) 21 none) 21) 20 1 (some 21)) 25 none) 25) 20 2 (some 25))
theorem c_X3_init (sh : xv_Sh) (I : xv_I) (Rf : xv_Rf) (J : xv_J) (hb : sh 20 = some (.inl 3)) (h : ∀ v, 21 ≤ v → v ≤ 28 → sh v = none) : xv_Met mX3_init 2 8 20 sh I Rf J [.ref 20, .ref 1] (xv_eq (.inl none) (kX3_initSh sh) (kX3_initI I) (kX3_initRf Rf) J) := by
  refine xv_Met.of (by decide +kernel) (Nat.le_of_ble_eq_true rfl) (List.forall_mem_cons.mpr ⟨rfl, List.forall_mem_cons.mpr ⟨rfl, fun _ h => nomatch h⟩⟩) ?_
  show xv_W mX3_init 2 8 20 _ 8 20 sh I Rf J 0 [some (.ref 20), some (.ref 1)] []
  refine xv_al0 fX3_init_0 ?_
  refine xv_obj fX3_init_1 lX3_3 xv_objw (by decide) (by decide) ?_
  refine xv_al0 fX3_init_4 ?_
  refine xv_al1 fX3_init_5 ?_
  refine xv_putR fX3_init_6 gX3_9 rfl tpF3_0 (by exact hb) (fun _ => ⟨rfl, rfl⟩) ?_
  refine xv_al0 fX3_init_9 ?_
  refine xv_new (n := 21) (kc' := 7) (ks' := 16) fX3_init_10 nX3_15 (by exact h 21 (by decide) (by decide)) (by decide) (by decide) ?_
  refine xv_dup_r fX3_init_13 ?_
  refine xv_callI0V (c_wayInit _ _ _ J (b := 21) (by rfl) (by exact h 22 (by decide) (by decide)) (by exact h 23 (by decide) (by decide)) (by exact h 24 (by decide) (by decide))) fX3_init_14 YX8_init VX8_init lX3_17 rfl rfl (Nat.le_of_ble_eq_true rfl) (by decide) (by decide) (by decide) ?_
  refine xv_putR fX3_init_17 gX3_18 rfl tpF3_1 (by exact hb) (fun _ => ⟨rfl, rfl⟩) ?_
  refine xv_al0 fX3_init_20 ?_
  refine xv_new (n := 25) (kc' := 3) (ks' := 6) fX3_init_21 nX3_15 (by exact h 25 (by decide) (by decide)) (by decide) (by decide) ?_
  refine xv_dup_r fX3_init_24 ?_
  refine xv_callI0V (c_wayInit _ _ _ J (b := 25) (by rfl) (by exact h 26 (by decide) (by decide)) (by exact h 27 (by decide) (by decide)) (by exact h 28 (by decide) (by decide))) fX3_init_25 YX8_init VX8_init lX3_17 rfl rfl (Nat.le_of_ble_eq_true rfl) (by decide) (by decide) (by decide) ?_
  refine xv_putR fX3_init_28 gX3_22 rfl tpF3_2 (by exact hb) (fun _ => ⟨rfl, rfl⟩) ?_
  exact xv_vret fX3_init_31 rfl xv_eq_i

theorem kX3_initSh_o {sh : xv_Sh} {v : Nat} (h : v < 21 ∨ 28 < v) : kX3_initSh sh v = sh v := by
  unfold kX3_initSh
  exact (wSh_o (by omega)).trans ((xv_us_ne _ _ (by omega)).trans ((wSh_o (by omega)).trans ((xv_us_ne _ _ (by omega)).trans (rfl))))
def kX10_initSh (sh : xv_Sh) : xv_Sh := (kX4_initSh (xv_us (kX9_initSh (xv_us (xv_us (kX2_initSh (xv_us (kX7_initSh (xv_us (kX1_initSh (xv_us (kX3_initSh (xv_us (xv_us (xv_us (xv_us (kX5_initSh (xv_us sh 1 (.inl 5))) 17 (.inr (.inl (.int, 4)))) 18 (.inr (.inl (.object "PressHall$Advert", 20)))) 19 (.inr (.inl (.object "PressHall$Story", 20)))) 20 (.inl 3))) 29 (.inl 1))) 41 (.inl 7))) 44 (.inl 2))) 47 (.inr (.inl (.int, 6)))) 48 (.inl 9))) 51 (.inl 4)))
def kX10_initI (I : xv_I) : xv_I := (kX4_initI (xv_z (kX9_initI (xv_z (xv_z (kX2_initI (xv_z (kX7_initI (xv_z (kX1_initI (xv_z (kX3_initI (xv_z (xv_u (xv_u (xv_u (xv_u (xv_z (kX5_initI (xv_z I 1 0)) 17 0) 17 0 (nI 1)) 17 1 (nI 1)) 17 2 (nI 1)) 17 3 (nI 1)) 20 0)) 29 0)) 41 0)) 44 0)) 47 0) 48 0)) 51 0))
def kX10_initRf (Rf : xv_Rf) : xv_Rf := (xv_u (kX4_initRf (xv_z (xv_u (kX9_initRf (xv_z (xv_u (xv_z (xv_u (kX2_initRf (xv_z (xv_u (kX7_initRf (xv_z (xv_u (kX1_initRf (xv_z (xv_u (kX3_initRf (xv_z (xv_u (xv_z (xv_u (xv_z (xv_u (xv_z (xv_u (kX5_initRf (xv_z Rf 1 none)) 0 0 (some 1)) 17 none) 0 1 (some 17)) 18 none) 0 2 (some 18)) 19 none) 0 4 (some 19)) 20 none)) 0 6 (some 20)) 29 none)) 0 7 (some 29)) 41 none)) 0 8 (some 41)) 44 none)) 0 10 (some 44)) 47 none) 0 11 (some 47)) 48 none)) 0 12 (some 48)) 51 none)) 0 13 (some 51))
theorem c_X10_init (sh : xv_Sh) (I : xv_I) (Rf : xv_Rf) (J : xv_J) (hb : sh 0 = some (.inl 10)) (h : ∀ v, 1 ≤ v → v ≤ 55 → sh v = none) : xv_Met mX10_init 3 55 1326 sh I Rf J [.ref 0] (xv_eq (.inl none) (kX10_initSh sh) (kX10_initI I) (kX10_initRf Rf) J) := by
  refine xv_Met.of (by decide +kernel) (Nat.le_of_ble_eq_true rfl) (List.forall_mem_cons.mpr ⟨rfl, fun _ h => nomatch h⟩) ?_
  show xv_W mX10_init 3 55 1326 _ 55 1326 sh I Rf J 0 [some (.ref 0)] []
  refine xv_al0 fX10_init_0 ?_
  refine xv_obj fX10_init_1 lX10_1 xv_objw (by decide) (by decide) ?_
  refine xv_al0 fX10_init_4 ?_
  refine xv_new (n := 1) (kc' := 54) (ks' := 1319) fX10_init_5 nX10_7 (by exact h 1 (by decide) (by decide)) (by decide) (by decide) ?_
  refine xv_dup_r fX10_init_8 ?_
  refine xv_callI0V (c_X5_init _ _ _ J (by rfl) (by exact fun v h1 h2 => (xv_us_ne _ _ (by omega)).trans (h v (by omega) (by omega)))) fX10_init_9 YX5_init VX5_init lX10_9 rfl rfl (Nat.le_of_ble_eq_true rfl) (by decide) (by decide) (by decide) ?_
  refine xv_putR fX10_init_12 gX10_10 rfl tpF10_0 (by exact hb) (fun _ => ⟨rfl, rfl⟩) ?_
  refine xv_al0 fX10_init_15 ?_
  refine xv_k fX10_init_16 ?_
  refine xv_newI (n := 17) (k9 := 4) (kc' := 38) (ks' := 1145) fX10_init_17 xv_ac_int (by exact h 17 (by decide) (by decide)) (by decide) (by decide) (by decide) (by decide) (by decide) ?_
  refine xv_dup_r fX10_init_19 ?_
  refine xv_k fX10_init_20 ?_
  refine xv_k fX10_init_21 ?_
  refine xv_iastN fX10_init_22 (by rfl) (⟨by decide, by decide⟩) ?_
  refine xv_dup_r fX10_init_23 ?_
  refine xv_k fX10_init_24 ?_
  refine xv_k fX10_init_25 ?_
  refine xv_iastN fX10_init_26 (by rfl) (⟨by decide, by decide⟩) ?_
  refine xv_dup_r fX10_init_27 ?_
  refine xv_k fX10_init_28 ?_
  refine xv_k fX10_init_29 ?_
  refine xv_iastN fX10_init_30 (by rfl) (⟨by decide, by decide⟩) ?_
  refine xv_dup_r fX10_init_31 ?_
  refine xv_k fX10_init_32 ?_
  refine xv_k fX10_init_33 ?_
  refine xv_iastN fX10_init_34 (by rfl) (⟨by decide, by decide⟩) ?_
  refine xv_putR fX10_init_35 gX10_16 rfl tpF10_1 (by exact hb) (fun _ => ⟨rfl, rfl⟩) ?_
  refine xv_al0 fX10_init_38 ?_
  refine xv_k fX10_init_39 ?_
  refine xv_anew (n := 18) (k9 := 20) (kc' := 37) (ks' := 1125) fX10_init_41 kX10_20 xv_ao_0 (by exact h 18 (by decide) (by decide)) (by decide) (by decide) (by decide) (by decide) (by decide) ?_
  refine xv_putR fX10_init_44 gX10_22 rfl tpF10_2 (by exact hb) (fun _ => ⟨rfl, rfl⟩) ?_
  refine xv_al0 fX10_init_47 ?_
  refine xv_k fX10_init_48 ?_
  refine xv_anew (n := 19) (k9 := 20) (kc' := 36) (ks' := 1105) fX10_init_50 kX10_26 xv_ao_6 (by exact h 19 (by decide) (by decide)) (by decide) (by decide) (by decide) (by decide) (by decide) ?_
  refine xv_putR fX10_init_53 gX10_28 rfl tpF10_4 (by exact hb) (fun _ => ⟨rfl, rfl⟩) ?_
  refine xv_al0 fX10_init_56 ?_
  refine xv_new (n := 20) (kc' := 35) (ks' := 1099) fX10_init_57 nX10_32 (by exact h 20 (by decide) (by decide)) (by decide) (by decide) ?_
  refine xv_dup_r fX10_init_60 ?_
  refine xv_al0 fX10_init_61 ?_
  refine xv_getR fX10_init_62 gX10_10 rfl (by exact hb) (by rfl) ?_
  refine xv_callI1V (c_X3_init _ _ _ J (by rfl) (by exact fun v h1 h2 => (xv_us_ne _ _ (by omega)).trans ((xv_us_ne _ _ (by omega)).trans ((xv_us_ne _ _ (by omega)).trans ((xv_us_ne _ _ (by omega)).trans ((kX5_initSh_o (by omega)).trans ((xv_us_ne _ _ (by omega)).trans (h v (by omega) (by omega))))))))) fX10_init_65 YX3_init VX3_init lX10_34 rfl rfl (Nat.le_of_ble_eq_true rfl) (by decide) (by decide) (by decide) ?_
  refine xv_putR fX10_init_68 gX10_37 rfl tpF10_6 (by exact hb) (fun _ => ⟨rfl, rfl⟩) ?_
  refine xv_al0 fX10_init_71 ?_
  refine xv_new (n := 29) (kc' := 26) (ks' := 1074) fX10_init_72 nX10_41 (by exact h 29 (by decide) (by decide)) (by decide) (by decide) ?_
  refine xv_dup_r fX10_init_75 ?_
  refine xv_callI0V (c_X1_init _ _ _ J (by rfl) (by exact fun v h1 h2 => (xv_us_ne _ _ (by omega)).trans ((kX3_initSh_o (by omega)).trans ((xv_us_ne _ _ (by omega)).trans ((xv_us_ne _ _ (by omega)).trans ((xv_us_ne _ _ (by omega)).trans ((xv_us_ne _ _ (by omega)).trans ((kX5_initSh_o (by omega)).trans ((xv_us_ne _ _ (by omega)).trans (h v (by omega) (by omega))))))))))) fX10_init_76 YX1_init VX1_init lX10_43 rfl rfl (Nat.le_of_ble_eq_true rfl) (by decide) (by decide) (by decide) ?_
  refine xv_putR fX10_init_79 gX10_44 rfl tpF10_7 (by exact hb) (fun _ => ⟨rfl, rfl⟩) ?_
  refine xv_al0 fX10_init_82 ?_
  refine xv_new (n := 41) (kc' := 14) (ks' := 90) fX10_init_83 nX10_48 (by exact h 41 (by decide) (by decide)) (by decide) (by decide) ?_
  refine xv_dup_r fX10_init_86 ?_
  refine xv_callI0V (c_X7_init _ _ _ J (by rfl) (by exact fun v h1 h2 => (xv_us_ne _ _ (by omega)).trans ((kX1_initSh_o (by omega)).trans ((xv_us_ne _ _ (by omega)).trans ((kX3_initSh_o (by omega)).trans ((xv_us_ne _ _ (by omega)).trans ((xv_us_ne _ _ (by omega)).trans ((xv_us_ne _ _ (by omega)).trans ((xv_us_ne _ _ (by omega)).trans ((kX5_initSh_o (by omega)).trans ((xv_us_ne _ _ (by omega)).trans (h v (by omega) (by omega))))))))))))) fX10_init_87 YX7_init VX7_init lX10_50 rfl rfl (Nat.le_of_ble_eq_true rfl) (by decide) (by decide) (by decide) ?_
  refine xv_putR fX10_init_90 gX10_51 rfl tpF10_8 (by exact hb) (fun _ => ⟨rfl, rfl⟩) ?_
  refine xv_al0 fX10_init_93 ?_
  refine xv_new (n := 44) (kc' := 11) (ks' := 75) fX10_init_94 nX10_55 (by exact h 44 (by decide) (by decide)) (by decide) (by decide) ?_
  refine xv_dup_r fX10_init_97 ?_
  refine xv_callI0V (c_X2_init _ _ _ J (by rfl) (by exact fun v h1 h2 => (xv_us_ne _ _ (by omega)).trans ((kX7_initSh_o (by omega)).trans ((xv_us_ne _ _ (by omega)).trans ((kX1_initSh_o (by omega)).trans ((xv_us_ne _ _ (by omega)).trans ((kX3_initSh_o (by omega)).trans ((xv_us_ne _ _ (by omega)).trans ((xv_us_ne _ _ (by omega)).trans ((xv_us_ne _ _ (by omega)).trans ((xv_us_ne _ _ (by omega)).trans ((kX5_initSh_o (by omega)).trans ((xv_us_ne _ _ (by omega)).trans (h v (by omega) (by omega))))))))))))))) fX10_init_98 YX2_init VX2_init lX10_57 rfl rfl (Nat.le_of_ble_eq_true rfl) (by decide) (by decide) (by decide) ?_
  refine xv_putR fX10_init_101 gX10_58 rfl tpF10_10 (by exact hb) (fun _ => ⟨rfl, rfl⟩) ?_
  refine xv_al0 fX10_init_104 ?_
  refine xv_k fX10_init_105 ?_
  refine xv_newI (n := 47) (k9 := 6) (kc' := 8) (ks' := 59) fX10_init_107 xv_ac_int (by exact h 47 (by decide) (by decide)) (by decide) (by decide) (by decide) (by decide) (by decide) ?_
  refine xv_putR fX10_init_109 gX10_62 rfl tpF10_11 (by exact hb) (fun _ => ⟨rfl, rfl⟩) ?_
  refine xv_al0 fX10_init_112 ?_
  refine xv_new (n := 48) (kc' := 7) (ks' := 56) fX10_init_113 nX10_65 (by exact h 48 (by decide) (by decide)) (by decide) (by decide) ?_
  refine xv_dup_r fX10_init_116 ?_
  refine xv_callI0V (c_X9_init _ _ _ J (by rfl) (by exact fun v h1 h2 => (xv_us_ne _ _ (by omega)).trans ((xv_us_ne _ _ (by omega)).trans ((kX2_initSh_o (by omega)).trans ((xv_us_ne _ _ (by omega)).trans ((kX7_initSh_o (by omega)).trans ((xv_us_ne _ _ (by omega)).trans ((kX1_initSh_o (by omega)).trans ((xv_us_ne _ _ (by omega)).trans ((kX3_initSh_o (by omega)).trans ((xv_us_ne _ _ (by omega)).trans ((xv_us_ne _ _ (by omega)).trans ((xv_us_ne _ _ (by omega)).trans ((xv_us_ne _ _ (by omega)).trans ((kX5_initSh_o (by omega)).trans ((xv_us_ne _ _ (by omega)).trans (h v (by omega) (by omega)))))))))))))))))) fX10_init_117 YX9_init VX9_init lX10_67 rfl rfl (Nat.le_of_ble_eq_true rfl) (by decide) (by decide) (by decide) ?_
  refine xv_putR fX10_init_120 gX10_68 rfl tpF10_12 (by exact hb) (fun _ => ⟨rfl, rfl⟩) ?_
  refine xv_al0 fX10_init_123 ?_
  refine xv_new (n := 51) (kc' := 4) (ks' := 28) fX10_init_124 nX10_72 (by exact h 51 (by decide) (by decide)) (by decide) (by decide) ?_
  refine xv_dup_r fX10_init_127 ?_
  refine xv_callI0V (c_X4_init _ _ _ J (by rfl) (by exact fun v h1 h2 => (xv_us_ne _ _ (by omega)).trans ((kX9_initSh_o (by omega)).trans ((xv_us_ne _ _ (by omega)).trans ((xv_us_ne _ _ (by omega)).trans ((kX2_initSh_o (by omega)).trans ((xv_us_ne _ _ (by omega)).trans ((kX7_initSh_o (by omega)).trans ((xv_us_ne _ _ (by omega)).trans ((kX1_initSh_o (by omega)).trans ((xv_us_ne _ _ (by omega)).trans ((kX3_initSh_o (by omega)).trans ((xv_us_ne _ _ (by omega)).trans ((xv_us_ne _ _ (by omega)).trans ((xv_us_ne _ _ (by omega)).trans ((xv_us_ne _ _ (by omega)).trans ((kX5_initSh_o (by omega)).trans ((xv_us_ne _ _ (by omega)).trans (h v (by omega) (by omega)))))))))))))))))))) fX10_init_128 YX4_init VX4_init lX10_74 rfl rfl (Nat.le_of_ble_eq_true rfl) (by decide) (by decide) (by decide) ?_
  refine xv_putR fX10_init_131 gX10_75 rfl tpF10_13 (by exact hb) (fun _ => ⟨rfl, rfl⟩) ?_
  exact xv_vret fX10_init_134 rfl xv_eq_i

theorem kX10_initSh_o {sh : xv_Sh} {v : Nat} (h : v < 1 ∨ 55 < v) : kX10_initSh sh v = sh v := by
  unfold kX10_initSh
  exact (kX4_initSh_o (by omega)).trans ((xv_us_ne _ _ (by omega)).trans ((kX9_initSh_o (by omega)).trans ((xv_us_ne _ _ (by omega)).trans ((xv_us_ne _ _ (by omega)).trans ((kX2_initSh_o (by omega)).trans ((xv_us_ne _ _ (by omega)).trans ((kX7_initSh_o (by omega)).trans ((xv_us_ne _ _ (by omega)).trans ((kX1_initSh_o (by omega)).trans ((xv_us_ne _ _ (by omega)).trans ((kX3_initSh_o (by omega)).trans ((xv_us_ne _ _ (by omega)).trans ((xv_us_ne _ _ (by omega)).trans ((xv_us_ne _ _ (by omega)).trans ((xv_us_ne _ _ (by omega)).trans ((kX5_initSh_o (by omega)).trans ((xv_us_ne _ _ (by omega)).trans (rfl))))))))))))))))))