theorem xv_ms_o {sh : xv_Sh} {o b N K v : Nat} (h : v ≠ o) (h2 : ¬ (b ≤ v ∧ v < b + N)) : xv_ms sh o b N K v = sh v := by
  unfold xv_ms
  rw [if_neg h, if_neg h2]
def kX5_initSh (sh : xv_Sh) : xv_Sh := (xv_us (xv_us (xv_us (xv_us (xv_ms sh 2 3 10 12) 13 (.inr (.inl (.int, 10)))) 14 (.inr (.inl (.boolean, 10)))) 15 (.inr (.inl (.int, 10)))) 16 (.inr (.inl (.int, 10))))
def kX5_initI (I : xv_I) : xv_I := (xv_u (xv_z (xv_z (xv_z (xv_z (xv_mi I 3 10) 13 0) 14 0) 15 0) 16 0) 1 5 (nI 63))
def kX5_initRf (Rf : xv_Rf) : xv_Rf := (xv_u (xv_z (xv_u (xv_z (xv_u (xv_z (xv_u (xv_z (xv_u (xv_mr Rf 2 3 10) 1 0 (some 2)) 13 none) 1 1 (some 13)) 14 none) 1 2 (some 14)) 15 none) 1 3 (some 15)) 16 none) 1 4 (some 16))
theorem c_X5_init (sh : xv_Sh) (I : xv_I) (Rf : xv_Rf) (J : xv_J) (hb : sh 1 = some (.inl 5)) (h : ∀ v, 2 ≤ v → v ≤ 16 → sh v = none) : xv_Met mX5_init 1 15 170 sh I Rf J [.ref 1] (xv_eq (.inl none) (kX5_initSh sh) (kX5_initI I) (kX5_initRf Rf) J) := by
  refine xv_Met.of (by decide +kernel) (Nat.le_of_ble_eq_true rfl) (List.forall_mem_cons.mpr ⟨rfl, fun _ h => nomatch h⟩) ?_
  show xv_W mX5_init 1 15 170 _ 15 170 sh I Rf J 0 [some (.ref 1)] []
  refine xv_al0 fX5_init_0 ?_
  refine xv_obj fX5_init_1 lX5_3 xv_objw (by decide) (by decide) ?_
  refine xv_al0 fX5_init_4 ?_
  refine xv_k fX5_init_5 ?_
  refine xv_k fX5_init_7 ?_
  refine xv_mna (o := 2) (b := 3) (N := 10) (K := 12) (kc' := 4) (ks' := 40) fX5_init_9 kX5_9 xv_ao_a xv_ac_int (by exact h 2 (by decide) (by decide)) (by decide) (by exact fun i hi => h _ (by omega) (by omega)) (by decide) (by decide) (by decide) (by decide) (by decide) (by decide) (by decide) (by decide) ?_
  refine xv_putR fX5_init_13 gX5_11 rfl tpF5_0 (by exact hb) (fun _ => ⟨rfl, rfl⟩) ?_
  refine xv_al0 fX5_init_16 ?_
  refine xv_k fX5_init_17 ?_
  refine xv_newI (n := 13) (k9 := 10) (kc' := 3) (ks' := 30) fX5_init_19 xv_ac_int (by exact h 13 (by decide) (by decide)) (by decide) (by decide) (by decide) (by decide) (by decide) ?_
  refine xv_putR fX5_init_21 gX5_16 rfl tpF5_1 (by exact hb) (fun _ => ⟨rfl, rfl⟩) ?_
  refine xv_al0 fX5_init_24 ?_
  refine xv_k fX5_init_25 ?_
  refine xv_newZ (n := 14) (k9 := 10) (kc' := 2) (ks' := 20) fX5_init_27 xv_ac_boolean (by exact h 14 (by decide) (by decide)) (by decide) (by decide) (by decide) (by decide) (by decide) ?_
  refine xv_putR fX5_init_29 gX5_20 rfl tpF5_2 (by exact hb) (fun _ => ⟨rfl, rfl⟩) ?_
  refine xv_al0 fX5_init_32 ?_
  refine xv_k fX5_init_33 ?_
  refine xv_newI (n := 15) (k9 := 10) (kc' := 1) (ks' := 10) fX5_init_35 xv_ac_int (by exact h 15 (by decide) (by decide)) (by decide) (by decide) (by decide) (by decide) (by decide) ?_
  refine xv_putR fX5_init_37 gX5_24 rfl tpF5_3 (by exact hb) (fun _ => ⟨rfl, rfl⟩) ?_
  refine xv_al0 fX5_init_40 ?_
  refine xv_k fX5_init_41 ?_
  refine xv_newI (n := 16) (k9 := 10) (kc' := 0) (ks' := 0) fX5_init_43 xv_ac_int (by exact h 16 (by decide) (by decide)) (by decide) (by decide) (by decide) (by decide) (by decide) ?_
  refine xv_putR fX5_init_45 gX5_27 rfl tpF5_4 (by exact hb) (fun _ => ⟨rfl, rfl⟩) ?_
  refine xv_al0 fX5_init_48 ?_
  refine xv_k fX5_init_49 ?_
  refine xv_putI fX5_init_51 gX5_30 rfl (tp5_5 _) (by exact hb) ⟨rfl, rfl⟩ ?_
  exact xv_vret fX5_init_54 rfl xv_eq_i

theorem kX5_initSh_o {sh : xv_Sh} {v : Nat} (h : v < 2 ∨ 16 < v) : kX5_initSh sh v = sh v := by
  unfold kX5_initSh
  exact (xv_us_ne _ _ (by omega)).trans ((xv_us_ne _ _ (by omega)).trans ((xv_us_ne _ _ (by omega)).trans ((xv_us_ne _ _ (by omega)).trans ((xv_ms_o (by omega) (by omega)).trans (rfl)))))
def kX1_initSh (sh : xv_Sh) : xv_Sh := (xv_us (xv_us (xv_ms sh 30 31 8 120) 39 (.inr (.inl (.int, 8)))) 40 (.inr (.inl (.int, 5))))
def kX1_initI (I : xv_I) : xv_I := (xv_z (xv_z (xv_mi I 31 8) 39 0) 40 0)
def kX1_initRf (Rf : xv_Rf) : xv_Rf := (xv_u (xv_z (xv_u (xv_z (xv_u (xv_mr Rf 30 31 8) 29 0 (some 30)) 39 none) 29 1 (some 39)) 40 none) 29 3 (some 40))
theorem c_X1_init (sh : xv_Sh) (I : xv_I) (Rf : xv_Rf) (J : xv_J) (hb : sh 29 = some (.inl 1)) (h : ∀ v, 30 ≤ v → v ≤ 40 → sh v = none) : xv_Met mX1_init 1 11 981 sh I Rf J [.ref 29] (xv_eq (.inl none) (kX1_initSh sh) (kX1_initI I) (kX1_initRf Rf) J) := by
  refine xv_Met.of (by decide +kernel) (Nat.le_of_ble_eq_true rfl) (List.forall_mem_cons.mpr ⟨rfl, fun _ h => nomatch h⟩) ?_
  show xv_W mX1_init 1 11 981 _ 11 981 sh I Rf J 0 [some (.ref 29)] []
  refine xv_al0 fX1_init_0 ?_
  refine xv_obj fX1_init_1 lX1_3 xv_objw (by decide) (by decide) ?_
  refine xv_al0 fX1_init_4 ?_
  refine xv_k fX1_init_5 ?_
  refine xv_k fX1_init_7 ?_
  refine xv_mna (o := 30) (b := 31) (N := 8) (K := 120) (kc' := 2) (ks' := 13) fX1_init_9 kX1_9 xv_ao_a xv_ac_int (by exact h 30 (by decide) (by decide)) (by decide) (by exact fun i hi => h _ (by omega) (by omega)) (by decide) (by decide) (by decide) (by decide) (by decide) (by decide) (by decide) (by decide) ?_
  refine xv_putR fX1_init_13 gX1_11 rfl tpF1_0 (by exact hb) (fun _ => ⟨rfl, rfl⟩) ?_
  refine xv_al0 fX1_init_16 ?_
  refine xv_k fX1_init_17 ?_
  refine xv_newI (n := 39) (k9 := 8) (kc' := 1) (ks' := 5) fX1_init_19 xv_ac_int (by exact h 39 (by decide) (by decide)) (by decide) (by decide) (by decide) (by decide) (by decide) ?_
  refine xv_putR fX1_init_21 gX1_16 rfl tpF1_1 (by exact hb) (fun _ => ⟨rfl, rfl⟩) ?_
  refine xv_al0 fX1_init_24 ?_
  refine xv_k fX1_init_25 ?_
  refine xv_newI (n := 40) (k9 := 5) (kc' := 0) (ks' := 0) fX1_init_26 xv_ac_int (by exact h 40 (by decide) (by decide)) (by decide) (by decide) (by decide) (by decide) (by decide) ?_
  refine xv_putR fX1_init_28 gX1_20 rfl tpF1_3 (by exact hb) (fun _ => ⟨rfl, rfl⟩) ?_
  exact xv_vret fX1_init_31 rfl xv_eq_i

theorem kX1_initSh_o {sh : xv_Sh} {v : Nat} (h : v < 30 ∨ 40 < v) : kX1_initSh sh v = sh v := by
  unfold kX1_initSh
  exact (xv_us_ne _ _ (by omega)).trans ((xv_us_ne _ _ (by omega)).trans ((xv_ms_o (by omega) (by omega)).trans (rfl)))
def kX7_initSh (sh : xv_Sh) : xv_Sh := (xv_us (xv_us sh 42 (.inr (.inl (.int, 6)))) 43 (.inr (.inl (.int, 6))))
def kX7_initI (I : xv_I) : xv_I := (xv_z (xv_z I 42 0) 43 0)
def kX7_initRf (Rf : xv_Rf) : xv_Rf := (xv_u (xv_z (xv_u (xv_z Rf 42 none) 41 0 (some 42)) 43 none) 41 1 (some 43))
theorem c_X7_init (sh : xv_Sh) (I : xv_I) (Rf : xv_Rf) (J : xv_J) (hb : sh 41 = some (.inl 7)) (h : ∀ v, 42 ≤ v → v ≤ 43 → sh v = none) : xv_Met mX7_init 1 2 12 sh I Rf J [.ref 41] (xv_eq (.inl none) (kX7_initSh sh) (kX7_initI I) (kX7_initRf Rf) J) := by
  refine xv_Met.of (by decide +kernel) (Nat.le_of_ble_eq_true rfl) (List.forall_mem_cons.mpr ⟨rfl, fun _ h => nomatch h⟩) ?_
  show xv_W mX7_init 1 2 12 _ 2 12 sh I Rf J 0 [some (.ref 41)] []
  refine xv_al0 fX7_init_0 ?_
  refine xv_obj fX7_init_1 lX7_3 xv_objw (by decide) (by decide) ?_
  refine xv_al0 fX7_init_4 ?_
  refine xv_k fX7_init_5 ?_
  refine xv_newI (n := 42) (k9 := 6) (kc' := 1) (ks' := 6) fX7_init_7 xv_ac_int (by exact h 42 (by decide) (by decide)) (by decide) (by decide) (by decide) (by decide) (by decide) ?_
  refine xv_putR fX7_init_9 gX7_9 rfl tpF7_0 (by exact hb) (fun _ => ⟨rfl, rfl⟩) ?_
  refine xv_al0 fX7_init_12 ?_
  refine xv_k fX7_init_13 ?_
  refine xv_newI (n := 43) (k9 := 6) (kc' := 0) (ks' := 0) fX7_init_15 xv_ac_int (by exact h 43 (by decide) (by decide)) (by decide) (by decide) (by decide) (by decide) (by decide) ?_
  refine xv_putR fX7_init_17 gX7_15 rfl tpF7_1 (by exact hb) (fun _ => ⟨rfl, rfl⟩) ?_
  exact xv_vret fX7_init_20 rfl xv_eq_i

theorem kX7_initSh_o {sh : xv_Sh} {v : Nat} (h : v < 42 ∨ 43 < v) : kX7_initSh sh v = sh v := by
  unfold kX7_initSh
  exact (xv_us_ne _ _ (by omega)).trans ((xv_us_ne _ _ (by omega)).trans (rfl))
def kX2_initSh (sh : xv_Sh) : xv_Sh := (xv_us (xv_us sh 45 (.inr (.inl (.int, 5)))) 46 (.inr (.inl (.int, 5))))
def kX2_initI (I : xv_I) : xv_I := (xv_z (xv_z I 45 0) 46 0)
def kX2_initRf (Rf : xv_Rf) : xv_Rf := (xv_u (xv_z (xv_u (xv_z Rf 45 none) 44 0 (some 45)) 46 none) 44 1 (some 46))
theorem c_X2_init (sh : xv_Sh) (I : xv_I) (Rf : xv_Rf) (J : xv_J) (hb : sh 44 = some (.inl 2)) (h : ∀ v, 45 ≤ v → v ≤ 46 → sh v = none) : xv_Met mX2_init 1 2 10 sh I Rf J [.ref 44] (xv_eq (.inl none) (kX2_initSh sh) (kX2_initI I) (kX2_initRf Rf) J) := by
  refine xv_Met.of (by decide +kernel) (Nat.le_of_ble_eq_true rfl) (List.forall_mem_cons.mpr ⟨rfl, fun _ h => nomatch h⟩) ?_
  show xv_W mX2_init 1 2 10 _ 2 10 sh I Rf J 0 [some (.ref 44)] []
  refine xv_al0 fX2_init_0 ?_
  refine xv_obj fX2_init_1 lX2_3 xv_objw (by decide) (by decide) ?_
  refine xv_al0 fX2_init_4 ?_
  refine xv_k fX2_init_5 ?_
  refine xv_newI (n := 45) (k9 := 5) (kc' := 1) (ks' := 5) fX2_init_6 xv_ac_int (by exact h 45 (by decide) (by decide)) (by decide) (by decide) (by decide) (by decide) (by decide) ?_
  refine xv_putR fX2_init_8 gX2_9 rfl tpF2_0 (by exact hb) (fun _ => ⟨rfl, rfl⟩) ?_
  refine xv_al0 fX2_init_11 ?_
  refine xv_k fX2_init_12 ?_
  refine xv_newI (n := 46) (k9 := 5) (kc' := 0) (ks' := 0) fX2_init_13 xv_ac_int (by exact h 46 (by decide) (by decide)) (by decide) (by decide) (by decide) (by decide) (by decide) ?_
  refine xv_putR fX2_init_15 gX2_15 rfl tpF2_1 (by exact hb) (fun _ => ⟨rfl, rfl⟩) ?_
  exact xv_vret fX2_init_18 rfl xv_eq_i

theorem kX2_initSh_o {sh : xv_Sh} {v : Nat} (h : v < 45 ∨ 46 < v) : kX2_initSh sh v = sh v := by
  unfold kX2_initSh
  exact (xv_us_ne _ _ (by omega)).trans ((xv_us_ne _ _ (by omega)).trans (rfl))
def kX9_initSh (sh : xv_Sh) : xv_Sh := (xv_us (xv_us sh 49 (.inr (.inl (.int, 12)))) 50 (.inr (.inl (.int, 12))))
def kX9_initI (I : xv_I) : xv_I := (xv_z (xv_z I 49 0) 50 0)
def kX9_initRf (Rf : xv_Rf) : xv_Rf := (xv_u (xv_z (xv_u (xv_z Rf 49 none) 48 0 (some 49)) 50 none) 48 1 (some 50))
theorem c_X9_init (sh : xv_Sh) (I : xv_I) (Rf : xv_Rf) (J : xv_J) (hb : sh 48 = some (.inl 9)) (h : ∀ v, 49 ≤ v → v ≤ 50 → sh v = none) : xv_Met mX9_init 1 2 24 sh I Rf J [.ref 48] (xv_eq (.inl none) (kX9_initSh sh) (kX9_initI I) (kX9_initRf Rf) J) := by
  refine xv_Met.of (by decide +kernel) (Nat.le_of_ble_eq_true rfl) (List.forall_mem_cons.mpr ⟨rfl, fun _ h => nomatch h⟩) ?_
  show xv_W mX9_init 1 2 24 _ 2 24 sh I Rf J 0 [some (.ref 48)] []
  refine xv_al0 fX9_init_0 ?_
  refine xv_obj fX9_init_1 lX9_3 xv_objw (by decide) (by decide) ?_
  refine xv_al0 fX9_init_4 ?_
  refine xv_k fX9_init_5 ?_
  refine xv_newI (n := 49) (k9 := 12) (kc' := 1) (ks' := 12) fX9_init_7 xv_ac_int (by exact h 49 (by decide) (by decide)) (by decide) (by decide) (by decide) (by decide) (by decide) ?_
  refine xv_putR fX9_init_9 gX9_9 rfl tpF9_0 (by exact hb) (fun _ => ⟨rfl, rfl⟩) ?_
  refine xv_al0 fX9_init_12 ?_
  refine xv_k fX9_init_13 ?_
  refine xv_newI (n := 50) (k9 := 12) (kc' := 0) (ks' := 0) fX9_init_15 xv_ac_int (by exact h 50 (by decide) (by decide)) (by decide) (by decide) (by decide) (by decide) (by decide) ?_
  refine xv_putR fX9_init_17 gX9_15 rfl tpF9_1 (by exact hb) (fun _ => ⟨rfl, rfl⟩) ?_
  exact xv_vret fX9_init_20 rfl xv_eq_i

theorem kX9_initSh_o {sh : xv_Sh} {v : Nat} (h : v < 49 ∨ 50 < v) : kX9_initSh sh v = sh v := by
  unfold kX9_initSh
  exact (xv_us_ne _ _ (by omega)).trans ((xv_us_ne _ _ (by omega)).trans (rfl))
def kX4_initSh (sh : xv_Sh) : xv_Sh := (xv_us (xv_us (xv_us (xv_us sh 52 (.inr (.inl (.int, 16)))) 53 (.inr (.inl (.int, 4)))) 54 (.inr (.inl (.int, 4)))) 55 (.inr (.inl (.int, 4))))
def kX4_initI (I : xv_I) : xv_I := (xv_z (xv_z (xv_z (xv_z I 52 0) 53 0) 54 0) 55 0)
def kX4_initRf (Rf : xv_Rf) : xv_Rf := (xv_u (xv_z (xv_u (xv_z (xv_u (xv_z (xv_u (xv_z Rf 52 none) 51 0 (some 52)) 53 none) 51 1 (some 53)) 54 none) 51 2 (some 54)) 55 none) 51 3 (some 55))
theorem c_X4_init (sh : xv_Sh) (I : xv_I) (Rf : xv_Rf) (J : xv_J) (hb : sh 51 = some (.inl 4)) (h : ∀ v, 52 ≤ v → v ≤ 55 → sh v = none) : xv_Met mX4_init 1 4 28 sh I Rf J [.ref 51] (xv_eq (.inl none) (kX4_initSh sh) (kX4_initI I) (kX4_initRf Rf) J) := by
  refine xv_Met.of (by decide +kernel) (Nat.le_of_ble_eq_true rfl) (List.forall_mem_cons.mpr ⟨rfl, fun _ h => nomatch h⟩) ?_
  show xv_W mX4_init 1 4 28 _ 4 28 sh I Rf J 0 [some (.ref 51)] []
  refine xv_al0 fX4_init_0 ?_
  refine xv_obj fX4_init_1 lX4_3 xv_objw (by decide) (by decide) ?_
  refine xv_al0 fX4_init_4 ?_
  refine xv_k fX4_init_5 ?_
  refine xv_newI (n := 52) (k9 := 16) (kc' := 3) (ks' := 12) fX4_init_7 xv_ac_int (by exact h 52 (by decide) (by decide)) (by decide) (by decide) (by decide) (by decide) (by decide) ?_
  refine xv_putR fX4_init_9 gX4_9 rfl tpF4_0 (by exact hb) (fun _ => ⟨rfl, rfl⟩) ?_
  refine xv_al0 fX4_init_12 ?_
  refine xv_k fX4_init_13 ?_
  refine xv_newI (n := 53) (k9 := 4) (kc' := 2) (ks' := 8) fX4_init_14 xv_ac_int (by exact h 53 (by decide) (by decide)) (by decide) (by decide) (by decide) (by decide) (by decide) ?_
  refine xv_putR fX4_init_16 gX4_15 rfl tpF4_1 (by exact hb) (fun _ => ⟨rfl, rfl⟩) ?_
  refine xv_al0 fX4_init_19 ?_
  refine xv_k fX4_init_20 ?_
  refine xv_newI (n := 54) (k9 := 4) (kc' := 1) (ks' := 4) fX4_init_21 xv_ac_int (by exact h 54 (by decide) (by decide)) (by decide) (by decide) (by decide) (by decide) (by decide) ?_
  refine xv_putR fX4_init_23 gX4_18 rfl tpF4_2 (by exact hb) (fun _ => ⟨rfl, rfl⟩) ?_
  refine xv_al0 fX4_init_26 ?_
  refine xv_k fX4_init_27 ?_
  refine xv_newI (n := 55) (k9 := 4) (kc' := 0) (ks' := 0) fX4_init_28 xv_ac_int (by exact h 55 (by decide) (by decide)) (by decide) (by decide) (by decide) (by decide) (by decide) ?_
  refine xv_putR fX4_init_30 gX4_21 rfl tpF4_3 (by exact hb) (fun _ => ⟨rfl, rfl⟩) ?_
  exact xv_vret fX4_init_33 rfl xv_eq_i

theorem kX4_initSh_o {sh : xv_Sh} {v : Nat} (h : v < 52 ∨ 55 < v) : kX4_initSh sh v = sh v := by
  unfold kX4_initSh
  exact (xv_us_ne _ _ (by omega)).trans ((xv_us_ne _ _ (by omega)).trans ((xv_us_ne _ _ (by omega)).trans ((xv_us_ne _ _ (by omega)).trans (rfl))))
def kX3_initSh (sh : xv_Sh) : xv_Sh := (wSh (xv_us (wSh (xv_us sh 21 (.inl 8)) 21) 25 (.inl 8)) 25)
def kX3_initI (I : xv_I) : xv_I := (wI (xv_z (wI (xv_z I 21 0) 21) 25 0) 25)
def kX3_initRf (Rf : xv_Rf) : xv_Rf := (xv_u (wRf (xv_z (xv_u (wRf (xv_z (xv_u Rf 20 0 (some 1)) 21 none) 21) 20 1 (some 21)) 25 none) 25) 20 2 (some 25))
theorem c_X3_init (sh : xv_Sh) (I : xv_I) (Rf : xv_Rf) (J : xv_J) (hb : sh 20 = some (.inl 3)) (h : ∀ v, 21 ≤ v → v ≤ 28 → sh v = none) : xv_Met mX3_init 2 8 20 sh I Rf J [.ref 20, .ref 1] (xv_eq (.inl none) (kX3_initSh sh) (kX3_initI I) (kX3_initRf Rf) J) := by
  refine xv_Met.of (by decide +kernel) (Nat.le_of_ble_eq_true rfl) (List.forall_mem_cons.mpr ⟨rfl, List.forall_mem_cons.mpr ⟨rfl, fun _ h => nomatch h⟩⟩) ?_
  show xv_W mX3_init 2 8 20 _ 8 20 sh I Rf J 0 [some (.ref 20), some (.ref 1)] []
  refine xv_al0 fX3_init_0 ?_
  refine xv_obj fX3_init_1 lX3_3 xv_objw (by decide) (by decide) ?_
  refine xv_al0 fX3_init_4 ?_
  refine xv_al1 fX3_init_5 ?_
  refine xv_putR fX3_init_6 gX3_9 rfl tpF3_0 (by exact hb) (fun _ => ⟨rfl, rfl⟩) ?_
  refine xv_al0 fX3_init_9 ?_
  refine xv_new (n := 21) (kc' := 7) (ks' := 16) fX3_init_10 nX3_15 (by exact h 21 (by decide) (by decide)) (by decide) (by decide) ?_
  refine xv_dup_r fX3_init_13 ?_
  refine xv_callI0V (c_wayInit _ _ _ J (b := 21) (by rfl) (by exact h 22 (by decide) (by decide)) (by exact h 23 (by decide) (by decide)) (by exact h 24 (by decide) (by decide))) fX3_init_14 YX8_init VX8_init lX3_17 rfl rfl (Nat.le_of_ble_eq_true rfl) (by decide) (by decide) (by decide) ?_
  refine xv_putR fX3_init_17 gX3_18 rfl tpF3_1 (by exact hb) (fun _ => ⟨rfl, rfl⟩) ?_
  refine xv_al0 fX3_init_20 ?_
  refine xv_new (n := 25) (kc' := 3) (ks' := 6) fX3_init_21 nX3_15 (by exact h 25 (by decide) (by decide)) (by decide) (by decide) ?_
  refine xv_dup_r fX3_init_24 ?_
  refine xv_callI0V (c_wayInit _ _ _ J (b := 25) (by rfl) (by exact h 26 (by decide) (by decide)) (by exact h 27 (by decide) (by decide)) (by exact h 28 (by decide) (by decide))) fX3_init_25 YX8_init VX8_init lX3_17 rfl rfl (Nat.le_of_ble_eq_true rfl) (by decide) (by decide) (by decide) ?_
  refine xv_putR fX3_init_28 gX3_22 rfl tpF3_2 (by exact hb) (fun _ => ⟨rfl, rfl⟩) ?_
  exact xv_vret fX3_init_31 rfl xv_eq_i

theorem kX3_initSh_o {sh : xv_Sh} {v : Nat} (h : v < 21 ∨ 28 < v) : kX3_initSh sh v = sh v := by
  unfold kX3_initSh
  exact (wSh_o (by omega)).trans ((xv_us_ne _ _ (by omega)).trans ((wSh_o (by omega)).trans ((xv_us_ne _ _ (by omega)).trans (rfl))))
def kX10_initSh (sh : xv_Sh) : xv_Sh := (kX4_initSh (xv_us (kX9_initSh (xv_us (xv_us (kX2_initSh (xv_us (kX7_initSh (xv_us (kX1_initSh (xv_us (kX3_initSh (xv_us (xv_us (xv_us (xv_us (kX5_initSh (xv_us sh 1 (.inl 5))) 17 (.inr (.inl (.int, 4)))) 18 (.inr (.inl (.object "PressHall$Advert", 20)))) 19 (.inr (.inl (.object "PressHall$Story", 20)))) 20 (.inl 3))) 29 (.inl 1))) 41 (.inl 7))) 44 (.inl 2))) 47 (.inr (.inl (.int, 6)))) 48 (.inl 9))) 51 (.inl 4)))
def kX10_initI (I : xv_I) : xv_I := (kX4_initI (xv_z (kX9_initI (xv_z (xv_z (kX2_initI (xv_z (kX7_initI (xv_z (kX1_initI (xv_z (kX3_initI (xv_z (xv_u (xv_u (xv_u (xv_u (xv_z (kX5_initI (xv_z I 1 0)) 17 0) 17 0 (nI 1)) 17 1 (nI 1)) 17 2 (nI 1)) 17 3 (nI 1)) 20 0)) 29 0)) 41 0)) 44 0)) 47 0) 48 0)) 51 0))
def kX10_initRf (Rf : xv_Rf) : xv_Rf := (xv_u (kX4_initRf (xv_z (xv_u (kX9_initRf (xv_z (xv_u (xv_z (xv_u (kX2_initRf (xv_z (xv_u (kX7_initRf (xv_z (xv_u (kX1_initRf (xv_z (xv_u (kX3_initRf (xv_z (xv_u (xv_z (xv_u (xv_z (xv_u (xv_z (xv_u (kX5_initRf (xv_z Rf 1 none)) 0 0 (some 1)) 17 none) 0 1 (some 17)) 18 none) 0 2 (some 18)) 19 none) 0 4 (some 19)) 20 none)) 0 6 (some 20)) 29 none)) 0 7 (some 29)) 41 none)) 0 8 (some 41)) 44 none)) 0 10 (some 44)) 47 none) 0 11 (some 47)) 48 none)) 0 12 (some 48)) 51 none)) 0 13 (some 51))
theorem c_X10_init (sh : xv_Sh) (I : xv_I) (Rf : xv_Rf) (J : xv_J) (hb : sh 0 = some (.inl 10)) (h : ∀ v, 1 ≤ v → v ≤ 55 → sh v = none) : xv_Met mX10_init 3 55 1326 sh I Rf J [.ref 0] (xv_eq (.inl none) (kX10_initSh sh) (kX10_initI I) (kX10_initRf Rf) J) := by
  refine xv_Met.of (by decide +kernel) (Nat.le_of_ble_eq_true rfl) (List.forall_mem_cons.mpr ⟨rfl, fun _ h => nomatch h⟩) ?_
  show xv_W mX10_init 3 55 1326 _ 55 1326 sh I Rf J 0 [some (.ref 0)] []
  refine xv_al0 fX10_init_0 ?_
  refine xv_obj fX10_init_1 lX10_1 xv_objw (by decide) (by decide) ?_
  refine xv_al0 fX10_init_4 ?_
  refine xv_new (n := 1) (kc' := 54) (ks' := 1319) fX10_init_5 nX10_7 (by exact h 1 (by decide) (by decide)) (by decide) (by decide) ?_
  refine xv_dup_r fX10_init_8 ?_
  refine xv_callI0V (c_X5_init _ _ _ J (by rfl) (by exact fun v h1 h2 => (xv_us_ne _ _ (by omega)).trans (h v (by omega) (by omega)))) fX10_init_9 YX5_init VX5_init lX10_9 rfl rfl (Nat.le_of_ble_eq_true rfl) (by decide) (by decide) (by decide) ?_
  refine xv_putR fX10_init_12 gX10_10 rfl tpF10_0 (by exact hb) (fun _ => ⟨rfl, rfl⟩) ?_
  refine xv_al0 fX10_init_15 ?_
  refine xv_k fX10_init_16 ?_
  refine xv_newI (n := 17) (k9 := 4) (kc' := 38) (ks' := 1145) fX10_init_17 xv_ac_int (by exact h 17 (by decide) (by decide)) (by decide) (by decide) (by decide) (by decide) (by decide) ?_
  refine xv_dup_r fX10_init_19 ?_
  refine xv_k fX10_init_20 ?_
  refine xv_k fX10_init_21 ?_
  refine xv_iastN fX10_init_22 (by rfl) (⟨by decide, by decide⟩) ?_
  refine xv_dup_r fX10_init_23 ?_
  refine xv_k fX10_init_24 ?_
  refine xv_k fX10_init_25 ?_
  refine xv_iastN fX10_init_26 (by rfl) (⟨by decide, by decide⟩) ?_
  refine xv_dup_r fX10_init_27 ?_
  refine xv_k fX10_init_28 ?_
  refine xv_k fX10_init_29 ?_
  refine xv_iastN fX10_init_30 (by rfl) (⟨by decide, by decide⟩) ?_
  refine xv_dup_r fX10_init_31 ?_
  refine xv_k fX10_init_32 ?_
  refine xv_k fX10_init_33 ?_
  refine xv_iastN fX10_init_34 (by rfl) (⟨by decide, by decide⟩) ?_
  refine xv_putR fX10_init_35 gX10_16 rfl tpF10_1 (by exact hb) (fun _ => ⟨rfl, rfl⟩) ?_
  refine xv_al0 fX10_init_38 ?_
  refine xv_k fX10_init_39 ?_
  refine xv_anew (n := 18) (k9 := 20) (kc' := 37) (ks' := 1125) fX10_init_41 kX10_20 xv_ao_0 (by exact h 18 (by decide) (by decide)) (by decide) (by decide) (by decide) (by decide) (by decide) ?_
  refine xv_putR fX10_init_44 gX10_22 rfl tpF10_2 (by exact hb) (fun _ => ⟨rfl, rfl⟩) ?_
  refine xv_al0 fX10_init_47 ?_
  refine xv_k fX10_init_48 ?_
  refine xv_anew (n := 19) (k9 := 20) (kc' := 36) (ks' := 1105) fX10_init_50 kX10_26 xv_ao_6 (by exact h 19 (by decide) (by decide)) (by decide) (by decide) (by decide) (by decide) (by decide) ?_
  refine xv_putR fX10_init_53 gX10_28 rfl tpF10_4 (by exact hb) (fun _ => ⟨rfl, rfl⟩) ?_
  refine xv_al0 fX10_init_56 ?_
  refine xv_new (n := 20) (kc' := 35) (ks' := 1099) fX10_init_57 nX10_32 (by exact h 20 (by decide) (by decide)) (by decide) (by decide) ?_
  refine xv_dup_r fX10_init_60 ?_
  refine xv_al0 fX10_init_61 ?_
  refine xv_getR fX10_init_62 gX10_10 rfl (by exact hb) (by rfl) ?_
  refine xv_callI1V (c_X3_init _ _ _ J (by rfl) (by exact fun v h1 h2 => (xv_us_ne _ _ (by omega)).trans ((xv_us_ne _ _ (by omega)).trans ((xv_us_ne _ _ (by omega)).trans ((xv_us_ne _ _ (by omega)).trans ((kX5_initSh_o (by omega)).trans ((xv_us_ne _ _ (by omega)).trans (h v (by omega) (by omega))))))))) fX10_init_65 YX3_init VX3_init lX10_34 rfl rfl (Nat.le_of_ble_eq_true rfl) (by decide) (by decide) (by decide) ?_
  refine xv_putR fX10_init_68 gX10_37 rfl tpF10_6 (by exact hb) (fun _ => ⟨rfl, rfl⟩) ?_
  refine xv_al0 fX10_init_71 ?_
  refine xv_new (n := 29) (kc' := 26) (ks' := 1074) fX10_init_72 nX10_41 (by exact h 29 (by decide) (by decide)) (by decide) (by decide) ?_
  refine xv_dup_r fX10_init_75 ?_
  refine xv_callI0V (c_X1_init _ _ _ J (by rfl) (by exact fun v h1 h2 => (xv_us_ne _ _ (by omega)).trans ((kX3_initSh_o (by omega)).trans ((xv_us_ne _ _ (by omega)).trans ((xv_us_ne _ _ (by omega)).trans ((xv_us_ne _ _ (by omega)).trans ((xv_us_ne _ _ (by omega)).trans ((kX5_initSh_o (by omega)).trans ((xv_us_ne _ _ (by omega)).trans (h v (by omega) (by omega))))))))))) fX10_init_76 YX1_init VX1_init lX10_43 rfl rfl (Nat.le_of_ble_eq_true rfl) (by decide) (by decide) (by decide) ?_
  refine xv_putR fX10_init_79 gX10_44 rfl tpF10_7 (by exact hb) (fun _ => ⟨rfl, rfl⟩) ?_
  refine xv_al0 fX10_init_82 ?_
  refine xv_new (n := 41) (kc' := 14) (ks' := 90) fX10_init_83 nX10_48 (by exact h 41 (by decide) (by decide)) (by decide) (by decide) ?_
  refine xv_dup_r fX10_init_86 ?_
  refine xv_callI0V (c_X7_init _ _ _ J (by rfl) (by exact fun v h1 h2 => (xv_us_ne _ _ (by omega)).trans ((kX1_initSh_o (by omega)).trans ((xv_us_ne _ _ (by omega)).trans ((kX3_initSh_o (by omega)).trans ((xv_us_ne _ _ (by omega)).trans ((xv_us_ne _ _ (by omega)).trans ((xv_us_ne _ _ (by omega)).trans ((xv_us_ne _ _ (by omega)).trans ((kX5_initSh_o (by omega)).trans ((xv_us_ne _ _ (by omega)).trans (h v (by omega) (by omega))))))))))))) fX10_init_87 YX7_init VX7_init lX10_50 rfl rfl (Nat.le_of_ble_eq_true rfl) (by decide) (by decide) (by decide) ?_
  refine xv_putR fX10_init_90 gX10_51 rfl tpF10_8 (by exact hb) (fun _ => ⟨rfl, rfl⟩) ?_
  refine xv_al0 fX10_init_93 ?_
  refine xv_new (n := 44) (kc' := 11) (ks' := 75) fX10_init_94 nX10_55 (by exact h 44 (by decide) (by decide)) (by decide) (by decide) ?_
  refine xv_dup_r fX10_init_97 ?_
  refine xv_callI0V (c_X2_init _ _ _ J (by rfl) (by exact fun v h1 h2 => (xv_us_ne _ _ (by omega)).trans ((kX7_initSh_o (by omega)).trans ((xv_us_ne _ _ (by omega)).trans ((kX1_initSh_o (by omega)).trans ((xv_us_ne _ _ (by omega)).trans ((kX3_initSh_o (by omega)).trans ((xv_us_ne _ _ (by omega)).trans ((xv_us_ne _ _ (by omega)).trans ((xv_us_ne _ _ (by omega)).trans ((xv_us_ne _ _ (by omega)).trans ((kX5_initSh_o (by omega)).trans ((xv_us_ne _ _ (by omega)).trans (h v (by omega) (by omega))))))))))))))) fX10_init_98 YX2_init VX2_init lX10_57 rfl rfl (Nat.le_of_ble_eq_true rfl) (by decide) (by decide) (by decide) ?_
  refine xv_putR fX10_init_101 gX10_58 rfl tpF10_10 (by exact hb) (fun _ => ⟨rfl, rfl⟩) ?_
  refine xv_al0 fX10_init_104 ?_
  refine xv_k fX10_init_105 ?_
  refine xv_newI (n := 47) (k9 := 6) (kc' := 8) (ks' := 59) fX10_init_107 xv_ac_int (by exact h 47 (by decide) (by decide)) (by decide) (by decide) (by decide) (by decide) (by decide) ?_
  refine xv_putR fX10_init_109 gX10_62 rfl tpF10_11 (by exact hb) (fun _ => ⟨rfl, rfl⟩) ?_
  refine xv_al0 fX10_init_112 ?_
  refine xv_new (n := 48) (kc' := 7) (ks' := 56) fX10_init_113 nX10_65 (by exact h 48 (by decide) (by decide)) (by decide) (by decide) ?_
  refine xv_dup_r fX10_init_116 ?_
  refine xv_callI0V (c_X9_init _ _ _ J (by rfl) (by exact fun v h1 h2 => (xv_us_ne _ _ (by omega)).trans ((xv_us_ne _ _ (by omega)).trans ((kX2_initSh_o (by omega)).trans ((xv_us_ne _ _ (by omega)).trans ((kX7_initSh_o (by omega)).trans ((xv_us_ne _ _ (by omega)).trans ((kX1_initSh_o (by omega)).trans ((xv_us_ne _ _ (by omega)).trans ((kX3_initSh_o (by omega)).trans ((xv_us_ne _ _ (by omega)).trans ((xv_us_ne _ _ (by omega)).trans ((xv_us_ne _ _ (by omega)).trans ((xv_us_ne _ _ (by omega)).trans ((kX5_initSh_o (by omega)).trans ((xv_us_ne _ _ (by omega)).trans (h v (by omega) (by omega)))))))))))))))))) fX10_init_117 YX9_init VX9_init lX10_67 rfl rfl (Nat.le_of_ble_eq_true rfl) (by decide) (by decide) (by decide) ?_
  refine xv_putR fX10_init_120 gX10_68 rfl tpF10_12 (by exact hb) (fun _ => ⟨rfl, rfl⟩) ?_
  refine xv_al0 fX10_init_123 ?_
  refine xv_new (n := 51) (kc' := 4) (ks' := 28) fX10_init_124 nX10_72 (by exact h 51 (by decide) (by decide)) (by decide) (by decide) ?_
  refine xv_dup_r fX10_init_127 ?_
  refine xv_callI0V (c_X4_init _ _ _ J (by rfl) (by exact fun v h1 h2 => (xv_us_ne _ _ (by omega)).trans ((kX9_initSh_o (by omega)).trans ((xv_us_ne _ _ (by omega)).trans ((xv_us_ne _ _ (by omega)).trans ((kX2_initSh_o (by omega)).trans ((xv_us_ne _ _ (by omega)).trans ((kX7_initSh_o (by omega)).trans ((xv_us_ne _ _ (by omega)).trans ((kX1_initSh_o (by omega)).trans ((xv_us_ne _ _ (by omega)).trans ((kX3_initSh_o (by omega)).trans ((xv_us_ne _ _ (by omega)).trans ((xv_us_ne _ _ (by omega)).trans ((xv_us_ne _ _ (by omega)).trans ((xv_us_ne _ _ (by omega)).trans ((kX5_initSh_o (by omega)).trans ((xv_us_ne _ _ (by omega)).trans (h v (by omega) (by omega)))))))))))))))))))) fX10_init_128 YX4_init VX4_init lX10_74 rfl rfl (Nat.le_of_ble_eq_true rfl) (by decide) (by decide) (by decide) ?_
  refine xv_putR fX10_init_131 gX10_75 rfl tpF10_13 (by exact hb) (fun _ => ⟨rfl, rfl⟩) ?_
  exact xv_vret fX10_init_134 rfl xv_eq_i

theorem kX10_initSh_o {sh : xv_Sh} {v : Nat} (h : v < 1 ∨ 55 < v) : kX10_initSh sh v = sh v := by
  unfold kX10_initSh
  exact (kX4_initSh_o (by omega)).trans ((xv_us_ne _ _ (by omega)).trans ((kX9_initSh_o (by omega)).trans ((xv_us_ne _ _ (by omega)).trans ((xv_us_ne _ _ (by omega)).trans ((kX2_initSh_o (by omega)).trans ((xv_us_ne _ _ (by omega)).trans ((kX7_initSh_o (by omega)).trans ((xv_us_ne _ _ (by omega)).trans ((kX1_initSh_o (by omega)).trans ((xv_us_ne _ _ (by omega)).trans ((kX3_initSh_o (by omega)).trans ((xv_us_ne _ _ (by omega)).trans ((xv_us_ne _ _ (by omega)).trans ((xv_us_ne _ _ (by omega)).trans ((xv_us_ne _ _ (by omega)).trans ((kX5_initSh_o (by omega)).trans ((xv_us_ne _ _ (by omega)).trans (rfl))))))))))))))))))
theorem l_mInit   (sh : xv_Sh) (Rf : xv_Rf) (J : xv_J) (hb : sh 60 = some (.inl 11)) (hd : sh 64 = some (.inr (.inl (.int, 4)))) (hr : Rf 60 4 = some 64) {Q : xv_Q} : ∀ (m k : Nat) (I : xv_I), k + m = 4 → xv_W mX11_init 1 37 1795 Q 0 0 sh (it (fun k I => xv_u I 64 k (nI 1)) m k I) Rf J 314 [some (.ref 60), some (.int (nI 4))] [] → xv_W mX11_init 1 37 1795 Q 0 0 sh I Rf J 296 [some (.ref 60), some (.int (nI k))] [] := by
  intro m
  induction m with
  | zero =>
    intro k I hm  hx
    obtain rfl : k = 4 := by omega
    refine xv_il1 fX11_init_296 ?_
    refine xv_k fX11_init_297 ?_
    refine xv_ic_ge fX11_init_298 (fun h_298 => ?_) (fun h_298 => ?_)
    · exact hx
    · exact absurd (nI_le (Nat.le_refl _) (by decide)) h_298
  | succ m ih =>
    intro k I hm  hx
    have hk : k < 4 := by omega
    show xv_W mX11_init 1 37 1795 _ 0 0 sh I Rf J 296 [some (.ref 60), some (.int (nI k))] []
    refine xv_il1 fX11_init_296 ?_
    refine xv_k fX11_init_297 ?_
    refine xv_ic_ge fX11_init_298 (fun h_298 => ?_) (fun h_298 => ?_)
    · exact absurd h_298 (nI_ge hk (by decide))
    · refine xv_al0 fX11_init_301 ?_
      refine xv_getR fX11_init_302 gX11_20 rfl hb hr ?_
      refine xv_il1 fX11_init_305 ?_
      refine xv_k fX11_init_306 ?_
      refine xv_iastN fX11_init_307 hd (⟨hk, by decide⟩) ?_
      refine xv_iincN1 (a := 1) fX11_init_308 (by decide) ?_
      refine xv_goto fX11_init_311 ?_
      exact ih (k + 1) _ (by omega) hx

def kX11_initSh (sh : xv_Sh) : xv_Sh := (xv_us (xv_us (xv_us (xv_us (xv_us (xv_us (xv_us (xv_us (xv_us (xv_us (xv_us (xv_us (xv_us (xv_us (xv_us (xv_us (xv_us (xv_us (xv_us (xv_us (xv_us (xv_us (xv_us (xv_us (xv_us (xv_us (xv_us (xv_us (xv_us (xv_us (xv_us (xv_us (xv_us (xv_us (xv_us (xv_us (xv_us sh 61 (.inr (.inl (.int, 10)))) 62 (.inr (.inl (.boolean, 10)))) 63 (.inr (.inl (.int, 120)))) 64 (.inr (.inl (.int, 4)))) 65 (.inr (.inl (.int, 20)))) 66 (.inr (.inl (.int, 20)))) 67 (.inr (.inl (.int, 20)))) 68 (.inr (.inl (.boolean, 20)))) 69 (.inr (.inl (.int, 20)))) 70 (.inr (.inl (.int, 20)))) 71 (.inr (.inl (.int, 20)))) 72 (.inr (.inl (.int, 20)))) 73 (.inr (.inl (.int, 20)))) 74 (.inr (.inl (.int, 120)))) 75 (.inr (.inl (.int, 20)))) 76 (.inr (.inl (.int, 20)))) 77 (.inr (.inl (.int, 40)))) 78 (.inr (.inl (.int, 40)))) 79 (.inr (.inl (.int, 40)))) 80 (.inr (.inl (.boolean, 6)))) 81 (.inr (.inl (.boolean, 60)))) 82 (.inr (.inl (.boolean, 60)))) 83 (.inr (.inl (.int, 960)))) 84 (.inr (.inl (.int, 8)))) 85 (.inr (.inl (.int, 5)))) 86 (.inr (.inl (.int, 6)))) 87 (.inr (.inl (.int, 6)))) 88 (.inr (.inl (.int, 5)))) 89 (.inr (.inl (.int, 5)))) 90 (.inr (.inl (.int, 6)))) 91 (.inr (.inl (.int, 13)))) 92 (.inr (.inl (.int, 13)))) 93 (.inr (.inl (.int, 16)))) 94 (.inr (.inl (.int, 16)))) 95 (.inr (.inl (.int, 2)))) 96 (.inr (.inl (.int, 2)))) 97 (.inr (.inl (.int, 2))))
def kX11_initI (I : xv_I) : xv_I := (it (fun k I => xv_u I 64 k (nI 1)) 4 0 (xv_z (xv_z (xv_z (xv_z (xv_z (xv_z (xv_z (xv_z (xv_z (xv_z (xv_z (xv_z (xv_z (xv_z (xv_z (xv_z (xv_z (xv_z (xv_z (xv_z (xv_z (xv_z (xv_z (xv_z (xv_z (xv_z (xv_z (xv_z (xv_z (xv_z (xv_z (xv_z (xv_z (xv_z (xv_z (xv_z (xv_z I 61 0) 62 0) 63 0) 64 0) 65 0) 66 0) 67 0) 68 0) 69 0) 70 0) 71 0) 72 0) 73 0) 74 0) 75 0) 76 0) 77 0) 78 0) 79 0) 80 0) 81 0) 82 0) 83 0) 84 0) 85 0) 86 0) 87 0) 88 0) 89 0) 90 0) 91 0) 92 0) 93 0) 94 0) 95 0) 96 0) 97 0))
def kX11_initRf (Rf : xv_Rf) : xv_Rf := (xv_u (xv_z (xv_u (xv_z (xv_u (xv_z (xv_u (xv_z (xv_u (xv_z (xv_u (xv_z (xv_u (xv_z (xv_u (xv_z (xv_u (xv_z (xv_u (xv_z (xv_u (xv_z (xv_u (xv_z (xv_u (xv_z (xv_u (xv_z (xv_u (xv_z (xv_u (xv_z (xv_u (xv_z (xv_u (xv_z (xv_u (xv_z (xv_u (xv_z (xv_u (xv_z (xv_u (xv_z (xv_u (xv_z (xv_u (xv_z (xv_u (xv_z (xv_u (xv_z (xv_u (xv_z (xv_u (xv_z (xv_u (xv_z (xv_u (xv_z (xv_u (xv_z (xv_u (xv_z (xv_u (xv_z (xv_u (xv_z (xv_u (xv_z (xv_u (xv_z (xv_u (xv_z Rf 61 none) 60 0 (some 61)) 62 none) 60 1 (some 62)) 63 none) 60 2 (some 63)) 64 none) 60 4 (some 64)) 65 none) 60 6 (some 65)) 66 none) 60 7 (some 66)) 67 none) 60 8 (some 67)) 68 none) 60 9 (some 68)) 69 none) 60 10 (some 69)) 70 none) 60 11 (some 70)) 71 none) 60 12 (some 71)) 72 none) 60 14 (some 72)) 73 none) 60 15 (some 73)) 74 none) 60 16 (some 74)) 75 none) 60 17 (some 75)) 76 none) 60 18 (some 76)) 77 none) 60 19 (some 77)) 78 none) 60 20 (some 78)) 79 none) 60 21 (some 79)) 80 none) 60 22 (some 80)) 81 none) 60 23 (some 81)) 82 none) 60 24 (some 82)) 83 none) 60 26 (some 83)) 84 none) 60 27 (some 84)) 85 none) 60 29 (some 85)) 86 none) 60 32 (some 86)) 87 none) 60 33 (some 87)) 88 none) 60 35 (some 88)) 89 none) 60 36 (some 89)) 90 none) 60 37 (some 90)) 91 none) 60 39 (some 91)) 92 none) 60 40 (some 92)) 93 none) 60 41 (some 93)) 94 none) 60 42 (some 94)) 95 none) 60 44 (some 95)) 96 none) 60 45 (some 96)) 97 none) 60 46 (some 97))
theorem c_X11_init (sh : xv_Sh) (I : xv_I) (Rf : xv_Rf) (J : xv_J) (hb : sh 60 = some (.inl 11)) (h : ∀ v, 61 ≤ v → v ≤ 97 → sh v = none) : xv_Met mX11_init 1 37 1795 sh I Rf J [.ref 60] (xv_eq (.inl none) (kX11_initSh sh) (kX11_initI I) (kX11_initRf Rf) J) := by
  refine xv_Met.of (by decide +kernel) (Nat.le_of_ble_eq_true rfl) (List.forall_mem_cons.mpr ⟨rfl, fun _ h => nomatch h⟩) ?_
  show xv_W mX11_init 1 37 1795 _ 37 1795 sh I Rf J 0 [some (.ref 60), none] []
  refine xv_al0 fX11_init_0 ?_
  refine xv_obj fX11_init_1 lX11_1 xv_objw (by decide) (by decide) ?_
  refine xv_al0 fX11_init_4 ?_
  refine xv_k fX11_init_5 ?_
  refine xv_newI (n := 61) (k9 := 10) (kc' := 36) (ks' := 1785) fX11_init_7 xv_ac_int (by exact h 61 (by decide) (by decide)) (by decide) (by decide) (by decide) (by decide) (by decide) ?_
  refine xv_putR fX11_init_9 gX11_7 rfl tpF11_0 (by exact hb) (fun _ => ⟨rfl, rfl⟩) ?_
  refine xv_al0 fX11_init_12 ?_
  refine xv_k fX11_init_13 ?_
  refine xv_newZ (n := 62) (k9 := 10) (kc' := 35) (ks' := 1775) fX11_init_15 xv_ac_boolean (by exact h 62 (by decide) (by decide)) (by decide) (by decide) (by decide) (by decide) (by decide) ?_
  refine xv_putR fX11_init_17 gX11_13 rfl tpF11_1 (by exact hb) (fun _ => ⟨rfl, rfl⟩) ?_
  refine xv_al0 fX11_init_20 ?_
  refine xv_k fX11_init_21 ?_
  refine xv_newI (n := 63) (k9 := 120) (kc' := 34) (ks' := 1655) fX11_init_23 xv_ac_int (by exact h 63 (by decide) (by decide)) (by decide) (by decide) (by decide) (by decide) (by decide) ?_
  refine xv_putR fX11_init_25 gX11_17 rfl tpF11_2 (by exact hb) (fun _ => ⟨rfl, rfl⟩) ?_
  refine xv_al0 fX11_init_28 ?_
  refine xv_k fX11_init_29 ?_
  refine xv_newI (n := 64) (k9 := 4) (kc' := 33) (ks' := 1651) fX11_init_30 xv_ac_int (by exact h 64 (by decide) (by decide)) (by decide) (by decide) (by decide) (by decide) (by decide) ?_
  refine xv_putR fX11_init_32 gX11_20 rfl tpF11_4 (by exact hb) (fun _ => ⟨rfl, rfl⟩) ?_
  refine xv_al0 fX11_init_35 ?_
  refine xv_k fX11_init_36 ?_
  refine xv_newI (n := 65) (k9 := 20) (kc' := 32) (ks' := 1631) fX11_init_38 xv_ac_int (by exact h 65 (by decide) (by decide)) (by decide) (by decide) (by decide) (by decide) (by decide) ?_
  refine xv_putR fX11_init_40 gX11_23 rfl tpF11_6 (by exact hb) (fun _ => ⟨rfl, rfl⟩) ?_
  refine xv_al0 fX11_init_43 ?_
  refine xv_k fX11_init_44 ?_
  refine xv_newI (n := 66) (k9 := 20) (kc' := 31) (ks' := 1611) fX11_init_46 xv_ac_int (by exact h 66 (by decide) (by decide)) (by decide) (by decide) (by decide) (by decide) (by decide) ?_
  refine xv_putR fX11_init_48 gX11_26 rfl tpF11_7 (by exact hb) (fun _ => ⟨rfl, rfl⟩) ?_
  refine xv_al0 fX11_init_51 ?_
  refine xv_k fX11_init_52 ?_
  refine xv_newI (n := 67) (k9 := 20) (kc' := 30) (ks' := 1591) fX11_init_54 xv_ac_int (by exact h 67 (by decide) (by decide)) (by decide) (by decide) (by decide) (by decide) (by decide) ?_
  refine xv_putR fX11_init_56 gX11_29 rfl tpF11_8 (by exact hb) (fun _ => ⟨rfl, rfl⟩) ?_
  refine xv_al0 fX11_init_59 ?_
  refine xv_k fX11_init_60 ?_
  refine xv_newZ (n := 68) (k9 := 20) (kc' := 29) (ks' := 1571) fX11_init_62 xv_ac_boolean (by exact h 68 (by decide) (by decide)) (by decide) (by decide) (by decide) (by decide) (by decide) ?_
  refine xv_putR fX11_init_64 gX11_32 rfl tpF11_9 (by exact hb) (fun _ => ⟨rfl, rfl⟩) ?_
  refine xv_al0 fX11_init_67 ?_
  refine xv_k fX11_init_68 ?_
  refine xv_newI (n := 69) (k9 := 20) (kc' := 28) (ks' := 1551) fX11_init_70 xv_ac_int (by exact h 69 (by decide) (by decide)) (by decide) (by decide) (by decide) (by decide) (by decide) ?_
  refine xv_putR fX11_init_72 gX11_35 rfl tpF11_10 (by exact hb) (fun _ => ⟨rfl, rfl⟩) ?_
  refine xv_al0 fX11_init_75 ?_
  refine xv_k fX11_init_76 ?_
  refine xv_newI (n := 70) (k9 := 20) (kc' := 27) (ks' := 1531) fX11_init_78 xv_ac_int (by exact h 70 (by decide) (by decide)) (by decide) (by decide) (by decide) (by decide) (by decide) ?_
  refine xv_putR fX11_init_80 gX11_38 rfl tpF11_11 (by exact hb) (fun _ => ⟨rfl, rfl⟩) ?_
  refine xv_al0 fX11_init_83 ?_
  refine xv_k fX11_init_84 ?_
  refine xv_newI (n := 71) (k9 := 20) (kc' := 26) (ks' := 1511) fX11_init_86 xv_ac_int (by exact h 71 (by decide) (by decide)) (by decide) (by decide) (by decide) (by decide) (by decide) ?_
  refine xv_putR fX11_init_88 gX11_41 rfl tpF11_12 (by exact hb) (fun _ => ⟨rfl, rfl⟩) ?_
  refine xv_al0 fX11_init_91 ?_
  refine xv_k fX11_init_92 ?_
  refine xv_newI (n := 72) (k9 := 20) (kc' := 25) (ks' := 1491) fX11_init_94 xv_ac_int (by exact h 72 (by decide) (by decide)) (by decide) (by decide) (by decide) (by decide) (by decide) ?_
  refine xv_putR fX11_init_96 gX11_44 rfl tpF11_14 (by exact hb) (fun _ => ⟨rfl, rfl⟩) ?_
  refine xv_al0 fX11_init_99 ?_
  refine xv_k fX11_init_100 ?_
  refine xv_newI (n := 73) (k9 := 20) (kc' := 24) (ks' := 1471) fX11_init_102 xv_ac_int (by exact h 73 (by decide) (by decide)) (by decide) (by decide) (by decide) (by decide) (by decide) ?_
  refine xv_putR fX11_init_104 gX11_47 rfl tpF11_15 (by exact hb) (fun _ => ⟨rfl, rfl⟩) ?_
  refine xv_al0 fX11_init_107 ?_
  refine xv_k fX11_init_108 ?_
  refine xv_newI (n := 74) (k9 := 120) (kc' := 23) (ks' := 1351) fX11_init_110 xv_ac_int (by exact h 74 (by decide) (by decide)) (by decide) (by decide) (by decide) (by decide) (by decide) ?_
  refine xv_putR fX11_init_112 gX11_50 rfl tpF11_16 (by exact hb) (fun _ => ⟨rfl, rfl⟩) ?_
  refine xv_al0 fX11_init_115 ?_
  refine xv_k fX11_init_116 ?_
  refine xv_newI (n := 75) (k9 := 20) (kc' := 22) (ks' := 1331) fX11_init_118 xv_ac_int (by exact h 75 (by decide) (by decide)) (by decide) (by decide) (by decide) (by decide) (by decide) ?_
  refine xv_putR fX11_init_120 gX11_53 rfl tpF11_17 (by exact hb) (fun _ => ⟨rfl, rfl⟩) ?_
  refine xv_al0 fX11_init_123 ?_
  refine xv_k fX11_init_124 ?_
  refine xv_newI (n := 76) (k9 := 20) (kc' := 21) (ks' := 1311) fX11_init_126 xv_ac_int (by exact h 76 (by decide) (by decide)) (by decide) (by decide) (by decide) (by decide) (by decide) ?_
  refine xv_putR fX11_init_128 gX11_56 rfl tpF11_18 (by exact hb) (fun _ => ⟨rfl, rfl⟩) ?_
  refine xv_al0 fX11_init_131 ?_
  refine xv_k fX11_init_132 ?_
  refine xv_newI (n := 77) (k9 := 40) (kc' := 20) (ks' := 1271) fX11_init_134 xv_ac_int (by exact h 77 (by decide) (by decide)) (by decide) (by decide) (by decide) (by decide) (by decide) ?_
  refine xv_putR fX11_init_136 gX11_59 rfl tpF11_19 (by exact hb) (fun _ => ⟨rfl, rfl⟩) ?_
  refine xv_al0 fX11_init_139 ?_
  refine xv_k fX11_init_140 ?_
  refine xv_newI (n := 78) (k9 := 40) (kc' := 19) (ks' := 1231) fX11_init_142 xv_ac_int (by exact h 78 (by decide) (by decide)) (by decide) (by decide) (by decide) (by decide) (by decide) ?_
  refine xv_putR fX11_init_144 gX11_62 rfl tpF11_20 (by exact hb) (fun _ => ⟨rfl, rfl⟩) ?_
  refine xv_al0 fX11_init_147 ?_
  refine xv_k fX11_init_148 ?_
  refine xv_newI (n := 79) (k9 := 40) (kc' := 18) (ks' := 1191) fX11_init_150 xv_ac_int (by exact h 79 (by decide) (by decide)) (by decide) (by decide) (by decide) (by decide) (by decide) ?_
  refine xv_putR fX11_init_152 gX11_65 rfl tpF11_21 (by exact hb) (fun _ => ⟨rfl, rfl⟩) ?_
  refine xv_al0 fX11_init_155 ?_
  refine xv_k fX11_init_156 ?_
  refine xv_newZ (n := 80) (k9 := 6) (kc' := 17) (ks' := 1185) fX11_init_158 xv_ac_boolean (by exact h 80 (by decide) (by decide)) (by decide) (by decide) (by decide) (by decide) (by decide) ?_
  refine xv_putR fX11_init_160 gX11_68 rfl tpF11_22 (by exact hb) (fun _ => ⟨rfl, rfl⟩) ?_
  refine xv_al0 fX11_init_163 ?_
  refine xv_k fX11_init_164 ?_
  refine xv_newZ (n := 81) (k9 := 60) (kc' := 16) (ks' := 1125) fX11_init_166 xv_ac_boolean (by exact h 81 (by decide) (by decide)) (by decide) (by decide) (by decide) (by decide) (by decide) ?_
  refine xv_putR fX11_init_168 gX11_71 rfl tpF11_23 (by exact hb) (fun _ => ⟨rfl, rfl⟩) ?_
  refine xv_al0 fX11_init_171 ?_
  refine xv_k fX11_init_172 ?_
  refine xv_newZ (n := 82) (k9 := 60) (kc' := 15) (ks' := 1065) fX11_init_174 xv_ac_boolean (by exact h 82 (by decide) (by decide)) (by decide) (by decide) (by decide) (by decide) (by decide) ?_
  refine xv_putR fX11_init_176 gX11_74 rfl tpF11_24 (by exact hb) (fun _ => ⟨rfl, rfl⟩) ?_
  refine xv_al0 fX11_init_179 ?_
  refine xv_k fX11_init_180 ?_
  refine xv_newI (n := 83) (k9 := 960) (kc' := 14) (ks' := 105) fX11_init_183 xv_ac_int (by exact h 83 (by decide) (by decide)) (by decide) (by decide) (by decide) (by decide) (by decide) ?_
  refine xv_putR fX11_init_185 gX11_77 rfl tpF11_26 (by exact hb) (fun _ => ⟨rfl, rfl⟩) ?_
  refine xv_al0 fX11_init_188 ?_
  refine xv_k fX11_init_189 ?_
  refine xv_newI (n := 84) (k9 := 8) (kc' := 13) (ks' := 97) fX11_init_191 xv_ac_int (by exact h 84 (by decide) (by decide)) (by decide) (by decide) (by decide) (by decide) (by decide) ?_
  refine xv_putR fX11_init_193 gX11_80 rfl tpF11_27 (by exact hb) (fun _ => ⟨rfl, rfl⟩) ?_
  refine xv_al0 fX11_init_196 ?_
  refine xv_k fX11_init_197 ?_
  refine xv_newI (n := 85) (k9 := 5) (kc' := 12) (ks' := 92) fX11_init_198 xv_ac_int (by exact h 85 (by decide) (by decide)) (by decide) (by decide) (by decide) (by decide) (by decide) ?_
  refine xv_putR fX11_init_200 gX11_83 rfl tpF11_29 (by exact hb) (fun _ => ⟨rfl, rfl⟩) ?_
  refine xv_al0 fX11_init_203 ?_
  refine xv_k fX11_init_204 ?_
  refine xv_newI (n := 86) (k9 := 6) (kc' := 11) (ks' := 86) fX11_init_206 xv_ac_int (by exact h 86 (by decide) (by decide)) (by decide) (by decide) (by decide) (by decide) (by decide) ?_
  refine xv_putR fX11_init_208 gX11_86 rfl tpF11_32 (by exact hb) (fun _ => ⟨rfl, rfl⟩) ?_
  refine xv_al0 fX11_init_211 ?_
  refine xv_k fX11_init_212 ?_
  refine xv_newI (n := 87) (k9 := 6) (kc' := 10) (ks' := 80) fX11_init_214 xv_ac_int (by exact h 87 (by decide) (by decide)) (by decide) (by decide) (by decide) (by decide) (by decide) ?_
  refine xv_putR fX11_init_216 gX11_89 rfl tpF11_33 (by exact hb) (fun _ => ⟨rfl, rfl⟩) ?_
  refine xv_al0 fX11_init_219 ?_
  refine xv_k fX11_init_220 ?_
  refine xv_newI (n := 88) (k9 := 5) (kc' := 9) (ks' := 75) fX11_init_221 xv_ac_int (by exact h 88 (by decide) (by decide)) (by decide) (by decide) (by decide) (by decide) (by decide) ?_
  refine xv_putR fX11_init_223 gX11_92 rfl tpF11_35 (by exact hb) (fun _ => ⟨rfl, rfl⟩) ?_
  refine xv_al0 fX11_init_226 ?_
  refine xv_k fX11_init_227 ?_
  refine xv_newI (n := 89) (k9 := 5) (kc' := 8) (ks' := 70) fX11_init_228 xv_ac_int (by exact h 89 (by decide) (by decide)) (by decide) (by decide) (by decide) (by decide) (by decide) ?_
  refine xv_putR fX11_init_230 gX11_95 rfl tpF11_36 (by exact hb) (fun _ => ⟨rfl, rfl⟩) ?_
  refine xv_al0 fX11_init_233 ?_
  refine xv_k fX11_init_234 ?_
  refine xv_newI (n := 90) (k9 := 6) (kc' := 7) (ks' := 64) fX11_init_236 xv_ac_int (by exact h 90 (by decide) (by decide)) (by decide) (by decide) (by decide) (by decide) (by decide) ?_
  refine xv_putR fX11_init_238 gX11_98 rfl tpF11_37 (by exact hb) (fun _ => ⟨rfl, rfl⟩) ?_
  refine xv_al0 fX11_init_241 ?_
  refine xv_k fX11_init_242 ?_
  refine xv_newI (n := 91) (k9 := 13) (kc' := 6) (ks' := 51) fX11_init_244 xv_ac_int (by exact h 91 (by decide) (by decide)) (by decide) (by decide) (by decide) (by decide) (by decide) ?_
  refine xv_putR fX11_init_246 gX11_101 rfl tpF11_39 (by exact hb) (fun _ => ⟨rfl, rfl⟩) ?_
  refine xv_al0 fX11_init_249 ?_
  refine xv_k fX11_init_250 ?_
  refine xv_newI (n := 92) (k9 := 13) (kc' := 5) (ks' := 38) fX11_init_252 xv_ac_int (by exact h 92 (by decide) (by decide)) (by decide) (by decide) (by decide) (by decide) (by decide) ?_
  refine xv_putR fX11_init_254 gX11_104 rfl tpF11_40 (by exact hb) (fun _ => ⟨rfl, rfl⟩) ?_
  refine xv_al0 fX11_init_257 ?_
  refine xv_k fX11_init_258 ?_
  refine xv_newI (n := 93) (k9 := 16) (kc' := 4) (ks' := 22) fX11_init_260 xv_ac_int (by exact h 93 (by decide) (by decide)) (by decide) (by decide) (by decide) (by decide) (by decide) ?_
  refine xv_putR fX11_init_262 gX11_107 rfl tpF11_41 (by exact hb) (fun _ => ⟨rfl, rfl⟩) ?_
  refine xv_al0 fX11_init_265 ?_
  refine xv_k fX11_init_266 ?_
  refine xv_newI (n := 94) (k9 := 16) (kc' := 3) (ks' := 6) fX11_init_268 xv_ac_int (by exact h 94 (by decide) (by decide)) (by decide) (by decide) (by decide) (by decide) (by decide) ?_
  refine xv_putR fX11_init_270 gX11_110 rfl tpF11_42 (by exact hb) (fun _ => ⟨rfl, rfl⟩) ?_
  refine xv_al0 fX11_init_273 ?_
  refine xv_k fX11_init_274 ?_
  refine xv_newI (n := 95) (k9 := 2) (kc' := 2) (ks' := 4) fX11_init_275 xv_ac_int (by exact h 95 (by decide) (by decide)) (by decide) (by decide) (by decide) (by decide) (by decide) ?_
  refine xv_putR fX11_init_277 gX11_113 rfl tpF11_44 (by exact hb) (fun _ => ⟨rfl, rfl⟩) ?_
  refine xv_al0 fX11_init_280 ?_
  refine xv_k fX11_init_281 ?_
  refine xv_newI (n := 96) (k9 := 2) (kc' := 1) (ks' := 2) fX11_init_282 xv_ac_int (by exact h 96 (by decide) (by decide)) (by decide) (by decide) (by decide) (by decide) (by decide) ?_
  refine xv_putR fX11_init_284 gX11_116 rfl tpF11_45 (by exact hb) (fun _ => ⟨rfl, rfl⟩) ?_
  refine xv_al0 fX11_init_287 ?_
  refine xv_k fX11_init_288 ?_
  refine xv_newI (n := 97) (k9 := 2) (kc' := 0) (ks' := 0) fX11_init_289 xv_ac_int (by exact h 97 (by decide) (by decide)) (by decide) (by decide) (by decide) (by decide) (by decide) ?_
  refine xv_putR fX11_init_291 gX11_119 rfl tpF11_46 (by exact hb) (fun _ => ⟨rfl, rfl⟩) ?_
  refine xv_k fX11_init_294 ?_
  refine xv_is1 fX11_init_295 ?_
  exact l_mInit _ _ _ (by exact hb) (by rfl) (by rfl) 4 0 _ rfl (by exact xv_vret fX11_init_314 rfl xv_eq_i)

theorem kX11_initSh_o {sh : xv_Sh} {v : Nat} (h : v < 61 ∨ 97 < v) : kX11_initSh sh v = sh v := by
  unfold kX11_initSh
  exact (xv_us_ne _ _ (by omega)).trans ((xv_us_ne _ _ (by omega)).trans ((xv_us_ne _ _ (by omega)).trans ((xv_us_ne _ _ (by omega)).trans ((xv_us_ne _ _ (by omega)).trans ((xv_us_ne _ _ (by omega)).trans ((xv_us_ne _ _ (by omega)).trans ((xv_us_ne _ _ (by omega)).trans ((xv_us_ne _ _ (by omega)).trans ((xv_us_ne _ _ (by omega)).trans ((xv_us_ne _ _ (by omega)).trans ((xv_us_ne _ _ (by omega)).trans ((xv_us_ne _ _ (by omega)).trans ((xv_us_ne _ _ (by omega)).trans ((xv_us_ne _ _ (by omega)).trans ((xv_us_ne _ _ (by omega)).trans ((xv_us_ne _ _ (by omega)).trans ((xv_us_ne _ _ (by omega)).trans ((xv_us_ne _ _ (by omega)).trans ((xv_us_ne _ _ (by omega)).trans ((xv_us_ne _ _ (by omega)).trans ((xv_us_ne _ _ (by omega)).trans ((xv_us_ne _ _ (by omega)).trans ((xv_us_ne _ _ (by omega)).trans ((xv_us_ne _ _ (by omega)).trans ((xv_us_ne _ _ (by omega)).trans ((xv_us_ne _ _ (by omega)).trans ((xv_us_ne _ _ (by omega)).trans ((xv_us_ne _ _ (by omega)).trans ((xv_us_ne _ _ (by omega)).trans ((xv_us_ne _ _ (by omega)).trans ((xv_us_ne _ _ (by omega)).trans ((xv_us_ne _ _ (by omega)).trans ((xv_us_ne _ _ (by omega)).trans ((xv_us_ne _ _ (by omega)).trans ((xv_us_ne _ _ (by omega)).trans ((xv_us_ne _ _ (by omega)).trans (rfl)))))))))))))))))))))))))))))))))))))