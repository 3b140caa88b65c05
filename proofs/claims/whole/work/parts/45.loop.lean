def armPc (k : Nat) : Nat := ([192, 268, 336, 349, 417, 551, 607, 663, 719, 799, 855, 911, 979, 1047, 1110, 1178, 1253, 1316, 1360, 1440, 1508, 1552, 1608, 1664, 1732, 1800, 1868, 1924, 1937, 2005, 2073, 2141, 2185, 2233][k]?).getD 2246
theorem armPc_ok : ∀ k, k < 34 → (#[152, 228, 296, 309, 377, 511, 567, 623, 679, 759, 815, 871, 939, 1007, 1070, 1138, 1213, 1276, 1320, 1400, 1468, 1512, 1568, 1624, 1692, 1760, 1828, 1884, 1897, 1965, 2033, 2101, 2145, 2193] : Array Int)[k]? = some ((armPc k : Int) - 40) := by decide
/-- the arm k does what it should -/
def Arm (n k : Nat) : Prop := ∀ (MC MS : Nat) (Q : xv_Q) (c : Nat × Nat) (I : xv_I) (J : xv_J) (kc ks i : Nat) (l5 l6 : Option Value), i + 7 ≤ n → n ≤ 3584 → Inv c I → 16 ≤ kc → 128 ≤ ks →
  (∀ (c : Nat × Nat) (I' : xv_I) (J : xv_J) (l5 l6 : Option Value), Inv c I' → xv_W mL_law 30 MC MS Q (kc - 16) (ks - 128) (sx n c) I' (rx c) J 2246 (some (.ref 99) :: some (.ref 0) :: some (.ref 60) :: some (.ref 98) :: some (.int (nI i)) :: l5 :: l6 :: []) []) → xv_W mL_law 30 MC MS Q kc ks (sx n c) I (rx c) J (armPc k) (some (.ref 99) :: some (.ref 0) :: some (.ref 60) :: some (.ref 98) :: some (.int (nI i)) :: l5 :: l6 :: []) []
theorem and63 (x : Int32) : ∃ k, k < 64 ∧ x &&& nI 63 = nI k := by
  obtain ⟨y, rfl⟩ : ∃ y, x = nI y := ⟨x.toBitVec.toNat, by
    apply Int32.toBitVec_inj.mp
    show _ = (Int32.ofNat _).toBitVec
    simp⟩
  exact ⟨y % 64, Nat.mod_lt _ (by decide), fa_mask y 6⟩
theorem len7 {n i : Nat} (hn : n ≤ 3584) (hi : i ≤ 3591) : nI n - nI 7 < nI i ↔ n < i + 7 := by
  rcases Nat.lt_or_ge n 7 with h | h
  · have key : ∀ n, n < 7 → (nI n - nI 7).toInt < 0 := by decide
    have := key n h
    rw [fa_lt, nI_toInt (by omega)]
    constructor <;> intro _ <;> omega
  · rw [nI_sub h, fa_lt, nI_toInt (by omega), nI_toInt (by omega)]
    constructor <;> intro _ <;> omega
theorem law_loop {n MC MS : Nat} (hn : n ≤ 3584) (hA : ∀ k, k < 34 → Arm n k) : ∀ (q i : Nat) (c : Nat × Nat) (I : xv_I) (J : xv_J) (kc ks : Nat) (l5 l6 : Option Value), n < i + 7 + 7 * q → i ≤ 3591 → Inv c I → 16 * q ≤ kc → 128 * q ≤ ks → xv_W mL_law 30 MC MS (fun o _ _ _ _ => o = .inl (some (.int (nI 1)))) kc ks (sx n c) I (rx c) J 23 (some (.ref 99) :: some (.ref 0) :: some (.ref 60) :: some (.ref 98) :: some (.int (nI i)) :: l5 :: l6 :: []) [] := by
  intro q
  induction q with
  | zero =>
    intro i c I J kc ks l5 l6 hq hi hI hkc hks
    show xv_W mL_law 30 MC MS _ kc ks (sx n c) I (rx c) J 23 (some (.ref 99) :: some (.ref 0) :: some (.ref 60) :: some (.ref 98) :: some (.int (nI i)) :: l5 :: l6 :: []) []
    refine xv_il4 fL_law_23 ?_
    refine xv_al0 fL_law_25 ?_
    refine xv_slen fL_law_26 (sx_99 _ _) ?_
    refine xv_k fL_law_27 ?_
    refine xv_isub fL_law_29 ?_
    refine xv_ic_gt fL_law_30 (fun h_30 => ?_) (fun h_30 => ?_)
    · refine xv_k fL_law_2252 ?_
      exact xv_iret fL_law_2253 rfl (by decide) rfl
    · exact absurd ((len7 hn hi).mpr (by omega)) h_30
  | succ q ih =>
    intro i c I J kc ks l5 l6 hq hi hI hkc hks
    show xv_W mL_law 30 MC MS _ kc ks (sx n c) I (rx c) J 23 (some (.ref 99) :: some (.ref 0) :: some (.ref 60) :: some (.ref 98) :: some (.int (nI i)) :: l5 :: l6 :: []) []
    refine xv_il4 fL_law_23 ?_
    refine xv_al0 fL_law_25 ?_
    refine xv_slen fL_law_26 (sx_99 _ _) ?_
    refine xv_k fL_law_27 ?_
    refine xv_isub fL_law_29 ?_
    refine xv_ic_gt fL_law_30 (fun h_30 => ?_) (fun h_30 => ?_)
    · refine xv_k fL_law_2252 ?_
      exact xv_iret fL_law_2253 rfl (by decide) rfl
    · obtain hi7 : i + 7 ≤ n := Nat.le_of_not_lt fun q9 => h_30 ((len7 hn hi).mpr q9)
      refine xv_al0 fL_law_33 ?_
      refine xv_il4 fL_law_34 ?_
      refine xv_sldN fL_law_36 (sx_99 _ _) (⟨by omega, by omega⟩) ?_
      refine xv_k fL_law_37 ?_
      refine xv_iand fL_law_39 ?_
      obtain ⟨k, hk, e9⟩ := and63 (I 99 i)
      rw [e9]
      obtain ti := nI_toInt (show k < 2 ^ 31 by omega)
      by_cases h34 : k < 34
      · refine xv_tabIn fL_law_40 (by rw [ti]; omega) (by rw [ti]; omega) (by rw [ti, show ((k : Int) - 0).toNat = k by omega]; exact armPc_ok k h34) (tgt := armPc k) (by omega) ?_
        refine hA k h34 MC MS _ c I J kc ks i l5 l6 hi7 hn hI (by omega) (by omega) (fun c I9 J l5 l6 hI9 => ?_)
        refine xv_iincN4 (a := 7) fL_law_2246 (by decide) ?_
        refine xv_goto fL_law_2249 ?_
        exact ih (i + 7) _ _ _ _ _ _ _ (by omega) (by omega) hI9 (by omega) (by omega)
      · refine xv_tabOut fL_law_40 (Or.inr (by rw [ti]; omega)) (tgt := 2246) (by decide) ?_
        refine xv_iincN4 (a := 7) fL_law_2246 (by decide) ?_
        refine xv_goto fL_law_2249 ?_
        exact ih (i + 7) _ _ _ _ _ _ _ (by omega) (by omega) hI (by omega) (by omega)

theorem law_ok {n : Nat} (s : Nat → Int32) (hn : n ≤ 3584) (hA : ∀ k, k < 34 → Arm n k) (h0 : Inv (0, 0) (iF s)) : xv_Met mL_law 30 8287 68721 (s00 n) (i00 s) r00 (fun _ _ => 0) [.ref 99] (fun o _ _ _ _ => o = .inl (some (.int (nI 1)))) := by
  refine xv_Met.of (by decide +kernel) (Nat.le_of_ble_eq_true rfl) (List.forall_mem_cons.mpr ⟨rfl, fun _ h => nomatch h⟩) ?_
  show xv_W mL_law 30 8287 68721 _ 8287 68721 (s00 n) (i00 s) r00 (fun _ _ => 0) 0 [some (.ref 99), none, none, none, none, none, none] []
  refine xv_new (n := 0) (kc' := 8286) (ks' := 68707) fL_law_0 nL_8 (by rfl) (by decide) (by decide) ?_
  refine xv_dup_r fL_law_3 ?_
  refine xv_callI0V (c_X10_init _ _ _ _ (by rfl) (by exact fun v h1 h2 => (xv_us_ne _ _ (by omega)).trans (s00_o n (by omega)))) fL_law_4 YX10_init VX10_init lL_117 rfl rfl (Nat.le_of_ble_eq_true rfl) (by decide) (by decide) (by decide) ?_
  refine xv_as1 fL_law_7 ?_
  refine xv_new (n := 60) (kc' := 8230) (ks' := 67332) fL_law_8 nL_118 (by exact (kX10_initSh_o (by omega)).trans ((xv_us_ne _ _ (by omega)).trans (s00_o n (by omega)))) (by decide) (by decide) ?_
  refine xv_dup_r fL_law_11 ?_
  refine xv_callI0V (c_X11_init _ _ _ _ (by rfl) (by exact fun v h1 h2 => (xv_us_ne _ _ (by omega)).trans ((kX10_initSh_o (by omega)).trans ((xv_us_ne _ _ (by omega)).trans (s00_o n (by omega)))))) fL_law_12 YX11_init VX11_init lL_120 rfl rfl (Nat.le_of_ble_eq_true rfl) (by decide) (by decide) (by decide) ?_
  refine xv_as2 fL_law_15 ?_
  refine xv_k fL_law_16 ?_
  refine xv_newJ (n := 98) (k9 := 1) (kc' := 8192) (ks' := 65536) fL_law_17 xv_ac_long (by exact (kX11_initSh_o (by omega)).trans ((xv_us_ne _ _ (by omega)).trans ((kX10_initSh_o (by omega)).trans ((xv_us_ne _ _ (by omega)).trans (s00_o n (by omega)))))) (by decide) (by decide) (by decide) (by decide) (by decide) ?_
  refine xv_as3 fL_law_19 ?_
  refine xv_k fL_law_20 ?_
  refine xv_is4 fL_law_21 ?_
  rw [show xv_us (kX11_initSh (xv_us (kX10_initSh (xv_us (s00 n) 0 (.inl 10))) 60 (.inl 11))) 98 (.inr (.inl (.long, 1))) = sx n (0, 0) from shF_eq n, show xv_z (kX11_initRf (xv_z (kX10_initRf (xv_z r00 0 none)) 60 none)) 98 none = rx (0, 0) from rfF_eq]
  exact law_loop hn hA 512 0 (0, 0) (iF s) jF _ _ none none (by omega) (by decide) h0 (by decide) (by decide)