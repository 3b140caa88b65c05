def mSum1 (I : xv_I) (s k : Nat) (x : Int32) : Int32 := x + I 74 (6 * s + k)
def mCells (I : xv_I) (s f t : Nat) : Int32 := (it (mSum1 I s) (t - f) f (nI 0) + nI 4) / nI 5
theorem l_mcells (n : Nat) (c : Nat × Nat) (I : xv_I) (J : xv_J) {s f t : Nat} (hs : s < 20) (ht : t ≤ 6) {Q : xv_Q} : ∀ (m k : Nat) (x : Int32), k + m = t → xv_W mX11_cellsFor 0 0 0 Q 0 0 (sx n c) I (rx c) J 35 [some (.ref 60), some (.int (nI s)), some (.int (nI f)), some (.int (nI t)), some (.int (it (mSum1 I s) m k x)), some (.int (nI t))] [] → xv_W mX11_cellsFor 0 0 0 Q 0 0 (sx n c) I (rx c) J 6 [some (.ref 60), some (.int (nI s)), some (.int (nI f)), some (.int (nI t)), some (.int x), some (.int (nI k))] [] := by
  intro m
  induction m with
  | zero =>
    intro k x hm  hx
    obtain rfl : k = t := by omega
    refine xv_il5 fX11_cellsFor_6 ?_
    refine xv_il3 fX11_cellsFor_8 ?_
    refine xv_ic_ge fX11_cellsFor_9 (fun h_9 => ?_) (fun h_9 => ?_)
    · exact hx
    · exact absurd (nI_le (Nat.le_refl _) (by omega)) h_9
  | succ m ih =>
    intro k x hm  hx
    have hk : k < t := by omega
    show xv_W mX11_cellsFor 0 0 0 _ 0 0 (sx n c) I (rx c) J 6 [some (.ref 60), some (.int (nI s)), some (.int (nI f)), some (.int (nI t)), some (.int x), some (.int (nI k))] []
    refine xv_il5 fX11_cellsFor_6 ?_
    refine xv_il3 fX11_cellsFor_8 ?_
    refine xv_ic_ge fX11_cellsFor_9 (fun h_9 => ?_) (fun h_9 => ?_)
    · exact absurd h_9 (nI_ge hk (by omega))
    · refine xv_il4 fX11_cellsFor_12 ?_
      refine xv_al0 fX11_cellsFor_14 ?_
      refine xv_getR fX11_cellsFor_15 gX11_50 rfl (sx_60 _ _) (rx_60_16 _) ?_
      refine xv_k fX11_cellsFor_18 ?_
      refine xv_il1 fX11_cellsFor_20 ?_
      refine xv_imul fX11_cellsFor_21 ?_
      rw [nI_mul]
      refine xv_il5 fX11_cellsFor_22 ?_
      refine xv_iadd fX11_cellsFor_24 ?_
      rw [nI_add]
      refine xv_ialdN fX11_cellsFor_25 (sx_74 _ _) (⟨by omega, by decide⟩) ?_
      refine xv_iadd fX11_cellsFor_26 ?_
      refine xv_is4 fX11_cellsFor_27 ?_
      refine xv_iincN5 (a := 1) fX11_cellsFor_29 (by decide) ?_
      refine xv_goto fX11_cellsFor_32 ?_
      exact ih (k + 1) (mSum1 I s k x) (by omega) hx

theorem m_cells (n : Nat) (c : Nat × Nat) (I : xv_I) (J : xv_J) {s f t : Nat} (hs : s < 20) (hf : f ≤ t) (ht : t ≤ 6) : xv_Met mX11_cellsFor 0 0 0 (sx n c) I (rx c) J [.ref 60, .int (nI s), .int (nI f), .int (nI t)] (xv_eq (.inl (some (.int (mCells I s f t)))) (sx n c) (I) (rx c) J) := by
  refine xv_Met.of (by decide +kernel) (Nat.le_of_ble_eq_true rfl) (List.forall_mem_cons.mpr ⟨rfl, List.forall_mem_cons.mpr ⟨rfl, List.forall_mem_cons.mpr ⟨rfl, List.forall_mem_cons.mpr ⟨rfl, fun _ h => nomatch h⟩⟩⟩⟩) ?_
  show xv_W mX11_cellsFor 0 0 0 _ 0 0 (sx n c) I (rx c) J 0 [some (.ref 60), some (.int (nI s)), some (.int (nI f)), some (.int (nI t)), none, none] []
  refine xv_k fX11_cellsFor_0 ?_
  refine xv_is4 fX11_cellsFor_1 ?_
  refine xv_il2 fX11_cellsFor_3 ?_
  refine xv_is5 fX11_cellsFor_4 ?_
  exact l_mcells n c I J hs ht (t - f) f _ (by omega) (by exact xv_il4 fX11_cellsFor_35 (xv_k fX11_cellsFor_37 (xv_iadd fX11_cellsFor_38 (xv_k fX11_cellsFor_39 (xv_idiv fX11_cellsFor_40 (by decide) (xv_iret fX11_cellsFor_41 rfl rfl (xv_eq_I rfl rfl)))))))

theorem m_cellAt (n : Nat) (c : Nat × Nat) (I : xv_I) (J : xv_J) {k : Nat} (hk : k < 24) : xv_Met mX11_cellAt 0 0 0 (sx n c) I (rx c) J [.int (nI k)] (xv_eq (.inl (some (.int (nI (cIn k))))) (sx n c) (I) (rx c) J) := by
  refine xv_Met.of (by decide +kernel) (Nat.le_of_ble_eq_true rfl) (List.forall_mem_cons.mpr ⟨rfl, fun _ h => nomatch h⟩) ?_
  show xv_W mX11_cellAt 0 0 0 _ 0 0 (sx n c) I (rx c) J 0 [some (.int (nI k))] []
  refine xv_k fX11_cellAt_0 ?_
  refine xv_il0 fX11_cellAt_1 ?_
  refine xv_k fX11_cellAt_2 ?_
  refine xv_irem fX11_cellAt_3 (by decide) ?_
  rw [nI_rem (by omega) (by decide)]
  refine xv_imul fX11_cellAt_4 ?_
  rw [nI_mul]
  refine xv_il0 fX11_cellAt_5 ?_
  refine xv_k fX11_cellAt_6 ?_
  refine xv_idiv fX11_cellAt_7 (by decide) ?_
  rw [nI_div (by omega) (by decide)]
  refine xv_iadd fX11_cellAt_8 ?_
  rw [nI_add]
  exact xv_iret fX11_cellAt_9 rfl rfl (xv_eq_I rfl rfl)

abbrev mOpen (I : xv_I) (p : Nat) (y : Int32) (k : Nat) : Prop := I 63 (12 * p + cIn k) = 0 ∨ (¬ y = -1 ∧ I 63 (12 * p + cIn k) = nI 200 + y)
theorem cIn_lt {k : Nat} (h : k < 12) : cIn k < 12 := by
  unfold cIn
  omega
theorem l_first (n : Nat) (c : Nat × Nat) (I : xv_I) (J : xv_J) {p z : Nat} {y V : Int32} (hp : p < 10) (hz : 0 < z) (hz2 : z ≤ 100) {Q : xv_Q} : ∀ (m k : Nat) (s : Int32) (r : Nat) (l7 : Option Value), k + m = 12 → (r ≤ k) → (V = if s = -1 then xRun (mOpen I p y) z m k r else s) → (∀ r9 l7, xv_W mX11_firstFor 1 0 0 Q 0 0 (sx n c) I (rx c) J 94 (some (.ref 60) :: some (.int (nI p)) :: some (.int (nI z)) :: some (.int y) :: some (.int V) :: some (.int (nI r9)) :: some (.int (nI 12)) :: l7 :: []) []) → xv_W mX11_firstFor 1 0 0 Q 0 0 (sx n c) I (rx c) J 9 (some (.ref 60) :: some (.int (nI p)) :: some (.int (nI z)) :: some (.int y) :: some (.int s) :: some (.int (nI r)) :: some (.int (nI k)) :: l7 :: []) [] := by
  intro m
  induction m with
  | zero =>
    intro k s r l7 hm i0 i1 i2
    obtain rfl : k = 12 := by omega
    refine xv_il6 fX11_firstFor_9 ?_
    refine xv_k fX11_firstFor_11 ?_
    refine xv_ic_ge fX11_firstFor_13 (fun h_13 => ?_) (fun h_13 => ?_)
    · obtain rfl : V = s := i1.trans (by by_cases h9 : s = -1 <;> simp [h9, xRun])
      exact i2 _ _
    · exact absurd (nI_le (Nat.le_refl _) (by decide)) h_13
  | succ m ih =>
    intro k s r l7 hm i0 i1 i2
    have hk : k < 12 := by omega
    show xv_W mX11_firstFor 1 0 0 _ 0 0 (sx n c) I (rx c) J 9 (some (.ref 60) :: some (.int (nI p)) :: some (.int (nI z)) :: some (.int y) :: some (.int s) :: some (.int (nI r)) :: some (.int (nI k)) :: l7 :: []) []
    refine xv_il6 fX11_firstFor_9 ?_
    refine xv_k fX11_firstFor_11 ?_
    refine xv_ic_ge fX11_firstFor_13 (fun h_13 => ?_) (fun h_13 => ?_)
    · exact absurd h_13 (nI_ge hk (by decide))
    · refine xv_al0 fX11_firstFor_16 ?_
      refine xv_getR fX11_firstFor_17 gX11_17 rfl (sx_60 _ _) (rx_60_2 _) ?_
      refine xv_k fX11_firstFor_20 ?_
      refine xv_il1 fX11_firstFor_22 ?_
      refine xv_imul fX11_firstFor_23 ?_
      rw [nI_mul]
      refine xv_il6 fX11_firstFor_24 ?_
      refine xv_callS1R (m_cellAt n c _ J (k := k) (by omega)) fX11_firstFor_26 YX11_cellAt VX11_cellAt lX11_175 rfl (Nat.le_of_ble_eq_true rfl) (by decide) (by decide) (by decide) ?_
      refine xv_iadd fX11_firstFor_29 ?_
      rw [nI_add]
      refine xv_ialdN fX11_firstFor_30 (sx_63 _ _) (⟨by have := cIn_lt hk; omega, by decide⟩) ?_
      refine xv_is7 fX11_firstFor_31 ?_
      refine xv_il7 fX11_firstFor_33 ?_
      refine xv_if_eq fX11_firstFor_35 (fun h_35 => ?_) (fun h_35 => ?_)
      · refine xv_il5 fX11_firstFor_53 ?_
        refine xv_k fX11_firstFor_55 ?_
        refine xv_iadd fX11_firstFor_56 ?_
        rw [nI_add]
        refine xv_goto fX11_firstFor_57 ?_
        refine xv_is5 fX11_firstFor_61 ?_
        refine xv_il4 fX11_firstFor_63 ?_
        refine xv_k fX11_firstFor_65 ?_
        refine xv_ic_ne fX11_firstFor_66 (fun h_66 => ?_) (fun h_66 => ?_)
        · refine xv_il4 fX11_firstFor_84 ?_
          refine xv_is4 fX11_firstFor_86 ?_
          refine xv_iincN6 (a := 1) fX11_firstFor_88 (by decide) ?_
          refine xv_goto fX11_firstFor_91 ?_
          exact ih (k + 1) s (r + 1) _ (by omega) (by omega) (by rw [if_neg h_66] at i1 ⊢; exact i1) i2
        · refine xv_il5 fX11_firstFor_69 ?_
          refine xv_il2 fX11_firstFor_71 ?_
          refine xv_ic_lt fX11_firstFor_72 (fun h_72 => ?_) (fun h_72 => ?_)
          · refine xv_il4 fX11_firstFor_84 ?_
            refine xv_is4 fX11_firstFor_86 ?_
            refine xv_iincN6 (a := 1) fX11_firstFor_88 (by decide) ?_
            refine xv_goto fX11_firstFor_91 ?_
            subst h_66
            exact ih (k + 1) (-1) (r + 1) _ (by omega) (by omega) (by rw [if_pos rfl, xRun_y (Or.inl h_35), if_neg (fun q => absurd h_72 (nI_nlt q (by omega)))] at i1; rw [if_pos rfl]; exact i1) i2
          · refine xv_il6 fX11_firstFor_75 ?_
            refine xv_k fX11_firstFor_77 ?_
            refine xv_iadd fX11_firstFor_78 ?_
            rw [nI_add]
            refine xv_il2 fX11_firstFor_79 ?_
            refine xv_isub fX11_firstFor_80 ?_
            refine xv_goto fX11_firstFor_81 ?_
            refine xv_is4 fX11_firstFor_86 ?_
            refine xv_iincN6 (a := 1) fX11_firstFor_88 (by decide) ?_
            refine xv_goto fX11_firstFor_91 ?_
            subst h_66
            obtain zr : z ≤ r + 1 := Nat.le_of_not_lt fun q => h_72 (nI_lt q (by omega))
            rw [nI_sub (by omega)]
            exact ih (k + 1) (nI (k + 1 - z)) (r + 1) _ (by omega) (by omega) (by rw [if_pos rfl, xRun_y (Or.inl h_35), if_pos zr] at i1; rw [if_neg (nI_nm1 (by omega))]; exact i1) i2
      · refine xv_il3 fX11_firstFor_38 ?_
        refine xv_k fX11_firstFor_39 ?_
        refine xv_ic_eq fX11_firstFor_40 (fun h_40 => ?_) (fun h_40 => ?_)
        · refine xv_k fX11_firstFor_60 ?_
          refine xv_is5 fX11_firstFor_61 ?_
          refine xv_il4 fX11_firstFor_63 ?_
          refine xv_k fX11_firstFor_65 ?_
          refine xv_ic_ne fX11_firstFor_66 (fun h_66 => ?_) (fun h_66 => ?_)
          · refine xv_il4 fX11_firstFor_84 ?_
            refine xv_is4 fX11_firstFor_86 ?_
            refine xv_iincN6 (a := 1) fX11_firstFor_88 (by decide) ?_
            refine xv_goto fX11_firstFor_91 ?_
            exact ih (k + 1) s 0 _ (by omega) (by omega) (by rw [if_neg h_66] at i1 ⊢; exact i1) i2
          · refine xv_il5 fX11_firstFor_69 ?_
            refine xv_il2 fX11_firstFor_71 ?_
            refine xv_ic_lt fX11_firstFor_72 (fun h_72 => ?_) (fun h_72 => ?_)
            · refine xv_il4 fX11_firstFor_84 ?_
              refine xv_is4 fX11_firstFor_86 ?_
              refine xv_iincN6 (a := 1) fX11_firstFor_88 (by decide) ?_
              refine xv_goto fX11_firstFor_91 ?_
              subst h_66
              exact ih (k + 1) (-1) 0 _ (by omega) (by omega) (by rw [if_pos rfl, xRun_n (fun h => h.elim h_35 (fun q => q.1 h_40)), if_neg (by omega)] at i1; rw [if_pos rfl]; exact i1) i2
            · refine xv_il6 fX11_firstFor_75 ?_
              refine xv_k fX11_firstFor_77 ?_
              refine xv_iadd fX11_firstFor_78 ?_
              rw [nI_add]
              refine xv_il2 fX11_firstFor_79 ?_
              refine xv_isub fX11_firstFor_80 ?_
              refine xv_goto fX11_firstFor_81 ?_
              refine xv_is4 fX11_firstFor_86 ?_
              refine xv_iincN6 (a := 1) fX11_firstFor_88 (by decide) ?_
              refine xv_goto fX11_firstFor_91 ?_
              exact absurd (nI_lt hz (by omega)) h_72
        · refine xv_il7 fX11_firstFor_43 ?_
          refine xv_k fX11_firstFor_45 ?_
          refine xv_il3 fX11_firstFor_48 ?_
          refine xv_iadd fX11_firstFor_49 ?_
          refine xv_ic_ne fX11_firstFor_50 (fun h_50 => ?_) (fun h_50 => ?_)
          · refine xv_k fX11_firstFor_60 ?_
            refine xv_is5 fX11_firstFor_61 ?_
            refine xv_il4 fX11_firstFor_63 ?_
            refine xv_k fX11_firstFor_65 ?_
            refine xv_ic_ne fX11_firstFor_66 (fun h_66 => ?_) (fun h_66 => ?_)
            · refine xv_il4 fX11_firstFor_84 ?_
              refine xv_is4 fX11_firstFor_86 ?_
              refine xv_iincN6 (a := 1) fX11_firstFor_88 (by decide) ?_
              refine xv_goto fX11_firstFor_91 ?_
              exact ih (k + 1) s 0 _ (by omega) (by omega) (by rw [if_neg h_66] at i1 ⊢; exact i1) i2
            · refine xv_il5 fX11_firstFor_69 ?_
              refine xv_il2 fX11_firstFor_71 ?_
              refine xv_ic_lt fX11_firstFor_72 (fun h_72 => ?_) (fun h_72 => ?_)
              · refine xv_il4 fX11_firstFor_84 ?_
                refine xv_is4 fX11_firstFor_86 ?_
                refine xv_iincN6 (a := 1) fX11_firstFor_88 (by decide) ?_
                refine xv_goto fX11_firstFor_91 ?_
                subst h_66
                exact ih (k + 1) (-1) 0 _ (by omega) (by omega) (by rw [if_pos rfl, xRun_n (fun h => h.elim h_35 (fun q => h_50 q.2)), if_neg (by omega)] at i1; rw [if_pos rfl]; exact i1) i2
              · refine xv_il6 fX11_firstFor_75 ?_
                refine xv_k fX11_firstFor_77 ?_
                refine xv_iadd fX11_firstFor_78 ?_
                rw [nI_add]
                refine xv_il2 fX11_firstFor_79 ?_
                refine xv_isub fX11_firstFor_80 ?_
                refine xv_goto fX11_firstFor_81 ?_
                refine xv_is4 fX11_firstFor_86 ?_
                refine xv_iincN6 (a := 1) fX11_firstFor_88 (by decide) ?_
                refine xv_goto fX11_firstFor_91 ?_
                exact absurd (nI_lt hz (by omega)) h_72
          · refine xv_il5 fX11_firstFor_53 ?_
            refine xv_k fX11_firstFor_55 ?_
            refine xv_iadd fX11_firstFor_56 ?_
            rw [nI_add]
            refine xv_goto fX11_firstFor_57 ?_
            refine xv_is5 fX11_firstFor_61 ?_
            refine xv_il4 fX11_firstFor_63 ?_
            refine xv_k fX11_firstFor_65 ?_
            refine xv_ic_ne fX11_firstFor_66 (fun h_66 => ?_) (fun h_66 => ?_)
            · refine xv_il4 fX11_firstFor_84 ?_
              refine xv_is4 fX11_firstFor_86 ?_
              refine xv_iincN6 (a := 1) fX11_firstFor_88 (by decide) ?_
              refine xv_goto fX11_firstFor_91 ?_
              exact ih (k + 1) s (r + 1) _ (by omega) (by omega) (by rw [if_neg h_66] at i1 ⊢; exact i1) i2
            · refine xv_il5 fX11_firstFor_69 ?_
              refine xv_il2 fX11_firstFor_71 ?_
              refine xv_ic_lt fX11_firstFor_72 (fun h_72 => ?_) (fun h_72 => ?_)
              · refine xv_il4 fX11_firstFor_84 ?_
                refine xv_is4 fX11_firstFor_86 ?_
                refine xv_iincN6 (a := 1) fX11_firstFor_88 (by decide) ?_
                refine xv_goto fX11_firstFor_91 ?_
                subst h_66
                exact ih (k + 1) (-1) (r + 1) _ (by omega) (by omega) (by rw [if_pos rfl, xRun_y (Or.inr ⟨h_40, h_50⟩), if_neg (fun q => absurd h_72 (nI_nlt q (by omega)))] at i1; rw [if_pos rfl]; exact i1) i2
              · refine xv_il6 fX11_firstFor_75 ?_
                refine xv_k fX11_firstFor_77 ?_
                refine xv_iadd fX11_firstFor_78 ?_
                rw [nI_add]
                refine xv_il2 fX11_firstFor_79 ?_
                refine xv_isub fX11_firstFor_80 ?_
                refine xv_goto fX11_firstFor_81 ?_
                refine xv_is4 fX11_firstFor_86 ?_
                refine xv_iincN6 (a := 1) fX11_firstFor_88 (by decide) ?_
                refine xv_goto fX11_firstFor_91 ?_
                subst h_66
                obtain zr : z ≤ r + 1 := Nat.le_of_not_lt fun q => h_72 (nI_lt q (by omega))
                rw [nI_sub (by omega)]
                exact ih (k + 1) (nI (k + 1 - z)) (r + 1) _ (by omega) (by omega) (by rw [if_pos rfl, xRun_y (Or.inr ⟨h_40, h_50⟩), if_pos zr] at i1; rw [if_neg (nI_nm1 (by omega))]; exact i1) i2

theorem m_first (n : Nat) (c : Nat × Nat) (I : xv_I) (J : xv_J) {p z : Nat} {y : Int32} (hp : p < 10) (hz : 0 < z) (hz2 : z ≤ 100) : xv_Met mX11_firstFor 1 0 0 (sx n c) I (rx c) J [.ref 60, .int (nI p), .int (nI z), .int y] (xv_eq (.inl (some (.int (xRun (mOpen I p y) z 12 0 0)))) (sx n c) (I) (rx c) J) := by
  refine xv_Met.of (by decide +kernel) (Nat.le_of_ble_eq_true rfl) (List.forall_mem_cons.mpr ⟨rfl, List.forall_mem_cons.mpr ⟨rfl, List.forall_mem_cons.mpr ⟨rfl, List.forall_mem_cons.mpr ⟨rfl, fun _ h => nomatch h⟩⟩⟩⟩) ?_
  show xv_W mX11_firstFor 1 0 0 _ 0 0 (sx n c) I (rx c) J 0 [some (.ref 60), some (.int (nI p)), some (.int (nI z)), some (.int y), none, none, none, none] []
  refine xv_k fX11_firstFor_0 ?_
  refine xv_is4 fX11_firstFor_1 ?_
  refine xv_k fX11_firstFor_3 ?_
  refine xv_is5 fX11_firstFor_4 ?_
  refine xv_k fX11_firstFor_6 ?_
  refine xv_is6 fX11_firstFor_7 ?_
  exact l_first n c I J hp hz hz2 12 0 (-1) 0 none rfl (Nat.le_refl _) (by rw [if_pos rfl]) (fun r9 l7 => by exact xv_il4 fX11_firstFor_94 (xv_iret fX11_firstFor_96 rfl rfl (xv_eq_I rfl rfl)))

def mPla1 (I : xv_I) (s i : Nat) (x : Int32) : Int32 := x ||| (if ¬ I 76 s ≤ 0 ∧ ¬ I 79 (2 * s + i) ≤ 0 then nI 1 <<< ((I 77 (2 * s + i) / nI 2) &&& 31) else nI 0)
def mPla (I : xv_I) (s : Nat) : Int32 := it (mPla1 I s) 2 0 (nI 0)
theorem l_mpla (n : Nat) (c : Nat × Nat) (I : xv_I) (J : xv_J) {s : Nat} (hs : s < 20) {Q : xv_Q} : ∀ (m k : Nat) (x : Int32), k + m = 2 → xv_W mX11_platesOf 0 0 0 Q 0 0 (sx n c) I (rx c) J 56 [some (.ref 60), some (.int (nI s)), some (.int (it (mPla1 I s) m k x)), some (.int (nI (2 * s + 2)))] [] → xv_W mX11_platesOf 0 0 0 Q 0 0 (sx n c) I (rx c) J 6 [some (.ref 60), some (.int (nI s)), some (.int x), some (.int (nI (2 * s + k)))] [] := by
  intro m
  induction m with
  | zero =>
    intro k x hm  hx
    obtain rfl : k = 2 := by omega
    refine xv_il3 fX11_platesOf_6 ?_
    refine xv_k fX11_platesOf_7 ?_
    refine xv_il1 fX11_platesOf_8 ?_
    refine xv_imul fX11_platesOf_9 ?_
    rw [nI_mul]
    refine xv_k fX11_platesOf_10 ?_
    refine xv_iadd fX11_platesOf_11 ?_
    rw [nI_add]
    refine xv_ic_ge fX11_platesOf_12 (fun h_12 => ?_) (fun h_12 => ?_)
    · exact hx
    · exact absurd (nI_le (Nat.le_refl _) (by omega)) h_12
  | succ m ih =>
    intro k x hm  hx
    have hk : k < 2 := by omega
    show xv_W mX11_platesOf 0 0 0 _ 0 0 (sx n c) I (rx c) J 6 [some (.ref 60), some (.int (nI s)), some (.int x), some (.int (nI (2 * s + k)))] []
    refine xv_il3 fX11_platesOf_6 ?_
    refine xv_k fX11_platesOf_7 ?_
    refine xv_il1 fX11_platesOf_8 ?_
    refine xv_imul fX11_platesOf_9 ?_
    rw [nI_mul]
    refine xv_k fX11_platesOf_10 ?_
    refine xv_iadd fX11_platesOf_11 ?_
    rw [nI_add]
    refine xv_ic_ge fX11_platesOf_12 (fun h_12 => ?_) (fun h_12 => ?_)
    · exact absurd h_12 (nI_ge (by omega) (by omega))
    · refine xv_il2 fX11_platesOf_15 ?_
      refine xv_al0 fX11_platesOf_16 ?_
      refine xv_getR fX11_platesOf_17 gX11_56 rfl (sx_60 _ _) (rx_60_18 _) ?_
      refine xv_il1 fX11_platesOf_20 ?_
      refine xv_ialdN fX11_platesOf_21 (sx_76 _ _) (⟨by omega, by decide⟩) ?_
      refine xv_if_le fX11_platesOf_22 (fun h_22 => ?_) (fun h_22 => ?_)
      · refine xv_k fX11_platesOf_47 ?_
        refine xv_ior fX11_platesOf_48 ?_
        refine xv_is2 fX11_platesOf_49 ?_
        refine xv_iincN3 (a := 1) fX11_platesOf_50 (by decide) ?_
        refine xv_goto fX11_platesOf_53 ?_
        exact ih (k + 1) _ (by omega) (by rw [show it (mPla1 I s) (m + 1) k x = it (mPla1 I s) m (k + 1) (mPla1 I s k x) from rfl, mPla1, if_neg (fun h => h.1 h_22)] at hx; exact hx)
      · refine xv_al0 fX11_platesOf_25 ?_
        refine xv_getR fX11_platesOf_26 gX11_65 rfl (sx_60 _ _) (rx_60_21 _) ?_
        refine xv_il3 fX11_platesOf_29 ?_
        refine xv_ialdN fX11_platesOf_30 (sx_79 _ _) (⟨by omega, by decide⟩) ?_
        refine xv_if_le fX11_platesOf_31 (fun h_31 => ?_) (fun h_31 => ?_)
        · refine xv_k fX11_platesOf_47 ?_
          refine xv_ior fX11_platesOf_48 ?_
          refine xv_is2 fX11_platesOf_49 ?_
          refine xv_iincN3 (a := 1) fX11_platesOf_50 (by decide) ?_
          refine xv_goto fX11_platesOf_53 ?_
          exact ih (k + 1) _ (by omega) (by rw [show it (mPla1 I s) (m + 1) k x = it (mPla1 I s) m (k + 1) (mPla1 I s k x) from rfl, mPla1, if_neg (fun h => h.2 h_31)] at hx; exact hx)
        · refine xv_k fX11_platesOf_34 ?_
          refine xv_al0 fX11_platesOf_35 ?_
          refine xv_getR fX11_platesOf_36 gX11_59 rfl (sx_60 _ _) (rx_60_19 _) ?_
          refine xv_il3 fX11_platesOf_39 ?_
          refine xv_ialdN fX11_platesOf_40 (sx_77 _ _) (⟨by omega, by decide⟩) ?_
          refine xv_k fX11_platesOf_41 ?_
          refine xv_idiv fX11_platesOf_42 (by decide) ?_
          refine xv_ishl fX11_platesOf_43 ?_
          refine xv_goto fX11_platesOf_44 ?_
          refine xv_ior fX11_platesOf_48 ?_
          refine xv_is2 fX11_platesOf_49 ?_
          refine xv_iincN3 (a := 1) fX11_platesOf_50 (by decide) ?_
          refine xv_goto fX11_platesOf_53 ?_
          exact ih (k + 1) _ (by omega) (by rw [show it (mPla1 I s) (m + 1) k x = it (mPla1 I s) m (k + 1) (mPla1 I s k x) from rfl, mPla1, if_pos ⟨h_22, h_31⟩] at hx; exact hx)

theorem m_plates (n : Nat) (c : Nat × Nat) (I : xv_I) (J : xv_J) {s : Nat} (hs : s < 20) : xv_Met mX11_platesOf 0 0 0 (sx n c) I (rx c) J [.ref 60, .int (nI s)] (xv_eq (.inl (some (.int (mPla I s)))) (sx n c) (I) (rx c) J) := by
  refine xv_Met.of (by decide +kernel) (Nat.le_of_ble_eq_true rfl) (List.forall_mem_cons.mpr ⟨rfl, List.forall_mem_cons.mpr ⟨rfl, fun _ h => nomatch h⟩⟩) ?_
  show xv_W mX11_platesOf 0 0 0 _ 0 0 (sx n c) I (rx c) J 0 [some (.ref 60), some (.int (nI s)), none, none] []
  refine xv_k fX11_platesOf_0 ?_
  refine xv_is2 fX11_platesOf_1 ?_
  refine xv_k fX11_platesOf_2 ?_
  refine xv_il1 fX11_platesOf_3 ?_
  refine xv_imul fX11_platesOf_4 ?_
  rw [nI_mul]
  refine xv_is3 fX11_platesOf_5 ?_
  exact l_mpla n c I J hs 2 0 _ rfl (by exact xv_il2 fX11_platesOf_56 (xv_iret fX11_platesOf_57 rfl rfl (xv_eq_I rfl rfl)))

def mK (I : xv_I) (pa n p f z p2 f2 z2 : Int32) : xv_I := xv_u (xv_u (xv_u (xv_u (xv_u (xv_u (xv_u (xv_u I 60 43 pa) 60 47 n) 95 0 p) 96 0 f) 97 0 z) 95 1 p2) 96 1 f2) 97 1 z2
noncomputable def mKeep (I : xv_I) (pa n p f z p2 f2 z2 : Int32) : xv_I := iteP (I 60 43 = 0 ∨ n < I 60 47) (mK I pa n p f z p2 f2 z2) I
def mCo1 (I : xv_I) (g : Int32) (p : Nat) : Int32 := mSize ((g ||| nI (2 ^ (p / 2)) ||| nI 0) &&& (I 60 3 ^^^ (-1)))
def mCo2 (I : xv_I) (g : Int32) (p q : Nat) : Int32 := mSize ((g ||| nI (2 ^ (p / 2)) ||| nI (2 ^ (q / 2))) &&& (I 60 3 ^^^ (-1)))
theorem mKeep_o (I : xv_I) {pa n p f z p2 f2 z2 : Int32} {v j : Nat} (h : v < 95 ∨ 97 < v) (h2 : v ≠ 60 ∨ (j ≠ 43 ∧ j ≠ 47)) : mKeep I pa n p f z p2 f2 z2 v j = I v j := by
  unfold mKeep
  by_cases h9 : I 60 43 = 0 ∨ n < I 60 47
  · rw [iteP_t h9]
    unfold mK
    rw [xv_u_ne _ _ _ (by omega), xv_u_ne _ _ _ (by omega), xv_u_ne _ _ _ (by omega), xv_u_ne _ _ _ (by omega), xv_u_ne _ _ _ (by omega), xv_u_ne _ _ _ (by omega)]
    rcases h2 with h2 | h2
    · rw [xv_u_ne _ _ _ h2, xv_u_ne _ _ _ h2]
    · rw [xv_u_nk _ _ _ h2.2, xv_u_nk _ _ _ h2.1]
  · rw [iteP_f h9]
theorem m_keeps1 (n : Nat) (c : Nat × Nat) (I : xv_I) (J : xv_J) {p : Nat} {f z f2 z2 g : Int32} (hp : p < 10) {p2 : Int32} : xv_Met mX11_keeps 1 0 0 (sx n c) I (rx c) J [.ref 60, .int (nI 1), .int (nI p), .int f, .int z, .int p2, .int f2, .int z2, .int g] (xv_eq (.inl none) (sx n c) (mKeep I (nI 1) (mCo1 I g p) (nI p) f z (p2) f2 z2) (rx c) J) := by
  refine xv_Met.of (by decide +kernel) (Nat.le_of_ble_eq_true rfl) (List.forall_mem_cons.mpr ⟨rfl, List.forall_mem_cons.mpr ⟨rfl, List.forall_mem_cons.mpr ⟨rfl, List.forall_mem_cons.mpr ⟨rfl, List.forall_mem_cons.mpr ⟨rfl, List.forall_mem_cons.mpr ⟨rfl, List.forall_mem_cons.mpr ⟨rfl, List.forall_mem_cons.mpr ⟨rfl, List.forall_mem_cons.mpr ⟨rfl, fun _ h => nomatch h⟩⟩⟩⟩⟩⟩⟩⟩⟩) ?_
  show xv_W mX11_keeps 1 0 0 _ 0 0 (sx n c) I (rx c) J 0 [some (.ref 60), some (.int (nI 1)), some (.int (nI p)), some (.int f), some (.int z), some (.int p2), some (.int f2), some (.int z2), some (.int g), none, none] []
  refine xv_il8 fX11_keeps_0 ?_
  refine xv_k fX11_keeps_2 ?_
  refine xv_il2 fX11_keeps_3 ?_
  refine xv_k fX11_keeps_4 ?_
  refine xv_idiv fX11_keeps_5 (by decide) ?_
  rw [nI_div (by omega) (by decide)]
  refine xv_ishl fX11_keeps_6 ?_
  rw [sh1 _ (by omega)]
  refine xv_ior fX11_keeps_7 ?_
  refine xv_il1 fX11_keeps_8 ?_
  refine xv_k fX11_keeps_9 ?_
  refine xv_ic_ne fX11_keeps_10 (fun h_10 => ?_) (fun h_10 => ?_)
  · refine xv_k fX11_keeps_22 ?_
    refine xv_ior fX11_keeps_23 ?_
    refine xv_is9 fX11_keeps_24 ?_
    refine xv_il9 fX11_keeps_26 ?_
    refine xv_al0 fX11_keeps_28 ?_
    refine xv_getI fX11_keeps_29 gX11_144 rfl (sx_60 _ _) ?_
    refine xv_k fX11_keeps_32 ?_
    refine xv_ixor fX11_keeps_33 ?_
    refine xv_iand fX11_keeps_34 ?_
    refine xv_callS1R (m_size n c _ J _) fX11_keeps_35 YX11_size VX11_size lX11_179 rfl (Nat.le_of_ble_eq_true rfl) (by decide) (by decide) (by decide) ?_
    refine xv_is10 fX11_keeps_38 ?_
    refine xv_al0 fX11_keeps_40 ?_
    refine xv_getI fX11_keeps_41 gX11_182 rfl (sx_60 _ _) ?_
    refine xv_if_eq fX11_keeps_44 (fun h_44 => ?_) (fun h_44 => ?_)
    · refine xv_al0 fX11_keeps_56 ?_
      refine xv_il1 fX11_keeps_57 ?_
      refine xv_putI fX11_keeps_58 gX11_182 rfl (tp11_43 _) (sx_60 _ _) ⟨rfl, rfl⟩ ?_
      refine xv_al0 fX11_keeps_61 ?_
      refine xv_il10 fX11_keeps_62 ?_
      refine xv_putI fX11_keeps_64 gX11_185 rfl (tp11_47 _) (sx_60 _ _) ⟨rfl, rfl⟩ ?_
      refine xv_al0 fX11_keeps_67 ?_
      refine xv_getR fX11_keeps_68 gX11_113 rfl (sx_60 _ _) (rx_60_44 _) ?_
      refine xv_k fX11_keeps_71 ?_
      refine xv_il2 fX11_keeps_72 ?_
      refine xv_iastN fX11_keeps_73 (sx_95 _ _) (⟨by decide, by decide⟩) ?_
      refine xv_al0 fX11_keeps_74 ?_
      refine xv_getR fX11_keeps_75 gX11_116 rfl (sx_60 _ _) (rx_60_45 _) ?_
      refine xv_k fX11_keeps_78 ?_
      refine xv_il3 fX11_keeps_79 ?_
      refine xv_iastN fX11_keeps_80 (sx_96 _ _) (⟨by decide, by decide⟩) ?_
      refine xv_al0 fX11_keeps_81 ?_
      refine xv_getR fX11_keeps_82 gX11_119 rfl (sx_60 _ _) (rx_60_46 _) ?_
      refine xv_k fX11_keeps_85 ?_
      refine xv_il4 fX11_keeps_86 ?_
      refine xv_iastN fX11_keeps_88 (sx_97 _ _) (⟨by decide, by decide⟩) ?_
      refine xv_al0 fX11_keeps_89 ?_
      refine xv_getR fX11_keeps_90 gX11_113 rfl (sx_60 _ _) (rx_60_44 _) ?_
      refine xv_k fX11_keeps_93 ?_
      refine xv_il5 fX11_keeps_94 ?_
      refine xv_iastN fX11_keeps_96 (sx_95 _ _) (⟨by decide, by decide⟩) ?_
      refine xv_al0 fX11_keeps_97 ?_
      refine xv_getR fX11_keeps_98 gX11_116 rfl (sx_60 _ _) (rx_60_45 _) ?_
      refine xv_k fX11_keeps_101 ?_
      refine xv_il6 fX11_keeps_102 ?_
      refine xv_iastN fX11_keeps_104 (sx_96 _ _) (⟨by decide, by decide⟩) ?_
      refine xv_al0 fX11_keeps_105 ?_
      refine xv_getR fX11_keeps_106 gX11_119 rfl (sx_60 _ _) (rx_60_46 _) ?_
      refine xv_k fX11_keeps_109 ?_
      refine xv_il7 fX11_keeps_110 ?_
      refine xv_iastN fX11_keeps_112 (sx_97 _ _) (⟨by decide, by decide⟩) ?_
      exact xv_vret fX11_keeps_113 rfl (xv_eq_I rfl (by rw [mKeep, iteP_t (show I 60 43 = 0 ∨ (mCo1 I g p) < I 60 47 from Or.inl h_44)]; rfl))
    · refine xv_il10 fX11_keeps_47 ?_
      refine xv_al0 fX11_keeps_49 ?_
      refine xv_getI fX11_keeps_50 gX11_185 rfl (sx_60 _ _) ?_
      refine xv_ic_ge fX11_keeps_53 (fun h_53 => ?_) (fun h_53 => ?_)
      · exact xv_vret fX11_keeps_113 rfl (xv_eq_I rfl (by rw [mKeep, iteP_f (fun h => h.elim h_44 (fun q => absurd q (fa_le_nlt h_53)))]))
      · refine xv_al0 fX11_keeps_56 ?_
        refine xv_il1 fX11_keeps_57 ?_
        refine xv_putI fX11_keeps_58 gX11_182 rfl (tp11_43 _) (sx_60 _ _) ⟨rfl, rfl⟩ ?_
        refine xv_al0 fX11_keeps_61 ?_
        refine xv_il10 fX11_keeps_62 ?_
        refine xv_putI fX11_keeps_64 gX11_185 rfl (tp11_47 _) (sx_60 _ _) ⟨rfl, rfl⟩ ?_
        refine xv_al0 fX11_keeps_67 ?_
        refine xv_getR fX11_keeps_68 gX11_113 rfl (sx_60 _ _) (rx_60_44 _) ?_
        refine xv_k fX11_keeps_71 ?_
        refine xv_il2 fX11_keeps_72 ?_
        refine xv_iastN fX11_keeps_73 (sx_95 _ _) (⟨by decide, by decide⟩) ?_
        refine xv_al0 fX11_keeps_74 ?_
        refine xv_getR fX11_keeps_75 gX11_116 rfl (sx_60 _ _) (rx_60_45 _) ?_
        refine xv_k fX11_keeps_78 ?_
        refine xv_il3 fX11_keeps_79 ?_
        refine xv_iastN fX11_keeps_80 (sx_96 _ _) (⟨by decide, by decide⟩) ?_
        refine xv_al0 fX11_keeps_81 ?_
        refine xv_getR fX11_keeps_82 gX11_119 rfl (sx_60 _ _) (rx_60_46 _) ?_
        refine xv_k fX11_keeps_85 ?_
        refine xv_il4 fX11_keeps_86 ?_
        refine xv_iastN fX11_keeps_88 (sx_97 _ _) (⟨by decide, by decide⟩) ?_
        refine xv_al0 fX11_keeps_89 ?_
        refine xv_getR fX11_keeps_90 gX11_113 rfl (sx_60 _ _) (rx_60_44 _) ?_
        refine xv_k fX11_keeps_93 ?_
        refine xv_il5 fX11_keeps_94 ?_
        refine xv_iastN fX11_keeps_96 (sx_95 _ _) (⟨by decide, by decide⟩) ?_
        refine xv_al0 fX11_keeps_97 ?_
        refine xv_getR fX11_keeps_98 gX11_116 rfl (sx_60 _ _) (rx_60_45 _) ?_
        refine xv_k fX11_keeps_101 ?_
        refine xv_il6 fX11_keeps_102 ?_
        refine xv_iastN fX11_keeps_104 (sx_96 _ _) (⟨by decide, by decide⟩) ?_
        refine xv_al0 fX11_keeps_105 ?_
        refine xv_getR fX11_keeps_106 gX11_119 rfl (sx_60 _ _) (rx_60_46 _) ?_
        refine xv_k fX11_keeps_109 ?_
        refine xv_il7 fX11_keeps_110 ?_
        refine xv_iastN fX11_keeps_112 (sx_97 _ _) (⟨by decide, by decide⟩) ?_
        exact xv_vret fX11_keeps_113 rfl (xv_eq_I rfl (by rw [mKeep, iteP_t (show I 60 43 = 0 ∨ (mCo1 I g p) < I 60 47 from Or.inr (fa_of_nle h_53))]; rfl))
  · exact absurd h_10 (by decide)

theorem m_keeps2 (n : Nat) (c : Nat × Nat) (I : xv_I) (J : xv_J) {p : Nat} {f z f2 z2 g : Int32} (hp : p < 10) {q : Nat} (hq : q < 10) : xv_Met mX11_keeps 1 0 0 (sx n c) I (rx c) J [.ref 60, .int (nI 2), .int (nI p), .int f, .int z, .int (nI q), .int f2, .int z2, .int g] (xv_eq (.inl none) (sx n c) (mKeep I (nI 2) (mCo2 I g p q) (nI p) f z ((nI q)) f2 z2) (rx c) J) := by
  refine xv_Met.of (by decide +kernel) (Nat.le_of_ble_eq_true rfl) (List.forall_mem_cons.mpr ⟨rfl, List.forall_mem_cons.mpr ⟨rfl, List.forall_mem_cons.mpr ⟨rfl, List.forall_mem_cons.mpr ⟨rfl, List.forall_mem_cons.mpr ⟨rfl, List.forall_mem_cons.mpr ⟨rfl, List.forall_mem_cons.mpr ⟨rfl, List.forall_mem_cons.mpr ⟨rfl, List.forall_mem_cons.mpr ⟨rfl, fun _ h => nomatch h⟩⟩⟩⟩⟩⟩⟩⟩⟩) ?_
  show xv_W mX11_keeps 1 0 0 _ 0 0 (sx n c) I (rx c) J 0 [some (.ref 60), some (.int (nI 2)), some (.int (nI p)), some (.int f), some (.int z), some (.int (nI q)), some (.int f2), some (.int z2), some (.int g), none, none] []
  refine xv_il8 fX11_keeps_0 ?_
  refine xv_k fX11_keeps_2 ?_
  refine xv_il2 fX11_keeps_3 ?_
  refine xv_k fX11_keeps_4 ?_
  refine xv_idiv fX11_keeps_5 (by decide) ?_
  rw [nI_div (by omega) (by decide)]
  refine xv_ishl fX11_keeps_6 ?_
  rw [sh1 _ (by omega)]
  refine xv_ior fX11_keeps_7 ?_
  refine xv_il1 fX11_keeps_8 ?_
  refine xv_k fX11_keeps_9 ?_
  refine xv_ic_ne fX11_keeps_10 (fun h_10 => ?_) (fun h_10 => ?_)
  · exact absurd h_10 (by decide)
  · refine xv_k fX11_keeps_13 ?_
    refine xv_il5 fX11_keeps_14 ?_
    refine xv_k fX11_keeps_16 ?_
    refine xv_idiv fX11_keeps_17 (by decide) ?_
    rw [nI_div (by omega) (by decide)]
    refine xv_ishl fX11_keeps_18 ?_
    rw [sh1 _ (by omega)]
    refine xv_goto fX11_keeps_19 ?_
    refine xv_ior fX11_keeps_23 ?_
    refine xv_is9 fX11_keeps_24 ?_
    refine xv_il9 fX11_keeps_26 ?_
    refine xv_al0 fX11_keeps_28 ?_
    refine xv_getI fX11_keeps_29 gX11_144 rfl (sx_60 _ _) ?_
    refine xv_k fX11_keeps_32 ?_
    refine xv_ixor fX11_keeps_33 ?_
    refine xv_iand fX11_keeps_34 ?_
    refine xv_callS1R (m_size n c _ J _) fX11_keeps_35 YX11_size VX11_size lX11_179 rfl (Nat.le_of_ble_eq_true rfl) (by decide) (by decide) (by decide) ?_
    refine xv_is10 fX11_keeps_38 ?_
    refine xv_al0 fX11_keeps_40 ?_
    refine xv_getI fX11_keeps_41 gX11_182 rfl (sx_60 _ _) ?_
    refine xv_if_eq fX11_keeps_44 (fun h_44 => ?_) (fun h_44 => ?_)
    · refine xv_al0 fX11_keeps_56 ?_
      refine xv_il1 fX11_keeps_57 ?_
      refine xv_putI fX11_keeps_58 gX11_182 rfl (tp11_43 _) (sx_60 _ _) ⟨rfl, rfl⟩ ?_
      refine xv_al0 fX11_keeps_61 ?_
      refine xv_il10 fX11_keeps_62 ?_
      refine xv_putI fX11_keeps_64 gX11_185 rfl (tp11_47 _) (sx_60 _ _) ⟨rfl, rfl⟩ ?_
      refine xv_al0 fX11_keeps_67 ?_
      refine xv_getR fX11_keeps_68 gX11_113 rfl (sx_60 _ _) (rx_60_44 _) ?_
      refine xv_k fX11_keeps_71 ?_
      refine xv_il2 fX11_keeps_72 ?_
      refine xv_iastN fX11_keeps_73 (sx_95 _ _) (⟨by decide, by decide⟩) ?_
      refine xv_al0 fX11_keeps_74 ?_
      refine xv_getR fX11_keeps_75 gX11_116 rfl (sx_60 _ _) (rx_60_45 _) ?_
      refine xv_k fX11_keeps_78 ?_
      refine xv_il3 fX11_keeps_79 ?_
      refine xv_iastN fX11_keeps_80 (sx_96 _ _) (⟨by decide, by decide⟩) ?_
      refine xv_al0 fX11_keeps_81 ?_
      refine xv_getR fX11_keeps_82 gX11_119 rfl (sx_60 _ _) (rx_60_46 _) ?_
      refine xv_k fX11_keeps_85 ?_
      refine xv_il4 fX11_keeps_86 ?_
      refine xv_iastN fX11_keeps_88 (sx_97 _ _) (⟨by decide, by decide⟩) ?_
      refine xv_al0 fX11_keeps_89 ?_
      refine xv_getR fX11_keeps_90 gX11_113 rfl (sx_60 _ _) (rx_60_44 _) ?_
      refine xv_k fX11_keeps_93 ?_
      refine xv_il5 fX11_keeps_94 ?_
      refine xv_iastN fX11_keeps_96 (sx_95 _ _) (⟨by decide, by decide⟩) ?_
      refine xv_al0 fX11_keeps_97 ?_
      refine xv_getR fX11_keeps_98 gX11_116 rfl (sx_60 _ _) (rx_60_45 _) ?_
      refine xv_k fX11_keeps_101 ?_
      refine xv_il6 fX11_keeps_102 ?_
      refine xv_iastN fX11_keeps_104 (sx_96 _ _) (⟨by decide, by decide⟩) ?_
      refine xv_al0 fX11_keeps_105 ?_
      refine xv_getR fX11_keeps_106 gX11_119 rfl (sx_60 _ _) (rx_60_46 _) ?_
      refine xv_k fX11_keeps_109 ?_
      refine xv_il7 fX11_keeps_110 ?_
      refine xv_iastN fX11_keeps_112 (sx_97 _ _) (⟨by decide, by decide⟩) ?_
      exact xv_vret fX11_keeps_113 rfl (xv_eq_I rfl (by rw [mKeep, iteP_t (show I 60 43 = 0 ∨ (mCo2 I g p q) < I 60 47 from Or.inl h_44)]; rfl))
    · refine xv_il10 fX11_keeps_47 ?_
      refine xv_al0 fX11_keeps_49 ?_
      refine xv_getI fX11_keeps_50 gX11_185 rfl (sx_60 _ _) ?_
      refine xv_ic_ge fX11_keeps_53 (fun h_53 => ?_) (fun h_53 => ?_)
      · exact xv_vret fX11_keeps_113 rfl (xv_eq_I rfl (by rw [mKeep, iteP_f (fun h => h.elim h_44 (fun q => absurd q (fa_le_nlt h_53)))]))
      · refine xv_al0 fX11_keeps_56 ?_
        refine xv_il1 fX11_keeps_57 ?_
        refine xv_putI fX11_keeps_58 gX11_182 rfl (tp11_43 _) (sx_60 _ _) ⟨rfl, rfl⟩ ?_
        refine xv_al0 fX11_keeps_61 ?_
        refine xv_il10 fX11_keeps_62 ?_
        refine xv_putI fX11_keeps_64 gX11_185 rfl (tp11_47 _) (sx_60 _ _) ⟨rfl, rfl⟩ ?_
        refine xv_al0 fX11_keeps_67 ?_
        refine xv_getR fX11_keeps_68 gX11_113 rfl (sx_60 _ _) (rx_60_44 _) ?_
        refine xv_k fX11_keeps_71 ?_
        refine xv_il2 fX11_keeps_72 ?_
        refine xv_iastN fX11_keeps_73 (sx_95 _ _) (⟨by decide, by decide⟩) ?_
        refine xv_al0 fX11_keeps_74 ?_
        refine xv_getR fX11_keeps_75 gX11_116 rfl (sx_60 _ _) (rx_60_45 _) ?_
        refine xv_k fX11_keeps_78 ?_
        refine xv_il3 fX11_keeps_79 ?_
        refine xv_iastN fX11_keeps_80 (sx_96 _ _) (⟨by decide, by decide⟩) ?_
        refine xv_al0 fX11_keeps_81 ?_
        refine xv_getR fX11_keeps_82 gX11_119 rfl (sx_60 _ _) (rx_60_46 _) ?_
        refine xv_k fX11_keeps_85 ?_
        refine xv_il4 fX11_keeps_86 ?_
        refine xv_iastN fX11_keeps_88 (sx_97 _ _) (⟨by decide, by decide⟩) ?_
        refine xv_al0 fX11_keeps_89 ?_
        refine xv_getR fX11_keeps_90 gX11_113 rfl (sx_60 _ _) (rx_60_44 _) ?_
        refine xv_k fX11_keeps_93 ?_
        refine xv_il5 fX11_keeps_94 ?_
        refine xv_iastN fX11_keeps_96 (sx_95 _ _) (⟨by decide, by decide⟩) ?_
        refine xv_al0 fX11_keeps_97 ?_
        refine xv_getR fX11_keeps_98 gX11_116 rfl (sx_60 _ _) (rx_60_45 _) ?_
        refine xv_k fX11_keeps_101 ?_
        refine xv_il6 fX11_keeps_102 ?_
        refine xv_iastN fX11_keeps_104 (sx_96 _ _) (⟨by decide, by decide⟩) ?_
        refine xv_al0 fX11_keeps_105 ?_
        refine xv_getR fX11_keeps_106 gX11_119 rfl (sx_60 _ _) (rx_60_46 _) ?_
        refine xv_k fX11_keeps_109 ?_
        refine xv_il7 fX11_keeps_110 ?_
        refine xv_iastN fX11_keeps_112 (sx_97 _ _) (⟨by decide, by decide⟩) ?_
        exact xv_vret fX11_keeps_113 rfl (xv_eq_I rfl (by rw [mKeep, iteP_t (show I 60 43 = 0 ∨ (mCo2 I g p q) < I 60 47 from Or.inr (fa_of_nle h_53))]; rfl))
