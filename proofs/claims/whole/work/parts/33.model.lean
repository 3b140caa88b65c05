theorem xv_il14 {M : xv_M} {d mc ms kc ks : Nat} {Q : xv_Q} {sh : xv_Sh} {I : xv_I} {Rf : xv_Rf} {J : xv_J} {pc pc' : Nat} {L : List (Option Value)} {S : List Value} {l0 l1 l2 l3 l4 l5 l6 l7 l8 l9 l10 l11 l12 l13 : Option Value} {x : Int32} (hf : xv_LI M pc 14 pc') (k : xv_W M d mc ms Q kc ks sh I Rf J pc' (l0 :: l1 :: l2 :: l3 :: l4 :: l5 :: l6 :: l7 :: l8 :: l9 :: l10 :: l11 :: l12 :: l13 :: some (.int x) :: L) (.int x :: S)) : xv_W M d mc ms Q kc ks sh I Rf J pc (l0 :: l1 :: l2 :: l3 :: l4 :: l5 :: l6 :: l7 :: l8 :: l9 :: l10 :: l11 :: l12 :: l13 :: some (.int x) :: L) S := xv_il hf rfl k
theorem xv_is14 {M : xv_M} {d mc ms kc ks : Nat} {Q : xv_Q} {sh : xv_Sh} {I : xv_I} {Rf : xv_Rf} {J : xv_J} {pc pc' : Nat} {L : List (Option Value)} {S : List Value} {l0 l1 l2 l3 l4 l5 l6 l7 l8 l9 l10 l11 l12 l13 : Option Value} {x : Int32} {z : Option Value} (hf : xv_SI M pc 14 pc') (k : xv_W M d mc ms Q kc ks sh I Rf J pc' (l0 :: l1 :: l2 :: l3 :: l4 :: l5 :: l6 :: l7 :: l8 :: l9 :: l10 :: l11 :: l12 :: l13 :: some (.int x) :: L) S) : xv_W M d mc ms Q kc ks sh I Rf J pc (l0 :: l1 :: l2 :: l3 :: l4 :: l5 :: l6 :: l7 :: l8 :: l9 :: l10 :: l11 :: l12 :: l13 :: z :: L) (.int x :: S) := xv_is hf (by simp only [List.length_cons]; omega) k
/-- whether another way counts -/
abbrev mMay (I : xv_I) (b : Int32) : Prop := I 60 43 = 0 ∨ b = 0
noncomputable abbrev mRun (I : xv_I) (p : Nat) (y : Int32) (z : Nat) : Int32 := xRun (mOpen I p y) z 12 0 0
noncomputable def mOne1 (sc y b g : Int32) (z p : Nat) (I : xv_I) : xv_I := iteP ((I 61 p = sc ∧ ¬ mRun I p y z = -1) ∧ mMay I b) (mKeep I (nI 1) (mCo1 I g p) (nI p) (mRun I p y z) (nI z) (nI 0) (nI 0) (nI 0)) I
noncomputable def mTwo2 (y b g f : Int32) (z1 z2 p q : Nat) (I : xv_I) : xv_I := iteP ((I 61 q = 0 ∧ ¬ mRun I q y z2 = -1) ∧ mMay I b) (mKeep I (nI 2) (mCo2 I g p q) (nI p) f (nI z1) (nI q) (mRun I q y z2) (nI z2)) I
noncomputable def mTwo1 (sc y b g : Int32) (z1 z2 p : Nat) (I : xv_I) : xv_I := iteP (I 61 p = sc ∧ ¬ mRun I p y z1 = -1) (it (mTwo2 y b g (mRun I p y z1) z1 z2 p) (7 - (p + 1)) (p + 1) I) I
noncomputable def mTwoA (sc y b g : Int32) (cz : Nat → Nat → Nat) (k h : Nat) (I : xv_I) : xv_I := it (mTwo1 sc y b g (cz 0 h) (cz h k)) 7 0 I
noncomputable def mTwoL (sc y b g : Int32) (cz : Nat → Nat → Nat) (k : Nat) : Nat → xv_I → xv_I
  | 0, I => I
  | h + 1, I => mTwoL sc y b g cz k h (mTwoA sc y b g cz k (h + 1) I)
noncomputable def mOneA (sc y b g : Int32) (z : Nat) (I : xv_I) : xv_I := it (mOne1 sc y b g z) 7 0 (xv_u I 60 43 (nI 0))
noncomputable def mWays (sc y b g : Int32) (cz : Nat → Nat → Nat) (k : Nat) (I : xv_I) : xv_I := if mOneA sc y b g (cz 0 k) I 60 43 ≤ 0 then mTwoL sc y b g cz k (k - 1) (mOneA sc y b g (cz 0 k) I) else mOneA sc y b g (cz 0 k) I
abbrev mOut_ (v j : Nat) : Prop := (v < 95 ∨ 97 < v) ∧ (v ≠ 60 ∨ (j ≠ 43 ∧ j ≠ 47))
theorem mOne1_o (I : xv_I) {sc y b g : Int32} {z p v j : Nat} (h : mOut_ v j) : mOne1 sc y b g z p I v j = I v j := by
  unfold mOne1
  by_cases h9 : (I 61 p = sc ∧ ¬ mRun I p y z = -1) ∧ mMay I b
  · rw [iteP_t h9, mKeep_o _ h.1 h.2]
  · rw [iteP_f h9]
theorem mTwo2_o (I : xv_I) {y b g f : Int32} {z1 z2 p q v j : Nat} (h : mOut_ v j) : mTwo2 y b g f z1 z2 p q I v j = I v j := by
  unfold mTwo2
  by_cases h9 : (I 61 q = 0 ∧ ¬ mRun I q y z2 = -1) ∧ mMay I b
  · rw [iteP_t h9, mKeep_o _ h.1 h.2]
  · rw [iteP_f h9]
theorem mTwo1_o (I : xv_I) {sc y b g : Int32} {z1 z2 p v j : Nat} (h : mOut_ v j) : mTwo1 sc y b g z1 z2 p I v j = I v j := by
  unfold mTwo1
  by_cases h9 : I 61 p = sc ∧ ¬ mRun I p y z1 = -1
  · rw [iteP_t h9]
    exact it_inv (fun s : xv_I => s v j = I v j) (fun k s hs => (mTwo2_o _ h).trans hs) _ _ _ rfl
  · rw [iteP_f h9]
theorem mTwoA_o (I : xv_I) {sc y b g : Int32} {cz : Nat → Nat → Nat} {k q v j : Nat} (h : mOut_ v j) : mTwoA sc y b g cz k q I v j = I v j := it_inv (fun s : xv_I => s v j = I v j) (fun k s hs => (mTwo1_o _ h).trans hs) _ _ _ rfl
theorem mTwoL_o {sc y b g : Int32} {cz : Nat → Nat → Nat} {k v j : Nat} (h : mOut_ v j) : ∀ (q : Nat) (I : xv_I), mTwoL sc y b g cz k q I v j = I v j
  | 0, _ => rfl
  | q + 1, I => by rw [mTwoL, mTwoL_o h q, mTwoA_o _ h]
theorem mOneA_o (I : xv_I) {sc y b g : Int32} {z v j : Nat} (h : mOut_ v j) : mOneA sc y b g z I v j = I v j := by
  unfold mOneA
  refine it_inv (fun s : xv_I => s v j = I v j) (fun k s hs => (mOne1_o _ h).trans hs) _ _ _ ?_
  rcases h.2 with q | q
  · exact xv_u_ne _ _ _ q
  · exact xv_u_nk _ _ _ q.1
theorem mWays_o (I : xv_I) {sc y b g : Int32} {cz : Nat → Nat → Nat} {k v j : Nat} (h : mOut_ v j) : mWays sc y b g cz k I v j = I v j := by
  unfold mWays
  split
  · rw [mTwoL_o h, mOneA_o _ h]
  · rw [mOneA_o _ h]
/-- the story as the model has it -/
abbrev mStH (I : xv_I) (s np lo : Nat) (cz : Nat → Nat → Nat) (sc : Int32) : Prop := I 72 s = sc ∧ I 73 s = nI np ∧ I 75 s = nI lo ∧ 1 ≤ lo ∧ lo ≤ np ∧ np ≤ 6 ∧ ∀ f t, f < t → t ≤ np → mCells I s f t = nI (cz f t) ∧ 0 < cz f t ∧ cz f t ≤ 100
theorem mCells_to {I I' : xv_I} {s f t : Nat} (h : ∀ j, I' 74 j = I 74 j) : mCells I' s f t = mCells I s f t := by
  unfold mCells
  rw [show mSum1 I' s = mSum1 I s from funext fun k => funext fun x => by unfold mSum1; rw [h]]
theorem mStH.to {I I' : xv_I} {s np lo : Nat} {cz : Nat → Nat → Nat} {sc : Int32} (h : mStH I s np lo cz sc) (h2 : ∀ v j, (v = 72 ∨ v = 73 ∨ v = 74 ∨ v = 75) → I' v j = I v j) : mStH I' s np lo cz sc := by
  refine ⟨(h2 _ _ (by omega)).trans h.1, (h2 _ _ (by omega)).trans h.2.1, (h2 _ _ (by omega)).trans h.2.2.1, h.2.2.2.1, h.2.2.2.2.1, h.2.2.2.2.2.1, fun f t h3 h4 => ?_⟩
  rw [mCells_to fun j => h2 _ _ (by omega)]
  exact h.2.2.2.2.2.2 f t h3 h4
theorem l_wA (n : Nat) (c : Nat × Nat) (J : xv_J) {s u z : Nat} {sc y b g : Int32} (hs : s < 20) (hz : 0 < z) (hz2 : z ≤ 100) {Q : xv_Q} : ∀ (m k : Nat) (I : xv_I) (l8 : Option Value), k + m = 7 → (I 72 s = sc) → (∀ l8, xv_W mX11_ways 4 0 0 Q 0 0 (sx n c) (it (mOne1 sc y b g z) m k I) (rx c) J 111 (some (.ref 60) :: some (.int (nI s)) :: some (.int (nI u)) :: some (.int y) :: some (.int b) :: some (.int g) :: some (.int (nI z)) :: some (.int (nI 7)) :: l8 :: none :: none :: none :: none :: none :: none :: []) []) → xv_W mX11_ways 4 0 0 Q 0 0 (sx n c) I (rx c) J 33 (some (.ref 60) :: some (.int (nI s)) :: some (.int (nI u)) :: some (.int y) :: some (.int b) :: some (.int g) :: some (.int (nI z)) :: some (.int (nI k)) :: l8 :: none :: none :: none :: none :: none :: none :: []) [] := by
  intro m
  induction m with
  | zero =>
    intro k I l8 hm i0 i1
    obtain rfl : k = 7 := by omega
    refine xv_il7 fX11_ways_33 ?_
    refine xv_k fX11_ways_35 ?_
    refine xv_ic_ge fX11_ways_37 (fun h_37 => ?_) (fun h_37 => ?_)
    · exact i1 _
    · exact absurd (nI_le (Nat.le_refl _) (by decide)) h_37
  | succ m ih =>
    intro k I l8 hm i0 i1
    have hk : k < 7 := by omega
    show xv_W mX11_ways 4 0 0 _ 0 0 (sx n c) I (rx c) J 33 (some (.ref 60) :: some (.int (nI s)) :: some (.int (nI u)) :: some (.int y) :: some (.int b) :: some (.int g) :: some (.int (nI z)) :: some (.int (nI k)) :: l8 :: none :: none :: none :: none :: none :: none :: []) []
    refine xv_il7 fX11_ways_33 ?_
    refine xv_k fX11_ways_35 ?_
    refine xv_ic_ge fX11_ways_37 (fun h_37 => ?_) (fun h_37 => ?_)
    · exact absurd h_37 (nI_ge hk (by decide))
    · refine xv_al0 fX11_ways_40 ?_
      refine xv_getR fX11_ways_41 gX11_7 rfl (sx_60 _ _) (rx_60_0 _) ?_
      refine xv_il7 fX11_ways_44 ?_
      refine xv_ialdN fX11_ways_46 (sx_61 _ _) (⟨by omega, by decide⟩) ?_
      refine xv_al0 fX11_ways_47 ?_
      refine xv_getR fX11_ways_48 gX11_44 rfl (sx_60 _ _) (rx_60_14 _) ?_
      refine xv_il1 fX11_ways_51 ?_
      refine xv_ialdN fX11_ways_52 (sx_72 _ _) (⟨by omega, by decide⟩) ?_
      rw [i0]
      refine xv_ic_ne fX11_ways_53 (fun h_53 => ?_) (fun h_53 => ?_)
      · refine xv_k fX11_ways_68 ?_
        refine xv_is8 fX11_ways_69 ?_
        refine xv_il8 fX11_ways_71 ?_
        refine xv_k fX11_ways_73 ?_
        refine xv_ic_eq fX11_ways_74 (fun h_74 => ?_) (fun h_74 => ?_)
        · refine xv_iincN7 (a := 1) fX11_ways_105 (by decide) ?_
          refine xv_goto fX11_ways_108 ?_
          refine xv_eqI (I' := mOne1 sc y b g z k I) (by rw [mOne1, iteP_f (fun h => h_53 h.1.1)]) ?_
          exact ih (k + 1) _ _ (by omega) ((mOne1_o _ ⟨Or.inl (by decide), Or.inl (by decide)⟩).trans i0) i1
        · exact absurd h_74 (by decide)
      · refine xv_al0 fX11_ways_56 ?_
        refine xv_il7 fX11_ways_57 ?_
        refine xv_il6 fX11_ways_59 ?_
        refine xv_il3 fX11_ways_61 ?_
        refine xv_callV3R (m_first n c _ J (p := k) (by omega) hz hz2) fX11_ways_62 YX11_firstFor VX11_firstFor lX11_195 rfl rfl (sx_60 _ _) (Nat.le_of_ble_eq_true rfl) (by decide) (by decide) (by decide) ?_
        refine xv_goto fX11_ways_65 ?_
        refine xv_is8 fX11_ways_69 ?_
        refine xv_il8 fX11_ways_71 ?_
        refine xv_k fX11_ways_73 ?_
        refine xv_ic_eq fX11_ways_74 (fun h_74 => ?_) (fun h_74 => ?_)
        · refine xv_iincN7 (a := 1) fX11_ways_105 (by decide) ?_
          refine xv_goto fX11_ways_108 ?_
          refine xv_eqI (I' := mOne1 sc y b g z k I) (by rw [mOne1, iteP_f (fun h => h.1.2 h_74)]) ?_
          exact ih (k + 1) _ _ (by omega) ((mOne1_o _ ⟨Or.inl (by decide), Or.inl (by decide)⟩).trans i0) i1
        · refine xv_al0 fX11_ways_77 ?_
          refine xv_getI fX11_ways_78 gX11_182 rfl (sx_60 _ _) ?_
          refine xv_if_eq fX11_ways_81 (fun h_81 => ?_) (fun h_81 => ?_)
          · refine xv_al0 fX11_ways_89 ?_
            refine xv_k fX11_ways_90 ?_
            refine xv_il7 fX11_ways_91 ?_
            refine xv_il8 fX11_ways_93 ?_
            refine xv_il6 fX11_ways_95 ?_
            refine xv_k fX11_ways_97 ?_
            refine xv_k fX11_ways_98 ?_
            refine xv_k fX11_ways_99 ?_
            refine xv_il5 fX11_ways_100 ?_
            refine xv_callV8V (m_keeps1 n c _ J (p := k) (by omega)) fX11_ways_102 YX11_keeps VX11_keeps lX11_198 rfl rfl (sx_60 _ _) (Nat.le_of_ble_eq_true rfl) (by decide) (by decide) (by decide) ?_
            refine xv_iincN7 (a := 1) fX11_ways_105 (by decide) ?_
            refine xv_goto fX11_ways_108 ?_
            refine xv_eqI (I' := mOne1 sc y b g z k I) (by rw [mOne1, iteP_t ⟨⟨h_53, h_74⟩, Or.inl h_81⟩]) ?_
            exact ih (k + 1) _ _ (by omega) ((mOne1_o _ ⟨Or.inl (by decide), Or.inl (by decide)⟩).trans i0) i1
          · refine xv_il4 fX11_ways_84 ?_
            refine xv_if_ne fX11_ways_86 (fun h_86 => ?_) (fun h_86 => ?_)
            · refine xv_iincN7 (a := 1) fX11_ways_105 (by decide) ?_
              refine xv_goto fX11_ways_108 ?_
              refine xv_eqI (I' := mOne1 sc y b g z k I) (by rw [mOne1, iteP_f (fun h => h.2.elim h_81 h_86)]) ?_
              exact ih (k + 1) _ _ (by omega) ((mOne1_o _ ⟨Or.inl (by decide), Or.inl (by decide)⟩).trans i0) i1
            · refine xv_al0 fX11_ways_89 ?_
              refine xv_k fX11_ways_90 ?_
              refine xv_il7 fX11_ways_91 ?_
              refine xv_il8 fX11_ways_93 ?_
              refine xv_il6 fX11_ways_95 ?_
              refine xv_k fX11_ways_97 ?_
              refine xv_k fX11_ways_98 ?_
              refine xv_k fX11_ways_99 ?_
              refine xv_il5 fX11_ways_100 ?_
              refine xv_callV8V (m_keeps1 n c _ J (p := k) (by omega)) fX11_ways_102 YX11_keeps VX11_keeps lX11_198 rfl rfl (sx_60 _ _) (Nat.le_of_ble_eq_true rfl) (by decide) (by decide) (by decide) ?_
              refine xv_iincN7 (a := 1) fX11_ways_105 (by decide) ?_
              refine xv_goto fX11_ways_108 ?_
              refine xv_eqI (I' := mOne1 sc y b g z k I) (by rw [mOne1, iteP_t ⟨⟨h_53, h_74⟩, Or.inr h_86⟩]) ?_
              exact ih (k + 1) _ _ (by omega) ((mOne1_o _ ⟨Or.inl (by decide), Or.inl (by decide)⟩).trans i0) i1

theorem l_wC (n : Nat) (c : Nat × Nat) (J : xv_J) {s u z h z1 z2 : Nat} {y b g : Int32} (hs : s < 20) (hz : 0 < z1) (hz2 : z1 ≤ 100) (hy : 0 < z2) (hy2 : z2 ≤ 100) {p : Nat} {f : Int32} (hp : p < 7) (hf : ¬ f = -1) {Q : xv_Q} : ∀ (m k : Nat) (I : xv_I) (l14 : Option Value), k + m = 7 → (∀ l14, xv_W mX11_ways 4 0 0 Q 0 0 (sx n c) (it (mTwo2 y b g f z1 z2 p) m k I) (rx c) J 288 (some (.ref 60) :: some (.int (nI s)) :: some (.int (nI u)) :: some (.int y) :: some (.int b) :: some (.int g) :: some (.int (nI z)) :: some (.int (nI 0)) :: some (.int (nI h)) :: some (.int (nI z1)) :: some (.int (nI z2)) :: some (.int (nI p)) :: some (.int f) :: some (.int (nI 7)) :: l14 :: []) []) → xv_W mX11_ways 4 0 0 Q 0 0 (sx n c) I (rx c) J 207 (some (.ref 60) :: some (.int (nI s)) :: some (.int (nI u)) :: some (.int y) :: some (.int b) :: some (.int g) :: some (.int (nI z)) :: some (.int (nI 0)) :: some (.int (nI h)) :: some (.int (nI z1)) :: some (.int (nI z2)) :: some (.int (nI p)) :: some (.int f) :: some (.int (nI k)) :: l14 :: []) [] := by
  intro m
  induction m with
  | zero =>
    intro k I l14 hm i0
    obtain rfl : k = 7 := by omega
    refine xv_il13 fX11_ways_207 ?_
    refine xv_k fX11_ways_209 ?_
    refine xv_ic_ge fX11_ways_211 (fun h_211 => ?_) (fun h_211 => ?_)
    · exact i0 _
    · exact absurd (nI_le (Nat.le_refl _) (by decide)) h_211
  | succ m ih =>
    intro k I l14 hm i0
    have hk : k < 7 := by omega
    show xv_W mX11_ways 4 0 0 _ 0 0 (sx n c) I (rx c) J 207 (some (.ref 60) :: some (.int (nI s)) :: some (.int (nI u)) :: some (.int y) :: some (.int b) :: some (.int g) :: some (.int (nI z)) :: some (.int (nI 0)) :: some (.int (nI h)) :: some (.int (nI z1)) :: some (.int (nI z2)) :: some (.int (nI p)) :: some (.int f) :: some (.int (nI k)) :: l14 :: []) []
    refine xv_il13 fX11_ways_207 ?_
    refine xv_k fX11_ways_209 ?_
    refine xv_ic_ge fX11_ways_211 (fun h_211 => ?_) (fun h_211 => ?_)
    · exact absurd h_211 (nI_ge hk (by decide))
    · refine xv_il12 fX11_ways_214 ?_
      refine xv_k fX11_ways_216 ?_
      refine xv_ic_eq fX11_ways_217 (fun h_217 => ?_) (fun h_217 => ?_)
      · exact absurd h_217 hf
      · refine xv_al0 fX11_ways_220 ?_
        refine xv_getR fX11_ways_221 gX11_7 rfl (sx_60 _ _) (rx_60_0 _) ?_
        refine xv_il13 fX11_ways_224 ?_
        refine xv_ialdN fX11_ways_226 (sx_61 _ _) (⟨by omega, by decide⟩) ?_
        refine xv_if_ne fX11_ways_227 (fun h_227 => ?_) (fun h_227 => ?_)
        · refine xv_k fX11_ways_242 ?_
          refine xv_is14 fX11_ways_243 ?_
          refine xv_il14 fX11_ways_245 ?_
          refine xv_k fX11_ways_247 ?_
          refine xv_ic_eq fX11_ways_248 (fun h_248 => ?_) (fun h_248 => ?_)
          · refine xv_iincN13 (a := 1) fX11_ways_282 (by decide) ?_
            refine xv_goto fX11_ways_285 ?_
            refine xv_eqI (I' := mTwo2 y b g f z1 z2 p k I) (by rw [mTwo2, iteP_f (fun h => h_227 h.1.1)]) ?_
            exact ih (k + 1) _ _ (by omega) i0
          · exact absurd h_248 (by decide)
        · refine xv_al0 fX11_ways_230 ?_
          refine xv_il13 fX11_ways_231 ?_
          refine xv_il10 fX11_ways_233 ?_
          refine xv_il3 fX11_ways_235 ?_
          refine xv_callV3R (m_first n c _ J (p := k) (by omega) hy hy2) fX11_ways_236 YX11_firstFor VX11_firstFor lX11_195 rfl rfl (sx_60 _ _) (Nat.le_of_ble_eq_true rfl) (by decide) (by decide) (by decide) ?_
          refine xv_goto fX11_ways_239 ?_
          refine xv_is14 fX11_ways_243 ?_
          refine xv_il14 fX11_ways_245 ?_
          refine xv_k fX11_ways_247 ?_
          refine xv_ic_eq fX11_ways_248 (fun h_248 => ?_) (fun h_248 => ?_)
          · refine xv_iincN13 (a := 1) fX11_ways_282 (by decide) ?_
            refine xv_goto fX11_ways_285 ?_
            refine xv_eqI (I' := mTwo2 y b g f z1 z2 p k I) (by rw [mTwo2, iteP_f (fun h => h.1.2 h_248)]) ?_
            exact ih (k + 1) _ _ (by omega) i0
          · refine xv_al0 fX11_ways_251 ?_
            refine xv_getI fX11_ways_252 gX11_182 rfl (sx_60 _ _) ?_
            refine xv_if_eq fX11_ways_255 (fun h_255 => ?_) (fun h_255 => ?_)
            · refine xv_al0 fX11_ways_263 ?_
              refine xv_k fX11_ways_264 ?_
              refine xv_il11 fX11_ways_265 ?_
              refine xv_il12 fX11_ways_267 ?_
              refine xv_il9 fX11_ways_269 ?_
              refine xv_il13 fX11_ways_271 ?_
              refine xv_il14 fX11_ways_273 ?_
              refine xv_il10 fX11_ways_275 ?_
              refine xv_il5 fX11_ways_277 ?_
              refine xv_callV8V (m_keeps2 n c _ J (p := p) (by omega) (q := k) (by omega)) fX11_ways_279 YX11_keeps VX11_keeps lX11_198 rfl rfl (sx_60 _ _) (Nat.le_of_ble_eq_true rfl) (by decide) (by decide) (by decide) ?_
              refine xv_iincN13 (a := 1) fX11_ways_282 (by decide) ?_
              refine xv_goto fX11_ways_285 ?_
              refine xv_eqI (I' := mTwo2 y b g f z1 z2 p k I) (by rw [mTwo2, iteP_t ⟨⟨h_227, h_248⟩, Or.inl h_255⟩]) ?_
              exact ih (k + 1) _ _ (by omega) i0
            · refine xv_il4 fX11_ways_258 ?_
              refine xv_if_ne fX11_ways_260 (fun h_260 => ?_) (fun h_260 => ?_)
              · refine xv_iincN13 (a := 1) fX11_ways_282 (by decide) ?_
                refine xv_goto fX11_ways_285 ?_
                refine xv_eqI (I' := mTwo2 y b g f z1 z2 p k I) (by rw [mTwo2, iteP_f (fun h => h.2.elim h_255 h_260)]) ?_
                exact ih (k + 1) _ _ (by omega) i0
              · refine xv_al0 fX11_ways_263 ?_
                refine xv_k fX11_ways_264 ?_
                refine xv_il11 fX11_ways_265 ?_
                refine xv_il12 fX11_ways_267 ?_
                refine xv_il9 fX11_ways_269 ?_
                refine xv_il13 fX11_ways_271 ?_
                refine xv_il14 fX11_ways_273 ?_
                refine xv_il10 fX11_ways_275 ?_
                refine xv_il5 fX11_ways_277 ?_
                refine xv_callV8V (m_keeps2 n c _ J (p := p) (by omega) (q := k) (by omega)) fX11_ways_279 YX11_keeps VX11_keeps lX11_198 rfl rfl (sx_60 _ _) (Nat.le_of_ble_eq_true rfl) (by decide) (by decide) (by decide) ?_
                refine xv_iincN13 (a := 1) fX11_ways_282 (by decide) ?_
                refine xv_goto fX11_ways_285 ?_
                refine xv_eqI (I' := mTwo2 y b g f z1 z2 p k I) (by rw [mTwo2, iteP_t ⟨⟨h_227, h_248⟩, Or.inr h_260⟩]) ?_
                exact ih (k + 1) _ _ (by omega) i0

theorem l_wB (n : Nat) (c : Nat × Nat) (J : xv_J) {s u z h z1 z2 : Nat} (sc : Int32) {y b g : Int32} (hs : s < 20) (hz : 0 < z1) (hz2 : z1 ≤ 100) (hy : 0 < z2) (hy2 : z2 ≤ 100) {Q : xv_Q} : ∀ (m k : Nat) (I : xv_I) (l12 l13 l14 : Option Value), k + m = 7 → (I 72 s = sc) → (∀ l12 l13 l14, xv_W mX11_ways 4 0 0 Q 0 0 (sx n c) (it (mTwo1 sc y b g z1 z2) m k I) (rx c) J 294 (some (.ref 60) :: some (.int (nI s)) :: some (.int (nI u)) :: some (.int y) :: some (.int b) :: some (.int g) :: some (.int (nI z)) :: some (.int (nI 0)) :: some (.int (nI h)) :: some (.int (nI z1)) :: some (.int (nI z2)) :: some (.int (nI 7)) :: l12 :: l13 :: l14 :: []) []) → xv_W mX11_ways 4 0 0 Q 0 0 (sx n c) I (rx c) J 163 (some (.ref 60) :: some (.int (nI s)) :: some (.int (nI u)) :: some (.int y) :: some (.int b) :: some (.int g) :: some (.int (nI z)) :: some (.int (nI 0)) :: some (.int (nI h)) :: some (.int (nI z1)) :: some (.int (nI z2)) :: some (.int (nI k)) :: l12 :: l13 :: l14 :: []) [] := by
  intro m
  induction m with
  | zero =>
    intro k I l12 l13 l14 hm i0 i1
    obtain rfl : k = 7 := by omega
    refine xv_il11 fX11_ways_163 ?_
    refine xv_k fX11_ways_165 ?_
    refine xv_ic_ge fX11_ways_167 (fun h_167 => ?_) (fun h_167 => ?_)
    · exact i1 _ _ _
    · exact absurd (nI_le (Nat.le_refl _) (by decide)) h_167
  | succ m ih =>
    intro k I l12 l13 l14 hm i0 i1
    have hk : k < 7 := by omega
    show xv_W mX11_ways 4 0 0 _ 0 0 (sx n c) I (rx c) J 163 (some (.ref 60) :: some (.int (nI s)) :: some (.int (nI u)) :: some (.int y) :: some (.int b) :: some (.int g) :: some (.int (nI z)) :: some (.int (nI 0)) :: some (.int (nI h)) :: some (.int (nI z1)) :: some (.int (nI z2)) :: some (.int (nI k)) :: l12 :: l13 :: l14 :: []) []
    refine xv_il11 fX11_ways_163 ?_
    refine xv_k fX11_ways_165 ?_
    refine xv_ic_ge fX11_ways_167 (fun h_167 => ?_) (fun h_167 => ?_)
    · exact absurd h_167 (nI_ge hk (by decide))
    · refine xv_al0 fX11_ways_170 ?_
      refine xv_getR fX11_ways_171 gX11_7 rfl (sx_60 _ _) (rx_60_0 _) ?_
      refine xv_il11 fX11_ways_174 ?_
      refine xv_ialdN fX11_ways_176 (sx_61 _ _) (⟨by omega, by decide⟩) ?_
      refine xv_al0 fX11_ways_177 ?_
      refine xv_getR fX11_ways_178 gX11_44 rfl (sx_60 _ _) (rx_60_14 _) ?_
      refine xv_il1 fX11_ways_181 ?_
      refine xv_ialdN fX11_ways_182 (sx_72 _ _) (⟨by omega, by decide⟩) ?_
      rw [i0]
      refine xv_ic_ne fX11_ways_183 (fun h_183 => ?_) (fun h_183 => ?_)
      · refine xv_k fX11_ways_198 ?_
        refine xv_is12 fX11_ways_199 ?_
        refine xv_il11 fX11_ways_201 ?_
        refine xv_k fX11_ways_203 ?_
        refine xv_iadd fX11_ways_204 ?_
        rw [nI_add]
        refine xv_is13 fX11_ways_205 ?_
        refine xv_il13 fX11_ways_207 ?_
        refine xv_k fX11_ways_209 ?_
        refine xv_ic_ge fX11_ways_211 (fun h_211 => ?_) (fun h_211 => ?_)
        · refine xv_iincN11 (a := 1) fX11_ways_288 (by decide) ?_
          refine xv_goto fX11_ways_291 ?_
          refine xv_eqI (I' := mTwo1 sc y b g z1 z2 k I) (by rw [mTwo1, iteP_f (fun h => h_183 h.1)]) ?_
          exact ih (k + 1) _ _ _ _ (by omega) ((mTwo1_o _ ⟨Or.inl (by decide), Or.inl (by decide)⟩).trans i0) i1
        · refine xv_il12 fX11_ways_214 ?_
          refine xv_k fX11_ways_216 ?_
          refine xv_ic_eq fX11_ways_217 (fun h_217 => ?_) (fun h_217 => ?_)
          · refine xv_iincN11 (a := 1) fX11_ways_288 (by decide) ?_
            refine xv_goto fX11_ways_291 ?_
            refine xv_eqI (I' := mTwo1 sc y b g z1 z2 k I) (by rw [mTwo1, iteP_f (fun h => h_183 h.1)]) ?_
            exact ih (k + 1) _ _ _ _ (by omega) ((mTwo1_o _ ⟨Or.inl (by decide), Or.inl (by decide)⟩).trans i0) i1
          · exact absurd rfl h_217
      · refine xv_al0 fX11_ways_186 ?_
        refine xv_il11 fX11_ways_187 ?_
        refine xv_il9 fX11_ways_189 ?_
        refine xv_il3 fX11_ways_191 ?_
        refine xv_callV3R (m_first n c _ J (p := k) (by omega) hz hz2) fX11_ways_192 YX11_firstFor VX11_firstFor lX11_195 rfl rfl (sx_60 _ _) (Nat.le_of_ble_eq_true rfl) (by decide) (by decide) (by decide) ?_
        refine xv_goto fX11_ways_195 ?_
        refine xv_is12 fX11_ways_199 ?_
        refine xv_il11 fX11_ways_201 ?_
        refine xv_k fX11_ways_203 ?_
        refine xv_iadd fX11_ways_204 ?_
        rw [nI_add]
        refine xv_is13 fX11_ways_205 ?_
        by_cases hr : mRun I k y z1 = -1
        · refine xv_il13 fX11_ways_207 ?_
          refine xv_k fX11_ways_209 ?_
          refine xv_ic_ge fX11_ways_211 (fun h_211 => ?_) (fun h_211 => ?_)
          · refine xv_iincN11 (a := 1) fX11_ways_288 (by decide) ?_
            refine xv_goto fX11_ways_291 ?_
            refine xv_eqI (I' := mTwo1 sc y b g z1 z2 k I) (by rw [mTwo1, iteP_f (fun h => h.2 hr)]) ?_
            exact ih (k + 1) _ _ _ _ (by omega) ((mTwo1_o _ ⟨Or.inl (by decide), Or.inl (by decide)⟩).trans i0) i1
          · refine xv_il12 fX11_ways_214 ?_
            refine xv_k fX11_ways_216 ?_
            refine xv_ic_eq fX11_ways_217 (fun h_217 => ?_) (fun h_217 => ?_)
            · refine xv_iincN11 (a := 1) fX11_ways_288 (by decide) ?_
              refine xv_goto fX11_ways_291 ?_
              refine xv_eqI (I' := mTwo1 sc y b g z1 z2 k I) (by rw [mTwo1, iteP_f (fun h => h.2 hr)]) ?_
              exact ih (k + 1) _ _ _ _ (by omega) ((mTwo1_o _ ⟨Or.inl (by decide), Or.inl (by decide)⟩).trans i0) i1
            · exact absurd hr h_217
        · refine l_wC n c J hs hz hz2 hy hy2 (p := k) hk hr (7 - (k + 1)) (k + 1) _ _ (by omega) (fun l14 => ?_)
          refine xv_eqI (I' := mTwo1 sc y b g z1 z2 k I) (by rw [mTwo1, iteP_t ⟨h_183, hr⟩]) ?_
          refine xv_iincN11 (a := 1) fX11_ways_288 (by decide) ?_
          refine xv_goto fX11_ways_291 ?_
          exact ih (k + 1) _ _ _ _ (by omega) ((mTwo1_o _ ⟨Or.inl (by decide), Or.inl (by decide)⟩).trans i0) i1

theorem l_wM (n : Nat) (c : Nat × Nat) (J : xv_J) {Q : xv_Q} {s u z np lo : Nat} {cz : Nat → Nat → Nat} {sc y b g : Int32} (hs : s < 20) (hu : u ≤ np) : ∀ (k : Nat) (I : xv_I) (l9 l10 l11 l12 l13 l14 : Option Value), k < u → mStH I s np lo cz sc → (∀ l9 l10 l11 l12 l13 l14, xv_W mX11_ways 4 0 0 Q 0 0 (sx n c) (mTwoL sc y b g cz u k I) (rx c) J 300 (some (.ref 60) :: some (.int (nI s)) :: some (.int (nI u)) :: some (.int y) :: some (.int b) :: some (.int g) :: some (.int (nI z)) :: some (.int (nI 0)) :: some (.int (nI 0)) :: l9 :: l10 :: l11 :: l12 :: l13 :: l14 :: []) []) → xv_W mX11_ways 4 0 0 Q 0 0 (sx n c) I (rx c) J 130 (some (.ref 60) :: some (.int (nI s)) :: some (.int (nI u)) :: some (.int y) :: some (.int b) :: some (.int g) :: some (.int (nI z)) :: some (.int (nI 0)) :: some (.int (nI k)) :: l9 :: l10 :: l11 :: l12 :: l13 :: l14 :: []) [] := by
  intro k
  induction k with
  | zero =>
    intro I l9 l10 l11 l12 l13 l14 hk i0 i1
    show xv_W mX11_ways 4 0 0 _ 0 0 (sx n c) I (rx c) J 130 (some (.ref 60) :: some (.int (nI s)) :: some (.int (nI u)) :: some (.int y) :: some (.int b) :: some (.int g) :: some (.int (nI z)) :: some (.int (nI 0)) :: some (.int (nI 0)) :: l9 :: l10 :: l11 :: l12 :: l13 :: l14 :: []) []
    refine xv_il8 fX11_ways_130 ?_
    refine xv_if_le fX11_ways_132 (fun h_132 => ?_) (fun h_132 => ?_)
    · exact i1 _ _ _ _ _ _
    · exact absurd (by decide) h_132
  | succ k ih =>
    intro I l9 l10 l11 l12 l13 l14 hk i0 i1
    show xv_W mX11_ways 4 0 0 _ 0 0 (sx n c) I (rx c) J 130 (some (.ref 60) :: some (.int (nI s)) :: some (.int (nI u)) :: some (.int y) :: some (.int b) :: some (.int g) :: some (.int (nI z)) :: some (.int (nI 0)) :: some (.int (nI (k + 1))) :: l9 :: l10 :: l11 :: l12 :: l13 :: l14 :: []) []
    refine xv_il8 fX11_ways_130 ?_
    refine xv_if_le fX11_ways_132 (fun h_132 => ?_) (fun h_132 => ?_)
    · exact absurd h_132 (nI_nle0 (by omega) (by have := i0.2.2.2.2.2.1; omega))
    · obtain ⟨hc1, hc2, hc3⟩ := i0.2.2.2.2.2.2 0 (k + 1) (by omega) (by omega)
      obtain ⟨hd1, hd2, hd3⟩ := i0.2.2.2.2.2.2 (k + 1) u hk hu
      refine xv_il7 fX11_ways_135 ?_
      refine xv_if_ne fX11_ways_137 (fun h_137 => ?_) (fun h_137 => ?_)
      · exact absurd h_137 (by decide)
      · refine xv_al0 fX11_ways_140 ?_
        refine xv_il1 fX11_ways_141 ?_
        refine xv_k fX11_ways_142 ?_
        refine xv_il8 fX11_ways_143 ?_
        refine xv_callV3R (m_cells n c _ J hs (Nat.zero_le _) (t := k + 1) (by have := i0.2.2.2.2.2.1; omega)) fX11_ways_145 YX11_cellsFor VX11_cellsFor lX11_191 rfl rfl (sx_60 _ _) (Nat.le_of_ble_eq_true rfl) (by decide) (by decide) (by decide) ?_
        rw [hc1]
        refine xv_is9 fX11_ways_148 ?_
        refine xv_al0 fX11_ways_150 ?_
        refine xv_il1 fX11_ways_151 ?_
        refine xv_il8 fX11_ways_152 ?_
        refine xv_il2 fX11_ways_154 ?_
        refine xv_callV3R (m_cells n c _ J hs (f := k + 1) (t := u) (by omega) (by have := i0.2.2.2.2.2.1; omega)) fX11_ways_155 YX11_cellsFor VX11_cellsFor lX11_191 rfl rfl (sx_60 _ _) (Nat.le_of_ble_eq_true rfl) (by decide) (by decide) (by decide) ?_
        rw [hd1]
        refine xv_is10 fX11_ways_158 ?_
        refine xv_k fX11_ways_160 ?_
        refine xv_is11 fX11_ways_161 ?_
        refine l_wB n c J sc hs hc2 hc3 hd2 hd3 7 0 _ _ _ _ rfl i0.1 (fun l12 l13 l14 => ?_)
        refine xv_iincD8 fX11_ways_294 (by omega) ?_
        refine xv_goto fX11_ways_297 ?_
        rw [show k + 1 - 1 = k from rfl]
        exact ih _ _ _ _ _ _ _ (by omega) (i0.to (fun v j hv => mTwoA_o _ ⟨by omega, by omega⟩)) i1
