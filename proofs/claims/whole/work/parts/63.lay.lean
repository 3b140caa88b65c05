abbrev outS (pg st sz : Nat → Nat) (p k : Nat) : Prop := ∃ i, i < 2 ∧ ∃ m, m < sz i ∧ p = pg i ∧ k = cIn (st i + m)
theorem cC.out {w : Nat} {pg st sz : Nat → Nat} {x : Int32} {C : xv_I} (h : ∀ i, i < 2 → 0 < sz i → pg i < 10 ∧ st i + sz i ≤ 12) : cC (xCopy w 21 C) (xOut w pg st sz x C) (outS pg st sz) x := by
  have g1 : ∀ i, i < 2 → ∀ I' S, cC (xCopy w 21 C) I' S x → cC (xCopy w 21 C) (xOut2 pg st sz x i I') (fun q k => S q k ∨ ∃ m, m < sz i ∧ q = pg i ∧ k = cIn (st i + m)) x := fun i hi I' S g => by
    unfold xOut2
    exact (itS (R := fun I' S => cC (xCopy w 21 C) I' S x) (f := xOut1 (pg i) (st i) x) (T := fun m q k => q = pg i ∧ k = cIn (st i + m)) (fun _ _ _ e h => h.cg e) (sz i) 0 I' S (fun m I' S _ hm h9 => by
      obtain ⟨h1, h2⟩ := h i hi (by omega)
      exact h9.put h1 (cIn_lt (by omega))) g).cg fun q hq k hk => ⟨fun g => g.elim Or.inl fun ⟨m, _, r1, r2⟩ => Or.inr ⟨m, by omega, r2⟩, fun g => g.elim Or.inl fun ⟨m, r1, r2⟩ => Or.inr ⟨m, by omega, by omega, r2⟩⟩
  unfold xOut
  exact (itS (R := fun I' S => cC (xCopy w 21 C) I' S x) (f := xOut2 pg st sz x) (T := fun i q k => ∃ m, m < sz i ∧ q = pg i ∧ k = cIn (st i + m)) (fun _ _ _ e h => h.cg e) 2 0 _ _ (fun i I' S _ hi h9 => g1 i (by omega) I' S h9) (cC.nil _ _)).cg fun q hq k hk => ⟨fun g => g.elim False.elim fun ⟨i, _, r1, r2⟩ => ⟨i, by omega, r2⟩, fun ⟨i, r1, r2⟩ => Or.inr ⟨i, by omega, by omega, r2⟩⟩
/-- the pages of I, all else of I' -/
def mD (I I' : xv_I) : xv_I := fun v j => if v = 63 ∨ v = 81 ∨ (v = 60 ∧ j = 3) then I v j else I' v j
theorem mD_in (I I' : xv_I) {v j : Nat} (h : v = 63 ∨ v = 81 ∨ (v = 60 ∧ j = 3)) : mD I I' v j = I v j := if_pos h
theorem mD_out (I I' : xv_I) {v j : Nat} (h : v ≠ 63) (h2 : v ≠ 81) (h3 : v ≠ 60 ∨ j ≠ 3) : mD I I' v j = I' v j := if_neg (by omega)
theorem mD_put {I I' : xv_I} {S : Nat → Nat → Prop} {x : Int32} (h : mC (mD I I') I' S x) {p k : Nat} (hp : p < 10) (hk : k < 12) (hne : ¬ I 63 (12 * p + k) = x) : mC (mD I (mPut I' p k x)) (mPut I' p k x) (fun q j => S q j ∨ (q = p ∧ j = k)) x := by
  have e : mD I (mPut I' p k x) = mD I I' := funext fun v => funext fun j => by
    by_cases g : v = 63 ∨ v = 81 ∨ (v = 60 ∧ j = 3)
    · rw [mD_in _ _ g, mD_in _ _ g]
    · rw [mD_out _ _ (by omega) (by omega) (by omega), mD_out _ _ (by omega) (by omega) (by omega), mPut_o _ _ (by omega) (by omega) (by omega)]
  rw [e]
  exact h.put hp hk (by rw [mD_in _ _ (Or.inl rfl)]; exact hne)
theorem mD_set {I I' I'' : xv_I} {S : Nat → Nat → Prop} {x : Int32} (h : mC (mD I I') I' S x) (e : ∀ v j, v = 63 ∨ v = 81 ∨ (v = 60 ∧ j = 3) → I'' v j = I' v j) : mC (mD I I'') I'' S x := by
  obtain ⟨h1, h2, h3, h4⟩ := h
  refine ⟨fun p hp k hk => ?_, fun p hp => ?_, fun t ht et => ?_, fun v j a1 a2 a3 => (mD_out _ _ a1 a2 a3).symm⟩
  · rw [e 63 _ (Or.inl rfl), mD_in _ _ (Or.inl rfl)]
    have := h1 p hp k hk
    rw [mD_in _ _ (Or.inl rfl)] at this
    exact this
  · have := h2 p hp
    refine ⟨fun g q hq => (e 81 _ (by omega)).trans (this.1 g q hq), fun g q hq => ?_⟩
    rw [e 81 _ (by omega), mD_in _ _ (by omega)]
    have r := this.2 g q hq
    rw [mD_in _ _ (by omega)] at r
    exact r
  · rw [mD_in _ _ (by omega)] at et
    rw [e 60 3 (by omega)]
    exact h3 t ht (by rw [mD_in _ _ (by omega)]; exact et)
theorem mD_nil (I : xv_I) (x : Int32) : mC (mD I I) I (fun _ _ => False) x := by
  rw [show mD I I = I from funext fun v => funext fun j => by unfold mD; split <;> rfl]
  exact mC.nil I x
theorem mC.out {s u : Nat} {pg st sz : Nat → Nat} {K : xv_I} (h : ∀ i, i < 2 → 0 < sz i → pg i < 10 ∧ st i + sz i ≤ 12) (hne : ∀ i, i < 2 → ∀ m, m < sz i → ¬ K 63 (12 * pg i + cIn (st i + m)) = nI (200 + s)) : mC (mD K (mLay s u pg st sz K)) (mLay s u pg st sz K) (outS pg st sz) (nI (200 + s)) := by
  have g1 : ∀ i, i < 2 → ∀ I' S, mC (mD K I') I' S (nI (200 + s)) → mC (mD K (mLay1 s pg st sz i I')) (mLay1 s pg st sz i I') (fun q k => S q k ∨ ∃ m, m < sz i ∧ q = pg i ∧ k = cIn (st i + m)) (nI (200 + s)) := fun i hi I' S g => by
    unfold mLay1
    refine mC.cg ?_ (itS (R := fun I' S => mC (mD K I') I' S (nI (200 + s))) (f := mOutP (pg i) (st i) (nI (200 + s))) (T := fun m q k => q = pg i ∧ k = cIn (st i + m)) (fun _ _ _ e h => h.cg e) (sz i) 0 _ S (fun m I' S _ hm h9 => by
      obtain ⟨h1, h2⟩ := h i hi (by omega)
      exact mD_put h9 h1 (cIn_lt (by omega)) (hne i hi m (by omega))) (mD_set g fun v j hv => mLayA_o _ _ (by omega)))
    exact fun q hq k hk => ⟨fun g => g.elim Or.inl fun ⟨m, _, r1, r2⟩ => Or.inr ⟨m, by omega, r2⟩, fun g => g.elim Or.inl fun ⟨m, r1, r2⟩ => Or.inr ⟨m, by omega, by omega, r2⟩⟩
  unfold mLay
  refine mC.cg ?_ (itS (R := fun I' S => mC (mD K I') I' S (nI (200 + s))) (f := mLay1 s pg st sz) (T := fun i q k => ∃ m, m < sz i ∧ q = pg i ∧ k = cIn (st i + m)) (fun _ _ _ e h => h.cg e) 2 0 _ _ (fun i I' S _ hi h9 => g1 i (by omega) I' S h9) (mD_set (mD_nil K _) fun v j hv => xv_u_ne _ _ _ (by omega)))
  exact fun q hq k hk => ⟨fun g => g.elim False.elim fun ⟨i, _, r1, r2⟩ => ⟨i, by omega, r2⟩, fun ⟨i, r1, r2⟩ => Or.inr ⟨i, by omega, by omega, r2⟩⟩
theorem mLay1_at {s i : Nat} {pg st sz : Nat → Nat} {I : xv_I} {v : Nat} (hv : v = 77 ∨ v = 78 ∨ v = 79) (j : Nat) : mLay1 s pg st sz i I v j = mLayA s i (nI (sz i)) I v j := it_inv (fun S : xv_I => S v j = mLayA s i (nI (sz i)) I v j) (fun k S hS => (mOutP_o _ _ (by omega) (by omega) (by omega)).trans hS) _ _ _ rfl
theorem mLayA_at (s i : Nat) (z : Int32) (I : xv_I) (v j : Nat) : mLayA s i z I v j = if v = 79 ∧ j = 2 * s + i then z else if v = 78 ∧ j = 2 * s + i then I 96 i else if v = 77 ∧ j = 2 * s + i then I 95 i else I v j := by
  unfold mLayA xv_u
  simp
theorem mLay_o {s u : Nat} {pg st sz : Nat → Nat} {K : xv_I} {v j : Nat} (h1 : v ≠ 63) (h2 : v ≠ 81) (h3 : v ≠ 60 ∨ j ≠ 3) (h4 : v ≠ 76 ∨ j ≠ s) (h5 : (v < 77 ∨ 79 < v) ∨ j < 2 * s ∨ 2 * s + 2 ≤ j) : mLay s u pg st sz K v j = K v j := by
  unfold mLay
  rw [it, it, it]
  rcases h5 with h5 | h5
  · rw [mLay1_o _ _ h2 h1 h3 h5, mLay1_o _ _ h2 h1 h3 h5]
    exact if_neg (by omega)
  · by_cases g : v = 77 ∨ v = 78 ∨ v = 79
    · rw [mLay1_at g, mLayA_at, if_neg (by omega), if_neg (by omega), if_neg (by omega), mLay1_at g, mLayA_at, if_neg (by omega), if_neg (by omega), if_neg (by omega)]
      exact if_neg (by omega)
    · rw [mLay1_o _ _ h2 h1 h3 (by omega), mLay1_o _ _ h2 h1 h3 (by omega)]
      exact if_neg (by omega)
theorem mLay_s {s u : Nat} {pg st sz : Nat → Nat} {K : xv_I} : mLay s u pg st sz K 76 s = nI u ∧ ∀ i, i < 2 → mLay s u pg st sz K 77 (2 * s + i) = K 95 i ∧ mLay s u pg st sz K 78 (2 * s + i) = K 96 i ∧ mLay s u pg st sz K 79 (2 * s + i) = nI (sz i) := by
  unfold mLay
  rw [it, it, it]
  refine ⟨?_, fun i hi => ⟨(mLay1_at (Or.inl rfl) _).trans ?_, (mLay1_at (Or.inr (Or.inl rfl)) _).trans ?_, (mLay1_at (Or.inr (Or.inr rfl)) _).trans ?_⟩⟩
  · exact (mLay1_o _ _ (by omega) (by omega) (by omega) (by omega)).trans ((mLay1_o _ _ (by omega) (by omega) (by omega) (by omega)).trans (xv_u_eq _ _ _ _))
  · rcases (show i = 0 ∨ i = 1 by omega) with rfl | rfl
    · rw [mLayA_at, if_neg (by omega), if_neg (by omega), if_neg (by omega)]
      refine (mLay1_at (Or.inl rfl) _).trans ?_
      rw [mLayA_at, if_neg (by omega), if_neg (by omega), if_pos (by omega)]
      exact if_neg (by omega)
    · rw [mLayA_at, if_neg (by omega), if_neg (by omega), if_pos (by omega)]
      exact (mLay1_o _ _ (by decide) (by decide) (by decide) (by decide)).trans (if_neg (by omega))
  · rcases (show i = 0 ∨ i = 1 by omega) with rfl | rfl
    · rw [mLayA_at, if_neg (by omega), if_neg (by omega), if_neg (by omega)]
      refine (mLay1_at (Or.inr (Or.inl rfl)) _).trans ?_
      rw [mLayA_at, if_neg (by omega), if_pos (by omega)]
      exact if_neg (by omega)
    · rw [mLayA_at, if_neg (by omega), if_pos (by omega)]
      exact (mLay1_o _ _ (by decide) (by decide) (by decide) (by decide)).trans (if_neg (by omega))
  · rcases (show i = 0 ∨ i = 1 by omega) with rfl | rfl
    · rw [mLayA_at, if_neg (by omega), if_neg (by omega), if_neg (by omega)]
      refine (mLay1_at (Or.inr (Or.inr rfl)) _).trans ?_
      rw [mLayA_at, if_pos (by omega)]
    · rw [mLayA_at, if_pos (by omega)]
/-- the way that stands in the class's memory -/
def wPg (C : xv_I) (i : Nat) : Nat := lNa (C 22 i)
def wSt (C : xv_I) (i : Nat) : Nat := lNa (C 23 i)
def wSz (C : xv_I) (i : Nat) : Nat := lNa (C 24 i)
theorem sB_norm {M0 C M : xv_I} {y : Int32} {G L T k : Nat} {pg st sz : Nat → Nat} (h : sB M0 C M y G L T k pg st sz) : sB M0 C M y G L T k (wPg C) (wSt C) (wSz C) := by
  obtain ⟨pa, ⟨w1, w2, w3⟩, h2, h3, h4, h5, h6⟩ := h
  have hz : ∀ i, i < 2 → wSz C i = sz i := fun i hi => by
    unfold wSz
    rw [(h4 i hi).1, lNa_n (by have := (w3 i hi).1; omega)]
  have hp : ∀ i, i < 2 → 0 < sz i → wPg C i = pg i ∧ wSt C i = st i := fun i hi hs => by
    obtain ⟨q1, q2, -⟩ := (h4 i hi).2 hs
    obtain ⟨q3, q4, -⟩ := (w3 i hi).2 hs
    unfold wPg wSt
    rw [q1, q2, lNa_n (by omega), lNa_n (by omega)]
    exact ⟨rfl, rfl⟩
  have hw : wP (wPg C) (wSz C) = wP pg sz := by
    unfold wP
    rw [hz 0 (by decide), hz 1 (by decide)]
    congr 1
    · by_cases g : 0 < sz 0
      · rw [if_pos g, if_pos g, (hp 0 (by decide) g).1]
      · rw [if_neg g, if_neg g]
    · by_cases g : 0 < sz 1
      · rw [if_pos g, if_pos g, (hp 1 (by decide) g).1]
      · rw [if_neg g, if_neg g]
  refine ⟨pa, ⟨?_, ?_, fun i hi => ?_⟩, h2, h3, fun i hi => ?_, by rw [hw]; exact h5, by rw [hw]; exact h6⟩
  · rw [hz 1 (by decide)]
    exact w1
  · rw [hz 0 (by decide)]
    exact w2
  · rw [hz i hi]
    refine ⟨(w3 i hi).1, fun hs => ?_⟩
    rw [(hp i hi hs).1, (hp i hi hs).2]
    exact (w3 i hi).2 hs
  · rw [hz i hi]
    refine ⟨(h4 i hi).1, fun hs => ?_⟩
    rw [(hp i hi hs).1, (hp i hi hs).2]
    exact (h4 i hi).2 hs
theorem sB_wy {M0 C M : xv_I} {y : Int32} {G L T k : Nat} {pg st sz : Nat → Nat} (h : sB M0 C M y G L T k pg st sz) : xWy C 21 pg st sz ∧ mWy M pg st sz ∧ 0 < sz 0 := by
  obtain ⟨pa, ⟨w1, w2, w3⟩, h2, h3, h4, h5, h6⟩ := h
  refine ⟨fun i hi => ⟨(h4 i hi).1, (w3 i hi).1, fun hs => ?_⟩, fun i hi => ⟨?_, (w3 i hi).1, fun hs => ?_⟩, w2⟩
  · obtain ⟨q1, q2, -⟩ := (h4 i hi).2 hs
    obtain ⟨q3, q4, -⟩ := (w3 i hi).2 hs
    exact ⟨q1, by omega, q2, q4⟩
  · rw [h3]
    rcases (show i = 0 ∨ i = 1 by omega) with rfl | rfl
    · have hpa : pa = 1 ∨ pa = 2 := w1.elim (fun q => Or.inl q.1) fun q => Or.inr q.1
      rw [if_pos ((nI_lt2 (by decide) (by omega)).mpr (by omega))]
      exact ((h4 0 hi).2 w2).2.2.2.2
    · rcases w1 with ⟨q1, q2⟩ | ⟨q1, q2⟩
      · rw [if_neg (fun r => absurd ((nI_lt2 (by decide) (by omega)).mp r) (by omega)), q2]
      · rw [if_pos ((nI_lt2 (by decide) (by omega)).mpr (by omega))]
        exact ((h4 1 hi).2 q2).2.2.2.2
  · obtain ⟨-, -, q1, q2, -⟩ := (h4 i hi).2 hs
    obtain ⟨q3, q4, -⟩ := (w3 i hi).2 hs
    exact ⟨q1, by omega, q2, q4⟩
/-- the cells of the way are open -/
theorem sB_open {M0 C M : xv_I} {y : Int32} {G L T k : Nat} {pg st sz : Nat → Nat} (h : sB M0 C M y G L T k pg st sz) : ∀ i, i < 2 → ∀ m, m < sz i → mOpen M0 (pg i) y (st i + m) := fun i hi m hm => by
  obtain ⟨pa, ⟨w1, w2, w3⟩, -⟩ := h
  obtain ⟨q3, q4, q5⟩ := (w3 i hi).2 (by omega)
  rcases xRun_sp (ok := mOpen M0 (pg i) y) (s := sz i) (by omega) 12 0 0 (Nat.le_refl _) (fun j h1 h2 => absurd h2 (Nat.not_lt_zero _)) with r | ⟨r, r1, r2, r3⟩
  · rw [show xRun (mOpen M0 (pg i) y) (sz i) 12 0 0 = nI (st i) from q5] at r
    exact absurd r (nI_nm1 (by omega))
  · rw [show xRun (mOpen M0 (pg i) y) (sz i) 12 0 0 = nI (st i) from q5] at r2
    have := nI_inj2 r2 (by omega) (by omega)
    exact r3 _ (by omega) (by omega)
theorem env_of {c : Nat × Nat} {I M : xv_I} {gm y : Int32} {T : Nat} (hI : Inv c I) (hM : ∀ v j, v = 61 ∨ v = 63 ∨ (v = 60 ∧ j = 3) → M v j = I v j) (hg : ∀ x : Int32, (x = 0 ∨ x = gm) ↔ (x = 0 ∨ (¬ y = -1 ∧ x = nI 200 + y))) (hT : I 60 3 = nI T) : eEnv I M gm y T := by
  refine ⟨fun p hp => by rw [hM 61 _ (by omega)]; exact (hI.page p (by omega)).1, fun p hp z => xRun_cg 12 0 0 fun j _ hj => ?_, (hM 60 3 (by omega)).trans hT⟩
  unfold xOpen mOpen
  rw [hM 63 _ (by omega), ← (hI.cell p (by omega) (cIn j) (cIn_lt (by omega))).1]
  exact hg _
theorem cEnv_0 (I : xv_I) (gm : Int32) (L : Nat) : cEnv I (xClear 21 (xv_u (xv_u I 20 3 gm) 20 4 (nI L))) gm L := by
  refine ⟨fun v j h => ?_, ?_, ?_⟩
  · rw [xClear_o _ _ (by omega), xv_u_ne _ _ _ (by omega), xv_u_ne _ _ _ (by omega)]
  · rw [xClear_o _ _ (by omega)]
    simp [xv_u]
  · rw [xClear_o _ _ (by omega), xv_u_eq]
/-- both searches, from the same pages -/
theorem find_both {I M : xv_I} {gm y b sc : Int32} {G L T np lo : Nat} {cz : Nat → Nat → Nat} (hG : G < 32) (hT : T < 32) (hL2 : L < 32) (hm : sMode b G L T) (hE : eEnv I M gm y T) (hlo : 1 ≤ lo) (hln : lo ≤ np) (hnp : np ≤ 6) (hcz : ∀ f t, f < t → t ≤ np → 0 < cz f t) : (∀ v j, (v < 20 ∨ 28 < v) → (xFind sc cz np lo gm (nI L) I).2 v j = I v j) ∧ (((xFind sc cz np lo gm (nI L) I).1 = nI 0 ∧ (mFind sc y b (nI G) cz np lo M).1 = nI 0) ∨ ((xFind sc cz np lo gm (nI L) I).1 = nI 1 ∧ ∃ u, 1 ≤ u ∧ u ≤ np ∧ (mFind sc y b (nI G) cz np lo M).1 = nI u ∧ sB M (xFind sc cz np lo gm (nI L) I).2 (mFind sc y b (nI G) cz np lo M).2 y G L T u (wPg (xFind sc cz np lo gm (nI L) I).2) (wSt (xFind sc cz np lo gm (nI L) I).2) (wSz (xFind sc cz np lo gm (nI L) I).2))) := by
  unfold xFind mFind
  obtain ⟨h1, h2⟩ := find_rel (sc := sc) hG hT hL2 hm hE hlo hnp hcz (np + 1 - lo) np _ M (by omega) (Nat.le_refl _) (cEnv_0 I gm L) (fun _ _ _ => rfl) (xClear_0 _ _)
  refine ⟨h1, h2.elim Or.inl fun ⟨q1, u, q2, q3, q4, pg, st, sz, q5⟩ => Or.inr ⟨q1, u, q2, q3, q4, sB_norm q5⟩⟩
theorem mStH_to2 {I C : xv_I} {s np lo : Nat} {cz : Nat → Nat → Nat} {sc : Int32} (h : mStH I s np lo cz sc) (e : ∀ v j, 72 ≤ v ∧ v ≤ 75 → C v j = I v j) : mStH C s np lo cz sc := by
  obtain ⟨h1, h2, h3, h4, h5, h6, h7⟩ := h
  refine ⟨(e 72 _ (by omega)).trans h1, (e 73 _ (by omega)).trans h2, (e 75 _ (by omega)).trans h3, h4, h5, h6, fun f t hf ht => ?_⟩
  rw [show mCells C s f t = mCells I s f t by
    unfold mCells
    rw [show mSum1 C s = mSum1 I s from funext fun k => funext fun x => by unfold mSum1; rw [e 74 _ (by omega)]]]
  exact h7 f t hf ht
theorem mStH_to {I C : xv_I} {s np lo : Nat} {cz : Nat → Nat → Nat} {sc : Int32} (h : mStH I s np lo cz sc) (e : ∀ v j, (v < 20 ∨ 28 < v) → C v j = I v j) (_ : s < 20) : mStH C s np lo cz sc := mStH_to2 h fun v j hv => e v j (by omega)
theorem xCopy_00 (w u : Nat) (C : xv_I) (h : u + 3 < w) : xCopy w u C w 0 = C u 0 := by
  unfold xCopy
  rw [it, it, it]
  unfold xCopy1
  rw [xSetPart_o _ _ _ _ _ (by omega), xSetPart_o _ _ _ _ _ (by omega), xv_u_eq]
theorem armok_9 (n : Nat) : Arm n 9 := fun MC MS Q c I J kc ks i l5 l6 hi hn hI hkc hks hk => by
  obtain ⟨g1, g2, g3, g4⟩ := hI.st
  obtain ad3 := hI.ad.2.2.1
  rcases no_or c.2 (I 99 (i + 1)) with ⟨s, hs, e1⟩ | b1
  · obtain hga := g4 s hs
    obtain ⟨d, np, lo, sh, a1, a2, a3, a4, a5, a6, a7, a8, a9, a10, a11, a12, a13, a14, a15, a16, a17, a18⟩ := hga
    rcases Nat.eq_zero_or_pos sh with h0 | h0
    · obtain ⟨hS1, hS2⟩ := st_both a2 a3 a4 a5 a6 a8 a9 a10 a11 a12 a13 a14 a15
      obtain hno : ∀ p, p < 10 → ∀ k, k < 12 → ¬ I (3 + p) k = nI (200 + s) := by
        rcases a18 with q | q
        · exact q.2.2
        · exact absurd q.1 (by omega)
      obtain ⟨T1, T, hT, T2⟩ := hI.touch
      obtain hcz : ∀ f t, f < t → t ≤ np → 0 < czf d np f t := fun f t hf ht => (czf_ok (dg_pos a2 a3 a4 a8) hf ht a4).1
      obtain hgm : ∀ x : Int32, (x = 0 ∨ x = nI 0) ↔ (x = 0 ∨ (¬ (-1 : Int32) = -1 ∧ x = nI 200 + -1)) := fun x => ⟨fun q => Or.inl (q.elim id id), fun q => q.elim Or.inl fun r => absurd rfl r.1⟩
      obtain hl1 : ¬ ¬ I (201 + 5 * s) 0 ≤ 0 := by rw [a16, h0]; decide
      obtain FB := fun (M : xv_I) (hM : ∀ v j, v = 61 ∨ v = 63 ∨ (v = 60 ∧ j = 3) → M v j = I v j) => find_both (y := -1) (gm := nI 0) (b := nI 1) (sc := I 72 s) (G := 0) (L := 31) (by decide) hT (by decide) (Or.inl ⟨rfl, by decide⟩) (env_of hI hM hgm (T1.symm.trans T2)) a5 a6 a4 hcz
      obtain ⟨F1, F2⟩ := FB I (fun _ _ _ => rfl)
      rcases F2 with ⟨q1, -⟩ | ⟨q1, u, u1, u2, -, hB⟩
      · obtain P1 := p_lay_no n c I J hs (by omega) hS1 hl1 (by rw [q1]; rfl)
        generalize hC : (xFind (I 72 s) (czf d np) np lo (nI 0) (nI 31) I).2 = C at P1 F1
        obtain hM1 : ∀ v j, v = 61 ∨ v = 63 ∨ (v = 60 ∧ j = 3) → xv_u C 60 48 (nI 0) v j = I v j := fun v j hv => (show xv_u C 60 48 (nI 0) v j = C v j from if_neg (by omega)).trans (F1 v j (by omega))
        obtain ⟨-, F3⟩ := FB _ hM1
        obtain hf : (mFind (I 72 s) (-1) (nI 1) (nI 0) (czf d np) np lo (xv_u C 60 48 (nI 0))).1 = nI 0 := by
          rcases F3 with q | q
          · exact q.2
          · exact absurd (q1.symm.trans q.1) (by decide)
        obtain P2 := m_lay_no n c C (xv_u J 98 0 (nI 0).toInt64) hs ((F1 60 13 (by omega)).trans g2) g3 (s := s) (np := np) (lo := lo) (cz := czf d np) (sc := I 72 s) (mStH_to hS2 F1 (by omega)) (by rw [F1 76 s (by omega), a17, h0]; decide) (by rw [hf]; decide)
        obtain MO : ∀ v j, mOut_ v j → (mFind (I 72 s) (-1) (nI 1) (nI 0) (czf d np) np lo (xv_u C 60 48 (nI 0))).2 v j = xv_u C 60 48 (nI 0) v j := fun v j h => mFindL_o h _ _ _
        rw [hf] at P2
        generalize (mFind (I 72 s) (-1) (nI 1) (nI 0) (czf d np) np lo (xv_u C 60 48 (nI 0))).2 = I2 at P2 MO
        refine arm_9 (dX := 8) (I1 := C) (I2 := I2) hi hn (by decide) (fun j => F1 _ _ (by omega)) (w_lay_ok n c c J (by rw [e1]; exact P1)) (by rw [e1]; exact P2) ((MO 60 48 (by unfold mOut_; omega)).trans (xv_u_eq _ _ _ _)) (fun _ => by rw [xv_u_eq]) hkc hks (fun l5 l6 => ?_)
        refine @hk c _ _ l5 l6 (hI.to fun v j h1 h2 h3 h4 => ?_)
        rw [MO v j (by unfold mOut_; omega), show xv_u C 60 48 (nI 0) v j = C v j from if_neg (by omega)]
        exact F1 v j (by omega)
      · obtain ⟨Y1, -, Y2⟩ := sB_wy hB
        obtain P1 := p_lay_ok n c I J hs (by omega) hS1 hl1 (by rw [q1]; decide) Y1
        obtain CK : (xFind (I 72 s) (czf d np) np lo (nI 0) (nI 31) I).2 21 0 = nI u := by
          obtain ⟨pa, -, r, -⟩ := hB
          exact r
        generalize hC : (xFind (I 72 s) (czf d np) np lo (nI 0) (nI 31) I).2 = C at P1 F1 Y1 Y2 CK
        obtain Yb : ∀ i, i < 2 → 0 < wSz C i → wPg C i < 10 ∧ wSt C i + wSz C i ≤ 12 := fun i hi hs => by
          obtain ⟨-, -, r⟩ := Y1 i hi
          obtain ⟨-, r1, -, r2⟩ := r hs
          exact ⟨r1, r2⟩
        obtain C1 := cC.out (w := 201 + 5 * s) (x := nI (200 + s)) (C := C) Yb
        obtain XW := xCopy_wy (w := 201 + 5 * s) Y1 (Or.inr (by omega))
        obtain X0 : xCopy (201 + 5 * s) 21 C (201 + 5 * s) 0 = nI u := (xCopy_00 _ _ _ (by omega)).trans CK
        obtain EX : ∀ v j, (v < 20 ∨ 28 < v) → (v < 201 + 5 * s ∨ 204 + 5 * s < v) → xCopy (201 + 5 * s) 21 C v j = I v j := fun v j h1 h2 => (xCopy_o _ _ (by omega)).trans (F1 v j h1)
        generalize xCopy (201 + 5 * s) 21 C = CX at C1 XW X0 EX
        generalize xOut (201 + 5 * s) (wPg C) (wSt C) (wSz C) (nI (200 + s)) C = I1 at P1 C1
        obtain EI : ∀ v j, (v < 3 ∨ 13 ≤ v) → v ≠ 15 → (v ≠ 1 ∨ j ≠ 6) → I1 v j = CX v j := C1.2.2.2
        obtain E1 : ∀ v j, (v < 3 ∨ 13 ≤ v) → v ≠ 15 → (v ≠ 1 ∨ j ≠ 6) → (v < 20 ∨ 28 < v) → (v < 201 + 5 * s ∨ 204 + 5 * s < v) → I1 v j = I v j := fun v j h1 h2 h3 h4 h5 => (EI v j h1 h2 h3).trans (EX v j h4 h5)
        obtain EK : ∀ v j, (v < 3 ∨ 13 ≤ v) → v ≠ 15 → (v ≠ 1 ∨ j ≠ 6) → (v < 20 ∨ 28 < v) → (v < 201 + 5 * s ∨ 204 + 5 * s < v) → (v ≠ 60 ∨ j ≠ 48) → xv_u I1 60 48 (nI 0) v j = I v j := fun v j h1 h2 h3 h4 h5 h6 => (show xv_u I1 60 48 (nI 0) v j = I1 v j from if_neg (by omega)).trans (E1 v j h1 h2 h3 h4 h5)
        obtain ⟨-, F3⟩ := FB (xv_u I1 60 48 (nI 0)) (fun v j hv => EK v j (by omega) (by omega) (by omega) (by omega) (by omega) (by omega))
        rw [hC] at F3
        rcases F3 with q | ⟨-, u9, v1, v2, v3, hB2⟩
        · exact absurd (q1.symm.trans q.1) (by decide)
        · obtain huu : u9 = u := by
            obtain ⟨pa, -, r, -⟩ := hB2
            exact nI_inj2 (r.symm.trans CK) (by omega) (by omega)
          rw [huu] at v1 v2 v3 hB2
          obtain ⟨-, Y3, -⟩ := sB_wy hB2
          obtain hopen := sB_open hB2
          obtain ⟨T3, T4, T5, T6⟩ : (∀ i, i < 2 → 0 < wSz C i → (mFind (I 72 s) (-1) (nI 1) (nI 0) (czf d np) np lo (xv_u I1 60 48 (nI 0))).2 95 i = nI (wPg C i) ∧ (mFind (I 72 s) (-1) (nI 1) (nI 0) (czf d np) np lo (xv_u I1 60 48 (nI 0))).2 96 i = nI (wSt C i)) ∧ True ∧ True ∧ True := ⟨fun i hi hs => by
            obtain ⟨-, -, -, -, r, -⟩ := hB2
            obtain ⟨-, -, r1, r2, -⟩ := (r i hi).2 hs
            exact ⟨r1, r2⟩, trivial, trivial, trivial⟩
          obtain P2 := m_lay_ok n c I1 (xv_u J 98 0 (I1 (201 + 5 * s) 0).toInt64) hs ((E1 60 13 (by omega) (by omega) (by omega) (by omega) (by omega)).trans g2) g3 (mStH_to2 hS2 (fun v j hv => E1 v j (by omega) (by omega) (by omega) (by omega) (by omega))) (by rw [E1 76 s (by omega) (by omega) (by omega) (by omega) (by omega), a17, h0]; decide) v3 ⟨by omega, by omega⟩ Y3
          obtain MO : ∀ v j, mOut_ v j → (mFind (I 72 s) (-1) (nI 1) (nI 0) (czf d np) np lo (xv_u I1 60 48 (nI 0))).2 v j = xv_u I1 60 48 (nI 0) v j := fun v j h => mFindL_o h _ _ _
          generalize (mFind (I 72 s) (-1) (nI 1) (nI 0) (czf d np) np lo (xv_u I1 60 48 (nI 0))).2 = M1 at P2 MO T3
          obtain hfree : ∀ i, i < 2 → ∀ m, m < wSz C i → I (3 + wPg C i) (cIn (wSt C i + m)) = 0 := fun i hi m hm => by
            obtain ⟨r1, r2⟩ := Yb i hi (by omega)
            rcases hopen i hi m hm with r | r
            · rw [EK 63 _ (by omega) (by omega) (by omega) (by omega) (by omega) (by omega)] at r
              exact (hI.cell _ r1 _ (cIn_lt (by omega))).1.trans r
            · exact absurd rfl r.1
          obtain hM63 : ∀ v j, v = 63 ∨ v = 81 ∨ (v = 60 ∧ j = 3) → M1 v j = I v j := fun v j hv => (MO v j (by unfold mOut_; omega)).trans (EK v j (by omega) (by omega) (by omega) (by omega) (by omega) (by omega))
          obtain hz3 : ¬ (0 : Int32) = nI (200 + s) := nI_ne2 (a := 0) (by omega) (by decide) (by omega)
          obtain C2 := mC.out (s := s) (u := u) (K := M1) Yb (fun i hi m hm => by
            obtain ⟨r1, r2⟩ := Yb i hi (by omega)
            rw [hM63 63 _ (Or.inl rfl), ← (hI.cell _ r1 _ (cIn_lt (by omega))).1, hfree i hi m hm]
            exact hz3)
          obtain LO : ∀ v j, v ≠ 63 → v ≠ 81 → (v ≠ 60 ∨ j ≠ 3) → (v ≠ 76 ∨ j ≠ s) → ((v < 77 ∨ 79 < v) ∨ j < 2 * s ∨ 2 * s + 2 ≤ j) → mLay s u (wPg C) (wSt C) (wSz C) M1 v j = M1 v j := fun v j h1 h2 h3 h4 h5 => mLay_o h1 h2 h3 h4 h5
          obtain ⟨LS1, LS2⟩ := mLay_s (s := s) (u := u) (pg := wPg C) (st := wSt C) (sz := wSz C) (K := M1)
          generalize mLay s u (wPg C) (wSt C) (wSz C) M1 = I2 at P2 C2 LO LS1 LS2
          obtain CP := ((cpl.of hI).to (I' := CX) (K' := mD M1 I2) (fun v j hv => EX v j (by omega) (by omega)) (fun v j hv => (mD_in _ _ hv).trans (hM63 v j hv))).step C1 C2
          obtain E3 : ∀ v j, v ≠ 63 → v ≠ 81 → (v ≠ 60 ∨ (j ≠ 3 ∧ j ≠ 48 ∧ j ≠ 43 ∧ j ≠ 47)) → (v < 95 ∨ 97 < v) → (v ≠ 76 ∨ j ≠ s) → ((v < 77 ∨ 79 < v) ∨ j < 2 * s ∨ 2 * s + 2 ≤ j) → I2 v j = I1 v j := fun v j h1 h2 h3 h4 h5 h6 => (LO v j h1 h2 (by omega) h5 h6).trans ((MO v j (by unfold mOut_; omega)).trans (if_neg (by omega)))
          obtain E4 : ∀ v j, v ≠ 63 → v ≠ 81 → (v ≠ 60 ∨ (j ≠ 3 ∧ j ≠ 48 ∧ j ≠ 43 ∧ j ≠ 47)) → (v < 95 ∨ 97 < v) → (v ≠ 76 ∨ j ≠ s) → ((v < 77 ∨ 79 < v) ∨ j < 2 * s ∨ 2 * s + 2 ≤ j) → (v < 3 ∨ 13 ≤ v) → v ≠ 15 → (v ≠ 1 ∨ j ≠ 6) → (v < 20 ∨ 28 < v) → (v < 201 + 5 * s ∨ 204 + 5 * s < v) → I2 v j = I v j := fun v j h1 h2 h3 h4 h5 h6 h7 h8 h9 h10 h11 => (E3 v j h1 h2 h3 h4 h5 h6).trans (E1 v j h7 h8 h9 h10 h11)
          obtain CP2 : cpl I2 I2 := CP.to (fun v j h => E3 v j (by omega) (by omega) (by omega) (by omega) (by omega) (by omega)) (fun v j h => rfl)
          obtain MK : ∀ y, ¬ (0 : Int32) = y → ¬ nI (200 + s) = y → ∀ p, p < 10 → ∀ k, k < 12 → (I2 (3 + p) k = y ↔ I (3 + p) k = y) := fun y h1 h2 q hq k hk => by
            rw [E3 _ _ (by omega) (by omega) (by omega) (by omega) (by omega) (by omega)]
            refine (C1.mark h2 (fun q hq k hk so r => h1 ?_) q hq k hk).trans (by rw [EX _ _ (by omega) (by omega)])
            obtain ⟨i, i1, m, i2, i3, i4⟩ := so
            rw [EX _ _ (by omega) (by omega), i3, i4] at r
            exact (hfree i i1 m i2).symm.trans r
          obtain hsout : ∀ p, p < 10 → ∀ k, k < 12 → (I2 (3 + p) k = nI (200 + s) ↔ outS (wPg C) (wSt C) (wSz C) p k) := fun p hp k hk => by
            rw [E3 _ _ (by omega) (by omega) (by omega) (by omega) (by omega) (by omega)]
            by_cases so : outS (wPg C) (wSt C) (wSz C) p k
            · exact ⟨fun _ => so, fun _ => (C1.1 p hp k hk).1 so⟩
            · refine ⟨fun r => absurd r ?_, fun r => absurd r so⟩
              rw [(C1.1 p hp k hk).2 so, EX _ _ (by omega) (by omega)]
              exact hno p hp k hk
          obtain P9 : I1 (201 + 5 * s) 0 = nI u := (EI _ _ (by omega) (by omega) (by omega)).trans X0
          refine arm_9 (dX := 8) (I1 := I1) (I2 := I2) hi hn (by decide) (fun j => E1 _ _ (by omega) (by omega) (by omega) (by omega) (by omega)) (w_lay_ok n c c J (by rw [e1]; exact P1)) (by rw [e1]; exact P2) ((LO 60 48 (by omega) (by omega) (by omega) (by omega) (by omega)).trans ((MO 60 48 (by unfold mOut_; omega)).trans (xv_u_eq _ _ _ _))) (fun _ => by rw [xv_u_eq, P9]) hkc hks (fun l5 l6 => ?_)
          refine @hk c _ _ l5 l6 (Inv.set_putsS hI (CP2.cell ?_) CP2.touch CP2.2.2 (hI.ad.cells (fun v j h => E4 v j (by omega) (by omega) (by omega) (by omega) (by omega) (by omega) (by omega) (by omega) (by omega) (by omega) (by omega)) (fun b hb => MK _ (nI_ne2 (a := 0) (by omega) (by decide) (by omega)) (nI_ne2 (by omega) (by omega) (by omega)))) ⟨(E4 _ _ (by omega) (by omega) (by omega) (by omega) (by omega) (by omega) (by omega) (by omega) (by omega) (by omega) (by omega)).trans g1, (E4 _ _ (by omega) (by omega) (by omega) (by omega) (by omega) (by omega) (by omega) (by omega) (by omega) (by omega) (by omega)).trans g2, g3, fun b hb => ?_⟩ (fun t h1 h2 => (E4 _ _ (by omega) (by omega) (by omega) (by omega) (by omega) (by omega) (by omega) (by omega) (by omega) (by omega) (by omega)).trans (hI.new t h1 h2)) ?_)
          · intro q hq k hk9
            rw [E3 _ _ (by omega) (by omega) (by omega) (by omega) (by omega) (by omega)]
            exact C1.ok (fun q hq k hk => by rw [EX _ _ (by omega) (by omega)]; exact (hI.cell q hq k hk).2) (Or.inr (Or.inr (Or.inl ⟨by omega, by omega⟩))) q hq k hk9
          · by_cases e : b = s
            · subst e
              refine ⟨d, np, lo, u, a1, a2, a3, a4, a5, a6, u2, a8, ?_⟩
              obtain E5 : ∀ v j, v = 72 ∨ v = 73 ∨ v = 74 ∨ v = 75 → I2 v j = I v j := fun v j hv => E4 v j (by omega) (by omega) (by omega) (by omega) (by omega) (by omega) (by omega) (by omega) (by omega) (by omega) (by omega)
              obtain E6 : ∀ j, I2 (200 + 5 * b) j = I (200 + 5 * b) j := fun j => E4 _ j (by omega) (by omega) (by omega) (by omega) (by omega) (by omega) (by omega) (by omega) (by omega) (by omega) (by omega)
              rw [E6 0, E6 1, E6 2, E6 3, E5 72 _ (by omega), E5 73 _ (by omega), E5 75 _ (by omega)]
              refine ⟨a9, a10, a11, a12, a13, a14, fun k hk => (E5 74 _ (by omega)).trans (a15 k hk), (E3 _ _ (by omega) (by omega) (by omega) (by omega) (by omega) (by omega)).trans P9, LS1, Or.inr ⟨by omega, wPg C, wSt C, wSz C, Y2, xWy_to XW (fun v j h1 h2 => (E3 _ _ (by omega) (by omega) (by omega) (by omega) (by omega) (by omega)).trans (EI _ _ (by omega) (by omega) (by omega))), fun i hi => ?_, fun p hp => ?_⟩⟩
              · obtain ⟨r1, r2, r3⟩ := LS2 i hi
                exact ⟨r3, fun hs => ⟨r1.trans (T3 i hi hs).1, r2.trans (T3 i hi hs).2⟩⟩
              · constructor
                · rintro ⟨k, k1, k2⟩
                  obtain ⟨i, i1, m, i2, i3, -⟩ := (hsout p hp k k1).mp k2
                  exact ⟨i, i1, by omega, i3.symm⟩
                · rintro ⟨i, i1, i2, i3⟩
                  obtain ⟨r1, r2⟩ := Yb i i1 i2
                  exact ⟨cIn (wSt C i + 0), cIn_lt (by omega), (hsout p hp _ (cIn_lt (by omega))).mpr ⟨i, i1, 0, i2, i3.symm, rfl⟩⟩
            · exact (g4 b hb).cells (fun v j h1 h2 => E4 _ _ (by omega) (by omega) (by omega) (by omega) (by omega) (by omega) (by omega) (by omega) (by omega) (by omega) (by omega)) (fun v j h1 => E4 _ _ (by omega) (by omega) (by omega) (by omega) (by omega) (by omega) (by omega) (by omega) (by omega) (by omega) (by omega)) (MK _ (nI_ne2 (a := 0) (by omega) (by decide) (by omega)) (nI_ne2 (by omega) (by omega) (by omega)))
          · intro v j h1 h2 h3 h4 h5
            exact E4 v j (by omega) (by omega) (by omega) (by omega) (by omega) (by omega) (by omega) (by omega) (by omega) (by omega) (by omega)
    · exact arm_9 (dX := 8) (I1 := I) (I2 := xv_u I 60 48 (nI 2)) (out := nI 0) hi hn (by decide) (fun _ => rfl) (w_lay_S n c c J (by rw [e1]; exact p_lay_b n c I J hs (by omega) (by rw [a16]; exact nI_nle0 h0 (by omega)))) (by rw [e1]; exact m_lay_b n c _ _ hs g2 g3 (by rw [a17]; exact nI_nle0 h0 (by omega))) (xv_u_eq _ _ _ _) (fun q => absurd q (by decide)) hkc hks (fun l5 l6 => by exact hk c _ _ l5 l6 (hI.to (by intro v j h1 h2 h3 h4; simp only [xv_u]; repeat rw [if_neg (by omega)])))
  · exact arm_9 (dX := 8) (I1 := I) (I2 := xv_u I 60 48 (nI 1)) (out := nI 0) hi hn (by decide) (fun _ => rfl) (w_lay_I n c c J (p_lay_a n c I J b1)) (m_lay_a n c _ _ b1 g2 g3) (xv_u_eq _ _ _ _) (fun q => absurd q (by decide)) hkc hks (fun l5 l6 => by exact hk c _ _ l5 l6 (hI.to (by intro v j h1 h2 h3 h4; simp only [xv_u]; repeat rw [if_neg (by omega)])))