/-! READING THE CELLS: what the law's rows are when it has read the first m cells, and counted the first e -/
/-- the mark that the place j of the row seen counts -/
def mk (j : Nat) : Nat := if j < 20 then 100 + j else 180 + j
noncomputable def cnt (I : xv_I) (j : Nat) : Nat → Nat
  | 0 => 0
  | i + 1 => cnt I j i + iteP (I (3 + i / 12) (i % 12) = nI (mk j)) 1 0
def PI (I : xv_I) (m e : Nat) (I' : xv_I) : Prop :=
  (∀ v j, v ≠ 66 → v ≠ 67 → v ≠ 70 → (v ≠ 64 ∨ 10 ≤ j) → (v ≠ 69 ∨ j ≠ 2) → I' v j = I v j) ∧
  (∀ p, p < 10 → ∀ k, k < 12 → (12 * p + k < m → cE I' p k = I (3 + p) k) ∧ (m ≤ 12 * p + k → cE I' p k = cE I p k)) ∧
  (∀ p, p < 10 → ((∃ k, k < 12 ∧ 12 * p + k < m ∧ ¬ I (3 + p) k = cE I p k) → I' 64 p = nI 0) ∧ ((∀ k, k < 12 → 12 * p + k < m → I (3 + p) k = cE I p k) → I' 64 p = I 64 p)) ∧
  (∀ t, t < 32 → I 69 2 = nI t → ∃ t', t' < 32 ∧ I' 69 2 = nI t' ∧ ∀ j, t'.testBit j = true ↔ (t.testBit j = true ∨ ∃ p k, p < 10 ∧ k < 12 ∧ 12 * p + k < m ∧ ¬ I (3 + p) k = cE I p k ∧ p / 2 = j)) ∧
  (∀ j, j < 40 → I' 70 j = nI (cnt I j e))
theorem PI.start (I : xv_I) : PI I 0 0 (xv_z I 70 0) := by
  have e : ∀ v j, v ≠ 70 → xv_z I 70 0 v j = I v j := fun v j h => by
    unfold xv_z
    exact if_neg h
  refine ⟨fun v j _ _ h _ _ => e v j h, fun p _ k _ => ⟨fun h => absurd h (Nat.not_lt_zero _), fun _ => cE_to fun v j h => e v j (by omega)⟩, fun p _ => ⟨fun ⟨_, _, h, _⟩ => absurd h (Nat.not_lt_zero _), fun _ => e _ _ (by decide)⟩, fun t h1 h2 => ⟨t, h1, (e _ _ (by decide)).trans h2, fun j => ⟨Or.inl, fun h => h.elim id fun ⟨_, _, _, _, h, _⟩ => absurd h (Nat.not_lt_zero _)⟩⟩, fun j _ => ?_⟩
  show xv_z I 70 0 70 j = nI 0
  unfold xv_z
  rw [if_pos rfl]
  rfl
theorem PI.keep {I I' : xv_I} {p k e : Nat} (hp : p < 10) (hk : k < 12) (h : PI I (12 * p + k) e I') (hs : I (3 + p) k = cE I p k) : PI I (12 * p + k + 1) e I' := by
  obtain ⟨h1, h2, h3, h4, h5⟩ := h
  have key : ∀ q j, q < 10 → j < 12 → 12 * q + j < 12 * p + k + 1 → ¬ I (3 + q) j = cE I q j → 12 * q + j < 12 * p + k := fun q j hq hj g g2 => by
    rcases Nat.lt_or_ge (12 * q + j) (12 * p + k) with r | r
    · exact r
    · obtain rfl : q = p := by omega
      obtain rfl : j = k := by omega
      exact absurd hs g2
  refine ⟨h1, fun q hq j hj => ⟨fun g => ?_, fun g => (h2 q hq j hj).2 (by omega)⟩, fun q hq => ⟨fun ⟨j, hj, g, g2⟩ => (h3 q hq).1 ⟨j, hj, key q j hq hj g g2, g2⟩, fun g => (h3 q hq).2 fun j hj g2 => g j hj (by omega)⟩, fun t t1 t2 => ?_, h5⟩
  · rcases Nat.lt_or_ge (12 * q + j) (12 * p + k) with r | r
    · exact (h2 q hq j hj).1 r
    · obtain rfl : q = p := by omega
      obtain rfl : j = k := by omega
      rw [(h2 q hq j hj).2 (by omega), hs]
  · obtain ⟨t', a1, a2, a3⟩ := h4 t t1 t2
    exact ⟨t', a1, a2, fun j => (a3 j).trans ⟨fun r => r.elim Or.inl fun ⟨q, i, b1, b2, b3, b4, b5⟩ => Or.inr ⟨q, i, b1, b2, by omega, b4, b5⟩, fun r => r.elim Or.inl fun ⟨q, i, b1, b2, b3, b4, b5⟩ => Or.inr ⟨q, i, b1, b2, key q i b1 b2 b3 b4, b4, b5⟩⟩⟩
theorem xCp_cE {I : xv_I} {p k q j : Nat} {x : Int32} (hp : p < 10) (hk : k < 12) (hq : q < 10) (hj : j < 12) : cE (xCp p k x I) q j = if q = p ∧ j = k then x else cE I q j := by
  unfold cE xCp xv_u
  by_cases h : q = p ∧ j = k
  · obtain ⟨rfl, rfl⟩ := h
    rw [if_pos (show q = q ∧ j = j from ⟨rfl, rfl⟩)]
    by_cases g : q < 5
    · rw [if_pos g, if_pos g]
      exact if_pos ⟨rfl, rfl⟩
    · rw [if_neg g, if_neg g]
      exact if_pos ⟨rfl, rfl⟩
  · rw [if_neg h]
    by_cases g : q < 5
    · rw [if_pos g, if_pos g]
      by_cases g2 : p < 5
      · rw [if_pos g2]
        exact if_neg (by omega)
      · rw [if_neg g2]
        exact if_neg (by omega)
    · rw [if_neg g, if_neg g]
      by_cases g2 : p < 5
      · rw [if_pos g2]
        exact if_neg (by omega)
      · rw [if_neg g2]
        exact if_neg (by omega)
theorem xCp_o {I : xv_I} {p k v j : Nat} {x : Int32} (h : v ≠ 66) (h2 : v ≠ 67) : xCp p k x I v j = I v j := by
  unfold xCp
  by_cases g : p < 5
  · rw [if_pos g]
    exact xv_u_ne _ _ _ h
  · rw [if_neg g]
    exact xv_u_ne _ _ _ h2
theorem pl_or {t p : Nat} (ht : t < 32) (hp : p < 10) : nI t ||| nI (2 ^ (p / 2)) = nI (t ||| 2 ^ (p / 2)) ∧ t ||| 2 ^ (p / 2) < 32 ∧ ∀ j, (t ||| 2 ^ (p / 2)).testBit j = true ↔ (t.testBit j = true ∨ p / 2 = j) := by
  refine ⟨fa_or _ _, Nat.or_lt_two_pow (n := 5) ht (Nat.pow_lt_pow_right (by decide) (by omega)), fun j => ?_⟩
  rw [Nat.testBit_or, Nat.testBit_two_pow, Bool.or_eq_true, decide_eq_true_iff]
/-- what the law writes where a cell has changed -/
def wrI (p k : Nat) (x : Int32) (I' : xv_I) : xv_I := xCp p k x (xv_u (xv_u I' 69 2 (I' 69 2 ||| nI (2 ^ (p / 2)))) 64 p (nI 0))
theorem PI.wr {I I' : xv_I} {p k e : Nat} (hp : p < 10) (hk : k < 12) (h : PI I (12 * p + k) e I') (hs : ¬ I (3 + p) k = cE I p k) : PI I (12 * p + k + 1) e (wrI p k (I (3 + p) k) I') := by
  obtain ⟨h1, h2, h3, h4, h5⟩ := h
  have eo : ∀ v j, v ≠ 66 → v ≠ 67 → (v ≠ 64 ∨ j ≠ p) → (v ≠ 69 ∨ j ≠ 2) → wrI p k (I (3 + p) k) I' v j = I' v j := fun v j a1 a2 a3 a4 => by
    unfold wrI
    rw [xCp_o a1 a2]
    unfold xv_u
    rw [if_neg (by omega), if_neg (by omega)]
  have eE : ∀ q j, q < 10 → j < 12 → cE (wrI p k (I (3 + p) k) I') q j = if q = p ∧ j = k then I (3 + p) k else cE I' q j := fun q j hq hj => by
    unfold wrI
    rw [xCp_cE hp hk hq hj]
    congr 1
  have e64 : wrI p k (I (3 + p) k) I' 64 p = nI 0 := by
    unfold wrI
    rw [xCp_o (by decide) (by decide), xv_u_eq]
  have e69 : wrI p k (I (3 + p) k) I' 69 2 = I' 69 2 ||| nI (2 ^ (p / 2)) := by
    unfold wrI
    rw [xCp_o (by decide) (by decide), xv_u_ne _ _ _ (by decide), xv_u_eq]
  refine ⟨fun v j a1 a2 a3 a4 a5 => (eo v j a1 a2 (by omega) a5).trans (h1 v j a1 a2 a3 a4 a5), fun q hq j hj => ⟨fun g => ?_, fun g => ?_⟩, fun q hq => ⟨fun g => ?_, fun g => ?_⟩, fun t t1 t2 => ?_, fun j hj => (eo 70 j (by decide) (by decide) (by omega) (by omega)).trans (h5 j hj)⟩
  · rw [eE q j hq hj]
    by_cases r : q = p ∧ j = k
    · rw [if_pos r, r.1, r.2]
    · rw [if_neg r]
      exact (h2 q hq j hj).1 (by omega)
  · rw [eE q j hq hj, if_neg (by omega)]
    exact (h2 q hq j hj).2 (by omega)
  · by_cases r : q = p
    · rw [r]
      exact e64
    · rw [eo 64 q (by decide) (by decide) (by omega) (by omega)]
      obtain ⟨j, g1, g2, g3⟩ := g
      exact (h3 q hq).1 ⟨j, g1, by omega, g3⟩
  · by_cases r : q = p
    · subst r
      exact absurd (g k hk (by omega)) hs
    · rw [eo 64 q (by decide) (by decide) (by omega) (by omega)]
      exact (h3 q hq).2 fun j hj g2 => g j hj (by omega)
  · obtain ⟨t', a1, a2, a3⟩ := h4 t t1 t2
    obtain ⟨b1, b2, b3⟩ := pl_or a1 hp
    refine ⟨_, b2, by rw [e69, a2, b1], fun j => ?_⟩
    rw [b3, a3]
    constructor
    · rintro ((g | ⟨q, i, c1, c2, c3, c4, c5⟩) | g)
      · exact Or.inl g
      · exact Or.inr ⟨q, i, c1, c2, by omega, c4, c5⟩
      · exact Or.inr ⟨p, k, hp, hk, by omega, hs, g⟩
    · rintro (g | ⟨q, i, c1, c2, c3, c4, c5⟩)
      · exact Or.inl (Or.inl g)
      · rcases Nat.lt_or_ge (12 * q + i) (12 * p + k) with r | r
        · exact Or.inl (Or.inr ⟨q, i, c1, c2, r, c4, c5⟩)
        · exact Or.inr (by omega)
theorem mk_v {j : Nat} (h : j < 40) : (j < 20 ∧ mk j = 100 + j) ∨ (20 ≤ j ∧ mk j = 180 + j) := by
  unfold mk
  by_cases g : j < 20
  · rw [if_pos g]; omega
  · rw [if_neg g]; omega
theorem cnt_step {I : xv_I} {p k j v : Nat} (hp : p < 10) (hk : k < 12) (hj : j < 40) (e : I (3 + p) k = nI v) (hv : v < 2 ^ 31) : cnt I j (12 * p + k + 1) = cnt I j (12 * p + k) + if v = mk j then 1 else 0 := by
  rw [cnt, show (12 * p + k) / 12 = p by omega, show (12 * p + k) % 12 = k by omega, e]
  congr 1
  have hm : mk j < 2 ^ 31 := by
    have := mk_v hj
    omega
  by_cases g : v = mk j
  · rw [if_pos g, iteP_t (by rw [g])]
  · rw [if_neg g, iteP_f fun q => g ((nI_eq hv hm).mp q)]
theorem PI.no {I I' : xv_I} {p k m v : Nat} (hp : p < 10) (hk : k < 12) (e : I (3 + p) k = nI v) (hv : v < 100 ∨ (300 ≤ v ∧ v < 2 ^ 31)) (h : PI I m (12 * p + k) I') : PI I m (12 * p + k + 1) I' := by
  obtain ⟨h1, h2, h3, h4, h5⟩ := h
  refine ⟨h1, h2, h3, h4, fun j hj => ?_⟩
  have := mk_v hj
  rw [cnt_step hp hk hj e (by omega), if_neg (by omega)]
  exact h5 j hj
theorem PI.seen {I I' : xv_I} {p k m v j : Nat} (hp : p < 10) (hk : k < 12) (e : I (3 + p) k = nI v) (hj : j < 40) (hv : v = mk j) (h : PI I m (12 * p + k) I') : PI I m (12 * p + k + 1) (xv_u I' 70 j (I' 70 j + nI 1)) := by
  obtain ⟨h1, h2, h3, h4, h5⟩ := h
  have eo : ∀ v i, v ≠ 70 → xv_u I' 70 j (I' 70 j + nI 1) v i = I' v i := fun v i g => xv_u_ne _ _ _ g
  have hm := mk_v hj
  refine ⟨fun v i a1 a2 a3 a4 a5 => (eo v i a3).trans (h1 v i a1 a2 a3 a4 a5), fun q hq i hi => by rw [cE_to fun v j h => eo v j (by omega)]; exact h2 q hq i hi, fun q hq => by rw [eo 64 _ (by decide)]; exact h3 q hq, fun t t1 t2 => by rw [eo 69 _ (by decide)]; exact h4 t t1 t2, fun i hi => ?_⟩
  have hm2 := mk_v hi
  rw [cnt_step hp hk hi e (by omega)]
  by_cases g : i = j
  · subst g
    rw [if_pos hv, xv_u_eq, h5 i hi, nI_add]
  · rw [if_neg (by omega), xv_u_nk _ _ _ g]
    exact h5 i hi
/-- when all are read: the rows agree again -/
theorem PI.inv {c : Nat × Nat} {I I' : xv_I} (h : PI I 120 120 I') (hM : Mid c I) : Inv c I' := by
  obtain ⟨h1, h2, h3, h4, h5⟩ := h
  obtain ⟨hR, hS, t, u, t1, u1, t2, u2, t3⟩ := hM
  refine ⟨hR.to fun v j _ _ _ _ a1 a2 a3 a4 a5 => h1 v j a1 a2 a3 a4 a5, fun p hp k hk => ?_, ?_, fun p hp => ?_⟩
  · rw [(h2 p hp k hk).1 (by omega)]
    exact h1 _ _ (by omega) (by omega) (by omega) (by omega) (by omega)
  · obtain ⟨t', a1, a2, a3⟩ := h4 t t1 t2
    refine ⟨u, u1, (h1 1 6 (by decide) (by decide) (by decide) (by omega) (by omega)).trans u2, ?_⟩
    rw [a2]
    congr 1
    refine Nat.eq_of_testBit_eq fun j => Bool.eq_iff_iff.mpr ((a3 j).trans (Iff.trans ?_ (t3 j).symm))
    constructor
    · rintro (g | ⟨p, k, b1, b2, b3, b4, b5⟩)
      · exact Or.inl g
      · exact Or.inr ⟨p, b1, b5, k, b2, b4⟩
    · rintro (g | ⟨p, b1, b5, k, b2, b4⟩)
      · exact Or.inl g
      · exact Or.inr ⟨p, k, b1, b2, by omega, b4, b5⟩
  · obtain ⟨b, b1, b2, b3, b4, b5⟩ := hS p hp
    have e5 : I' 1 5 = I 1 5 := h1 1 5 (by decide) (by decide) (by decide) (by omega) (by omega)
    by_cases g : chg I p
    · obtain ⟨k, hk, g2⟩ := id g
      exact ⟨0, by decide, (h1 15 p (by decide) (by decide) (by decide) (by omega) (by omega)).trans (b3 g), (h3 p hp).1 ⟨k, hk, by omega, g2⟩, fun B _ _ => Nat.zero_and B⟩
    · exact ⟨b, b1, (h1 15 p (by decide) (by decide) (by decide) (by omega) (by omega)).trans (b4 g), ((h3 p hp).2 fun k hk _ => Classical.byContradiction fun q => g ⟨k, hk, q⟩).trans b2, b5.to e5⟩
/-- how many cells of a page are taken -/
noncomputable def tkn (I : xv_I) (p : Nat) : Nat → Nat
  | 0 => 0
  | k + 1 => tkn I p k + iteP (I (3 + p) k = 0) 0 1
theorem tkn_le (I : xv_I) (p : Nat) : ∀ k, tkn I p k ≤ k
  | 0 => Nat.le_refl _
  | k + 1 => by
    have := tkn_le I p k
    rw [tkn]
    by_cases g : I (3 + p) k = 0
    · rw [iteP_t g]; omega
    · rw [iteP_f g]; omega
theorem tkn_0 (I : xv_I) (p : Nat) : ∀ k, tkn I p k = 0 ↔ ∀ j, j < k → I (3 + p) j = 0
  | 0 => ⟨fun _ => lt_no, fun _ => rfl⟩
  | k + 1 => by
    rw [tkn]
    by_cases g : I (3 + p) k = 0
    · rw [iteP_t g, Nat.add_zero, tkn_0 I p k]
      exact ⟨fun h => lt_or h g, fun h j hj => h j (by omega)⟩
    · rw [iteP_f g]
      exact ⟨fun h => by omega, fun h => absurd (h k (by omega)) g⟩
theorem PI.sig {c : Nat × Nat} {I I' : xv_I} {p e : Nat} (hM : Mid c I) (hp : p < 10) (h : PI I (12 * p + 12) e I') : ∃ b, b < 64 ∧ I' 15 p = nI b ∧ I' 64 p = nI b := by
  obtain ⟨b, b1, b2, b3, b4, _⟩ := hM.2.1 p hp
  have e15 : I' 15 p = I 15 p := h.1 15 p (by decide) (by decide) (by decide) (by omega) (by omega)
  by_cases g : chg I p
  · obtain ⟨k, hk, g2⟩ := id g
    exact ⟨0, by decide, e15.trans (b3 g), (h.2.2.1 p hp).1 ⟨k, hk, by omega, g2⟩⟩
  · exact ⟨b, b1, e15.trans (b4 g), ((h.2.2.1 p hp).2 fun k hk _ => Classical.byContradiction fun q => g ⟨k, hk, q⟩).trans b2⟩
/-- a cell of a story lies on a page of its section, or of the section 0 -/
theorem st_sec {c : Nat × Nat} {I : xv_I} (hR : Rest c I) {p k a : Nat} (hp : p < 10) (hk : k < 12) (ha : a < c.2) (e : I (3 + p) k = nI (200 + a)) : ∃ s sec z X, s < 4 ∧ z < 2 ∧ I 60 p = nI (s + 10 * z) ∧ X < 2 ^ 31 ∧ X % 10 = sec ∧ I 63 a = nI X ∧ (s = sec ∨ s = 0) := by
  obtain ⟨s, z, s1, z1, e1, e2, e3⟩ := hR.1 p hp
  obtain ⟨sec, d, np, lo, sh, a1, a2, a3, a4, a5, a6, a7, a8, a9, b1, b2, b3, b4, b5, b6⟩ := hR.2.2.2.2.2.2.1.2.2.2 a ha
  refine ⟨s, sec, z, sec + 10 * sh + 1000 * d, s1, z1, e3, by omega, by omega, b5, ?_⟩
  rcases b6 with ⟨d1, d2, d3⟩ | ⟨d1, pg, st, sz, d2, d3, d4, d5, d6, d7, d8, d9⟩
  · exact absurd e (d3 p hp k hk)
  · obtain ⟨i, hi, m, hm, q1, q2⟩ := (d9 p hp k hk).mp e
    have h13 : I 13 p = nI sec ∨ I 13 p = nI 0 := by
      rcases Nat.eq_zero_or_pos i with r | r
      · subst r; rw [q1]; exact Or.inl d5
      · obtain rfl : i = 1 := by omega
        rw [q1]; exact Or.inr (d6 (by omega)).2
    rcases h13 with r | r
    · exact Or.inl ((nI_eq (by omega) (by omega)).mp (e1.symm.trans r))
    · exact Or.inr ((nI_eq (by omega) (by decide)).mp (e1.symm.trans r))
def pcB (f : Nat → Bool) : Nat → Nat
  | 0 => 0
  | k + 1 => pcB f k + if f k = true then 1 else 0
def smB (B : Nat → Nat → Bool) : Nat → Nat
  | 0 => 0
  | p + 1 => smB B p + pcB (B p) 12
theorem cnt_pg {I : xv_I} {j p : Nat} {B : Nat → Bool} (hB : ∀ k, k < 12 → (I (3 + p) k = nI (mk j) ↔ B k = true)) : ∀ k, k ≤ 12 → cnt I j (12 * p + k) = cnt I j (12 * p) + pcB B k
  | 0, _ => rfl
  | k + 1, hk => by
    rw [← Nat.add_assoc, cnt, cnt_pg hB k (by omega), pcB, show (12 * p + k) / 12 = p by omega, show (12 * p + k) % 12 = k by omega, Nat.add_assoc]
    congr 2
    by_cases g : B k = true
    · rw [if_pos g, iteP_t ((hB k (by omega)).mpr g)]
    · rw [if_neg g, iteP_f fun q => g ((hB k (by omega)).mp q)]
theorem cnt_sm {I : xv_I} {j : Nat} {B : Nat → Nat → Bool} (hB : ∀ p, p < 10 → ∀ k, k < 12 → (I (3 + p) k = nI (mk j) ↔ B p k = true)) : ∀ p, p ≤ 10 → cnt I j (12 * p) = smB B p
  | 0, _ => rfl
  | p + 1, hp => by
    rw [Nat.mul_succ, cnt_pg (hB p (by omega)) 12 (Nat.le_refl _), cnt_sm hB p (by omega), smB]
theorem pcB_0 {f : Nat → Bool} (h : ∀ k, f k = false) : ∀ k, pcB f k = 0
  | 0 => rfl
  | k + 1 => by rw [pcB, pcB_0 h k, h k]; rfl
theorem smB_0 {B : Nat → Nat → Bool} : ∀ n, (∀ p, p < n → ∀ k, B p k = false) → smB B n = 0
  | 0, _ => rfl
  | n + 1, h => by rw [smB, smB_0 n fun p hp => h p (by omega), pcB_0 (h n (by omega))]
theorem smB_1 {B : Nat → Nat → Bool} {p : Nat} : ∀ n, p < n → (∀ q, q < n → q ≠ p → ∀ k, B q k = false) → smB B n = pcB (B p) 12
  | 0, h, _ => absurd h (Nat.not_lt_zero _)
  | n + 1, h, g => by
    rw [smB]
    rcases Nat.lt_or_ge p n with r | r
    · rw [smB_1 n r fun q hq => g q (by omega), pcB_0 (g n (by omega) (by omega)), Nat.add_zero]
    · obtain rfl : p = n := by omega
      rw [smB_0 p fun q hq => g q (by omega) (by omega), Nat.zero_add]
theorem smB_2 {B : Nat → Nat → Bool} {p p2 : Nat} (hpp : p < p2) : ∀ n, p2 < n → (∀ q, q < n → q ≠ p → q ≠ p2 → ∀ k, B q k = false) → smB B n = pcB (B p) 12 + pcB (B p2) 12
  | 0, h, _ => absurd h (Nat.not_lt_zero _)
  | n + 1, h, g => by
    rw [smB]
    rcases Nat.lt_or_ge p2 n with r | r
    · rw [smB_2 hpp n r fun q hq => g q (by omega), pcB_0 (g n (by omega) (by omega) (by omega)), Nat.add_zero]
    · obtain rfl : p2 = n := by omega
      rw [smB_1 p2 hpp fun q hq h1 => g q (by omega) h1 (by omega)]
def rectB (f w h k : Nat) : Bool := decide (f % 3 ≤ k % 3) && decide (k % 3 < f % 3 + w) && decide (f / 3 ≤ k / 3) && decide (k / 3 < f / 3 + h)
theorem rectB_n : ∀ f, f < 12 → ∀ w, w < 4 → ∀ h, h < 5 → f % 3 + w ≤ 3 → f / 3 + h ≤ 4 → pcB (rectB f w h) 12 = w * h := by decide +kernel
theorem rectB_iff {f w h k : Nat} (h1 : f % 3 + w ≤ 3) (h2 : f / 3 + h ≤ 4) : (∃ d r, d < h ∧ r < w ∧ k = f + 3 * d + r) ↔ rectB f w h k = true := by
  unfold rectB
  rw [Bool.and_eq_true, Bool.and_eq_true, Bool.and_eq_true, decide_eq_true_iff, decide_eq_true_iff, decide_eq_true_iff, decide_eq_true_iff]
  constructor
  · rintro ⟨d, r, g1, g2, g3⟩
    omega
  · rintro ⟨⟨⟨g1, g2⟩, g3⟩, g4⟩
    exact ⟨k / 3 - f / 3, k % 3 - f % 3, by omega, by omega, by omega⟩
def runB (st sz k : Nat) : Bool := decide (st ≤ k % 3 * 4 + k / 3) && decide (k % 3 * 4 + k / 3 < st + sz)
theorem runB_n : ∀ st, st < 13 → ∀ sz, sz < 13 → st + sz ≤ 12 → pcB (runB st sz) 12 = sz := by decide +kernel
theorem cIn_inv : ∀ k, k < 12 → cIn (k % 3 * 4 + k / 3) = k := by decide
theorem runB_iff {st sz k : Nat} (h : st + sz ≤ 12) (hk : k < 12) : (∃ m, m < sz ∧ k = cIn (st + m)) ↔ runB st sz k = true := by
  unfold runB
  rw [Bool.and_eq_true, decide_eq_true_iff, decide_eq_true_iff]
  constructor
  · rintro ⟨m, g1, g2⟩
    have := (cIn_12 (st + m) (by omega)).2
    rw [← g2] at this
    omega
  · rintro ⟨g1, g2⟩
    refine ⟨k % 3 * 4 + k / 3 - st, by omega, ?_⟩
    rw [show st + (k % 3 * 4 + k / 3 - st) = k % 3 * 4 + k / 3 by omega]
    exact (cIn_inv k hk).symm
theorem cnt_none {I : xv_I} {j : Nat} (h : ∀ p, p < 10 → ∀ k, k < 12 → ¬ I (3 + p) k = nI (mk j)) : cnt I j 120 = 0 := by
  rw [show 120 = 12 * 10 from rfl, cnt_sm (B := fun _ _ => false) (fun p hp k hk => ⟨fun q => absurd q (h p hp k hk), fun q => absurd q (by decide)⟩) 10 (Nat.le_refl _)]
  exact smB_0 10 fun _ _ _ => rfl
theorem cnt_rect {I : xv_I} {j p f w h : Nat} (hp : p < 10) (h1 : f % 3 + w ≤ 3) (h2 : f / 3 + h ≤ 4) (hw : 1 ≤ w) (hh : 1 ≤ h) (e : ∀ q, q < 10 → ∀ k, k < 12 → (I (3 + q) k = nI (mk j) ↔ q = p ∧ ∃ d r, d < h ∧ r < w ∧ k = f + 3 * d + r)) : cnt I j 120 = w * h := by
  rw [show 120 = 12 * 10 from rfl, cnt_sm (B := fun q k => decide (q = p) && rectB f w h k) (fun q hq k hk => by
    rw [e q hq k hk, Bool.and_eq_true, decide_eq_true_iff, rectB_iff h1 h2]) 10 (Nat.le_refl _), smB_1 10 hp fun q _ g k => by rw [decide_eq_false g, Bool.false_and]]
  rw [show (fun k => decide (p = p) && rectB f w h k) = rectB f w h from funext fun k => by rw [decide_eq_true rfl, Bool.true_and]]
  exact rectB_n f (by omega) w (by omega) h (by omega) h1 h2
theorem cnt_run {I : xv_I} {j w : Nat} {pg st sz : Nat → Nat} (hW : xWy I w pg st sz) (h0 : 0 < sz 0) (h7 : ∀ i, i < 2 → 0 < sz i → pg i < 7) (hpp : 0 < sz 1 → pg 0 < pg 1) (e : ∀ p, p < 10 → ∀ k, k < 12 → (I (3 + p) k = nI (mk j) ↔ ∃ i, i < 2 ∧ ∃ m, m < sz i ∧ p = pg i ∧ k = cIn (st i + m))) : cnt I j 120 = sz 0 + sz 1 := by
  have w0 := (hW 0 (by decide)).2.2 h0
  have p0 := h7 0 (by decide) h0
  have b0 := runB_n (st 0) (by omega) (sz 0) (by omega) (by omega)
  rcases Nat.eq_zero_or_pos (sz 1) with z | z
  · rw [show 120 = 12 * 10 from rfl, cnt_sm (B := fun q k => decide (q = pg 0) && runB (st 0) (sz 0) k) (fun q hq k hk => by
      rw [e q hq k hk, Bool.and_eq_true, decide_eq_true_iff, ← runB_iff (by omega) hk]
      constructor
      · rintro ⟨i, hi, m, g1, g2, g3⟩
        rcases Nat.eq_zero_or_pos i with r | r
        · subst r; exact ⟨g2, m, g1, g3⟩
        · obtain rfl : i = 1 := by omega
          omega
      · rintro ⟨g2, m, g1, g3⟩
        exact ⟨0, by decide, m, g1, g2, g3⟩) 10 (Nat.le_refl _), smB_1 10 (by omega : pg 0 < 10) fun q _ g k => by rw [decide_eq_false g, Bool.false_and]]
    rw [show (fun k => decide (pg 0 = pg 0) && runB (st 0) (sz 0) k) = runB (st 0) (sz 0) from funext fun k => by rw [decide_eq_true rfl, Bool.true_and], b0, z, Nat.add_zero]
  · have w1 := (hW 1 (by decide)).2.2 z
    have p1 := h7 1 (by decide) z
    have b1 := runB_n (st 1) (by omega) (sz 1) (by omega) (by omega)
    have hlt := hpp z
    rw [show 120 = 12 * 10 from rfl, cnt_sm (B := fun q k => (decide (q = pg 0) && runB (st 0) (sz 0) k) || (decide (q = pg 1) && runB (st 1) (sz 1) k)) (fun q hq k hk => by
      rw [e q hq k hk, Bool.or_eq_true, Bool.and_eq_true, Bool.and_eq_true, decide_eq_true_iff, decide_eq_true_iff, ← runB_iff (by omega) hk, ← runB_iff (by omega) hk]
      constructor
      · rintro ⟨i, hi, m, g1, g2, g3⟩
        rcases Nat.eq_zero_or_pos i with r | r
        · subst r; exact Or.inl ⟨g2, m, g1, g3⟩
        · obtain rfl : i = 1 := by omega
          exact Or.inr ⟨g2, m, g1, g3⟩
      · rintro (⟨g2, m, g1, g3⟩ | ⟨g2, m, g1, g3⟩)
        · exact ⟨0, by decide, m, g1, g2, g3⟩
        · exact ⟨1, by decide, m, g1, g2, g3⟩) 10 (Nat.le_refl _), smB_2 hlt 10 (by omega) fun q _ g g2 k => by rw [decide_eq_false g, decide_eq_false g2, Bool.false_and, Bool.false_and]; rfl]
    rw [show (fun k => (decide (pg 0 = pg 0) && runB (st 0) (sz 0) k) || (decide (pg 0 = pg 1) && runB (st 1) (sz 1) k)) = runB (st 0) (sz 0) from funext fun k => by rw [decide_eq_true rfl, Bool.true_and, decide_eq_false (show ¬ pg 0 = pg 1 by omega), Bool.false_and, Bool.or_false], show (fun k => (decide (pg 1 = pg 0) && runB (st 0) (sz 0) k) || (decide (pg 1 = pg 1) && runB (st 1) (sz 1) k)) = runB (st 1) (sz 1) from funext fun k => by rw [decide_eq_true (show pg 1 = pg 1 from rfl), Bool.true_and, decide_eq_false (show ¬ pg 1 = pg 0 by omega), Bool.false_and, Bool.false_or], b0, b1]
