/-- the class's memory after the cells of S got x -/
def cC (I I' : xv_I) (S : Nat → Nat → Prop) (x : Int32) : Prop :=
  (∀ p, p < 10 → ∀ k, k < 12 → (S p k → I' (3 + p) k = x) ∧ (¬ S p k → I' (3 + p) k = I (3 + p) k)) ∧
  (∀ p, p < 10 → ((∃ k, k < 12 ∧ S p k) → I' 15 p = nI 0) ∧ ((∀ k, k < 12 → ¬ S p k) → I' 15 p = I 15 p)) ∧
  (∀ t, t < 32 → I 1 6 = nI t → ∃ t', t' < 32 ∧ I' 1 6 = nI t' ∧ ∀ j, t'.testBit j = true ↔ (t.testBit j = true ∨ ∃ p k, p < 10 ∧ k < 12 ∧ S p k ∧ p / 2 = j)) ∧
  (∀ v j, (v < 3 ∨ 13 ≤ v) → v ≠ 15 → (v ≠ 1 ∨ j ≠ 6) → I' v j = I v j)
/-- the model's -/
def mC (I I' : xv_I) (S : Nat → Nat → Prop) (x : Int32) : Prop :=
  (∀ p, p < 10 → ∀ k, k < 12 → (S p k → I' 63 (12 * p + k) = x) ∧ (¬ S p k → I' 63 (12 * p + k) = I 63 (12 * p + k))) ∧
  (∀ p, p < 10 → ((∃ k, k < 12 ∧ S p k) → ∀ q, q < 6 → I' 81 (6 * p + q) = nI 0) ∧ ((∀ k, k < 12 → ¬ S p k) → ∀ q, q < 6 → I' 81 (6 * p + q) = I 81 (6 * p + q))) ∧
  (∀ t, t < 32 → I 60 3 = nI t → ∃ t', t' < 32 ∧ I' 60 3 = nI t' ∧ ∀ j, t'.testBit j = true ↔ (t.testBit j = true ∨ ∃ p k, p < 10 ∧ k < 12 ∧ S p k ∧ p / 2 = j)) ∧
  (∀ v j, v ≠ 63 → v ≠ 81 → (v ≠ 60 ∨ j ≠ 3) → I' v j = I v j)
theorem cC.nil (I : xv_I) (x : Int32) : cC I I (fun _ _ => False) x :=
  ⟨fun _ _ _ _ => ⟨False.elim, fun _ => rfl⟩, fun _ _ => ⟨fun ⟨_, _, h⟩ => h.elim, fun _ => rfl⟩, fun t ht e => ⟨t, ht, e, fun j => ⟨Or.inl, fun h => h.elim id fun ⟨_, _, _, _, h, _⟩ => h.elim⟩⟩, fun _ _ _ _ _ => rfl⟩
theorem mC.nil (I : xv_I) (x : Int32) : mC I I (fun _ _ => False) x :=
  ⟨fun _ _ _ _ => ⟨False.elim, fun _ => rfl⟩, fun _ _ => ⟨fun ⟨_, _, h⟩ => h.elim, fun _ _ _ => rfl⟩, fun t ht e => ⟨t, ht, e, fun j => ⟨Or.inl, fun h => h.elim id fun ⟨_, _, _, _, h, _⟩ => h.elim⟩⟩, fun _ _ _ _ _ => rfl⟩
theorem cC.cg {I I' : xv_I} {S T : Nat → Nat → Prop} {x : Int32} (e : ∀ p, p < 10 → ∀ k, k < 12 → (S p k ↔ T p k)) (h : cC I I' S x) : cC I I' T x := by
  obtain ⟨h1, h2, h3, h4⟩ := h
  refine ⟨fun p hp k hk => ⟨fun g => (h1 p hp k hk).1 ((e p hp k hk).mpr g), fun g => (h1 p hp k hk).2 fun q => g ((e p hp k hk).mp q)⟩, fun p hp => ⟨fun ⟨k, hk, g⟩ => (h2 p hp).1 ⟨k, hk, (e p hp k hk).mpr g⟩, fun g => (h2 p hp).2 fun k hk q => g k hk ((e p hp k hk).mp q)⟩, fun t ht et => ?_, h4⟩
  obtain ⟨t', a1, a2, a3⟩ := h3 t ht et
  refine ⟨t', a1, a2, fun j => (a3 j).trans ⟨fun r => r.elim Or.inl fun ⟨p, k, hp, hk, s, q⟩ => Or.inr ⟨p, k, hp, hk, (e p hp k hk).mp s, q⟩, fun r => r.elim Or.inl fun ⟨p, k, hp, hk, s, q⟩ => Or.inr ⟨p, k, hp, hk, (e p hp k hk).mpr s, q⟩⟩⟩
theorem mC.cg {I I' : xv_I} {S T : Nat → Nat → Prop} {x : Int32} (e : ∀ p, p < 10 → ∀ k, k < 12 → (S p k ↔ T p k)) (h : mC I I' S x) : mC I I' T x := by
  obtain ⟨h1, h2, h3, h4⟩ := h
  refine ⟨fun p hp k hk => ⟨fun g => (h1 p hp k hk).1 ((e p hp k hk).mpr g), fun g => (h1 p hp k hk).2 fun q => g ((e p hp k hk).mp q)⟩, fun p hp => ⟨fun ⟨k, hk, g⟩ => (h2 p hp).1 ⟨k, hk, (e p hp k hk).mpr g⟩, fun g => (h2 p hp).2 fun k hk q => g k hk ((e p hp k hk).mp q)⟩, fun t ht et => ?_, h4⟩
  obtain ⟨t', a1, a2, a3⟩ := h3 t ht et
  refine ⟨t', a1, a2, fun j => (a3 j).trans ⟨fun r => r.elim Or.inl fun ⟨p, k, hp, hk, s, q⟩ => Or.inr ⟨p, k, hp, hk, (e p hp k hk).mp s, q⟩, fun r => r.elim Or.inl fun ⟨p, k, hp, hk, s, q⟩ => Or.inr ⟨p, k, hp, hk, (e p hp k hk).mpr s, q⟩⟩⟩
theorem pl_or {t p : Nat} (ht : t < 32) (hp : p < 10) : nI t ||| nI (2 ^ (p / 2)) = nI (t ||| 2 ^ (p / 2)) ∧ t ||| 2 ^ (p / 2) < 32 ∧ ∀ j, (t ||| 2 ^ (p / 2)).testBit j = true ↔ (t.testBit j = true ∨ p / 2 = j) := by
  refine ⟨fa_or _ _, Nat.or_lt_two_pow (n := 5) ht (Nat.pow_lt_pow_right (by decide) (by omega)), fun j => ?_⟩
  rw [Nat.testBit_or, Nat.testBit_two_pow, Bool.or_eq_true, decide_eq_true_iff]
theorem cC.put {I I' : xv_I} {S : Nat → Nat → Prop} {x : Int32} (h : cC I I' S x) {p k : Nat} (hp : p < 10) (hk : k < 12) : cC I (xPut I' p k x) (fun q j => S q j ∨ (q = p ∧ j = k)) x := by
  obtain ⟨h1, h2, h3, h4⟩ := h
  have e1 : ∀ q j, q < 10 → xPut I' p k x (3 + q) j = if q = p ∧ j = k then x else I' (3 + q) j := fun q j hq => by
    unfold xPut xv_u
    rw [if_neg (by omega), if_neg (by omega)]
    by_cases g : q = p ∧ j = k
    · rw [if_pos g, if_pos (by omega)]
    · rw [if_neg g, if_neg (by omega)]
  have e2 : ∀ q, xPut I' p k x 15 q = if q = p then nI 0 else I' 15 q := fun q => by
    unfold xPut xv_u
    rw [if_neg (by omega)]
    by_cases g : q = p
    · rw [if_pos g, if_pos (by omega)]
    · rw [if_neg g, if_neg (by omega), if_neg (by omega)]
  refine ⟨fun q hq j hj => ⟨fun g => ?_, fun g => ?_⟩, fun q hq => ⟨fun g => ?_, fun g => ?_⟩, fun t ht et => ?_, fun v j a1 a2 a3 => ?_⟩
  · rw [e1 q j hq]
    by_cases r : q = p ∧ j = k
    · rw [if_pos r]
    · rw [if_neg r]
      exact (h1 q hq j hj).1 (g.resolve_right r)
  · rw [e1 q j hq, if_neg fun r => g (Or.inr r)]
    exact (h1 q hq j hj).2 fun r => g (Or.inl r)
  · rw [e2]
    by_cases r : q = p
    · rw [if_pos r]
    · rw [if_neg r]
      obtain ⟨j, hj, g⟩ := g
      exact (h2 q hq).1 ⟨j, hj, g.resolve_right fun s => r s.1⟩
  · rw [e2, if_neg fun r => g k hk (Or.inr ⟨r, rfl⟩)]
    exact (h2 q hq).2 fun j hj r => g j hj (Or.inl r)
  · obtain ⟨t', a1, a2, a3⟩ := h3 t ht et
    obtain ⟨b1, b2, b3⟩ := pl_or a1 hp
    refine ⟨_, b2, by unfold xPut; rw [xv_u_eq, a2, b1], fun j => ?_⟩
    rw [b3, a3]
    constructor
    · rintro ((g | ⟨q, i, hq, hi, s, r⟩) | g)
      · exact Or.inl g
      · exact Or.inr ⟨q, i, hq, hi, Or.inl s, r⟩
      · exact Or.inr ⟨p, k, hp, hk, Or.inr ⟨rfl, rfl⟩, g⟩
    · rintro (g | ⟨q, i, hq, hi, s | s, r⟩)
      · exact Or.inl (Or.inl g)
      · exact Or.inl (Or.inr ⟨q, i, hq, hi, s, r⟩)
      · exact Or.inr (by omega)
  · unfold xPut xv_u
    rw [if_neg (by omega), if_neg (by omega), if_neg (by omega)]
    exact h4 v j a1 a2 a3
theorem mSg_at (p v j : Nat) : ∀ (m k : Nat) (I : xv_I), it (fun q I => xv_u I 81 (6 * p + q) (nI 0)) m k I v j = if v = 81 ∧ 6 * p + k ≤ j ∧ j < 6 * p + k + m then nI 0 else I v j
  | 0, k, I => by rw [it, if_neg (by omega)]
  | m + 1, k, I => by
    rw [it, mSg_at p v j m (k + 1)]
    unfold xv_u
    by_cases h : v = 81 ∧ 6 * p + k ≤ j ∧ j < 6 * p + k + (m + 1)
    · rw [if_pos h]
      by_cases h2 : j = 6 * p + k
      · rw [if_neg (by omega), if_pos ⟨h.1, h2⟩]
      · rw [if_pos (by omega)]
    · rw [if_neg h, if_neg (by omega), if_neg (by omega)]
theorem mPut1_at (I : xv_I) (p k : Nat) (x : Int32) (v j : Nat) : mPut1 I p k x v j = if v = 81 ∧ 6 * p ≤ j ∧ j < 6 * p + 6 then nI 0 else if v = 60 ∧ j = 3 then I 60 3 ||| nI (2 ^ (p / 2)) else if v = 63 ∧ j = 12 * p + k then x else I v j := by
  unfold mPut1 mSg
  rw [mSg_at]
  unfold xv_u
  by_cases h : v = 81 ∧ 6 * p ≤ j ∧ j < 6 * p + 6
  · rw [if_pos h, if_pos (by omega)]
  · rw [if_neg h, if_neg (by omega)]
theorem mC.put {I I' : xv_I} {S : Nat → Nat → Prop} {x : Int32} (h : mC I I' S x) {p k : Nat} (hp : p < 10) (hk : k < 12) (hne : ¬ I 63 (12 * p + k) = x) : mC I (mPut I' p k x) (fun q j => S q j ∨ (q = p ∧ j = k)) x := by
  by_cases hs : S p k
  · have e : mPut I' p k x = I' := by
      unfold mPut
      rw [if_pos ((h.1 p hp k hk).1 hs)]
    rw [e]
    exact h.cg fun q hq j hj => ⟨Or.inl, fun g => g.elim id fun r => by rw [r.1, r.2]; exact hs⟩
  obtain ⟨h1, h2, h3, h4⟩ := h
  have e : mPut I' p k x = mPut1 I' p k x := by
    unfold mPut
    rw [if_neg]
    rw [(h1 p hp k hk).2 hs]
    exact hne
  rw [e]
  refine ⟨fun q hq j hj => ⟨fun g => ?_, fun g => ?_⟩, fun q hq => ⟨fun g => ?_, fun g => ?_⟩, fun t ht et => ?_, fun v j a1 a2 a3 => ?_⟩
  · rw [mPut1_at, if_neg (by omega), if_neg (by omega)]
    by_cases r : q = p ∧ j = k
    · rw [if_pos (by omega)]
    · rw [if_neg (by omega)]
      exact (h1 q hq j hj).1 (g.resolve_right r)
  · have r : ¬ (q = p ∧ j = k) := fun r => g (Or.inr r)
    rw [mPut1_at, if_neg (by omega), if_neg (by omega), if_neg (by omega)]
    exact (h1 q hq j hj).2 fun r => g (Or.inl r)
  · intro i hi
    rw [mPut1_at]
    by_cases r : q = p
    · rw [if_pos (by omega)]
    · rw [if_neg (by omega), if_neg (by omega), if_neg (by omega)]
      obtain ⟨j, hj, g⟩ := g
      exact (h2 q hq).1 ⟨j, hj, g.resolve_right fun s => r s.1⟩ i hi
  · intro i hi
    have r : ¬ q = p := fun r => g k hk (Or.inr ⟨r, rfl⟩)
    rw [mPut1_at, if_neg (by omega), if_neg (by omega), if_neg (by omega)]
    exact (h2 q hq).2 (fun j hj r => g j hj (Or.inl r)) i hi
  · obtain ⟨t', a1, a2, a3⟩ := h3 t ht et
    obtain ⟨b1, b2, b3⟩ := pl_or a1 hp
    refine ⟨_, b2, by rw [mPut1_at, if_neg (by omega), if_pos ⟨rfl, rfl⟩, a2, b1], fun j => ?_⟩
    rw [b3, a3]
    constructor
    · rintro ((g | ⟨q, i, hq, hi, s, r⟩) | g)
      · exact Or.inl g
      · exact Or.inr ⟨q, i, hq, hi, Or.inl s, r⟩
      · exact Or.inr ⟨p, k, hp, hk, Or.inr ⟨rfl, rfl⟩, g⟩
    · rintro (g | ⟨q, i, hq, hi, s | s, r⟩)
      · exact Or.inl (Or.inl g)
      · exact Or.inl (Or.inr ⟨q, i, hq, hi, s, r⟩)
      · exact Or.inr (by omega)
  · rw [mPut1_at, if_neg (by omega), if_neg (by omega), if_neg (by omega)]
    exact h4 v j a1 a2 a3
theorem itS {R : xv_I → (Nat → Nat → Prop) → Prop} (hcg : ∀ I' S S', (∀ p, p < 10 → ∀ k, k < 12 → (S p k ↔ S' p k)) → R I' S → R I' S') {f : Nat → xv_I → xv_I} {T : Nat → Nat → Nat → Prop} : ∀ (m k : Nat) (I' : xv_I) (S : Nat → Nat → Prop), (∀ i I' S, k ≤ i → i < k + m → R I' S → R (f i I') (fun p j => S p j ∨ T i p j)) → R I' S → R (it f m k I') (fun p j => S p j ∨ ∃ i, k ≤ i ∧ i < k + m ∧ T i p j)
  | 0, k, I', S, _, h => hcg _ _ _ (fun p _ j _ => ⟨Or.inl, fun g => g.elim id fun ⟨i, h1, h2, _⟩ => by omega⟩) h
  | m + 1, k, I', S, hf, h => by
    rw [it]
    refine hcg _ _ _ (fun p _ j _ => ?_) (itS hcg m (k + 1) _ _ (fun i I' S h1 h2 => hf i I' S (by omega) (by omega)) (hf k I' S (Nat.le_refl _) (by omega) h))
    constructor
    · rintro ((g | g) | ⟨i, g1, g2, g⟩)
      · exact Or.inl g
      · exact Or.inr ⟨k, Nat.le_refl _, by omega, g⟩
      · exact Or.inr ⟨i, by omega, by omega, g⟩
    · rintro (g | ⟨i, g1, g2, g⟩)
      · exact Or.inl (Or.inl g)
      · rcases Nat.eq_or_lt_of_le g1 with e | e
        · exact Or.inl (Or.inr (by rw [e]; exact g))
        · exact Or.inr ⟨i, by omega, by omega, g⟩
theorem cC.free {I : xv_I} {y : Int32} (hy : ¬ nI 0 = y) : cC I (xFree y I) (fun p k => I (3 + p) k = y) (nI 0) := by
  have h1 : ∀ p, p < 10 → ∀ I' S, cC I I' S (nI 0) → cC I (xFree1 y p I') (fun q j => S q j ∨ (q = p ∧ I (3 + p) j = y)) (nI 0) := fun p hp I' S h => by
    unfold xFree1
    refine (itS (R := fun I' S => cC I I' S (nI 0)) (T := fun k q j => q = p ∧ j = k ∧ I (3 + p) k = y) (fun _ _ _ e h => h.cg e) 12 0 I' S (fun k I' S _ hk h => ?_) h).cg fun q hq j hj => ⟨fun g => g.elim Or.inl fun ⟨i, _, _, r1, r2, r3⟩ => Or.inr ⟨r1, by rw [r2]; exact r3⟩, fun g => g.elim Or.inl fun r => Or.inr ⟨j, by omega, by omega, r.1, rfl, r.2⟩⟩
    show cC I (if I' (3 + p) k = y then xPut I' p k (nI 0) else I') _ _
    by_cases s : S p k
    · rw [if_neg (by rw [(h.1 p hp k (by omega)).1 s]; exact hy)]
      exact h.cg fun q hq j hj => ⟨Or.inl, fun g => g.elim id fun r => by rw [r.1, r.2.1]; exact s⟩
    · have e := (h.1 p hp k (by omega)).2 s
      rw [e]
      by_cases g : I (3 + p) k = y
      · rw [if_pos g]
        exact (h.put hp (by omega)).cg fun q hq j hj => ⟨fun r => r.elim Or.inl fun r => Or.inr ⟨r.1, r.2, g⟩, fun r => r.elim Or.inl fun r => Or.inr ⟨r.1, r.2.1⟩⟩
      · rw [if_neg g]
        exact h.cg fun q hq j hj => ⟨Or.inl, fun r => r.elim id fun r => absurd r.2.2 g⟩
  unfold xFree
  refine (itS (R := fun I' S => cC I I' S (nI 0)) (T := fun p q j => q = p ∧ I (3 + p) j = y) (fun _ _ _ e h => h.cg e) 10 0 I _ (fun p I' S _ hp h => h1 p (by omega) I' S h) (cC.nil I _)).cg fun q hq j hj => ⟨fun g => g.elim False.elim fun ⟨i, _, _, r1, r2⟩ => by rw [r1]; exact r2, fun g => Or.inr ⟨q, by omega, by omega, rfl, g⟩⟩
theorem clr_2 (p : Nat) (x : Int32) : ∀ (m k : Nat) (s : Nat × xv_I), (it (mClr1 p x) m k s).2 = it (fun k I => if I 63 (12 * p + k) = x then mPut I p k (nI 0) else I) m k s.2
  | 0, _, _ => rfl
  | m + 1, k, s => by
    rw [it, it, clr_2 p x m (k + 1)]
    congr 1
    unfold mClr1
    by_cases h : s.2 63 (12 * p + k) = x
    · rw [if_pos h, if_pos h]
    · rw [if_neg h, if_neg h]
theorem mC.clr {I : xv_I} {y : Int32} (hy : ¬ nI 0 = y) {p : Nat} (hp : p < 10) {I' : xv_I} {S : Nat → Nat → Prop} (h : mC I I' S (nI 0)) : mC I (mClr p y I').2 (fun q j => S q j ∨ (q = p ∧ I 63 (12 * p + j) = y)) (nI 0) := by
  unfold mClr
  rw [clr_2]
  refine (itS (R := fun I' S => mC I I' S (nI 0)) (T := fun k q j => q = p ∧ j = k ∧ I 63 (12 * p + k) = y) (fun _ _ _ e h => h.cg e) 12 0 I' S (fun k I' S _ hk h => ?_) h).cg fun q hq j hj => ⟨fun g => g.elim Or.inl fun ⟨i, _, _, r1, r2, r3⟩ => Or.inr ⟨r1, by rw [r2]; exact r3⟩, fun g => g.elim Or.inl fun r => Or.inr ⟨j, by omega, by omega, r.1, rfl, r.2⟩⟩
  show mC I (if I' 63 (12 * p + k) = y then mPut I' p k (nI 0) else I') _ _
  by_cases s : S p k
  · rw [if_neg (by rw [(h.1 p hp k (by omega)).1 s]; exact hy)]
    exact h.cg fun q hq j hj => ⟨Or.inl, fun g => g.elim id fun r => by rw [r.1, r.2.1]; exact s⟩
  · have e := (h.1 p hp k (by omega)).2 s
    rw [e]
    by_cases g : I 63 (12 * p + k) = y
    · rw [if_pos g]
      exact (h.put hp (by omega) (by rw [g]; exact fun r => hy r.symm)).cg fun q hq j hj => ⟨fun r => r.elim Or.inl fun r => Or.inr ⟨r.1, r.2, g⟩, fun r => r.elim Or.inl fun r => Or.inr ⟨r.1, r.2.1⟩⟩
    · rw [if_neg g]
      exact h.cg fun q hq j hj => ⟨Or.inl, fun r => r.elim id fun r => absurd r.2.2 g⟩
theorem mC.clrA {I : xv_I} {y : Int32} (hy : ¬ nI 0 = y) : mC I (mClrA y I) (fun p k => I 63 (12 * p + k) = y) (nI 0) := by
  unfold mClrA
  refine (itS (R := fun I' S => mC I I' S (nI 0)) (T := fun p q j => q = p ∧ I 63 (12 * p + j) = y) (fun _ _ _ e h => h.cg e) 10 0 I _ (fun p I' S _ hp h => h.clr hy (by omega)) (mC.nil I _)).cg fun q hq j hj => ⟨fun g => g.elim False.elim fun ⟨i, _, _, r1, r2⟩ => by rw [r1]; exact r2, fun g => Or.inr ⟨q, by omega, by omega, rfl, g⟩⟩
/-- a rectangle -/
abbrev inR (p f w h q j : Nat) : Prop := q = p ∧ ∃ d r, d < h ∧ r < w ∧ j = f + 3 * d + r
theorem cC.fill {I : xv_I} {x : Int32} {p f w h : Nat} (hp : p < 10) (h1 : f % 3 + w ≤ 3) (h2 : f / 3 + h ≤ 4) : cC I (xFill p f w h x I) (inR p f w h) x := by
  have g1 : ∀ d, d < h → ∀ I' S, cC I I' S x → cC I (xFill1 p f w x d I') (fun q j => S q j ∨ (q = p ∧ ∃ r, r < w ∧ j = f + 3 * d + r)) x := fun d hd I' S g => by
    unfold xFill1
    exact (itS (R := fun I' S => cC I I' S x) (T := fun r q j => q = p ∧ j = f + 3 * d + r) (fun _ _ _ e h => h.cg e) w 0 I' S (fun r I' S _ hr h => h.put hp (by omega)) g).cg fun q hq j hj => ⟨fun g => g.elim Or.inl fun ⟨i, _, r1, r2, r3⟩ => Or.inr ⟨r2, i, by omega, r3⟩, fun g => g.elim Or.inl fun ⟨r1, r, r2, r3⟩ => Or.inr ⟨r, by omega, by omega, r1, r3⟩⟩
  unfold xFill
  exact (itS (R := fun I' S => cC I I' S x) (T := fun d q j => q = p ∧ ∃ r, r < w ∧ j = f + 3 * d + r) (fun _ _ _ e h => h.cg e) h 0 I _ (fun d I' S _ hd h => g1 d (by omega) I' S h) (cC.nil I _)).cg fun q hq j hj => ⟨fun g => g.elim False.elim fun ⟨d, _, r1, r2, r, r3, r4⟩ => ⟨r2, d, r, by omega, r3, r4⟩, fun ⟨r1, d, r, r2, r3, r4⟩ => Or.inr ⟨d, by omega, by omega, r1, r, r3, r4⟩⟩
theorem mC.fill {I : xv_I} {x : Int32} {p f w h : Nat} (hp : p < 10) (h1 : f % 3 + w ≤ 3) (h2 : f / 3 + h ≤ 4) (hne : ∀ d r, d < h → r < w → ¬ I 63 (12 * p + (f + 3 * d + r)) = x) : mC I (mFill p f w h x I) (inR p f w h) x := by
  have g1 : ∀ d, d < h → ∀ I' S, mC I I' S x → mC I (mFill1 p f w x d I') (fun q j => S q j ∨ (q = p ∧ ∃ r, r < w ∧ j = f + 3 * d + r)) x := fun d hd I' S g => by
    unfold mFill1
    exact (itS (R := fun I' S => mC I I' S x) (T := fun r q j => q = p ∧ j = f + 3 * d + r) (fun _ _ _ e h => h.cg e) w 0 I' S (fun r I' S _ hr h => h.put hp (by omega) (hne d r hd (by omega))) g).cg fun q hq j hj => ⟨fun g => g.elim Or.inl fun ⟨i, _, r1, r2, r3⟩ => Or.inr ⟨r2, i, by omega, r3⟩, fun g => g.elim Or.inl fun ⟨r1, r, r2, r3⟩ => Or.inr ⟨r, by omega, by omega, r1, r3⟩⟩
  unfold mFill
  exact (itS (R := fun I' S => mC I I' S x) (T := fun d q j => q = p ∧ ∃ r, r < w ∧ j = f + 3 * d + r) (fun _ _ _ e h => h.cg e) h 0 I _ (fun d I' S _ hd h => g1 d (by omega) I' S h) (mC.nil I _)).cg fun q hq j hj => ⟨fun g => g.elim False.elim fun ⟨d, _, r1, r2, r, r3, r4⟩ => ⟨r2, d, r, by omega, r3, r4⟩, fun ⟨r1, d, r, r2, r3, r4⟩ => Or.inr ⟨d, by omega, by omega, r1, r, r3, r4⟩⟩
/-- the class's pages (in I) and the model's (in K) are alike -/
def cpl (I K : xv_I) : Prop := (∀ p, p < 10 → ∀ k, k < 12 → I (3 + p) k = K 63 (12 * p + k)) ∧ (∃ t, t < 32 ∧ I 1 6 = nI t ∧ K 60 3 = nI t) ∧ ∀ p, p < 10 → gBits (I 15 p) (fun q => K 81 (6 * p + q))
theorem cpl.of {c : Nat × Nat} {I : xv_I} (h : Inv c I) : cpl I I := by
  obtain ⟨t1, t, t2, t3⟩ := h.touch
  exact ⟨fun p hp k hk => (h.cell p hp k hk).1, ⟨t, t2, t3, t1.symm.trans t3⟩, h.sign⟩
theorem cpl.to {I K I' K' : xv_I} (h : cpl I K) (e1 : ∀ v j, (3 ≤ v ∧ v < 13) ∨ v = 15 ∨ (v = 1 ∧ j = 6) → I' v j = I v j) (e2 : ∀ v j, v = 63 ∨ v = 81 ∨ (v = 60 ∧ j = 3) → K' v j = K v j) : cpl I' K' := by
  obtain ⟨h1, ⟨t, t1, t2, t3⟩, h3⟩ := h
  refine ⟨fun p hp k hk => by rw [e1 _ _ (by omega), e2 _ _ (by omega)]; exact h1 p hp k hk, ⟨t, t1, (e1 _ _ (by omega)).trans t2, (e2 _ _ (by omega)).trans t3⟩, fun p hp => ?_⟩
  obtain ⟨b, g1, g2, g3⟩ := h3 p hp
  exact ⟨b, g1, (e1 _ _ (by omega)).trans g2, fun q hq => (e2 _ _ (by omega)).trans (g3 q hq)⟩
theorem cpl.step {I K I' K' : xv_I} {S : Nat → Nat → Prop} {x : Int32} (h : cpl I K) (h1 : cC I I' S x) (h2 : mC K K' S x) : cpl I' K' := by
  obtain ⟨a1, ⟨t, t1, t2, t3⟩, a3⟩ := h
  refine ⟨fun p hp k hk => ?_, ?_, fun p hp => ?_⟩
  · by_cases s : S p k
    · rw [(h1.1 p hp k hk).1 s, (h2.1 p hp k hk).1 s]
    · rw [(h1.1 p hp k hk).2 s, (h2.1 p hp k hk).2 s]
      exact a1 p hp k hk
  · obtain ⟨u, u1, u2, u3⟩ := h1.2.2.1 t t1 t2
    obtain ⟨w, w1, w2, w3⟩ := h2.2.2.1 t t1 t3
    have e : u = w := Nat.eq_of_testBit_eq fun j => Bool.eq_iff_iff.mpr ((u3 j).trans (w3 j).symm)
    exact ⟨u, u1, u2, by rw [e]; exact w2⟩
  · by_cases s : ∃ k, k < 12 ∧ S p k
    · exact ⟨0, by decide, (h1.2.1 p hp).1 s, fun q hq => by rw [Nat.zero_testBit]; exact (h2.2.1 p hp).1 s q hq⟩
    · have s2 : ∀ k, k < 12 → ¬ S p k := fun k hk r => s ⟨k, hk, r⟩
      obtain ⟨b, g1, g2, g3⟩ := a3 p hp
      exact ⟨b, g1, ((h1.2.1 p hp).2 s2).trans g2, fun q hq => ((h2.2.1 p hp).2 s2 q hq).trans (g3 q hq)⟩
theorem cpl.cell {c : Nat × Nat} {I : xv_I} (h : cpl I I) (g : ∀ p, p < 10 → ∀ k, k < 12 → ∃ v, okCell c v ∧ I (3 + p) k = nI v) : gCell c I := fun p hp k hk => ⟨h.1 p hp k hk, g p hp k hk⟩
theorem cpl.touch {I : xv_I} (h : cpl I I) : gTouch I := by
  obtain ⟨t, t1, t2, t3⟩ := h.2.1
  exact ⟨t2.trans t3.symm, t, t1, t2⟩
/-- the marks that stay -/
theorem cC.mark {I I' : xv_I} {S : Nat → Nat → Prop} {x y : Int32} (h : cC I I' S x) (hx : ¬ x = y) (hs : ∀ p, p < 10 → ∀ k, k < 12 → S p k → ¬ I (3 + p) k = y) : ∀ p, p < 10 → ∀ k, k < 12 → (I' (3 + p) k = y ↔ I (3 + p) k = y) := fun p hp k hk => by
  by_cases s : S p k
  · rw [(h.1 p hp k hk).1 s]
    exact ⟨fun r => absurd r hx, fun r => absurd r (hs p hp k hk s)⟩
  · rw [(h.1 p hp k hk).2 s]
theorem gAd1.cells {c : Nat × Nat} {I I' : xv_I} {a : Nat} (h : gAd1 c I a) (e1 : ∀ j, I' (100 + a) j = I (100 + a) j) (e2 : ∀ v, 65 ≤ v → v ≤ 71 → I' v a = I v a) (hc : ∀ p, p < 10 → ∀ k, k < 12 → (I' (3 + p) k = nI (100 + a) ↔ I (3 + p) k = nI (100 + a))) : gAd1 c I' a := by
  unfold gAd1
  rw [show I' (100 + a) = I (100 + a) from funext e1, e2 65 (by decide) (by decide), e2 66 (by decide) (by decide), e2 67 (by decide) (by decide), e2 68 (by decide) (by decide), e2 69 (by decide) (by decide), e2 70 (by decide) (by decide), e2 71 (by decide) (by decide)]
  obtain ⟨ct, w, h9, a1, a2, a3, a4, a5, a6, a7, a8, a9, a10, a11, a12, a13, a14⟩ := h
  refine ⟨ct, w, h9, a1, a2, a3, a4, a5, a6, a7, a8, a9, a10, a11, a12, a13, ?_⟩
  rcases a14 with ⟨b1, b2, b3⟩ | ⟨p, f9, b1, b2, b3, b4, b5, b6, b7⟩
  · exact Or.inl ⟨b1, b2, fun p hp k hk q => b3 p hp k hk ((hc p hp k hk).mp q)⟩
  · exact Or.inr ⟨p, f9, b1, b2, b3, b4, b5, b6, fun q hq k hk => (hc q hq k hk).trans (b7 q hq k hk)⟩
/-- the places of a story in the model -/
abbrev atSt (s v j : Nat) : Prop := ((v = 72 ∨ v = 73 ∨ v = 75 ∨ v = 76) ∧ j = s) ∨ (v = 74 ∧ 6 * s ≤ j ∧ j < 6 * s + 6) ∨ ((v = 77 ∨ v = 78 ∨ v = 79) ∧ 2 * s ≤ j ∧ j < 2 * s + 2)
theorem gSt1.cells {I I' : xv_I} {s : Nat} (h : gSt1 I s) (e1 : ∀ v j, 200 + 5 * s ≤ v → v < 205 + 5 * s → I' v j = I v j) (e2 : ∀ v j, atSt s v j → I' v j = I v j) (hc : ∀ p, p < 10 → ∀ k, k < 12 → (I' (3 + p) k = nI (200 + s) ↔ I (3 + p) k = nI (200 + s))) : gSt1 I' s := by
  have f : ∀ v, 200 + 5 * s ≤ v → v < 205 + 5 * s → I' v = I v := fun v h1 h2 => funext fun j => e1 v j h1 h2
  obtain ⟨d, np, lo, sh, a1, a2, a3, a4, a5, a6, a7, a8, a9, a10, a11, a12, a13, a14, a15, a16, a17, a18⟩ := h
  unfold gSt1
  rw [f (200 + 5 * s) (by omega) (by omega), f (201 + 5 * s) (by omega) (by omega), f (201 + 5 * s + 3) (by omega) (by omega), e2 72 s (Or.inl ⟨by omega, rfl⟩), e2 73 s (Or.inl ⟨by omega, rfl⟩), e2 75 s (Or.inl ⟨by omega, rfl⟩), e2 76 s (Or.inl ⟨by omega, rfl⟩)]
  refine ⟨d, np, lo, sh, a1, a2, a3, a4, a5, a6, a7, a8, a9, a10, a11, a12, a13, a14, fun k hk => (e2 74 _ (by omega)).trans (a15 k hk), a16, a17, ?_⟩
  rcases a18 with ⟨b1, b2, b3⟩ | ⟨b1, pg, st, sz, b2, b3, b4, b5⟩
  · exact Or.inl ⟨b1, b2, fun p hp k hk q => b3 p hp k hk ((hc p hp k hk).mp q)⟩
  · refine Or.inr ⟨b1, pg, st, sz, b2, xWy_to b3 (fun v j h1 h2 => e1 v j (by omega) (by omega)), fun i hi => ?_, fun p hp => Iff.trans ⟨fun ⟨k, hk, q⟩ => ⟨k, hk, (hc p hp k hk).mp q⟩, fun ⟨k, hk, q⟩ => ⟨k, hk, (hc p hp k hk).mpr q⟩⟩ (b5 p hp)⟩
    rw [e2 79 _ (by omega), e2 77 _ (by omega), e2 78 _ (by omega)]
    exact b4 i hi
theorem gAd.cells {c : Nat × Nat} {I I' : xv_I} (h : gAd c I) (e : ∀ v j, (v = 0 ∧ j = 3) ∨ (v = 60 ∧ j = 5) ∨ (100 ≤ v ∧ v < 120) ∨ (65 ≤ v ∧ v ≤ 71) → I' v j = I v j) (hc : ∀ a, a < c.1 → ∀ p, p < 10 → ∀ k, k < 12 → (I' (3 + p) k = nI (100 + a) ↔ I (3 + p) k = nI (100 + a))) : gAd c I' :=
  ⟨(e _ _ (by omega)).trans h.1, (e _ _ (by omega)).trans h.2.1, h.2.2.1, fun a ha => (h.2.2.2 a ha).cells (fun j => e _ j (by have := h.2.2.1; omega)) (fun v h1 h2 => e v a (by omega)) (hc a ha)⟩
theorem gSt.cells {c : Nat × Nat} {I I' : xv_I} (h : gSt c I) (e : ∀ v j, (v = 0 ∧ j = 5) ∨ (v = 60 ∧ j = 13) ∨ (200 ≤ v ∧ v < 300) ∨ (72 ≤ v ∧ v ≤ 79) → I' v j = I v j) (hc : ∀ a, a < c.2 → ∀ p, p < 10 → ∀ k, k < 12 → (I' (3 + p) k = nI (200 + a) ↔ I (3 + p) k = nI (200 + a))) : gSt c I' :=
  ⟨(e _ _ (by omega)).trans h.1, (e _ _ (by omega)).trans h.2.1, h.2.2.1, fun a ha => (h.2.2.2 a ha).cells (fun v j h1 h2 => e v j (by have := h.2.2.1; omega)) (fun v j h1 => e v j (by omega)) (hc a ha)⟩
theorem okCell.lt {c : Nat × Nat} {v : Nat} (h : okCell c v) (h1 : c.1 ≤ 20) (h2 : c.2 ≤ 20) : v < 320 := by
  unfold okCell at h
  omega
theorem cC.ok {c : Nat × Nat} {I I' : xv_I} {S : Nat → Nat → Prop} {x : Nat} (h : cC I I' S (nI x)) (g : ∀ p, p < 10 → ∀ k, k < 12 → ∃ v, okCell c v ∧ I (3 + p) k = nI v) (hx : okCell c x) : ∀ p, p < 10 → ∀ k, k < 12 → ∃ v, okCell c v ∧ I' (3 + p) k = nI v := fun p hp k hk => by
  by_cases s : S p k
  · exact ⟨x, hx, (h.1 p hp k hk).1 s⟩
  · rw [(h.1 p hp k hk).2 s]
    exact g p hp k hk