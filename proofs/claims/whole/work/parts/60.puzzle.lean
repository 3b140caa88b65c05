/-- the sets of used numbers of one kind: those of the cells before p -/
def uOk (x : Int32) (p : Nat) (T : Nat → Nat) (Q : Nat → Prop) : Prop := ∃ u, u < 32 ∧ x = nI u ∧ ∀ g, 1 ≤ g → g ≤ 4 → (u.testBit g = true ↔ ∃ k, k < p ∧ Q k ∧ T k = g)
abbrev pRel (T : Nat → Nat) (p : Nat) (I K : xv_I) : Prop := (∀ r, r < 4 → uOk (I 53 r) p T (fun k => k / 4 = r) ∧ uOk (I 54 r) p T (fun k => k % 4 = r) ∧ uOk (I 55 r) p T (fun k => xQ k = r)) ∧ ∀ k, k < p → 1 ≤ T k ∧ T k ≤ 4 ∧ K 94 k = nI (T k)
def tU (T : Nat → Nat) (p g k : Nat) : Nat := if k = p then g else T k
theorem tU_e (T : Nat → Nat) (p g : Nat) : tU T p g p = g := if_pos rfl
theorem tU_n (T : Nat → Nat) {p g k : Nat} (h : k ≠ p) : tU T p g k = T k := if_neg h
theorem us3 : ∀ a, a < 32 → ∀ g, g < 5 → (nI a >>> (nI g &&& 31) &&& nI 1 = 0 ↔ a.testBit g = false) := by decide +kernel
theorem ux : ∀ a, a < 32 → ∀ g, g < 5 → nI a ^^^ nI (2 ^ g) = nI (a ^^^ 2 ^ g) ∧ a ^^^ 2 ^ g < 32 := by decide +kernel
theorem uxt : ∀ a, a < 32 → ∀ g, g < 5 → ∀ q, q < 5 → (a ^^^ 2 ^ g).testBit q = (if q = g then !a.testBit q else a.testBit q) := by decide +kernel
theorem xOp_iff {T : Nat → Nat} {p : Nat} {I K : xv_I} (hp : p < 16) (h : pRel T p I K) {g : Nat} (h1 : 1 ≤ g) (h4 : g ≤ 4) : xOp I p g ↔ ∀ k, k < p → ¬ (mBes k p ∧ T k = g) := by
  obtain ⟨⟨a, a1, a2, a3⟩, -, -⟩ := h.1 (p / 4) (by omega)
  obtain ⟨-, ⟨b, b1, b2, b3⟩, -⟩ := h.1 (p % 4) (by omega)
  obtain ⟨-, -, ⟨d, d1, d2, d3⟩⟩ := h.1 (xQ p) (by unfold xQ; omega)
  unfold xOp xUsed
  have l : a ||| b ||| d < 32 := Nat.or_lt_two_pow (n := 5) (Nat.or_lt_two_pow (n := 5) a1 b1) d1
  rw [a2, b2, d2, fa_or, fa_or, us3 _ l g (by omega), Nat.testBit_or, Nat.testBit_or]
  have a3 := a3 g h1 h4
  have b3 := b3 g h1 h4
  have d3 := d3 g h1 h4
  have key : ∀ k, mBes k p ↔ (k / 4 = p / 4 ∨ k % 4 = p % 4 ∨ xQ k = xQ p) := fun k => by
    unfold mBes xQ
    omega
  constructor
  · intro q k hk r
    rw [key] at r
    have q1 : a.testBit g = false ∧ b.testBit g = false ∧ d.testBit g = false := by
      rw [Bool.or_eq_false_iff, Bool.or_eq_false_iff] at q
      exact ⟨q.1.1, q.1.2, q.2⟩
    rcases r.1 with r1 | r1 | r1
    · have := a3.mpr ⟨k, hk, r1, r.2⟩
      rw [q1.1] at this
      exact absurd this (by decide)
    · have := b3.mpr ⟨k, hk, r1, r.2⟩
      rw [q1.2.1] at this
      exact absurd this (by decide)
    · have := d3.mpr ⟨k, hk, r1, r.2⟩
      rw [q1.2.2] at this
      exact absurd this (by decide)
  · intro q
    have n1 : ¬ a.testBit g = true := fun r => by
      obtain ⟨k, k1, k2, k3⟩ := a3.mp r
      exact q k k1 ⟨(key k).mpr (Or.inl k2), k3⟩
    have n2 : ¬ b.testBit g = true := fun r => by
      obtain ⟨k, k1, k2, k3⟩ := b3.mp r
      exact q k k1 ⟨(key k).mpr (Or.inr (Or.inl k2)), k3⟩
    have n3 : ¬ d.testBit g = true := fun r => by
      obtain ⟨k, k1, k2, k3⟩ := d3.mp r
      exact q k k1 ⟨(key k).mpr (Or.inr (Or.inr k2)), k3⟩
    simp [n1, n2, n3]
theorem uOk_put {x : Int32} {p g : Nat} {T : Nat → Nat} {Q : Nat → Prop} (h : uOk x p T Q) (h1 : 1 ≤ g) (h4 : g ≤ 4) (hq : Q p) (hno : ∀ k, k < p → ¬ (Q k ∧ T k = g)) : uOk (x ^^^ nI (2 ^ g)) (p + 1) (tU T p g) Q := by
  obtain ⟨u, u1, u2, u3⟩ := h
  refine ⟨u ^^^ 2 ^ g, (ux u u1 g (by omega)).2, by rw [u2, (ux u u1 g (by omega)).1], fun q q1 q4 => ?_⟩
  rw [uxt u u1 g (by omega) q (by omega)]
  by_cases e : q = g
  · rw [if_pos e]
    have n : ¬ u.testBit q = true := fun r => by
      obtain ⟨k, k1, k2, k3⟩ := (u3 q q1 q4).mp r
      exact hno k k1 ⟨k2, k3.trans e⟩
    have n2 : u.testBit q = false := by simpa using n
    rw [n2]
    exact ⟨fun _ => ⟨p, by omega, hq, (tU_e _ _ _).trans e.symm⟩, fun _ => rfl⟩
  · rw [if_neg e, u3 q q1 q4]
    constructor
    · rintro ⟨k, k1, k2, k3⟩
      exact ⟨k, by omega, k2, (tU_n _ (by omega)).trans k3⟩
    · rintro ⟨k, k1, k2, k3⟩
      by_cases r : k = p
      · rw [r, tU_e] at k3
        exact absurd k3.symm e
      · rw [tU_n _ r] at k3
        exact ⟨k, by omega, k2, k3⟩
theorem uOk_no {x : Int32} {p g : Nat} {T : Nat → Nat} {Q : Nat → Prop} (h : uOk x p T Q) (hq : ¬ Q p) : uOk x (p + 1) (tU T p g) Q := by
  obtain ⟨u, u1, u2, u3⟩ := h
  refine ⟨u, u1, u2, fun q q1 q4 => (u3 q q1 q4).trans ⟨?_, ?_⟩⟩
  · rintro ⟨k, k1, k2, k3⟩
    exact ⟨k, by omega, k2, (tU_n _ (by omega)).trans k3⟩
  · rintro ⟨k, k1, k2, k3⟩
    by_cases r : k = p
    · rw [r] at k2
      exact absurd k2 hq
    · rw [tU_n _ r] at k3
      exact ⟨k, by omega, k2, k3⟩
theorem pRel_put {T : Nat → Nat} {p : Nat} {I K : xv_I} (hp : p < 16) (h : pRel T p I K) {g : Nat} (h1 : 1 ≤ g) (h4 : g ≤ 4) (ho : ∀ k, k < p → ¬ (mBes k p ∧ T k = g)) : pRel (tU T p g) (p + 1) (xTurn p g I) (xv_u K 94 p (nI g)) := by
  obtain ⟨h2, h3⟩ := h
  refine ⟨fun r hr => ?_, fun k hk => ?_⟩
  · obtain ⟨a, b, d⟩ := h2 r hr
    refine ⟨?_, ?_, ?_⟩
    · by_cases e : r = p / 4
      · rw [show xTurn p g I 53 r = I 53 r ^^^ nI (2 ^ g) by rw [e]; simp [xTurn, xv_u]]
        exact uOk_put a h1 h4 e.symm fun k hk q => ho k hk ⟨Or.inl (q.1.trans e), q.2⟩
      · rw [show xTurn p g I 53 r = I 53 r by simp [xTurn, xv_u, e]]
        exact uOk_no a fun q => e q.symm
    · by_cases e : r = p % 4
      · rw [show xTurn p g I 54 r = I 54 r ^^^ nI (2 ^ g) by rw [e]; simp [xTurn, xv_u]]
        exact uOk_put b h1 h4 e.symm fun k hk q => ho k hk ⟨Or.inr (Or.inl (q.1.trans e)), q.2⟩
      · rw [show xTurn p g I 54 r = I 54 r by simp [xTurn, xv_u, e]]
        exact uOk_no b fun q => e q.symm
    · by_cases e : r = xQ p
      · rw [show xTurn p g I 55 r = I 55 r ^^^ nI (2 ^ g) by rw [e]; simp [xTurn, xv_u]]
        refine uOk_put d h1 h4 e.symm fun k hk q => ho k hk ⟨Or.inr (Or.inr ?_), q.2⟩
        have := q.1.trans e
        unfold xQ at this
        omega
      · rw [show xTurn p g I 55 r = I 55 r by simp [xTurn, xv_u, e]]
        exact uOk_no d fun q => e q.symm
  · by_cases e : k = p
    · subst e
      rw [tU_e, xv_u_eq]
      exact ⟨h1, h4, rfl⟩
    · rw [tU_n _ e, xv_u_nk _ _ _ e]
      exact h3 k (by omega)
theorem cf_eq {G : Nat → Nat} (hG : ∀ j, j < 16 → G j ≤ 4) : ∀ (m p : Nat) (T : Nat → Nat) (I K : xv_I), p + m = 16 → pRel T p I K → (∀ j, j < 16 → K 93 j = nI (G j)) → xCF G m p I = mCF m p K
  | 0, _, _, _, _, _, _, _ => rfl
  | m + 1, p, T, I, K, hp, hR, hK => by
    have hp16 : p < 16 := by omega
    have hg4 := hG p hp16
    have ht : ∀ g, 1 ≤ g → g ≤ 4 → (G p = 0 ∨ G p = g) → iteP (xOp I p g) (xCF G m (p + 1) (xTurn p g I)) 0 = iteP (mPoss (xv_u K 94 p (nI g)) p) (mCF m (p + 1) (xv_u K 94 p (nI g))) 0 := fun g g1 g4 hg => by
      have e : mPoss (xv_u K 94 p (nI g)) p ↔ xOp I p g := by
        rw [xOp_iff hp16 hR g1 g4]
        unfold mPoss
        rw [xv_u_eq, xv_u_ne _ _ _ (by decide), hK p hp16]
        constructor
        · intro q k hk r
          refine q.2 k hk ⟨r.1, ?_⟩
          rw [xv_u_nk _ _ _ (by omega), (hR.2 k hk).2.2, r.2]
        · refine fun q => ⟨?_, fun k hk r => q k hk ⟨r.1, ?_⟩⟩
          · rcases hg with hg | hg
            · exact Or.inl (by rw [hg]; rfl)
            · exact Or.inr (by rw [hg])
          · have r2 := r.2
            rw [xv_u_nk _ _ _ (by omega), (hR.2 k hk).2.2] at r2
            exact nI_inj2 r2 (by have := (hR.2 k hk).2.1; omega) (by omega)
      by_cases ho : xOp I p g
      · rw [iteP_t ho, iteP_t (e.mpr ho)]
        exact cf_eq hG m (p + 1) _ _ _ (by omega) (pRel_put hp16 hR g1 g4 ((xOp_iff hp16 hR g1 g4).mp ho)) fun j hj => by rw [xv_u_ne _ _ _ (by decide)]; exact hK j hj
      · rw [iteP_f ho, iteP_f fun q => ho (e.mp q)]
    have hz : ∀ g, 1 ≤ g → g ≤ 4 → ¬ G p = 0 → ¬ G p = g → iteP (mPoss (xv_u K 94 p (nI g)) p) (mCF m (p + 1) (xv_u K 94 p (nI g))) 0 = 0 := fun g g1 g4 n1 n2 => by
      rw [iteP_f]
      unfold mPoss
      rw [xv_u_eq, xv_u_ne _ _ _ (by decide), hK p hp16]
      rintro ⟨q | q, -⟩
      · exact n1 (nI_inj2 (b := 0) q (by omega) (by decide))
      · exact n2 (nI_inj2 q (by omega) (by omega))
    rw [xCF, mCF]
    by_cases h0 : G p = 0
    · rw [show xHi G p + 1 - xLo G p = 4 by simp [xHi, xLo, h0], show xLo G p = 1 by simp [xLo, h0]]
      simp only [it]
      rw [ht 1 (by decide) (by decide) (Or.inl h0), ht 2 (by decide) (by decide) (Or.inl h0), ht 3 (by decide) (by decide) (Or.inl h0), ht 4 (by decide) (by decide) (Or.inl h0)]
    · rw [show xHi G p + 1 - xLo G p = 1 by simp [xHi, xLo, h0], show xLo G p = G p by simp [xLo, h0]]
      simp only [it]
      rw [ht (G p) (by omega) hg4 (Or.inr rfl)]
      rcases (show G p = 1 ∨ G p = 2 ∨ G p = 3 ∨ G p = 4 by omega) with e | e | e | e
      · rw [hz 2 (by decide) (by decide) h0 (by omega), hz 3 (by decide) (by decide) h0 (by omega), hz 4 (by decide) (by decide) h0 (by omega), e]
        simp only [Nat.zero_add, Nat.add_zero, Nat.reduceAdd]
      · rw [hz 1 (by decide) (by decide) h0 (by omega), hz 3 (by decide) (by decide) h0 (by omega), hz 4 (by decide) (by decide) h0 (by omega), e]
        simp only [Nat.zero_add, Nat.add_zero, Nat.reduceAdd]
      · rw [hz 1 (by decide) (by decide) h0 (by omega), hz 2 (by decide) (by decide) h0 (by omega), hz 4 (by decide) (by decide) h0 (by omega), e]
        simp only [Nat.zero_add, Nat.add_zero, Nat.reduceAdd]
      · rw [hz 1 (by decide) (by decide) h0 (by omega), hz 2 (by decide) (by decide) h0 (by omega), hz 3 (by decide) (by decide) h0 (by omega), e]
theorem armok_33 (n : Nat) : Arm n 33 := fun MC MS Q c I J kc ks i l5 l6 hi hn hI hkc hks hk => by
  obtain ⟨g1, g2⟩ := hI.puz
  obtain hG : xGiv (fun j => lNa (I 52 j)) I := fun j hj => by
    obtain ⟨-, g, q1, q2⟩ := g1 j hj
    show I 52 j = nI (lNa (I 52 j)) ∧ lNa (I 52 j) ≤ 4
    rw [q2, lNa_n (by omega)]
    exact ⟨rfl, q1⟩
  obtain hu : ∀ x : Int32, x = 0 → ∀ Q, uOk x 0 (fun _ => 1) Q := fun x hx Q => ⟨0, by decide, hx, fun g _ _ => ⟨fun q => absurd q (by rw [Nat.zero_testBit]; decide), fun ⟨k, hk, _⟩ => absurd hk (Nat.not_lt_zero _)⟩⟩
  obtain hc : xCF (fun j => lNa (I 52 j)) 16 0 I = mCF 16 0 I := cf_eq (fun j hj => (hG j hj).2) 16 0 (fun _ => 1) I I rfl ⟨fun r hr => ⟨hu _ (g2 r hr).1 _, hu _ (g2 r hr).2.1 _, hu _ (g2 r hr).2.2 _⟩, fun k hk => absurd hk (Nat.not_lt_zero _)⟩ (fun j hj => (g1 j hj).1.symm.trans (hG j hj).1)
  exact arm_33 (dX := 9) (I1 := I) (I2 := I) (P := fun i => mAg 0 (xv_u I 60 48 (nI 0)) i) hi hn (by decide) (fun _ => rfl) (p_solutions n c I J hG) (m_solutions n c I J) (by rw [hc]) hkc hks (fun i2 l5 l6 h => by exact hk c _ _ l5 l6 (hI.to (fun v j h1 h2 h3 h4 => (h v j (by omega)).trans (if_neg (by omega)))))