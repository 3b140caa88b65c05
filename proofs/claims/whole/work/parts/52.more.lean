theorem it_ext {α : Type} {f g : Nat → α → α} : ∀ (m k : Nat) (s : α), (∀ j t, k ≤ j → j < k + m → f j t = g j t) → it f m k s = it g m k s
  | 0, _, _, _ => rfl
  | m + 1, k, s, h => by
    rw [it, it, h k s (Nat.le_refl _) (by omega)]
    exact it_ext m (k + 1) _ fun j t h1 h2 => h j t (by omega) (by omega)
theorem it_add {α : Type} (f : Nat → α → α) : ∀ (m r k : Nat) (s : α), it f (m + r) k s = it f r (k + m) (it f m k s)
  | 0, r, k, s => by rw [Nat.zero_add]; rfl
  | m + 1, r, k, s => by
    rw [show m + 1 + r = (m + r) + 1 by omega, it, it, it_add f m r (k + 1), show k + 1 + m = k + (m + 1) by omega]
theorem no_or (w : Nat) (x : Int32) : (∃ s, s < w ∧ x = nI s) ∨ ∀ k, x = nI k → k < 20 → w ≤ k := by
  by_cases h : ∃ s, s < w ∧ x = nI s
  · exact Or.inl h
  · exact Or.inr fun k e _ => Nat.le_of_not_lt fun q => h ⟨k, q, e⟩
theorem ad_at {c : Nat × Nat} {I : xv_I} {a : Nat} (h : gAd1 c I a) : (I (100 + a) 6 = -1 ∧ I 71 a = -1) ∨ ∃ p f, p < 10 ∧ f < 12 ∧ I (100 + a) 6 = nI p ∧ I (100 + a) 7 = nI f ∧ I 71 a = nI (100 * p + f) ∧ I 71 a / nI 100 = nI p := by
  obtain ⟨ct, w, h9, a1, a2, a3, a4, a5, a6, a7, a8, a9, a10, a11, a12, a13, a14⟩ := h
  rcases a14 with ⟨b1, b2, -⟩ | ⟨p, f, b1, b2, b3, b4, b5, b6, -⟩
  · exact Or.inl ⟨b1, b2⟩
  · refine Or.inr ⟨p, f, b1, by omega, b4, b5, b6, ?_⟩
    rw [b6, nI_div (by omega) (by decide), show (100 * p + f) / 100 = p by omega]
theorem in_eq {c : Nat × Nat} {I : xv_I} (h : gAd c I) (z : Nat) : xIn I c.1 z = mIn I c.1 z := by
  unfold xIn mIn
  refine it_ext _ _ _ fun k s _ hk => ?_
  unfold xIn1 mIn1
  refine iteP_iff ?_ _ _
  rcases ad_at (h.2.2.2 k (by omega)) with ⟨h1, h2⟩ | ⟨p, f, h1, h2, h3, h4, h5, h6⟩
  · unfold mInP
    rw [h1, h2]
    constructor <;> intro q <;> exact absurd rfl q.1
  · unfold mInP
    rw [h3, h6, h5]
    have e1 : ¬ nI p = -1 := nI_nm1 (by omega)
    have e2 : ¬ nI (100 * p + f) = -1 := nI_nm1 (by omega)
    constructor
    · intro q
      exact ⟨e2, q.2⟩
    · intro q
      exact ⟨e1, q.2⟩
theorem armok_7 (n : Nat) : Arm n 7 := fun MC MS Q c I J kc ks i l5 l6 hi hn hI hkc hks hk => by
  rcases rg_or 3 (by decide) (by decide) (I 99 (i + 1)) with ⟨z, hz, e1⟩ | ⟨b1, b2, b3⟩
  · obtain ⟨g1, g2, g3, g4⟩ := hI.ad
    exact arm_7 (dX := 6) (I1 := I) (I2 := xv_u I 60 48 (nI 0)) hi hn (by decide) (fun _ => rfl) (w_advertsIn_ok n c c J (by rw [e1]; exact p_advertsIn_ok n c I J hz g1 g3)) (by rw [e1]; exact m_in_ok n c _ _ hz g2 g3) (xv_u_eq _ _ _ _) (fun _ => by rw [xv_u_eq, in_eq hI.ad z]) hkc hks (fun l5 l6 => by exact hk c _ _ l5 l6 (hI.to (by intro v j h1 h2 h3 h4; simp only [xv_u]; repeat rw [if_neg (by omega)])))
  · exact arm_7 (dX := 6) (I1 := I) (I2 := xv_u I 60 48 (nI 1)) (out := nI 0) hi hn (by decide) (fun _ => rfl) (w_advertsIn_I n c c J (p_advertsIn_a n c I J b3)) (m_in_a n c _ _ b2) (xv_u_eq _ _ _ _) (fun q => absurd q (by decide)) hkc hks (fun l5 l6 => by exact hk c _ _ l5 l6 (hI.to (by intro v j h1 h2 h3 h4; simp only [xv_u]; repeat rw [if_neg (by omega)])))
theorem armok_12 (n : Nat) : Arm n 12 := fun MC MS Q c I J kc ks i l5 l6 hi hn hI hkc hks hk => by
  obtain ⟨g1, g2, g3, g4⟩ := hI.st
  rcases no_or c.2 (I 99 (i + 1)) with ⟨s, hs, e1⟩ | b1
  · by_cases hy : okR 0 1 (I 99 (i + 2))
    · obtain ⟨k, hk2, e2⟩ : ∃ k, k < 2 ∧ (I 99 (i + 2)) = nI k := okR_nat hy (by decide)
      obtain ⟨d, np, lo, sh, a1, a2, a3, a4, a5, a6, a7, a8, a9, a10, a11, a12, a13, a14, a15, a16, a17, a18⟩ := g4 s hs
      rcases a18 with ⟨b1, b2, b3⟩ | ⟨b1, pg, st, sz, b2, b3, b4, b5⟩
      · exact arm_12 (dX := 8) (I1 := I) (I2 := xv_u I 60 48 (nI 0)) hi hn (by decide) (fun _ => rfl) (w_part_ok n c c J (by rw [e1, e2]; exact p_part_no n c I J hs (by omega) hk2 (b2 k hk2))) (by rw [e1, e2]; exact m_part_no n c _ _ hs g2 g3 hk2 (Or.inl (by rw [a17, b1]; rfl))) (xv_u_eq _ _ _ _) (fun _ => by rw [xv_u_eq]) hkc hks (fun l5 l6 => by exact hk c _ _ l5 l6 (hI.to (by intro v j h1 h2 h3 h4; simp only [xv_u]; repeat rw [if_neg (by omega)])))
      · obtain ⟨c1, c2, c3⟩ := b3 k hk2
        obtain ⟨d1, d2⟩ := b4 k hk2
        rcases Nat.eq_zero_or_pos (sz k) with h0 | h0
        · exact arm_12 (dX := 8) (I1 := I) (I2 := xv_u I 60 48 (nI 0)) hi hn (by decide) (fun _ => rfl) (w_part_ok n c c J (by rw [e1, e2]; exact p_part_no n c I J hs (by omega) hk2 (by rw [c1, h0]; rfl))) (by rw [e1, e2]; exact m_part_no n c _ _ hs g2 g3 hk2 (Or.inr (by rw [d1, h0]; rfl))) (xv_u_eq _ _ _ _) (fun _ => by rw [xv_u_eq]) hkc hks (fun l5 l6 => by exact hk c _ _ l5 l6 (hI.to (by intro v j h1 h2 h3 h4; simp only [xv_u]; repeat rw [if_neg (by omega)])))
        · obtain ⟨c4, c5, c6, c7⟩ := c3 h0
          obtain ⟨d3, d4⟩ := d2 h0
          obtain z1 : ¬ I (201 + 5 * s + 3) k = 0 := by rw [c1]; exact nI_n0 h0 (by omega)
          obtain z2 : ¬ I 76 s = 0 ∧ ¬ I 79 (2 * s + k) = 0 := ⟨by rw [a17]; exact nI_n0 b1 (by omega), by rw [d1]; exact nI_n0 h0 (by omega)⟩
          exact arm_12 (dX := 8) (I1 := I) (I2 := xv_u I 60 48 (nI 0)) hi hn (by decide) (fun _ => rfl) (w_part_ok n c c J (by rw [e1, e2]; exact p_part_ok n c I J hs (by omega) hk2 z1 c6 (by omega))) (by rw [e1, e2]; exact m_part_ok n c _ _ hs g2 g3 hk2 z2 d4 (by omega)) (xv_u_eq _ _ _ _) (fun _ => by rw [xv_u_eq, c4, c1, d3, d1]) hkc hks (fun l5 l6 => by exact hk c _ _ l5 l6 (hI.to (by intro v j h1 h2 h3 h4; simp only [xv_u]; repeat rw [if_neg (by omega)])))
    · exact arm_12 (dX := 8) (I1 := I) (I2 := xv_u I 60 48 (nI 2)) (out := nI 0) hi hn (by decide) (fun _ => rfl) (w_part_A n c c J (by rw [e1]; exact p_part_b n c I J hs (by omega) hy)) (by rw [e1]; exact m_part_b n c _ _ hs g2 g3 (okR_x hy)) (xv_u_eq _ _ _ _) (fun q => absurd q (by decide)) hkc hks (fun l5 l6 => by exact hk c _ _ l5 l6 (hI.to (by intro v j h1 h2 h3 h4; simp only [xv_u]; repeat rw [if_neg (by omega)])))
  · exact arm_12 (dX := 8) (I1 := I) (I2 := xv_u I 60 48 (nI 1)) (out := nI 0) hi hn (by decide) (fun _ => rfl) (w_part_I n c c J (p_part_a n c I J b1)) (m_part_a n c _ _ b1 g2 g3) (xv_u_eq _ _ _ _) (fun q => absurd q (by decide)) hkc hks (fun l5 l6 => by exact hk c _ _ l5 l6 (hI.to (by intro v j h1 h2 h3 h4; simp only [xv_u]; repeat rw [if_neg (by omega)])))
theorem ah_1 {I : xv_I} {b w : Nat} (h : ∀ j, j < w → I 42 j = I 86 j ∧ I 43 j = I 87 j) (hb : b < w) (y : Int32) : ∀ (m k : Nat) (s : Int32), k + m ≤ b → it (xNeed1 I b) m k (s + y) = it (mAh1 I b) m k s + y
  | 0, _, _, _ => rfl
  | m + 1, k, s, hk => by
    rw [it, it, ← ah_1 h hb y m (k + 1) _ (by omega)]
    congr 1
    unfold xNeed1 mAh1
    rw [(h k (by omega)).1, (h k (by omega)).2, (h b hb).1]
    by_cases g : I 86 k < I 86 b ∨ (I 86 k = I 86 b ∧ k ≤ b)
    · rw [if_pos g, iteP_t (g.elim Or.inl fun q => Or.inr ⟨q.1, by omega⟩), Int32.add_assoc, Int32.add_assoc, Int32.add_comm y]
    · rw [if_neg g, iteP_f (fun q => g (q.elim Or.inl fun q => Or.inr ⟨q.1, by omega⟩)), show s + nI 0 = s from Int32.add_zero s]
theorem ah_2 {I : xv_I} {b w : Nat} (h : ∀ j, j < w → I 42 j = I 86 j ∧ I 43 j = I 87 j) (hb : b < w) : ∀ (m k : Nat) (s : Int32), b < k → k + m ≤ w → it (xNeed1 I b) m k s = it (mAh1 I b) m k s
  | 0, _, _, _, _ => rfl
  | m + 1, k, s, hk, hw => by
    rw [it, it, ← ah_2 h hb m (k + 1) _ (by omega) (by omega)]
    congr 1
    unfold xNeed1 mAh1
    rw [(h k (by omega)).1, (h k (by omega)).2, (h b hb).1]
    by_cases g : I 86 k < I 86 b ∨ (I 86 k = I 86 b ∧ k ≤ b)
    · rw [if_pos g, iteP_t (g.elim Or.inl fun q => Or.inr ⟨q.1, by omega⟩)]
    · rw [if_neg g, iteP_f (fun q => g (q.elim Or.inl fun q => Or.inr ⟨q.1, by omega⟩)), show s + nI 0 = s from Int32.add_zero s]
theorem ah_eq {I : xv_I} {b w : Nat} (h : ∀ j, j < w → I 42 j = I 86 j ∧ I 43 j = I 87 j) (hb : b < w) : xNeed I w b = mAh I w b := by
  unfold xNeed mAh
  obtain ⟨r, rfl⟩ : ∃ r, w = b + (r + 1) := ⟨w - (b + 1), by omega⟩
  rw [it_add (xNeed1 I b) b (r + 1) 0, it_add (mAh1 I b) b (r + 1) 0, it, it, Nat.zero_add]
  have e : it (xNeed1 I b) b 0 (I 43 b) = it (mAh1 I b) b 0 (nI 0) + I 43 b := by
    rw [← ah_1 h hb (I 43 b) b 0 (nI 0) (by omega), show nI 0 + I 43 b = I 43 b from Int32.zero_add _]
  have e2 : xNeed1 I b b (it (xNeed1 I b) b 0 (I 43 b)) = mAh1 I b b (it (mAh1 I b) b 0 (nI 0)) := by
    rw [e]
    unfold xNeed1
    unfold mAh1
    rw [iteP_f (fun q => q.elim (fun q => (fa_of_lt q).2.2.2.1 rfl) fun q => absurd q.2 (Nat.lt_irrefl _)), if_pos (Or.inr ⟨rfl, Nat.le_refl _⟩), (h b hb).2]
  rw [e2]
  exact ah_2 h hb r (b + 1) _ (Nat.lt_succ_self _) (by omega)
theorem late_eq {I : xv_I} {b w e : Nat} (h : ∀ j, j < w → I 42 j = I 86 j ∧ I 43 j = I 87 j) (hb : b < w) (he : I 39 e = I 84 e) : xLate I w b (I 39 e) = mLate I w b e := by
  unfold xLate mLate
  rw [ah_eq h hb, he, (h b hb).1, show mAh I w b + nI 50 - nI 1 = mAh I w b + nI 49 by rw [Int32.sub_eq_add_neg, Int32.add_assoc]; rfl]
  by_cases g : I 84 e + (mAh I w b + nI 49) / nI 50 - I 86 b ≤ 0
  · rw [if_pos g, if_neg (show ¬ nI 0 < I 84 e + (mAh I w b + nI 49) / nI 50 - I 86 b from fun q => (fa_of_lt q).2.1 g)]
  · rw [if_neg g, if_pos (show nI 0 < I 84 e + (mAh I w b + nI 49) / nI 50 - I 86 b from fa_of_nle g)]
theorem armok_24 (n : Nat) : Arm n 24 := fun MC MS Q c I J kc ks i l5 l6 hi hn hI hkc hks hk => by
  obtain ⟨w, g1, g2, g3, g4⟩ := hI.ed
  obtain ⟨wt, t1, t2, t3, t4⟩ := hI.tr
  rcases ed_or g1 (I 99 (i + 1)) with ⟨e, he, e1⟩ | b0
  · rcases ed_or (w := wt) (by omega) (I 99 (i + 2)) with ⟨b, hb, e2⟩ | b1
    · exact arm_24 (dX := 8) (I1 := I) (I2 := xv_u I 60 48 (nI 0)) hi hn (by decide) (fun _ => rfl) (w_late_ok n c c J (by rw [e1, e2]; exact p_late_ok n c I J he g1 g2 hb t1 t2)) (by rw [e1, e2]; exact m_late_ok n c _ _ he g1 g3 t1 t3 hb) (xv_u_eq _ _ _ _) (fun _ => by rw [xv_u_eq, late_eq t4 hb (g4 e he).1]) hkc hks (fun l5 l6 => by exact hk c _ _ l5 l6 (hI.to (by intro v j h1 h2 h3 h4; simp only [xv_u]; repeat rw [if_neg (by omega)])))
    · exact arm_24 (dX := 8) (I1 := I) (I2 := xv_u I 60 48 (nI 1)) (out := nI 0) hi hn (by decide) (fun _ => rfl) (w_late_I n c c J (by rw [e1]; exact p_late_b n c I J he g1 g2 (by rw [t2]; exact b1))) (by rw [e1]; exact m_late_b n c _ _ he g1 g3 t1 t3 b1) (xv_u_eq _ _ _ _) (fun q => absurd q (by decide)) hkc hks (fun l5 l6 => by exact hk c _ _ l5 l6 (hI.to (by intro v j h1 h2 h3 h4; simp only [xv_u]; repeat rw [if_neg (by omega)])))
  · exact arm_24 (dX := 8) (I1 := I) (I2 := xv_u I 60 48 (nI 1)) (out := nI 0) hi hn (by decide) (fun _ => rfl) (w_late_I n c c J (p_late_a n c I J (by rw [g2]; exact b0))) (m_late_a n c _ _ b0 g1 g3) (xv_u_eq _ _ _ _) (fun q => absurd q (by decide)) hkc hks (fun l5 l6 => by exact hk c _ _ l5 l6 (hI.to (by intro v j h1 h2 h3 h4; simp only [xv_u]; repeat rw [if_neg (by omega)])))