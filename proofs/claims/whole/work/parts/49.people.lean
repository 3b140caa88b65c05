theorem pb_xor : ∀ b, b < 64 → ∀ q, q < 6 → nI b ^^^ nI (2 ^ q) = nI (b ^^^ 2 ^ q) ∧ b ^^^ 2 ^ q < 64 := by decide +kernel
theorem pb_or : ∀ b, b < 64 → ∀ q, q < 6 → nI b ||| nI (2 ^ q) = nI (b ||| 2 ^ q) ∧ b ||| 2 ^ q < 64 := by decide +kernel
theorem pb_tx : ∀ b, b < 64 → ∀ q, q < 6 → ∀ r, r < 6 → (b ^^^ 2 ^ q).testBit r = (if r = q then !b.testBit r else b.testBit r) := by decide +kernel
theorem pb_to : ∀ b, b < 64 → ∀ q, q < 6 → ∀ r, r < 6 → (b ||| 2 ^ q).testBit r = (if r = q then true else b.testBit r) := by decide +kernel
theorem pb_and {b q : Nat} (hq : q < 6) : nI b &&& nI (2 ^ q) = 0 ↔ b.testBit q = false := fa_bit (by omega)
/-- how many of six -/
def cnt6 (b : Nat) : Nat := it (fun q s => if b.testBit q then s + 1 else s) 6 0 0
theorem xBC_6 : ∀ b, b < 64 → xBC (nI b) = nI (cnt6 b) := by decide +kernel
theorem cnt6_le : ∀ b, b < 64 → cnt6 b ≤ 6 := by decide +kernel
theorem mMany_6 {I : xv_I} {v p b : Nat} (h : ∀ q, q < 6 → I v (6 * p + q) = if b.testBit q then nI 1 else nI 0) : mMany I v p = cnt6 b := by
  have e : ∀ q, q < 6 → ∀ s, mMany1 I v p q s = if b.testBit q then s + 1 else s := fun q hq s => by
    unfold mMany1
    rw [h q hq]
    by_cases g : b.testBit q = true
    · rw [if_pos g, if_pos g, if_neg (by decide)]
    · rw [if_neg g, if_neg g, if_pos (by decide)]
  unfold mMany cnt6
  simp only [it]
  rw [e 0 (by decide), e 1 (by decide), e 2 (by decide), e 3 (by decide), e 4 (by decide), e 5 (by decide)]
theorem armok_15 (n : Nat) : Arm n 15 := fun MC MS Q c I J kc ks i l5 l6 hi hn hI hkc hks hk => by
  rcases rg_or 10 (by decide) (by decide) (I 99 (i + 1)) with ⟨p, hp, e1⟩ | ⟨b1, b2, b3⟩
  · rcases rg_or 6 (by decide) (by decide) (I 99 (i + 2)) with ⟨q, hq, e2⟩ | ⟨b1, b2, b3⟩
    · obtain ⟨bh, a1, a2, a3⟩ := hI.here
      obtain ⟨b, hb, g2, g3⟩ := hI.hold p hp
      obtain a4 := a3 q hq
      by_cases ht : bh.testBit q = true
      · obtain haw : I 80 q = 0 := by rw [a4, if_pos ht]; rfl
        obtain hth : ¬ I 1 5 &&& nI (2 ^ q) = 0 := by rw [a2, pb_and hq, ht]; decide
        obtain g4 := g3 q hq
        by_cases hbt : b.testBit q = true
        · obtain hv : bi (¬ (I 16 p ^^^ nI (2 ^ q)) &&& nI (2 ^ q) = 0) = nI 0 := bi_f (fun h => h (by rw [g2, (pb_xor b hb q hq).1, pb_and hq, pb_tx b hb q hq q hq, if_pos rfl, hbt]; rfl))
          refine arm_15 (dX := 8) (I1 := (xv_u I 16 p (I 16 p ^^^ nI (2 ^ q)))) (I2 := (xv_u (xv_u (xv_u I 16 p (I 16 p ^^^ nI (2 ^ q))) 60 48 (nI 0)) 82 (6 * p + q) (nI 0))) (out := nI 0) hi hn (by decide) (fun j => by simp only [xv_u]; repeat rw [if_neg (by omega)]) (w_hold_ok n c c J (by rw [e1, e2]; exact p_hold_ok n c I J hp hq hth)) (by rw [e1, e2]; exact m_hold_off n c _ _ hp hq ((xv_u_ne _ _ _ (by decide)).trans haw) (by rw [xv_u_ne _ _ _ (by decide)]; exact by rw [show I 82 (6 * p + q) = nI 1 from g4.trans (if_pos hbt)]; decide)) (by simp [xv_u]) (fun _ => by rw [xv_u_eq, hv]) hkc hks (fun l5 l6 => ?_)
          refine @hk c _ _ l5 l6 (Inv.set_hold hI (fun p' hp' => ?_) ?_)
          · by_cases ep : p' = p
            · subst ep
              refine ⟨b ^^^ 2 ^ q, (pb_xor b hb q hq).2, by simp [xv_u, g2, (pb_xor b hb q hq).1], fun r hr => ?_⟩
              rw [pb_tx b hb q hq r hr]
              by_cases er : r = q
              · subst er
                simp [xv_u, hbt]
              · simp [xv_u, er]
                exact g3 r hr
            · obtain ⟨b9, y1, y2, y3⟩ := hI.hold p' hp'
              refine ⟨b9, y1, by simp [xv_u, ep, y2], fun r hr => ?_⟩
              have : ¬ 6 * p' + r = 6 * p + q := by omega
              simp [xv_u, this]
              exact y3 r hr
          · intro v j h1 h2 h3 h4 h5
            simp only [xv_u]
            repeat rw [if_neg (by omega)]
        · obtain hv : bi (¬ (I 16 p ^^^ nI (2 ^ q)) &&& nI (2 ^ q) = 0) = nI 1 := bi_t (by rw [g2, (pb_xor b hb q hq).1, pb_and hq, pb_tx b hb q hq q hq, if_pos rfl]; simp [hbt])
          refine arm_15 (dX := 8) (I1 := (xv_u I 16 p (I 16 p ^^^ nI (2 ^ q)))) (I2 := (xv_u (xv_u (xv_u I 16 p (I 16 p ^^^ nI (2 ^ q))) 60 48 (nI 0)) 82 (6 * p + q) (nI 1))) (out := nI 1) hi hn (by decide) (fun j => by simp only [xv_u]; repeat rw [if_neg (by omega)]) (w_hold_ok n c c J (by rw [e1, e2]; exact p_hold_ok n c I J hp hq hth)) (by rw [e1, e2]; exact m_hold_on n c _ _ hp hq ((xv_u_ne _ _ _ (by decide)).trans haw) (by rw [xv_u_ne _ _ _ (by decide)]; exact g4.trans (if_neg hbt))) (by simp [xv_u]) (fun _ => by rw [xv_u_eq, hv]) hkc hks (fun l5 l6 => ?_)
          refine @hk c _ _ l5 l6 (Inv.set_hold hI (fun p' hp' => ?_) ?_)
          · by_cases ep : p' = p
            · subst ep
              refine ⟨b ^^^ 2 ^ q, (pb_xor b hb q hq).2, by simp [xv_u, g2, (pb_xor b hb q hq).1], fun r hr => ?_⟩
              rw [pb_tx b hb q hq r hr]
              by_cases er : r = q
              · subst er
                simp [xv_u, hbt]
              · simp [xv_u, er]
                exact g3 r hr
            · obtain ⟨b9, y1, y2, y3⟩ := hI.hold p' hp'
              refine ⟨b9, y1, by simp [xv_u, ep, y2], fun r hr => ?_⟩
              have : ¬ 6 * p' + r = 6 * p + q := by omega
              simp [xv_u, this]
              exact y3 r hr
          · intro v j h1 h2 h3 h4 h5
            simp only [xv_u]
            repeat rw [if_neg (by omega)]
      · obtain haw : ¬ I 80 q = 0 := by rw [a4, if_neg ht]; decide
        obtain hth : ¬ ¬ I 1 5 &&& nI (2 ^ q) = 0 := by rw [a2, pb_and hq]; simp [ht]
        exact arm_15 (dX := 8) (I1 := I) (I2 := xv_u I 60 48 (nI 2)) (out := nI 0) hi hn (by decide) (fun _ => rfl) (w_hold_S n c c J (by rw [e1, e2]; exact p_hold_c n c I J hp hq hth)) (by rw [e1, e2]; exact m_hold_c n c _ _ hp hq haw) (xv_u_eq _ _ _ _) (fun q => absurd q (by decide)) hkc hks (fun l5 l6 => by exact hk c _ _ l5 l6 (hI.to (by intro v j h1 h2 h3 h4; simp only [xv_u]; repeat rw [if_neg (by omega)])))
    · exact arm_15 (dX := 8) (I1 := I) (I2 := xv_u I 60 48 (nI 1)) (out := nI 0) hi hn (by decide) (fun _ => rfl) (w_hold_I n c c J (by rw [e1]; exact p_hold_b n c I J hp b3)) (by rw [e1]; exact m_hold_b n c _ _ hp b2) (xv_u_eq _ _ _ _) (fun q => absurd q (by decide)) hkc hks (fun l5 l6 => by exact hk c _ _ l5 l6 (hI.to (by intro v j h1 h2 h3 h4; simp only [xv_u]; repeat rw [if_neg (by omega)])))
  · exact arm_15 (dX := 8) (I1 := I) (I2 := xv_u I 60 48 (nI 1)) (out := nI 0) hi hn (by decide) (fun _ => rfl) (w_hold_I n c c J (p_hold_a n c I J b1)) (m_hold_a n c _ _ b2) (xv_u_eq _ _ _ _) (fun q => absurd q (by decide)) hkc hks (fun l5 l6 => by exact hk c _ _ l5 l6 (hI.to (by intro v j h1 h2 h3 h4; simp only [xv_u]; repeat rw [if_neg (by omega)])))