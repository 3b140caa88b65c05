theorem mMany_t (I : xv_I) (x : Int32) {v p : Nat} (h : v ≠ 60) : mMany (xv_u I 60 48 x) v p = mMany I v p := by
  unfold mMany
  rw [show mMany1 (xv_u I 60 48 x) v p = mMany1 I v p from funext fun k => funext fun s => by unfold mMany1; rw [xv_u_ne _ _ _ h]]
theorem mReady_t (I : xv_I) (x : Int32) (p : Nat) : mReady (xv_u I 60 48 x) p ↔ mReady I p := by
  unfold mReady
  rw [mMany_t _ _ (by decide), mMany_t _ _ (by decide)]
  simp only [xv_u_ne I x _ (show 63 ≠ 60 by decide)]
theorem pb_zero : ∀ b, b < 64 → (nI b = 0 ↔ nI (cnt6 b) = 0) := by decide +kernel
theorem ready_iff {c : Nat × Nat} {I : xv_I} (hI : Inv c I) {p : Nat} (hp : p < 10) : xReady I p ↔ mReady I p := by
  obtain ⟨b, h1, h2, h3⟩ := hI.hold p hp
  obtain ⟨d, g1, g2, g3⟩ := hI.sign p hp
  unfold xReady mReady
  rw [mMany_6 (v := 82) h3, mMany_6 (v := 81) g3, h2, g2, xBC_6 d g1]
  constructor
  · intro q
    refine ⟨(pb_zero b h1).mp q.1, q.2.elim (fun r => Or.inl (fun k hk => (hI.cell p hp k hk).1.symm.trans (r k hk))) Or.inr⟩
  · intro q
    refine ⟨(pb_zero b h1).mpr q.1, q.2.elim (fun r => Or.inl (fun k hk => (hI.cell p hp k hk).1.trans (r k hk))) Or.inr⟩
theorem armok_16 (n : Nat) : Arm n 16 := fun MC MS Q c I J kc ks i l5 l6 hi hn hI hkc hks hk => by
  rcases rg_or 10 (by decide) (by decide) (I 99 (i + 1)) with ⟨p, hp, e1⟩ | ⟨b1, b2, b3⟩
  · obtain hv : bi (xReady I p) = bi (mReady (xv_u I 60 48 (nI 0)) p) := bi_iff ((ready_iff hI hp).trans (mReady_t _ _ _).symm)
    exact arm_16 (dX := 8) (I1 := I) (I2 := xv_u I 60 48 (nI 0)) hi hn (by decide) (fun _ => rfl) (w_isReady_ok n c c J (by rw [e1]; exact p_isReady_ok n c I J hp)) (by rw [e1]; exact m_isReady_ok n c _ _ hp) (xv_u_eq _ _ _ _) (fun _ => by rw [xv_u_eq, hv]) hkc hks (fun l5 l6 => by exact hk c _ _ l5 l6 (hI.to (by intro v j h1 h2 h3 h4; simp only [xv_u]; repeat rw [if_neg (by omega)])))
  · exact arm_16 (dX := 8) (I1 := I) (I2 := xv_u I 60 48 (nI 1)) (out := nI 0) hi hn (by decide) (fun _ => rfl) (w_isReady_I n c c J (p_isReady_a n c I J b1)) (m_isReady_a n c _ _ b2) (xv_u_eq _ _ _ _) (fun q => absurd q (by decide)) hkc hks (fun l5 l6 => by exact hk c _ _ l5 l6 (hI.to (by intro v j h1 h2 h3 h4; simp only [xv_u]; repeat rw [if_neg (by omega)])))
theorem armok_14 (n : Nat) : Arm n 14 := fun MC MS Q c I J kc ks i l5 l6 hi hn hI hkc hks hk => by
  rcases rg_or 10 (by decide) (by decide) (I 99 (i + 1)) with ⟨p, hp, e1⟩ | ⟨b1, b2, b3⟩
  · rcases rg_or 6 (by decide) (by decide) (I 99 (i + 2)) with ⟨q, hq, e2⟩ | ⟨b1, b2, b3⟩
    · obtain ⟨bh, a1, a2, a3⟩ := hI.here
      obtain ⟨b, hb, g2, g3⟩ := hI.sign p hp
      obtain a4 := a3 q hq
      obtain g4 := g3 q hq
      by_cases hx : bh.testBit q = true ∧ ¬ b.testBit q = true
      · obtain haw : I 80 q = 0 := by rw [a4, if_pos hx.1]; rfl
        obtain hsg : I 81 (6 * p + q) = 0 := g4.trans (if_neg hx.2)
        obtain hth : (¬ I 1 5 &&& nI (2 ^ q) = 0) ∧ ¬ ¬ I 15 p &&& nI (2 ^ q) = 0 := by rw [a2, g2, pb_and hq, pb_and hq, hx.1]; simp [hx.2]
        obtain hrow : ∀ r, r < 6 → (xv_u (xv_u (xv_u I 15 p (I 15 p ||| nI (2 ^ q))) 60 48 (nI 0)) 81 (6 * p + q) (nI 1)) 81 (6 * p + r) = if (b ||| 2 ^ q).testBit r then nI 1 else nI 0 := fun r hr => by
          rw [pb_to b hb q hq r hr]
          by_cases er : r = q
          · subst er
            simp [xv_u]
          · simp [xv_u, er]
            exact g3 r hr
        refine arm_14 (dX := 8) (I1 := (xv_u I 15 p (I 15 p ||| nI (2 ^ q)))) (I2 := (xv_u (xv_u (xv_u I 15 p (I 15 p ||| nI (2 ^ q))) 60 48 (nI 0)) 81 (6 * p + q) (nI 1))) hi hn (by decide) (fun j => by simp only [xv_u]; repeat rw [if_neg (by omega)]) (w_sign_ok n c c J (by rw [e1, e2]; exact p_sign_ok n c I J hp hq hth)) (by rw [e1, e2]; exact m_sign_ok n c _ _ hp hq ⟨(xv_u_ne _ _ _ (by decide)).trans haw, (xv_u_ne _ _ _ (by decide)).trans hsg⟩) (by simp [xv_u]) (fun _ => by rw [xv_u_eq, mMany_6 hrow, g2, (pb_or b hb q hq).1, xBC_6 _ (pb_or b hb q hq).2]) hkc hks (fun l5 l6 => ?_)
        refine @hk c _ _ l5 l6 (Inv.set_sign hI (fun p' hp' => ?_) ?_)
        · by_cases ep : p' = p
          · subst ep
            exact ⟨b ||| 2 ^ q, (pb_or b hb q hq).2, by simp [xv_u, g2, (pb_or b hb q hq).1], hrow⟩
          · obtain ⟨b9, y1, y2, y3⟩ := hI.sign p' hp'
            refine ⟨b9, y1, by simp [xv_u, ep, y2], fun r hr => ?_⟩
            have : ¬ 6 * p' + r = 6 * p + q := by omega
            simp [xv_u, this]
            exact y3 r hr
        · intro v j h1 h2 h3 h4 h5
          simp only [xv_u]
          repeat rw [if_neg (by omega)]
      · obtain hth : ¬ ((¬ I 1 5 &&& nI (2 ^ q) = 0) ∧ ¬ ¬ I 15 p &&& nI (2 ^ q) = 0) := fun r => hx (by rw [a2, g2, pb_and hq, pb_and hq] at r; simpa using r)
        obtain haw : ¬ I 80 q = 0 ∨ ¬ I 81 (6 * p + q) = 0 := by
          by_cases h1 : bh.testBit q = true
          · have h2 : b.testBit q = true := Classical.byContradiction fun r => hx ⟨h1, r⟩
            exact Or.inr (by rw [show I 81 (6 * p + q) = nI 1 from g4.trans (if_pos h2)]; decide)
          · exact Or.inl (by rw [a4, if_neg h1]; decide)
        exact arm_14 (dX := 8) (I1 := I) (I2 := xv_u I 60 48 (nI 2)) (out := nI 0) hi hn (by decide) (fun _ => rfl) (w_sign_S n c c J (by rw [e1, e2]; exact p_sign_c n c I J hp hq hth)) (by rw [e1, e2]; exact m_sign_c n c _ _ hp hq haw) (xv_u_eq _ _ _ _) (fun q => absurd q (by decide)) hkc hks (fun l5 l6 => by exact hk c _ _ l5 l6 (hI.to (by intro v j h1 h2 h3 h4; simp only [xv_u]; repeat rw [if_neg (by omega)])))
    · exact arm_14 (dX := 8) (I1 := I) (I2 := xv_u I 60 48 (nI 1)) (out := nI 0) hi hn (by decide) (fun _ => rfl) (w_sign_I n c c J (by rw [e1]; exact p_sign_b n c I J hp b3)) (by rw [e1]; exact m_sign_b n c _ _ hp b2) (xv_u_eq _ _ _ _) (fun q => absurd q (by decide)) hkc hks (fun l5 l6 => by exact hk c _ _ l5 l6 (hI.to (by intro v j h1 h2 h3 h4; simp only [xv_u]; repeat rw [if_neg (by omega)])))
  · exact arm_14 (dX := 8) (I1 := I) (I2 := xv_u I 60 48 (nI 1)) (out := nI 0) hi hn (by decide) (fun _ => rfl) (w_sign_I n c c J (p_sign_a n c I J b1)) (m_sign_a n c _ _ b2) (xv_u_eq _ _ _ _) (fun q => absurd q (by decide)) hkc hks (fun l5 l6 => by exact hk c _ _ l5 l6 (hI.to (by intro v j h1 h2 h3 h4; simp only [xv_u]; repeat rw [if_neg (by omega)])))