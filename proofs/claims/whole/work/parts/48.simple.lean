theorem ed_or {w : Nat} (hw : w ≤ 8) (x : Int32) : (∃ e, e < w ∧ x = nI e) ∨ (x < 0 ∨ ¬ x < nI w) := by
  rcases Nat.eq_zero_or_pos w with h | h
  · subst h
    refine Or.inr ?_
    rcases nI_or x with g | ⟨k, g1, rfl⟩
    · exact Or.inl g
    · exact Or.inr (nI_nlt (Nat.zero_le _) g1)
  · rcases rg_or w h (by omega) x with g | g
    · exact Or.inl g
    · exact Or.inr g.2.2
theorem armok_18 (n : Nat) : Arm n 18 := fun MC MS Q c I J kc ks i l5 l6 hi hn hI hkc hks hk => by
  obtain ⟨w, g1, g2, g3, g4⟩ := hI.ed
  rcases ed_or g1 (I 99 (i + 1)) with ⟨e, he, e1⟩ | b0
  · rcases rg_or 10 (by decide) (by decide) (I 99 (i + 2)) with ⟨p, hp, e2⟩ | ⟨b1, b2, b3⟩
    · rcases rg_or 12 (by decide) (by decide) (I 99 (i + 3)) with ⟨k, hk12, e3⟩ | ⟨b1, b2, b3⟩
      · obtain q := (g4 e he).2 (12 * p + k) (by omega)
        exact arm_18 (dX := 8) (I1 := I) (I2 := xv_u I 60 48 (nI 0)) hi hn (by decide) (fun _ => rfl) (w_printed_ok n c c J (by rw [e1, e2, e3]; exact p_printed_ok n c I J he g1 g2 hp hk12)) (by rw [e1, e2, e3]; exact m_prt_ok n c _ _ he g1 g3 hp hk12) (xv_u_eq _ _ _ _) (fun _ => by rw [xv_u_eq, q, Nat.add_assoc]) hkc hks (fun l5 l6 => by exact hk c _ _ l5 l6 (hI.to (by intro v j h1 h2 h3 h4; simp only [xv_u]; repeat rw [if_neg (by omega)])))
      · exact arm_18 (dX := 8) (I1 := I) (I2 := xv_u I 60 48 (nI 1)) (out := nI 0) hi hn (by decide) (fun _ => rfl) (w_printed_I n c c J (by rw [e1, e2]; exact p_printed_c n c I J he g1 g2 hp b1)) (by rw [e1, e2]; exact m_prt_c n c _ _ he g1 g3 hp b2) (xv_u_eq _ _ _ _) (fun q => absurd q (by decide)) hkc hks (fun l5 l6 => by exact hk c _ _ l5 l6 (hI.to (by intro v j h1 h2 h3 h4; simp only [xv_u]; repeat rw [if_neg (by omega)])))
    · exact arm_18 (dX := 8) (I1 := I) (I2 := xv_u I 60 48 (nI 1)) (out := nI 0) hi hn (by decide) (fun _ => rfl) (w_printed_I n c c J (by rw [e1]; exact p_printed_b n c I J he g1 g2 b1)) (by rw [e1]; exact m_prt_b n c _ _ he g1 g3 b2) (xv_u_eq _ _ _ _) (fun q => absurd q (by decide)) hkc hks (fun l5 l6 => by exact hk c _ _ l5 l6 (hI.to (by intro v j h1 h2 h3 h4; simp only [xv_u]; repeat rw [if_neg (by omega)])))
  · exact arm_18 (dX := 8) (I1 := I) (I2 := xv_u I 60 48 (nI 1)) (out := nI 0) hi hn (by decide) (fun _ => rfl) (w_printed_I n c c J (p_printed_a n c I J (by rw [g2]; exact b0))) (m_prt_a n c _ _ b0 g1 g3) (xv_u_eq _ _ _ _) (fun q => absurd q (by decide)) hkc hks (fun l5 l6 => by exact hk c _ _ l5 l6 (hI.to (by intro v j h1 h2 h3 h4; simp only [xv_u]; repeat rw [if_neg (by omega)])))
theorem xDig46 (x : Int32) (k : Nat) : xDig x 6 (k + 2) = xDig x 4 k := by
  unfold xDig
  rw [show 6 - (k + 2 + 1) = 4 - (k + 1) by omega]
theorem xD10_n : ∀ (m d : Nat), d < 2 ^ 31 → xD10 m (nI d) = nI (d / 10 ^ m)
  | 0, d, _ => by rw [xD10, Nat.pow_zero, Nat.div_one]
  | m + 1, d, h => by
    rw [xD10, nI_div h (by decide), xD10_n m _ (by omega), Nat.div_div_eq_div_mul, Nat.pow_succ, Nat.mul_comm 10]
theorem xDig_n (s p d : Nat) (h : d < 2 ^ 31) : xDig (nI d) s p = nI (d / 10 ^ (s - (p + 1)) % 10) := by
  have h2 := Nat.div_le_self d (10 ^ (s - (p + 1)))
  rw [xDig, xD10_n _ _ h, nI_rem (by omega) (by decide)]
theorem xDig_g {y : Int32} (h : okR 0 4444 y) {k : Nat} (h4 : xDig y 4 k ≤ nI 4) : ∃ g, g ≤ 4 ∧ xDig y 4 k = nI g := by
  obtain ⟨d, hd, rfl⟩ := okR_nat h (by decide)
  rw [xDig_n _ _ _ (by omega)] at h4 ⊢
  refine ⟨_, ?_, rfl⟩
  have := Nat.mod_lt (d / 10 ^ (4 - (k + 1))) (show 0 < 10 by decide)
  rw [fa_le, nI_toInt (by omega), nI_toInt (by decide)] at h4
  omega
theorem xSetRow_at (r : Nat) (x : Int32) (I : xv_I) (j : Nat) : xSetRow r x I 52 j = if 4 * r ≤ j ∧ j < 4 * r + 4 then xDig x 4 (j - 4 * r) else I 52 j := by
  simp only [xSetRow, it, xSetRow1, xv_u]
  by_cases h : 4 * r ≤ j ∧ j < 4 * r + 4
  · rw [if_pos h]
    obtain ⟨q, hq, rfl⟩ : ∃ q, q < 4 ∧ j = 4 * r + q := ⟨j - 4 * r, by omega, by omega⟩
    rw [show 4 * r + q - 4 * r = q by omega]
    rcases (show q = 0 ∨ q = 1 ∨ q = 2 ∨ q = 3 by omega) with rfl | rfl | rfl | rfl <;> simp
  · rw [if_neg h, if_neg (by omega), if_neg (by omega), if_neg (by omega), if_neg (by omega)]
theorem xSetRow_o (r : Nat) (x : Int32) (I : xv_I) {v : Nat} (j : Nat) (h : v ≠ 52) : xSetRow r x I v j = I v j := by
  simp only [xSetRow, it, xSetRow1, xv_u]
  rw [if_neg (by omega), if_neg (by omega), if_neg (by omega), if_neg (by omega)]
theorem mRow_at (r : Nat) (x : Int32) (I : xv_I) (j : Nat) : mRow r x I 93 j = if 4 * r ≤ j ∧ j < 4 * r + 4 then xDig x 4 (j - 4 * r) else I 93 j := by
  simp only [mRow, it, mRow1, xv_u, xDig46]
  by_cases h : 4 * r ≤ j ∧ j < 4 * r + 4
  · rw [if_pos h]
    obtain ⟨q, hq, rfl⟩ : ∃ q, q < 4 ∧ j = 4 * r + q := ⟨j - 4 * r, by omega, by omega⟩
    rw [show 4 * r + q - 4 * r = q by omega]
    rcases (show q = 0 ∨ q = 1 ∨ q = 2 ∨ q = 3 by omega) with rfl | rfl | rfl | rfl <;> simp
  · rw [if_neg h, if_neg (by omega), if_neg (by omega), if_neg (by omega), if_neg (by omega)]
theorem mRow_o (r : Nat) (x : Int32) (I : xv_I) {v : Nat} (j : Nat) (h : v ≠ 93) : mRow r x I v j = I v j := by
  simp only [mRow, it, mRow1, xv_u]
  rw [if_neg (by omega), if_neg (by omega), if_neg (by omega), if_neg (by omega)]
theorem armok_32 (n : Nat) : Arm n 32 := fun MC MS Q c I J kc ks i l5 l6 hi hn hI hkc hks hk => by
  by_cases hx : okR 0 3 (I 99 (i + 1))
  · by_cases hy : okR 0 4444 (I 99 (i + 2))
    · by_cases hd : ∀ j, j < 4 → xDig (I 99 (i + 2)) 4 j ≤ nI 4
      · obtain ⟨r, hr, e1⟩ : ∃ r, r < 4 ∧ (I 99 (i + 1)) = nI r := okR_nat hx (by decide)
        refine arm_32 (dX := 8) (out := nI 0) (I1 := xSetRow r (I 99 (i + 2)) I) (I2 := mRow r (I 99 (i + 2)) (xv_u (xSetRow r (I 99 (i + 2)) I) 60 48 (nI 0))) hi hn (by decide) (fun j => xSetRow_o _ _ _ _ (by decide)) (w_numbers_ok n c c J (by rw [e1]; exact p_numb_ok n c I J hr ⟨hy.1, hy.2, hd⟩)) (by rw [e1]; exact m_num_ok n c _ _ hr hy (fun j hj => by rw [xDig46]; exact hd j hj)) (by rw [mRow_o _ _ _ _ (by decide), xv_u_eq]) hkc hks (fun l5 l6 => ?_)
        refine @hk c _ _ l5 l6 (Inv.set_puz hI ⟨fun j hj => ?_, fun j hj => ?_⟩ ?_)
        · rw [mRow_o _ _ _ _ (by decide), xv_u_ne _ _ _ (by decide), xSetRow_at, mRow_at, xv_u_ne _ _ _ (by decide), xSetRow_o _ _ _ _ (by decide)]
          by_cases h : 4 * r ≤ j ∧ j < 4 * r + 4
          · rw [if_pos h, if_pos h]
            exact ⟨rfl, xDig_g hy (hd _ (by omega))⟩
          · rw [if_neg h, if_neg h]
            exact hI.puz.1 j hj
        · rw [mRow_o _ _ _ _ (by decide), xv_u_ne _ _ _ (by decide), xSetRow_o _ _ _ _ (by decide), mRow_o _ _ _ _ (by decide), xv_u_ne _ _ _ (by decide), xSetRow_o _ _ _ _ (by decide), mRow_o _ _ _ _ (by decide), xv_u_ne _ _ _ (by decide), xSetRow_o _ _ _ _ (by decide)]
          exact hI.puz.2 j hj
        · intro v j h1 h2 h3 h4 h5
          rw [mRow_o _ _ _ _ (by omega)]
          unfold xv_u
          rw [if_neg (by omega), xSetRow_o _ _ _ _ (by omega)]
      · exact arm_32 (dX := 8) (out := nI 0) (I1 := I) (I2 := xv_u I 60 48 (nI 1)) hi hn (by decide) (fun _ => rfl) (w_numbers_A n c c J (p_numb_b n c I J hx (fun q => hd q.2.2))) (m_num_c n c _ _ hx hy (fun q => hd (fun j hj => by rw [← xDig46]; exact q j hj))) (xv_u_eq _ _ _ _) hkc hks (fun l5 l6 => by exact hk c _ _ l5 l6 (hI.to (by intro v j h1 h2 h3 h4; simp only [xv_u]; repeat rw [if_neg (by omega)])))
    · exact arm_32 (dX := 8) (out := nI 0) (I1 := I) (I2 := xv_u I 60 48 (nI 1)) hi hn (by decide) (fun _ => rfl) (w_numbers_A n c c J (p_numb_b n c I J hx (fun q => hy ⟨q.1, q.2.1⟩))) (m_num_b n c _ _ hx (okR_x hy)) (xv_u_eq _ _ _ _) hkc hks (fun l5 l6 => by exact hk c _ _ l5 l6 (hI.to (by intro v j h1 h2 h3 h4; simp only [xv_u]; repeat rw [if_neg (by omega)])))
  · exact arm_32 (dX := 8) (out := nI 0) (I1 := I) (I2 := xv_u I 60 48 (nI 1)) hi hn (by decide) (fun _ => rfl) (w_numbers_A n c c J (p_numb_a n c I J hx)) (m_num_a n c _ _ (okR_x hx)) (xv_u_eq _ _ _ _) hkc hks (fun l5 l6 => by exact hk c _ _ l5 l6 (hI.to (by intro v j h1 h2 h3 h4; simp only [xv_u]; repeat rw [if_neg (by omega)])))