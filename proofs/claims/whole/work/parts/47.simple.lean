theorem nI_nle2 {a b : Nat} (h : a < b) (hb : b < 2 ^ 31) : ¬ nI b ≤ nI a := fun q => by
  rw [fa_le, nI_toInt hb, nI_toInt (by omega)] at q
  omega
theorem rg_or (N : Nat) (h1 : 1 ≤ N) (h2 : N ≤ 1000) (x : Int32) : (∃ p, p < N ∧ x = nI p) ∨ (¬ (¬ x < 0 ∧ ¬ nI N ≤ x) ∧ (x < 0 ∨ ¬ x ≤ nI (N - 1)) ∧ (x < 0 ∨ ¬ x < nI N)) := by
  rcases nI_or x with g | ⟨k, g1, rfl⟩
  · exact Or.inr ⟨fun q => q.1 g, Or.inl g, Or.inl g⟩
  · rcases Nat.lt_or_ge k N with q | q
    · exact Or.inl ⟨k, q, rfl⟩
    · exact Or.inr ⟨fun r => r.2 (nI_le q g1), Or.inr (nI_nle2 (by omega) g1), Or.inr (nI_nlt q g1)⟩
theorem cB_n (x : Int32) : narrow .boolean (.int (cB x)) = .int (cB x) := by
  unfold cB
  split <;> decide
theorem armok_1 (n : Nat) : Arm n 1 := fun MC MS Q c I J kc ks i l5 l6 hi hn hI hkc hks hk => by
  rcases rg_or 10 (by decide) (by decide) (I 99 (i + 1)) with ⟨p, hp, e1⟩ | ⟨b1, b2, b3⟩
  · rcases rg_or 12 (by decide) (by decide) (I 99 (i + 2)) with ⟨k, hk12, e2⟩ | ⟨b1, b2, b3⟩
    · obtain q := (hI.cell p hp k hk12).1
      exact arm_1 (dX := 6) (I1 := I) (I2 := xv_u I 60 48 (nI 0)) hi hn (by decide) (fun _ => rfl) (w_cell_ok n c c J (by rw [e1, e2]; exact p_cell_ok n c I J hp hk12)) (by rw [e1, e2]; exact m_cell_ok n c _ _ hp hk12) (xv_u_eq _ _ _ _) (fun _ => by rw [xv_u_eq, q]) hkc hks (fun l5 l6 => by exact hk c _ _ l5 l6 (hI.to (by intro v j h1 h2 h3 h4; simp only [xv_u]; repeat rw [if_neg (by omega)])))
    · exact arm_1 (dX := 6) (I1 := I) (I2 := xv_u I 60 48 (nI 1)) (out := nI 0) hi hn (by decide) (fun _ => rfl) (w_cell_I n c c J (by rw [e1]; exact p_cell_b n c I J hp b1)) (by rw [e1]; exact m_cell_b n c _ _ hp b2) (xv_u_eq _ _ _ _) (fun q => absurd q (by decide)) hkc hks (fun l5 l6 => by exact hk c _ _ l5 l6 (hI.to (by intro v j h1 h2 h3 h4; simp only [xv_u]; repeat rw [if_neg (by omega)])))
  · exact arm_1 (dX := 6) (I1 := I) (I2 := xv_u I 60 48 (nI 1)) (out := nI 0) hi hn (by decide) (fun _ => rfl) (w_cell_I n c c J (p_cell_a n c I J b1)) (m_cell_a n c _ _ b2) (xv_u_eq _ _ _ _) (fun q => absurd q (by decide)) hkc hks (fun l5 l6 => by exact hk c _ _ l5 l6 (hI.to (by intro v j h1 h2 h3 h4; simp only [xv_u]; repeat rw [if_neg (by omega)])))
theorem armok_0 (n : Nat) : Arm n 0 := fun MC MS Q c I J kc ks i l5 l6 hi hn hI hkc hks hk => by
  rcases rg_or 10 (by decide) (by decide) (I 99 (i + 1)) with ⟨p, hp, e1⟩ | ⟨b1, b2, b3⟩
  · by_cases hy : okR 0 3 (I 99 (i + 2))
    · by_cases hb : ∀ k, k < 12 → I (3 + p) k = 0
      · refine arm_0 (dX := 6) (out := nI 0) (I1 := (xv_u (xv_u I 13 p (I 99 (i + 2))) 14 p (cB (I 99 (i + 3))))) (I2 := (xv_u (xv_u (xv_u (xv_u (xv_u I 13 p (I 99 (i + 2))) 14 p (cB (I 99 (i + 3)))) 60 48 (nI 0)) 61 p (I 99 (i + 2))) 62 p (cB (I 99 (i + 3))))) hi hn (by decide) (fun j => by simp only [xv_u]; repeat rw [if_neg (by omega)]) (w_page_ok n c c J (by rw [e1]; exact p_page_ok n c I J hp hy (cB_n _) hb)) (by rw [e1]; exact m_page_ok n c _ _ hp hy (cB_n _) (fun k hk => by rw [xv_u_ne _ _ _ (by decide), xv_u_ne _ _ _ (by decide), ← (hI.cell p hp k hk).1]; exact hb k hk)) (by simp [xv_u]) hkc hks (fun l5 l6 => ?_)
        refine @hk c _ _ l5 l6 (Inv.set_page hI ?_ ?_)
        · intro q hq
          obtain d := hI.page q hq
          by_cases e : q = p
          · simp [xv_u, e]
          · simp [xv_u, e, d]
        · intro v j h1 h2 h3 h4 h5
          simp only [xv_u]
          repeat rw [if_neg (by omega)]
      · exact arm_0 (dX := 6) (out := nI 0) (I1 := I) (I2 := xv_u I 60 48 (nI 3)) hi hn (by decide) (fun _ => rfl) (w_page_S n c c J (by rw [e1]; exact p_page_c n c I J hp hy hb)) (by rw [e1]; exact m_page_c n c _ _ hp hy (fun q => hb (fun k hk => by rw [(hI.cell p hp k hk).1]; exact q k hk))) (xv_u_eq _ _ _ _) hkc hks (fun l5 l6 => by exact hk c _ _ l5 l6 (hI.to (by intro v j h1 h2 h3 h4; simp only [xv_u]; repeat rw [if_neg (by omega)])))
    · exact arm_0 (dX := 6) (out := nI 0) (I1 := I) (I2 := xv_u I 60 48 (nI 2)) hi hn (by decide) (fun _ => rfl) (w_page_A n c c J (by rw [e1]; exact p_page_b n c I J hp hy)) (by rw [e1]; exact m_page_b n c _ _ hp (okR_x hy)) (xv_u_eq _ _ _ _) hkc hks (fun l5 l6 => by exact hk c _ _ l5 l6 (hI.to (by intro v j h1 h2 h3 h4; simp only [xv_u]; repeat rw [if_neg (by omega)])))
  · exact arm_0 (dX := 6) (out := nI 0) (I1 := I) (I2 := xv_u I 60 48 (nI 1)) hi hn (by decide) (fun _ => rfl) (w_page_I n c c J (p_page_a n c I J b1)) (m_page_a n c _ _ b2) (xv_u_eq _ _ _ _) hkc hks (fun l5 l6 => by exact hk c _ _ l5 l6 (hI.to (by intro v j h1 h2 h3 h4; simp only [xv_u]; repeat rw [if_neg (by omega)])))
theorem fa_le_tr {a b c : Int32} (h : a ≤ b) (h2 : b ≤ c) : a ≤ c := by
  rw [fa_le] at h h2 ⊢
  omega
theorem not_or2 {a b : Int32} {c : Int32} (h : ¬ (¬ a < b ∧ a ≤ c)) : a < b ∨ ¬ a ≤ c := by
  by_cases g : a < b
  · exact Or.inl g
  · exact Or.inr fun q => h ⟨g, q⟩
theorem armok_25 (n : Nat) : Arm n 25 := fun MC MS Q c I J kc ks i l5 l6 hi hn hI hkc hks hk => by
  obtain ⟨w, g1, g2, g3, g4⟩ := hI.word
  by_cases hx : okR 1 20 (I 99 (i + 1))
  · by_cases hy : ¬ (I 99 (i + 2)) < nI 1 ∧ (I 99 (i + 2)) ≤ (I 99 (i + 1))
    · rcases Nat.lt_or_ge w 5 with hw | hw
      · refine arm_25 (dX := 8) (I1 := (xv_u (xv_u (xv_u I 45 w (I 99 (i + 1))) 46 w (I 99 (i + 2))) 44 2 (nI (w + 1)))) (I2 := (xv_u (xv_u (xv_u (xv_u (xv_u (xv_u (xv_u I 45 w (I 99 (i + 1))) 46 w (I 99 (i + 2))) 44 2 (nI (w + 1))) 60 48 (nI 0)) 88 w (I 99 (i + 1))) 89 w (I 99 (i + 2))) 60 34 (nI (w + 1)))) hi hn (by decide) (fun j => by simp only [xv_u]; repeat rw [if_neg (by omega)]) (w_word_ok n c c J (p_word_ok n c I J hx hy hw g2)) (m_word_ok n c _ _ hx hy hw (by simp [xv_u, g3])) (by simp [xv_u]) (fun _ => by rw [xv_u_eq]) hkc hks (fun l5 l6 => ?_)
        refine @hk c _ _ l5 l6 (Inv.set_word hI ?_ ?_)
        · refine ⟨w + 1, by omega, by simp [xv_u], by simp [xv_u], fun j hj => ?_⟩
          by_cases e : j = w
          · subst e
            simp only [xv_u]
            simp only [and_self, if_true, true_and, Nat.reduceEqDiff, false_and, if_false]
            exact ⟨hx, hy.1, fa_le_tr hy.2 hx.2⟩
          · obtain q := g4 j (by omega)
            simp only [xv_u]
            simp [e]
            exact ⟨q.1, q.2.1, q.2.2⟩
        · intro v j h1 h2 h3 h4 h5
          simp only [xv_u]
          repeat rw [if_neg (by omega)]
      · obtain rfl : w = 5 := by omega
        exact arm_25 hi hn (by decide) (fun _ => rfl) (w_word_S n c c J (p_word_c n c I J hx hy g2)) (m_word_c n c _ _ hx hy g3) (xv_u_eq _ _ _ _) (fun q => absurd q (by decide)) hkc hks (fun l5 l6 => by exact hk c _ _ l5 l6 (hI.to (by intro v j h1 h2 h3 h4; simp only [xv_u]; repeat rw [if_neg (by omega)])))
    · exact arm_25 hi hn (by decide) (fun _ => rfl) (w_word_A n c c J (p_word_b n c I J hx (not_or2 hy))) (m_word_b n c _ _ hx (not_or2 hy)) (xv_u_eq _ _ _ _) (fun q => absurd q (by decide)) hkc hks (fun l5 l6 => by exact hk c _ _ l5 l6 (hI.to (by intro v j h1 h2 h3 h4; simp only [xv_u]; repeat rw [if_neg (by omega)])))
  · exact arm_25 hi hn (by decide) (fun _ => rfl) (w_word_A n c c J (p_word_a n c I J hx)) (m_word_a n c _ _ (okR_x hx)) (xv_u_eq _ _ _ _) (fun q => absurd q (by decide)) hkc hks (fun l5 l6 => by exact hk c _ _ l5 l6 (hI.to (by intro v j h1 h2 h3 h4; simp only [xv_u]; repeat rw [if_neg (by omega)])))