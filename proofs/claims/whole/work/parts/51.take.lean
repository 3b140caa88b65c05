theorem xRem1_at (v j : Nat) (hv : v = 49 ∨ v = 50) : ∀ (m k : Nat) (I : xv_I), 1 ≤ k → it xRem1 m k I v j = if k - 1 ≤ j ∧ j < k - 1 + m then I v (j + 1) else I v j
  | 0, k, I, _ => by rw [it, if_neg (by omega)]
  | m + 1, k, I, hk => by
    have e : ∀ q, xRem1 k I v q = if q = k - 1 then I v k else I v q := fun q => by
      unfold xRem1 xv_u
      rcases hv with rfl | rfl <;> by_cases h : q = k - 1 <;> simp [h]
    rw [it, xRem1_at v j hv m (k + 1) _ (by omega), e, e]
    by_cases h : k - 1 ≤ j ∧ j < k - 1 + (m + 1)
    · rw [if_pos h]
      by_cases h2 : j = k - 1
      · rw [if_neg (by omega), if_pos h2, h2, show k - 1 + 1 = k by omega]
      · rw [if_pos (by omega), if_neg (by omega)]
    · rw [if_neg h, if_neg (by omega), if_neg (by omega)]
theorem mRs1_at (v j : Nat) (hv : v = 91 ∨ v = 92) : ∀ (m k : Nat) (I : xv_I), it mRs1 m k I v j = if k ≤ j ∧ j < k + m then I v (j + 1) else I v j
  | 0, k, I => by rw [it, if_neg (by omega)]
  | m + 1, k, I => by
    have e : ∀ q, mRs1 k I v q = if q = k then I v (k + 1) else I v q := fun q => by
      unfold mRs1 xv_u
      rcases hv with rfl | rfl <;> by_cases h : q = k <;> simp [h]
    rw [it, mRs1_at v j hv m (k + 1) _, e, e]
    by_cases h : k ≤ j ∧ j < k + (m + 1)
    · rw [if_pos h]
      by_cases h2 : j = k
      · rw [if_neg (by omega), if_pos h2, h2]
      · rw [if_pos (by omega), if_neg (by omega)]
    · rw [if_neg h, if_neg (by omega), if_neg (by omega)]
theorem mRs1_o {m k : Nat} {I : xv_I} {v : Nat} (j : Nat) (h : v ≠ 91 ∧ v ≠ 92) : it mRs1 m k I v j = I v j := it_inv (fun s : xv_I => s v j = I v j) (fun k s hs => ((xv_u_ne _ _ _ h.2).trans (xv_u_ne _ _ _ h.1)).trans hs) _ _ _ rfl
theorem it_cong {w : Nat} {f g : Nat → Nat → Nat} (h : ∀ k b, k < w → b < w → f k b = g k b ∧ g k b < w) : ∀ (m k b : Nat), b < w → k + m ≤ w → it f m k b = it g m k b
  | 0, _, _, _, _ => rfl
  | m + 1, k, b, hb, hk => by
    obtain ⟨e1, e2⟩ := h k b (by omega) hb
    rw [it, it, e1]
    exact it_cong h m (k + 1) _ e2 (by omega)
theorem urg_eq {I I' : xv_I} {w : Nat} (h0 : 0 < w) (h : ∀ j, j < w → I 50 j = I' 92 j) : xUrg I w = mUrg I' w := by
  unfold xUrg mUrg
  refine it_cong (w := w) (fun k b hk hb => ?_) (w - 1) 1 0 h0 (by omega)
  obtain h1 := h k hk
  obtain h2 := h b hb
  unfold xUrg1 mUrg1
  by_cases g : I' 92 k ≤ I' 92 b
  · rw [if_pos g, if_pos (by rw [h1, h2]; exact g)]
    exact ⟨rfl, hb⟩
  · rw [if_neg g, if_neg (by rw [h1, h2]; exact g)]
    exact ⟨rfl, hk⟩
theorem armok_31 (n : Nat) : Arm n 31 := fun MC MS Q c I J kc ks i l5 l6 hi hn hI hkc hks hk => by
  obtain ⟨w, g1, g2, g3, g4⟩ := hI.wire
  rcases Nat.eq_zero_or_pos w with hw | hw
  · subst hw
    exact arm_31 hi hn (by decide) (fun _ => rfl) (w_take_S n c c J (p_take_a n c I J g2)) (m_take_a2 n c _ _ g3) (xv_u_eq _ _ _ _) (fun q => absurd q (by decide)) hkc hks (fun l5 l6 => by exact hk c _ _ l5 l6 (hI.to (by intro v j h1 h2 h3 h4; simp only [xv_u]; repeat rw [if_neg (by omega)])))
  · obtain hu : xUrg I w < w := xUrg_lt (w - 1) 1 0 (by decide) (by omega) hw
    obtain ev : ∀ v j, (v ≠ 48 ∨ j ≠ 2) → v ≠ 49 → v ≠ 50 → xRem w (xUrg I w) I v j = I v j := fun v j h1 h2 h3 => by
      unfold xRem
      rcases h1 with h1 | h1
      · rw [xv_u_ne _ _ _ h1]
        exact xRem1_o _ ⟨h2, h3⟩
      · rw [xv_u_nk _ _ _ h1]
        exact xRem1_o _ ⟨h2, h3⟩
    obtain eu : mUrg (xRem w (xUrg I w) I) w = xUrg I w := (urg_eq hw (fun j hj => by rw [ev 92 j (by omega) (by omega) (by omega)]; exact (g4 j hj).1)).symm
    refine arm_31 (dX := 8) (I1 := xRem w (xUrg I w) I) (I2 := mRem w (xUrg I w) (xv_u (xRem w (xUrg I w) I) 60 48 (nI 0))) (out := I 91 (xUrg I w)) hi hn (by decide) (fun j => ev _ _ (by omega) (by omega) (by omega)) (w_take_ok n c c J (p_take_ok n c I J g1 g2 hw)) (by
      obtain t := m_take_ok2 n c (xRem w (xUrg I w) I) (xv_u J 98 0 (I 49 (xUrg I w)).toInt64) g1 (by rw [ev 60 38 (by omega) (by omega) (by omega)]; exact g3) hw
      rw [eu, ev 91 _ (by omega) (by omega) (by omega)] at t
      exact t) (by unfold mRem; rw [mRs1_o _ (by decide), xv_u_nk _ _ _ (by decide), xv_u_eq]) (fun _ => by rw [xv_u_eq, (g4 _ hu).2.1]) hkc hks (fun l5 l6 => ?_)
    refine @hk c _ _ l5 l6 (Inv.set_wire hI ⟨w - 1, by omega, ?_, ?_, fun j hj => ?_⟩ ?_)
    · unfold mRem
      rw [mRs1_o _ (by decide), xv_u_ne _ _ _ (by decide), xv_u_ne _ _ _ (by decide)]
      unfold xRem
      rw [xv_u_eq]
    · unfold mRem
      rw [mRs1_o _ (by decide), xv_u_eq]
    · obtain A : ∀ a, a = 49 ∨ a = 50 → mRem w (xUrg I w) (xv_u (xRem w (xUrg I w) I) 60 48 (nI 0)) a j = if xUrg I w ≤ j then I a (j + 1) else I a j := fun a ha => by
        unfold mRem
        rw [mRs1_o _ (by omega), xv_u_ne _ _ _ (by omega), xv_u_ne _ _ _ (by omega)]
        unfold xRem
        rw [xv_u_ne _ _ _ (by omega), xRem1_at a j ha _ _ _ (by omega)]
        by_cases h : xUrg I w ≤ j
        · rw [if_pos h, if_pos (by omega)]
        · rw [if_neg h, if_neg (by omega)]
      obtain B : ∀ a, a = 91 ∨ a = 92 → mRem w (xUrg I w) (xv_u (xRem w (xUrg I w) I) 60 48 (nI 0)) a j = if xUrg I w ≤ j then I a (j + 1) else I a j := fun a ha => by
        unfold mRem
        rw [mRs1_at a j ha, xv_u_ne _ _ _ (by omega), xv_u_ne _ _ _ (by omega), xv_u_ne _ _ _ (by omega), xv_u_ne _ _ _ (by omega), ev a _ (by omega) (by omega) (by omega), ev a _ (by omega) (by omega) (by omega)]
        by_cases h : xUrg I w ≤ j
        · rw [if_pos h, if_pos (by omega)]
        · rw [if_neg h, if_neg (by omega)]
      rw [A 50 (by decide), B 92 (by decide), A 49 (by decide), B 91 (by decide)]
      by_cases h : xUrg I w ≤ j
      · simp only [if_pos h]
        exact g4 (j + 1) (by omega)
      · simp only [if_neg h]
        exact g4 j (by omega)
    · intro v j h1 h2 h3 h4 h5
      unfold mRem
      rw [mRs1_o _ (by omega)]
      unfold xv_u
      rw [if_neg (by omega), if_neg (by omega)]
      exact ev v j (by omega) (by omega) (by omega)