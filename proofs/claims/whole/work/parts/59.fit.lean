theorem wd_bits : ∀ s, s < 32 → ∀ k, k < 5 → (nI s >>> (nI k &&& 31) &&& nI 1 = nI 1 ↔ s.testBit k = true) ∧ (nI s >>> (nI k &&& 31) &&& nI 1 = 0 ↔ s.testBit k = false) := by decide +kernel
/-- the set of a code -/
def sc1 (w cd k s : Nat) : Nat := if cd.testBit (w - 1 - k) = true then s else s ||| 2 ^ k
def sc (w cd : Nat) : Nat := it (sc1 w cd) w 0 0
/-- its rank: a smaller one has the long form first -/
def rk (s : Nat) : Nat := it (fun k a => if s.testBit k = true then a else a + 2 ^ (4 - k)) 5 0 0
theorem rk_lf : ∀ s, s < 32 → ∀ t, t < 32 → ((¬ nI s &&& (nI s ^^^ nI t) &&& -(nI s ^^^ nI t) = 0) ↔ rk s < rk t) := by decide +kernel
theorem rk_inj : ∀ s, s < 32 → ∀ t, t < 32 → rk s = rk t → s = t := by decide +kernel
theorem sc_rk : ∀ w, w < 6 → ∀ cd, cd < 2 ^ w → sc w cd < 2 ^ w ∧ rk (sc w cd) = 2 ^ (5 - w) * cd + (2 ^ (5 - w) - 1) := by decide +kernel
theorem sc_on : ∀ w, w < 6 → ∀ s, s < 2 ^ w → (rk s - (2 ^ (5 - w) - 1)) / 2 ^ (5 - w) < 2 ^ w ∧ sc w ((rk s - (2 ^ (5 - w) - 1)) / 2 ^ (5 - w)) = s := by decide +kernel
theorem sc_bit : ∀ w, w < 6 → ∀ cd, cd < 2 ^ w → ∀ k, k < w → (sc w cd).testBit k = !cd.testBit (w - 1 - k) := by decide +kernel
/-- a small number out of an int -/
def lNa (x : Int32) : Nat := x.toInt.toNat
theorem lNa_n {k : Nat} (h : k < 2 ^ 31) : lNa (nI k) = k := by
  unfold lNa
  rw [nI_toInt h]
  rfl
theorem lNa_ok {lo hi : Nat} {x : Int32} (h : okR lo hi x) (h2 : hi < 2 ^ 31) (h3 : lo < 2 ^ 31) : x = nI (lNa x) ∧ lo ≤ lNa x ∧ lNa x ≤ hi := by
  obtain ⟨k, h4, h5, rfl⟩ := okR_nat2 h h2 h3
  rw [lNa_n (by omega)]
  exact ⟨rfl, h4, h5⟩
def vw1 (I : xv_I) (s k a : Nat) : Nat := a + if s.testBit k = true then lNa (I 45 k) else lNa (I 46 k)
def vW (I : xv_I) (w s : Nat) : Nat := it (vw1 I s) w 0 (w - 1)
abbrev wOk (I : xv_I) (w : Nat) : Prop := ∀ j, j < w → I 45 j = I 88 j ∧ I 46 j = I 89 j ∧ okR 1 20 (I 45 j) ∧ okR 1 20 (I 46 j)
theorem vw_le {I : xv_I} {w s : Nat} (h : wOk I w) : ∀ (m k a : Nat), k + m ≤ w → it (vw1 I s) m k a ≤ a + 20 * m
  | 0, _, _, _ => Nat.le_refl _
  | m + 1, k, a, hk => by
    obtain ⟨-, -, h1, h2⟩ := h k (by omega)
    have e1 := (lNa_ok h1 (by decide) (by decide)).2.2
    have e2 := (lNa_ok h2 (by decide) (by decide)).2.2
    have e3 : vw1 I s k a ≤ a + 20 := by
      unfold vw1
      split <;> omega
    have := vw_le (s := s) h m (k + 1) (vw1 I s k a) (by omega)
    rw [it]
    omega
theorem vW_le {I : xv_I} {w s : Nat} (h : wOk I w) (hw : w ≤ 5) : vW I w s < 200 := by
  have := vw_le (s := s) h w 0 (w - 1) (by omega)
  unfold vW
  omega
theorem xWid_n {I : xv_I} {w s : Nat} (h : wOk I w) (hs : s < 32) (hw : w ≤ 5) : ∀ (m k a : Nat), k + m ≤ w → it (xWid1 I s) m k (nI a) = nI (it (vw1 I s) m k a)
  | 0, _, _, _ => rfl
  | m + 1, k, a, hk => by
    obtain ⟨-, -, h1, h2⟩ := h k (by omega)
    have e1 := (lNa_ok h1 (by decide) (by decide)).1
    have e2 := (lNa_ok h2 (by decide) (by decide)).1
    have e3 : xWid1 I s k (nI a) = nI (vw1 I s k a) := by
      unfold xWid1 vw1
      by_cases g : s.testBit k = true
      · rw [if_pos ((wd_bits s hs k (by omega)).1.mpr g), if_pos g, ← nI_add, ← e1]
      · rw [if_neg (fun q => g ((wd_bits s hs k (by omega)).1.mp q)), if_neg g, ← nI_add, ← e2]
    rw [it, it, e3]
    exact xWid_n h hs hw m (k + 1) _ (by omega)
theorem xWid_v {I : xv_I} {w s : Nat} (h : wOk I w) (hs : s < 32) (hw : w ≤ 5) (hw1 : 0 < w) : xWid I w s = nI (vW I w s) := by
  unfold xWid vW
  rw [nI_sub hw1]
  exact xWid_n h hs hw w 0 _ (by omega)
theorem mWd_n {I : xv_I} {w cd : Nat} (h : wOk I w) (hc : cd < 2 ^ w) (hw : w ≤ 5) : ∀ (m k a s : Nat), k + m ≤ w → it (mWd1 I w cd) m k (nI a, nI s) = (nI (it (vw1 I (sc w cd)) m k a), nI (it (sc1 w cd) m k s))
  | 0, _, _, _, _ => rfl
  | m + 1, k, a, s, hk => by
    obtain ⟨g1, g2, h1, h2⟩ := h k (by omega)
    have e1 := (lNa_ok h1 (by decide) (by decide)).1
    have e2 := (lNa_ok h2 (by decide) (by decide)).1
    have hc32 : cd < 32 := Nat.lt_of_lt_of_le hc (Nat.pow_le_pow_right (by decide) hw : 2 ^ w ≤ 2 ^ 5)
    have b := (wd_bits cd hc32 (w - 1 - k) (by omega)).2
    have b2 := sc_bit w (by omega) cd hc k (by omega)
    have e3 : mWd1 I w cd k (nI a, nI s) = (nI (vw1 I (sc w cd) k a), nI (sc1 w cd k s)) := by
      unfold mWd1 vw1 sc1
      by_cases g : cd.testBit (w - 1 - k) = true
      · have n1 : ¬ (sc w cd).testBit k = true := by rw [b2, g]; decide
        rw [if_neg (fun q => absurd (b.mp q) (by rw [g]; decide)), if_neg n1, if_pos g, ← nI_add, ← e2, g2, fa_or, Nat.or_zero]
      · have n1 : (sc w cd).testBit k = true := by rw [b2]; simp [g]
        rw [if_pos (b.mpr (by simpa using g)), if_pos n1, if_neg g, ← nI_add, ← e1, g1, fa_or]
    rw [it, it, it, e3]
    exact mWd_n h hc hw m (k + 1) _ _ (by omega)
theorem mWd_v {I : xv_I} {w cd : Nat} (h : wOk I w) (hc : cd < 2 ^ w) (hw : w ≤ 5) : mWd I w cd = (nI (vW I w (sc w cd)), nI (sc w cd)) := mWd_n h hc hw w 0 _ 0 (by omega)
theorem m1_lt (k : Nat) (h : k < 2 ^ 31) : (-1 : Int32) < nI k := by
  rw [fa_lt, nI_toInt h]
  have : (-1 : Int32).toInt = -1 := by decide
  omega
theorem bw_ok {I : xv_I} {w X : Nat} (h : wOk I w) (hw : w ≤ 5) (hw1 : 0 < w) (hX : X ≤ 200) : ∀ m, m ≤ 2 ^ w → (it (xBW1 I w (nI X)) m 0 (-1, -1) = (-1, -1) ∧ ∀ s, s < m → X < vW I w s) ∨ ∃ t, t < m ∧ it (xBW1 I w (nI X)) m 0 (-1, -1) = (nI t, nI (vW I w t)) ∧ vW I w t ≤ X ∧ ∀ s, s < m → vW I w s ≤ X → vW I w s < vW I w t ∨ (vW I w s = vW I w t ∧ (s = t ∨ rk t < rk s))
  | 0, _ => Or.inl ⟨rfl, fun s hs => absurd hs (Nat.not_lt_zero _)⟩
  | m + 1, hm => by
    have hp : (2 : Nat) ^ w ≤ 32 := (Nat.pow_le_pow_right (by decide) hw : 2 ^ w ≤ 2 ^ 5)
    have e := xWid_v (s := m) h (by omega) hw hw1
    have l1 := vW_le (s := m) h hw
    rw [it_last, Nat.zero_add]
    rw [show ∀ b, xBW1 I w (nI X) m b = (if nI X < xWid I w m then b else if xWid I w m < b.2 then b else iteP (b.2 < xWid I w m ∨ xLF (nI m) b.1) (nI m, xWid I w m) b) from fun _ => rfl, e]
    rcases bw_ok h hw hw1 hX m (by omega) with ⟨h1, h2⟩ | ⟨t, h1, h2, h3, h4⟩
    · rw [h1]
      by_cases g : X < vW I w m
      · rw [if_pos ((nI_lt2 (by omega) (by omega)).mpr g)]
        refine Or.inl ⟨rfl, fun s hs => ?_⟩
        rcases Nat.lt_or_ge s m with q | q
        · exact h2 s q
        · obtain rfl : s = m := by omega
          exact g
      · rw [if_neg (fun q => g ((nI_lt2 (by omega) (by omega)).mp q)), if_neg (fun q => (fa_of_lt (m1_lt (vW I w m) (by omega))).2.2.1 q), iteP_t (Or.inl (m1_lt _ (by omega)))]
        refine Or.inr ⟨m, by omega, rfl, by omega, fun s hs hs2 => ?_⟩
        rcases Nat.lt_or_ge s m with q | q
        · have := h2 s q
          omega
        · exact Or.inr ⟨by rw [show s = m by omega], Or.inl (by omega)⟩
    · rw [h2]
      have l2 := vW_le (s := t) h hw
      by_cases g : X < vW I w m
      · rw [if_pos ((nI_lt2 (by omega) (by omega)).mpr g)]
        refine Or.inr ⟨t, by omega, rfl, h3, fun s hs hs2 => ?_⟩
        rcases Nat.lt_or_ge s m with q | q
        · exact h4 s q hs2
        · rw [show s = m by omega] at hs2
          omega
      · rw [if_neg (fun q => g ((nI_lt2 (by omega) (by omega)).mp q))]
        by_cases g2 : vW I w m < vW I w t
        · rw [if_pos ((nI_lt2 (by omega) (by omega)).mpr g2)]
          refine Or.inr ⟨t, by omega, rfl, h3, fun s hs hs2 => ?_⟩
          rcases Nat.lt_or_ge s m with q | q
          · exact h4 s q hs2
          · exact Or.inl (by rw [show s = m by omega]; exact g2)
        · rw [if_neg (fun q => g2 ((nI_lt2 (by omega) (by omega)).mp q))]
          by_cases g3 : vW I w t < vW I w m ∨ rk m < rk t
          · rw [iteP_t (show (nI t, nI (vW I w t)).2 < nI (vW I w m) ∨ xLF (nI m) (nI t, nI (vW I w t)).1 from g3.elim (fun q => Or.inl ((nI_lt2 (by omega) (by omega)).mpr q)) fun q => Or.inr ((rk_lf m (by omega) t (by omega)).mpr q))]
            refine Or.inr ⟨m, by omega, rfl, by omega, fun s hs hs2 => ?_⟩
            rcases Nat.lt_or_ge s m with q | q
            · rcases h4 s q hs2 with r | ⟨r1, r2⟩
              · exact Or.inl (by omega)
              · rcases Nat.lt_or_ge (vW I w t) (vW I w m) with u | u
                · exact Or.inl (by omega)
                · refine Or.inr ⟨by omega, Or.inr ?_⟩
                  have u2 := g3.resolve_left (by omega)
                  rcases r2 with r2 | r2
                  · rw [r2]
                    exact u2
                  · omega
            · exact Or.inr ⟨by rw [show s = m by omega], Or.inl (by omega)⟩
          · rw [iteP_f (show ¬ ((nI t, nI (vW I w t)).2 < nI (vW I w m) ∨ xLF (nI m) (nI t, nI (vW I w t)).1) from fun q => g3 (q.elim (fun q => Or.inl ((nI_lt2 (by omega) (by omega)).mp q)) fun q => Or.inr ((rk_lf m (by omega) t (by omega)).mp q)))]
            refine Or.inr ⟨t, by omega, rfl, h3, fun s hs hs2 => ?_⟩
            rcases Nat.lt_or_ge s m with q | q
            · exact h4 s q hs2
            · obtain rfl : s = m := by omega
              have u1 : ¬ vW I w t < vW I w s := fun q => g3 (Or.inl q)
              have u2 : ¬ rk s < rk t := fun q => g3 (Or.inr q)
              refine Or.inr ⟨by omega, ?_⟩
              rcases Nat.lt_or_ge (rk t) (rk s) with u | u
              · exact Or.inr u
              · exact Or.inl (rk_inj s (by omega) t (by omega) (by omega))
theorem ft_ok {I : xv_I} {w X : Nat} (h : wOk I w) (hw : w ≤ 5) (hX : X ≤ 200) : ∀ m, m ≤ 2 ^ w → (it (mFt1 I w (nI X)) m 0 (-1, nI 0) = (-1, nI 0) ∧ ∀ cd, cd < m → X < vW I w (sc w cd)) ∨ ∃ t, t < m ∧ it (mFt1 I w (nI X)) m 0 (-1, nI 0) = (nI (vW I w (sc w t)), nI (sc w t)) ∧ vW I w (sc w t) ≤ X ∧ ∀ s, s < m → vW I w (sc w s) ≤ X → vW I w (sc w s) < vW I w (sc w t) ∨ (vW I w (sc w s) = vW I w (sc w t) ∧ t ≤ s)
  | 0, _ => Or.inl ⟨rfl, fun s hs => absurd hs (Nat.not_lt_zero _)⟩
  | m + 1, hm => by
    have e := mWd_v (cd := m) h (by omega) hw
    have l1 := vW_le (s := sc w m) h hw
    rw [it_last, Nat.zero_add]
    rw [show ∀ b, mFt1 I w (nI X) m b = (if ¬ nI X < (mWd I w m).1 ∧ ¬ (mWd I w m).1 ≤ b.1 then mWd I w m else b) from fun _ => rfl, e]
    rcases ft_ok h hw hX m (by omega) with ⟨h1, h2⟩ | ⟨t, h1, h2, h3, h4⟩
    · rw [h1]
      by_cases g : X < vW I w (sc w m)
      · rw [if_neg (fun q => q.1 ((nI_lt2 (by omega) (by omega)).mpr g))]
        refine Or.inl ⟨rfl, fun s hs => ?_⟩
        rcases Nat.lt_or_ge s m with q | q
        · exact h2 s q
        · obtain rfl : s = m := by omega
          exact g
      · rw [if_pos ⟨fun q => g ((nI_lt2 (by omega) (by omega)).mp q), fun q => (fa_of_lt (m1_lt (vW I w (sc w m)) (by omega))).2.1 q⟩]
        refine Or.inr ⟨m, by omega, rfl, by omega, fun s hs hs2 => ?_⟩
        rcases Nat.lt_or_ge s m with q | q
        · have := h2 s q
          omega
        · exact Or.inr ⟨by rw [show s = m by omega], q⟩
    · rw [h2]
      have l2 := vW_le (s := sc w t) h hw
      by_cases g : vW I w (sc w m) ≤ X ∧ vW I w (sc w t) < vW I w (sc w m)
      · rw [if_pos ⟨fun q => absurd ((nI_lt2 (by omega) (by omega)).mp q) (by omega), fun q => by rw [fa_le, nI_toInt (by omega), nI_toInt (by omega)] at q; omega⟩]
        refine Or.inr ⟨m, by omega, rfl, g.1, fun s hs hs2 => ?_⟩
        rcases Nat.lt_or_ge s m with q | q
        · rcases h4 s q hs2 with r | ⟨r1, r2⟩
          · exact Or.inl (by omega)
          · exact Or.inl (by omega)
        · exact Or.inr ⟨by rw [show s = m by omega], q⟩
      · rw [if_neg (fun q => g ⟨Nat.le_of_not_lt fun r => q.1 ((nI_lt2 (by omega) (by omega)).mpr r), Nat.lt_of_not_le fun r => q.2 (nI_le r (by omega))⟩)]
        refine Or.inr ⟨t, by omega, rfl, h3, fun s hs hs2 => ?_⟩
        rcases Nat.lt_or_ge s m with q | q
        · exact h4 s q hs2
        · obtain rfl : s = m := by omega
          rcases Nat.lt_or_ge (vW I w (sc w s)) (vW I w (sc w t)) with u | u
          · exact Or.inl u
          · exact Or.inr ⟨by omega, by omega⟩
theorem fit_eq {I : xv_I} {w X : Nat} (h : wOk I w) (hw : w ≤ 5) (hw1 : 0 < w) (hX : X ≤ 200) : xFit I w (nI X) = if (mFt I w (nI X)).1 = -1 then -1 else nI 100 * (mFt I w (nI X)).1 + (mFt I w (nI X)).2 := by
  have hp : (2 : Nat) ^ w ≤ 32 := (Nat.pow_le_pow_right (by decide) hw : 2 ^ w ≤ 2 ^ 5)
  unfold xFit xBW mFt
  rcases bw_ok h hw hw1 hX (2 ^ w) (Nat.le_refl _) with ⟨h1, h2⟩ | ⟨t, h1, h2, h3, h4⟩
  · rcases ft_ok h hw hX (2 ^ w) (Nat.le_refl _) with ⟨g1, g2⟩ | ⟨u, g1, g2, g3, g4⟩
    · rw [h1, g1, if_pos rfl, if_pos rfl]
    · have := h2 _ (sc_rk w (by omega) u g1).1
      omega
  · rcases ft_ok h hw hX (2 ^ w) (Nat.le_refl _) with ⟨g1, g2⟩ | ⟨u, g1, g2, g3, g4⟩
    · obtain ⟨q1, q2⟩ := sc_on w (by omega) t h1
      have := g2 _ q1
      rw [q2] at this
      omega
    · obtain ⟨q1, q2⟩ := sc_on w (by omega) t h1
      obtain ⟨r1, r2⟩ := sc_rk w (by omega) u g1
      obtain ⟨r3, r4⟩ := sc_rk w (by omega) _ q1
      rw [q2] at r4
      have a := g4 _ q1 (by rw [q2]; exact h3)
      rw [q2] at a
      have b := h4 _ r1 g3
      have l1 := vW_le (s := t) h hw
      have l2 := vW_le (s := sc w u) h hw
      have ev : vW I w t = vW I w (sc w u) := by omega
      have et : t = sc w u := by
        rcases b with b | ⟨-, b | b⟩
        · omega
        · exact b.symm
        · exfalso
          rcases a with a | ⟨-, a⟩
          · omega
          · have := Nat.mul_le_mul_left (2 ^ (5 - w)) a
            omega
      rw [h2, g2, ← et]
theorem armok_26 (n : Nat) : Arm n 26 := fun MC MS Q c I J kc ks i l5 l6 hi hn hI hkc hks hk => by
  obtain ⟨w, g1, g2, g3, g4⟩ := hI.word
  by_cases hx : okR 0 200 (I 99 (i + 1))
  · rcases Nat.eq_zero_or_pos w with h0 | h0
    · exact arm_26 (dX := 8) (I1 := I) (I2 := xv_u I 60 48 (nI 0)) hi hn (by decide) (fun _ => rfl) (w_fit_ok n c c J (p_fit_no n c I J hx (by rw [g2, h0]; rfl))) (m_fit_no n c _ _ hx (by rw [g3, h0]; rfl)) (xv_u_eq _ _ _ _) (fun _ => by rw [xv_u_eq]) hkc hks (fun l5 l6 => by exact hk c _ _ l5 l6 (hI.to (by intro v j h1 h2 h3 h4; simp only [xv_u]; repeat rw [if_neg (by omega)])))
    · obtain ⟨X, hX, ex⟩ := okR_nat hx (by decide)
      exact arm_26 (dX := 8) (I1 := I) (I2 := xv_u I 60 48 (nI 0)) hi hn (by decide) (fun _ => rfl) (w_fit_ok n c c J (by rw [ex] at hx ⊢; exact p_fit_ok n c I J hx g1 h0 g2)) (by rw [ex] at hx ⊢; exact m_fit_ok n c _ _ g1 h0 g3 hx) (xv_u_eq _ _ _ _) (fun _ => by rw [xv_u_eq, fit_eq g4 g1 h0 (by omega)]) hkc hks (fun l5 l6 => by exact hk c _ _ l5 l6 (hI.to (by intro v j h1 h2 h3 h4; simp only [xv_u]; repeat rw [if_neg (by omega)])))
  · exact arm_26 (dX := 8) (I1 := I) (I2 := xv_u I 60 48 (nI 1)) (out := nI 0) hi hn (by decide) (fun _ => rfl) (w_fit_A n c c J (p_fit_a n c I J hx)) (m_fit_a n c _ _ (okR_x hx)) (xv_u_eq _ _ _ _) (fun q => absurd q (by decide)) hkc hks (fun l5 l6 => by exact hk c _ _ l5 l6 (hI.to (by intro v j h1 h2 h3 h4; simp only [xv_u]; repeat rw [if_neg (by omega)])))
theorem wt_row {I : xv_I} {t f w h : Nat} (hI : ∀ j, j < 6 → I 47 j = I 90 j) (ht : t + h < 6) : ∀ (m q : Nat) (s : Int32), q + m ≤ w → it (mWt1 I t f w) m (h * w + q) s = it (xWt1 I (t + h)) m (f + q) s
  | 0, _, _, _ => rfl
  | m + 1, q, s, hq => by
    have e1 : (h * w + q) / w = h := by rw [Nat.mul_comm, Nat.mul_add_div (by omega), Nat.div_eq_of_lt (by omega), Nat.add_zero]
    have e2 : (h * w + q) % w = q := by rw [Nat.mul_comm, Nat.mul_add_mod, Nat.mod_eq_of_lt (by omega)]
    rw [it, it, show mWt1 I t f w (h * w + q) s = xWt1 I (t + h) (f + q) s by unfold mWt1 xWt1; rw [e1, e2, hI _ ht]]
    exact wt_row hI ht m (q + 1) _ (by omega)
theorem wt_eq {I : xv_I} {t f w : Nat} (hI : ∀ j, j < 6 → I 47 j = I 90 j) : ∀ h, t + h ≤ 6 → it (mWt1 I t f w) (h * w) 0 (nI 0) = it (xWt2 I f w) h t (nI 0)
  | 0, _ => by rw [Nat.zero_mul]; rfl
  | h + 1, ht => by
    rw [Nat.succ_mul, it_add, it_last, wt_eq hI h (by omega), Nat.zero_add]
    exact wt_row hI (by omega) w 0 _ (by omega)
theorem cr_eq {I : xv_I} (hI : ∀ j, j < 6 → I 47 j = I 90 j) {w h : Nat} (hw : 1 ≤ w ∧ w ≤ 6) (hh : 1 ≤ h ∧ h ≤ 6) : xCr I w h = mCr I w h := by
  unfold xCr mCr
  refine it_ext _ _ _ fun t b _ ht => ?_
  unfold xCr2 mCr2
  refine it_ext _ _ _ fun f b _ hf => ?_
  unfold xCr1 mCr1
  rw [show xWt I t f w h = mWt I t f w h from (wt_eq hI h (by omega)).symm]
theorem armok_29 (n : Nat) : Arm n 29 := fun MC MS Q c I J kc ks i l5 l6 hi hn hI hkc hks hk => by
  by_cases hx : okR 1 6 (I 99 (i + 1))
  · by_cases hy : okR 1 6 (I 99 (i + 2))
    · obtain ⟨w, hw1, hw2, e1⟩ := okR_nat2 hx (by decide) (by decide)
      obtain ⟨h, hh1, hh2, e2⟩ := okR_nat2 hy (by decide) (by decide)
      exact arm_29 (dX := 8) (I1 := I) (I2 := xv_u I 60 48 (nI 0)) hi hn (by decide) (fun _ => rfl) (w_crop_ok n c c J (by rw [e1, e2]; exact p_crop_ok n c I J ⟨hw1, hw2⟩ ⟨hh1, hh2⟩)) (by rw [e1, e2]; exact m_crop_ok n c _ _ ⟨hw1, hw2⟩ ⟨hh1, hh2⟩) (xv_u_eq _ _ _ _) (fun _ => by rw [xv_u_eq, cr_eq hI.wei ⟨hw1, hw2⟩ ⟨hh1, hh2⟩]) hkc hks (fun l5 l6 => by exact hk c _ _ l5 l6 (hI.to (by intro v j h1 h2 h3 h4; simp only [xv_u]; repeat rw [if_neg (by omega)])))
    · exact arm_29 (dX := 8) (I1 := I) (I2 := xv_u I 60 48 (nI 1)) (out := nI 0) hi hn (by decide) (fun _ => rfl) (w_crop_A n c c J (p_crop_b n c I J hx hy)) (m_crop_b n c _ _ hx (okR_x hy)) (xv_u_eq _ _ _ _) (fun q => absurd q (by decide)) hkc hks (fun l5 l6 => by exact hk c _ _ l5 l6 (hI.to (by intro v j h1 h2 h3 h4; simp only [xv_u]; repeat rw [if_neg (by omega)])))
  · exact arm_29 (dX := 8) (I1 := I) (I2 := xv_u I 60 48 (nI 1)) (out := nI 0) hi hn (by decide) (fun _ => rfl) (w_crop_A n c c J (p_crop_a n c I J hx)) (m_crop_a n c _ _ (okR_x hx)) (xv_u_eq _ _ _ _) (fun q => absurd q (by decide)) hkc hks (fun l5 l6 => by exact hk c _ _ l5 l6 (hI.to (by intro v j h1 h2 h3 h4; simp only [xv_u]; repeat rw [if_neg (by omega)])))