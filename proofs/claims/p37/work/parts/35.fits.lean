/-- what part answers -/
def pv (pg st sz : Nat → Nat) (i : Nat) : Int32 := if sz i = 0 then -1 else nI (10000 * pg i + 100 * cIn (st i) + sz i)
theorem cIn12 {s : Nat} (h : s < 12) : cIn s < 12 := by
  show 3 * (s % 4) + s / 4 < 12
  omega
theorem pv_f {I : xv_I} {w : Nat} {pg st sz : Nat → Nat} (hW : xWy I w pg st sz) {i : Nat} (hi : i < 2) (hz : 0 < sz i) : ∃ v, v < 2 ^ 31 ∧ pv pg st sz i = nI v ∧ v = 10000 * pg i + 100 * cIn (st i) + sz i ∧ v % 100 = sz i ∧ v / 100 % 100 = cIn (st i) ∧ v / 10000 = pg i ∧ pg i < 10 ∧ st i + sz i ≤ 12 := by
  obtain ⟨h1, h2, h3⟩ := hW i hi
  obtain ⟨h4, h5, h6, h7⟩ := h3 hz
  have h8 := cIn12 (show st i < 12 by omega)
  refine ⟨10000 * pg i + 100 * cIn (st i) + sz i, ?_, ?_, rfl, ?_, ?_, ?_, h5, h7⟩
  · generalize cIn (st i) = z at *
    omega
  · unfold pv
    rw [if_neg (by omega)]
  · generalize cIn (st i) = z at *
    omega
  · generalize cIn (st i) = z at *
    omega
  · generalize cIn (st i) = z at *
    omega
theorem pv_n {pg st sz : Nat → Nat} {i : Nat} (hz : sz i = 0) : pv pg st sz i = -1 := by
  unfold pv
  rw [if_pos hz]
theorem p_partW (n : Nat) (c : Nat × Nat) (I : xv_I) (J : xv_J) {a : Nat} (hs : a < c.2) (hs2 : a < 20) {pg st sz : Nat → Nat} (hW : xWy I (201 + 5 * a) pg st sz) {i : Nat} (hi : i < 2) : xv_Met mX10_part 8 16 128 (sx n c) I (rx c) J [.ref 0, .int (nI a), .int (nI i)] (xv_eq (.inl (some (.int (pv pg st sz i)))) (sx n c) I (rx c) J) := by
  obtain ⟨h1, h2, h3⟩ := hW i hi
  by_cases hz : sz i = 0
  · rw [pv_n hz]
    exact p_part_no n c I J hs hs2 hi (by rw [h1, hz]; rfl)
  · obtain ⟨h4, h5, h6, h7⟩ := h3 (by omega)
    have h9 := p_part_ok n c I J hs hs2 hi (by rw [h1]; exact nI_ne0 (by omega) (by omega)) h6 (by omega)
    rw [h4, h1, nI_mul, nI_mul, nI_add, nI_add] at h9
    unfold pv
    rw [if_neg hz]
    exact h9
theorem pre_step (d np k : Nat) : pre d np (k + 1) = pre d np k + dg d np k := rfl
theorem pre_le (d np : Nat) : ∀ k, pre d np k ≤ 9 * k
  | 0 => Nat.le_refl _
  | k + 1 => by
    have := pre_le d np k
    have h : dg d np k < 10 := Nat.mod_lt _ (by decide)
    rw [pre]
    omega
theorem pre_mono (d np : Nat) {a : Nat} : ∀ b, a ≤ b → pre d np a ≤ pre d np b
  | 0, h => by
    obtain rfl : a = 0 := by omega
    exact Nat.le_refl _
  | b + 1, h => by
    rcases Nat.lt_or_ge b a with g | g
    · obtain rfl : a = b + 1 := by omega
      exact Nat.le_refl _
    · have := pre_mono d np b g
      rw [pre]
      omega
/-- the sum of the digits from j on, of those from f to t -/
def smj (d np f t j : Nat) : Nat := if j ≤ f then pre d np t - pre d np f else if j ≤ t then pre d np t - pre d np j else 0
theorem smj_top {d np f t j : Nat} (h : f ≤ t) (h2 : t ≤ j) : smj d np f t j = 0 := by
  unfold smj
  by_cases g : j ≤ f
  · rw [if_pos g, show f = t by omega, Nat.sub_self]
  · rw [if_neg g]
    by_cases g2 : j ≤ t
    · rw [if_pos g2, show j = t by omega, Nat.sub_self]
    · rw [if_neg g2]
theorem smj_in {d np f t j : Nat} (h : f ≤ j) (h2 : j < t) : smj d np f t j = smj d np f t (j + 1) + dg d np j := by
  have e1 := pre_mono d np (a := j + 1) t (by omega)
  have e2 := pre_step d np j
  unfold smj
  rw [if_neg (show ¬ j + 1 ≤ f by omega), if_pos (show j + 1 ≤ t by omega)]
  by_cases g : j ≤ f
  · obtain rfl : j = f := by omega
    rw [if_pos g]
    omega
  · rw [if_neg g, if_pos (by omega)]
    omega
theorem smj_out {d np f t j : Nat} (hft : f ≤ t) (h : j < f ∨ t ≤ j) : smj d np f t j = smj d np f t (j + 1) := by
  rcases h with h | h
  · unfold smj
    rw [if_pos (by omega), if_pos (by omega)]
  · rw [smj_top hft h, smj_top hft (by omega)]
theorem smj_lt {d np f t j : Nat} (h : t ≤ 6) : smj d np f t j ≤ 54 := by
  have := pre_le d np t
  unfold smj
  split
  · omega
  · split
    · omega
    · omega
theorem m1_neg {x : Int32} {k : Nat} (hk : k < 2 ^ 31) (h : x = nI (k + 1) - nI 1) : x = nI k := by
  rw [h, nI_sub (by omega)]
  rfl
theorem m1_dec (k : Nat) : nI k + (-1) = nI k - nI 1 := by
  rw [Int32.sub_eq_add_neg]
  rfl
theorem l_fit1 (n : Nat) (c : Nat × Nat) (I : xv_I) (J : xv_J) {D MC MS kc ks : Nat} {Q : xv_Q} {V a N d np : Nat} {sz : Nat → Nat} (hd : d ≤ 999999) (hnp : np ≤ 6) (hN : N ≤ np) (hz0 : sz 0 ≤ 12) (hz1 : sz 1 ≤ 12) {m : Nat} (hm1 : m ≤ N) {l8 : Option Value} (kk : ∀ l12 l13, xv_W mL_fitsIn D MC MS Q kc ks (sx n c) I (rx c) J 163 (some (.ref 0) :: some (.int (nI V)) :: some (.int (nI a)) :: some (.int (nI N)) :: some (.int (nI d)) :: some (.int (nI np)) :: some (.int (nI (sz 0))) :: some (.int (nI (sz 1))) :: l8 :: some (.int (nI m)) :: some (.int (nI (pre d np m))) :: some (.int (nI (pre d np N - pre d np m))) :: l12 :: l13 :: []) []) : ∀ (j x10 x11 r : Nat) (x13 : Int32), j ≤ np → x10 = smj d np 0 m j → x11 = smj d np m N j → r = d / 10 ^ (np - j) → x13 = nI j - nI 1 → xv_W mL_fitsIn D MC MS Q kc ks (sx n c) I (rx c) J 97 (some (.ref 0) :: some (.int (nI V)) :: some (.int (nI a)) :: some (.int (nI N)) :: some (.int (nI d)) :: some (.int (nI np)) :: some (.int (nI (sz 0))) :: some (.int (nI (sz 1))) :: l8 :: some (.int (nI m)) :: some (.int (nI x10)) :: some (.int (nI x11)) :: some (.int (nI r)) :: some (.int (x13)) :: []) [] := by
  intro j
  induction j with
  | zero =>
    intro x10 x11 r x13 hj h10 h11 hr h13
    subst h13
    have e10 : x10 = pre d np m := by
      rw [h10]; unfold smj; rw [if_pos (Nat.le_refl _)]; rfl
    have e11 : x11 = pre d np N - pre d np m := by
      rw [h11]; unfold smj; rw [if_pos (Nat.zero_le _)]
    subst e10; subst e11
    show xv_W mL_fitsIn D MC MS _ kc ks (sx n c) I (rx c) J 97 (some (.ref 0) :: some (.int (nI V)) :: some (.int (nI a)) :: some (.int (nI N)) :: some (.int (nI d)) :: some (.int (nI np)) :: some (.int (nI (sz 0))) :: some (.int (nI (sz 1))) :: l8 :: some (.int (nI m)) :: some (.int (nI (pre d np m))) :: some (.int (nI (pre d np N - pre d np m))) :: some (.int (nI r)) :: some (.int (nI 0 - nI 1)) :: []) []
    refine xv_il13 fL_fitsIn_97 ?_
    refine xv_if_lt fL_fitsIn_99 (fun h_99 => ?_) (fun h_99 => ?_)
    · exact kk _ _
    · exact absurd (by decide) h_99
  | succ j ih =>
    intro x10 x11 r x13 hj h10 h11 hr h13
    obtain rfl : x13 = nI j := m1_neg (by omega) h13
    have b10 := smj_lt (d := d) (np := np) (f := 0) (t := m) (j := j + 1) (by omega)
    have b11 := smj_lt (d := d) (np := np) (f := m) (t := N) (j := j + 1) (by omega)
    have hr31 : r < 2 ^ 31 := by
      have := Nat.div_le_self d (10 ^ (np - (j + 1)))
      omega
    have hdg : r % 10 = dg d np j := by
      rw [hr]; unfold dg; rw [show np - (j + 1) = np - 1 - j by omega]
    have hr2 : r / 10 = d / 10 ^ (np - j) := by
      rw [hr, Nat.div_div_eq_div_mul, ← Nat.pow_succ, show (np - (j + 1)).succ = np - j by omega]
    show xv_W mL_fitsIn D MC MS _ kc ks (sx n c) I (rx c) J 97 (some (.ref 0) :: some (.int (nI V)) :: some (.int (nI a)) :: some (.int (nI N)) :: some (.int (nI d)) :: some (.int (nI np)) :: some (.int (nI (sz 0))) :: some (.int (nI (sz 1))) :: l8 :: some (.int (nI m)) :: some (.int (nI x10)) :: some (.int (nI x11)) :: some (.int (nI r)) :: some (.int (nI j)) :: []) []
    refine xv_il13 fL_fitsIn_97 ?_
    refine xv_if_lt fL_fitsIn_99 (fun h_99 => ?_) (fun h_99 => ?_)
    · exact absurd h_99 (nI_pos (by omega))
    · refine xv_il10 fL_fitsIn_102 ?_
      refine xv_il13 fL_fitsIn_104 ?_
      refine xv_il9 fL_fitsIn_106 ?_
      refine xv_ic_ge fL_fitsIn_108 (fun h_108 => ?_) (fun h_108 => ?_)
      · refine xv_k fL_fitsIn_119 ?_
        refine xv_iadd fL_fitsIn_120 ?_
        refine xv_eqi (y := nI x10) (by rw [nI_add]; rfl) ?_
        refine xv_is10 fL_fitsIn_121 ?_
        refine xv_il11 fL_fitsIn_123 ?_
        refine xv_il13 fL_fitsIn_125 ?_
        refine xv_il9 fL_fitsIn_127 ?_
        refine xv_ic_lt fL_fitsIn_129 (fun h_129 => ?_) (fun h_129 => ?_)
        · refine xv_k fL_fitsIn_146 ?_
          refine xv_iadd fL_fitsIn_147 ?_
          refine xv_eqi (y := nI x11) (by rw [nI_add]; rfl) ?_
          refine xv_is11 fL_fitsIn_148 ?_
          refine xv_il12 fL_fitsIn_150 ?_
          refine xv_k fL_fitsIn_152 ?_
          refine xv_idiv fL_fitsIn_154 (by decide) ?_
          refine xv_eqi (y := nI (r / 10)) (nI_div hr31 (by decide)) ?_
          refine xv_is12 fL_fitsIn_155 ?_
          refine xv_iinc13 (v := -1) fL_fitsIn_157 (by decide) ?_
          refine xv_goto fL_fitsIn_160 ?_
          exact ih _ _ _ _ (by omega) (by rw [smj_out (Nat.zero_le _) (Or.inr ((nI_leI (by omega) (by omega)).mp h_108)), h10]) (by rw [smj_out hm1 (Or.inl ((nI_ltI (by omega) (by omega)).mp h_129)), h11]) hr2 (m1_dec j)
        · refine xv_il13 fL_fitsIn_132 ?_
          refine xv_il3 fL_fitsIn_134 ?_
          refine xv_ic_ge fL_fitsIn_135 (fun h_135 => ?_) (fun h_135 => ?_)
          · refine xv_k fL_fitsIn_146 ?_
            refine xv_iadd fL_fitsIn_147 ?_
            refine xv_eqi (y := nI x11) (by rw [nI_add]; rfl) ?_
            refine xv_is11 fL_fitsIn_148 ?_
            refine xv_il12 fL_fitsIn_150 ?_
            refine xv_k fL_fitsIn_152 ?_
            refine xv_idiv fL_fitsIn_154 (by decide) ?_
            refine xv_eqi (y := nI (r / 10)) (nI_div hr31 (by decide)) ?_
            refine xv_is12 fL_fitsIn_155 ?_
            refine xv_iinc13 (v := -1) fL_fitsIn_157 (by decide) ?_
            refine xv_goto fL_fitsIn_160 ?_
            exact ih _ _ _ _ (by omega) (by rw [smj_out (Nat.zero_le _) (Or.inr ((nI_leI (by omega) (by omega)).mp h_108)), h10]) (by rw [smj_out hm1 (Or.inr ((nI_leI (by omega) (by omega)).mp h_135)), h11]) hr2 (m1_dec j)
          · refine xv_il12 fL_fitsIn_138 ?_
            refine xv_k fL_fitsIn_140 ?_
            refine xv_irem fL_fitsIn_142 (by decide) ?_
            refine xv_eqi (y := nI (r % 10)) (nI_rem hr31 (by decide)) ?_
            refine xv_goto fL_fitsIn_143 ?_
            refine xv_iadd fL_fitsIn_147 ?_
            refine xv_eqi (y := nI (x11 + r % 10)) (nI_add _ _) ?_
            refine xv_is11 fL_fitsIn_148 ?_
            refine xv_il12 fL_fitsIn_150 ?_
            refine xv_k fL_fitsIn_152 ?_
            refine xv_idiv fL_fitsIn_154 (by decide) ?_
            refine xv_eqi (y := nI (r / 10)) (nI_div hr31 (by decide)) ?_
            refine xv_is12 fL_fitsIn_155 ?_
            refine xv_iinc13 (v := -1) fL_fitsIn_157 (by decide) ?_
            refine xv_goto fL_fitsIn_160 ?_
            exact ih _ _ _ _ (by omega) (by rw [smj_out (Nat.zero_le _) (Or.inr ((nI_leI (by omega) (by omega)).mp h_108)), h10]) (by rw [smj_in (Nat.le_of_not_lt fun q => h_129 (nI_lt q (by omega))) (Nat.lt_of_not_le fun q => h_135 (nI_le q (by omega))), h11, hdg]) hr2 (m1_dec j)
      · refine xv_il12 fL_fitsIn_111 ?_
        refine xv_k fL_fitsIn_113 ?_
        refine xv_irem fL_fitsIn_115 (by decide) ?_
        refine xv_eqi (y := nI (r % 10)) (nI_rem hr31 (by decide)) ?_
        refine xv_goto fL_fitsIn_116 ?_
        refine xv_iadd fL_fitsIn_120 ?_
        refine xv_eqi (y := nI (x10 + r % 10)) (nI_add _ _) ?_
        refine xv_is10 fL_fitsIn_121 ?_
        refine xv_il11 fL_fitsIn_123 ?_
        refine xv_il13 fL_fitsIn_125 ?_
        refine xv_il9 fL_fitsIn_127 ?_
        refine xv_ic_lt fL_fitsIn_129 (fun h_129 => ?_) (fun h_129 => ?_)
        · refine xv_k fL_fitsIn_146 ?_
          refine xv_iadd fL_fitsIn_147 ?_
          refine xv_eqi (y := nI x11) (by rw [nI_add]; rfl) ?_
          refine xv_is11 fL_fitsIn_148 ?_
          refine xv_il12 fL_fitsIn_150 ?_
          refine xv_k fL_fitsIn_152 ?_
          refine xv_idiv fL_fitsIn_154 (by decide) ?_
          refine xv_eqi (y := nI (r / 10)) (nI_div hr31 (by decide)) ?_
          refine xv_is12 fL_fitsIn_155 ?_
          refine xv_iinc13 (v := -1) fL_fitsIn_157 (by decide) ?_
          refine xv_goto fL_fitsIn_160 ?_
          exact ih _ _ _ _ (by omega) (by rw [smj_in (Nat.zero_le _) (Nat.lt_of_not_le fun q => h_108 (nI_le q (by omega))), h10, hdg]) (by rw [smj_out hm1 (Or.inl ((nI_ltI (by omega) (by omega)).mp h_129)), h11]) hr2 (m1_dec j)
        · refine xv_il13 fL_fitsIn_132 ?_
          refine xv_il3 fL_fitsIn_134 ?_
          refine xv_ic_ge fL_fitsIn_135 (fun h_135 => ?_) (fun h_135 => ?_)
          · refine xv_k fL_fitsIn_146 ?_
            refine xv_iadd fL_fitsIn_147 ?_
            refine xv_eqi (y := nI x11) (by rw [nI_add]; rfl) ?_
            refine xv_is11 fL_fitsIn_148 ?_
            refine xv_il12 fL_fitsIn_150 ?_
            refine xv_k fL_fitsIn_152 ?_
            refine xv_idiv fL_fitsIn_154 (by decide) ?_
            refine xv_eqi (y := nI (r / 10)) (nI_div hr31 (by decide)) ?_
            refine xv_is12 fL_fitsIn_155 ?_
            refine xv_iinc13 (v := -1) fL_fitsIn_157 (by decide) ?_
            refine xv_goto fL_fitsIn_160 ?_
            exact ih _ _ _ _ (by omega) (by rw [smj_in (Nat.zero_le _) (Nat.lt_of_not_le fun q => h_108 (nI_le q (by omega))), h10, hdg]) (by rw [smj_out hm1 (Or.inr ((nI_leI (by omega) (by omega)).mp h_135)), h11]) hr2 (m1_dec j)
          · refine xv_il12 fL_fitsIn_138 ?_
            refine xv_k fL_fitsIn_140 ?_
            refine xv_irem fL_fitsIn_142 (by decide) ?_
            refine xv_eqi (y := nI (r % 10)) (nI_rem hr31 (by decide)) ?_
            refine xv_goto fL_fitsIn_143 ?_
            refine xv_iadd fL_fitsIn_147 ?_
            refine xv_eqi (y := nI (x11 + r % 10)) (nI_add _ _) ?_
            refine xv_is11 fL_fitsIn_148 ?_
            refine xv_il12 fL_fitsIn_150 ?_
            refine xv_k fL_fitsIn_152 ?_
            refine xv_idiv fL_fitsIn_154 (by decide) ?_
            refine xv_eqi (y := nI (r / 10)) (nI_div hr31 (by decide)) ?_
            refine xv_is12 fL_fitsIn_155 ?_
            refine xv_iinc13 (v := -1) fL_fitsIn_157 (by decide) ?_
            refine xv_goto fL_fitsIn_160 ?_
            exact ih _ _ _ _ (by omega) (by rw [smj_in (Nat.zero_le _) (Nat.lt_of_not_le fun q => h_108 (nI_le q (by omega))), h10, hdg]) (by rw [smj_in (Nat.le_of_not_lt fun q => h_129 (nI_lt q (by omega))) (Nat.lt_of_not_le fun q => h_135 (nI_le q (by omega))), h11, hdg]) hr2 (m1_dec j)

theorem l_fit2 (n : Nat) (c : Nat × Nat) (I : xv_I) (J : xv_J) {D MC MS kc ks : Nat} {Q : xv_Q} {V a N d np : Nat} {sz : Nat → Nat} (hd : d ≤ 999999) (hnp : np ≤ 6) (hN : N ≤ np) (hz0 : sz 0 ≤ 12) (hz1 : sz 1 ≤ 12) (kk : ∀ l9 l10 l11 l12 l13, xv_W mL_fitsIn D MC MS Q kc ks (sx n c) I (rx c) J 227 (some (.ref 0) :: some (.int (nI V)) :: some (.int (nI a)) :: some (.int (nI N)) :: some (.int (nI d)) :: some (.int (nI np)) :: some (.int (nI (sz 0))) :: some (.int (nI (sz 1))) :: some (.int (bi (∃ q, 1 ≤ q ∧ q < N + 1 ∧ (q < N ↔ 0 < sz 1) ∧ sz 0 = czf d np 0 q ∧ sz 1 = czf d np q N))) :: l9 :: l10 :: l11 :: l12 :: l13 :: []) []) : ∀ (u m : Nat) (l8 : Int32) (l10 l11 l12 l13 : Option Value), m + u = N + 1 → 1 ≤ m → l8 = bi (∃ q, 1 ≤ q ∧ q < m ∧ (q < N ↔ 0 < sz 1) ∧ sz 0 = czf d np 0 q ∧ sz 1 = czf d np q N) → xv_W mL_fitsIn D MC MS Q kc ks (sx n c) I (rx c) J 75 (some (.ref 0) :: some (.int (nI V)) :: some (.int (nI a)) :: some (.int (nI N)) :: some (.int (nI d)) :: some (.int (nI np)) :: some (.int (nI (sz 0))) :: some (.int (nI (sz 1))) :: some (.int (l8)) :: some (.int (nI m)) :: l10 :: l11 :: l12 :: l13 :: []) [] := by
  intro u
  induction u with
  | zero =>
    intro m l8 l10 l11 l12 l13 hm h1 h8
    obtain rfl : m = N + 1 := by omega
    subst h8
    show xv_W mL_fitsIn D MC MS _ kc ks (sx n c) I (rx c) J 75 (some (.ref 0) :: some (.int (nI V)) :: some (.int (nI a)) :: some (.int (nI N)) :: some (.int (nI d)) :: some (.int (nI np)) :: some (.int (nI (sz 0))) :: some (.int (nI (sz 1))) :: some (.int (bi (∃ q, 1 ≤ q ∧ q < N + 1 ∧ (q < N ↔ 0 < sz 1) ∧ sz 0 = czf d np 0 q ∧ sz 1 = czf d np q N))) :: some (.int (nI (N + 1))) :: l10 :: l11 :: l12 :: l13 :: []) []
    refine xv_il9 fL_fitsIn_75 ?_
    refine xv_il3 fL_fitsIn_77 ?_
    refine xv_ic_gt fL_fitsIn_78 (fun h_78 => ?_) (fun h_78 => ?_)
    · exact kk _ _ _ _ _
    · exact absurd (nI_lt (Nat.lt_succ_self N) (by omega)) h_78
  | succ u ih =>
    intro m l8 l10 l11 l12 l13 hm h1 h8
    have hmN : m ≤ N := by omega
    have q1 := pre_le d np m
    have q2 := pre_le d np N
    show xv_W mL_fitsIn D MC MS _ kc ks (sx n c) I (rx c) J 75 (some (.ref 0) :: some (.int (nI V)) :: some (.int (nI a)) :: some (.int (nI N)) :: some (.int (nI d)) :: some (.int (nI np)) :: some (.int (nI (sz 0))) :: some (.int (nI (sz 1))) :: some (.int (l8)) :: some (.int (nI m)) :: l10 :: l11 :: l12 :: l13 :: []) []
    refine xv_il9 fL_fitsIn_75 ?_
    refine xv_il3 fL_fitsIn_77 ?_
    refine xv_ic_gt fL_fitsIn_78 (fun h_78 => ?_) (fun h_78 => ?_)
    · exact absurd ((nI_ltI (by omega) (by omega)).mp h_78) (by omega)
    · refine xv_k fL_fitsIn_81 ?_
      refine xv_is10 fL_fitsIn_82 ?_
      refine xv_k fL_fitsIn_84 ?_
      refine xv_is11 fL_fitsIn_85 ?_
      refine xv_il4 fL_fitsIn_87 ?_
      refine xv_is12 fL_fitsIn_89 ?_
      refine xv_il5 fL_fitsIn_91 ?_
      refine xv_k fL_fitsIn_93 ?_
      refine xv_isub fL_fitsIn_94 ?_
      refine xv_is13 fL_fitsIn_95 ?_
      refine l_fit1 n c I J hd hnp hN hz0 hz1 hmN (fun l12 l13 => ?_) np 0 0 d _ (Nat.le_refl _) (smj_top (Nat.zero_le _) (by omega)).symm (smj_top hmN hN).symm (by rw [Nat.sub_self, Nat.pow_zero, Nat.div_one]) rfl
      refine xv_il8 fL_fitsIn_163 ?_
      refine xv_if_ne fL_fitsIn_165 (fun h_165 => ?_) (fun h_165 => ?_)
      · refine xv_k fL_fitsIn_214 ?_
        refine xv_goto fL_fitsIn_215 ?_
        refine xv_is8 fL_fitsIn_219 ?_
        refine xv_iincN9 (a := 1) fL_fitsIn_221 (by decide) ?_
        refine xv_goto fL_fitsIn_224 ?_
        exact ih (m + 1) _ _ _ _ _ (by omega) (by omega) (bi_t (by obtain ⟨q, a1, a2, a3⟩ := bi_1 (h8 ▸ h_165); exact ⟨q, a1, by omega, a3⟩)).symm
      · refine xv_il9 fL_fitsIn_168 ?_
        refine xv_il3 fL_fitsIn_170 ?_
        refine xv_ic_ge fL_fitsIn_171 (fun h_171 => ?_) (fun h_171 => ?_)
        · refine xv_k fL_fitsIn_178 ?_
          refine xv_il7 fL_fitsIn_179 ?_
          refine xv_if_le fL_fitsIn_181 (fun h_181 => ?_) (fun h_181 => ?_)
          · refine xv_k fL_fitsIn_188 ?_
            refine xv_ic_ne fL_fitsIn_189 (fun h_189 => ?_) (fun h_189 => ?_)
            · exact absurd h_189 (by decide)
            · refine xv_il6 fL_fitsIn_192 ?_
              refine xv_il10 fL_fitsIn_194 ?_
              refine xv_k fL_fitsIn_196 ?_
              refine xv_iadd fL_fitsIn_197 ?_
              refine xv_eqi (y := nI (pre d np m + 4)) (nI_add _ _) ?_
              refine xv_k fL_fitsIn_198 ?_
              refine xv_idiv fL_fitsIn_199 (by decide) ?_
              refine xv_eqi (y := nI ((pre d np m + 4) / 5)) (nI_div (by omega) (by decide)) ?_
              refine xv_ic_ne fL_fitsIn_200 (fun h_200 => ?_) (fun h_200 => ?_)
              · refine xv_k fL_fitsIn_218 ?_
                refine xv_is8 fL_fitsIn_219 ?_
                refine xv_iincN9 (a := 1) fL_fitsIn_221 (by decide) ?_
                refine xv_goto fL_fitsIn_224 ?_
                exact ih (m + 1) _ _ _ _ _ (by omega) (by omega) (bi_f (fun g => by
                  obtain ⟨q, a1, a2, a3, a4, a5⟩ := g
                  rcases Nat.lt_or_ge q m with e | e
                  · exact bi_0 (h8 ▸ h_165) ⟨q, a1, e, a3, a4, a5⟩
                  · obtain rfl : q = m := by omega
                    exact h_200 (by rw [a4]; rfl))).symm
              · refine xv_il7 fL_fitsIn_203 ?_
                refine xv_il11 fL_fitsIn_205 ?_
                refine xv_k fL_fitsIn_207 ?_
                refine xv_iadd fL_fitsIn_208 ?_
                refine xv_eqi (y := nI (pre d np N - pre d np m + 4)) (nI_add _ _) ?_
                refine xv_k fL_fitsIn_209 ?_
                refine xv_idiv fL_fitsIn_210 (by decide) ?_
                refine xv_eqi (y := nI ((pre d np N - pre d np m + 4) / 5)) (nI_div (by omega) (by decide)) ?_
                refine xv_ic_ne fL_fitsIn_211 (fun h_211 => ?_) (fun h_211 => ?_)
                · refine xv_k fL_fitsIn_218 ?_
                  refine xv_is8 fL_fitsIn_219 ?_
                  refine xv_iincN9 (a := 1) fL_fitsIn_221 (by decide) ?_
                  refine xv_goto fL_fitsIn_224 ?_
                  exact ih (m + 1) _ _ _ _ _ (by omega) (by omega) (bi_f (fun g => by
                    obtain ⟨q, a1, a2, a3, a4, a5⟩ := g
                    rcases Nat.lt_or_ge q m with e | e
                    · exact bi_0 (h8 ▸ h_165) ⟨q, a1, e, a3, a4, a5⟩
                    · obtain rfl : q = m := by omega
                      exact h_211 (by rw [a5]; rfl))).symm
                · refine xv_k fL_fitsIn_214 ?_
                  refine xv_goto fL_fitsIn_215 ?_
                  refine xv_is8 fL_fitsIn_219 ?_
                  refine xv_iincN9 (a := 1) fL_fitsIn_221 (by decide) ?_
                  refine xv_goto fL_fitsIn_224 ?_
                  exact ih (m + 1) _ _ _ _ _ (by omega) (by omega) (bi_t ⟨m, h1, Nat.lt_succ_self m, ⟨fun z => absurd z (Nat.not_lt.mpr ((nI_leI (by omega) (by omega)).mp h_171)), fun z => absurd h_181 (nI_nle z (by omega))⟩, (by show sz 0 = (pre d np m + 4) / 5; exact (nI_eq (by omega) (by omega)).mp h_200), (by show sz 1 = (pre d np N - pre d np m + 4) / 5; exact (nI_eq (by omega) (by omega)).mp h_211)⟩).symm
          · refine xv_k fL_fitsIn_184 ?_
            refine xv_goto fL_fitsIn_185 ?_
            refine xv_ic_ne fL_fitsIn_189 (fun h_189 => ?_) (fun h_189 => ?_)
            · refine xv_k fL_fitsIn_218 ?_
              refine xv_is8 fL_fitsIn_219 ?_
              refine xv_iincN9 (a := 1) fL_fitsIn_221 (by decide) ?_
              refine xv_goto fL_fitsIn_224 ?_
              exact ih (m + 1) _ _ _ _ _ (by omega) (by omega) (bi_f (fun g => by
                obtain ⟨q, a1, a2, a3, a4, a5⟩ := g
                rcases Nat.lt_or_ge q m with e | e
                · exact bi_0 (h8 ▸ h_165) ⟨q, a1, e, a3, a4, a5⟩
                · obtain rfl : q = m := by omega
                  exact absurd (a3.mpr (Nat.pos_of_ne_zero fun z => h_181 (by rw [z]; decide))) (Nat.not_lt.mpr ((nI_leI (by omega) (by omega)).mp h_171)))).symm
            · exact absurd h_189 (by decide)
        · refine xv_k fL_fitsIn_174 ?_
          refine xv_goto fL_fitsIn_175 ?_
          refine xv_il7 fL_fitsIn_179 ?_
          refine xv_if_le fL_fitsIn_181 (fun h_181 => ?_) (fun h_181 => ?_)
          · refine xv_k fL_fitsIn_188 ?_
            refine xv_ic_ne fL_fitsIn_189 (fun h_189 => ?_) (fun h_189 => ?_)
            · refine xv_k fL_fitsIn_218 ?_
              refine xv_is8 fL_fitsIn_219 ?_
              refine xv_iincN9 (a := 1) fL_fitsIn_221 (by decide) ?_
              refine xv_goto fL_fitsIn_224 ?_
              exact ih (m + 1) _ _ _ _ _ (by omega) (by omega) (bi_f (fun g => by
                obtain ⟨q, a1, a2, a3, a4, a5⟩ := g
                rcases Nat.lt_or_ge q m with e | e
                · exact bi_0 (h8 ▸ h_165) ⟨q, a1, e, a3, a4, a5⟩
                · obtain rfl : q = m := by omega
                  exact nI_nle (a3.mp (Nat.lt_of_not_le fun z => h_171 (nI_le z (by omega)))) (by omega) h_181)).symm
            · exact absurd h_189 (by decide)
          · refine xv_k fL_fitsIn_184 ?_
            refine xv_goto fL_fitsIn_185 ?_
            refine xv_ic_ne fL_fitsIn_189 (fun h_189 => ?_) (fun h_189 => ?_)
            · exact absurd h_189 (by decide)
            · refine xv_il6 fL_fitsIn_192 ?_
              refine xv_il10 fL_fitsIn_194 ?_
              refine xv_k fL_fitsIn_196 ?_
              refine xv_iadd fL_fitsIn_197 ?_
              refine xv_eqi (y := nI (pre d np m + 4)) (nI_add _ _) ?_
              refine xv_k fL_fitsIn_198 ?_
              refine xv_idiv fL_fitsIn_199 (by decide) ?_
              refine xv_eqi (y := nI ((pre d np m + 4) / 5)) (nI_div (by omega) (by decide)) ?_
              refine xv_ic_ne fL_fitsIn_200 (fun h_200 => ?_) (fun h_200 => ?_)
              · refine xv_k fL_fitsIn_218 ?_
                refine xv_is8 fL_fitsIn_219 ?_
                refine xv_iincN9 (a := 1) fL_fitsIn_221 (by decide) ?_
                refine xv_goto fL_fitsIn_224 ?_
                exact ih (m + 1) _ _ _ _ _ (by omega) (by omega) (bi_f (fun g => by
                  obtain ⟨q, a1, a2, a3, a4, a5⟩ := g
                  rcases Nat.lt_or_ge q m with e | e
                  · exact bi_0 (h8 ▸ h_165) ⟨q, a1, e, a3, a4, a5⟩
                  · obtain rfl : q = m := by omega
                    exact h_200 (by rw [a4]; rfl))).symm
              · refine xv_il7 fL_fitsIn_203 ?_
                refine xv_il11 fL_fitsIn_205 ?_
                refine xv_k fL_fitsIn_207 ?_
                refine xv_iadd fL_fitsIn_208 ?_
                refine xv_eqi (y := nI (pre d np N - pre d np m + 4)) (nI_add _ _) ?_
                refine xv_k fL_fitsIn_209 ?_
                refine xv_idiv fL_fitsIn_210 (by decide) ?_
                refine xv_eqi (y := nI ((pre d np N - pre d np m + 4) / 5)) (nI_div (by omega) (by decide)) ?_
                refine xv_ic_ne fL_fitsIn_211 (fun h_211 => ?_) (fun h_211 => ?_)
                · refine xv_k fL_fitsIn_218 ?_
                  refine xv_is8 fL_fitsIn_219 ?_
                  refine xv_iincN9 (a := 1) fL_fitsIn_221 (by decide) ?_
                  refine xv_goto fL_fitsIn_224 ?_
                  exact ih (m + 1) _ _ _ _ _ (by omega) (by omega) (bi_f (fun g => by
                    obtain ⟨q, a1, a2, a3, a4, a5⟩ := g
                    rcases Nat.lt_or_ge q m with e | e
                    · exact bi_0 (h8 ▸ h_165) ⟨q, a1, e, a3, a4, a5⟩
                    · obtain rfl : q = m := by omega
                      exact h_211 (by rw [a5]; rfl))).symm
                · refine xv_k fL_fitsIn_214 ?_
                  refine xv_goto fL_fitsIn_215 ?_
                  refine xv_is8 fL_fitsIn_219 ?_
                  refine xv_iincN9 (a := 1) fL_fitsIn_221 (by decide) ?_
                  refine xv_goto fL_fitsIn_224 ?_
                  exact ih (m + 1) _ _ _ _ _ (by omega) (by omega) (bi_t ⟨m, h1, Nat.lt_succ_self m, ⟨fun _ => Nat.pos_of_ne_zero fun z => h_181 (by rw [z]; decide), fun _ => (Nat.lt_of_not_le fun z => h_171 (nI_le z (by omega)))⟩, (by show sz 0 = (pre d np m + 4) / 5; exact (nI_eq (by omega) (by omega)).mp h_200), (by show sz 1 = (pre d np N - pre d np m + 4) / 5; exact (nI_eq (by omega) (by omega)).mp h_211)⟩).symm

theorem c_fitsIn (n : Nat) (c : Nat × Nat) (I : xv_I) (J : xv_J) {V a N d np : Nat} {pg st sz : Nat → Nat} (hs : a < c.2) (hs2 : a < 20) (hD : Dg np d) (hd : d ≤ 999999) (hnp : np ≤ 6) (hN : N ≤ np) (hN0 : 0 < N) (hV : V / 1000 = d) (hV2 : V < 2 ^ 31) (hW : xWy I (201 + 5 * a) pg st sz) (hz : 0 < sz 0) : xv_Met mL_fitsIn 9 48 384 (sx n c) I (rx c) J [.ref 0, .int (nI V), .int (nI a), .int (nI N)] (xv_eq (.inl (some (.int (bi (fitW d np N sz))))) (sx n c) (I) (rx c) J) := by
  refine xv_Met.of (by decide +kernel) (Nat.le_of_ble_eq_true rfl) (List.forall_mem_cons.mpr ⟨rfl, List.forall_mem_cons.mpr ⟨rfl, List.forall_mem_cons.mpr ⟨rfl, List.forall_mem_cons.mpr ⟨rfl, fun _ h => nomatch h⟩⟩⟩⟩) ?_
  obtain ⟨v0, w1, w2, w3, w4, w5, w6, w7, w8⟩ := pv_f hW (i := 0) (by decide) hz
  have z0 := (hW 0 (by decide)).2.1
  have z1 := (hW 1 (by decide)).2.1
  have hfw : (bi (∃ q, 1 ≤ q ∧ q < N + 1 ∧ (q < N ↔ 0 < sz 1) ∧ sz 0 = czf d np 0 q ∧ sz 1 = czf d np q N)) = bi (fitW d np N sz) := bi_iff ⟨fun ⟨q, a1, a2, a3⟩ => ⟨q, a1, by omega, a3⟩, fun ⟨q, a1, a2, a3⟩ => ⟨q, a1, by omega, a3⟩⟩
  show xv_W mL_fitsIn 9 48 384 _ 48 384 (sx n c) I (rx c) J 0 [some (.ref 0), some (.int (nI V)), some (.int (nI a)), some (.int (nI N)), none, none, none, none, none, none, none, none, none, none] []
  rcases Nat.eq_zero_or_pos (sz 1) with hz1 | hz1
  · obtain e1 : nI 0 = nI (sz 1) := by rw [hz1]
    refine xv_il3 fL_fitsIn_0 ?_
    refine xv_if_ne fL_fitsIn_1 (fun h_1 => ?_) (fun h_1 => ?_)
    · refine xv_il1 fL_fitsIn_20 ?_
      refine xv_k fL_fitsIn_21 ?_
      refine xv_idiv fL_fitsIn_24 (by decide) ?_
      refine xv_eqi (y := nI d) (by rw [nI_div hV2 (by decide), hV]) ?_
      refine xv_is4 fL_fitsIn_25 ?_
      refine xv_il4 fL_fitsIn_27 ?_
      refine xv_callS1R (c_lawLines n c I J hD (by omega)) fL_fitsIn_29 YL_lines VL_lines lL_126 rfl (Nat.le_of_ble_eq_true rfl) (by decide) (by decide) (by decide) ?_
      refine xv_is5 fL_fitsIn_32 ?_
      refine xv_al0 fL_fitsIn_34 ?_
      refine xv_il2 fL_fitsIn_35 ?_
      refine xv_k fL_fitsIn_36 ?_
      refine xv_callV2R (p_partW n c I J hs hs2 hW (i := 0) (by decide)) fL_fitsIn_37 YX10_part VX10_part lL_50 rfl rfl (sx_0 _ _) (Nat.le_of_ble_eq_true rfl) (by decide) (by decide) (by decide) ?_
      refine xv_k fL_fitsIn_40 ?_
      refine xv_irem fL_fitsIn_42 (by decide) ?_
      refine xv_eqi (y := nI (sz 0)) (by rw [w2, nI_rem w1 (by decide), w4]) ?_
      refine xv_is6 fL_fitsIn_43 ?_
      refine xv_al0 fL_fitsIn_45 ?_
      refine xv_il2 fL_fitsIn_46 ?_
      refine xv_k fL_fitsIn_47 ?_
      refine xv_callV2R (p_partW n c I J hs hs2 hW (i := 1) (by decide)) fL_fitsIn_48 YX10_part VX10_part lL_50 rfl rfl (sx_0 _ _) (Nat.le_of_ble_eq_true rfl) (by decide) (by decide) (by decide) ?_
      refine xv_if_ge fL_fitsIn_51 (fun h_51 => ?_) (fun h_51 => ?_)
      · exact absurd h_51 (by rw [pv_n hz1]; decide)
      · refine xv_k fL_fitsIn_54 ?_
        refine xv_eqi e1 ?_
        refine xv_goto fL_fitsIn_55 ?_
        refine xv_is7 fL_fitsIn_67 ?_
        refine xv_k fL_fitsIn_69 ?_
        refine xv_is8 fL_fitsIn_70 ?_
        refine xv_k fL_fitsIn_72 ?_
        refine xv_is9 fL_fitsIn_73 ?_
        refine l_fit2 n c I J hd hnp hN z0 z1 (fun l9 l10 l11 l12 l13 => ?_) N 1 _ _ _ _ _ (by omega) (Nat.le_refl _) (bi_f (fun ⟨q, a1, a2, _⟩ => by omega)).symm
        exact xv_il8 fL_fitsIn_227 (xv_iret fL_fitsIn_229 rfl (narrow_bi _) (xv_eq_I (by rw [hfw]) rfl))
    · exact absurd h_1 (nI_ne0 hN0 (by omega))
  · obtain ⟨vv, v1, v2, v3, v4, v5, v6, v7, v8⟩ := pv_f hW (i := 1) (by decide) hz1
    refine xv_il3 fL_fitsIn_0 ?_
    refine xv_if_ne fL_fitsIn_1 (fun h_1 => ?_) (fun h_1 => ?_)
    · refine xv_il1 fL_fitsIn_20 ?_
      refine xv_k fL_fitsIn_21 ?_
      refine xv_idiv fL_fitsIn_24 (by decide) ?_
      refine xv_eqi (y := nI d) (by rw [nI_div hV2 (by decide), hV]) ?_
      refine xv_is4 fL_fitsIn_25 ?_
      refine xv_il4 fL_fitsIn_27 ?_
      refine xv_callS1R (c_lawLines n c I J hD (by omega)) fL_fitsIn_29 YL_lines VL_lines lL_126 rfl (Nat.le_of_ble_eq_true rfl) (by decide) (by decide) (by decide) ?_
      refine xv_is5 fL_fitsIn_32 ?_
      refine xv_al0 fL_fitsIn_34 ?_
      refine xv_il2 fL_fitsIn_35 ?_
      refine xv_k fL_fitsIn_36 ?_
      refine xv_callV2R (p_partW n c I J hs hs2 hW (i := 0) (by decide)) fL_fitsIn_37 YX10_part VX10_part lL_50 rfl rfl (sx_0 _ _) (Nat.le_of_ble_eq_true rfl) (by decide) (by decide) (by decide) ?_
      refine xv_k fL_fitsIn_40 ?_
      refine xv_irem fL_fitsIn_42 (by decide) ?_
      refine xv_eqi (y := nI (sz 0)) (by rw [w2, nI_rem w1 (by decide), w4]) ?_
      refine xv_is6 fL_fitsIn_43 ?_
      refine xv_al0 fL_fitsIn_45 ?_
      refine xv_il2 fL_fitsIn_46 ?_
      refine xv_k fL_fitsIn_47 ?_
      refine xv_callV2R (p_partW n c I J hs hs2 hW (i := 1) (by decide)) fL_fitsIn_48 YX10_part VX10_part lL_50 rfl rfl (sx_0 _ _) (Nat.le_of_ble_eq_true rfl) (by decide) (by decide) (by decide) ?_
      refine xv_if_ge fL_fitsIn_51 (fun h_51 => ?_) (fun h_51 => ?_)
      · refine xv_al0 fL_fitsIn_58 ?_
        refine xv_il2 fL_fitsIn_59 ?_
        refine xv_k fL_fitsIn_60 ?_
        refine xv_callV2R (p_partW n c I J hs hs2 hW (i := 1) (by decide)) fL_fitsIn_61 YX10_part VX10_part lL_50 rfl rfl (sx_0 _ _) (Nat.le_of_ble_eq_true rfl) (by decide) (by decide) (by decide) ?_
        refine xv_k fL_fitsIn_64 ?_
        refine xv_irem fL_fitsIn_66 (by decide) ?_
        refine xv_eqi (y := nI (sz 1)) (by rw [v2, nI_rem v1 (by decide), v4]) ?_
        refine xv_is7 fL_fitsIn_67 ?_
        refine xv_k fL_fitsIn_69 ?_
        refine xv_is8 fL_fitsIn_70 ?_
        refine xv_k fL_fitsIn_72 ?_
        refine xv_is9 fL_fitsIn_73 ?_
        refine l_fit2 n c I J hd hnp hN z0 z1 (fun l9 l10 l11 l12 l13 => ?_) N 1 _ _ _ _ _ (by omega) (Nat.le_refl _) (bi_f (fun ⟨q, a1, a2, _⟩ => by omega)).symm
        exact xv_il8 fL_fitsIn_227 (xv_iret fL_fitsIn_229 rfl (narrow_bi _) (xv_eq_I (by rw [hfw]) rfl))
      · exact absurd (by rw [v2]; exact nI_pos' v1) h_51
    · exact absurd h_1 (nI_ne0 hN0 (by omega))

theorem c_fits0 (n : Nat) (c : Nat × Nat) (I : xv_I) (J : xv_J) {V a : Nat} {pg st sz : Nat → Nat} (hs : a < c.2) (hs2 : a < 20) (hW : xWy I (201 + 5 * a) pg st sz) (hz : sz 0 = 0) : xv_Met mL_fitsIn 9 48 384 (sx n c) I (rx c) J [.ref 0, .int (nI V), .int (nI a), .int (nI 0)] (xv_eq (.inl (some (.int (nI 1)))) (sx n c) (I) (rx c) J) := by
  refine xv_Met.of (by decide +kernel) (Nat.le_of_ble_eq_true rfl) (List.forall_mem_cons.mpr ⟨rfl, List.forall_mem_cons.mpr ⟨rfl, List.forall_mem_cons.mpr ⟨rfl, List.forall_mem_cons.mpr ⟨rfl, fun _ h => nomatch h⟩⟩⟩⟩) ?_
  show xv_W mL_fitsIn 9 48 384 _ 48 384 (sx n c) I (rx c) J 0 [some (.ref 0), some (.int (nI V)), some (.int (nI a)), some (.int (nI 0)), none, none, none, none, none, none, none, none, none, none] []
  refine xv_il3 fL_fitsIn_0 ?_
  refine xv_if_ne fL_fitsIn_1 (fun h_1 => ?_) (fun h_1 => ?_)
  · exact absurd h_1 (by decide)
  · refine xv_al0 fL_fitsIn_4 ?_
    refine xv_il2 fL_fitsIn_5 ?_
    refine xv_k fL_fitsIn_6 ?_
    refine xv_callV2R (p_partW n c I J hs hs2 hW (i := 0) (by decide)) fL_fitsIn_7 YX10_part VX10_part lL_50 rfl rfl (sx_0 _ _) (Nat.le_of_ble_eq_true rfl) (by decide) (by decide) (by decide) ?_
    refine xv_k fL_fitsIn_10 ?_
    refine xv_ic_ne fL_fitsIn_11 (fun h_11 => ?_) (fun h_11 => ?_)
    · exact absurd (pv_n hz) h_11
    · refine xv_k fL_fitsIn_14 ?_
      refine xv_goto fL_fitsIn_15 ?_
      exact xv_iret fL_fitsIn_19 rfl (by decide) xv_eq_i
theorem l_laid (n : Nat) (c : Nat × Nat) (I : xv_I) (J : xv_J) {a d np sh : Nat} {pg st sz : Nat → Nat} (hs : a < c.2) (hs2 : a < 20) (hD : Dg np d) (hd : d ≤ 999999) (hnp : np ≤ 6) (hsh : sh ≤ np) (hsh0 : 0 < sh) (hW : xWy I (201 + 5 * a) pg st sz) (hz : 0 < sz 0) (hf : fitW d np sh sz) (hno : ∀ N, sh < N → N ≤ np → ¬ fitW d np N sz) {MC MS : Nat} : ∀ (u kc ks : Nat), sh + u ≤ np → 48 * (u + 1) ≤ kc → 384 * (u + 1) ≤ ks → xv_W mL_laid 10 MC MS (xv_eq (.inl (some (.int (nI sh)))) (sx n c) (I) (rx c) J) kc ks (sx n c) I (rx c) J 5 (some (.ref 0) :: some (.int (nI d)) :: some (.int (nI a)) :: some (.int (nI (sh + u))) :: []) [] := by
  intro u
  induction u with
  | zero =>
    intro kc ks hu hkc hks
    show xv_W mL_laid 10 MC MS _ kc ks (sx n c) I (rx c) J 5 (some (.ref 0) :: some (.int (nI d)) :: some (.int (nI a)) :: some (.int (nI sh)) :: []) []
    refine xv_il3 fL_laid_5 ?_
    refine xv_if_le fL_laid_6 (fun h_6 => ?_) (fun h_6 => ?_)
    · exact absurd h_6 (nI_nle (by omega) (by omega))
    · refine xv_al0 fL_laid_9 ?_
      refine xv_k fL_laid_10 ?_
      refine xv_il1 fL_laid_13 ?_
      refine xv_imul fL_laid_14 ?_
      refine xv_eqi (y := nI (1000 * d)) (nI_mul _ _) ?_
      refine xv_il2 fL_laid_15 ?_
      refine xv_il3 fL_laid_16 ?_
      refine xv_callS4R (c_fitsIn n c I J hs hs2 hD hd hnp (N := sh) (by omega) (by omega) (by omega) (by omega) hW hz) fL_laid_17 YL_fitsIn VL_fitsIn lL_129 rfl (Nat.le_of_ble_eq_true rfl) (by decide) (by omega) (by omega) ?_
      refine xv_if_ne fL_laid_20 (fun h_20 => ?_) (fun h_20 => ?_)
      · refine xv_il3 fL_laid_29 ?_
        exact xv_iret fL_laid_30 rfl rfl xv_eq_i
      · exact absurd hf (bi_0 h_20)
  | succ u ih =>
    intro kc ks hu hkc hks
    show xv_W mL_laid 10 MC MS _ kc ks (sx n c) I (rx c) J 5 (some (.ref 0) :: some (.int (nI d)) :: some (.int (nI a)) :: some (.int (nI (sh + u + 1))) :: []) []
    refine xv_il3 fL_laid_5 ?_
    refine xv_if_le fL_laid_6 (fun h_6 => ?_) (fun h_6 => ?_)
    · exact absurd h_6 (nI_nle (by omega) (by omega))
    · refine xv_al0 fL_laid_9 ?_
      refine xv_k fL_laid_10 ?_
      refine xv_il1 fL_laid_13 ?_
      refine xv_imul fL_laid_14 ?_
      refine xv_eqi (y := nI (1000 * d)) (nI_mul _ _) ?_
      refine xv_il2 fL_laid_15 ?_
      refine xv_il3 fL_laid_16 ?_
      refine xv_callS4R (c_fitsIn n c I J hs hs2 hD hd hnp (N := (sh + u + 1)) (by omega) (by omega) (by omega) (by omega) hW hz) fL_laid_17 YL_fitsIn VL_fitsIn lL_129 rfl (Nat.le_of_ble_eq_true rfl) (by decide) (by omega) (by omega) ?_
      refine xv_if_ne fL_laid_20 (fun h_20 => ?_) (fun h_20 => ?_)
      · exact absurd (bi_1 h_20) (hno _ (by omega) (by omega))
      · refine xv_iincD3 fL_laid_23 (by omega) ?_
        refine xv_goto fL_laid_26 ?_
        exact ih _ _ (by omega) (by omega) (by omega)

theorem c_laid (n : Nat) (c : Nat × Nat) (I : xv_I) (J : xv_J) {a d np sh : Nat} {pg st sz : Nat → Nat} (hs : a < c.2) (hs2 : a < 20) (hD : Dg np d) (hd : d ≤ 999999) (hnp : np ≤ 6) (hsh : sh ≤ np) (hsh0 : 0 < sh) (hW : xWy I (201 + 5 * a) pg st sz) (hz : 0 < sz 0) (hf : fitW d np sh sz) (hno : ∀ N, sh < N → N ≤ np → ¬ fitW d np N sz) : xv_Met mL_laid 10 288 2304 (sx n c) I (rx c) J [.ref 0, .int (nI d), .int (nI a)] (xv_eq (.inl (some (.int (nI sh)))) (sx n c) (I) (rx c) J) := by
  refine xv_Met.of (by decide +kernel) (Nat.le_of_ble_eq_true rfl) (List.forall_mem_cons.mpr ⟨rfl, List.forall_mem_cons.mpr ⟨rfl, List.forall_mem_cons.mpr ⟨rfl, fun _ h => nomatch h⟩⟩⟩) ?_
  show xv_W mL_laid 10 288 2304 _ 288 2304 (sx n c) I (rx c) J 0 [some (.ref 0), some (.int (nI d)), some (.int (nI a)), none] []
  refine xv_il1 fL_laid_0 ?_
  refine xv_callS1R (c_lawLines n c I J hD (by omega)) fL_laid_1 YL_lines VL_lines lL_126 rfl (Nat.le_of_ble_eq_true rfl) (by decide) (by decide) (by decide) ?_
  refine xv_is3 fL_laid_4 ?_
  rw [show nI np = nI (sh + (np - sh)) by rw [show sh + (np - sh) = np by omega]]
  exact l_laid n c I J hs hs2 hD hd hnp hsh hsh0 hW hz hf hno (MC := 288) (MS := 2304) (np - sh) 288 2304 (by omega) (by omega) (by omega)
