/-- how many -/
noncomputable def cn (P : Nat → Prop) : Nat → Nat
  | 0 => 0
  | n + 1 => cn P n + iteP (P n) 1 0
theorem cn_cg {P Q : Nat → Prop} : ∀ {n : Nat}, (∀ k, k < n → (P k ↔ Q k)) → cn P n = cn Q n
  | 0, _ => rfl
  | n + 1, h => by rw [cn, cn, cn_cg fun k hk => h k (by omega), iteP_iff (h n (by omega))]
theorem cn_or {P Q : Nat → Prop} : ∀ {n : Nat}, (∀ k, k < n → ¬ (P k ∧ Q k)) → cn (fun k => P k ∨ Q k) n = cn P n + cn Q n
  | 0, _ => rfl
  | n + 1, h => by
    rw [cn, cn, cn, cn_or fun k hk => h k (by omega)]
    by_cases h1 : P n
    · rw [iteP_t (Or.inl h1), iteP_t h1, iteP_f fun h2 => h n (by omega) ⟨h1, h2⟩]
      omega
    · by_cases h2 : Q n
      · rw [iteP_t (Or.inr h2), iteP_f h1, iteP_t h2]
        omega
      · rw [iteP_f (fun q => q.elim h1 h2), iteP_f h1, iteP_f h2]
        omega
theorem cn_no {P : Nat → Prop} : ∀ {n : Nat}, (∀ k, k < n → ¬ P k) → cn P n = 0
  | 0, _ => rfl
  | n + 1, h => by rw [cn, cn_no fun k hk => h k (by omega), iteP_f (h n (by omega))]
theorem it_last {α : Type} (f : Nat → α → α) (m k : Nat) (s : α) : it f (m + 1) k s = f (k + m) (it f m k s) := by
  rw [it_add f m 1 k s]
  rfl
theorem xCl_ok {I : xv_I} {p : Nat} (hp : p < 10) : ∀ m, m ≤ 12 → (it (xCl1 p) m 0 (0, I)).1 = cn (fun k => ¬ I (3 + p) k < nI 300) m ∧ cC I (it (xCl1 p) m 0 (0, I)).2 (fun q j => q = p ∧ j < m ∧ ¬ I (3 + p) j < nI 300) (nI 0)
  | 0, _ => ⟨rfl, (cC.nil I _).cg fun q _ j _ => ⟨False.elim, fun r => absurd r.2.1 (Nat.not_lt_zero _)⟩⟩
  | m + 1, hm => by
    obtain ⟨h1, h2⟩ := xCl_ok hp m (by omega)
    rw [it_last, Nat.zero_add]
    obtain e : (it (xCl1 p) m 0 (0, I)).2 (3 + p) m = I (3 + p) m := (h2.1 p hp m (by omega)).2 fun r => Nat.lt_irrefl _ r.2.1
    rw [show ∀ s, xCl1 p m s = (if s.2 (3 + p) m < nI 300 then s else (s.1 + 1, xPut s.2 p m (nI 0))) from fun _ => rfl, e, cn]
    by_cases g : I (3 + p) m < nI 300
    · rw [if_pos g, iteP_f (fun r => r g)]
      refine ⟨h1, h2.cg fun q _ j _ => ⟨fun r => ⟨r.1, by omega, r.2.2⟩, fun r => ⟨r.1, ?_, r.2.2⟩⟩⟩
      rcases Nat.lt_or_ge j m with s | s
      · exact s
      · obtain rfl : j = m := by omega
        exact absurd g r.2.2
    · rw [if_neg g, iteP_t g]
      refine ⟨congrArg (· + 1) h1, (h2.put hp (by omega)).cg fun q _ j _ => ⟨fun r => ?_, fun r => ?_⟩⟩
      · rcases r with r | r
        · exact ⟨r.1, by omega, r.2.2⟩
        · exact ⟨r.1, by omega, by rw [r.2]; exact g⟩
      · rcases Nat.lt_or_ge j m with s | s
        · exact Or.inl ⟨r.1, s, r.2.2⟩
        · exact Or.inr ⟨r.1, by omega⟩
theorem clr_1 {K : xv_I} {p : Nat} {y : Int32} : ∀ m, (it (mClr1 p y) m 0 (0, K)).1 = cn (fun k => K 63 (12 * p + k) = y) m ∧ ∀ j, m ≤ j → (it (mClr1 p y) m 0 (0, K)).2 63 (12 * p + j) = K 63 (12 * p + j)
  | 0 => ⟨rfl, fun _ _ => rfl⟩
  | m + 1 => by
    obtain ⟨h1, h2⟩ := clr_1 (K := K) (p := p) (y := y) m
    rw [it_last, Nat.zero_add]
    rw [show ∀ s, mClr1 p y m s = (if s.2 63 (12 * p + m) = y then (s.1 + 1, mPut s.2 p m (nI 0)) else s) from fun _ => rfl, h2 m (Nat.le_refl _), cn]
    by_cases g : K 63 (12 * p + m) = y
    · rw [if_pos g, iteP_t g]
      refine ⟨congrArg (· + 1) h1, fun j hj => ?_⟩
      show mPut _ p m (nI 0) 63 (12 * p + j) = _
      rw [← h2 j (by omega)]
      unfold mPut
      split
      · rfl
      · rw [mPut1_at, if_neg (by omega), if_neg (by omega), if_neg (by omega)]
    · rw [if_neg g, iteP_f g]
      exact ⟨h1, fun j hj => h2 j (by omega)⟩
theorem clr_c {K : xv_I} {p : Nat} {y : Int32} : (mClr p y K).1 = cn (fun k => K 63 (12 * p + k) = y) 12 := by
  unfold mClr
  exact (clr_1 12).1
theorem mCln_step {K : xv_I} {p w : Nat} {s9 : Nat × xv_I} (hp : p < 10) (hw : w < 20) (h1 : s9.1 = cn (fun k => ∃ s, s < w ∧ K 63 (12 * p + k) = nI (300 + s)) 12) (h2 : mC K s9.2 (fun q j => q = p ∧ ∃ s, s < w ∧ K 63 (12 * p + j) = nI (300 + s)) (nI 0)) : s9.1 + (mClr p (nI (300 + w)) s9.2).1 = cn (fun k => ∃ s, s < w + 1 ∧ K 63 (12 * p + k) = nI (300 + s)) 12 ∧ mC K (mClr p (nI (300 + w)) s9.2).2 (fun q j => q = p ∧ ∃ s, s < w + 1 ∧ K 63 (12 * p + j) = nI (300 + s)) (nI 0) := by
  have hne : ¬ nI 0 = nI (300 + w) := nI_ne2 (by omega) (by decide) (by omega)
  refine ⟨?_, (h2.clr hne hp).cg fun q _ j _ => ⟨fun r => ?_, fun r => ?_⟩⟩
  · have a1 : cn (fun k => s9.2 63 (12 * p + k) = nI (300 + w)) 12 = cn (fun k => K 63 (12 * p + k) = nI (300 + w)) 12 := cn_cg fun k hk => by
      by_cases g : ∃ s, s < w ∧ K 63 (12 * p + k) = nI (300 + s)
      · rw [(h2.1 p hp k hk).1 ⟨rfl, g⟩]
        obtain ⟨s, r1, r2⟩ := g
        exact ⟨fun r => absurd r hne, fun r => absurd (nI_inj2 (r2.symm.trans r) (by omega) (by omega)) (by omega)⟩
      · rw [(h2.1 p hp k hk).2 fun r => g r.2]
    have a2 : cn (fun k => (∃ s, s < w ∧ K 63 (12 * p + k) = nI (300 + s)) ∨ K 63 (12 * p + k) = nI (300 + w)) 12 = cn (fun k => ∃ s, s < w ∧ K 63 (12 * p + k) = nI (300 + s)) 12 + cn (fun k => K 63 (12 * p + k) = nI (300 + w)) 12 := cn_or fun k hk r => by
      obtain ⟨⟨s, r1, r2⟩, r3⟩ := r
      have := nI_inj2 (r2.symm.trans r3) (by omega) (by omega)
      omega
    rw [h1, clr_c, a1, ← a2]
    exact cn_cg fun k hk => ⟨fun r => by
      rcases r with ⟨s, r1, r2⟩ | r
      · exact ⟨s, by omega, r2⟩
      · exact ⟨w, by omega, r⟩, fun r => by
      obtain ⟨s, r1, r2⟩ := r
      rcases Nat.lt_or_ge s w with g | g
      · exact Or.inl ⟨s, g, r2⟩
      · obtain rfl : s = w := by omega
        exact Or.inr r2⟩
  · rcases r with r | r
    · obtain ⟨r0, s, r1, r2⟩ := r
      exact ⟨r0, s, by omega, r2⟩
    · exact ⟨r.1, w, by omega, r.2⟩
  · obtain ⟨r0, s, r1, r2⟩ := r
    rcases Nat.lt_or_ge s w with g | g
    · exact Or.inl ⟨r0, s, g, r2⟩
    · obtain rfl : s = w := by omega
      exact Or.inr ⟨r0, r2⟩
theorem mCln_ok {K : xv_I} {p : Nat} (hp : p < 10) (w : Nat) : w ≤ 20 → (it (mCln1 p) w 0 (0, K)).1 = cn (fun k => ∃ s, s < w ∧ K 63 (12 * p + k) = nI (300 + s)) 12 ∧ mC K (it (mCln1 p) w 0 (0, K)).2 (fun q j => q = p ∧ ∃ s, s < w ∧ K 63 (12 * p + j) = nI (300 + s)) (nI 0) := by
  induction w with
  | zero =>
    intro _
    refine ⟨?_, (mC.nil K _).cg fun q _ j _ => ⟨False.elim, fun ⟨_, s, h, _⟩ => absurd h (Nat.not_lt_zero _)⟩⟩
    rw [cn_no (n := 12) (P := fun k => ∃ s, s < 0 ∧ K 63 (12 * p + k) = nI (300 + s)) (fun k _ r => by
      obtain ⟨s, h, _⟩ := r
      omega)]
    rfl
  | succ w ih =>
    intro hw
    obtain ⟨h1, h2⟩ := ih (by omega)
    obtain t := mCln_step hp (by omega) h1 h2
    rw [it_last, Nat.zero_add]
    generalize it (mCln1 p) w 0 (0, K) = s9 at t ⊢
    unfold mCln1
    generalize mClr p (nI (300 + w)) s9.2 = s8 at t ⊢
    exact t
theorem xCl_12 {I : xv_I} {p : Nat} (hp : p < 10) : (xCl p I).1 = cn (fun k => ¬ I (3 + p) k < nI 300) 12 ∧ cC I (xCl p I).2 (fun q j => q = p ∧ j < 12 ∧ ¬ I (3 + p) j < nI 300) (nI 0) := by
  unfold xCl
  exact xCl_ok hp 12 (Nat.le_refl _)
theorem mCln_w {K : xv_I} {p w : Nat} (hp : p < 10) (hw : w ≤ 20) : (mCln p w K).1 = cn (fun k => ∃ s, s < w ∧ K 63 (12 * p + k) = nI (300 + s)) 12 ∧ mC K (mCln p w K).2 (fun q j => q = p ∧ ∃ s, s < w ∧ K 63 (12 * p + j) = nI (300 + s)) (nI 0) := by
  unfold mCln
  exact mCln_ok hp w hw
theorem cor_cell {c : Nat × Nat} {x : Int32} (h1 : c.1 ≤ 20) (h2 : c.2 ≤ 20) (h : ∃ v, okCell c v ∧ x = nI v) : ¬ x < nI 300 ↔ ∃ s, s < c.2 ∧ x = nI (300 + s) := by
  obtain ⟨v, g1, rfl⟩ := h
  have := g1.lt h1 h2
  rw [nI_lt2 (by omega) (by decide)]
  unfold okCell at g1
  constructor
  · intro q
    refine ⟨v - 300, by omega, ?_⟩
    rw [show 300 + (v - 300) = v by omega]
  · rintro ⟨s, q1, q2⟩
    have := nI_inj2 q2 (by omega) (by omega)
    omega
theorem armok_21 (n : Nat) : Arm n 21 := fun MC MS Q c I J kc ks i l5 l6 hi hn hI hkc hks hk => by
  obtain ⟨s1, s2, s3, s4⟩ := hI.st
  obtain ad3 := hI.ad.2.2.1
  rcases rg_or 10 (by decide) (by decide) (I 99 (i + 1)) with ⟨p, hp, e1⟩ | ⟨b1, b2, b3⟩
  · obtain P1 := w_clean_ok n c c J (p_clean_ok n c I J hp)
    obtain ⟨c1, C1⟩ := xCl_12 (I := I) hp
    rw [c1] at P1
    generalize (xCl p I).2 = I1 at P1 C1
    obtain E1 : ∀ v i, (v < 3 ∨ 13 ≤ v) → v ≠ 15 → (v ≠ 1 ∨ i ≠ 6) → I1 v i = I v i := C1.2.2.2
    obtain EK : ∀ v i, (v < 3 ∨ 13 ≤ v) → v ≠ 15 → (v ≠ 1 ∨ i ≠ 6) → (v ≠ 60 ∨ i ≠ 48) → xv_u I1 60 48 (nI 0) v i = I v i := fun v i h1 h2 h3 h4 => by
      rw [show xv_u I1 60 48 (nI 0) v i = I1 v i from if_neg (by omega)]
      exact E1 v i h1 h2 h3
    obtain P2 := m_clean_ok n c I1 (xv_u J 98 0 (nI (cn (fun k => ¬ I (3 + p) k < nI 300) 12)).toInt64) hp s3 ((E1 60 13 (by omega) (by omega) (by omega)).trans s2)
    obtain ⟨c2, C2⟩ := mCln_w (K := xv_u I1 60 48 (nI 0)) hp s3
    obtain hiff : ∀ k, k < 12 → (¬ I (3 + p) k < nI 300 ↔ ∃ s, s < c.2 ∧ xv_u I1 60 48 (nI 0) 63 (12 * p + k) = nI (300 + s)) := fun k hk => by
      rw [EK 63 _ (by omega) (by omega) (by omega) (by omega), ← (hI.cell p hp k hk).1]
      exact cor_cell ad3 s3 (hI.cell p hp k hk).2
    rw [c2, ← cn_cg hiff] at P2
    generalize (mCln p c.2 (xv_u I1 60 48 (nI 0))).2 = I2 at P2 C2
    obtain C2' := C2.cg (T := fun q j => q = p ∧ j < 12 ∧ ¬ I (3 + p) j < nI 300) (fun q _ j hj => ⟨fun r => ⟨r.1, hj, (hiff j hj).mpr r.2⟩, fun r => ⟨r.1, (hiff j hj).mp r.2.2⟩⟩)
    obtain CP := (((cpl.of hI).to (I' := I) (K' := xv_u I1 60 48 (nI 0)) (fun _ _ _ => rfl) (fun v j h => EK v j (by omega) (by omega) (by omega) (by omega))).step C1 C2')
    obtain E3 : ∀ v j, v ≠ 63 → v ≠ 81 → (v ≠ 60 ∨ (j ≠ 3 ∧ j ≠ 48)) → I2 v j = I1 v j := fun v j h1 h2 h3 => by
      rw [C2.2.2.2 v j h1 h2 (by omega)]
      exact if_neg (by omega)
    obtain E4 : ∀ v j, v ≠ 63 → v ≠ 81 → (v ≠ 60 ∨ (j ≠ 3 ∧ j ≠ 48)) → (v < 3 ∨ 13 ≤ v) → v ≠ 15 → (v ≠ 1 ∨ j ≠ 6) → I2 v j = I v j := fun v j h1 h2 h3 h6 h7 h8 => (E3 v j h1 h2 h3).trans (E1 v j h6 h7 h8)
    obtain CP2 : cpl I2 I2 := CP.to (fun v j h => E3 v j (by omega) (by omega) (by omega)) (fun v j h => rfl)
    obtain MK : ∀ y : Nat, 100 ≤ y → y < 300 → ∀ u, u < 10 → ∀ k, k < 12 → (I2 (3 + u) k = nI y ↔ I (3 + u) k = nI y) := fun y h1 h2 q hq k hk => by
      rw [E3 _ _ (by omega) (by omega) (by omega)]
      exact C1.mark (nI_ne2 (by omega) (by decide) (by omega)) (fun q _ j _ s r => s.2.2 (by rw [← s.1, r]; exact (nI_lt2 (by omega) (by decide)).mpr h2)) q hq k hk
    refine arm_21 (dX := 8) (I1 := I1) (I2 := I2) hi hn (by decide) (fun j => E1 _ _ (by omega) (by omega) (by omega)) (by rw [e1]; exact P1) (by rw [e1]; exact P2) (by rw [C2.2.2.2 _ _ (by decide) (by decide) (by decide), xv_u_eq]) (fun _ => by rw [xv_u_eq]) hkc hks (fun l5 l6 => ?_)
    refine @hk c _ _ l5 l6 (Inv.set_puts hI (CP2.cell ?_) CP2.touch CP2.2.2 (hI.ad.cells (fun v j h => E4 v j (by omega) (by omega) (by omega) (by omega) (by omega) (by omega)) (fun b hb => MK _ (by omega) (by omega))) (hI.st.cells (fun v j h => E4 v j (by omega) (by omega) (by omega) (by omega) (by omega) (by omega)) (fun b hb => MK _ (by omega) (by omega))) ?_)
    · intro q hq k hk9
      rw [E3 _ _ (by omega) (by omega) (by omega)]
      exact C1.ok (fun q hq k hk => (hI.cell q hq k hk).2) (Or.inl rfl) q hq k hk9
    · intro v j h1 h2 h3 h4 h5
      exact E4 v j (by omega) (by omega) (by omega) (by omega) (by omega) (by omega)
  · exact arm_21 (dX := 8) (I1 := I) (I2 := xv_u I 60 48 (nI 1)) (out := nI 0) hi hn (by decide) (fun _ => rfl) (w_clean_I n c c J (p_clean_a n c I J b1)) (m_clean_a n c _ _ b2) (xv_u_eq _ _ _ _) (fun q => absurd q (by decide)) hkc hks (fun l5 l6 => by exact hk c _ _ l5 l6 (hI.to (by intro v j h1 h2 h3 h4; simp only [xv_u]; repeat rw [if_neg (by omega)])))
theorem gCell.mono {c c' : Nat × Nat} {I : xv_I} (h1 : c.1 ≤ c'.1) (h2 : c.2 ≤ c'.2) (h : gCell c I) : gCell c' I := fun p hp k hk => by
  obtain ⟨g1, v, g2, g3⟩ := h p hp k hk
  exact ⟨g1, v, by unfold okCell at g2 ⊢; omega, g3⟩
theorem gOwe.mono {c c' : Nat × Nat} {I : xv_I} (h2 : c.2 ≤ c'.2) (h : gOwe c I) : gOwe c' I := by
  obtain ⟨w, g1, g2, g3, g4⟩ := h
  refine ⟨w, g1, g2, g3, fun j hj => ?_⟩
  obtain ⟨q1, s, q2, q3⟩ := g4 j hj
  exact ⟨q1, s, by omega, q3⟩
theorem okR_nat2 {lo hi : Nat} {x : Int32} (h : okR lo hi x) (h2 : hi < 2 ^ 31) (h3 : lo < 2 ^ 31) : ∃ k, lo ≤ k ∧ k ≤ hi ∧ x = nI k := by
  obtain ⟨k, h4, rfl⟩ := okR_nat h ⟨h2, h3⟩
  have := h.1
  rw [nI_lt2 (by omega) h3] at this
  exact ⟨k, by omega, by omega, rfl⟩
theorem m1_or {x : Int32} {k : Nat} (h : ¬ x < -1 ∧ x ≤ nI k) (hk : k < 2 ^ 31) : x = -1 ∨ ∃ z, z < k + 1 ∧ x = nI z := by
  obtain ⟨h1, h2⟩ := h
  rcases nI_or x with g | ⟨z, g1, rfl⟩
  · refine Or.inl ((fa_eq _ _).mpr ?_)
    rw [fa_lt] at g h1
    have e0 : (0 : Int32).toInt = 0 := by decide
    have e1 : (-1 : Int32).toInt = -1 := by decide
    omega
  · rw [fa_le, nI_toInt g1, nI_toInt hk] at h2
    exact Or.inr ⟨z, by omega, rfl⟩
theorem Inv.set_adv {c : Nat × Nat} {I I' : xv_I} (h : Inv c I) (gad : gAd (c.1 + 1, c.2) I') (h2 : ∀ v j, (v < 20 ∨ 28 < v) → v < 300 → (v < 94 ∨ 99 < v) → (v ≠ 60 ∨ (j ≠ 43 ∧ j ≠ 47 ∧ j ≠ 48)) → ¬ ((v = 0 ∧ j = 3) ∨ (v = 60 ∧ j = 5) ∨ (100 ≤ v ∧ v < 120) ∨ (65 ≤ v ∧ v ≤ 71)) → I' v j = I v j) : Inv (c.1 + 1, c.2) I' :=
  ⟨h.page.to fun v j hv => h2 v j (by omega) (by omega) (by omega) (by omega) (by omega),
   gCell.mono (c := c) (by exact Nat.le_succ _) (by exact Nat.le_refl _) (h.cell.to fun v j hv => h2 v j (by omega) (by omega) (by omega) (by omega) (by omega)),
   h.touch.to fun v j hv => h2 v j (by omega) (by omega) (by omega) (by omega) (by omega),
   h.sign.to fun v j hv => h2 v j (by omega) (by omega) (by omega) (by omega) (by omega),
   h.hold.to fun v j hv => h2 v j (by omega) (by omega) (by omega) (by omega) (by omega),
   h.here.to fun v j hv => h2 v j (by omega) (by omega) (by omega) (by omega) (by omega),
   h.dist.to fun v j hv => h2 v j (by omega) (by omega) (by omega) (by omega) (by omega),
   gad,
   h.st.to fun v j hv => h2 v j (by omega) (by omega) (by omega) (by omega) (by omega),
   h.ed.to fun v j hv => h2 v j (by omega) (by omega) (by omega) (by omega) (by omega),
   gOwe.mono (c := c) (by exact Nat.le_refl _) (h.owe.to fun v j hv => h2 v j (by omega) (by omega) (by omega) (by omega) (by omega)),
   h.min.to fun v j hv => h2 v j (by omega) (by omega) (by omega) (by omega) (by omega),
   h.tr.to fun v j hv => h2 v j (by omega) (by omega) (by omega) (by omega) (by omega),
   h.word.to fun v j hv => h2 v j (by omega) (by omega) (by omega) (by omega) (by omega),
   h.wei.to fun v j hv => h2 v j (by omega) (by omega) (by omega) (by omega) (by omega),
   h.wire.to fun v j hv => h2 v j (by omega) (by omega) (by omega) (by omega) (by omega),
   h.puz.to fun v j hv => h2 v j (by omega) (by omega) (by omega) (by omega) (by omega),
   h.new.to fun v j hv => h2 v j (by omega) (by omega) (by omega) (by omega) (by omega)⟩
theorem Inv.set_sty {c : Nat × Nat} {I I' : xv_I} (h : Inv c I) (gst : gSt (c.1, c.2 + 1) I') (gnew : gNew (c.1, c.2 + 1) I') (h2 : ∀ v j, (v < 20 ∨ 28 < v) → v < 300 → (v < 94 ∨ 99 < v) → (v ≠ 60 ∨ (j ≠ 43 ∧ j ≠ 47 ∧ j ≠ 48)) → ¬ ((v = 0 ∧ j = 5) ∨ (v = 60 ∧ j = 13) ∨ (200 ≤ v ∧ v < 300) ∨ (72 ≤ v ∧ v ≤ 79)) → I' v j = I v j) : Inv (c.1, c.2 + 1) I' :=
  ⟨h.page.to fun v j hv => h2 v j (by omega) (by omega) (by omega) (by omega) (by omega),
   gCell.mono (c := c) (by exact Nat.le_refl _) (by exact Nat.le_succ _) (h.cell.to fun v j hv => h2 v j (by omega) (by omega) (by omega) (by omega) (by omega)),
   h.touch.to fun v j hv => h2 v j (by omega) (by omega) (by omega) (by omega) (by omega),
   h.sign.to fun v j hv => h2 v j (by omega) (by omega) (by omega) (by omega) (by omega),
   h.hold.to fun v j hv => h2 v j (by omega) (by omega) (by omega) (by omega) (by omega),
   h.here.to fun v j hv => h2 v j (by omega) (by omega) (by omega) (by omega) (by omega),
   h.dist.to fun v j hv => h2 v j (by omega) (by omega) (by omega) (by omega) (by omega),
   h.ad.to fun v j hv => h2 v j (by omega) (by omega) (by omega) (by omega) (by omega),
   gst,
   h.ed.to fun v j hv => h2 v j (by omega) (by omega) (by omega) (by omega) (by omega),
   gOwe.mono (c := c) (by exact Nat.le_succ _) (h.owe.to fun v j hv => h2 v j (by omega) (by omega) (by omega) (by omega) (by omega)),
   h.min.to fun v j hv => h2 v j (by omega) (by omega) (by omega) (by omega) (by omega),
   h.tr.to fun v j hv => h2 v j (by omega) (by omega) (by omega) (by omega) (by omega),
   h.word.to fun v j hv => h2 v j (by omega) (by omega) (by omega) (by omega) (by omega),
   h.wei.to fun v j hv => h2 v j (by omega) (by omega) (by omega) (by omega) (by omega),
   h.wire.to fun v j hv => h2 v j (by omega) (by omega) (by omega) (by omega) (by omega),
   h.puz.to fun v j hv => h2 v j (by omega) (by omega) (by omega) (by omega) (by omega),
   gnew⟩
theorem mAd_o {a : Nat} {x1 x2 x3 x4 x5 x6 : Int32} {I : xv_I} {v j : Nat} (h : (v < 65 ∨ 71 < v) ∨ j ≠ a) : mAd a x1 x2 x3 x4 x5 x6 I v j = I v j := by
  unfold mAd xv_u
  rw [if_neg (by omega), if_neg (by omega), if_neg (by omega), if_neg (by omega), if_neg (by omega), if_neg (by omega), if_neg (by omega)]
theorem mAd_s (a : Nat) (x1 x2 x3 x4 x5 x6 : Int32) (I : xv_I) : mAd a x1 x2 x3 x4 x5 x6 I 65 a = x1 ∧ mAd a x1 x2 x3 x4 x5 x6 I 66 a = x2 ∧ mAd a x1 x2 x3 x4 x5 x6 I 67 a = x3 ∧ mAd a x1 x2 x3 x4 x5 x6 I 68 a = x4 ∧ mAd a x1 x2 x3 x4 x5 x6 I 69 a = x5 ∧ mAd a x1 x2 x3 x4 x5 x6 I 70 a = x6 ∧ mAd a x1 x2 x3 x4 x5 x6 I 71 a = -1 := by
  simp [mAd, xv_u]
theorem xAd_s (b : Nat) (x1 x2 x3 x4 x5 x6 : Int32) (I : xv_I) : xAd b x1 x2 x3 x4 x5 x6 I b 0 = x1 ∧ xAd b x1 x2 x3 x4 x5 x6 I b 1 = x2 ∧ xAd b x1 x2 x3 x4 x5 x6 I b 2 = x3 ∧ xAd b x1 x2 x3 x4 x5 x6 I b 3 = x4 ∧ xAd b x1 x2 x3 x4 x5 x6 I b 4 = x5 ∧ xAd b x1 x2 x3 x4 x5 x6 I b 5 = x6 ∧ xAd b x1 x2 x3 x4 x5 x6 I b 6 = -1 := by
  simp [xAd, xv_u]
theorem cB_f (x : Int32) : fits .boolean (.int (cB x)) = true := by
  unfold cB
  split <;> decide
theorem no_mark {c : Nat × Nat} {I : xv_I} (h : gCell c I) (h1 : c.1 ≤ 20) (h2 : c.2 ≤ 20) {y : Nat} (hy : ¬ okCell c y) (hy2 : y < 400) : ∀ p, p < 10 → ∀ k, k < 12 → ¬ I (3 + p) k = nI y := fun p hp k hk q => by
  obtain ⟨-, v, g1, g2⟩ := h p hp k hk
  have := g1.lt h1 h2
  have := nI_inj2 (g2.symm.trans q) (by omega) (by omega)
  exact hy (by rw [← this]; exact g1)
theorem rng_x {x a b : Int32} (h : ¬ (¬ x < a ∧ x ≤ b)) : x < a ∨ ¬ x ≤ b := by
  by_cases g : x < a
  · exact Or.inl g
  · exact Or.inr fun q => h ⟨g, q⟩
theorem armok_4 (n : Nat) : Arm n 4 := fun MC MS Q c I J kc ks i l5 l6 hi hn hI hkc hks hk => by
  obtain ⟨g1, g2, g3, g4⟩ := hI.ad
  obtain st3 := hI.st.2.2.1
  by_cases h1 : okR 0 3 (I 99 (i + 1))
  · by_cases h2 : okR 1 3 (I 99 (i + 2))
    · by_cases h3 : okR 1 4 (I 99 (i + 3))
      · by_cases h4 : ¬ (I 99 (i + 5)) < -1 ∧ (I 99 (i + 5)) ≤ nI 3
        · by_cases h5 : ¬ (I 99 (i + 6)) < -1 ∧ (I 99 (i + 6)) ≤ nI 2
          · rcases Nat.lt_or_ge c.1 20 with hc | hc
            · obtain E1 : ∀ v j, v ≠ 100 + c.1 → (v ≠ 0 ∨ j ≠ 3) → (xv_u (xAd (100 + c.1) (I 99 (i + 1)) (I 99 (i + 2)) (I 99 (i + 3)) (cB (I 99 (i + 4))) (I 99 (i + 5)) (I 99 (i + 6)) (xv_z I (100 + c.1) 0)) 0 3 (nI (c.1 + 1))) v j = I v j := fun v j q1 q2 => (show (xv_u (xAd (100 + c.1) (I 99 (i + 1)) (I 99 (i + 2)) (I 99 (i + 3)) (cB (I 99 (i + 4))) (I 99 (i + 5)) (I 99 (i + 6)) (xv_z I (100 + c.1) 0)) 0 3 (nI (c.1 + 1))) v j = xAd (100 + c.1) (I 99 (i + 1)) (I 99 (i + 2)) (I 99 (i + 3)) (cB (I 99 (i + 4))) (I 99 (i + 5)) (I 99 (i + 6)) (xv_z I (100 + c.1) 0) v j from if_neg (by omega)).trans (xAd_o q1)
              obtain E2 : ∀ v j, v ≠ 100 + c.1 → (v ≠ 0 ∨ j ≠ 3) → ((v < 65 ∨ 71 < v) ∨ j ≠ c.1) → (v ≠ 60 ∨ (j ≠ 48 ∧ j ≠ 5)) → (xv_u (mAd c.1 (I 99 (i + 1)) (I 99 (i + 2)) (I 99 (i + 3)) (cB (I 99 (i + 4))) (I 99 (i + 5)) (I 99 (i + 6)) (xv_u (xv_u (xAd (100 + c.1) (I 99 (i + 1)) (I 99 (i + 2)) (I 99 (i + 3)) (cB (I 99 (i + 4))) (I 99 (i + 5)) (I 99 (i + 6)) (xv_z I (100 + c.1) 0)) 0 3 (nI (c.1 + 1))) 60 48 (nI 0))) 60 5 (nI (c.1 + 1))) v j = I v j := fun v j q1 q2 q3 q4 => (show (xv_u (mAd c.1 (I 99 (i + 1)) (I 99 (i + 2)) (I 99 (i + 3)) (cB (I 99 (i + 4))) (I 99 (i + 5)) (I 99 (i + 6)) (xv_u (xv_u (xAd (100 + c.1) (I 99 (i + 1)) (I 99 (i + 2)) (I 99 (i + 3)) (cB (I 99 (i + 4))) (I 99 (i + 5)) (I 99 (i + 6)) (xv_z I (100 + c.1) 0)) 0 3 (nI (c.1 + 1))) 60 48 (nI 0))) 60 5 (nI (c.1 + 1))) v j = mAd c.1 (I 99 (i + 1)) (I 99 (i + 2)) (I 99 (i + 3)) (cB (I 99 (i + 4))) (I 99 (i + 5)) (I 99 (i + 6)) (xv_u (xv_u (xAd (100 + c.1) (I 99 (i + 1)) (I 99 (i + 2)) (I 99 (i + 3)) (cB (I 99 (i + 4))) (I 99 (i + 5)) (I 99 (i + 6)) (xv_z I (100 + c.1) 0)) 0 3 (nI (c.1 + 1))) 60 48 (nI 0)) v j from if_neg (by omega)).trans ((mAd_o q3).trans ((show (xv_u (xv_u (xAd (100 + c.1) (I 99 (i + 1)) (I 99 (i + 2)) (I 99 (i + 3)) (cB (I 99 (i + 4))) (I 99 (i + 5)) (I 99 (i + 6)) (xv_z I (100 + c.1) 0)) 0 3 (nI (c.1 + 1))) 60 48 (nI 0)) v j = (xv_u (xAd (100 + c.1) (I 99 (i + 1)) (I 99 (i + 2)) (I 99 (i + 3)) (cB (I 99 (i + 4))) (I 99 (i + 5)) (I 99 (i + 6)) (xv_z I (100 + c.1) 0)) 0 3 (nI (c.1 + 1))) v j from if_neg (by omega)).trans (E1 v j q1 q2)))
              obtain Ea : ∀ j, (xv_u (mAd c.1 (I 99 (i + 1)) (I 99 (i + 2)) (I 99 (i + 3)) (cB (I 99 (i + 4))) (I 99 (i + 5)) (I 99 (i + 6)) (xv_u (xv_u (xAd (100 + c.1) (I 99 (i + 1)) (I 99 (i + 2)) (I 99 (i + 3)) (cB (I 99 (i + 4))) (I 99 (i + 5)) (I 99 (i + 6)) (xv_z I (100 + c.1) 0)) 0 3 (nI (c.1 + 1))) 60 48 (nI 0))) 60 5 (nI (c.1 + 1))) (100 + c.1) j = xAd (100 + c.1) (I 99 (i + 1)) (I 99 (i + 2)) (I 99 (i + 3)) (cB (I 99 (i + 4))) (I 99 (i + 5)) (I 99 (i + 6)) (xv_z I (100 + c.1) 0) (100 + c.1) j := fun j => (show (xv_u (mAd c.1 (I 99 (i + 1)) (I 99 (i + 2)) (I 99 (i + 3)) (cB (I 99 (i + 4))) (I 99 (i + 5)) (I 99 (i + 6)) (xv_u (xv_u (xAd (100 + c.1) (I 99 (i + 1)) (I 99 (i + 2)) (I 99 (i + 3)) (cB (I 99 (i + 4))) (I 99 (i + 5)) (I 99 (i + 6)) (xv_z I (100 + c.1) 0)) 0 3 (nI (c.1 + 1))) 60 48 (nI 0))) 60 5 (nI (c.1 + 1))) (100 + c.1) j = mAd c.1 (I 99 (i + 1)) (I 99 (i + 2)) (I 99 (i + 3)) (cB (I 99 (i + 4))) (I 99 (i + 5)) (I 99 (i + 6)) (xv_u (xv_u (xAd (100 + c.1) (I 99 (i + 1)) (I 99 (i + 2)) (I 99 (i + 3)) (cB (I 99 (i + 4))) (I 99 (i + 5)) (I 99 (i + 6)) (xv_z I (100 + c.1) 0)) 0 3 (nI (c.1 + 1))) 60 48 (nI 0)) (100 + c.1) j from if_neg (by omega)).trans ((mAd_o (Or.inl (Or.inr (by omega)))).trans ((show (xv_u (xv_u (xAd (100 + c.1) (I 99 (i + 1)) (I 99 (i + 2)) (I 99 (i + 3)) (cB (I 99 (i + 4))) (I 99 (i + 5)) (I 99 (i + 6)) (xv_z I (100 + c.1) 0)) 0 3 (nI (c.1 + 1))) 60 48 (nI 0)) (100 + c.1) j = (xv_u (xAd (100 + c.1) (I 99 (i + 1)) (I 99 (i + 2)) (I 99 (i + 3)) (cB (I 99 (i + 4))) (I 99 (i + 5)) (I 99 (i + 6)) (xv_z I (100 + c.1) 0)) 0 3 (nI (c.1 + 1))) (100 + c.1) j from if_neg (by omega)).trans (if_neg (by omega))))
              obtain Em : ∀ v, 65 ≤ v → v ≤ 71 → (xv_u (mAd c.1 (I 99 (i + 1)) (I 99 (i + 2)) (I 99 (i + 3)) (cB (I 99 (i + 4))) (I 99 (i + 5)) (I 99 (i + 6)) (xv_u (xv_u (xAd (100 + c.1) (I 99 (i + 1)) (I 99 (i + 2)) (I 99 (i + 3)) (cB (I 99 (i + 4))) (I 99 (i + 5)) (I 99 (i + 6)) (xv_z I (100 + c.1) 0)) 0 3 (nI (c.1 + 1))) 60 48 (nI 0))) 60 5 (nI (c.1 + 1))) v c.1 = mAd c.1 (I 99 (i + 1)) (I 99 (i + 2)) (I 99 (i + 3)) (cB (I 99 (i + 4))) (I 99 (i + 5)) (I 99 (i + 6)) (xv_u (xv_u (xAd (100 + c.1) (I 99 (i + 1)) (I 99 (i + 2)) (I 99 (i + 3)) (cB (I 99 (i + 4))) (I 99 (i + 5)) (I 99 (i + 6)) (xv_z I (100 + c.1) 0)) 0 3 (nI (c.1 + 1))) 60 48 (nI 0)) v c.1 := fun v q1 q2 => if_neg (by omega)
              refine arm_4 (dX := 6) (I1 := (xv_u (xAd (100 + c.1) (I 99 (i + 1)) (I 99 (i + 2)) (I 99 (i + 3)) (cB (I 99 (i + 4))) (I 99 (i + 5)) (I 99 (i + 6)) (xv_z I (100 + c.1) 0)) 0 3 (nI (c.1 + 1)))) (I2 := (xv_u (mAd c.1 (I 99 (i + 1)) (I 99 (i + 2)) (I 99 (i + 3)) (cB (I 99 (i + 4))) (I 99 (i + 5)) (I 99 (i + 6)) (xv_u (xv_u (xAd (100 + c.1) (I 99 (i + 1)) (I 99 (i + 2)) (I 99 (i + 3)) (cB (I 99 (i + 4))) (I 99 (i + 5)) (I 99 (i + 6)) (xv_z I (100 + c.1) 0)) 0 3 (nI (c.1 + 1))) 60 48 (nI 0))) 60 5 (nI (c.1 + 1)))) hi hn (by decide) (fun j => E1 _ _ (by omega) (by omega)) (w_advert_ok n c (c.1 + 1, c.2) J (p_advert_ok n c I J h1 h2 h3 h4 h5 ⟨cB_n _, cB_f _⟩ g1 hc)) (m_advert_ok9 n (c.1 + 1, c.2) _ _ h1 h2 h3 h4 h5 (cB_n _) (by rw [E1 _ _ (by omega) (by omega)]; exact g2) hc) (by rw [xv_u_nk _ _ _ (by decide), mAd_o (Or.inl (Or.inl (by decide))), xv_u_eq]) (fun _ => by rw [xv_u_eq]) hkc hks (fun l5 l6 => ?_)
              refine @hk (c.1 + 1, c.2) _ _ l5 l6 (Inv.set_adv hI ⟨?_, xv_u_eq _ _ _ _, hc, fun a ha => ?_⟩ ?_)
              · rw [xv_u_ne _ _ _ (by decide), mAd_o (Or.inl (Or.inl (by decide))), xv_u_ne _ _ _ (by decide), xv_u_eq]
              · rcases Nat.lt_or_ge a c.1 with q | q
                · obtain r := (g4 a q).cells (I' := (xv_u (mAd c.1 (I 99 (i + 1)) (I 99 (i + 2)) (I 99 (i + 3)) (cB (I 99 (i + 4))) (I 99 (i + 5)) (I 99 (i + 6)) (xv_u (xv_u (xAd (100 + c.1) (I 99 (i + 1)) (I 99 (i + 2)) (I 99 (i + 3)) (cB (I 99 (i + 4))) (I 99 (i + 5)) (I 99 (i + 6)) (xv_z I (100 + c.1) 0)) 0 3 (nI (c.1 + 1))) 60 48 (nI 0))) 60 5 (nI (c.1 + 1)))) (fun j => E2 _ _ (by omega) (by omega) (by omega) (by omega)) (fun v u1 u2 => E2 _ _ (by omega) (by omega) (by omega) (by omega)) (fun p hp k hk => by rw [E2 _ _ (by omega) (by omega) (by omega) (by omega)])
                  exact r
                · obtain rfl : a = c.1 := Nat.le_antisymm (Nat.le_of_lt_succ ha) q
                  obtain ⟨ct, u1, u2, u3⟩ := okR_nat2 h1 (by decide) (by decide)
                  obtain ⟨w, u4, u5, u6⟩ := okR_nat2 h2 (by decide) (by decide)
                  obtain ⟨h, u7, u8, u9⟩ := okR_nat2 h3 (by decide) (by decide)
                  obtain ⟨v0, v1, v2, v3, v4, v5, v6⟩ := xAd_s (100 + c.1) (I 99 (i + 1)) (I 99 (i + 2)) (I 99 (i + 3)) (cB (I 99 (i + 4))) (I 99 (i + 5)) (I 99 (i + 6)) (xv_z I (100 + c.1) 0)
                  obtain ⟨m0, m1, m2, m3, m4, m5, m6⟩ := mAd_s c.1 (I 99 (i + 1)) (I 99 (i + 2)) (I 99 (i + 3)) (cB (I 99 (i + 4))) (I 99 (i + 5)) (I 99 (i + 6)) (xv_u (xv_u (xAd (100 + c.1) (I 99 (i + 1)) (I 99 (i + 2)) (I 99 (i + 3)) (cB (I 99 (i + 4))) (I 99 (i + 5)) (I 99 (i + 6)) (xv_z I (100 + c.1) 0)) 0 3 (nI (c.1 + 1))) 60 48 (nI 0))
                  refine ⟨ct, w, h, by omega, ⟨u4, u5⟩, ⟨u7, u8⟩, ?_⟩
                  rw [Ea, Ea, Ea, Ea, Ea, Ea, Ea, v0, v1, v2, v3, v4, v5, v6, Em 65 (by decide) (by decide), Em 66 (by decide) (by decide), Em 67 (by decide) (by decide), Em 68 (by decide) (by decide), Em 69 (by decide) (by decide), Em 70 (by decide) (by decide), Em 71 (by decide) (by decide), m0, m1, m2, m3, m4, m5, m6]
                  refine ⟨u3, u3, u6, u6, u9, u9, rfl, rfl, rfl, m1_or h5 (by decide), Or.inl ⟨rfl, rfl, fun p hp k hk => ?_⟩⟩
                  rw [E2 _ _ (by omega) (by omega) (by omega) (by omega)]
                  exact no_mark hI.cell g3 st3 (by unfold okCell; omega) (by omega) p hp k hk
              · intro v j q1 q2 q3 q4 q5
                exact E2 v j (by omega) (by omega) (by omega) (by omega)
            · obtain hc2 : c.1 = 20 := by omega
              exact arm_4 (dX := 6) (I1 := I) (I2 := xv_u I 60 48 (nI 2)) (out := nI 0) hi hn (by decide) (fun _ => rfl) (w_advert_S n c c J (p_advert_f n c I J h1 h2 h3 h4 h5 (by rw [g1, hc2]))) (m_advert_f n c _ _ h1 h2 h3 h4 h5 (by rw [g2, hc2])) (xv_u_eq _ _ _ _) (fun q => absurd q (by decide)) hkc hks (fun l5 l6 => by exact hk c _ _ l5 l6 (hI.to (by intro v j h1 h2 h3 h4; simp only [xv_u]; repeat rw [if_neg (by omega)])))
          · exact arm_4 (dX := 6) (I1 := I) (I2 := xv_u I 60 48 (nI 1)) (out := nI 0) hi hn (by decide) (fun _ => rfl) (w_advert_A n c c J (p_advert_e n c I J h1 h2 h3 h4 (rng_x h5))) (m_advert_e n c _ _ h1 h2 h3 h4 (rng_x h5)) (xv_u_eq _ _ _ _) (fun q => absurd q (by decide)) hkc hks (fun l5 l6 => by exact hk c _ _ l5 l6 (hI.to (by intro v j h1 h2 h3 h4; simp only [xv_u]; repeat rw [if_neg (by omega)])))
        · exact arm_4 (dX := 6) (I1 := I) (I2 := xv_u I 60 48 (nI 1)) (out := nI 0) hi hn (by decide) (fun _ => rfl) (w_advert_A n c c J (p_advert_d n c I J h1 h2 h3 (rng_x h4))) (m_advert_d n c _ _ h1 h2 h3 (rng_x h4)) (xv_u_eq _ _ _ _) (fun q => absurd q (by decide)) hkc hks (fun l5 l6 => by exact hk c _ _ l5 l6 (hI.to (by intro v j h1 h2 h3 h4; simp only [xv_u]; repeat rw [if_neg (by omega)])))
      · exact arm_4 (dX := 6) (I1 := I) (I2 := xv_u I 60 48 (nI 1)) (out := nI 0) hi hn (by decide) (fun _ => rfl) (w_advert_A n c c J (p_advert_c n c I J h1 h2 h3)) (m_advert_c n c _ _ h1 h2 (okR_x h3)) (xv_u_eq _ _ _ _) (fun q => absurd q (by decide)) hkc hks (fun l5 l6 => by exact hk c _ _ l5 l6 (hI.to (by intro v j h1 h2 h3 h4; simp only [xv_u]; repeat rw [if_neg (by omega)])))
    · exact arm_4 (dX := 6) (I1 := I) (I2 := xv_u I 60 48 (nI 1)) (out := nI 0) hi hn (by decide) (fun _ => rfl) (w_advert_A n c c J (p_advert_b n c I J h1 h2)) (m_advert_b n c _ _ h1 (okR_x h2)) (xv_u_eq _ _ _ _) (fun q => absurd q (by decide)) hkc hks (fun l5 l6 => by exact hk c _ _ l5 l6 (hI.to (by intro v j h1 h2 h3 h4; simp only [xv_u]; repeat rw [if_neg (by omega)])))
  · exact arm_4 (dX := 6) (I1 := I) (I2 := xv_u I 60 48 (nI 1)) (out := nI 0) hi hn (by decide) (fun _ => rfl) (w_advert_A n c c J (p_advert_a n c I J h1)) (m_advert_a n c _ _ (okR_x h1)) (xv_u_eq _ _ _ _) (fun q => absurd q (by decide)) hkc hks (fun l5 l6 => by exact hk c _ _ l5 l6 (hI.to (by intro v j h1 h2 h3 h4; simp only [xv_u]; repeat rw [if_neg (by omega)])))
theorem xParL_big : ∀ (m k d : Nat), 10 ^ m ≤ d → d < 2 ^ 31 → xParL (m + 1) k (nI d) = nI 0
  | 0, k, d, h, h2 => by
    rw [xParL_s (Nat.lt_of_lt_of_le (by decide) h) h2]
    split <;> rfl
  | m + 1, k, d, h, h2 => by
    have hp : 0 < 10 ^ (m + 1) := Nat.pow_pos (by decide)
    rw [xParL_s (by omega) h2]
    split
    · rfl
    · exact xParL_big m (k + 1) (d / 10) ((Nat.le_div_iff_mul_le (by decide)).mpr (by rw [← Nat.pow_succ]; exact h)) (by omega)
theorem par_d {x : Int32} (h : okR 1 6 (xPar x)) : ∃ d, 1 ≤ d ∧ d ≤ 999999 ∧ x = nI d := by
  have n0 : ¬ okR 1 6 (nI 0) := fun q => q.1 (by decide)
  rcases nI_or x with g | ⟨d, g1, rfl⟩
  · exfalso
    refine n0 ?_
    have e : xPar x = nI 0 := by
      unfold xPar
      rw [xParL, if_neg (fun q => by rw [q] at g; exact absurd g (by decide)), if_pos g]
    rw [e] at h
    exact h
  · rcases Nat.eq_zero_or_pos d with h0 | h0
    · subst h0
      exact absurd h (by decide)
    · rcases Nat.lt_or_ge d 1000000 with h1 | h1
      · exact ⟨d, h0, by omega, rfl⟩
      · unfold xPar at h
        rw [xParL_big 6 0 d h1 g1] at h
        exact absurd h n0
theorem mLn_at (s j : Nat) : ∀ (m : Nat) (r : Int32) (I : xv_I), (j < 6 * s ∨ 6 * s + m ≤ j) → mLn s m r I 74 j = I 74 j
  | 0, _, _, _ => rfl
  | m + 1, r, I, h => by
    rw [mLn, mLn_at s j m _ _ (by omega), xv_u_nk _ _ _ (by omega)]
theorem mLn_in (s k : Nat) : ∀ (m d : Nat) (I : xv_I), d < 2 ^ 31 → k < m → mLn s m (nI d) I 74 (6 * s + k) = nI (d / 10 ^ (m - 1 - k) % 10)
  | 0, _, _, _, h => absurd h (Nat.not_lt_zero _)
  | m + 1, d, I, hd, h => by
    rw [mLn, nI_rem hd (by decide), nI_div hd (by decide)]
    rcases Nat.lt_or_ge k m with g | g
    · rw [mLn_in s k m _ _ (by omega) g, Nat.div_div_eq_div_mul, show m + 1 - 1 - k = (m - 1 - k) + 1 by omega, Nat.pow_succ, Nat.mul_comm 10]
    · obtain rfl : k = m := by omega
      rw [mLn_at _ _ _ _ _ (by omega), xv_u_eq, show k + 1 - 1 - k = 0 by omega, Nat.pow_zero, Nat.div_one]
theorem sI_s (b : Nat) (x1 x2 x3 x4 : Int32) (I : xv_I) : sI I b x1 x2 x3 x4 b 0 = x1 ∧ sI I b x1 x2 x3 x4 b 1 = x2 ∧ sI I b x1 x2 x3 x4 b 2 = x3 ∧ sI I b x1 x2 x3 x4 b 3 = x4 ∧ sI I b x1 x2 x3 x4 (b + 1) 0 = 0 ∧ ∀ i, sI I b x1 x2 x3 x4 (b + 1 + 3) i = 0 := by
  unfold sI wI
  refine ⟨?_, ?_, ?_, ?_, ?_, fun i => xv_z_eq _ _ _ _⟩
  · rw [xv_z_ne _ _ _ (by omega), xv_z_ne _ _ _ (by omega), xv_z_ne _ _ _ (by omega), xv_z_ne _ _ _ (by omega)]
    simp [xv_u]
  · rw [xv_z_ne _ _ _ (by omega), xv_z_ne _ _ _ (by omega), xv_z_ne _ _ _ (by omega), xv_z_ne _ _ _ (by omega)]
    simp [xv_u]
  · rw [xv_z_ne _ _ _ (by omega), xv_z_ne _ _ _ (by omega), xv_z_ne _ _ _ (by omega), xv_z_ne _ _ _ (by omega)]
    simp [xv_u]
  · rw [xv_z_ne _ _ _ (by omega), xv_z_ne _ _ _ (by omega), xv_z_ne _ _ _ (by omega), xv_z_ne _ _ _ (by omega)]
    simp [xv_u]
  · rw [xv_z_ne _ _ _ (by omega), xv_z_ne _ _ _ (by omega), xv_z_ne _ _ _ (by omega), xv_z_eq]
theorem sI_hi {I : xv_I} {b : Nat} {x1 x2 x3 x4 : Int32} {v j : Nat} (h : v < b ∨ b + 4 < v) : sI (xv_z I b 0) b x1 x2 x3 x4 v j = I v j := by
  unfold sI wI
  rw [xv_z_ne _ _ _ (by omega), xv_z_ne _ _ _ (by omega), xv_z_ne _ _ _ (by omega), xv_z_ne _ _ _ (by omega), xv_u_ne _ _ _ (by omega), xv_u_ne _ _ _ (by omega), xv_u_ne _ _ _ (by omega), xv_u_ne _ _ _ (by omega), xv_z_ne _ _ _ (by omega)]
theorem mSt_o {s np : Nat} {x1 x2 x3 : Int32} {I : xv_I} {v j : Nat} (h : v ≠ 74) (h2 : v ≠ 60 ∨ j ≠ 13) (h3 : (v ≠ 72 ∧ v ≠ 73 ∧ v ≠ 75) ∨ j ≠ s) : mSt s np x1 x2 x3 I v j = I v j := by
  unfold mSt
  exact (if_neg (by omega)).trans ((if_neg (by omega)).trans ((if_neg (by omega)).trans ((if_neg (by omega)).trans (mLn_o s h _ _ _))))
theorem mSt_74 {s np : Nat} {x1 x2 x3 : Int32} {I : xv_I} (j : Nat) : mSt s np x1 x2 x3 I 74 j = mLn s np x2 I 74 j := by
  unfold mSt
  exact (if_neg (by omega)).trans ((if_neg (by omega)).trans ((if_neg (by omega)).trans (if_neg (by omega))))
theorem mSt_s (s np : Nat) (x1 x2 x3 : Int32) (I : xv_I) : mSt s np x1 x2 x3 I 72 s = x1 ∧ mSt s np x1 x2 x3 I 73 s = nI np ∧ mSt s np x1 x2 x3 I 75 s = x3 ∧ mSt s np x1 x2 x3 I 60 13 = nI (s + 1) := by
  simp [mSt, xv_u]
theorem armok_8 (n : Nat) : Arm n 8 := fun MC MS Q c I J kc ks i l5 l6 hi hn hI hkc hks hk => by
  obtain ⟨g1, g2, g3, g4⟩ := hI.st
  obtain ad3 := hI.ad.2.2.1
  by_cases h1 : okR 0 3 (I 99 (i + 1))
  · by_cases h2 : okR 1 6 (xPar (I 99 (i + 2)))
    · obtain ⟨d, d1, d2, e2⟩ := par_d h2
      obtain ⟨np, p1, p2, ep⟩ := okR_nat2 h2 (by decide) (by decide)
      obtain ep' : xPar (nI d) = nI np := by rw [← e2]; exact ep
      by_cases h3 : ¬ (I 99 (i + 3)) < nI 1 ∧ (I 99 (i + 3)) ≤ nI np
      · rcases Nat.lt_or_ge c.2 20 with hc | hc
        · obtain ⟨lo, l1, l2, e3⟩ := okR_nat2 h3 (by omega) (by decide)
          obtain E1 : ∀ v j, (v < 200 + 5 * c.2 ∨ 204 + 5 * c.2 < v) → (v ≠ 0 ∨ j ≠ 5) → (xv_u (sI (xv_z I (200 + 5 * c.2) 0) (200 + 5 * c.2) (I 99 (i + 1)) (nI d) (nI np) (nI lo)) 0 5 (nI (c.2 + 1))) v j = I v j := fun v j q1 q2 => (show (xv_u (sI (xv_z I (200 + 5 * c.2) 0) (200 + 5 * c.2) (I 99 (i + 1)) (nI d) (nI np) (nI lo)) 0 5 (nI (c.2 + 1))) v j = (sI (xv_z I (200 + 5 * c.2) 0) (200 + 5 * c.2) (I 99 (i + 1)) (nI d) (nI np) (nI lo)) v j from if_neg (by omega)).trans (sI_hi (by omega))
          obtain E2 : ∀ v j, (v < 200 + 5 * c.2 ∨ 204 + 5 * c.2 < v) → (v ≠ 0 ∨ j ≠ 5) → (v ≠ 60 ∨ (j ≠ 48 ∧ j ≠ 13)) → v ≠ 74 → ((v ≠ 72 ∧ v ≠ 73 ∧ v ≠ 75) ∨ j ≠ c.2) → (mSt c.2 np (I 99 (i + 1)) (nI d) (nI lo) (xv_u (xv_u (sI (xv_z I (200 + 5 * c.2) 0) (200 + 5 * c.2) (I 99 (i + 1)) (nI d) (nI np) (nI lo)) 0 5 (nI (c.2 + 1))) 60 48 (nI 0))) v j = I v j := fun v j q1 q2 q3 q4 q5 => (mSt_o q4 (by omega) q5).trans ((show (xv_u (xv_u (sI (xv_z I (200 + 5 * c.2) 0) (200 + 5 * c.2) (I 99 (i + 1)) (nI d) (nI np) (nI lo)) 0 5 (nI (c.2 + 1))) 60 48 (nI 0)) v j = (xv_u (sI (xv_z I (200 + 5 * c.2) 0) (200 + 5 * c.2) (I 99 (i + 1)) (nI d) (nI np) (nI lo)) 0 5 (nI (c.2 + 1))) v j from if_neg (by omega)).trans (E1 v j q1 q2))
          obtain Ea : ∀ v j, 200 ≤ v → (mSt c.2 np (I 99 (i + 1)) (nI d) (nI lo) (xv_u (xv_u (sI (xv_z I (200 + 5 * c.2) 0) (200 + 5 * c.2) (I 99 (i + 1)) (nI d) (nI np) (nI lo)) 0 5 (nI (c.2 + 1))) 60 48 (nI 0))) v j = (sI (xv_z I (200 + 5 * c.2) 0) (200 + 5 * c.2) (I 99 (i + 1)) (nI d) (nI np) (nI lo)) v j := fun v j q => (mSt_o (by omega) (by omega) (by omega)).trans ((show (xv_u (xv_u (sI (xv_z I (200 + 5 * c.2) 0) (200 + 5 * c.2) (I 99 (i + 1)) (nI d) (nI np) (nI lo)) 0 5 (nI (c.2 + 1))) 60 48 (nI 0)) v j = (xv_u (sI (xv_z I (200 + 5 * c.2) 0) (200 + 5 * c.2) (I 99 (i + 1)) (nI d) (nI np) (nI lo)) 0 5 (nI (c.2 + 1))) v j from if_neg (by omega)).trans (if_neg (by omega)))
          obtain EK74 : ∀ j, (xv_u (xv_u (sI (xv_z I (200 + 5 * c.2) 0) (200 + 5 * c.2) (I 99 (i + 1)) (nI d) (nI np) (nI lo)) 0 5 (nI (c.2 + 1))) 60 48 (nI 0)) 74 j = I 74 j := fun j => (show (xv_u (xv_u (sI (xv_z I (200 + 5 * c.2) 0) (200 + 5 * c.2) (I 99 (i + 1)) (nI d) (nI np) (nI lo)) 0 5 (nI (c.2 + 1))) 60 48 (nI 0)) 74 j = (xv_u (sI (xv_z I (200 + 5 * c.2) 0) (200 + 5 * c.2) (I 99 (i + 1)) (nI d) (nI np) (nI lo)) 0 5 (nI (c.2 + 1))) 74 j from if_neg (by omega)).trans (E1 74 j (by omega) (by omega))
          refine arm_8 (dX := 6) (I1 := (xv_u (sI (xv_z I (200 + 5 * c.2) 0) (200 + 5 * c.2) (I 99 (i + 1)) (nI d) (nI np) (nI lo)) 0 5 (nI (c.2 + 1)))) (I2 := (mSt c.2 np (I 99 (i + 1)) (nI d) (nI lo) (xv_u (xv_u (sI (xv_z I (200 + 5 * c.2) 0) (200 + 5 * c.2) (I 99 (i + 1)) (nI d) (nI np) (nI lo)) 0 5 (nI (c.2 + 1))) 60 48 (nI 0)))) hi hn (by decide) (fun j => E1 _ _ (by omega) (by omega)) (w_story_ok n c (c.1, c.2 + 1) J (by obtain t := p_story_ok n c I J h1 h2 (by rw [ep]; exact h3) g1 hc; rw [ep, e2, e3] at t; rw [e2, e3]; exact t)) (by rw [e2, e3]; exact m_story_ok9 n (c.1, c.2 + 1) _ _ h1 d1 d2 ep' p1 p2 (by rw [← e3]; exact h3) (by rw [E1 _ _ (by omega) (by omega)]; exact g2) hc) (by rw [mSt_o (by decide) (by decide) (by omega), xv_u_eq]) (fun _ => by rw [xv_u_eq]) hkc hks (fun l5 l6 => ?_)
          refine @hk (c.1, c.2 + 1) _ _ l5 l6 (Inv.set_sty hI ⟨?_, (mSt_s _ _ _ _ _ _).2.2.2, hc, fun s hs => ?_⟩ (fun s q1 q2 => (E2 76 s (by omega) (by omega) (by omega) (by omega) (by omega)).trans (hI.new s (Nat.le_of_succ_le q1) q2)) ?_)
          · rw [mSt_o (by decide) (by decide) (by omega), xv_u_ne _ _ _ (by decide), xv_u_eq]
          · rcases Nat.lt_or_ge s c.2 with q | q
            · refine (g4 s q).cells (fun v j u1 u2 => E2 _ _ (by omega) (by omega) (by omega) (by omega) (by omega)) (fun v j u1 => ?_) (fun p hp k hk => by rw [E2 _ _ (by omega) (by omega) (by omega) (by omega) (by omega)])
              by_cases e : v = 74
              · subst e
                rw [mSt_74, mLn_at _ _ _ _ _ (by omega)]
                exact EK74 j
              · exact E2 _ _ (by omega) (by omega) (by omega) e (by omega)
            · obtain rfl : s = c.2 := Nat.le_antisymm (Nat.le_of_lt_succ hs) q
              obtain ⟨v0, v1, v2, v3, v4, v5⟩ := sI_s (200 + 5 * c.2) (I 99 (i + 1)) (nI d) (nI np) (nI lo) (xv_z I (200 + 5 * c.2) 0)
              obtain ⟨m0, m1, m2, -⟩ := mSt_s c.2 np (I 99 (i + 1)) (nI d) (nI lo) (xv_u (xv_u (sI (xv_z I (200 + 5 * c.2) 0) (200 + 5 * c.2) (I 99 (i + 1)) (nI d) (nI np) (nI lo)) 0 5 (nI (c.2 + 1))) 60 48 (nI 0))
              refine ⟨d, np, lo, 0, d1, d2, p1, p2, l1, l2, Nat.zero_le _, ep', ?_⟩
              rw [show 201 + 5 * c.2 = 200 + 5 * c.2 + 1 by omega, Ea (200 + 5 * c.2) 0 (by omega), Ea (200 + 5 * c.2) 1 (by omega), Ea (200 + 5 * c.2) 2 (by omega), Ea (200 + 5 * c.2) 3 (by omega), Ea (200 + 5 * c.2 + 1) 0 (by omega), v0, v1, v2, v3, v4, m0, m1, m2]
              refine ⟨rfl, rfl, rfl, rfl, rfl, rfl, fun k hk => ?_, rfl, ?_, Or.inl ⟨rfl, fun i hi => ?_, fun p hp k hk => ?_⟩⟩
              · rw [mSt_74]
                exact mLn_in c.2 k np d _ (by omega) hk
              · exact (E2 76 _ (by omega) (by omega) (by omega) (by omega) (by omega)).trans (hI.new _ (Nat.le_refl _) hc)
              · rw [Ea _ _ (by omega)]
                exact v5 i
              · rw [E2 _ _ (by omega) (by omega) (by omega) (by omega) (by omega)]
                exact no_mark hI.cell ad3 g3 (by unfold okCell; omega) (by omega) p hp k hk
          · intro v j q1 q2 q3 q4 q5
            exact E2 v j (by omega) (by omega) (by omega) (by omega) (by omega)
        · obtain hc2 : c.2 = 20 := by omega
          exact arm_8 (dX := 6) (I1 := I) (I2 := xv_u I 60 48 (nI 2)) (out := nI 0) hi hn (by decide) (fun _ => rfl) (w_story_S n c c J (p_story_d n c I J h1 h2 (by rw [ep]; exact h3) (by rw [g1, hc2]))) (by rw [e2]; exact m_story_e n c _ _ h1 d1 d2 ep' p1 p2 h3 (by rw [g2, hc2])) (xv_u_eq _ _ _ _) (fun q => absurd q (by decide)) hkc hks (fun l5 l6 => by exact hk c _ _ l5 l6 (hI.to (by intro v j h1 h2 h3 h4; simp only [xv_u]; repeat rw [if_neg (by omega)])))
      · exact arm_8 (dX := 6) (I1 := I) (I2 := xv_u I 60 48 (nI 1)) (out := nI 0) hi hn (by decide) (fun _ => rfl) (w_story_A n c c J (p_story_c n c I J h1 h2 (by rw [ep]; exact rng_x h3))) (by rw [e2]; exact m_story_d n c _ _ h1 d1 d2 ep' p1 p2 (rng_x h3)) (xv_u_eq _ _ _ _) (fun q => absurd q (by decide)) hkc hks (fun l5 l6 => by exact hk c _ _ l5 l6 (hI.to (by intro v j h1 h2 h3 h4; simp only [xv_u]; repeat rw [if_neg (by omega)])))
    · by_cases h4 : okR 1 999999 (I 99 (i + 2))
      · obtain ⟨d, d1, d2, e2⟩ := okR_nat2 h4 (by decide) (by decide)
        exact arm_8 (dX := 6) (I1 := I) (I2 := xv_u I 60 48 (nI 1)) (out := nI 0) hi hn (by decide) (fun _ => rfl) (w_story_A n c c J (p_story_b n c I J h1 h2)) (by rw [e2]; rw [e2] at h2; exact m_story_c n c _ _ h1 d1 d2 h2) (xv_u_eq _ _ _ _) (fun q => absurd q (by decide)) hkc hks (fun l5 l6 => by exact hk c _ _ l5 l6 (hI.to (by intro v j h1 h2 h3 h4; simp only [xv_u]; repeat rw [if_neg (by omega)])))
      · exact arm_8 (dX := 6) (I1 := I) (I2 := xv_u I 60 48 (nI 1)) (out := nI 0) hi hn (by decide) (fun _ => rfl) (w_story_A n c c J (p_story_b n c I J h1 h2)) (m_story_b n c _ _ h1 (okR_x h4)) (xv_u_eq _ _ _ _) (fun q => absurd q (by decide)) hkc hks (fun l5 l6 => by exact hk c _ _ l5 l6 (hI.to (by intro v j h1 h2 h3 h4; simp only [xv_u]; repeat rw [if_neg (by omega)])))
  · exact arm_8 (dX := 6) (I1 := I) (I2 := xv_u I 60 48 (nI 1)) (out := nI 0) hi hn (by decide) (fun _ => rfl) (w_story_A n c c J (p_story_a n c I J h1)) (m_story_a n c _ _ (okR_x h1)) (xv_u_eq _ _ _ _) (fun q => absurd q (by decide)) hkc hks (fun l5 l6 => by exact hk c _ _ l5 l6 (hI.to (by intro v j h1 h2 h3 h4; simp only [xv_u]; repeat rw [if_neg (by omega)])))