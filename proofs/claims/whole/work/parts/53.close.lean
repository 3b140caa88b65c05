theorem cor_iff {c : Nat × Nat} {I : xv_I} {e w4 : Nat} {a : Nat} (h1 : ∀ j, j < 120 → I (31 + e) j = I 83 (120 * e + j)) (h2 : ∀ j, j < w4 → I 40 j = I 85 j ∧ ∃ s, s < c.2 ∧ I 40 j = nI s) : ((∃ j, j < 120 ∧ I (31 + e) j = nI (200 + a)) ∧ (¬ ∃ j, j < w4 ∧ I 40 j = nI a) ∧ w4 < 5) ↔ ((∃ j, j < 120 ∧ I 83 (120 * e + j) = nI (200 + a)) ∧ (¬ ∃ j, j < w4 ∧ I 85 j = nI a) ∧ w4 < 5) := by
  constructor
  · rintro ⟨⟨j, q1, q2⟩, q3, q4⟩
    exact ⟨⟨j, q1, (h1 j q1).symm.trans q2⟩, fun ⟨j, r1, r2⟩ => q3 ⟨j, r1, (h2 j r1).1.trans r2⟩, q4⟩
  · rintro ⟨⟨j, q1, q2⟩, q3, q4⟩
    exact ⟨⟨j, q1, (h1 j q1).trans q2⟩, fun ⟨j, r1, r2⟩ => q3 ⟨j, r1, (h2 j r1).1.symm.trans r2⟩, q4⟩
theorem armok_19 (n : Nat) : Arm n 19 := fun MC MS Q c I J kc ks i l5 l6 hi hn hI hkc hks hk => by
  obtain ⟨w, g1, g2, g3, g4⟩ := hI.ed
  obtain ⟨w4, t1, t2, t3, t4⟩ := hI.owe
  obtain ⟨s1, s2, s3, s4⟩ := hI.st
  rcases ed_or g1 (I 99 (i + 1)) with ⟨e, he, e1⟩ | b0
  · rcases no_or c.2 (I 99 (i + 2)) with ⟨a, hs, e2⟩ | b1
    · obtain iff := cor_iff (a := a) (fun j hj => (g4 e he).2 j hj) t4
      by_cases hx : (∃ j, j < 120 ∧ I (31 + e) j = nI (200 + a)) ∧ (¬ ∃ j, j < w4 ∧ I 40 j = nI a) ∧ w4 < 5
      · refine arm_19 (dX := 8) (I1 := (xv_u (xv_u I 40 w4 (nI a)) 29 4 (nI (w4 + 1)))) (I2 := (xv_u (xv_u (xv_u (xv_u (xv_u I 40 w4 (nI a)) 29 4 (nI (w4 + 1))) 60 48 (nI 0)) 85 w4 (nI a)) 60 28 (nI (w4 + 1)))) hi hn (by decide) (fun j => by simp only [xv_u]; repeat rw [if_neg (by omega)]) (w_correct_ok n c c J (by rw [e1, e2]; exact p_correct_ok n c I J he g1 g2 hs (by omega) t1 t2 hx)) (by rw [e1, e2]; exact m_cor_ok n c (xv_u (xv_u I 40 w4 (nI a)) 29 4 (nI (w4 + 1))) _ he g1 (by simp [xv_u, g3]) t1 (by simp [xv_u, t3]) hs (by simp [xv_u, s2]) s3 (by simp only [xv_u]; simpa using iff.mp hx)) (by simp [xv_u]) (fun _ => by rw [xv_u_eq]) hkc hks (fun l5 l6 => ?_)
        refine @hk c _ _ l5 l6 (Inv.set_owe hI ⟨w4 + 1, by omega, by simp [xv_u], by simp [xv_u], fun j hj => ?_⟩ ?_)
        · by_cases e : j = w4
          · simp [xv_u, e]
            exact ⟨a, hs, rfl⟩
          · obtain q := t4 j (by omega)
            simp [xv_u, e]
            exact q
        · intro v j h1 h2 h3 h4 h5
          simp only [xv_u]
          repeat rw [if_neg (by omega)]
      · exact arm_19 (dX := 8) (I1 := I) (I2 := xv_u I 60 48 (nI 2)) (out := nI 0) hi hn (by decide) (fun _ => rfl) (w_correct_S n c c J (by rw [e1, e2]; exact p_correct_c n c I J he g1 g2 hs (by omega) t1 t2 hx)) (by rw [e1, e2]; exact m_cor_c n c _ _ he g1 g3 t1 t3 hs s2 s3 (fun q => hx (iff.mpr q))) (xv_u_eq _ _ _ _) (fun q => absurd q (by decide)) hkc hks (fun l5 l6 => by exact hk c _ _ l5 l6 (hI.to (by intro v j h1 h2 h3 h4; simp only [xv_u]; repeat rw [if_neg (by omega)])))
    · exact arm_19 (dX := 8) (I1 := I) (I2 := xv_u I 60 48 (nI 1)) (out := nI 0) hi hn (by decide) (fun _ => rfl) (w_correct_I n c c J (by rw [e1]; exact p_correct_b n c I J he g1 g2 b1)) (by rw [e1]; exact m_cor_b n c _ _ he g1 g3 t1 t3 b1 s2 s3) (xv_u_eq _ _ _ _) (fun q => absurd q (by decide)) hkc hks (fun l5 l6 => by exact hk c _ _ l5 l6 (hI.to (by intro v j h1 h2 h3 h4; simp only [xv_u]; repeat rw [if_neg (by omega)])))
  · exact arm_19 (dX := 8) (I1 := I) (I2 := xv_u I 60 48 (nI 1)) (out := nI 0) hi hn (by decide) (fun _ => rfl) (w_correct_I n c c J (p_correct_a n c I J (by rw [g2]; exact b0))) (m_cor_a n c _ _ b0 g1 g3 t1 t3) (xv_u_eq _ _ _ _) (fun q => absurd q (by decide)) hkc hks (fun l5 l6 => by exact hk c _ _ l5 l6 (hI.to (by intro v j h1 h2 h3 h4; simp only [xv_u]; repeat rw [if_neg (by omega)])))
theorem Inv.set_close {c : Nat × Nat} {I I' : xv_I} (h : Inv c I) (ged : gEd I') (gtouch : gTouch I') (h2 : ∀ v j, (v < 20 ∨ 28 < v) → v < 300 → (v < 94 ∨ 99 < v) → (v ≠ 60 ∨ (j ≠ 43 ∧ j ≠ 47 ∧ j ≠ 48)) → ¬ (((v = 29 ∧ j = 2) ∨ (v = 60 ∧ j = 25) ∨ (31 ≤ v ∧ v ≤ 39) ∨ v = 83 ∨ v = 84) ∨ ((v = 1 ∧ j = 6) ∨ (v = 60 ∧ j = 3))) → I' v j = I v j) : Inv c I' :=
  ⟨h.page.to fun v j hv => h2 v j (by omega) (by omega) (by omega) (by omega) (by omega),
   h.cell.to fun v j hv => h2 v j (by omega) (by omega) (by omega) (by omega) (by omega),
   gtouch,
   h.sign.to fun v j hv => h2 v j (by omega) (by omega) (by omega) (by omega) (by omega),
   h.hold.to fun v j hv => h2 v j (by omega) (by omega) (by omega) (by omega) (by omega),
   h.here.to fun v j hv => h2 v j (by omega) (by omega) (by omega) (by omega) (by omega),
   h.dist.to fun v j hv => h2 v j (by omega) (by omega) (by omega) (by omega) (by omega),
   h.ad.to fun v j hv => h2 v j (by omega) (by omega) (by omega) (by omega) (by omega),
   h.st.to fun v j hv => h2 v j (by omega) (by omega) (by omega) (by omega) (by omega),
   ged,
   h.owe.to fun v j hv => h2 v j (by omega) (by omega) (by omega) (by omega) (by omega),
   h.min.to fun v j hv => h2 v j (by omega) (by omega) (by omega) (by omega) (by omega),
   h.tr.to fun v j hv => h2 v j (by omega) (by omega) (by omega) (by omega) (by omega),
   h.word.to fun v j hv => h2 v j (by omega) (by omega) (by omega) (by omega) (by omega),
   h.wei.to fun v j hv => h2 v j (by omega) (by omega) (by omega) (by omega) (by omega),
   h.wire.to fun v j hv => h2 v j (by omega) (by omega) (by omega) (by omega) (by omega),
   h.puz.to fun v j hv => h2 v j (by omega) (by omega) (by omega) (by omega) (by omega),
   h.new.to fun v j hv => h2 v j (by omega) (by omega) (by omega) (by omega) (by omega)⟩
theorem mMany_cg {I I' : xv_I} {v p : Nat} (h : ∀ j, I' v j = I v j) : mMany I' v p = mMany I v p := by
  unfold mMany
  rw [show mMany1 I' v p = mMany1 I v p from funext fun k => funext fun s => by unfold mMany1; rw [h]]
theorem mReady_cg {I I' : xv_I} (h : ∀ v j, v = 63 ∨ v = 81 ∨ v = 82 → I' v j = I v j) (p : Nat) : mReady I' p ↔ mReady I p := by
  unfold mReady
  rw [mMany_cg fun j => h 82 j (by omega), mMany_cg fun j => h 81 j (by omega)]
  constructor
  · exact fun q => ⟨q.1, q.2.elim (fun r => Or.inl fun k hk => (h 63 _ (by omega)).symm.trans (r k hk)) Or.inr⟩
  · exact fun q => ⟨q.1, q.2.elim (fun r => Or.inl fun k hk => (h 63 _ (by omega)).trans (r k hk)) Or.inr⟩
theorem xKp2_at (e p v j : Nat) (hp : p < 10) : ∀ (m k : Nat) (I : xv_I), it (xKp1 e p) m k I v j = if v = 31 + e ∧ 12 * p + k ≤ j ∧ j < 12 * p + k + m then I (3 + p) (j - 12 * p) else I v j
  | 0, k, I => by rw [it, if_neg (by omega)]
  | m + 1, k, I => by
    rw [it, xKp2_at e p v j hp m (k + 1)]
    unfold xKp1 xv_u
    rw [if_neg (show ¬ (3 + p = 31 + e ∧ j - 12 * p = 12 * p + k) by omega)]
    by_cases h : v = 31 + e ∧ 12 * p + k ≤ j ∧ j < 12 * p + k + (m + 1)
    · rw [if_pos h]
      by_cases h2 : j = 12 * p + k
      · rw [if_neg (by omega), if_pos ⟨h.1, h2⟩, h2, Nat.add_sub_cancel_left]
      · rw [if_pos (by omega)]
    · rw [if_neg h, if_neg (by omega), if_neg (by omega)]
theorem xKp_at1 (e v j : Nat) : ∀ (m p : Nat) (I : xv_I), p + m ≤ 10 → it (xKp2 e) m p I v j = if v = 31 + e ∧ 12 * p ≤ j ∧ j < 12 * (p + m) then I (3 + j / 12) (j % 12) else I v j
  | 0, p, I, _ => by rw [it, if_neg (by omega)]
  | m + 1, p, I, hp => by
    have e1 : ∀ v j, xKp2 e p I v j = if v = 31 + e ∧ 12 * p ≤ j ∧ j < 12 * p + 12 then I (3 + p) (j - 12 * p) else I v j := fun v j => by
      unfold xKp2
      rw [xKp2_at e p v j (by omega) 12 0]
      rfl
    rw [it, xKp_at1 e v j m (p + 1) _ (by omega), e1, e1]
    by_cases h : v = 31 + e ∧ 12 * p ≤ j ∧ j < 12 * (p + (m + 1))
    · rw [if_pos h]
      by_cases h2 : j < 12 * p + 12
      · rw [if_neg (by omega), if_pos (by omega), show j / 12 = p by omega, show j % 12 = j - 12 * p by omega]
      · rw [if_pos (by omega), if_neg (by omega)]
    · rw [if_neg h, if_neg (by omega), if_neg (by omega)]
theorem xKp_at (e : Nat) (I : xv_I) (v j : Nat) : xKp e I v j = if v = 31 + e ∧ j < 120 then I (3 + j / 12) (j % 12) else I v j := by
  unfold xKp
  rw [xKp_at1 e v j 10 0 I (by omega)]
  by_cases h : v = 31 + e ∧ j < 120
  · rw [if_pos h, if_pos (by omega)]
  · rw [if_neg h, if_neg (by omega)]
theorem mArc_at1 (e v j : Nat) : ∀ (m k : Nat) (I : xv_I), it (fun k I => xv_u I 83 (120 * e + k) (I 63 k)) m k I v j = if v = 83 ∧ 120 * e + k ≤ j ∧ j < 120 * e + k + m then I 63 (j - 120 * e) else I v j
  | 0, k, I => by rw [it, if_neg (by omega)]
  | m + 1, k, I => by
    rw [it, mArc_at1 e v j m (k + 1)]
    unfold xv_u
    rw [if_neg (show ¬ (63 = 83 ∧ j - 120 * e = 120 * e + k) by omega)]
    by_cases h : v = 83 ∧ 120 * e + k ≤ j ∧ j < 120 * e + k + (m + 1)
    · rw [if_pos h]
      by_cases h2 : j = 120 * e + k
      · rw [if_neg (by omega), if_pos ⟨h.1, h2⟩, h2, Nat.add_sub_cancel_left]
      · rw [if_pos (by omega)]
    · rw [if_neg h, if_neg (by omega), if_neg (by omega)]
theorem mArc_at (e : Nat) (I : xv_I) (v j : Nat) : mArc e I v j = if v = 83 ∧ 120 * e ≤ j ∧ j < 120 * e + 120 then I 63 (j - 120 * e) else I v j := by
  unfold mArc
  rw [mArc_at1 e v j 120 0]
  rfl
theorem nI_z {w : Nat} (h : w < 2 ^ 31) : nI w = 0 ↔ w = 0 := by
  constructor
  · intro q
    exact Classical.byContradiction fun r => nI_n0 (Nat.pos_of_ne_zero r) h q
  · rintro rfl
    rfl
theorem nI_lt2 {a b : Nat} (ha : a < 2 ^ 31) (hb : b < 2 ^ 31) : nI a < nI b ↔ a < b := by
  rw [fa_lt, nI_toInt ha, nI_toInt hb]
  omega
theorem cl_at (w : Nat) (x : Int32) (I : xv_I) (v j : Nat) : xv_u (xKept w x I) 1 6 (nI 0) v j = if v = 1 ∧ j = 6 then nI 0 else if v = 29 ∧ j = 2 then nI (w + 1) else if v = 39 ∧ j = w then x else if v = 31 + w ∧ j < 120 then I (3 + j / 12) (j % 12) else I v j := by
  unfold xKept xv_u
  rw [xKp_at]
theorem mcl_at (w : Nat) (K : xv_I) (v j : Nat) : mClose w K v j = if v = 60 ∧ j = 25 then nI (w + 1) else if v = 60 ∧ j = 3 then nI 0 else if v = 84 ∧ j = w then K 60 30 else if v = 83 ∧ 120 * w ≤ j ∧ j < 120 * w + 120 then K 63 (j - 120 * w) else K v j := by
  unfold mClose xv_u
  rw [mArc_at]
theorem armok_17 (n : Nat) : Arm n 17 := fun MC MS Q c I J kc ks i l5 l6 hi hn hI hkc hks hk => by
  obtain ⟨w, g1, g2, g3, g4⟩ := hI.ed
  obtain ⟨w4, t1, t2, t3, t4⟩ := hI.owe
  obtain iff : ((∀ p, p < 10 → xReady I p) ∧ ¬ nI 0 < I 29 4 ∧ I 29 2 < nI 8) ↔ mCan I := by
    unfold mCan
    rw [t2, t3, g2, g3, nI_lt2 (by decide) (by omega), nI_z (by omega)]
    constructor
    · exact fun q => ⟨⟨by omega, q.2.2⟩, fun p hp => (ready_iff hI hp).mp (q.1 p hp)⟩
    · exact fun q => ⟨fun p hp => (ready_iff hI hp).mpr (q.2 p hp), by omega, q.1.2⟩
  by_cases hx : (∀ p, p < 10 → xReady I p) ∧ ¬ nI 0 < I 29 4 ∧ I 29 2 < nI 8
  · obtain hw : w < 8 := by
      obtain q := hx.2.2
      rw [g2, nI_lt2 (by omega) (by decide)] at q
      exact q
    obtain P1 := w_close_ok n c c J (p_close_ok n c I J g2 hw hx)
    obtain A1 : ∀ v j, (xv_u (xKept w (I 0 9) I) 1 6 (nI 0)) v j = _ := cl_at w (I 0 9) I
    generalize (xv_u (xKept w (I 0 9) I) 1 6 (nI 0)) = I1 at P1 A1
    obtain E1 : ∀ v j, (v ≠ 31 + w) → (v ≠ 39) → (v ≠ 29 ∨ j ≠ 2) → (v ≠ 1 ∨ j ≠ 6) → I1 v j = I v j := fun v j h1 h2 h3 h4 => by
      rw [A1, if_neg (by omega), if_neg (by omega), if_neg (by omega), if_neg (by omega)]
    obtain hcan : mCan I1 := by
      obtain q := iff.mp hx
      unfold mCan at q ⊢
      rw [E1 60 28 (by omega) (by omega) (by omega) (by omega), E1 60 25 (by omega) (by omega) (by omega) (by omega)]
      exact ⟨q.1, fun j hj => (mReady_cg (fun v j hv => E1 v j (by omega) (by omega) (by omega) (by omega)) j).mpr (q.2 j hj)⟩
    obtain P2 := m_close_ok n c I1 (xv_u J 98 0 (nI w).toInt64) hw ((E1 60 25 (by omega) (by omega) (by omega) (by omega)).trans g3) hcan
    obtain A2 : ∀ v j, mClose w (xv_u I1 60 48 (nI 0)) v j = _ := mcl_at w _
    generalize mClose w (xv_u I1 60 48 (nI 0)) = I2 at P2 A2
    obtain E2 : ∀ v j, v ≠ 83 → v ≠ 84 → (v ≠ 60 ∨ (j ≠ 3 ∧ j ≠ 25 ∧ j ≠ 48)) → I2 v j = I1 v j := fun v j h1 h2 h3 => by
      rw [A2, if_neg (by omega), if_neg (by omega), if_neg (by omega), if_neg (by omega)]
      exact if_neg (by omega)
    refine arm_17 (dX := 8) (I1 := I1) (I2 := I2) hi hn (by decide) (fun j => E1 _ _ (by omega) (by omega) (by omega) (by omega)) P1 P2 ?_ (fun _ => by rw [xv_u_eq]) hkc hks (fun l5 l6 => ?_)
    · rw [A2, if_neg (by omega), if_neg (by omega), if_neg (by omega), if_neg (by omega), xv_u_eq]
    refine @hk c _ _ l5 l6 (Inv.set_close hI ⟨w + 1, by omega, ?_, ?_, fun x hx => ⟨?_, fun j hj => ?_⟩⟩ ⟨?_, 0, by decide, ?_⟩ ?_)
    · rw [E2 _ _ (by omega) (by omega) (by omega), A1, if_neg (by omega), if_pos ⟨rfl, rfl⟩]
    · rw [A2, if_pos ⟨rfl, rfl⟩]
    · by_cases e : x = w
      · obtain L : I2 39 x = I 0 9 := by rw [E2 _ _ (by omega) (by omega) (by omega), A1, if_neg (by omega), if_neg (by omega), if_pos ⟨rfl, e⟩]
        obtain R : I2 84 x = I 60 30 := by rw [A2, if_neg (by omega), if_neg (by omega), if_pos ⟨rfl, e⟩, xv_u_nk _ _ _ (by decide), E1 60 30 (by omega) (by omega) (by omega) (by omega)]
        rw [L, R]
        exact hI.min
      · obtain L : I2 39 x = I 39 x := by rw [E2 _ _ (by omega) (by omega) (by omega), A1, if_neg (by omega), if_neg (by omega), if_neg (by omega), if_neg (by omega)]
        obtain R : I2 84 x = I 84 x := by rw [A2, if_neg (by omega), if_neg (by omega), if_neg (by omega), if_neg (by omega), xv_u_ne _ _ _ (by decide), E1 84 _ (by omega) (by omega) (by omega) (by omega)]
        rw [L, R]
        exact (g4 x (by omega)).1
    · by_cases e : x = w
      · obtain L : I2 (31 + x) j = I (3 + j / 12) (j % 12) := by rw [E2 _ _ (by omega) (by omega) (by omega), A1, if_neg (by omega), if_neg (by omega), if_neg (by omega), if_pos (by omega)]
        obtain R : I2 83 (120 * x + j) = I 63 j := by rw [A2, if_neg (by omega), if_neg (by omega), if_neg (by omega), if_pos (by omega), e, Nat.add_sub_cancel_left, xv_u_ne _ _ _ (by decide), E1 63 j (by omega) (by omega) (by omega) (by omega)]
        rw [L, R, (hI.cell (j / 12) (by omega) (j % 12) (by omega)).1, show 12 * (j / 12) + j % 12 = j by omega]
      · obtain L : I2 (31 + x) j = I (31 + x) j := by rw [E2 _ _ (by omega) (by omega) (by omega), A1, if_neg (by omega), if_neg (by omega), if_neg (by omega), if_neg (by omega)]
        obtain R : I2 83 (120 * x + j) = I 83 (120 * x + j) := by rw [A2, if_neg (by omega), if_neg (by omega), if_neg (by omega), if_neg (by omega), xv_u_ne _ _ _ (by decide), E1 83 _ (by omega) (by omega) (by omega) (by omega)]
        rw [L, R]
        exact (g4 x (by omega)).2 j hj
    · rw [E2 _ _ (by omega) (by omega) (by omega), A1, if_pos ⟨rfl, rfl⟩, A2, if_neg (by omega), if_pos ⟨rfl, rfl⟩]
    · rw [E2 _ _ (by omega) (by omega) (by omega), A1, if_pos ⟨rfl, rfl⟩]
    · intro v j h1 h2 h3 h4 h5
      exact (E2 v j (by omega) (by omega) (by omega)).trans (E1 v j (by omega) (by omega) (by omega) (by omega))
  · exact arm_17 (dX := 8) (I1 := I) (I2 := xv_u I 60 48 (nI 1)) (out := nI 0) hi hn (by decide) (fun _ => rfl) (w_close_S n c c J (p_close_a n c I J hx)) (m_close_a n c _ _ (fun q => hx (iff.mpr q))) (xv_u_eq _ _ _ _) (fun q => absurd q (by decide)) hkc hks (fun l5 l6 => by exact hk c _ _ l5 l6 (hI.to (by intro v j h1 h2 h3 h4; simp only [xv_u]; repeat rw [if_neg (by omega)])))