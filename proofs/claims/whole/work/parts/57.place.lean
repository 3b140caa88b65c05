theorem xDrop1_at (v j : Nat) : ∀ (m k : Nat) (I : xv_I), 1 ≤ k → it xDrop1 m k I v j = if v = 40 ∧ k - 1 ≤ j ∧ j < k - 1 + m then I 40 (j + 1) else I v j
  | 0, k, I, _ => by rw [it, if_neg (by omega)]
  | m + 1, k, I, hk => by
    have e : ∀ w q, xDrop1 k I w q = if w = 40 ∧ q = k - 1 then I 40 k else I w q := fun w q => rfl
    rw [it, xDrop1_at v j m (k + 1) _ (by omega), e, e]
    by_cases h : v = 40 ∧ k - 1 ≤ j ∧ j < k - 1 + (m + 1)
    · rw [if_pos h]
      by_cases h2 : j = k - 1
      · rw [if_neg (by omega), if_pos ⟨h.1, h2⟩, h2, show k - 1 + 1 = k by omega]
      · rw [if_pos (by omega), if_neg (by omega)]
    · rw [if_neg h, if_neg (by omega), if_neg (by omega)]
theorem mShift1_at (v j : Nat) : ∀ (m k : Nat) (I : xv_I), it mShift1 m k I v j = if v = 85 ∧ k ≤ j ∧ j < k + m then I 85 (j + 1) else I v j
  | 0, k, I => by rw [it, if_neg (by omega)]
  | m + 1, k, I => by
    have e : ∀ w q, mShift1 k I w q = if w = 85 ∧ q = k then I 85 (k + 1) else I w q := fun w q => rfl
    rw [it, mShift1_at v j m (k + 1) _, e, e]
    by_cases h : v = 85 ∧ k ≤ j ∧ j < k + (m + 1)
    · rw [if_pos h]
      by_cases h2 : j = k
      · rw [if_neg (by omega), if_pos ⟨h.1, h2⟩, h2]
      · rw [if_pos (by omega), if_neg (by omega)]
    · rw [if_neg h, if_neg (by omega), if_neg (by omega)]
theorem xDrop_at {w : Nat} (hw : 0 < w) (I : xv_I) (v j : Nat) : xDrop w I v j = if v = 29 ∧ j = 4 then nI (w - 1) else if v = 40 ∧ j < w - 1 then I 40 (j + 1) else I v j := by
  unfold xDrop
  show (if v = 29 ∧ j = 4 then nI (w - 1) else it xDrop1 (w - 1) 1 I v j) = _
  rw [xDrop1_at v j _ _ _ (Nat.le_refl _)]
  by_cases h : v = 40 ∧ j < w - 1
  · rw [if_pos h, if_pos (show v = 40 ∧ 1 - 1 ≤ j ∧ j < 1 - 1 + (w - 1) by omega)]
  · rw [if_neg h, if_neg (show ¬ (v = 40 ∧ 1 - 1 ≤ j ∧ j < 1 - 1 + (w - 1)) by omega)]
theorem mDrop_at (w : Nat) (I : xv_I) (v j : Nat) : mDrop w I v j = if v = 60 ∧ j = 28 then nI (w - 1) else if v = 85 ∧ j < w - 1 then I 85 (j + 1) else I v j := by
  unfold mDrop
  rw [mShift1_at]
  by_cases h : v = 85 ∧ j < w - 1
  · rw [if_pos h, if_pos (show v = 85 ∧ 0 ≤ j ∧ j < 0 + (w - 1) by omega), if_neg (by omega)]
    exact if_neg (by omega)
  · rw [if_neg h, if_neg (show ¬ (v = 85 ∧ 0 ≤ j ∧ j < 0 + (w - 1)) by omega)]
    rfl
theorem xLow_spec {I : xv_I} {p f : Nat} (h : xLow I p = nI f) (hf : f < 12) : I (3 + p) f = 0 ∧ ∀ j, j < f → ¬ I (3 + p) j = 0 := by
  unfold xLow at h
  rcases fsP_cases (fun k => I (3 + p) k = 0) 12 with ⟨h1, -⟩ | ⟨k, h1, h2, h3, h4⟩
  · rw [h1] at h
    exact absurd h.symm (nI_nm1 (by omega))
  · rw [h4] at h
    obtain rfl := nI_inj2 h (by omega) (by omega)
    exact ⟨h2, h3⟩
theorem xLow_ex {I : xv_I} {p f : Nat} (h : I (3 + p) f = 0) (hf : f < 12) : ¬ xLow I p = -1 := by
  unfold xLow
  rcases fsP_cases (fun k => I (3 + p) k = 0) 12 with ⟨-, h2⟩ | ⟨k, h1, -, -, h4⟩
  · exact absurd h (h2 f hf)
  · rw [h4]
    exact nI_nm1 (by omega)
theorem armok_20 (n : Nat) : Arm n 20 := fun MC MS Q c I J kc ks i l5 l6 hi hn hI hkc hks hk => by
  obtain ⟨w, t1, t2, t3, t4⟩ := hI.owe
  obtain ⟨s1, s2, s3, s4⟩ := hI.st
  rcases Nat.eq_zero_or_pos w with h0 | h0
  · subst h0
    exact arm_20 hi hn (by decide) (fun _ => rfl) (w_placeCorrection_S n c c J (p_plC_a n c I J t2)) (m_plC_a n c _ _ t3) (xv_u_eq _ _ _ _) (fun q => absurd q (by decide)) hkc hks (fun l5 l6 => by exact hk c _ _ l5 l6 (hI.to (by intro v j h1 h2 h3 h4; simp only [xv_u]; repeat rw [if_neg (by omega)])))
  · obtain ⟨r1, a, ha, r2⟩ := t4 0 h0
    obtain hga := s4 a ha
    obtain ⟨d, np, lo, sh, a1, a2, a3, a4, a5, a6, a7, a8, a9, a10, a11, a12, a13, a14, a15, a16, a17, a18⟩ := hga
    obtain hiff : ∀ (K : xv_I), (∀ v j, v = 61 ∨ v = 72 ∨ v = 63 → K v j = I v j) → ∀ j, j < 84 → (mCS K a j ↔ I 13 (j / 12) = I (200 + 5 * a) 0 ∧ I (3 + j / 12) (j % 12) = 0) := fun K hK j hj => by
      unfold mCS
      rw [hK _ _ (by omega), hK _ _ (by omega), hK _ _ (by omega), a9, (hI.page (j / 12) (by omega)).1, (hI.cell (j / 12) (by omega) (j % 12) (by omega)).1, show 12 * (j / 12) + j % 12 = j by omega]
    rcases fsP_cases (fun j => I 13 (j / 12) = I (200 + 5 * a) 0 ∧ I (3 + j / 12) (j % 12) = 0) 84 with ⟨-, hno⟩ | ⟨j, hj, hsp, hlo, -⟩
    · exact arm_20 (dX := 8) (I1 := I) (I2 := xv_u I 60 48 (nI 0)) hi hn (by decide) (fun _ => rfl) (w_placeCorrection_ok n c c J (xv_Met.imp (p_plC_ok n c I J ha (by omega) h0 t1 t2 r2) (fun o s i r j hq => by
        obtain ⟨q1, q2, q3, q4⟩ := hq
        rcases q4 with ⟨q4, q5, -⟩ | ⟨p, f, q4, q5, q6, q7, q8, -⟩
        · exact ⟨q4, q1, q5, q2, q3⟩
        · exact absurd ⟨by rw [show (12 * p + f) / 12 = p by omega]; exact q5.1, by rw [show (12 * p + f) / 12 = p by omega, show (12 * p + f) % 12 = f by omega]; exact (xLow_spec q8 q7).1⟩ (hno (12 * p + f) (by omega))))) (m_plC_no n c _ _ h0 t1 t3 (r1.symm.trans r2) (by omega) (fun j hj q => hno j hj ((hiff _ (fun v j h => xv_u_ne _ _ _ (by omega)) j hj).mp q))) (xv_u_eq _ _ _ _) (fun _ => by rw [xv_u_eq]) hkc hks (fun l5 l6 => by exact hk c _ _ l5 l6 (hI.to (by intro v j h1 h2 h3 h4; simp only [xv_u]; repeat rw [if_neg (by omega)])))
    · obtain C1 := (cC.nil I (nI (300 + a))).put (p := j / 12) (k := j % 12) (by omega) (by omega)
      obtain E1 : ∀ v i, (v < 3 ∨ 13 ≤ v) → v ≠ 15 → (v ≠ 1 ∨ i ≠ 6) → v ≠ 40 → (v ≠ 29 ∨ i ≠ 4) → (xDrop w (xPut I (j / 12) (j % 12) (nI (300 + a)))) v i = I v i := fun v i h1 h2 h3 h4 h5 => by
        rw [xDrop_at h0, if_neg (by omega), if_neg (by omega)]
        exact C1.2.2.2 v i h1 h2 h3
      obtain EK : ∀ v i, v = 63 ∨ v = 81 ∨ (v = 60 ∧ i = 3) → (xv_u (xDrop w (xPut I (j / 12) (j % 12) (nI (300 + a)))) 60 48 (nI 0)) v i = I v i := fun v i hv => by
        rw [show (xv_u (xDrop w (xPut I (j / 12) (j % 12) (nI (300 + a)))) 60 48 (nI 0)) v i = (xDrop w (xPut I (j / 12) (j % 12) (nI (300 + a)))) v i from if_neg (by omega)]
        exact E1 v i (by omega) (by omega) (by omega) (by omega) (by omega)
      obtain hz : I (3 + j / 12) (j % 12) = 0 := hsp.2
      obtain hz3 : ¬ (0 : Int32) = nI (300 + a) := nI_ne2 (a := 0) (by omega) (by omega) (by omega)
      obtain C2 := (mC.nil (xv_u (xDrop w (xPut I (j / 12) (j % 12) (nI (300 + a)))) 60 48 (nI 0)) (nI (300 + a))).put (p := j / 12) (k := j % 12) (by omega) (by omega) (by rw [EK _ _ (Or.inl rfl), ← (hI.cell (j / 12) (by omega) (j % 12) (by omega)).1, hz]; exact hz3)
      obtain CP := (((cpl.of hI).to (I' := I) (K' := (xv_u (xDrop w (xPut I (j / 12) (j % 12) (nI (300 + a)))) 60 48 (nI 0))) (fun _ _ _ => rfl) EK).step C1 C2)
      obtain E3 : ∀ v i, v ≠ 63 → v ≠ 81 → (v ≠ 60 ∨ (i ≠ 3 ∧ i ≠ 48 ∧ i ≠ 28)) → v ≠ 85 → v ≠ 40 → (v ≠ 29 ∨ i ≠ 4) → (mDrop w (mPut (xv_u (xDrop w (xPut I (j / 12) (j % 12) (nI (300 + a)))) 60 48 (nI 0)) (j / 12) (j % 12) (nI (300 + a)))) v i = xPut I (j / 12) (j % 12) (nI (300 + a)) v i := fun v i h1 h2 h3 h4 h5 h6 => by
        rw [mDrop_at, if_neg (by omega), if_neg (by omega), C2.2.2.2 v i h1 h2 (by omega), show (xv_u (xDrop w (xPut I (j / 12) (j % 12) (nI (300 + a)))) 60 48 (nI 0)) v i = (xDrop w (xPut I (j / 12) (j % 12) (nI (300 + a)))) v i from if_neg (by omega), xDrop_at h0, if_neg (by omega), if_neg (by omega)]
      obtain E4 : ∀ v i, v ≠ 63 → v ≠ 81 → (v ≠ 60 ∨ (i ≠ 3 ∧ i ≠ 48 ∧ i ≠ 28)) → v ≠ 85 → v ≠ 40 → (v ≠ 29 ∨ i ≠ 4) → (v < 3 ∨ 13 ≤ v) → v ≠ 15 → (v ≠ 1 ∨ i ≠ 6) → (mDrop w (mPut (xv_u (xDrop w (xPut I (j / 12) (j % 12) (nI (300 + a)))) 60 48 (nI 0)) (j / 12) (j % 12) (nI (300 + a)))) v i = I v i := fun v i h1 h2 h3 h4 h5 h6 h7 h8 h9 => (E3 v i h1 h2 h3 h4 h5 h6).trans (C1.2.2.2 v i h7 h8 h9)
      obtain CP2 : cpl (mDrop w (mPut (xv_u (xDrop w (xPut I (j / 12) (j % 12) (nI (300 + a)))) 60 48 (nI 0)) (j / 12) (j % 12) (nI (300 + a)))) (mDrop w (mPut (xv_u (xDrop w (xPut I (j / 12) (j % 12) (nI (300 + a)))) 60 48 (nI 0)) (j / 12) (j % 12) (nI (300 + a)))) := CP.to (fun v i hv => E3 v i (by omega) (by omega) (by omega) (by omega) (by omega) (by omega)) (fun v i hv => by rw [mDrop_at, if_neg (by omega), if_neg (by omega)])
      obtain MK : ∀ y, ¬ (0 : Int32) = y → ¬ nI (300 + a) = y → ∀ p, p < 10 → ∀ k, k < 12 → ((mDrop w (mPut (xv_u (xDrop w (xPut I (j / 12) (j % 12) (nI (300 + a)))) 60 48 (nI 0)) (j / 12) (j % 12) (nI (300 + a)))) (3 + p) k = y ↔ I (3 + p) k = y) := fun y h1 h2 q hq k hk => by
        rw [E3 _ _ (by omega) (by omega) (by omega) (by omega) (by omega) (by omega)]
        exact C1.mark h2 (fun _ _ _ _ s r => h1 (by
          obtain ⟨s1, s2⟩ := s.resolve_left id
          rw [s1, s2] at r
          exact hz.symm.trans r)) q hq k hk
      refine arm_20 (dX := 8) (I1 := (xDrop w (xPut I (j / 12) (j % 12) (nI (300 + a))))) (I2 := (mDrop w (mPut (xv_u (xDrop w (xPut I (j / 12) (j % 12) (nI (300 + a)))) 60 48 (nI 0)) (j / 12) (j % 12) (nI (300 + a))))) hi hn (by decide) (fun i => E1 _ _ (by omega) (by omega) (by omega) (by omega) (by omega)) (w_placeCorrection_ok n c c J (v := nI (100 * (j / 12) + j % 12)) (xv_Met.imp (p_plC_ok n c I J ha (by omega) h0 t1 t2 r2) (fun o s i r jj hq => by
        obtain ⟨q1, q2, q3, q4⟩ := hq
        rcases q4 with ⟨-, -, q6⟩ | ⟨p, f, q4, q5, q6, q7, q8, q9, q10⟩
        · exact absurd ⟨hsp.1, xLow_ex hz (by omega)⟩ (q6 (j / 12) (by omega))
        · obtain hpf : 12 * p + f = j := by
            obtain ⟨u1, u2⟩ := xLow_spec q8 q7
            rcases Nat.lt_or_ge (12 * p + f) j with g | g
            · exact absurd ⟨by rw [show (12 * p + f) / 12 = p by omega]; exact q5.1, by rw [show (12 * p + f) / 12 = p by omega, show (12 * p + f) % 12 = f by omega]; exact u1⟩ (hlo (12 * p + f) g)
            · rcases Nat.lt_or_ge (j / 12) p with g2 | g2
              · exact absurd ⟨hsp.1, xLow_ex hz (by omega)⟩ (q6 (j / 12) g2)
              · obtain rfl : p = j / 12 := by omega
                rcases Nat.lt_or_ge (j % 12) f with g3 | g3
                · exact absurd hz (u2 _ g3)
                · omega
          obtain rfl : p = j / 12 := by omega
          obtain rfl : f = j % 12 := by omega
          exact ⟨q9, q1, q10, q2, q3⟩))) (m_plC_ok n c _ _ h0 t1 (by rw [E1 _ _ (by omega) (by omega) (by omega) (by omega) (by omega)]; exact t3) (by rw [E1 _ _ (by omega) (by omega) (by omega) (by omega) (by omega)]; exact r1.symm.trans r2) (by omega) hj ((hiff _ (fun v i hv => by rw [show (xv_u (xDrop w (xPut I (j / 12) (j % 12) (nI (300 + a)))) 60 48 (nI 0)) v i = (xDrop w (xPut I (j / 12) (j % 12) (nI (300 + a)))) v i from if_neg (by omega)]; exact E1 v i (by omega) (by omega) (by omega) (by omega) (by omega)) j hj).mpr hsp) (fun i hij q => hlo i hij ((hiff _ (fun v i hv => by rw [show (xv_u (xDrop w (xPut I (j / 12) (j % 12) (nI (300 + a)))) 60 48 (nI 0)) v i = (xDrop w (xPut I (j / 12) (j % 12) (nI (300 + a)))) v i from if_neg (by omega)]; exact E1 v i (by omega) (by omega) (by omega) (by omega) (by omega)) i (by omega)).mp q))) (by rw [mDrop_at, if_neg (by omega), if_neg (by omega), C2.2.2.2 _ _ (by omega) (by omega) (by omega), xv_u_eq]) (fun _ => by rw [xv_u_eq]) hkc hks (fun l5 l6 => ?_)
      refine @hk c _ _ l5 l6 (Inv.set_putsO hI (CP2.cell ?_) CP2.touch CP2.2.2 (hI.ad.cells (fun v i hv => E4 v i (by omega) (by omega) (by omega) (by omega) (by omega) (by omega) (by omega) (by omega) (by omega)) (fun b hb => MK _ (nI_ne2 (a := 0) (by omega) (by omega) (by have := hI.ad.2.2.1; omega)) (nI_ne2 (by have := hI.ad.2.2.1; omega) (by omega) (by have := hI.ad.2.2.1; omega)))) (hI.st.cells (fun v i hv => E4 v i (by omega) (by omega) (by omega) (by omega) (by omega) (by omega) (by omega) (by omega) (by omega)) (fun b hb => MK _ (nI_ne2 (a := 0) (by omega) (by omega) (by omega)) (nI_ne2 (by omega) (by omega) (by omega)))) ⟨w - 1, by omega, ?_, ?_, fun i hi => ?_⟩ ?_)
      · intro q hq k hk9
        rw [E3 _ _ (by omega) (by omega) (by omega) (by omega) (by omega) (by omega)]
        exact C1.ok (fun q hq k hk => (hI.cell q hq k hk).2) (Or.inr (Or.inr (Or.inr ⟨by omega, by omega⟩))) q hq k hk9
      · rw [mDrop_at, if_neg (by omega), if_neg (by omega), C2.2.2.2 _ _ (by omega) (by omega) (by omega), xv_u_ne _ _ _ (by omega), xDrop_at h0, if_pos ⟨rfl, rfl⟩]
      · rw [mDrop_at, if_pos ⟨rfl, rfl⟩]
      · rw [show (mDrop w (mPut (xv_u (xDrop w (xPut I (j / 12) (j % 12) (nI (300 + a)))) 60 48 (nI 0)) (j / 12) (j % 12) (nI (300 + a)))) 40 i = I 40 (i + 1) by
          rw [mDrop_at, if_neg (by omega), if_neg (by omega), C2.2.2.2 _ _ (by omega) (by omega) (by omega), xv_u_ne _ _ _ (by omega), xDrop_at h0, if_neg (by omega), if_pos ⟨rfl, hi⟩]
          exact C1.2.2.2 _ _ (by omega) (by omega) (by omega)]
        rw [show (mDrop w (mPut (xv_u (xDrop w (xPut I (j / 12) (j % 12) (nI (300 + a)))) 60 48 (nI 0)) (j / 12) (j % 12) (nI (300 + a)))) 85 i = I 85 (i + 1) by
          rw [mDrop_at, if_neg (by omega), if_pos ⟨rfl, hi⟩, C2.2.2.2 _ _ (by omega) (by omega) (by omega), xv_u_ne _ _ _ (by omega)]
          exact E1 _ _ (by omega) (by omega) (by omega) (by omega) (by omega)]
        exact t4 (i + 1) (by omega)
      · intro v i h1 h2 h3 h4 h5
        exact E4 v i (by omega) (by omega) (by omega) (by omega) (by omega) (by omega) (by omega) (by omega) (by omega)
theorem fit_iff {c : Nat × Nat} {I K : xv_I} (hI : Inv c I) (hK : ∀ v j, (61 ≤ v ∧ v ≤ 71) → K v j = I v j) {a ct lo hi : Nat} (ha : a < c.1) (hct : ct < 4) (hz : (I (100 + a) 5 = -1 ∧ lo = 0 ∧ hi = 6) ∨ ∃ z, z < 3 ∧ I (100 + a) 5 = nI z ∧ lo = 7 + z ∧ hi = 7 + z) {p : Nat} (hp : p < 10) : mFitPg K c.1 a ct p ↔ (lo ≤ p ∧ p ≤ hi) ∧ xFitPg I c a ct p := by
  obtain ⟨g1, g2, g3, g4⟩ := hI.ad
  obtain ⟨ct9, w, h, a1, a2, a3, a4, a5, a6, a7, a8, a9, a10, a11, a12, a13, -⟩ := g4 a ha
  have e1 : mZone K a p ↔ (lo ≤ p ∧ p ≤ hi) := by
    unfold mZone
    rw [hK 70 _ (by omega), a12]
    rcases hz with ⟨z1, z2, z3⟩ | ⟨z, z1, z2, z3, z4⟩
    · rw [z1, nI_lt2 (by omega) (by omega)]
      constructor
      · rintro (q | q)
        · omega
        · exact absurd rfl q.1
      · exact fun q => Or.inl ⟨rfl, by omega⟩
    · rw [z2, nI_add]
      have n1 : ¬ nI z = -1 := nI_nm1 (by omega)
      constructor
      · rintro (q | q)
        · exact absurd q.1 n1
        · have := nI_inj2 q.2 (by omega) (by omega)
          omega
      · exact fun q => Or.inr ⟨n1, by rw [show p = 7 + z by omega]⟩
  have e2 : (I 69 a = -1 ∨ I 69 a = K 61 p) ↔ (I (100 + a) 4 = -1 ∨ I (100 + a) 4 = I 13 p) := by
    rw [hK 61 _ (by omega), a11, (hI.page p hp).1]
  have e3 : (¬ K 62 p = 0 ∨ I 68 a = 0) ↔ (I (100 + a) 3 = 0 ∨ ¬ I 14 p = 0) := by
    rw [hK 62 _ (by omega), a10, (hI.page p hp).2]
    exact Or.comm
  have e4 : (∀ k, k < c.1 → mFar1 K a ct p k) ↔ xFar I c a ct p := by
    unfold xFar
    have key : ∀ k, k < c.1 → (mFar1 K a ct p k ↔ ¬ (k ≠ a ∧ ¬ I (100 + k) 6 = -1 ∧ I (100 + k) 0 = I (100 + a) 0 ∧ xApart (nI p) (I (100 + k) 6) < I 17 ct)) := fun k hk => by
      unfold mFar1
      rw [hK 71 _ (by omega), hK 65 _ (by omega), hK 65 _ (by omega), hK 64 _ (by omega), ← hI.dist ct hct]
      obtain ⟨ct8, w8, h8, c1, c2, c3, c4, c5, -⟩ := g4 k hk
      rw [c4, c5, a4, a5]
      rcases ad_at (g4 k hk) with ⟨h1, h2⟩ | ⟨p', f, h1, h2, h3, h4, h5, h6⟩
      · rw [h1, h2]
        exact ⟨fun _ q => q.2.1 rfl, fun _ => Or.inr (Or.inl rfl)⟩
      · rw [h3, h6, h5, xApart_comm (nI p') (nI p)]
        have n1 : ¬ nI p' = -1 := nI_nm1 (by omega)
        have n2 : ¬ nI (100 * p' + f) = -1 := nI_nm1 (by omega)
        constructor
        · rintro (q | q | q | q) r
          · exact r.1 q
          · exact n2 q
          · exact q r.2.2.1
          · exact q r.2.2.2
        · intro q
          by_cases q1 : k = a
          · exact Or.inl q1
          · by_cases q2 : nI ct8 = nI ct9
            · exact Or.inr (Or.inr (Or.inr fun r => q ⟨q1, n1, q2, r⟩))
            · exact Or.inr (Or.inr (Or.inl q2))
    exact ⟨fun q k hk => (key k hk).mp (q k hk), fun q k hk => (key k hk).mpr (q k hk)⟩
  unfold mFitPg mKind xFitPg
  rw [e1, hK 69 _ (by omega), hK 68 _ (by omega), e2, e3, e4]
  constructor
  · exact fun q => ⟨q.1.1, q.1.2.1, q.1.2.2, q.2⟩
  · exact fun q => ⟨⟨q.1, q.2.1, q.2.2.1⟩, q.2.2.2⟩
theorem spot_iff {c : Nat × Nat} {I K : xv_I} (hI : Inv c I) (hK : ∀ v j, (61 ≤ v ∧ v ≤ 71) → K v j = I v j) {a ct lo hi : Nat} (ha : a < c.1) (hct : ct < 4) (hz : (I (100 + a) 5 = -1 ∧ lo = 0 ∧ hi = 6) ∨ ∃ z, z < 3 ∧ I (100 + a) 5 = nI z ∧ lo = 7 + z ∧ hi = 7 + z) (w h : Nat) {j : Nat} (hj : j < 120) : mSpot K c.1 a ct w h j ↔ (lo ≤ j / 12 ∧ j / 12 ≤ hi) ∧ xFitPg I c a ct (j / 12) ∧ xFits I (j / 12) w h (j % 12) := by
  have e : mFree K (j / 12) (j % 12) w h ↔ xFits I (j / 12) w h (j % 12) := by
    unfold mFree xFits xFreeR
    constructor
    · exact fun q => ⟨q.1, q.2.1, fun d hd r hr => (hI.cell (j / 12) (by omega) _ (by have := q.1; have := q.2.1; omega)).1.trans ((hK _ _ (by omega)).symm.trans (q.2.2 d hd r hr))⟩
    · exact fun q => ⟨q.1, q.2.1, fun d hd r hr => (hK _ _ (by omega)).trans ((hI.cell (j / 12) (by omega) _ (by have := q.1; have := q.2.1; omega)).1.symm.trans (q.2.2 d hd r hr))⟩
  unfold mSpot
  rw [fit_iff hI hK ha hct hz (by omega), e, and_assoc]
theorem armok_5 (n : Nat) : Arm n 5 := fun MC MS Q c I J kc ks i l5 l6 hi hn hI hkc hks hk => by
  obtain ⟨g1, g2, g3, g4⟩ := hI.ad
  rcases no_or c.1 (I 99 (i + 1)) with ⟨a, ha, e1⟩ | b1
  · obtain hga := g4 a ha
    obtain ⟨ct, w, h, a1, a2, a3, a4, a5, a6, a7, a8, a9, a10, a11, a12, a13, a14⟩ := hga
    rcases a14 with ⟨b1, b2, b3⟩ | ⟨p, f, b1, b2, b3, b4, b5, b6, b7⟩
    · obtain ⟨lo, hi9, hz, hz2⟩ : ∃ lo hi9 : Nat, ((I (100 + a) 5 = -1 ∧ lo = 0 ∧ hi9 = 6) ∨ ∃ z, z < 3 ∧ I (100 + a) 5 = nI z ∧ lo = 7 + z ∧ hi9 = 7 + z) ∧ hi9 < 10 := by
        rcases a13 with q | ⟨z, q1, q2⟩
        · exact ⟨0, 6, Or.inl ⟨q, rfl, rfl⟩, by decide⟩
        · exact ⟨7 + z, 7 + z, Or.inr ⟨z, q1, q2, rfl, rfl⟩, by omega⟩
      rcases fsP_cases (fun j => (lo ≤ j / 12 ∧ j / 12 ≤ hi9) ∧ xFitPg I c a ct (j / 12) ∧ xFits I (j / 12) w h (j % 12)) 120 with ⟨-, hno⟩ | ⟨j, hj, hsp, hlo, -⟩
      · exact arm_5 (dX := 6) (I1 := I) (I2 := xv_u I 60 48 (nI 0)) hi hn (by decide) (fun _ => rfl) (w_place_ok n c c J (by
          rw [e1]
          exact xv_Met.imp (p_place_ok n c I J ha (by omega) a4 a1 g1 g3 a6 a8 a2 a3 hz b1) (fun o s i r j hq => by
            obtain ⟨q1, q2, q3, q4⟩ := hq
            rcases q4 with ⟨q4, q5, -⟩ | ⟨p, f, q4, q5, q6, -⟩
            · exact ⟨q4, q1, q5, q2, q3⟩
            · obtain u1 : (12 * p + f) / 12 = p := by have := q6.2.1; omega
              obtain u2 : (12 * p + f) % 12 = f := by have := q6.2.1; omega
              exact absurd ⟨by rw [u1]; exact ⟨q4, q5⟩, by rw [u1]; exact q6.1, by rw [u1, u2]; exact q6.2.2.1⟩ (hno (12 * p + f) (by have := q6.2.1; omega))))) (by
          rw [e1]
          exact m_place_no n c _ _ ha g3 a5 a1 g2 a7 a9 a2 a3 b2 (fun j hj q => hno j hj ((spot_iff hI (fun v j h => xv_u_ne _ _ _ (by omega)) ha a1 hz w h hj).mp q))) (xv_u_eq _ _ _ _) (fun _ => by rw [xv_u_eq]) hkc hks (fun l5 l6 => by exact hk c _ _ l5 l6 (hI.to (by intro v j h1 h2 h3 h4; simp only [xv_u]; repeat rw [if_neg (by omega)])))
      · obtain ⟨r1, r2, r3⟩ := hsp
        obtain C1 := cC.fill (I := (xv_u (xv_u I (100 + a) 6 (nI (j / 12))) (100 + a) 7 (nI (j % 12)))) (x := nI (100 + a)) (p := j / 12) (f := j % 12) (w := w) (h := h) (by omega) r3.1 r3.2.1
        obtain EA : ∀ v i, v ≠ 100 + a → (xv_u (xv_u I (100 + a) 6 (nI (j / 12))) (100 + a) 7 (nI (j % 12))) v i = I v i := fun v i hv => by rw [xv_u_ne _ _ _ hv, xv_u_ne _ _ _ hv]
        obtain E1 : ∀ v i, (v < 3 ∨ 13 ≤ v) → v ≠ 15 → (v ≠ 1 ∨ i ≠ 6) → v ≠ 100 + a → (xPl2 I a (j / 12) (j % 12) w h) v i = I v i := fun v i h1 h2 h3 h4 => (C1.2.2.2 v i h1 h2 h3).trans (EA v i h4)
        obtain EK : ∀ v i, v = 63 ∨ v = 81 ∨ (v = 60 ∧ i = 3) → (xv_u (xv_u (xPl2 I a (j / 12) (j % 12) w h) 60 48 (nI 0)) 71 a (nI (100 * (j / 12) + j % 12))) v i = I v i := fun v i hv => by
          rw [xv_u_ne _ _ _ (by omega), show (xv_u (xPl2 I a (j / 12) (j % 12) w h) 60 48 (nI 0)) v i = (xPl2 I a (j / 12) (j % 12) w h) v i from if_neg (by omega)]
          exact E1 v i (by omega) (by omega) (by omega) (by omega)
        obtain hz3 : ¬ (0 : Int32) = nI (100 + a) := nI_ne2 (a := 0) (by omega) (by omega) (by omega)
        obtain C2 := mC.fill (I := (xv_u (xv_u (xPl2 I a (j / 12) (j % 12) w h) 60 48 (nI 0)) 71 a (nI (100 * (j / 12) + j % 12)))) (x := nI (100 + a)) (p := j / 12) (f := j % 12) (w := w) (h := h) (by omega) r3.1 r3.2.1 (fun d r hd hr => by rw [EK _ _ (Or.inl rfl), ← (hI.cell (j / 12) (by omega) (j % 12 + 3 * d + r) (by have := r3.1; have := r3.2.1; omega)).1, r3.2.2 d hd r hr]; exact hz3)
        obtain CP := (((cpl.of hI).to (I' := (xv_u (xv_u I (100 + a) 6 (nI (j / 12))) (100 + a) 7 (nI (j % 12)))) (K' := (xv_u (xv_u (xPl2 I a (j / 12) (j % 12) w h) 60 48 (nI 0)) 71 a (nI (100 * (j / 12) + j % 12)))) (fun v i hv => EA v i (by omega)) EK).step C1 C2)
        obtain E3 : ∀ v i, v ≠ 63 → v ≠ 81 → (v ≠ 60 ∨ (i ≠ 3 ∧ i ≠ 48)) → (v ≠ 71 ∨ i ≠ a) → (mPl (xv_u (xPl2 I a (j / 12) (j % 12) w h) 60 48 (nI 0)) a w h j) v i = (xPl2 I a (j / 12) (j % 12) w h) v i := fun v i h1 h2 h3 h4 => by
          unfold mPl
          rw [C2.2.2.2 v i h1 h2 (by omega), show (xv_u (xv_u (xPl2 I a (j / 12) (j % 12) w h) 60 48 (nI 0)) 71 a (nI (100 * (j / 12) + j % 12))) v i = (xv_u (xPl2 I a (j / 12) (j % 12) w h) 60 48 (nI 0)) v i from if_neg (by omega)]
          exact if_neg (by omega)
        obtain E4 : ∀ v i, v ≠ 63 → v ≠ 81 → (v ≠ 60 ∨ (i ≠ 3 ∧ i ≠ 48)) → (v ≠ 71 ∨ i ≠ a) → (v < 3 ∨ 13 ≤ v) → v ≠ 15 → (v ≠ 1 ∨ i ≠ 6) → v ≠ 100 + a → (mPl (xv_u (xPl2 I a (j / 12) (j % 12) w h) 60 48 (nI 0)) a w h j) v i = I v i := fun v i h1 h2 h3 h4 h5 h6 h7 h8 => (E3 v i h1 h2 h3 h4).trans (E1 v i h5 h6 h7 h8)
        obtain E7 : (mPl (xv_u (xPl2 I a (j / 12) (j % 12) w h) 60 48 (nI 0)) a w h j) 71 a = nI (100 * (j / 12) + j % 12) := by
          unfold mPl
          rw [C2.2.2.2 _ _ (by omega) (by omega) (by omega)]
          exact xv_u_eq _ _ _ _
        obtain Ea : ∀ i, (mPl (xv_u (xPl2 I a (j / 12) (j % 12) w h) 60 48 (nI 0)) a w h j) (100 + a) i = (xv_u (xv_u I (100 + a) 6 (nI (j / 12))) (100 + a) 7 (nI (j % 12))) (100 + a) i := fun i => by
          rw [E3 _ _ (by omega) (by omega) (by omega) (by omega)]
          exact C1.2.2.2 _ _ (by omega) (by omega) (by omega)
        obtain CP2 : cpl (mPl (xv_u (xPl2 I a (j / 12) (j % 12) w h) 60 48 (nI 0)) a w h j) (mPl (xv_u (xPl2 I a (j / 12) (j % 12) w h) 60 48 (nI 0)) a w h j) := CP.to (fun v i hv => E3 v i (by omega) (by omega) (by omega) (by omega)) (fun v i hv => rfl)
        obtain hfree : ∀ q, q < 10 → ∀ k, k < 12 → inR (j / 12) (j % 12) w h q k → I (3 + q) k = 0 := fun q _ k _ s => by
          obtain ⟨s1, d, r, s2, s3, s4⟩ := s
          rw [s1, s4]
          exact r3.2.2 d s2 r s3
        obtain MK : ∀ y, ¬ (0 : Int32) = y → ¬ nI (100 + a) = y → ∀ p, p < 10 → ∀ k, k < 12 → ((mPl (xv_u (xPl2 I a (j / 12) (j % 12) w h) 60 48 (nI 0)) a w h j) (3 + p) k = y ↔ I (3 + p) k = y) := fun y h1 h2 q hq k hk => by
          rw [E3 _ _ (by omega) (by omega) (by omega) (by omega)]
          exact (C1.mark h2 (fun q hq k hk s r => h1 ((hfree q hq k hk s).symm.trans ((EA _ _ (by omega)).symm.trans r))) q hq k hk).trans (by rw [EA _ _ (by omega)])
        refine arm_5 (dX := 6) (I1 := (xPl2 I a (j / 12) (j % 12) w h)) (I2 := (mPl (xv_u (xPl2 I a (j / 12) (j % 12) w h) 60 48 (nI 0)) a w h j)) hi hn (by decide) (fun i => E1 _ _ (by omega) (by omega) (by omega) (by omega)) (w_place_ok n c c J (v := nI (100 * (j / 12) + j % 12)) (by
          rw [e1]
          exact xv_Met.imp (p_place_ok n c I J ha (by omega) a4 a1 g1 g3 a6 a8 a2 a3 hz b1) (fun o s i r jj hq => by
            obtain ⟨q1, q2, q3, q4⟩ := hq
            obtain hspot : xSpot I c a ct w h (j / 12) (j % 12) := ⟨r2, by omega, r3, fun g hg q => absurd ⟨by rw [show (12 * (j / 12) + g) / 12 = j / 12 by omega]; exact r1, by rw [show (12 * (j / 12) + g) / 12 = j / 12 by omega]; exact r2, by rw [show (12 * (j / 12) + g) / 12 = j / 12 by omega, show (12 * (j / 12) + g) % 12 = g by omega]; exact q⟩ (hlo (12 * (j / 12) + g) (by omega))⟩
            rcases q4 with ⟨-, -, q6⟩ | ⟨p, f, q4, q5, q6, q7, q8, q9⟩
            · exact absurd hspot (q6 _ r1.1 r1.2 _)
            · obtain hpf : 12 * p + f = j := by
                obtain ⟨u1, u2, u3, u4⟩ := q6
                rcases Nat.lt_or_ge (12 * p + f) j with g | g
                · exact absurd ⟨by rw [show (12 * p + f) / 12 = p by omega]; exact ⟨q4, q5⟩, by rw [show (12 * p + f) / 12 = p by omega]; exact u1, by rw [show (12 * p + f) / 12 = p by omega, show (12 * p + f) % 12 = f by omega]; exact u3⟩ (hlo (12 * p + f) g)
                · rcases Nat.lt_or_ge (j / 12) p with g2 | g2
                  · exact absurd hspot (q7 _ r1.1 g2 _)
                  · obtain rfl : p = j / 12 := by omega
                    rcases Nat.lt_or_ge (j % 12) f with g3 | g3
                    · exact absurd r3 (u4 _ g3)
                    · omega
              obtain u9 := q6.2.1
              obtain rfl : p = j / 12 := by omega
              obtain rfl : f = j % 12 := by omega
              exact ⟨q8, q1, q9, q2, q3⟩))) (by
          rw [e1]
          exact m_place_ok n c _ _ ha g3 (by rw [E1 _ _ (by omega) (by omega) (by omega) (by omega)]; exact a5) a1 (by rw [E1 _ _ (by omega) (by omega) (by omega) (by omega)]; exact g2) (by rw [E1 _ _ (by omega) (by omega) (by omega) (by omega)]; exact a7) (by rw [E1 _ _ (by omega) (by omega) (by omega) (by omega)]; exact a9) a2 a3 (by rw [E1 _ _ (by omega) (by omega) (by omega) (by omega)]; exact b2) hj ((spot_iff hI (fun v i hv => by rw [show (xv_u (xPl2 I a (j / 12) (j % 12) w h) 60 48 (nI 0)) v i = (xPl2 I a (j / 12) (j % 12) w h) v i from if_neg (by omega)]; exact E1 v i (by omega) (by omega) (by omega) (by omega)) ha a1 hz w h hj).mpr ⟨r1, r2, r3⟩) (fun i hij q => hlo i hij ((spot_iff hI (fun v i hv => by rw [show (xv_u (xPl2 I a (j / 12) (j % 12) w h) 60 48 (nI 0)) v i = (xPl2 I a (j / 12) (j % 12) w h) v i from if_neg (by omega)]; exact E1 v i (by omega) (by omega) (by omega) (by omega)) ha a1 hz w h (by omega)).mp q))) (by unfold mPl; rw [C2.2.2.2 _ _ (by omega) (by omega) (by omega)]; simp [xv_u]) (fun _ => by rw [xv_u_eq]) hkc hks (fun l5 l6 => ?_)
        refine @hk c _ _ l5 l6 (Inv.set_puts hI (CP2.cell ?_) CP2.touch CP2.2.2 ⟨(E4 _ _ (by omega) (by omega) (by omega) (by omega) (by omega) (by omega) (by omega) (by omega)).trans g1, (E4 _ _ (by omega) (by omega) (by omega) (by omega) (by omega) (by omega) (by omega) (by omega)).trans g2, g3, fun b hb => ?_⟩ (hI.st.cells (fun v i hv => E4 v i (by omega) (by omega) (by omega) (by omega) (by omega) (by omega) (by omega) (by omega)) (fun b hb => MK _ (nI_ne2 (a := 0) (by omega) (by omega) (by have := hI.st.2.2.1; omega)) (nI_ne2 (by omega) (by omega) (by have := hI.st.2.2.1; omega)))) ?_)
        · intro q hq k hk9
          rw [E3 _ _ (by omega) (by omega) (by omega) (by omega)]
          exact C1.ok (fun q hq k hk => by rw [EA _ _ (by omega)]; exact (hI.cell q hq k hk).2) (Or.inr (Or.inl ⟨by omega, by omega⟩)) q hq k hk9
        · by_cases e : b = a
          · subst e
            refine ⟨ct, w, h, a1, a2, a3, ?_⟩
            rw [Ea 0, Ea 1, Ea 2, Ea 3, Ea 4, Ea 5, Ea 6, Ea 7, E7, E4 65 _ (by omega) (by omega) (by omega) (by omega) (by omega) (by omega) (by omega) (by omega), E4 66 _ (by omega) (by omega) (by omega) (by omega) (by omega) (by omega) (by omega) (by omega), E4 67 _ (by omega) (by omega) (by omega) (by omega) (by omega) (by omega) (by omega) (by omega), E4 68 _ (by omega) (by omega) (by omega) (by omega) (by omega) (by omega) (by omega) (by omega), E4 69 _ (by omega) (by omega) (by omega) (by omega) (by omega) (by omega) (by omega) (by omega), E4 70 _ (by omega) (by omega) (by omega) (by omega) (by omega) (by omega) (by omega) (by omega)]
            obtain En : ∀ i, i ≠ 6 → i ≠ 7 → (xv_u (xv_u I (100 + b) 6 (nI (j / 12))) (100 + b) 7 (nI (j % 12))) (100 + b) i = I (100 + b) i := fun i h1 h2 => by rw [xv_u_nk _ _ _ h2, xv_u_nk _ _ _ h1]
            rw [En 0 (by omega) (by omega), En 1 (by omega) (by omega), En 2 (by omega) (by omega), En 3 (by omega) (by omega), En 4 (by omega) (by omega), En 5 (by omega) (by omega)]
            refine ⟨a4, a5, a6, a7, a8, a9, a10, a11, a12, a13, Or.inr ⟨j / 12, j % 12, by omega, r3.1, r3.2.1, by rw [xv_u_nk _ _ _ (by omega), xv_u_eq], by rw [xv_u_eq], rfl, fun q hq k hk => ?_⟩⟩
            rw [E3 _ _ (by omega) (by omega) (by omega) (by omega)]
            by_cases s : inR (j / 12) (j % 12) w h q k
            · exact ⟨fun _ => s, fun _ => (C1.1 q hq k hk).1 s⟩
            · refine ⟨fun r => absurd r ?_, fun r => absurd r s⟩
              rw [show xPl2 I b (j / 12) (j % 12) w h (3 + q) k = _ from (C1.1 q hq k hk).2 s, EA _ _ (by omega)]
              exact b3 q hq k hk
          · exact (g4 b hb).cells (fun i => E4 _ _ (by omega) (by omega) (by omega) (by omega) (by omega) (by omega) (by omega) (by omega)) (fun v h1 h2 => E4 _ _ (by omega) (by omega) (by omega) (by omega) (by omega) (by omega) (by omega) (by omega)) (MK _ (nI_ne2 (a := 0) (by omega) (by omega) (by omega)) (nI_ne2 (by omega) (by omega) (by omega)))
        · intro v i h1 h2 h3 h4 h5
          exact E4 v i (by omega) (by omega) (by omega) (by omega) (by omega) (by omega) (by omega) (by omega)
    · exact arm_5 (dX := 6) (I1 := I) (I2 := xv_u I 60 48 (nI 2)) (out := nI 0) hi hn (by decide) (fun _ => rfl) (w_place_S n c c J (by rw [e1]; exact p_place_b n c I J ha (by omega) (by rw [b4]; exact nI_nm1 (by omega)))) (by rw [e1]; exact m_place_b n c _ _ ha g2 g3 (by rw [b6]; exact nI_nm1 (by omega))) (xv_u_eq _ _ _ _) (fun q => absurd q (by decide)) hkc hks (fun l5 l6 => by exact hk c _ _ l5 l6 (hI.to (by intro v j h1 h2 h3 h4; simp only [xv_u]; repeat rw [if_neg (by omega)])))
  · exact arm_5 (dX := 6) (I1 := I) (I2 := xv_u I 60 48 (nI 1)) (out := nI 0) hi hn (by decide) (fun _ => rfl) (w_place_I n c c J (p_place_a n c I J b1)) (m_place_a n c _ _ b1 g2 g3) (xv_u_eq _ _ _ _) (fun q => absurd q (by decide)) hkc hks (fun l5 l6 => by exact hk c _ _ l5 l6 (hI.to (by intro v j h1 h2 h3 h4; simp only [xv_u]; repeat rw [if_neg (by omega)])))