theorem Inv.set_person {c : Nat × Nat} {I I' : xv_I} (h : Inv c I) (gsign : gSign I') (ghold : gHold I') (ghere : gHere I') (h2 : ∀ v j, (v < 20 ∨ 28 < v) → v < 300 → (v < 94 ∨ 99 < v) → (v ≠ 60 ∨ (j ≠ 43 ∧ j ≠ 47 ∧ j ≠ 48)) → ¬ ((v = 15 ∨ v = 81) ∨ (v = 16 ∨ v = 82) ∨ ((v = 1 ∧ j = 5) ∨ v = 80)) → I' v j = I v j) : Inv c I' :=
  ⟨h.page.to fun v j hv => h2 v j (by omega) (by omega) (by omega) (by omega) (by omega),
   h.cell.to fun v j hv => h2 v j (by omega) (by omega) (by omega) (by omega) (by omega),
   h.touch.to fun v j hv => h2 v j (by omega) (by omega) (by omega) (by omega) (by omega),
   gsign,
   ghold,
   ghere,
   h.dist.to fun v j hv => h2 v j (by omega) (by omega) (by omega) (by omega) (by omega),
   h.ad.to fun v j hv => h2 v j (by omega) (by omega) (by omega) (by omega) (by omega),
   h.st.to fun v j hv => h2 v j (by omega) (by omega) (by omega) (by omega) (by omega),
   h.ed.to fun v j hv => h2 v j (by omega) (by omega) (by omega) (by omega) (by omega),
   h.owe.to fun v j hv => h2 v j (by omega) (by omega) (by omega) (by omega) (by omega),
   h.min.to fun v j hv => h2 v j (by omega) (by omega) (by omega) (by omega) (by omega),
   h.tr.to fun v j hv => h2 v j (by omega) (by omega) (by omega) (by omega) (by omega),
   h.word.to fun v j hv => h2 v j (by omega) (by omega) (by omega) (by omega) (by omega),
   h.wei.to fun v j hv => h2 v j (by omega) (by omega) (by omega) (by omega) (by omega),
   h.wire.to fun v j hv => h2 v j (by omega) (by omega) (by omega) (by omega) (by omega),
   h.puz.to fun v j hv => h2 v j (by omega) (by omega) (by omega) (by omega) (by omega),
   h.new.to fun v j hv => h2 v j (by omega) (by omega) (by omega) (by omega) (by omega)⟩
theorem Inv.set_here {c : Nat × Nat} {I I' : xv_I} (h : Inv c I) (ghere : gHere I') (h2 : ∀ v j, (v < 20 ∨ 28 < v) → v < 300 → (v < 94 ∨ 99 < v) → (v ≠ 60 ∨ (j ≠ 43 ∧ j ≠ 47 ∧ j ≠ 48)) → ¬ (((v = 1 ∧ j = 5) ∨ v = 80)) → I' v j = I v j) : Inv c I' :=
  ⟨h.page.to fun v j hv => h2 v j (by omega) (by omega) (by omega) (by omega) (by omega),
   h.cell.to fun v j hv => h2 v j (by omega) (by omega) (by omega) (by omega) (by omega),
   h.touch.to fun v j hv => h2 v j (by omega) (by omega) (by omega) (by omega) (by omega),
   h.sign.to fun v j hv => h2 v j (by omega) (by omega) (by omega) (by omega) (by omega),
   h.hold.to fun v j hv => h2 v j (by omega) (by omega) (by omega) (by omega) (by omega),
   ghere,
   h.dist.to fun v j hv => h2 v j (by omega) (by omega) (by omega) (by omega) (by omega),
   h.ad.to fun v j hv => h2 v j (by omega) (by omega) (by omega) (by omega) (by omega),
   h.st.to fun v j hv => h2 v j (by omega) (by omega) (by omega) (by omega) (by omega),
   h.ed.to fun v j hv => h2 v j (by omega) (by omega) (by omega) (by omega) (by omega),
   h.owe.to fun v j hv => h2 v j (by omega) (by omega) (by omega) (by omega) (by omega),
   h.min.to fun v j hv => h2 v j (by omega) (by omega) (by omega) (by omega) (by omega),
   h.tr.to fun v j hv => h2 v j (by omega) (by omega) (by omega) (by omega) (by omega),
   h.word.to fun v j hv => h2 v j (by omega) (by omega) (by omega) (by omega) (by omega),
   h.wei.to fun v j hv => h2 v j (by omega) (by omega) (by omega) (by omega) (by omega),
   h.wire.to fun v j hv => h2 v j (by omega) (by omega) (by omega) (by omega) (by omega),
   h.puz.to fun v j hv => h2 v j (by omega) (by omega) (by omega) (by omega) (by omega),
   h.new.to fun v j hv => h2 v j (by omega) (by omega) (by omega) (by omega) (by omega)⟩
theorem pb_cl : ∀ b, b < 64 → ∀ q, q < 6 → nI b &&& (nI (2 ^ q) ^^^ (-1)) = nI (b &&& (63 ^^^ 2 ^ q)) ∧ b &&& (63 ^^^ 2 ^ q) < 64 := by decide +kernel
theorem pb_tc : ∀ b, b < 64 → ∀ q, q < 6 → ∀ r, r < 6 → (b &&& (63 ^^^ 2 ^ q)).testBit r = (if r = q then false else b.testBit r) := by decide +kernel
theorem xLv1_at (y : Int32) (v j : Nat) : ∀ (m k : Nat) (I : xv_I), it (xLeave1 y) m k I v j = if (v = 15 ∨ v = 16) ∧ k ≤ j ∧ j < k + m then I v j &&& y else I v j
  | 0, k, I => by rw [it, if_neg (by omega)]
  | m + 1, k, I => by
    have e : xLeave1 y k I v j = if (v = 15 ∨ v = 16) ∧ j = k then I v j &&& y else I v j := by
      unfold xLeave1 xv_u
      by_cases h : j = k
      · subst h
        by_cases h1 : v = 15
        · subst h1
          simp
        · by_cases h2 : v = 16
          · subst h2
            simp
          · simp [h1, h2]
      · simp [h]
    rw [it, xLv1_at y v j m (k + 1), e]
    by_cases h : (v = 15 ∨ v = 16) ∧ k ≤ j ∧ j < k + (m + 1)
    · rw [if_pos h]
      by_cases h2 : j = k
      · rw [if_neg (by omega), if_pos ⟨h.1, h2⟩]
      · rw [if_pos (by omega), if_neg (by omega)]
    · rw [if_neg h, if_neg (by omega), if_neg (by omega)]
theorem xLv_at (q : Nat) (I : xv_I) (v j : Nat) : xLeave q I v j = if (v = 15 ∨ v = 16) ∧ j < 10 then I v j &&& (nI (2 ^ q) ^^^ (-1)) else if v = 1 ∧ j = 5 then I 1 5 &&& (nI (2 ^ q) ^^^ (-1)) else I v j := by
  unfold xLeave
  rw [xLv1_at]
  unfold xv_u
  by_cases h : (v = 15 ∨ v = 16) ∧ j < 10
  · rw [if_pos h, if_pos (by omega), if_neg (by omega)]
  · rw [if_neg h, if_neg (by omega)]
theorem mLv1_at (q : Nat) (hq : q < 6) (v j : Nat) : ∀ (m k : Nat) (I : xv_I), it (mLv1 q) m k I v j = if (v = 81 ∨ v = 82) ∧ j % 6 = q ∧ 6 * k ≤ j ∧ j < 6 * (k + m) then nI 0 else I v j
  | 0, k, I => by rw [it, if_neg (by omega)]
  | m + 1, k, I => by
    have e : mLv1 q k I v j = if (v = 81 ∨ v = 82) ∧ j = 6 * k + q then nI 0 else I v j := by
      unfold mLv1 xv_u
      by_cases h : j = 6 * k + q
      · by_cases h1 : v = 82
        · rw [if_pos ⟨h1, h⟩, if_pos ⟨Or.inr h1, h⟩]
        · by_cases h2 : v = 81
          · rw [if_neg (by omega), if_pos ⟨h2, h⟩, if_pos ⟨Or.inl h2, h⟩]
          · rw [if_neg (by omega), if_neg (by omega), if_neg (by omega)]
      · rw [if_neg (by omega), if_neg (by omega), if_neg (by omega)]
    rw [it, mLv1_at q hq v j m (k + 1), e]
    by_cases h : (v = 81 ∨ v = 82) ∧ j % 6 = q ∧ 6 * k ≤ j ∧ j < 6 * (k + (m + 1))
    · rw [if_pos h]
      by_cases h2 : j = 6 * k + q
      · rw [if_neg (by omega), if_pos ⟨h.1, h2⟩]
      · rw [if_pos (by omega)]
    · rw [if_neg h, if_neg (by omega), if_neg (by omega)]
theorem mLv_at {q : Nat} (hq : q < 6) (I : xv_I) (v j : Nat) : mLv q I v j = if (v = 81 ∨ v = 82) ∧ j % 6 = q ∧ j < 60 then nI 0 else if v = 80 ∧ j = q then nI 1 else I v j := by
  unfold mLv
  rw [mLv1_at q hq]
  unfold xv_u
  by_cases h : (v = 81 ∨ v = 82) ∧ j % 6 = q ∧ j < 60
  · rw [if_pos h, if_pos (by omega)]
  · rw [if_neg h, if_neg (by omega)]
theorem lv_bits {I : xv_I} {v w p q : Nat} (hq : q < 6) (hp : p < 10) (hv : v = 15 ∧ w = 81 ∨ v = 16 ∧ w = 82) (h : gBits (I v p) (fun r => I w (6 * p + r))) : gBits (mLv q (xv_u (xLeave q I) 60 48 (nI 0)) v p) (fun r => mLv q (xv_u (xLeave q I) 60 48 (nI 0)) w (6 * p + r)) := by
  obtain ⟨b, h1, h2, h3⟩ := h
  refine ⟨b &&& (63 ^^^ 2 ^ q), (pb_cl b h1 q hq).2, ?_, fun r hr => ?_⟩
  · rw [mLv_at hq, if_neg (by omega), if_neg (by omega), xv_u_ne _ _ _ (by omega), xLv_at, if_pos (by omega), h2, (pb_cl b h1 q hq).1]
  · show mLv q (xv_u (xLeave q I) 60 48 (nI 0)) w (6 * p + r) = _
    rw [pb_tc b h1 q hq r hr, mLv_at hq]
    by_cases e : r = q
    · rw [if_pos (by omega), if_pos e]
      rfl
    · rw [if_neg (by omega), if_neg (by omega), if_neg e, xv_u_ne _ _ _ (by omega), xLv_at, if_neg (by omega), if_neg (by omega)]
      exact h3 r hr
theorem armok_13 (n : Nat) : Arm n 13 := fun MC MS Q c I J kc ks i l5 l6 hi hn hI hkc hks hk => by
  rcases rg_or 6 (by decide) (by decide) (I 99 (i + 1)) with ⟨q, hq, e1⟩ | ⟨b1, b2, b3⟩
  · obtain ⟨bh, a1, a2, a3⟩ := hI.here
    obtain a4 := a3 q hq
    by_cases ht : bh.testBit q = true
    · obtain haw : I 80 q = 0 := by rw [a4, if_pos ht]; rfl
      obtain hth : ¬ I 1 5 &&& nI (2 ^ q) = 0 := by rw [a2, pb_and hq, ht]; decide
      obtain e5 : xLeave q I 1 5 = nI (bh &&& (63 ^^^ 2 ^ q)) := by rw [xLv_at, if_neg (by decide), if_pos (by decide), a2, (pb_cl bh a1 q hq).1]
      obtain hv : bi (¬ xLeave q I 1 5 &&& nI (2 ^ q) = 0) = nI 0 := bi_f (fun h => h (by rw [e5, pb_and hq, pb_tc bh a1 q hq q hq, if_pos rfl]))
      refine arm_13 (dX := 8) (I1 := (xLeave q I)) (I2 := (mLv q (xv_u (xLeave q I) 60 48 (nI 0)))) (out := nI 0) hi hn (by decide) (fun j => by rw [xLv_at, if_neg (by omega), if_neg (by omega)]) (w_person_ok n c c J (by rw [e1]; exact p_person_out n c I J hq hth)) (by rw [e1]; exact m_person_out n c _ _ hq (by rw [xLv_at, if_neg (by omega), if_neg (by omega)]; exact haw)) (by rw [mLv_at hq, if_neg (by omega), if_neg (by omega), xv_u_eq]) (fun _ => by rw [xv_u_eq, hv]) hkc hks (fun l5 l6 => ?_)
      refine @hk c _ _ l5 l6 (Inv.set_person hI (fun p hp => lv_bits hq hp (Or.inl ⟨rfl, rfl⟩) (hI.sign p hp)) (fun p hp => lv_bits hq hp (Or.inr ⟨rfl, rfl⟩) (hI.hold p hp)) ⟨bh &&& (63 ^^^ 2 ^ q), (pb_cl bh a1 q hq).2, ?_, fun r hr => ?_⟩ ?_)
      · rw [mLv_at hq, if_neg (by omega), if_neg (by omega), xv_u_ne _ _ _ (by decide), e5]
      · rw [pb_tc bh a1 q hq r hr, mLv_at hq, if_neg (by omega)]
        by_cases e : r = q
        · rw [if_pos ⟨rfl, e⟩, if_pos e]
          rfl
        · rw [if_neg (by omega), if_neg e, xv_u_ne _ _ _ (by decide), xLv_at, if_neg (by omega), if_neg (by omega)]
          exact a3 r hr
      · intro v j h1 h2 h3 h4 h5
        rw [mLv_at hq, if_neg (by omega), if_neg (by omega)]
        unfold xv_u
        rw [if_neg (by omega), xLv_at, if_neg (by omega), if_neg (by omega)]
    · obtain haw : ¬ I 80 q = 0 := by rw [a4, if_neg ht]; decide
      obtain hth : ¬ ¬ I 1 5 &&& nI (2 ^ q) = 0 := by rw [a2, pb_and hq]; simp [ht]
      obtain e5 : (xv_u I 1 5 (I 1 5 ||| nI (2 ^ q))) 1 5 = nI (bh ||| 2 ^ q) := by rw [xv_u_eq, a2, (pb_or bh a1 q hq).1]
      obtain hv : bi (¬ (xv_u I 1 5 (I 1 5 ||| nI (2 ^ q))) 1 5 &&& nI (2 ^ q) = 0) = nI 1 := bi_t (fun h => by
        rw [e5, pb_and hq, pb_to bh a1 q hq q hq, if_pos rfl] at h
        exact absurd h (by decide))
      refine arm_13 (dX := 8) (I1 := (xv_u I 1 5 (I 1 5 ||| nI (2 ^ q)))) (I2 := (xv_u (xv_u (xv_u I 1 5 (I 1 5 ||| nI (2 ^ q))) 60 48 (nI 0)) 80 q (nI 0))) (out := nI 1) hi hn (by decide) (fun j => by simp only [xv_u]; repeat rw [if_neg (by omega)]) (w_person_ok n c c J (by rw [e1]; exact p_person_in n c I J hq hth)) (by rw [e1]; exact m_person_in n c _ _ hq (by rw [xv_u_ne _ _ _ (by decide)]; exact haw)) (by simp [xv_u]) (fun _ => by rw [xv_u_eq, hv]) hkc hks (fun l5 l6 => ?_)
      refine @hk c _ _ l5 l6 (Inv.set_here hI ⟨bh ||| 2 ^ q, (pb_or bh a1 q hq).2, ?_, fun r hr => ?_⟩ ?_)
      · rw [xv_u_ne _ _ _ (by decide), xv_u_ne _ _ _ (by decide), e5]
      · rw [pb_to bh a1 q hq r hr]
        by_cases e : r = q
        · simp [xv_u, e]
        · simp [xv_u, e]
          exact a3 r hr
      · intro v j h1 h2 h3 h4 h5
        simp only [xv_u]
        repeat rw [if_neg (by omega)]
  · exact arm_13 (dX := 8) (I1 := I) (I2 := xv_u I 60 48 (nI 1)) (out := nI 0) hi hn (by decide) (fun _ => rfl) (w_person_I n c c J (p_person_a n c I J b3)) (m_person_a n c _ _ b2) (xv_u_eq _ _ _ _) (fun q => absurd q (by decide)) hkc hks (fun l5 l6 => by exact hk c _ _ l5 l6 (hI.to (by intro v j h1 h2 h3 h4; simp only [xv_u]; repeat rw [if_neg (by omega)])))
theorem fsP_cg {P Q : Nat → Prop} {n : Nat} (h : ∀ k, k < n → (P k ↔ Q k)) : fsP P n = fsP Q n := by
  rcases fsP_cases P n with ⟨h1, h2⟩ | ⟨k, h1, h2, h3, h4⟩
  · rw [h1, fsP_no fun j hj q => h2 j hj ((h j hj).mpr q)]
  · rw [h4, fsP_eq (fun j hj q => h3 j hj ((h j (by omega)).mpr q)) ((h k h1).mp h2) h1]
theorem alike_iff {I I' : xv_I} {x : Int32} {k a b : Nat} (hx : x = nI a) (ha : a < 65536) (hb : b < 65536) (h1 : I 49 k = nI b) (h2 : I' 91 k = I 49 k) : xAlike I x k ↔ mAlike I' x k := by
  unfold xAlike mAlike
  have e1 : b &&& a < 65536 := Nat.lt_of_le_of_lt Nat.and_le_left hb
  have e2 : b ||| a < 65536 := Nat.or_lt_two_pow (n := 16) hb ha
  rw [h2, h1, hx, fa_and, fa_and, fa_or, fa_or, Nat.and_comm a b, Nat.or_comm a b, bc_eq e1, bc_eq e2]
theorem armok_30 (n : Nat) : Arm n 30 := fun MC MS Q c I J kc ks i l5 l6 hi hn hI hkc hks hk => by
  obtain ⟨w, g1, g2, g3, g4⟩ := hI.wire
  by_cases hx : okR 0 65535 (I 99 (i + 1))
  · by_cases hy : okR 0 9 (I 99 (i + 2))
    · obtain ⟨a, ha, ex⟩ := okR_nat hx (by decide)
      obtain hal : ∀ I', (∀ j, I' 91 j = I 91 j) → fsP (mAlike I' (I 99 (i + 1))) w = fsP (xAlike I (I 99 (i + 1))) w := fun I' h => (fsP_cg fun k hk => by
        obtain ⟨q1, q2, b, q3, q4⟩ := g4 k hk
        exact alike_iff ex ha q3 q4 ((h k).trans q2.symm)).symm
      rcases fsP_cases (xAlike I (I 99 (i + 1))) w with ⟨h1, -⟩ | ⟨k, hk9, -, -, h1⟩
      · rcases Nat.lt_or_ge w 12 with hw | hw
        · refine arm_30 (dX := 8) (I1 := (xv_u (xv_u (xv_u I 49 w (I 99 (i + 1))) 50 w (I 99 (i + 2))) 48 2 (nI (w + 1)))) (I2 := (xv_u (xv_u (xv_u (xv_u (xv_u (xv_u (xv_u I 49 w (I 99 (i + 1))) 50 w (I 99 (i + 2))) 48 2 (nI (w + 1))) 60 48 (nI 0)) 91 w (I 99 (i + 1))) 92 w (I 99 (i + 2))) 60 38 (nI (w + 1)))) hi hn (by decide) (fun j => by simp only [xv_u]; repeat rw [if_neg (by omega)]) (w_wire_ok n c c J (p_wire_new n c I J hx hy g1 g2 h1 hw)) (m_wire_new n c _ _ g1 (by simp [xv_u, g3]) hx hy ((hal _ (fun j => by simp [xv_u])).trans h1) hw) (by simp [xv_u]) (fun _ => by rw [xv_u_eq]) hkc hks (fun l5 l6 => ?_)
          refine @hk c _ _ l5 l6 (Inv.set_wire hI ⟨w + 1, by omega, by simp [xv_u], by simp [xv_u], fun j hj => ?_⟩ ?_)
          · by_cases e : j = w
            · simp [xv_u, e]
              exact ⟨a, by omega, ex⟩
            · obtain q := g4 j (by omega)
              simp [xv_u, e]
              exact q
          · intro v j h1 h2 h3 h4 h5
            simp only [xv_u]
            repeat rw [if_neg (by omega)]
        · obtain rfl : w = 12 := by omega
          exact arm_30 hi hn (by decide) (fun _ => rfl) (w_wire_S n c c J (p_wire_c n c I J hx hy g1 g2 h1 rfl)) (m_wire_c n c _ _ g1 g3 hx hy ((hal I (fun _ => rfl)).trans h1) rfl) (xv_u_eq _ _ _ _) (fun q => absurd q (by decide)) hkc hks (fun l5 l6 => by exact hk c _ _ l5 l6 (hI.to (by intro v j h1 h2 h3 h4; simp only [xv_u]; repeat rw [if_neg (by omega)])))
      · refine arm_30 (dX := 8) (I1 := (xMerge k (I 99 (i + 1)) (I 99 (i + 2)) I)) (I2 := (mMerge k (I 99 (i + 1)) (I 99 (i + 2)) (xv_u (xMerge k (I 99 (i + 1)) (I 99 (i + 2)) I) 60 48 (nI 0)))) hi hn (by decide) (fun j => by simp only [xMerge, xv_u]; repeat rw [if_neg (by omega)]) (w_wire_ok n c c J (p_wire_old n c I J hx hy g1 g2 hk9 h1)) (m_wire_old n c _ _ g1 (by simp [xMerge, xv_u, g3]) hx hy hk9 ((hal _ (fun j => by simp [xMerge, xv_u])).trans h1)) (by simp [mMerge, xv_u]) (fun _ => by rw [xv_u_eq]) hkc hks (fun l5 l6 => ?_)
        refine @hk c _ _ l5 l6 (Inv.set_wire hI ⟨w, g1, by simp [mMerge, xMerge, xv_u, g2], by simp [mMerge, xMerge, xv_u, g3], fun j hj => ?_⟩ ?_)
        · obtain ⟨q1, q2, b, q3, q4⟩ := g4 j hj
          by_cases e : j = k
          · subst e
            refine ⟨?_, ?_, b ||| a, Nat.or_lt_two_pow (n := 16) q3 (by omega), ?_⟩
            · simp [mMerge, xMerge, xv_u]
              rw [q1]
              by_cases g : I 92 j < (I 99 (i + 2))
              · rw [if_pos g, if_neg (fun r => (fa_of_lt g).2.1 r)]
              · rw [if_neg g, if_pos (fa_of_nlt g)]
            · simp [mMerge, xMerge, xv_u]
              rw [q2]
            · simp [mMerge, xMerge, xv_u]
              rw [q4, ex, fa_or]
          · simp [mMerge, xMerge, xv_u, e]
            exact ⟨q1, q2, b, q3, q4⟩
        · intro v j h1 h2 h3 h4 h5
          simp only [mMerge, xMerge, xv_u]
          repeat rw [if_neg (by omega)]
    · exact arm_30 hi hn (by decide) (fun _ => rfl) (w_wire_A n c c J (p_wire_b n c I J hx hy)) (m_wire_b n c _ _ g1 g3 hx (okR_x hy)) (xv_u_eq _ _ _ _) (fun q => absurd q (by decide)) hkc hks (fun l5 l6 => by exact hk c _ _ l5 l6 (hI.to (by intro v j h1 h2 h3 h4; simp only [xv_u]; repeat rw [if_neg (by omega)])))
  · exact arm_30 hi hn (by decide) (fun _ => rfl) (w_wire_A n c c J (p_wire_a n c I J hx)) (m_wire_a n c _ _ g1 g3 (okR_x hx)) (xv_u_eq _ _ _ _) (fun q => absurd q (by decide)) hkc hks (fun l5 l6 => by exact hk c _ _ l5 l6 (hI.to (by intro v j h1 h2 h3 h4; simp only [xv_u]; repeat rw [if_neg (by omega)])))