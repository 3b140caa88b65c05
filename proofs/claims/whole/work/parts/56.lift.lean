theorem Inv.set_puts {c : Nat × Nat} {I I' : xv_I} (h : Inv c I) (gcell : gCell c I') (gtouch : gTouch I') (gsign : gSign I') (gad : gAd c I') (gst : gSt c I') (h2 : ∀ v j, (v < 20 ∨ 28 < v) → v < 300 → (v < 94 ∨ 99 < v) → (v ≠ 60 ∨ (j ≠ 43 ∧ j ≠ 47 ∧ j ≠ 48)) → ¬ (((3 ≤ v ∧ v < 13) ∨ v = 63) ∨ ((v = 1 ∧ j = 6) ∨ (v = 60 ∧ j = 3)) ∨ (v = 15 ∨ v = 81) ∨ ((v = 0 ∧ j = 3) ∨ (v = 60 ∧ j = 5) ∨ (100 ≤ v ∧ v < 120) ∨ (65 ≤ v ∧ v ≤ 71))) → I' v j = I v j) : Inv c I' :=
  ⟨h.page.to fun v j hv => h2 v j (by omega) (by omega) (by omega) (by omega) (by omega),
   gcell,
   gtouch,
   gsign,
   h.hold.to fun v j hv => h2 v j (by omega) (by omega) (by omega) (by omega) (by omega),
   h.here.to fun v j hv => h2 v j (by omega) (by omega) (by omega) (by omega) (by omega),
   h.dist.to fun v j hv => h2 v j (by omega) (by omega) (by omega) (by omega) (by omega),
   gad,
   gst,
   h.ed.to fun v j hv => h2 v j (by omega) (by omega) (by omega) (by omega) (by omega),
   h.owe.to fun v j hv => h2 v j (by omega) (by omega) (by omega) (by omega) (by omega),
   h.min.to fun v j hv => h2 v j (by omega) (by omega) (by omega) (by omega) (by omega),
   h.tr.to fun v j hv => h2 v j (by omega) (by omega) (by omega) (by omega) (by omega),
   h.word.to fun v j hv => h2 v j (by omega) (by omega) (by omega) (by omega) (by omega),
   h.wei.to fun v j hv => h2 v j (by omega) (by omega) (by omega) (by omega) (by omega),
   h.wire.to fun v j hv => h2 v j (by omega) (by omega) (by omega) (by omega) (by omega),
   h.puz.to fun v j hv => h2 v j (by omega) (by omega) (by omega) (by omega) (by omega),
   h.new.to fun v j hv => h2 v j (by omega) (by omega) (by omega) (by omega) (by omega)⟩
theorem Inv.set_putsO {c : Nat × Nat} {I I' : xv_I} (h : Inv c I) (gcell : gCell c I') (gtouch : gTouch I') (gsign : gSign I') (gad : gAd c I') (gst : gSt c I') (gowe : gOwe c I') (h2 : ∀ v j, (v < 20 ∨ 28 < v) → v < 300 → (v < 94 ∨ 99 < v) → (v ≠ 60 ∨ (j ≠ 43 ∧ j ≠ 47 ∧ j ≠ 48)) → ¬ (((3 ≤ v ∧ v < 13) ∨ v = 63) ∨ ((v = 1 ∧ j = 6) ∨ (v = 60 ∧ j = 3)) ∨ (v = 15 ∨ v = 81) ∨ ((v = 29 ∧ j = 4) ∨ (v = 60 ∧ j = 28) ∨ v = 40 ∨ v = 85)) → I' v j = I v j) : Inv c I' :=
  ⟨h.page.to fun v j hv => h2 v j (by omega) (by omega) (by omega) (by omega) (by omega),
   gcell,
   gtouch,
   gsign,
   h.hold.to fun v j hv => h2 v j (by omega) (by omega) (by omega) (by omega) (by omega),
   h.here.to fun v j hv => h2 v j (by omega) (by omega) (by omega) (by omega) (by omega),
   h.dist.to fun v j hv => h2 v j (by omega) (by omega) (by omega) (by omega) (by omega),
   gad,
   gst,
   h.ed.to fun v j hv => h2 v j (by omega) (by omega) (by omega) (by omega) (by omega),
   gowe,
   h.min.to fun v j hv => h2 v j (by omega) (by omega) (by omega) (by omega) (by omega),
   h.tr.to fun v j hv => h2 v j (by omega) (by omega) (by omega) (by omega) (by omega),
   h.word.to fun v j hv => h2 v j (by omega) (by omega) (by omega) (by omega) (by omega),
   h.wei.to fun v j hv => h2 v j (by omega) (by omega) (by omega) (by omega) (by omega),
   h.wire.to fun v j hv => h2 v j (by omega) (by omega) (by omega) (by omega) (by omega),
   h.puz.to fun v j hv => h2 v j (by omega) (by omega) (by omega) (by omega) (by omega),
   h.new.to fun v j hv => h2 v j (by omega) (by omega) (by omega) (by omega) (by omega)⟩
theorem Inv.set_putsS {c : Nat × Nat} {I I' : xv_I} (h : Inv c I) (gcell : gCell c I') (gtouch : gTouch I') (gsign : gSign I') (gad : gAd c I') (gst : gSt c I') (gnew : gNew c I') (h2 : ∀ v j, (v < 20 ∨ 28 < v) → v < 300 → (v < 94 ∨ 99 < v) → (v ≠ 60 ∨ (j ≠ 43 ∧ j ≠ 47 ∧ j ≠ 48)) → ¬ (((3 ≤ v ∧ v < 13) ∨ v = 63) ∨ ((v = 1 ∧ j = 6) ∨ (v = 60 ∧ j = 3)) ∨ (v = 15 ∨ v = 81) ∨ ((v = 0 ∧ j = 5) ∨ (v = 60 ∧ j = 13) ∨ (200 ≤ v ∧ v < 300) ∨ (72 ≤ v ∧ v ≤ 79)) ∨ (v = 76)) → I' v j = I v j) : Inv c I' :=
  ⟨h.page.to fun v j hv => h2 v j (by omega) (by omega) (by omega) (by omega) (by omega),
   gcell,
   gtouch,
   gsign,
   h.hold.to fun v j hv => h2 v j (by omega) (by omega) (by omega) (by omega) (by omega),
   h.here.to fun v j hv => h2 v j (by omega) (by omega) (by omega) (by omega) (by omega),
   h.dist.to fun v j hv => h2 v j (by omega) (by omega) (by omega) (by omega) (by omega),
   gad,
   gst,
   h.ed.to fun v j hv => h2 v j (by omega) (by omega) (by omega) (by omega) (by omega),
   h.owe.to fun v j hv => h2 v j (by omega) (by omega) (by omega) (by omega) (by omega),
   h.min.to fun v j hv => h2 v j (by omega) (by omega) (by omega) (by omega) (by omega),
   h.tr.to fun v j hv => h2 v j (by omega) (by omega) (by omega) (by omega) (by omega),
   h.word.to fun v j hv => h2 v j (by omega) (by omega) (by omega) (by omega) (by omega),
   h.wei.to fun v j hv => h2 v j (by omega) (by omega) (by omega) (by omega) (by omega),
   h.wire.to fun v j hv => h2 v j (by omega) (by omega) (by omega) (by omega) (by omega),
   h.puz.to fun v j hv => h2 v j (by omega) (by omega) (by omega) (by omega) (by omega),
   gnew⟩
theorem armok_6 (n : Nat) : Arm n 6 := fun MC MS Q c I J kc ks i l5 l6 hi hn hI hkc hks hk => by
  obtain ⟨g1, g2, g3, g4⟩ := hI.ad
  rcases no_or c.1 (I 99 (i + 1)) with ⟨a, ha, e1⟩ | b1
  · obtain hga := g4 a ha
    obtain ⟨ct, w, h, a1, a2, a3, a4, a5, a6, a7, a8, a9, a10, a11, a12, a13, a14⟩ := hga
    rcases a14 with ⟨b1, b2, b3⟩ | ⟨p, f, b1, b2, b3, b4, b5, b6, b7⟩
    · exact arm_6 (dX := 6) (I1 := I) (I2 := xv_u I 60 48 (nI 2)) (out := nI 0) hi hn (by decide) (fun _ => rfl) (w_takeOff_S n c c J (by rw [e1]; exact p_takeOff_b n c I J ha (by omega) b1)) (by rw [e1]; exact m_take_b n c _ _ ha g2 g3 b2) (xv_u_eq _ _ _ _) (fun q => absurd q (by decide)) hkc hks (fun l5 l6 => by exact hk c _ _ l5 l6 (hI.to (by intro v j h1 h2 h3 h4; simp only [xv_u]; repeat rw [if_neg (by omega)])))
    · obtain hne : ¬ nI 0 = nI (100 + a) := nI_ne2 (by omega) (by decide) (by omega)
      obtain C1 := cC.free (I := I) hne
      obtain E1 : ∀ v j, (v < 3 ∨ 13 ≤ v) → v ≠ 15 → (v ≠ 1 ∨ j ≠ 6) → v ≠ 100 + a → (xv_u (xv_u (xFree (nI (100 + a)) I) (100 + a) 6 (-1)) (100 + a) 7 (-1)) v j = I v j := fun v j h1 h2 h3 h4 => by
        rw [xv_u_ne _ _ _ h4, xv_u_ne _ _ _ h4]
        exact C1.2.2.2 v j h1 h2 h3
      obtain E2 : ∀ v j, v ≠ 100 + a → (v ≠ 60 ∨ j ≠ 48) → (xv_u (xv_u (xv_u (xFree (nI (100 + a)) I) (100 + a) 6 (-1)) (100 + a) 7 (-1)) 60 48 (nI 0)) v j = xFree (nI (100 + a)) I v j := fun v j h1 h2 => by
        simp only [xv_u]
        rw [if_neg (by omega), if_neg (by omega), if_neg (by omega)]
      obtain EK : ∀ v j, v = 63 ∨ v = 81 ∨ (v = 60 ∧ j = 3) → (xv_u (xv_u (xv_u (xFree (nI (100 + a)) I) (100 + a) 6 (-1)) (100 + a) 7 (-1)) 60 48 (nI 0)) v j = I v j := fun v j h => (E2 v j (by omega) (by omega)).trans (C1.2.2.2 v j (by omega) (by omega) (by omega))
      obtain hcell : ∀ d r, d < h → r < w → (xv_u (xv_u (xv_u (xFree (nI (100 + a)) I) (100 + a) 6 (-1)) (100 + a) 7 (-1)) 60 48 (nI 0)) 63 (12 * p + (f + 3 * d + r)) = nI (100 + a) := fun d r hd hr => by
        rw [EK _ _ (by omega), ← (hI.cell p b1 (f + 3 * d + r) (by omega)).1]
        exact (b7 p b1 _ (by omega)).mpr ⟨rfl, d, r, hd, hr, rfl⟩
      obtain C2 : mC (xv_u (xv_u (xv_u (xFree (nI (100 + a)) I) (100 + a) 6 (-1)) (100 + a) 7 (-1)) 60 48 (nI 0)) (mFill p f w h (nI 0) (xv_u (xv_u (xv_u (xFree (nI (100 + a)) I) (100 + a) 6 (-1)) (100 + a) 7 (-1)) 60 48 (nI 0))) (fun p k => I (3 + p) k = nI (100 + a)) (nI 0) := (mC.fill b1 b2 b3 (fun d r hd hr => by rw [hcell d r hd hr]; exact fun q => hne q.symm)).cg (fun q hq k hk => (b7 q hq k hk).symm)
      obtain CP := (((cpl.of hI).to (I' := I) (K' := (xv_u (xv_u (xv_u (xFree (nI (100 + a)) I) (100 + a) 6 (-1)) (100 + a) 7 (-1)) 60 48 (nI 0))) (fun _ _ _ => rfl) EK).step C1 C2)
      obtain E3 : ∀ v j, v ≠ 63 → v ≠ 81 → (v ≠ 60 ∨ (j ≠ 3 ∧ j ≠ 48)) → v ≠ 71 → v ≠ 100 + a → (xv_u (mFill p f w h (nI 0) (xv_u (xv_u (xv_u (xFree (nI (100 + a)) I) (100 + a) 6 (-1)) (100 + a) 7 (-1)) 60 48 (nI 0))) 71 a (-1)) v j = xFree (nI (100 + a)) I v j := fun v j h1 h2 h3 h4 h5 => by
        rw [xv_u_ne _ _ _ h4, C2.2.2.2 v j h1 h2 (by omega)]
        exact E2 v j h5 (by omega)
      obtain E4 : ∀ v j, v ≠ 63 → v ≠ 81 → (v ≠ 60 ∨ (j ≠ 3 ∧ j ≠ 48)) → v ≠ 71 → v ≠ 100 + a → (v < 3 ∨ 13 ≤ v) → v ≠ 15 → (v ≠ 1 ∨ j ≠ 6) → (xv_u (mFill p f w h (nI 0) (xv_u (xv_u (xv_u (xFree (nI (100 + a)) I) (100 + a) 6 (-1)) (100 + a) 7 (-1)) 60 48 (nI 0))) 71 a (-1)) v j = I v j := fun v j h1 h2 h3 h4 h5 h6 h7 h8 => (E3 v j h1 h2 h3 h4 h5).trans (C1.2.2.2 v j h6 h7 h8)
      obtain Ea : ∀ j, (j ≠ 6 ∧ j ≠ 7) → (xv_u (mFill p f w h (nI 0) (xv_u (xv_u (xv_u (xFree (nI (100 + a)) I) (100 + a) 6 (-1)) (100 + a) 7 (-1)) 60 48 (nI 0))) 71 a (-1)) (100 + a) j = I (100 + a) j := fun j hj => by
        rw [xv_u_ne _ _ _ (by omega), C2.2.2.2 _ _ (by omega) (by omega) (by omega)]
        simp only [xv_u]
        rw [if_neg (by omega), if_neg (by omega), if_neg (by omega)]
        exact C1.2.2.2 _ _ (by omega) (by omega) (by omega)
      obtain Ea2 : ∀ j, j = 6 ∨ j = 7 → (xv_u (mFill p f w h (nI 0) (xv_u (xv_u (xv_u (xFree (nI (100 + a)) I) (100 + a) 6 (-1)) (100 + a) 7 (-1)) 60 48 (nI 0))) 71 a (-1)) (100 + a) j = -1 := fun j hj => by
        rw [xv_u_ne _ _ _ (by omega), C2.2.2.2 _ _ (by omega) (by omega) (by omega)]
        simp only [xv_u]
        rw [if_neg (by omega)]
        rcases hj with rfl | rfl <;> simp
      obtain CP2 : cpl (xv_u (mFill p f w h (nI 0) (xv_u (xv_u (xv_u (xFree (nI (100 + a)) I) (100 + a) 6 (-1)) (100 + a) 7 (-1)) 60 48 (nI 0))) 71 a (-1)) (xv_u (mFill p f w h (nI 0) (xv_u (xv_u (xv_u (xFree (nI (100 + a)) I) (100 + a) 6 (-1)) (100 + a) 7 (-1)) 60 48 (nI 0))) 71 a (-1)) := CP.to (fun v j h => E3 v j (by omega) (by omega) (by omega) (by omega) (by omega)) (fun v j h => xv_u_ne _ _ _ (by omega))
      obtain MK : ∀ y, ¬ nI 0 = y → ¬ nI (100 + a) = y → ∀ u, u < 10 → ∀ k, k < 12 → ((xv_u (mFill p f w h (nI 0) (xv_u (xv_u (xv_u (xFree (nI (100 + a)) I) (100 + a) 6 (-1)) (100 + a) 7 (-1)) 60 48 (nI 0))) 71 a (-1)) (3 + u) k = y ↔ I (3 + u) k = y) := fun y h1 h2 q hq k hk => by
        rw [E3 _ _ (by omega) (by omega) (by omega) (by omega) (by omega)]
        exact C1.mark h1 (fun _ _ _ _ s r => h2 (s.symm.trans r)) q hq k hk
      refine arm_6 (dX := 6) (I1 := (xv_u (xv_u (xFree (nI (100 + a)) I) (100 + a) 6 (-1)) (100 + a) 7 (-1))) (I2 := (xv_u (mFill p f w h (nI 0) (xv_u (xv_u (xv_u (xFree (nI (100 + a)) I) (100 + a) 6 (-1)) (100 + a) 7 (-1)) 60 48 (nI 0))) 71 a (-1))) hi hn (by decide) (fun j => E1 _ _ (by omega) (by omega) (by omega) (by omega)) (w_takeOff_ok n c c J (by rw [e1]; exact p_takeOff_ok n c I J ha (by omega) (by rw [b4]; exact nI_nm1 (by omega)))) (by rw [e1]; exact m_take_ok n c _ _ ha g3 (by rw [E1 _ _ (by omega) (by omega) (by omega) (by omega)]; exact g2) (by rw [E1 _ _ (by omega) (by omega) (by omega) (by omega)]; exact a7) (by rw [E1 _ _ (by omega) (by omega) (by omega) (by omega)]; exact a9) a2 a3 (by rw [E1 _ _ (by omega) (by omega) (by omega) (by omega)]; exact b6) b1 (by omega) (by omega)) (by rw [xv_u_ne _ _ _ (by decide), C2.2.2.2 _ _ (by decide) (by decide) (by decide), xv_u_eq]) (fun _ => by rw [xv_u_eq, b4, b5, nI_mul, nI_add]) hkc hks (fun l5 l6 => ?_)
      refine @hk c _ _ l5 l6 (Inv.set_puts hI (CP2.cell ?_) CP2.touch CP2.2.2 ⟨(E4 _ _ (by omega) (by omega) (by omega) (by omega) (by omega) (by omega) (by omega) (by omega)).trans g1, (E4 _ _ (by omega) (by omega) (by omega) (by omega) (by omega) (by omega) (by omega) (by omega)).trans g2, g3, fun b hb => ?_⟩ (hI.st.cells (fun v j h => E4 v j (by omega) (by omega) (by omega) (by omega) (by omega) (by omega) (by omega) (by omega)) (fun b hb => MK _ (nI_ne2 (by omega) (by decide) (by have := hI.st.2.2.1; omega)) (nI_ne2 (by omega) (by omega) (by have := hI.st.2.2.1; omega)))) ?_)
      · intro q hq k hk9
        rw [E3 _ _ (by omega) (by omega) (by omega) (by omega) (by omega)]
        exact C1.ok (fun q hq k hk => (hI.cell q hq k hk).2) (Or.inl rfl) q hq k hk9
      · by_cases e : b = a
        · subst e
          refine ⟨ct, w, h, a1, a2, a3, ?_⟩
          rw [Ea 0 (by decide), Ea 1 (by decide), Ea 2 (by decide), Ea 3 (by decide), Ea 4 (by decide), Ea 5 (by decide), E4 65 _ (by omega) (by omega) (by omega) (by omega) (by omega) (by omega) (by omega) (by omega), E4 66 _ (by omega) (by omega) (by omega) (by omega) (by omega) (by omega) (by omega) (by omega), E4 67 _ (by omega) (by omega) (by omega) (by omega) (by omega) (by omega) (by omega) (by omega), E4 68 _ (by omega) (by omega) (by omega) (by omega) (by omega) (by omega) (by omega) (by omega), E4 69 _ (by omega) (by omega) (by omega) (by omega) (by omega) (by omega) (by omega) (by omega), E4 70 _ (by omega) (by omega) (by omega) (by omega) (by omega) (by omega) (by omega) (by omega)]
          refine ⟨a4, a5, a6, a7, a8, a9, a10, a11, a12, a13, Or.inl ⟨Ea2 6 (Or.inl rfl), xv_u_eq _ _ _ _, fun q hq k hk => ?_⟩⟩
          rw [E3 _ _ (by omega) (by omega) (by omega) (by omega) (by omega)]
          by_cases s : I (3 + q) k = nI (100 + b)
          · rw [(C1.1 q hq k hk).1 s]
            exact hne
          · rw [(C1.1 q hq k hk).2 s]
            exact s
        · exact (g4 b hb).cells (fun j => E4 _ _ (by omega) (by omega) (by omega) (by omega) (by omega) (by omega) (by omega) (by omega)) (fun v h1 h2 => by
            rcases Nat.lt_or_ge v 71 with h3 | h3
            · exact E4 _ _ (by omega) (by omega) (by omega) (by omega) (by omega) (by omega) (by omega) (by omega)
            · obtain rfl : v = 71 := by omega
              rw [xv_u_nk _ _ _ e, C2.2.2.2 _ _ (by omega) (by omega) (by omega)]
              rw [xv_u_ne _ _ _ (by omega)]
              exact E1 _ _ (by omega) (by omega) (by omega) (by omega)) (MK _ (nI_ne2 (by omega) (by decide) (by omega)) (nI_ne2 (by omega) (by omega) (by omega)))
      · intro v j h1 h2 h3 h4 h5
        exact E4 v j (by omega) (by omega) (by omega) (by omega) (by omega) (by omega) (by omega) (by omega)
  · exact arm_6 (dX := 6) (I1 := I) (I2 := xv_u I 60 48 (nI 1)) (out := nI 0) hi hn (by decide) (fun _ => rfl) (w_takeOff_I n c c J (p_takeOff_a n c I J b1)) (m_take_a n c _ _ b1 g2 g3) (xv_u_eq _ _ _ _) (fun q => absurd q (by decide)) hkc hks (fun l5 l6 => by exact hk c _ _ l5 l6 (hI.to (by intro v j h1 h2 h3 h4; simp only [xv_u]; repeat rw [if_neg (by omega)])))
theorem xClear_0 (w : Nat) (I : xv_I) : xClear w I w 0 = nI 0 := by
  simp [xClear, it, xSetPart, xv_u]
theorem xClear_3 (w : Nat) (I : xv_I) {i : Nat} (hi : i < 2) : xClear w I (w + 3) i = nI 0 := by
  rcases (show i = 0 ∨ i = 1 by omega) with rfl | rfl <;> simp [xClear, it, xSetPart, xv_u]
theorem armok_10 (n : Nat) : Arm n 10 := fun MC MS Q c I J kc ks i l5 l6 hi hn hI hkc hks hk => by
  obtain ⟨g1, g2, g3, g4⟩ := hI.st
  rcases no_or c.2 (I 99 (i + 1)) with ⟨s, hs, e1⟩ | b1
  · obtain hga := g4 s hs
    obtain ⟨d, np, lo, sh, a1, a2, a3, a4, a5, a6, a7, a8, a9, a10, a11, a12, a13, a14, a15, a16, a17, a18⟩ := hga
    rcases Nat.eq_zero_or_pos sh with h0 | h0
    · exact arm_10 (dX := 8) (I1 := I) (I2 := xv_u I 60 48 (nI 2)) (out := nI 0) hi hn (by decide) (fun _ => rfl) (w_lift_S n c c J (by rw [e1]; exact p_lift_b n c I J hs (by omega) (by rw [a16, h0]; decide))) (by rw [e1]; exact m_lift_b n c _ _ hs g2 g3 (by rw [a17, h0]; rfl)) (xv_u_eq _ _ _ _) (fun q => absurd q (by decide)) hkc hks (fun l5 l6 => by exact hk c _ _ l5 l6 (hI.to (by intro v j h1 h2 h3 h4; simp only [xv_u]; repeat rw [if_neg (by omega)])))
    · obtain hne : ¬ nI 0 = nI (200 + s) := nI_ne2 (by omega) (by decide) (by omega)
      obtain C1 := cC.free (I := I) hne
      obtain E1 : ∀ v j, (v < 3 ∨ 13 ≤ v) → v ≠ 15 → (v ≠ 1 ∨ j ≠ 6) → (v < 201 + 5 * s ∨ 204 + 5 * s < v) → (xClear (201 + 5 * s) (xFree (nI (200 + s)) I)) v j = I v j := fun v j h1 h2 h3 h4 => by
        rw [xClear_o _ _ (by omega)]
        exact C1.2.2.2 v j h1 h2 h3
      obtain E2 : ∀ v j, (v < 201 + 5 * s ∨ 204 + 5 * s < v) → (v ≠ 60 ∨ j ≠ 48) → (xv_u (xClear (201 + 5 * s) (xFree (nI (200 + s)) I)) 60 48 (nI 0)) v j = xFree (nI (200 + s)) I v j := fun v j h1 h2 => by
        simp only [xv_u]
        rw [if_neg (by omega), xClear_o _ _ (by omega)]
      obtain EK : ∀ v j, v = 63 ∨ v = 81 ∨ (v = 60 ∧ j = 3) → (xv_u (xClear (201 + 5 * s) (xFree (nI (200 + s)) I)) 60 48 (nI 0)) v j = I v j := fun v j h => (E2 v j (by omega) (by omega)).trans (C1.2.2.2 v j (by omega) (by omega) (by omega))
      obtain C2 : mC (xv_u (xClear (201 + 5 * s) (xFree (nI (200 + s)) I)) 60 48 (nI 0)) (mClrA (nI (200 + s)) (xv_u (xClear (201 + 5 * s) (xFree (nI (200 + s)) I)) 60 48 (nI 0))) (fun p k => I (3 + p) k = nI (200 + s)) (nI 0) := (mC.clrA hne).cg (fun q hq k hk => by rw [EK _ _ (Or.inl rfl), ← (hI.cell q hq k hk).1])
      obtain CP := (((cpl.of hI).to (I' := I) (K' := (xv_u (xClear (201 + 5 * s) (xFree (nI (200 + s)) I)) 60 48 (nI 0))) (fun _ _ _ => rfl) EK).step C1 C2)
      obtain E3 : ∀ v j, v ≠ 63 → v ≠ 81 → (v ≠ 60 ∨ (j ≠ 3 ∧ j ≠ 48)) → (v ≠ 76 ∨ j ≠ s) → (v < 201 + 5 * s ∨ 204 + 5 * s < v) → (xv_u (mClrA (nI (200 + s)) (xv_u (xClear (201 + 5 * s) (xFree (nI (200 + s)) I)) 60 48 (nI 0))) 76 s (nI 0)) v j = xFree (nI (200 + s)) I v j := fun v j h1 h2 h3 h4 h5 => by
        rw [show (xv_u (mClrA (nI (200 + s)) (xv_u (xClear (201 + 5 * s) (xFree (nI (200 + s)) I)) 60 48 (nI 0))) 76 s (nI 0)) v j = (mClrA (nI (200 + s)) (xv_u (xClear (201 + 5 * s) (xFree (nI (200 + s)) I)) 60 48 (nI 0))) v j from if_neg (by omega), C2.2.2.2 v j h1 h2 (by omega)]
        exact E2 v j h5 (by omega)
      obtain E4 : ∀ v j, v ≠ 63 → v ≠ 81 → (v ≠ 60 ∨ (j ≠ 3 ∧ j ≠ 48)) → (v ≠ 76 ∨ j ≠ s) → (v < 201 + 5 * s ∨ 204 + 5 * s < v) → (v < 3 ∨ 13 ≤ v) → v ≠ 15 → (v ≠ 1 ∨ j ≠ 6) → (xv_u (mClrA (nI (200 + s)) (xv_u (xClear (201 + 5 * s) (xFree (nI (200 + s)) I)) 60 48 (nI 0))) 76 s (nI 0)) v j = I v j := fun v j h1 h2 h3 h4 h5 h6 h7 h8 => (E3 v j h1 h2 h3 h4 h5).trans (C1.2.2.2 v j h6 h7 h8)
      obtain E5 : ∀ v j, 201 + 5 * s ≤ v → (xv_u (mClrA (nI (200 + s)) (xv_u (xClear (201 + 5 * s) (xFree (nI (200 + s)) I)) 60 48 (nI 0))) 76 s (nI 0)) v j = (xClear (201 + 5 * s) (xFree (nI (200 + s)) I)) v j := fun v j h1 => by
        rw [show (xv_u (mClrA (nI (200 + s)) (xv_u (xClear (201 + 5 * s) (xFree (nI (200 + s)) I)) 60 48 (nI 0))) 76 s (nI 0)) v j = (mClrA (nI (200 + s)) (xv_u (xClear (201 + 5 * s) (xFree (nI (200 + s)) I)) 60 48 (nI 0))) v j from if_neg (by omega), C2.2.2.2 v j (by omega) (by omega) (by omega)]
        exact if_neg (by omega)
      obtain CP2 : cpl (xv_u (mClrA (nI (200 + s)) (xv_u (xClear (201 + 5 * s) (xFree (nI (200 + s)) I)) 60 48 (nI 0))) 76 s (nI 0)) (xv_u (mClrA (nI (200 + s)) (xv_u (xClear (201 + 5 * s) (xFree (nI (200 + s)) I)) 60 48 (nI 0))) 76 s (nI 0)) := CP.to (fun v j h => E3 v j (by omega) (by omega) (by omega) (by omega) (by omega)) (fun v j h => if_neg (by omega))
      obtain MK : ∀ y, ¬ nI 0 = y → ¬ nI (200 + s) = y → ∀ p, p < 10 → ∀ k, k < 12 → ((xv_u (mClrA (nI (200 + s)) (xv_u (xClear (201 + 5 * s) (xFree (nI (200 + s)) I)) 60 48 (nI 0))) 76 s (nI 0)) (3 + p) k = y ↔ I (3 + p) k = y) := fun y h1 h2 q hq k hk => by
        rw [E3 _ _ (by omega) (by omega) (by omega) (by omega) (by omega)]
        exact C1.mark h1 (fun _ _ _ _ s r => h2 (s.symm.trans r)) q hq k hk
      refine arm_10 (dX := 8) (I1 := (xClear (201 + 5 * s) (xFree (nI (200 + s)) I))) (I2 := (xv_u (mClrA (nI (200 + s)) (xv_u (xClear (201 + 5 * s) (xFree (nI (200 + s)) I)) 60 48 (nI 0))) 76 s (nI 0))) hi hn (by decide) (fun j => E1 _ _ (by omega) (by omega) (by omega) (by omega)) (w_lift_ok n c c J (by rw [e1]; exact p_lift_ok n c I J hs (by omega) (by rw [a16]; exact nI_nle0 h0 (by omega)))) (by rw [e1]; exact m_lift_ok n c _ _ hs (by rw [E1 _ _ (by omega) (by omega) (by omega) (by omega)]; exact g2) g3 (by rw [E1 _ _ (by omega) (by omega) (by omega) (by omega), a17]; exact nI_n0 h0 (by omega))) (by rw [xv_u_ne _ _ _ (by decide), C2.2.2.2 _ _ (by decide) (by decide) (by decide), xv_u_eq]) (fun _ => by rw [xv_u_eq, E1 76 _ (by omega) (by omega) (by omega) (by omega), a16, a17]) hkc hks (fun l5 l6 => ?_)
      refine @hk c _ _ l5 l6 (Inv.set_putsS hI (CP2.cell ?_) CP2.touch CP2.2.2 (hI.ad.cells (fun v j h => E4 v j (by omega) (by omega) (by omega) (by omega) (by omega) (by omega) (by omega) (by omega)) (fun b hb => MK _ (nI_ne2 (by omega) (by decide) (by have := hI.ad.2.2.1; omega)) (nI_ne2 (by have := hI.ad.2.2.1; omega) (by omega) (by have := hI.ad.2.2.1; omega)))) ⟨(E4 _ _ (by omega) (by omega) (by omega) (by omega) (by omega) (by omega) (by omega) (by omega)).trans g1, (E4 _ _ (by omega) (by omega) (by omega) (by omega) (by omega) (by omega) (by omega) (by omega)).trans g2, g3, fun b hb => ?_⟩ (fun t h1 h2 => (E4 _ _ (by omega) (by omega) (by omega) (by omega) (by omega) (by omega) (by omega) (by omega)).trans (hI.new t h1 h2)) ?_)
      · intro q hq k hk9
        rw [E3 _ _ (by omega) (by omega) (by omega) (by omega) (by omega)]
        exact C1.ok (fun q hq k hk => (hI.cell q hq k hk).2) (Or.inl rfl) q hq k hk9
      · by_cases e : b = s
        · subst e
          refine ⟨d, np, lo, 0, a1, a2, a3, a4, a5, a6, Nat.zero_le _, a8, ?_⟩
          rw [E4 (200 + 5 * b) 0 (by omega) (by omega) (by omega) (by omega) (by omega) (by omega) (by omega) (by omega), E4 (200 + 5 * b) 1 (by omega) (by omega) (by omega) (by omega) (by omega) (by omega) (by omega) (by omega), E4 (200 + 5 * b) 2 (by omega) (by omega) (by omega) (by omega) (by omega) (by omega) (by omega) (by omega), E4 (200 + 5 * b) 3 (by omega) (by omega) (by omega) (by omega) (by omega) (by omega) (by omega) (by omega), E4 72 _ (by omega) (by omega) (by omega) (by omega) (by omega) (by omega) (by omega) (by omega), E4 73 _ (by omega) (by omega) (by omega) (by omega) (by omega) (by omega) (by omega) (by omega), E4 75 _ (by omega) (by omega) (by omega) (by omega) (by omega) (by omega) (by omega) (by omega)]
          refine ⟨a9, a10, a11, a12, a13, a14, fun k hk => (E4 74 _ (by omega) (by omega) (by omega) (by omega) (by omega) (by omega) (by omega) (by omega)).trans (a15 k hk), (E5 _ _ (by omega)).trans (xClear_0 _ _), xv_u_eq _ _ _ _, Or.inl ⟨rfl, fun i hi => (E5 _ _ (by omega)).trans (xClear_3 _ _ hi), fun q hq k hk => ?_⟩⟩
          rw [E3 _ _ (by omega) (by omega) (by omega) (by omega) (by omega)]
          by_cases s : I (3 + q) k = nI (200 + b)
          · rw [(C1.1 q hq k hk).1 s]
            exact hne
          · rw [(C1.1 q hq k hk).2 s]
            exact s
        · exact (g4 b hb).cells (fun v j h1 h2 => E4 _ _ (by omega) (by omega) (by omega) (by omega) (by omega) (by omega) (by omega) (by omega)) (fun v j h1 => E4 _ _ (by omega) (by omega) (by omega) (by omega) (by omega) (by omega) (by omega) (by omega)) (MK _ (nI_ne2 (by omega) (by decide) (by omega)) (nI_ne2 (by omega) (by omega) (by omega)))
      · intro v j h1 h2 h3 h4 h5
        exact E4 v j (by omega) (by omega) (by omega) (by omega) (by omega) (by omega) (by omega) (by omega)
  · exact arm_10 (dX := 8) (I1 := I) (I2 := xv_u I 60 48 (nI 1)) (out := nI 0) hi hn (by decide) (fun _ => rfl) (w_lift_I n c c J (p_lift_a n c I J b1)) (m_lift_a n c _ _ b1 g2 g3) (xv_u_eq _ _ _ _) (fun q => absurd q (by decide)) hkc hks (fun l5 l6 => by exact hk c _ _ l5 l6 (hI.to (by intro v j h1 h2 h3 h4; simp only [xv_u]; repeat rw [if_neg (by omega)])))