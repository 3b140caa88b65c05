theorem xv_Met.imp {M : xv_M} {d mc ms : Nat} {sh : xv_Sh} {I : xv_I} {Rf : xv_Rf} {J : xv_J} {As : List Value} {Q Q' : xv_Q} (h : xv_Met M d mc ms sh I Rf J As Q) (hq : ∀ o s i r j, Q o s i r j → Q' o s i r j) : xv_Met M d mc ms sh I Rf J As Q' := fun l D ad ca sz hl => by
  refine MetFree.imp (h l D ad ca sz hl) (fun a st o t hh => ?_)
  rcases hh with ⟨⟨r, sh', I', Rf', J', ad', ca', h1, h2, h3⟩, h4⟩ | ⟨q, h1, h2⟩
  · exact Or.inl ⟨⟨r, sh', I', Rf', J', ad', ca', h1, hq _ _ _ _ _ h2, h3⟩, h4⟩
  · obtain ⟨E, ce, L, ⟨sh', I', Rf', J', ad', ca', g1, g2⟩, h3⟩ := h2
    exact Or.inr ⟨q, h1, E, ce, L, ⟨sh', I', Rf', J', ad', ca', hq _ _ _ _ _ g1, g2⟩, h3⟩
/-! THE COUPLING: what the class holds and what the model holds -/
def gPage (I : xv_I) : Prop := ∀ p, p < 10 → I 13 p = I 61 p ∧ I 14 p = I 62 p
/-- what may lie in a cell -/
def okCell (c : Nat × Nat) (v : Nat) : Prop := v = 0 ∨ (100 ≤ v ∧ v < 100 + c.1) ∨ (200 ≤ v ∧ v < 200 + c.2) ∨ (300 ≤ v ∧ v < 300 + c.2)
def gCell (c : Nat × Nat) (I : xv_I) : Prop := ∀ p, p < 10 → ∀ k, k < 12 → I (3 + p) k = I 63 (12 * p + k) ∧ ∃ v, okCell c v ∧ I (3 + p) k = nI v
def gTouch (I : xv_I) : Prop := I 1 6 = I 60 3 ∧ ∃ t, t < 32 ∧ I 1 6 = nI t
/-- a set of people as bits, and as a row of truths -/
def gBits (x : Int32) (f : Nat → Int32) : Prop := ∃ b, b < 64 ∧ x = nI b ∧ ∀ q, q < 6 → f q = if b.testBit q then nI 1 else nI 0
def gSign (I : xv_I) : Prop := ∀ p, p < 10 → gBits (I 15 p) (fun q => I 81 (6 * p + q))
def gHold (I : xv_I) : Prop := ∀ p, p < 10 → gBits (I 16 p) (fun q => I 82 (6 * p + q))
def gHere (I : xv_I) : Prop := ∃ b, b < 64 ∧ I 1 5 = nI b ∧ ∀ q, q < 6 → I 80 q = if b.testBit q then nI 0 else nI 1
def gDist (I : xv_I) : Prop := ∀ k, k < 4 → I 17 k = I 64 k
/-- an advertisement: its kind, width, height; where it lies -/
def gAd1 (c : Nat × Nat) (I : xv_I) (a : Nat) : Prop := ∃ ct w h, ct < 4 ∧ (1 ≤ w ∧ w ≤ 3) ∧ (1 ≤ h ∧ h ≤ 4) ∧ I (100 + a) 0 = nI ct ∧ I 65 a = nI ct ∧ I (100 + a) 1 = nI w ∧ I 66 a = nI w ∧ I (100 + a) 2 = nI h ∧ I 67 a = nI h ∧ I 68 a = I (100 + a) 3 ∧ I 69 a = I (100 + a) 4 ∧ I 70 a = I (100 + a) 5 ∧ (I (100 + a) 5 = -1 ∨ ∃ z, z < 3 ∧ I (100 + a) 5 = nI z) ∧
  ((I (100 + a) 6 = -1 ∧ I 71 a = -1 ∧ ∀ p, p < 10 → ∀ k, k < 12 → ¬ I (3 + p) k = nI (100 + a)) ∨ ∃ p f, p < 10 ∧ f % 3 + w ≤ 3 ∧ f / 3 + h ≤ 4 ∧ I (100 + a) 6 = nI p ∧ I (100 + a) 7 = nI f ∧ I 71 a = nI (100 * p + f) ∧ ∀ q, q < 10 → ∀ k, k < 12 → (I (3 + q) k = nI (100 + a) ↔ q = p ∧ ∃ d r, d < h ∧ r < w ∧ k = f + 3 * d + r))
def gAd (c : Nat × Nat) (I : xv_I) : Prop := I 0 3 = nI c.1 ∧ I 60 5 = nI c.1 ∧ c.1 ≤ 20 ∧ ∀ a, a < c.1 → gAd1 c I a
/-- a story: its number of digits d, its paragraphs, how it lies -/
def gSt1 (I : xv_I) (s : Nat) : Prop := ∃ d np lo sh, 1 ≤ d ∧ d ≤ 999999 ∧ 1 ≤ np ∧ np ≤ 6 ∧ 1 ≤ lo ∧ lo ≤ np ∧ sh ≤ np ∧ xPar (nI d) = nI np ∧ I (200 + 5 * s) 0 = I 72 s ∧ I (200 + 5 * s) 1 = nI d ∧ I (200 + 5 * s) 2 = nI np ∧ I 73 s = nI np ∧ I (200 + 5 * s) 3 = nI lo ∧ I 75 s = nI lo ∧ (∀ k, k < np → I 74 (6 * s + k) = nI (d / 10 ^ (np - 1 - k) % 10)) ∧ I (201 + 5 * s) 0 = nI sh ∧ I 76 s = nI sh ∧
  ((sh = 0 ∧ (∀ i, i < 2 → I (201 + 5 * s + 3) i = nI 0) ∧ ∀ p, p < 10 → ∀ k, k < 12 → ¬ I (3 + p) k = nI (200 + s)) ∨
   (0 < sh ∧ ∃ pg st sz : Nat → Nat, 0 < sz 0 ∧ xWy I (201 + 5 * s) pg st sz ∧ (∀ i, i < 2 → I 79 (2 * s + i) = nI (sz i) ∧ (0 < sz i → I 77 (2 * s + i) = nI (pg i) ∧ I 78 (2 * s + i) = nI (st i))) ∧ ∀ p, p < 10 → ((∃ k, k < 12 ∧ I (3 + p) k = nI (200 + s)) ↔ ∃ i, i < 2 ∧ 0 < sz i ∧ pg i = p)))
def gSt (c : Nat × Nat) (I : xv_I) : Prop := I 0 5 = nI c.2 ∧ I 60 13 = nI c.2 ∧ c.2 ≤ 20 ∧ ∀ s, s < c.2 → gSt1 I s
def gEd (I : xv_I) : Prop := ∃ e, e ≤ 8 ∧ I 29 2 = nI e ∧ I 60 25 = nI e ∧ ∀ x, x < e → I 39 x = I 84 x ∧ ∀ j, j < 120 → I (31 + x) j = I 83 (120 * x + j)
def gOwe (c : Nat × Nat) (I : xv_I) : Prop := ∃ w, w ≤ 5 ∧ I 29 4 = nI w ∧ I 60 28 = nI w ∧ ∀ j, j < w → I 40 j = I 85 j ∧ ∃ s, s < c.2 ∧ I 40 j = nI s
def gMin (I : xv_I) : Prop := I 0 9 = I 60 30
def gTr (I : xv_I) : Prop := ∃ w, w ≤ 6 ∧ I 41 2 = nI w ∧ I 60 31 = nI w ∧ ∀ j, j < w → I 42 j = I 86 j ∧ I 43 j = I 87 j
def gWord (I : xv_I) : Prop := ∃ w, w ≤ 5 ∧ I 44 2 = nI w ∧ I 60 34 = nI w ∧ ∀ j, j < w → I 45 j = I 88 j ∧ I 46 j = I 89 j ∧ okR 1 20 (I 45 j) ∧ okR 1 20 (I 46 j)
def gWei (I : xv_I) : Prop := ∀ j, j < 6 → I 47 j = I 90 j
def gWire (I : xv_I) : Prop := ∃ w, w ≤ 12 ∧ I 48 2 = nI w ∧ I 60 38 = nI w ∧ ∀ j, j < w → I 50 j = I 92 j ∧ I 49 j = I 91 j ∧ ∃ b, b < 65536 ∧ I 49 j = nI b
def gPuz (I : xv_I) : Prop := (∀ j, j < 16 → I 52 j = I 93 j ∧ ∃ g, g ≤ 4 ∧ I 52 j = nI g) ∧ ∀ j, j < 4 → I 53 j = 0 ∧ I 54 j = 0 ∧ I 55 j = 0
/-- nothing of a story that is not yet there is shown -/
def gNew (c : Nat × Nat) (I : xv_I) : Prop := ∀ s, c.2 ≤ s → s < 20 → I 76 s = 0
def Inv (c : Nat × Nat) (I : xv_I) : Prop := gPage I ∧ gCell c I ∧ gTouch I ∧ gSign I ∧ gHold I ∧ gHere I ∧ gDist I ∧ gAd c I ∧ gSt c I ∧ gEd I ∧ gOwe c I ∧ gMin I ∧ gTr I ∧ gWord I ∧ gWei I ∧ gWire I ∧ gPuz I ∧ gNew c I
theorem Inv.page {c : Nat × Nat} {I : xv_I} (h : Inv c I) : gPage I := h.1
theorem Inv.cell {c : Nat × Nat} {I : xv_I} (h : Inv c I) : gCell c I := h.2.1
theorem Inv.touch {c : Nat × Nat} {I : xv_I} (h : Inv c I) : gTouch I := h.2.2.1
theorem Inv.sign {c : Nat × Nat} {I : xv_I} (h : Inv c I) : gSign I := h.2.2.2.1
theorem Inv.hold {c : Nat × Nat} {I : xv_I} (h : Inv c I) : gHold I := h.2.2.2.2.1
theorem Inv.here {c : Nat × Nat} {I : xv_I} (h : Inv c I) : gHere I := h.2.2.2.2.2.1
theorem Inv.dist {c : Nat × Nat} {I : xv_I} (h : Inv c I) : gDist I := h.2.2.2.2.2.2.1
theorem Inv.ad {c : Nat × Nat} {I : xv_I} (h : Inv c I) : gAd c I := h.2.2.2.2.2.2.2.1
theorem Inv.st {c : Nat × Nat} {I : xv_I} (h : Inv c I) : gSt c I := h.2.2.2.2.2.2.2.2.1
theorem Inv.ed {c : Nat × Nat} {I : xv_I} (h : Inv c I) : gEd I := h.2.2.2.2.2.2.2.2.2.1
theorem Inv.owe {c : Nat × Nat} {I : xv_I} (h : Inv c I) : gOwe c I := h.2.2.2.2.2.2.2.2.2.2.1
theorem Inv.min {c : Nat × Nat} {I : xv_I} (h : Inv c I) : gMin I := h.2.2.2.2.2.2.2.2.2.2.2.1
theorem Inv.tr {c : Nat × Nat} {I : xv_I} (h : Inv c I) : gTr I := h.2.2.2.2.2.2.2.2.2.2.2.2.1
theorem Inv.word {c : Nat × Nat} {I : xv_I} (h : Inv c I) : gWord I := h.2.2.2.2.2.2.2.2.2.2.2.2.2.1
theorem Inv.wei {c : Nat × Nat} {I : xv_I} (h : Inv c I) : gWei I := h.2.2.2.2.2.2.2.2.2.2.2.2.2.2.1
theorem Inv.wire {c : Nat × Nat} {I : xv_I} (h : Inv c I) : gWire I := h.2.2.2.2.2.2.2.2.2.2.2.2.2.2.2.1
theorem Inv.puz {c : Nat × Nat} {I : xv_I} (h : Inv c I) : gPuz I := h.2.2.2.2.2.2.2.2.2.2.2.2.2.2.2.2.1
theorem Inv.new {c : Nat × Nat} {I : xv_I} (h : Inv c I) : gNew c I := h.2.2.2.2.2.2.2.2.2.2.2.2.2.2.2.2.2
theorem gPage.to {I I' : xv_I} (h : gPage I) (e : ∀ v j, (v = 13 ∨ v = 14 ∨ v = 61 ∨ v = 62) → I' v j = I v j) : gPage I' := fun p hp => by
  rw [e 13 _ (by omega), e 61 _ (by omega), e 14 _ (by omega), e 62 _ (by omega)]
  exact h p hp
theorem gCell.to {c : Nat × Nat} {I I' : xv_I} (h : gCell c I) (e : ∀ v j, (3 ≤ v ∧ v < 13) ∨ v = 63 → I' v j = I v j) : gCell c I' := fun p hp k hk => by
  rw [e (3 + p) _ (by omega), e 63 _ (by omega)]
  exact h p hp k hk
theorem gTouch.to {I I' : xv_I} (h : gTouch I) (e : ∀ v j, (v = 1 ∧ j = 6) ∨ (v = 60 ∧ j = 3) → I' v j = I v j) : gTouch I' := by
  unfold gTouch
  rw [e 1 6 (by omega), e 60 3 (by omega)]
  exact h
theorem gSign.to {I I' : xv_I} (h : gSign I) (e : ∀ v j, v = 15 ∨ v = 81 → I' v j = I v j) : gSign I' := fun p hp => by
  obtain ⟨b, h1, h2, h3⟩ := h p hp
  exact ⟨b, h1, (e _ _ (by omega)).trans h2, fun q hq => (e _ _ (by omega)).trans (h3 q hq)⟩
theorem gHold.to {I I' : xv_I} (h : gHold I) (e : ∀ v j, v = 16 ∨ v = 82 → I' v j = I v j) : gHold I' := fun p hp => by
  obtain ⟨b, h1, h2, h3⟩ := h p hp
  exact ⟨b, h1, (e _ _ (by omega)).trans h2, fun q hq => (e _ _ (by omega)).trans (h3 q hq)⟩
theorem gHere.to {I I' : xv_I} (h : gHere I) (e : ∀ v j, (v = 1 ∧ j = 5) ∨ v = 80 → I' v j = I v j) : gHere I' := by
  obtain ⟨b, h1, h2, h3⟩ := h
  exact ⟨b, h1, (e _ _ (by omega)).trans h2, fun q hq => (e _ _ (by omega)).trans (h3 q hq)⟩
theorem gDist.to {I I' : xv_I} (h : gDist I) (e : ∀ v j, v = 17 ∨ v = 64 → I' v j = I v j) : gDist I' := fun k hk => by
  rw [e 17 _ (by omega), e 64 _ (by omega)]
  exact h k hk
theorem gAd1.to {c : Nat × Nat} {I I' : xv_I} {a : Nat} (h : gAd1 c I a) (ha : a < 20) (e : ∀ v j, (100 ≤ v ∧ v < 120) ∨ (65 ≤ v ∧ v ≤ 71) ∨ (3 ≤ v ∧ v < 13) → I' v j = I v j) : gAd1 c I' a := by
  have f : ∀ v, (100 ≤ v ∧ v < 120) ∨ (65 ≤ v ∧ v ≤ 71) ∨ (3 ≤ v ∧ v < 13) → I' v = I v := fun v hv => funext fun j => e v j hv
  unfold gAd1
  rw [f (100 + a) (by omega), f 65 (by omega), f 66 (by omega), f 67 (by omega), f 68 (by omega), f 69 (by omega), f 70 (by omega), f 71 (by omega)]
  obtain ⟨ct, w, h9, a1, a2, a3, a4, a5, a6, a7, a8, a9, a10, a11, a12, a13, a14⟩ := h
  refine ⟨ct, w, h9, a1, a2, a3, a4, a5, a6, a7, a8, a9, a10, a11, a12, a13, ?_⟩
  rcases a14 with ⟨b1, b2, b3⟩ | ⟨p, f9, b1, b2, b3, b4, b5, b6, b7⟩
  · exact Or.inl ⟨b1, b2, fun p hp k hk => by rw [f (3 + p) (by omega)]; exact b3 p hp k hk⟩
  · exact Or.inr ⟨p, f9, b1, b2, b3, b4, b5, b6, fun q hq k hk => by rw [f (3 + q) (by omega)]; exact b7 q hq k hk⟩
theorem gAd.to {c : Nat × Nat} {I I' : xv_I} (h : gAd c I) (e : ∀ v j, (v = 0 ∧ j = 3) ∨ (v = 60 ∧ j = 5) ∨ (100 ≤ v ∧ v < 120) ∨ (65 ≤ v ∧ v ≤ 71) ∨ (3 ≤ v ∧ v < 13) → I' v j = I v j) : gAd c I' :=
  ⟨(e _ _ (by omega)).trans h.1, (e _ _ (by omega)).trans h.2.1, h.2.2.1, fun a ha => (h.2.2.2 a ha).to (by have := h.2.2.1; omega) (fun v j hv => e v j (by omega))⟩
theorem gSt1.to {I I' : xv_I} {s : Nat} (h : gSt1 I s) (hs : s < 20) (e : ∀ v j, (200 ≤ v ∧ v < 300) ∨ (72 ≤ v ∧ v ≤ 79) ∨ (3 ≤ v ∧ v < 13) → I' v j = I v j) : gSt1 I' s := by
  have f : ∀ v, (200 ≤ v ∧ v < 300) ∨ (72 ≤ v ∧ v ≤ 79) ∨ (3 ≤ v ∧ v < 13) → I' v = I v := fun v hv => funext fun j => e v j hv
  unfold gSt1
  rw [f (200 + 5 * s) (by omega), f (201 + 5 * s) (by omega), f (201 + 5 * s + 3) (by omega), f 72 (by omega), f 73 (by omega), f 74 (by omega), f 75 (by omega), f 76 (by omega), f 77 (by omega), f 78 (by omega), f 79 (by omega)]
  obtain ⟨d, np, lo, sh, a1, a2, a3, a4, a5, a6, a7, a8, a9, a10, a11, a12, a13, a14, a15, a16, a17, a18⟩ := h
  refine ⟨d, np, lo, sh, a1, a2, a3, a4, a5, a6, a7, a8, a9, a10, a11, a12, a13, a14, a15, a16, a17, ?_⟩
  rcases a18 with ⟨b1, b2, b3⟩ | ⟨b1, pg, st, sz, b2, b3, b4, b5⟩
  · exact Or.inl ⟨b1, b2, fun p hp k hk => by rw [f (3 + p) (by omega)]; exact b3 p hp k hk⟩
  · exact Or.inr ⟨b1, pg, st, sz, b2, xWy_to b3 (fun v j h1 h2 => e v j (by omega)), b4, fun p hp => by rw [f (3 + p) (by omega)]; exact b5 p hp⟩
theorem gSt.to {c : Nat × Nat} {I I' : xv_I} (h : gSt c I) (e : ∀ v j, (v = 0 ∧ j = 5) ∨ (v = 60 ∧ j = 13) ∨ (200 ≤ v ∧ v < 300) ∨ (72 ≤ v ∧ v ≤ 79) ∨ (3 ≤ v ∧ v < 13) → I' v j = I v j) : gSt c I' :=
  ⟨(e _ _ (by omega)).trans h.1, (e _ _ (by omega)).trans h.2.1, h.2.2.1, fun a ha => (h.2.2.2 a ha).to (by have := h.2.2.1; omega) (fun v j hv => e v j (by omega))⟩
theorem gEd.to {I I' : xv_I} (h : gEd I) (e : ∀ v j, (v = 29 ∧ j = 2) ∨ (v = 60 ∧ j = 25) ∨ (31 ≤ v ∧ v ≤ 39) ∨ v = 83 ∨ v = 84 → I' v j = I v j) : gEd I' := by
  obtain ⟨w, h1, h2, h3, h4⟩ := h
  exact ⟨w, h1, (e _ _ (by omega)).trans h2, (e _ _ (by omega)).trans h3, fun x hx => ⟨by rw [e 39 _ (by omega), e 84 _ (by omega)]; exact (h4 x hx).1, fun j hj => by rw [e (31 + x) _ (by omega), e 83 _ (by omega)]; exact (h4 x hx).2 j hj⟩⟩
theorem gOwe.to {c : Nat × Nat} {I I' : xv_I} (h : gOwe c I) (e : ∀ v j, (v = 29 ∧ j = 4) ∨ (v = 60 ∧ j = 28) ∨ v = 40 ∨ v = 85 → I' v j = I v j) : gOwe c I' := by
  obtain ⟨w, h1, h2, h3, h4⟩ := h
  exact ⟨w, h1, (e _ _ (by omega)).trans h2, (e _ _ (by omega)).trans h3, fun j hj => by rw [e 40 _ (by omega), e 85 _ (by omega)]; exact h4 j hj⟩
theorem gMin.to {I I' : xv_I} (h : gMin I) (e : ∀ v j, (v = 0 ∧ j = 9) ∨ (v = 60 ∧ j = 30) → I' v j = I v j) : gMin I' := by
  unfold gMin
  rw [e 0 9 (by omega), e 60 30 (by omega)]
  exact h
theorem gTr.to {I I' : xv_I} (h : gTr I) (e : ∀ v j, (v = 41 ∧ j = 2) ∨ (v = 60 ∧ j = 31) ∨ v = 42 ∨ v = 43 ∨ v = 86 ∨ v = 87 → I' v j = I v j) : gTr I' := by
  obtain ⟨w, h1, h2, h3, h4⟩ := h
  exact ⟨w, h1, (e _ _ (by omega)).trans h2, (e _ _ (by omega)).trans h3, fun j hj => by rw [e 42 _ (by omega), e 43 _ (by omega), e 86 _ (by omega), e 87 _ (by omega)]; exact h4 j hj⟩
theorem gWord.to {I I' : xv_I} (h : gWord I) (e : ∀ v j, (v = 44 ∧ j = 2) ∨ (v = 60 ∧ j = 34) ∨ v = 45 ∨ v = 46 ∨ v = 88 ∨ v = 89 → I' v j = I v j) : gWord I' := by
  obtain ⟨w, h1, h2, h3, h4⟩ := h
  exact ⟨w, h1, (e _ _ (by omega)).trans h2, (e _ _ (by omega)).trans h3, fun j hj => by rw [e 45 _ (by omega), e 46 _ (by omega), e 88 _ (by omega), e 89 _ (by omega)]; exact h4 j hj⟩
theorem gWei.to {I I' : xv_I} (h : gWei I) (e : ∀ v j, v = 47 ∨ v = 90 → I' v j = I v j) : gWei I' := fun j hj => by
  rw [e 47 _ (by omega), e 90 _ (by omega)]
  exact h j hj
theorem gWire.to {I I' : xv_I} (h : gWire I) (e : ∀ v j, (v = 48 ∧ j = 2) ∨ (v = 60 ∧ j = 38) ∨ v = 49 ∨ v = 50 ∨ v = 91 ∨ v = 92 → I' v j = I v j) : gWire I' := by
  obtain ⟨w, h1, h2, h3, h4⟩ := h
  exact ⟨w, h1, (e _ _ (by omega)).trans h2, (e _ _ (by omega)).trans h3, fun j hj => by rw [e 49 _ (by omega), e 50 _ (by omega), e 91 _ (by omega), e 92 _ (by omega)]; exact h4 j hj⟩
theorem gPuz.to {I I' : xv_I} (h : gPuz I) (e : ∀ v j, (52 ≤ v ∧ v ≤ 55) ∨ v = 93 → I' v j = I v j) : gPuz I' :=
  ⟨fun j hj => by rw [e 52 _ (by omega), e 93 _ (by omega)]; exact h.1 j hj, fun j hj => by rw [e 53 _ (by omega), e 54 _ (by omega), e 55 _ (by omega)]; exact h.2 j hj⟩
theorem gNew.to {c : Nat × Nat} {I I' : xv_I} (h : gNew c I) (e : ∀ v j, v = 76 → I' v j = I v j) : gNew c I' := fun s h1 h2 => (e 76 s rfl).trans (h s h1 h2)
/-- the memory may change where nothing is coupled: the scratch of both, and the model's code -/
theorem Inv.to {c : Nat × Nat} {I I' : xv_I} (h : Inv c I) (h2 : ∀ v j, (v < 20 ∨ 28 < v) → v < 300 → (v < 94 ∨ 99 < v) → (v ≠ 60 ∨ (j ≠ 43 ∧ j ≠ 47 ∧ j ≠ 48)) → I' v j = I v j) : Inv c I' :=
  ⟨h.page.to fun v j hv => h2 v j (by omega) (by omega) (by omega) (by omega),
   h.cell.to fun v j hv => h2 v j (by omega) (by omega) (by omega) (by omega),
   h.touch.to fun v j hv => h2 v j (by omega) (by omega) (by omega) (by omega),
   h.sign.to fun v j hv => h2 v j (by omega) (by omega) (by omega) (by omega),
   h.hold.to fun v j hv => h2 v j (by omega) (by omega) (by omega) (by omega),
   h.here.to fun v j hv => h2 v j (by omega) (by omega) (by omega) (by omega),
   h.dist.to fun v j hv => h2 v j (by omega) (by omega) (by omega) (by omega),
   h.ad.to fun v j hv => h2 v j (by omega) (by omega) (by omega) (by omega),
   h.st.to fun v j hv => h2 v j (by omega) (by omega) (by omega) (by omega),
   h.ed.to fun v j hv => h2 v j (by omega) (by omega) (by omega) (by omega),
   h.owe.to fun v j hv => h2 v j (by omega) (by omega) (by omega) (by omega),
   h.min.to fun v j hv => h2 v j (by omega) (by omega) (by omega) (by omega),
   h.tr.to fun v j hv => h2 v j (by omega) (by omega) (by omega) (by omega),
   h.word.to fun v j hv => h2 v j (by omega) (by omega) (by omega) (by omega),
   h.wei.to fun v j hv => h2 v j (by omega) (by omega) (by omega) (by omega),
   h.wire.to fun v j hv => h2 v j (by omega) (by omega) (by omega) (by omega),
   h.puz.to fun v j hv => h2 v j (by omega) (by omega) (by omega) (by omega),
   h.new.to fun v j hv => h2 v j (by omega) (by omega) (by omega) (by omega)⟩
