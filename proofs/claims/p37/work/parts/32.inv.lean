/-! THE COUPLING: what the class holds, and what the law's rows say of it -/
def okCell (c : Nat × Nat) (v : Nat) : Prop := v = 0 ∨ (100 ≤ v ∧ v < 100 + c.1) ∨ (200 ≤ v ∧ v < 200 + c.2) ∨ (300 ≤ v ∧ v < 300 + c.2)
def gPage (I : xv_I) : Prop := ∀ p, p < 10 → ∃ s k, s < 4 ∧ k < 2 ∧ I 13 p = nI s ∧ I 14 p = nI k ∧ I 60 p = nI (s + 10 * k)
def gOk (c : Nat × Nat) (I : xv_I) : Prop := ∀ p, p < 10 → ∀ k, k < 12 → ∃ v, okCell c v ∧ (v < 200 ∨ p < 7) ∧ I (3 + p) k = nI v
def gC (I : xv_I) : Prop := ∀ p, p < 10 → ∀ k, k < 12 → I (3 + p) k = cE I p k
def gT (I : xv_I) : Prop := ∃ t, t < 32 ∧ I 1 6 = nI t ∧ I 69 2 = nI t
/-- the people of a set are there -/
def sub (I : xv_I) (b : Nat) : Prop := ∀ B, B < 64 → I 1 5 = nI B → b &&& B = b
def gS (I : xv_I) : Prop := ∀ p, p < 10 → ∃ b, b < 64 ∧ I 15 p = nI b ∧ I 64 p = nI b ∧ sub I b
def gHold (I : xv_I) : Prop := ∀ p, p < 10 → ∃ b, b < 64 ∧ I 16 p = nI b ∧ I 64 (10 + p) = nI b ∧ sub I b
def gHere (I : xv_I) : Prop := ∃ b, b < 64 ∧ I 1 5 = nI b ∧ I 69 5 = nI (b ^^^ 63)
def gDist (I : xv_I) : Prop := ∀ k, k < 4 → ∃ x, x ≤ 9 ∧ I 17 k = nI x ∧ I 65 k = nI x
/-- an advertisement as the law keeps it -/
def adv (ct w h col sec zo : Nat) : Nat := ct + 10 * w + 100 * h + 1000 * col + 10000 * sec + 100000 * zo
/-- its section or zone: none, or one -/
def opt (x : Int32) (n : Nat) : Prop := (n = 0 ∧ x = -1) ∨ (0 < n ∧ x = nI (n - 1))
def gAd1 (I : xv_I) (a : Nat) : Prop := ∃ ct w h col sec zo, ct < 4 ∧ (1 ≤ w ∧ w ≤ 3) ∧ (1 ≤ h ∧ h ≤ 4) ∧ col < 2 ∧ sec ≤ 4 ∧ zo ≤ 3 ∧ I (100 + a) 0 = nI ct ∧ I (100 + a) 1 = nI w ∧ I (100 + a) 2 = nI h ∧ I (100 + a) 3 = nI col ∧ opt (I (100 + a) 4) sec ∧ opt (I (100 + a) 5) zo ∧ I 61 a = nI (adv ct w h col sec zo) ∧
  ((I (100 + a) 6 = -1 ∧ I 62 a = -1 ∧ ∀ p, p < 10 → ∀ k, k < 12 → ¬ I (3 + p) k = nI (100 + a)) ∨ ∃ p f, p < 10 ∧ f % 3 + w ≤ 3 ∧ f / 3 + h ≤ 4 ∧ I (100 + a) 6 = nI p ∧ I (100 + a) 7 = nI f ∧ I 62 a = nI (100 * p + f) ∧ ∀ q, q < 10 → ∀ k, k < 12 → (I (3 + q) k = nI (100 + a) ↔ q = p ∧ ∃ d r, d < h ∧ r < w ∧ k = f + 3 * d + r))
def gAd (c : Nat × Nat) (I : xv_I) : Prop := I 0 3 = nI c.1 ∧ I 69 0 = nI c.1 ∧ c.1 ≤ 20 ∧ ∀ a, a < c.1 → gAd1 I a
def dg (d np q : Nat) : Nat := d / 10 ^ (np - 1 - q) % 10
def pre (d np : Nat) : Nat → Nat
  | 0 => 0
  | k + 1 => pre d np k + dg d np k
/-- the cells of the paragraphs from f to t -/
def czf (d np f t : Nat) : Nat := (pre d np t - pre d np f + 4) / 5
/-- the sizes are those of n paragraphs, divided somewhere -/
def fitW (d np n : Nat) (sz : Nat → Nat) : Prop := ∃ m, 1 ≤ m ∧ m ≤ n ∧ (m < n ↔ 0 < sz 1) ∧ sz 0 = czf d np 0 m ∧ sz 1 = czf d np m n
def stW (I : xv_I) (s sec d np sh : Nat) (pg st sz : Nat → Nat) : Prop := 0 < sz 0 ∧ xWy I (201 + 5 * s) pg st sz ∧ (∀ i, i < 2 → 0 < sz i → pg i < 7) ∧ I 13 (pg 0) = nI sec ∧ (0 < sz 1 → pg 0 < pg 1 ∧ I 13 (pg 1) = nI 0) ∧ fitW d np sh sz ∧ (∀ n, sh < n → n ≤ np → ¬ fitW d np n sz) ∧ ∀ p, p < 10 → ∀ k, k < 12 → (I (3 + p) k = nI (200 + s) ↔ ∃ i, i < 2 ∧ ∃ m, m < sz i ∧ p = pg i ∧ k = cIn (st i + m))
def gSt1 (I : xv_I) (s : Nat) : Prop := ∃ sec d np lo sh, sec < 4 ∧ Dg np d ∧ d ≤ 999999 ∧ 1 ≤ np ∧ np ≤ 6 ∧ 1 ≤ lo ∧ lo ≤ np ∧ sh ≤ np ∧ I (200 + 5 * s) 0 = nI sec ∧ I (200 + 5 * s) 1 = nI d ∧ I (200 + 5 * s) 2 = nI np ∧ I (200 + 5 * s) 3 = nI lo ∧ I (201 + 5 * s) 0 = nI sh ∧ I 63 s = nI (sec + 10 * sh + 1000 * d) ∧
  ((sh = 0 ∧ (∀ i, i < 2 → I (201 + 5 * s + 3) i = nI 0) ∧ ∀ p, p < 10 → ∀ k, k < 12 → ¬ I (3 + p) k = nI (200 + s)) ∨ (0 < sh ∧ ∃ pg st sz : Nat → Nat, stW I s sec d np sh pg st sz))
def gSt (c : Nat × Nat) (I : xv_I) : Prop := I 0 5 = nI c.2 ∧ I 69 1 = nI c.2 ∧ c.2 ≤ 20 ∧ ∀ s, s < c.2 → gSt1 I s
def gEd (I : xv_I) : Prop := ∃ e, e ≤ 8 ∧ I 29 2 = nI e ∧ I 69 3 = nI e
def gOwe (c : Nat × Nat) (I : xv_I) : Prop := ∃ w, w ≤ 5 ∧ I 29 4 = nI w ∧ I 69 4 = nI w ∧ ∀ j, j < w → I 40 j = I 68 j ∧ ∃ s, s < c.2 ∧ I 40 j = nI s
def Rest (c : Nat × Nat) (I : xv_I) : Prop := gPage I ∧ gOk c I ∧ gHold I ∧ gHere I ∧ gDist I ∧ gAd c I ∧ gSt c I ∧ gEd I ∧ gOwe c I
/-- whole agreement: at the head of the law's loop -/
def Inv (c : Nat × Nat) (I : xv_I) : Prop := Rest c I ∧ gC I ∧ gT I ∧ gS I
/-- a page's cells aren't those that the law read last -/
def chg (I : xv_I) (p : Nat) : Prop := ∃ k, k < 12 ∧ ¬ I (3 + p) k = cE I p k
def mS (I : xv_I) : Prop := ∀ p, p < 10 → ∃ b, b < 64 ∧ I 64 p = nI b ∧ (chg I p → I 15 p = nI 0) ∧ (¬ chg I p → I 15 p = nI b) ∧ sub I b
def mT (I : xv_I) : Prop := ∃ t u, t < 32 ∧ u < 32 ∧ I 69 2 = nI t ∧ I 1 6 = nI u ∧ ∀ j, u.testBit j = true ↔ (t.testBit j = true ∨ ∃ p, p < 10 ∧ p / 2 = j ∧ chg I p)
/-- before the law reads the cells -/
def Mid (c : Nat × Nat) (I : xv_I) : Prop := Rest c I ∧ mS I ∧ mT I
theorem Inv.page {c : Nat × Nat} {I : xv_I} (h : Inv c I) : gPage I := h.1.1
theorem Inv.ok {c : Nat × Nat} {I : xv_I} (h : Inv c I) : gOk c I := h.1.2.1
theorem Inv.hold {c : Nat × Nat} {I : xv_I} (h : Inv c I) : gHold I := h.1.2.2.1
theorem Inv.here {c : Nat × Nat} {I : xv_I} (h : Inv c I) : gHere I := h.1.2.2.2.1
theorem Inv.dist {c : Nat × Nat} {I : xv_I} (h : Inv c I) : gDist I := h.1.2.2.2.2.1
theorem Inv.ad {c : Nat × Nat} {I : xv_I} (h : Inv c I) : gAd c I := h.1.2.2.2.2.2.1
theorem Inv.st {c : Nat × Nat} {I : xv_I} (h : Inv c I) : gSt c I := h.1.2.2.2.2.2.2.1
theorem Inv.ed {c : Nat × Nat} {I : xv_I} (h : Inv c I) : gEd I := h.1.2.2.2.2.2.2.2.1
theorem Inv.owe {c : Nat × Nat} {I : xv_I} (h : Inv c I) : gOwe c I := h.1.2.2.2.2.2.2.2.2
theorem gC.nchg {I : xv_I} (h : gC I) {p : Nat} (hp : p < 10) : ¬ chg I p := fun ⟨k, hk, q⟩ => q (h p hp k hk)
theorem Inv.mid {c : Nat × Nat} {I : xv_I} (h : Inv c I) : Mid c I := by
  obtain ⟨h1, h2, ⟨t, t1, t2, t3⟩, h4⟩ := h
  refine ⟨h1, fun p hp => ?_, t, t, t1, t1, t3, t2, fun j => ⟨Or.inl, fun q => q.elim id fun ⟨p, hp, _, q⟩ => absurd q (h2.nchg hp)⟩⟩
  obtain ⟨b, b1, b2, b3, b4⟩ := h4 p hp
  exact ⟨b, b1, b3, fun q => absurd q (h2.nchg hp), fun _ => b2, b4⟩
theorem cE_to {I I' : xv_I} {p k : Nat} (e : ∀ v j, v = 66 ∨ v = 67 → I' v j = I v j) : cE I' p k = cE I p k := by
  unfold cE
  rw [e 66 _ (by omega), e 67 _ (by omega)]
theorem chg_to {I I' : xv_I} (e : ∀ v j, (3 ≤ v ∧ v < 13) ∨ v = 66 ∨ v = 67 → I' v j = I v j) {p : Nat} (hp : p < 10) : chg I' p ↔ chg I p := by
  unfold chg
  constructor
  · rintro ⟨k, hk, q⟩
    rw [e (3 + p) k (by omega), cE_to fun v j h => e v j (by omega)] at q
    exact ⟨k, hk, q⟩
  · rintro ⟨k, hk, q⟩
    refine ⟨k, hk, ?_⟩
    rw [e (3 + p) k (by omega), cE_to fun v j h => e v j (by omega)]
    exact q
theorem gPage.to {I I' : xv_I} (h : gPage I) (e : ∀ v j, (v = 13 ∨ v = 14 ∨ v = 60) → I' v j = I v j) : gPage I' := fun p hp => by
  rw [e 13 _ (by omega), e 14 _ (by omega), e 60 _ (by omega)]
  exact h p hp
theorem gOk.to {c : Nat × Nat} {I I' : xv_I} (h : gOk c I) (e : ∀ v j, 3 ≤ v ∧ v < 13 → I' v j = I v j) : gOk c I' := fun p hp k hk => by
  rw [e (3 + p) _ (by omega)]
  exact h p hp k hk
theorem gC.to {I I' : xv_I} (h : gC I) (e : ∀ v j, (3 ≤ v ∧ v < 13) ∨ v = 66 ∨ v = 67 → I' v j = I v j) : gC I' := fun p hp k hk => by
  rw [e (3 + p) _ (by omega), cE_to fun v j h => e v j (by omega)]
  exact h p hp k hk
theorem gT.to {I I' : xv_I} (h : gT I) (e : ∀ v j, (v = 1 ∧ j = 6) ∨ (v = 69 ∧ j = 2) → I' v j = I v j) : gT I' := by
  unfold gT
  rw [e 1 6 (by omega), e 69 2 (by omega)]
  exact h
theorem sub.to {I I' : xv_I} {b : Nat} (h : sub I b) (e : I' 1 5 = I 1 5) : sub I' b := fun B hB g => h B hB (e.symm.trans g)
theorem gS.to {I I' : xv_I} (h : gS I) (e5 : I' 1 5 = I 1 5) (e : ∀ v j, j < 10 → v = 15 ∨ v = 64 → I' v j = I v j) : gS I' := fun p hp => by
  obtain ⟨b, b1, b2, b3, b4⟩ := h p hp
  exact ⟨b, b1, (e 15 _ hp (by omega)).trans b2, (e 64 _ hp (by omega)).trans b3, b4.to e5⟩
theorem gHold.to {I I' : xv_I} (h : gHold I) (e : ∀ v j, v = 16 ∨ (v = 64 ∧ 10 ≤ j) ∨ (v = 1 ∧ j = 5) → I' v j = I v j) : gHold I' := fun p hp => by
  obtain ⟨b, b1, b2, b3, b4⟩ := h p hp
  exact ⟨b, b1, (e 16 _ (by omega)).trans b2, (e 64 _ (by omega)).trans b3, b4.to (e 1 5 (by omega))⟩
theorem gHere.to {I I' : xv_I} (h : gHere I) (e : ∀ v j, (v = 1 ∧ j = 5) ∨ (v = 69 ∧ j = 5) → I' v j = I v j) : gHere I' := by
  unfold gHere
  rw [e 1 5 (by omega), e 69 5 (by omega)]
  exact h
theorem gDist.to {I I' : xv_I} (h : gDist I) (e : ∀ v j, v = 17 ∨ v = 65 → I' v j = I v j) : gDist I' := fun k hk => by
  rw [e 17 _ (by omega), e 65 _ (by omega)]
  exact h k hk
theorem gAd1.to {I I' : xv_I} {a : Nat} (h : gAd1 I a) (e1 : ∀ j, I' (100 + a) j = I (100 + a) j) (e2 : I' 61 a = I 61 a) (e3 : I' 62 a = I 62 a) (e4 : ∀ p, p < 10 → ∀ k, k < 12 → (I' (3 + p) k = nI (100 + a) ↔ I (3 + p) k = nI (100 + a))) : gAd1 I' a := by
  obtain ⟨ct, w, h9, col, sec, zo, a1, a2, a3, a4, a5, a6, a7, a8, a9, b1, b2, b3, b4, b5⟩ := h
  unfold gAd1
  rw [e1, e1, e1, e1, e1, e1, e1, e1, e2, e3]
  refine ⟨ct, w, h9, col, sec, zo, a1, a2, a3, a4, a5, a6, a7, a8, a9, b1, b2, b3, b4, ?_⟩
  rcases b5 with ⟨d1, d2, d3⟩ | ⟨p, f, d1, d2, d3, d4, d5, d6, d7⟩
  · exact Or.inl ⟨d1, d2, fun p hp k hk q => d3 p hp k hk ((e4 p hp k hk).mp q)⟩
  · exact Or.inr ⟨p, f, d1, d2, d3, d4, d5, d6, fun q hq k hk => (e4 q hq k hk).trans (d7 q hq k hk)⟩
theorem gAd.to {c : Nat × Nat} {I I' : xv_I} (h : gAd c I) (e : ∀ v j, (v = 0 ∧ j = 3) ∨ (v = 69 ∧ j = 0) ∨ (100 ≤ v ∧ v < 120) ∨ v = 61 ∨ v = 62 → I' v j = I v j) (e4 : ∀ a, a < c.1 → ∀ p, p < 10 → ∀ k, k < 12 → (I' (3 + p) k = nI (100 + a) ↔ I (3 + p) k = nI (100 + a))) : gAd c I' :=
  ⟨(e _ _ (by omega)).trans h.1, (e _ _ (by omega)).trans h.2.1, h.2.2.1, fun a ha => (h.2.2.2 a ha).to (fun j => e _ _ (by have := h.2.2.1; omega)) (e _ _ (by omega)) (e _ _ (by omega)) (e4 a ha)⟩
theorem xWy_to2 {I I' : xv_I} {w : Nat} {pg st sz : Nat → Nat} (h : xWy I w pg st sz) (e : ∀ v j, w ≤ v → v < w + 4 → I' v j = I v j) : xWy I' w pg st sz := fun i hi => by
  rw [e (w + 3) i (by omega) (by omega), e (w + 1) i (by omega) (by omega), e (w + 2) i (by omega) (by omega)]
  exact h i hi
theorem gSt1.to {I I' : xv_I} {s : Nat} (h : gSt1 I s) (e1 : ∀ v j, 200 + 5 * s ≤ v → v < 205 + 5 * s → I' v j = I v j) (e2 : I' 63 s = I 63 s) (e3 : ∀ p, p < 10 → I' 13 p = I 13 p ∨ (I' 13 p = I 13 p ∨ ∀ k, k < 12 → ¬ I (3 + p) k = nI (200 + s))) (e4 : ∀ p, p < 10 → ∀ k, k < 12 → (I' (3 + p) k = nI (200 + s) ↔ I (3 + p) k = nI (200 + s))) : gSt1 I' s := by
  obtain ⟨sec, d, np, lo, sh, a1, a2, a3, a4, a5, a6, a7, a8, a9, b1, b2, b3, b4, b5, b6⟩ := h
  refine ⟨sec, d, np, lo, sh, a1, a2, a3, a4, a5, a6, a7, a8, ?_, ?_, ?_, ?_, ?_, e2.trans b5, ?_⟩
  · exact (e1 _ _ (by omega) (by omega)).trans a9
  · exact (e1 _ _ (by omega) (by omega)).trans b1
  · exact (e1 _ _ (by omega) (by omega)).trans b2
  · exact (e1 _ _ (by omega) (by omega)).trans b3
  · exact (e1 _ _ (by omega) (by omega)).trans b4
  rcases b6 with ⟨d1, d2, d3⟩ | ⟨d1, pg, st, sz, d2, d3, d4, d5, d6, d7, d8, d9⟩
  · exact Or.inl ⟨d1, fun i hi => (e1 _ _ (by omega) (by omega)).trans (d2 i hi), fun p hp k hk q => d3 p hp k hk ((e4 p hp k hk).mp q)⟩
  · have k0 : ∀ i, i < 2 → 0 < sz i → I' 13 (pg i) = I 13 (pg i) := fun i hi hz => by
      have hp := d4 i hi hz
      rcases e3 (pg i) (by omega) with q | q | q
      · exact q
      · exact q
      · have h12 := (d3 i hi).2.2 hz
        exact absurd ((d9 (pg i) (by omega) (cIn (st i + 0)) (by show 3 * ((st i + 0) % 4) + (st i + 0) / 4 < 12; omega)).mpr ⟨i, hi, 0, hz, rfl, rfl⟩) (q _ (by show 3 * ((st i + 0) % 4) + (st i + 0) / 4 < 12; omega))
    exact Or.inr ⟨d1, pg, st, sz, d2, xWy_to2 d3 (fun v j h1 h2 => e1 v j (by omega) (by omega)), d4, (k0 0 (by decide) d2).trans d5, fun hz => ⟨(d6 hz).1, (k0 1 (by decide) hz).trans (d6 hz).2⟩, d7, d8, fun p hp k hk => (e4 p hp k hk).trans (d9 p hp k hk)⟩
theorem gSt.to {c : Nat × Nat} {I I' : xv_I} (h : gSt c I) (e : ∀ v j, (v = 0 ∧ j = 5) ∨ (v = 69 ∧ j = 1) ∨ (200 ≤ v ∧ v < 300) ∨ v = 63 ∨ v = 13 → I' v j = I v j) (e4 : ∀ s, s < c.2 → ∀ p, p < 10 → ∀ k, k < 12 → (I' (3 + p) k = nI (200 + s) ↔ I (3 + p) k = nI (200 + s))) : gSt c I' :=
  ⟨(e _ _ (by omega)).trans h.1, (e _ _ (by omega)).trans h.2.1, h.2.2.1, fun a ha => (h.2.2.2 a ha).to (fun v j h1 h2 => e v j (by have := h.2.2.1; omega)) (e _ _ (by omega)) (fun p _ => Or.inl (e _ _ (by omega))) (e4 a ha)⟩
theorem gEd.to {I I' : xv_I} (h : gEd I) (e : ∀ v j, (v = 29 ∧ j = 2) ∨ (v = 69 ∧ j = 3) → I' v j = I v j) : gEd I' := by
  unfold gEd
  rw [e 29 2 (by omega), e 69 3 (by omega)]
  exact h
theorem gOwe.to {c : Nat × Nat} {I I' : xv_I} (h : gOwe c I) (e : ∀ v j, (v = 29 ∧ j = 4) ∨ (v = 69 ∧ j = 4) ∨ v = 40 ∨ v = 68 → I' v j = I v j) : gOwe c I' := by
  obtain ⟨w, h1, h2, h3, h4⟩ := h
  exact ⟨w, h1, (e _ _ (by omega)).trans h2, (e _ _ (by omega)).trans h3, fun j hj => by rw [e 40 _ (by omega), e 68 _ (by omega)]; exact h4 j hj⟩
theorem mS.to {I I' : xv_I} (h : mS I) (e : ∀ v j, (3 ≤ v ∧ v < 13) ∨ v = 66 ∨ v = 67 → I' v j = I v j) (e5 : I' 1 5 = I 1 5) (e2 : ∀ v j, j < 10 → v = 15 ∨ v = 64 → I' v j = I v j) : mS I' := fun p hp => by
  obtain ⟨b, b1, b2, b3, b4, b5⟩ := h p hp
  rw [e2 15 _ hp (by omega), e2 64 _ hp (by omega), chg_to e hp]
  exact ⟨b, b1, b2, b3, b4, b5.to e5⟩
theorem mT.to {I I' : xv_I} (h : mT I) (e : ∀ v j, (3 ≤ v ∧ v < 13) ∨ v = 66 ∨ v = 67 → I' v j = I v j) (e2 : ∀ v j, (v = 1 ∧ j = 6) ∨ (v = 69 ∧ j = 2) → I' v j = I v j) : mT I' := by
  obtain ⟨t, u, h1, h2, h3, h4, h5⟩ := h
  exact ⟨t, u, h1, h2, (e2 _ _ (by omega)).trans h3, (e2 _ _ (by omega)).trans h4, fun j => (h5 j).trans ⟨fun q => q.elim Or.inl fun ⟨p, a, b, q⟩ => Or.inr ⟨p, a, b, (chg_to e a).mpr q⟩, fun q => q.elim Or.inl fun ⟨p, a, b, q⟩ => Or.inr ⟨p, a, b, (chg_to e a).mp q⟩⟩⟩
/-- what the law's reading of the cells writes, and scratch, may change -/
theorem Rest.to {c : Nat × Nat} {I I' : xv_I} (h : Rest c I) (e : ∀ v j, (v < 20 ∨ 28 < v) → v < 300 → v ≠ 15 → (v ≠ 1 ∨ j ≠ 6) → v ≠ 66 → v ≠ 67 → v ≠ 70 → (v ≠ 64 ∨ 10 ≤ j) → (v ≠ 69 ∨ j ≠ 2) → I' v j = I v j) : Rest c I' := by
  obtain ⟨h1, h2, h3, h4, h5, h6, h7, h8, h9⟩ := h
  refine ⟨h1.to fun v j g => ?_, h2.to fun v j g => ?_, h3.to fun v j g => ?_, h4.to fun v j g => ?_, h5.to fun v j g => ?_, h6.to (fun v j g => ?_) fun a _ p hp k hk => ?_, h7.to (fun v j g => ?_) fun a _ p hp k hk => ?_, h8.to fun v j g => ?_, h9.to fun v j g => ?_⟩
  · exact e v j (by omega) (by omega) (by omega) (by omega) (by omega) (by omega) (by omega) (by omega) (by omega)
  · exact e v j (by omega) (by omega) (by omega) (by omega) (by omega) (by omega) (by omega) (by omega) (by omega)
  · exact e v j (by omega) (by omega) (by omega) (by omega) (by omega) (by omega) (by omega) (by omega) (by omega)
  · exact e v j (by omega) (by omega) (by omega) (by omega) (by omega) (by omega) (by omega) (by omega) (by omega)
  · exact e v j (by omega) (by omega) (by omega) (by omega) (by omega) (by omega) (by omega) (by omega) (by omega)
  · exact e v j (by omega) (by omega) (by omega) (by omega) (by omega) (by omega) (by omega) (by omega) (by omega)
  · rw [e (3 + p) k (by omega) (by omega) (by omega) (by omega) (by omega) (by omega) (by omega) (by omega) (by omega)]
  · exact e v j (by omega) (by omega) (by omega) (by omega) (by omega) (by omega) (by omega) (by omega) (by omega)
  · rw [e (3 + p) k (by omega) (by omega) (by omega) (by omega) (by omega) (by omega) (by omega) (by omega) (by omega)]
  · exact e v j (by omega) (by omega) (by omega) (by omega) (by omega) (by omega) (by omega) (by omega) (by omega)
  · exact e v j (by omega) (by omega) (by omega) (by omega) (by omega) (by omega) (by omega) (by omega) (by omega)
