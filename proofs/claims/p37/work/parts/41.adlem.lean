theorem xv_u_id {α : Type} (f : Nat → Nat → α) (v k : Nat) : xv_u f v k (f v k) = f := by
  funext w j
  unfold xv_u
  by_cases h : w = v ∧ j = k
  · rw [if_pos h, h.1, h.2]
  · rw [if_neg h]
/-- whole agreement, where only the rows of some groups change -/
theorem Inv.of {c c' : Nat × Nat} {I K : xv_I} (hI : Inv c I) (e : ∀ v j, (v ≠ 0 ∨ (j ≠ 3 ∧ j ≠ 5)) → v ≠ 17 → v ≠ 65 → (v ≠ 69 ∨ (j ≠ 0 ∧ j ≠ 1)) → v ≠ 61 → v ≠ 62 → v ≠ 63 → v < 100 → (v < 20 ∨ 28 < v) → K v j = I v j) (hk : gOk c' I) (hd : gDist K) (ha : gAd c' K) (hs : gSt c' K) (ho : gOwe c' I) : Inv c' K := by
  obtain ⟨⟨h1, h2, h3, h4, h5, h6, h7, h8, h9⟩, hC, hT, hS⟩ := hI
  refine ⟨⟨h1.to fun v j g => ?_, hk.to fun v j g => ?_, h3.to fun v j g => ?_, h4.to fun v j g => ?_, hd, ha, hs, h8.to fun v j g => ?_, ho.to fun v j g => ?_⟩, hC.to fun v j g => ?_, hT.to fun v j g => ?_, hS.to ?_ fun v j hj g => ?_⟩
  all_goals exact e _ _ (by omega) (by omega) (by omega) (by omega) (by omega) (by omega) (by omega) (by omega) (by omega)
theorem Inv.setDist {c : Nat × Nat} {I : xv_I} (hI : Inv c I) {k x : Nat} (hk : k < 4) (hx : x ≤ 9) : Inv c (xv_u (xv_u I 17 k (nI x)) 65 k (nI x)) := by
  have e : ∀ v j, (v ≠ 17 ∨ j ≠ k) → (v ≠ 65 ∨ j ≠ k) → xv_u (xv_u I 17 k (nI x)) 65 k (nI x) v j = I v j := fun v j h1 h2 => by
    unfold xv_u
    rw [if_neg (by omega), if_neg (by omega)]
  refine hI.of (fun v j h1 h2 h3 h4 h5 h6 h7 h8 h9 => e v j (by omega) (by omega)) hI.ok (fun i hi => ?_) (hI.ad.to (fun v j g => e v j (by omega) (by omega)) fun a _ p hp k hk => by rw [e (3 + p) k (by omega) (by omega)]) (hI.st.to (fun v j g => e v j (by omega) (by omega)) fun a _ p hp k hk => by rw [e (3 + p) k (by omega) (by omega)]) hI.owe
  by_cases g : i = k
  · subst g
    exact ⟨x, hx, by unfold xv_u; rw [if_neg (by omega), if_pos ⟨rfl, rfl⟩], by rw [xv_u_eq]⟩
  · obtain ⟨y, y1, y2, y3⟩ := hI.dist i hi
    exact ⟨y, y1, (e _ _ (by omega) (by omega)).trans y2, (e _ _ (by omega) (by omega)).trans y3⟩
theorem okCell.up {c c' : Nat × Nat} {v : Nat} (h : okCell c v) (h1 : c.1 ≤ c'.1) (h2 : c.2 ≤ c'.2) : okCell c' v := by
  unfold okCell at *
  omega
theorem gOk.up {c c' : Nat × Nat} {I : xv_I} (h : gOk c I) (h1 : c.1 ≤ c'.1) (h2 : c.2 ≤ c'.2) : gOk c' I := fun p hp k hk => by
  obtain ⟨v, a, b, e⟩ := h p hp k hk
  exact ⟨v, a.up h1 h2, b, e⟩
theorem gOk.lt {c : Nat × Nat} {v : Nat} (h : okCell c v) (h1 : c.1 ≤ 20) (h2 : c.2 ≤ 20) : v < 320 := by
  unfold okCell at h
  omega
theorem Inv.newAd {c : Nat × Nat} {I K : xv_I} (hI : Inv c I) (hc : c.1 < 20) {ct w h col sec zo : Nat} (a1 : ct < 4) (a2 : 1 ≤ w ∧ w ≤ 3) (a3 : 1 ≤ h ∧ h ≤ 4) (a4 : col < 2) (a5 : sec ≤ 4) (a6 : zo ≤ 3) (f0 : K (100 + c.1) 0 = nI ct) (f1 : K (100 + c.1) 1 = nI w) (f2 : K (100 + c.1) 2 = nI h) (f3 : K (100 + c.1) 3 = nI col) (f4 : opt (K (100 + c.1) 4) sec) (f5 : opt (K (100 + c.1) 5) zo) (f6 : K (100 + c.1) 6 = -1) (e61 : K 61 c.1 = nI (adv ct w h col sec zo)) (e62 : K 62 c.1 = -1) (e03 : K 0 3 = nI (c.1 + 1)) (e690 : K 69 0 = nI (c.1 + 1))
    (e : ∀ v j, v ≠ 100 + c.1 → (v ≠ 0 ∨ j ≠ 3) → (v ≠ 69 ∨ j ≠ 0) → (v ≠ 61 ∨ j ≠ c.1) → (v ≠ 62 ∨ j ≠ c.1) → K v j = I v j) : Inv (c.1 + 1, c.2) K := by
  have ec : ∀ p, p < 10 → ∀ k, K (3 + p) k = I (3 + p) k := fun p hp k => e _ _ (by omega) (by omega) (by omega) (by omega) (by omega)
  refine hI.of (c' := (c.1 + 1, c.2)) (fun v j h1 h2 h3 h4 h5 h6 h7 h8 h9 => e v j (by omega) (by omega) (by omega) (by omega) (by omega)) (hI.ok.up (Nat.le_succ _) (Nat.le_refl _)) (hI.dist.to fun v j g => e v j (by omega) (by omega) (by omega) (by omega) (by omega)) ⟨e03, e690, hc, fun a ha => ?_⟩ (hI.st.to (fun v j g => e v j (by omega) (by omega) (by omega) (by omega) (by omega)) fun a _ p hp k hk => by rw [ec p hp k]) hI.owe
  by_cases g : a = c.1
  · subst g
    refine ⟨ct, w, h, col, sec, zo, a1, a2, a3, a4, a5, a6, f0, f1, f2, f3, f4, f5, e61, Or.inl ⟨f6, e62, fun p hp k hk q => ?_⟩⟩
    obtain ⟨v, b1, b2, b3⟩ := hI.ok p hp k hk
    have h20 := hI.st.2.2.1
    have hv := gOk.lt b1 (by omega) h20
    rw [ec p hp k, b3] at q
    have := (nI_eq (by omega) (by omega)).mp q
    unfold okCell at b1
    omega
  · exact (hI.ad.2.2.2 a (by have : a < c.1 + 1 := ha; omega)).to (fun j => e _ _ (by omega) (by omega) (by omega) (by omega) (by omega)) (e _ _ (by omega) (by omega) (by omega) (by omega) (by omega)) (e _ _ (by omega) (by omega) (by omega) (by omega) (by omega)) fun p hp k hk => by rw [ec p hp k]
theorem cC.patch {I I0 I1 : xv_I} {S : Nat → Nat → Prop} {x : Int32} {w : Nat} (hw : 99 < w) (h : cC I0 I1 S x) (e : ∀ v j, v ≠ w → I0 v j = I v j) : cC I (fun v j => if v = w then I v j else I1 v j) S x := by
  obtain ⟨h1, h2, h3, h4⟩ := h
  have eq : ∀ v j, v ≠ w → (fun v j => if v = w then I v j else I1 v j) v j = I1 v j := fun v j g => if_neg g
  refine ⟨fun p hp k hk => ?_, fun p hp => ?_, fun t ht et => ?_, fun v j a1 a2 a3 => ?_⟩
  · rw [eq _ _ (by omega), ← e (3 + p) k (by omega)]
    exact h1 p hp k hk
  · rw [eq _ _ (by omega), ← e 15 p (by omega)]
    exact h2 p hp
  · rw [eq _ _ (by omega)]
    exact h3 t ht ((e 1 6 (by omega)).trans et)
  · by_cases g : v = w
    · exact if_pos g
    · rw [eq v j g, h4 v j a1 a2 a3, e v j g]
/-- an advertisement comes or goes -/
theorem Mid.ad {c : Nat × Nat} {I I1 K : xv_I} {S : Nat → Nat → Prop} {x a : Nat} (hI : Inv c I) (h : cC I I1 S (nI x)) (hne : ∀ p, p < 10 → ∀ k, k < 12 → S p k → ¬ I (3 + p) k = nI x) (hx : x = 0 ∨ x = 100 + a) (ha : a < c.1) (e1 : ∀ v j, v ≠ 100 + a → (v ≠ 62 ∨ j ≠ a) → K v j = I1 v j) (hS : ∀ p, p < 10 → ∀ k, k < 12 → S p k → I (3 + p) k = nI 0 ∨ I (3 + p) k = nI (100 + a)) (hnew : gAd1 K a) : Mid c K := by
  have h20 := hI.ad.2.2.1
  have h22 := hI.st.2.2.1
  obtain ⟨m1, m2⟩ := h.mid hI hne
  have e : ∀ v j, (v < 3 ∨ 13 ≤ v) → v ≠ 15 → (v ≠ 1 ∨ j ≠ 6) → v ≠ 100 + a → (v ≠ 62 ∨ j ≠ a) → K v j = I v j := fun v j a1 a2 a3 a4 a5 => (e1 v j a4 a5).trans (h.2.2.2 v j a1 a2 a3)
  have ec : ∀ y, y < 1000 → 0 < y → y ≠ 100 + a → ∀ p, p < 10 → ∀ k, k < 12 → (K (3 + p) k = nI y ↔ I (3 + p) k = nI y) := fun y hy hy0 hya p hp k hk => by
    rw [e1 (3 + p) k (by omega) (by omega)]
    refine h.mark (fun q => ?_) (fun p hp k hk hs q => ?_) p hp k hk
    · have := (nI_eq (by omega) (by omega)).mp q
      omega
    · rcases hS p hp k hk hs with r | r
      · have := (nI_eq (by omega) (by omega)).mp (q.symm.trans r)
        omega
      · have := (nI_eq (by omega) (by omega)).mp (q.symm.trans r)
        omega
  refine ⟨⟨hI.page.to fun v j g => e v j (by omega) (by omega) (by omega) (by omega) (by omega), (h.ok (c' := c) hI.ok (by unfold okCell; omega) (Or.inl (by omega))).to fun v j g => e1 v j (by omega) (by omega), hI.hold.to fun v j g => e v j (by omega) (by omega) (by omega) (by omega) (by omega), hI.here.to fun v j g => e v j (by omega) (by omega) (by omega) (by omega) (by omega), hI.dist.to fun v j g => e v j (by omega) (by omega) (by omega) (by omega) (by omega), ⟨(e _ _ (by omega) (by omega) (by omega) (by omega) (by omega)).trans hI.ad.1, (e _ _ (by omega) (by omega) (by omega) (by omega) (by omega)).trans hI.ad.2.1, h20, fun b hb => ?_⟩, hI.st.to (fun v j g => e v j (by omega) (by omega) (by omega) (by omega) (by omega)) (fun s hs => ec _ (by omega) (by omega) (by omega)), hI.ed.to fun v j g => e v j (by omega) (by omega) (by omega) (by omega) (by omega), hI.owe.to fun v j g => e v j (by omega) (by omega) (by omega) (by omega) (by omega)⟩, m1.to (fun v j g => e1 v j (by omega) (by omega)) (e1 _ _ (by omega) (by omega)) (fun v j hj g => e1 v j (by omega) (by omega)), m2.to (fun v j g => e1 v j (by omega) (by omega)) (fun v j g => e1 v j (by omega) (by omega))⟩
  by_cases g : b = a
  · rw [g]; exact hnew
  · exact (hI.ad.2.2.2 b hb).to (fun j => e _ _ (by omega) (by omega) (by omega) (by omega) (by omega)) (e _ _ (by omega) (by omega) (by omega) (by omega) (by omega)) (e _ _ (by omega) (by omega) (by omega) (by omega) (by omega)) (ec _ (by omega) (by omega) (by omega))
theorem Mid.takeOff {c : Nat × Nat} {I : xv_I} (hI : Inv c I) {a : Nat} (ha : a < c.1) : Mid c (xv_u (xv_u (xv_u (xFree (nI (100 + a)) I) (100 + a) 6 (-1)) (100 + a) 7 (-1)) 62 a (-1)) := by
  have h20 := hI.ad.2.2.1
  have hy : ¬ nI 0 = nI (100 + a) := fun q => by
    have := (nI_eq (by omega) (by omega)).mp q
    omega
  have h := cC.free (I := I) hy
  have e1 : ∀ v j, (v ≠ 100 + a ∨ (j ≠ 6 ∧ j ≠ 7)) → (v ≠ 62 ∨ j ≠ a) → xv_u (xv_u (xv_u (xFree (nI (100 + a)) I) (100 + a) 6 (-1)) (100 + a) 7 (-1)) 62 a (-1) v j = xFree (nI (100 + a)) I v j := fun v j a1 a2 => by
    unfold xv_u
    rw [if_neg (by omega), if_neg (by omega), if_neg (by omega)]
  have e : ∀ v j, (v < 3 ∨ 13 ≤ v) → v ≠ 15 → (v ≠ 1 ∨ j ≠ 6) → (v ≠ 100 + a ∨ (j ≠ 6 ∧ j ≠ 7)) → (v ≠ 62 ∨ j ≠ a) → xv_u (xv_u (xv_u (xFree (nI (100 + a)) I) (100 + a) 6 (-1)) (100 + a) 7 (-1)) 62 a (-1) v j = I v j := fun v j a1 a2 a3 a4 a5 => (e1 v j a4 a5).trans (h.2.2.2 v j a1 a2 a3)
  refine Mid.ad hI h (fun p hp k hk q r => hy (r.symm.trans q)) (Or.inl rfl) ha (fun v j a1 a2 => e1 v j (by omega) a2) (fun p hp k hk q => Or.inr q) ?_
  obtain ⟨ct, w, h9, col, sec, zo, a1, a2, a3, a4, a5, a6, a7, a8, a9, b1, b2, b3, b4, b5⟩ := hI.ad.2.2.2 a ha
  unfold gAd1
  rw [e (100 + a) 0 (by omega) (by omega) (by omega) (by omega) (by omega), e (100 + a) 1 (by omega) (by omega) (by omega) (by omega) (by omega), e (100 + a) 2 (by omega) (by omega) (by omega) (by omega) (by omega), e (100 + a) 3 (by omega) (by omega) (by omega) (by omega) (by omega), e (100 + a) 4 (by omega) (by omega) (by omega) (by omega) (by omega), e (100 + a) 5 (by omega) (by omega) (by omega) (by omega) (by omega), e 61 a (by omega) (by omega) (by omega) (by omega) (by omega)]
  refine ⟨ct, w, h9, col, sec, zo, a1, a2, a3, a4, a5, a6, a7, a8, a9, b1, b2, b3, b4, Or.inl ⟨?_, xv_u_eq _ _ _ _, fun p hp k hk q => ?_⟩⟩
  · unfold xv_u
    rw [if_neg (by omega), if_neg (by omega), if_pos ⟨rfl, rfl⟩]
  · rw [e1 (3 + p) k (by omega) (by omega)] at q
    by_cases s : I (3 + p) k = nI (100 + a)
    · exact hy (((h.1 p hp k hk).1 s).symm.trans q)
    · exact s (((h.1 p hp k hk).2 s).symm.trans q)
theorem Mid.place {c : Nat × Nat} {I : xv_I} (hI : Inv c I) {a p f w h : Nat} (ha : a < c.1) (hp : p < 10) (hw : I (100 + a) 1 = nI w) (hh : I (100 + a) 2 = nI h) (hw2 : 1 ≤ w ∧ w ≤ 3) (hh2 : 1 ≤ h ∧ h ≤ 4) (hf : xFits I p w h f) (h62 : I 62 a = -1) : Mid c (xv_u (xPl2 I a p f w h) 62 a (nI (100 * p + f))) := by
  have h20 := hI.ad.2.2.1
  obtain ⟨f1, f2, f3⟩ := hf
  have hPc := (cC.fill (I := xv_u (xv_u I (100 + a) 6 (nI p)) (100 + a) 7 (nI f)) (x := nI (100 + a)) hp f1 f2).patch (I := I) (w := 100 + a) (by omega) (fun v j g => by
    unfold xv_u
    rw [if_neg (by omega), if_neg (by omega)])
  have h0 := cC.fill (I := xv_u (xv_u I (100 + a) 6 (nI p)) (100 + a) 7 (nI f)) (x := nI (100 + a)) hp f1 f2
  have hz : ∀ q, q < 10 → ∀ k, k < 12 → inR p f w h q k → I (3 + q) k = nI 0 := fun q hq k hk g => by
    obtain ⟨rfl, d, r, hd, hr, rfl⟩ := g
    exact f3 d hd r hr
  have ef : ∀ j, xPl2 I a p f w h (100 + a) j = xv_u (xv_u I (100 + a) 6 (nI p)) (100 + a) 7 (nI f) (100 + a) j := fun j => h0.2.2.2 (100 + a) j (by omega) (by omega) (by omega)
  have efo : ∀ j, j < 6 → xv_u (xPl2 I a p f w h) 62 a (nI (100 * p + f)) (100 + a) j = I (100 + a) j := fun j hj => by
    rw [xv_u_ne _ _ _ (by omega), ef]
    unfold xv_u
    rw [if_neg (by omega), if_neg (by omega)]
  have eo : ∀ v j, v ≠ 100 + a → (v < 3 ∨ 13 ≤ v) → v ≠ 15 → (v ≠ 1 ∨ j ≠ 6) → xPl2 I a p f w h v j = I v j := fun v j g a1 a2 a3 => (h0.2.2.2 v j a1 a2 a3).trans (by
    unfold xv_u
    rw [if_neg (by omega), if_neg (by omega)])
  obtain ⟨ct, w', h9, col, sec, zo, a1, a2, a3, a4, a5, a6, a7, a8, a9, b1, b2, b3, b4, b5⟩ := hI.ad.2.2.2 a ha
  obtain rfl : w' = w := (nI_eq (by omega) (by omega)).mp (a8.symm.trans hw)
  obtain rfl : h9 = h := (nI_eq (by omega) (by omega)).mp (a9.symm.trans hh)
  have hno : ∀ q, q < 10 → ∀ k, k < 12 → ¬ I (3 + q) k = nI (100 + a) := by
    rcases b5 with ⟨d1, d2, d3⟩ | ⟨p', f', d1, d2, d3, d4, d5, d6, d7⟩
    · exact d3
    · exact absurd (d6.symm.trans h62) (nI_nm1 (by omega))
  refine Mid.ad hI hPc (fun q hq k hk g r => ?_) (Or.inr rfl) ha (fun v j g1 g2 => ?_) (fun q hq k hk g => Or.inl (hz q hq k hk g)) ?_
  · exact hno q hq k hk r
  · show _ = if v = 100 + a then I v j else _
    rw [if_neg g1]
    unfold xv_u
    rw [if_neg (by omega)]
    rfl
  · unfold gAd1
    rw [efo 0 (by omega), efo 1 (by omega), efo 2 (by omega), efo 3 (by omega), efo 4 (by omega), efo 5 (by omega)]
    refine ⟨ct, w', h9, col, sec, zo, a1, a2, a3, a4, a5, a6, a7, a8, a9, b1, b2, b3, ?_, Or.inr ⟨p, f, hp, f1, f2, ?_, ?_, xv_u_eq _ _ _ _, fun q hq k hk => ?_⟩⟩
    · rw [xv_u_ne _ _ _ (by omega), eo 61 a (by omega) (by omega) (by omega) (by omega)]
      exact b4
    · rw [xv_u_ne _ _ _ (by omega), ef]
      unfold xv_u
      rw [if_neg (by omega), if_pos ⟨rfl, rfl⟩]
    · rw [xv_u_ne _ _ _ (by omega), ef]
      exact xv_u_eq _ _ _ _
    · rw [xv_u_ne _ _ _ (by omega)]
      constructor
      · intro g
        by_cases s : inR p f w' h9 q k
        · exact s
        · refine absurd ?_ (hno q hq k hk)
          have e9 := (h0.1 q hq k hk).2 s
          rw [xv_u_ne _ _ _ (by omega), xv_u_ne _ _ _ (by omega)] at e9
          exact e9.symm.trans g
      · intro s
        exact (h0.1 q hq k hk).1 s
