theorem cIn_lt {k : Nat} (h : k < 12) : cIn k < 12 := cIn12 h
abbrev outS (pg st sz : Nat → Nat) (p k : Nat) : Prop := ∃ i, i < 2 ∧ ∃ m, m < sz i ∧ p = pg i ∧ k = cIn (st i + m)
theorem cC.out {w : Nat} {pg st sz : Nat → Nat} {x : Int32} {C : xv_I} (h : ∀ i, i < 2 → 0 < sz i → pg i < 10 ∧ st i + sz i ≤ 12) : cC (xCopy w 21 C) (xOut w pg st sz x C) (outS pg st sz) x := by
  have g1 : ∀ i, i < 2 → ∀ I' S, cC (xCopy w 21 C) I' S x → cC (xCopy w 21 C) (xOut2 pg st sz x i I') (fun q k => S q k ∨ ∃ m, m < sz i ∧ q = pg i ∧ k = cIn (st i + m)) x := fun i hi I' S g => by
    unfold xOut2
    exact (itS (R := fun I' S => cC (xCopy w 21 C) I' S x) (f := xOut1 (pg i) (st i) x) (T := fun m q k => q = pg i ∧ k = cIn (st i + m)) (fun _ _ _ e h => h.cg e) (sz i) 0 I' S (fun m I' S _ hm h9 => by
      obtain ⟨h1, h2⟩ := h i hi (by omega)
      exact h9.put h1 (cIn_lt (by omega))) g).cg fun q hq k hk => ⟨fun g => g.elim Or.inl fun ⟨m, _, r1, r2⟩ => Or.inr ⟨m, by omega, r2⟩, fun g => g.elim Or.inl fun ⟨m, r1, r2⟩ => Or.inr ⟨m, by omega, by omega, r2⟩⟩
  unfold xOut
  exact (itS (R := fun I' S => cC (xCopy w 21 C) I' S x) (f := xOut2 pg st sz x) (T := fun i q k => ∃ m, m < sz i ∧ q = pg i ∧ k = cIn (st i + m)) (fun _ _ _ e h => h.cg e) 2 0 _ _ (fun i I' S _ hi h9 => g1 i (by omega) I' S h9) (cC.nil _ _)).cg fun q hq k hk => ⟨fun g => g.elim False.elim fun ⟨i, _, r1, r2⟩ => ⟨i, by omega, r2⟩, fun ⟨i, r1, r2⟩ => Or.inr ⟨i, by omega, by omega, r2⟩⟩
theorem xCopy_00 (w u : Nat) (C : xv_I) (h : u + 3 < w) : xCopy w u C w 0 = C u 0 := by
  unfold xCopy
  rw [it, it, it]
  unfold xCopy1
  rw [xSetPart_o _ _ _ _ _ (by omega), xSetPart_o _ _ _ _ _ (by omega), xv_u_eq]
theorem Inv.scr {c : Nat × Nat} {I K : xv_I} (hI : Inv c I) (e : ∀ v j, (v < 20 ∨ 28 < v) → K v j = I v j) : Inv c K :=
  hI.of (fun v j _ _ _ _ _ _ _ _ h => e v j h) hI.ok (hI.dist.to fun v j g => e v j (by omega)) (hI.ad.to (fun v j g => e v j (by omega)) fun a _ p hp k hk => by rw [e (3 + p) k (by omega)]) (hI.st.to (fun v j g => e v j (by omega)) fun a _ p hp k hk => by rw [e (3 + p) k (by omega)]) hI.owe
def pB (B : Nat → Bool) (J0 M : xv_I) : xv_I := fun v j => if B v = true then J0 v j else M v j
theorem pB_t {B : Nat → Bool} {J0 M : xv_I} {v : Nat} (h : B v = true) (j : Nat) : pB B J0 M v j = J0 v j := if_pos h
theorem pB_f {B : Nat → Bool} {J0 M : xv_I} {v : Nat} (h : B v = false) (j : Nat) : pB B J0 M v j = M v j := if_neg (by rw [h]; decide)
theorem cC.patchB {I I0 I1 J0 : xv_I} {S : Nat → Nat → Prop} {x : Int32} {B : Nat → Bool} (hB : ∀ v, v < 16 → B v = false) (h : cC I0 I1 S x) (e : ∀ v j, B v = false → I0 v j = I v j) (e2 : ∀ v j, B v = true → I v j = J0 v j) : cC I (pB B J0 I1) S x := by
  obtain ⟨h1, h2, h3, h4⟩ := h
  refine ⟨fun p hp k hk => ?_, fun p hp => ?_, fun t ht et => ?_, fun v j a1 a2 a3 => ?_⟩
  · rw [pB_f (hB _ (by omega)), ← e (3 + p) k (hB _ (by omega))]
    exact h1 p hp k hk
  · rw [pB_f (hB _ (by omega)), ← e 15 p (hB _ (by omega))]
    exact h2 p hp
  · rw [pB_f (hB _ (by omega))]
    exact h3 t ht ((e 1 6 (hB _ (by omega))).trans et)
  · cases g : B v with
    | true => exact (pB_t g j).trans (e2 v j g).symm
    | false => exact (pB_f g j).trans ((h4 v j a1 a2 a3).trans (e v j g))
theorem cC.mid2 {c : Nat × Nat} {I I1 I2 : xv_I} {S T : Nat → Nat → Prop} {x y : Int32} (hI : Inv c I) (h : cC I I1 S x) (g : cC I1 I2 T y) (hx : ∀ p, p < 10 → ∀ k, k < 12 → S p k → ¬ I (3 + p) k = x) (hy : ∀ p, p < 10 → ∀ k, k < 12 → T p k → ¬ I (3 + p) k = y) : mS I2 ∧ mT I2 := by
  obtain ⟨hR, hC, ⟨t, t1, t2, t3⟩, hS⟩ := hI
  obtain ⟨h1, h2, h3, h4⟩ := h
  obtain ⟨g1, g2, g3, g4⟩ := g
  have e : ∀ v j, (v < 3 ∨ 13 ≤ v) → v ≠ 15 → (v ≠ 1 ∨ j ≠ 6) → I2 v j = I v j := fun v j a1 a2 a3 => (g4 v j a1 a2 a3).trans (h4 v j a1 a2 a3)
  have hE : ∀ p, p < 10 → ∀ k, k < 12 → cE I2 p k = I (3 + p) k := fun p hp k hk => (cE_to fun v j g => e v j (by omega) (by omega) (by omega)).trans (hC p hp k hk).symm
  have hg : ∀ p, p < 10 → (chg I2 p ↔ ∃ k, k < 12 ∧ (S p k ∨ T p k)) := fun p hp => by
    constructor
    · rintro ⟨k, hk, q⟩
      refine ⟨k, hk, Classical.byContradiction fun s => q ?_⟩
      rw [hE p hp k hk, (g1 p hp k hk).2 fun r => s (Or.inr r), (h1 p hp k hk).2 fun r => s (Or.inl r)]
    · rintro ⟨k, hk, q⟩
      refine ⟨k, hk, fun s => ?_⟩
      rw [hE p hp k hk] at s
      by_cases r : T p k
      · exact hy p hp k hk r (s.symm.trans ((g1 p hp k hk).1 r))
      · have r2 : S p k := q.resolve_right r
        exact hx p hp k hk r2 (s.symm.trans (((g1 p hp k hk).2 r).trans ((h1 p hp k hk).1 r2)))
  refine ⟨fun p hp => ?_, ?_⟩
  · obtain ⟨b, b1, b2, b3, b4⟩ := hS p hp
    refine ⟨b, b1, (e 64 p (by omega) (by omega) (by omega)).trans b3, fun q => ?_, fun q => ?_, b4.to (e 1 5 (by omega) (by omega) (by omega))⟩
    · obtain ⟨k, hk, s⟩ := (hg p hp).mp q
      by_cases r : ∃ k, k < 12 ∧ T p k
      · exact (g2 p hp).1 r
      · rw [(g2 p hp).2 fun k hk r2 => r ⟨k, hk, r2⟩]
        exact (h2 p hp).1 ⟨k, hk, s.resolve_right fun r2 => r ⟨k, hk, r2⟩⟩
    · rw [(g2 p hp).2 fun k hk r => q ((hg p hp).mpr ⟨k, hk, Or.inr r⟩), (h2 p hp).2 fun k hk r => q ((hg p hp).mpr ⟨k, hk, Or.inl r⟩)]
      exact b2
  · obtain ⟨u, u1, u2, u3⟩ := h3 t t1 t2
    obtain ⟨w, w1, w2, w3⟩ := g3 u u1 u2
    refine ⟨t, w, t1, w1, (e 69 2 (by omega) (by omega) (by omega)).trans t3, w2, fun j => ?_⟩
    rw [w3, u3]
    constructor
    · rintro ((r | ⟨p, k, a1, a2, a3, a4⟩) | ⟨p, k, a1, a2, a3, a4⟩)
      · exact Or.inl r
      · exact Or.inr ⟨p, a1, a4, (hg p a1).mpr ⟨k, a2, Or.inl a3⟩⟩
      · exact Or.inr ⟨p, a1, a4, (hg p a1).mpr ⟨k, a2, Or.inr a3⟩⟩
    · rintro (r | ⟨p, a1, a4, q⟩)
      · exact Or.inl (Or.inl r)
      · obtain ⟨k, a2, a3⟩ := (hg p a1).mp q
        exact a3.elim (fun r => Or.inl (Or.inr ⟨p, k, a1, a2, r, a4⟩)) fun r => Or.inr ⟨p, k, a1, a2, r, a4⟩
/-- one story comes or goes -/
theorem Mid.st {c : Nat × Nat} {I P K : xv_I} {S : Nat → Nat → Prop} {x a : Nat} (hI : Inv c I) (h : cC I P S (nI x)) (hne : ∀ p, p < 10 → ∀ k, k < 12 → S p k → ¬ I (3 + p) k = nI x) (hx : x = 0 ∨ x = 200 + a) (h7 : x < 200 ∨ ∀ p, p < 10 → ∀ k, k < 12 → S p k → p < 7) (ha : a < c.2) (e1 : ∀ v j, (v < 200 + 5 * a ∨ 205 + 5 * a ≤ v) → (v ≠ 63 ∨ j ≠ a) → (v < 20 ∨ 28 < v) → K v j = P v j) (hS : ∀ p, p < 10 → ∀ k, k < 12 → S p k → I (3 + p) k = nI 0 ∨ I (3 + p) k = nI (200 + a)) (hnew : gSt1 K a) : Mid c K := by
  have h20 := hI.ad.2.2.1
  have h22 := hI.st.2.2.1
  obtain ⟨m1, m2⟩ := h.mid hI hne
  have e : ∀ v j, (v < 3 ∨ 13 ≤ v) → v ≠ 15 → (v ≠ 1 ∨ j ≠ 6) → (v < 200 + 5 * a ∨ 205 + 5 * a ≤ v) → (v ≠ 63 ∨ j ≠ a) → (v < 20 ∨ 28 < v) → K v j = I v j := fun v j a1 a2 a3 a4 a5 a6 => (e1 v j a4 a5 a6).trans (h.2.2.2 v j a1 a2 a3)
  have ec : ∀ y, y < 1000 → 0 < y → y ≠ 200 + a → ∀ p, p < 10 → ∀ k, k < 12 → (K (3 + p) k = nI y ↔ I (3 + p) k = nI y) := fun y hy hy0 hya p hp k hk => by
    rw [e1 (3 + p) k (by omega) (by omega) (by omega)]
    refine h.mark (fun q => ?_) (fun p hp k hk hs q => ?_) p hp k hk
    · have := (nI_eq (by omega) (by omega)).mp q
      omega
    · rcases hS p hp k hk hs with r | r
      · have := (nI_eq (by omega) (by omega)).mp (q.symm.trans r)
        omega
      · have := (nI_eq (by omega) (by omega)).mp (q.symm.trans r)
        omega
  refine ⟨⟨hI.page.to fun v j g => e v j (by omega) (by omega) (by omega) (by omega) (by omega) (by omega), (h.ok (c' := c) hI.ok (by unfold okCell; omega) h7).to fun v j g => e1 v j (by omega) (by omega) (by omega), hI.hold.to fun v j g => e v j (by omega) (by omega) (by omega) (by omega) (by omega) (by omega), hI.here.to fun v j g => e v j (by omega) (by omega) (by omega) (by omega) (by omega) (by omega), hI.dist.to fun v j g => e v j (by omega) (by omega) (by omega) (by omega) (by omega) (by omega), hI.ad.to (fun v j g => e v j (by omega) (by omega) (by omega) (by omega) (by omega) (by omega)) (fun s hs => ec _ (by omega) (by omega) (by omega)), ⟨(e _ _ (by omega) (by omega) (by omega) (by omega) (by omega) (by omega)).trans hI.st.1, (e _ _ (by omega) (by omega) (by omega) (by omega) (by omega) (by omega)).trans hI.st.2.1, h22, fun b hb => ?_⟩, hI.ed.to fun v j g => e v j (by omega) (by omega) (by omega) (by omega) (by omega) (by omega), hI.owe.to fun v j g => e v j (by omega) (by omega) (by omega) (by omega) (by omega) (by omega)⟩, m1.to (fun v j g => e1 v j (by omega) (by omega) (by omega)) (e1 _ _ (by omega) (by omega) (by omega)) (fun v j hj g => e1 v j (by omega) (by omega) (by omega)), m2.to (fun v j g => e1 v j (by omega) (by omega) (by omega)) (fun v j g => e1 v j (by omega) (by omega) (by omega))⟩
  by_cases g : b = a
  · rw [g]; exact hnew
  · exact (hI.st.2.2.2 b hb).to (fun v j h1 h2 => e v j (by omega) (by omega) (by omega) (by omega) (by omega) (by omega)) (e _ _ (by omega) (by omega) (by omega) (by omega) (by omega) (by omega)) (fun p _ => Or.inl (e _ _ (by omega) (by omega) (by omega) (by omega) (by omega) (by omega))) (ec _ (by omega) (by omega) (by omega))
/-- a story that has just been laid out -/
theorem st_new {I D K : xv_I} {b sec d np lo u : Nat} {gm : Int32} {pg st sz : Nat → Nat} (hb : b < 20) (a1 : sec < 4) (a2 : Dg np d) (a3 : d ≤ 999999) (a4 : 1 ≤ np) (a5 : np ≤ 6) (a6 : 1 ≤ lo) (a7 : lo ≤ np) (hu : 1 ≤ u) (hu2 : u ≤ np) (f0 : D (200 + 5 * b) 0 = nI sec) (f1 : D (200 + 5 * b) 1 = nI d) (f2 : D (200 + 5 * b) 2 = nI np) (f3 : D (200 + 5 * b) 3 = nI lo) (d21 : D 21 0 = nI u) (rows : ∀ i, i < 2 → D 24 i = nI (sz i) ∧ (0 < sz i → D 22 i = nI (pg i) ∧ D 23 i = nI (st i))) (hway : wayC I gm (nI sec) (czf d np) u pg st sz) (hmost : ∀ N, u < N → N ≤ np → ∀ pg st sz, ¬ wayC I gm (nI sec) (czf d np) N pg st sz) (h13 : ∀ j, D 13 j = I 13 j) (hno : ∀ p, p < 10 → ∀ k, k < 12 → ¬ D (3 + p) k = nI (200 + b))
    (eK : ∀ v j, v ≠ 63 → K v j = xOut (201 + 5 * b) pg st sz (nI (200 + b)) D v j) (e63 : K 63 b = nI (sec + 10 * u + 1000 * d)) : gSt1 K b ∧ xWy K (201 + 5 * b) pg st sz := by
  obtain ⟨w1, w2, w3, w4⟩ := id hway
  have Yb : ∀ i, i < 2 → 0 < sz i → pg i < 10 ∧ st i + sz i ≤ 12 := fun i hi hs => ⟨by have := ((w2 i hi).2 hs).1; omega, ((w2 i hi).2 hs).2.1⟩
  have W0 : xWy D 21 pg st sz := fun i hi => ⟨(rows i hi).1, (w2 i hi).1, fun hs => ⟨((rows i hi).2 hs).1, (Yb i hi hs).1, ((rows i hi).2 hs).2, (Yb i hi hs).2⟩⟩
  have C1 := cC.out (w := 201 + 5 * b) (x := nI (200 + b)) (C := D) Yb
  have XW := xCopy_wy (w := 201 + 5 * b) W0 (Or.inr (by omega))
  have X0 : xCopy (201 + 5 * b) 21 D (201 + 5 * b) 0 = nI u := (xCopy_00 _ _ _ (by omega)).trans d21
  have EX : ∀ v j, (v < 201 + 5 * b ∨ 204 + 5 * b < v) → xCopy (201 + 5 * b) 21 D v j = D v j := fun v j h => xCopy_o _ _ (by omega)
  have E1 : ∀ v j, (v < 3 ∨ 13 ≤ v) → v ≠ 15 → (v ≠ 1 ∨ j ≠ 6) → v ≠ 63 → K v j = xCopy (201 + 5 * b) 21 D v j := fun v j h1 h2 h3 h4 => (eK v j h4).trans (C1.2.2.2 v j h1 h2 h3)
  have E2 : ∀ j, K (200 + 5 * b) j = D (200 + 5 * b) j := fun j => (E1 _ _ (by omega) (by omega) (by omega) (by omega)).trans (EX _ _ (by omega))
  have hW : xWy K (201 + 5 * b) pg st sz := xWy_to2 XW (fun v j h1 h2 => E1 v j (by omega) (by omega) (by omega) (by omega))
  have k13 : ∀ j, K 13 j = I 13 j := fun j => (E1 _ _ (by omega) (by omega) (by omega) (by omega)).trans ((EX _ _ (by omega)).trans (h13 j))
  refine ⟨⟨sec, d, np, lo, u, a1, a2, a3, a4, a5, a6, a7, hu2, (E2 0).trans f0, (E2 1).trans f1, (E2 2).trans f2, (E2 3).trans f3, (E1 _ _ (by omega) (by omega) (by omega) (by omega)).trans X0, e63, Or.inr ⟨hu, pg, st, sz, w1, hW, fun i hi hs => ((w2 i hi).2 hs).1, (k13 _).trans w3, fun hs => ?_, hway.fit hu, fun N h1 h2 => hway.most (hmost N h1 h2), fun p hp k hk => ?_⟩⟩, hW⟩
  · rcases w4 with ⟨q, _⟩ | ⟨_, q1, q2, _⟩
    · omega
    · exact ⟨q1, (k13 _).trans q2⟩
  · rw [eK _ _ (by omega)]
    by_cases so : outS pg st sz p k
    · exact ⟨fun _ => so, fun _ => (C1.1 p hp k hk).1 so⟩
    · refine ⟨fun r => absurd r ?_, fun r => absurd r so⟩
      rw [(C1.1 p hp k hk).2 so, EX _ _ (by omega)]
      exact hno p hp k hk
theorem Mid.laid {c : Nat × Nat} {I C : xv_I} (hI : Inv c I) {a sec d np lo u : Nat} {pg st sz : Nat → Nat} (ha : a < c.2) (a1 : sec < 4) (a2 : Dg np d) (a3 : d ≤ 999999) (a4 : 1 ≤ np) (a5 : np ≤ 6) (a6 : 1 ≤ lo) (a7 : lo ≤ np) (hu : 1 ≤ u) (hu2 : u ≤ np) (f0 : I (200 + 5 * a) 0 = nI sec) (f1 : I (200 + 5 * a) 1 = nI d) (f2 : I (200 + 5 * a) 2 = nI np) (f3 : I (200 + 5 * a) 3 = nI lo) (F1 : ∀ v j, (v < 20 ∨ 28 < v) → C v j = I v j) (c21 : C 21 0 = nI u) (rows : ∀ i, i < 2 → C 24 i = nI (sz i) ∧ (0 < sz i → C 22 i = nI (pg i) ∧ C 23 i = nI (st i))) (hway : wayC I (nI 0) (nI sec) (czf d np) u pg st sz) (hmost : ∀ N, u < N → N ≤ np → ∀ pg st sz, ¬ wayC I (nI 0) (nI sec) (czf d np) N pg st sz) (hno : ∀ p, p < 10 → ∀ k, k < 12 → ¬ I (3 + p) k = nI (200 + a)) :
    Mid c (xv_u (xOut (201 + 5 * a) pg st sz (nI (200 + a)) C) 63 a (nI (sec + 10 * u + 1000 * d))) ∧ xWy (xv_u (xOut (201 + 5 * a) pg st sz (nI (200 + a)) C) 63 a (nI (sec + 10 * u + 1000 * d))) (201 + 5 * a) pg st sz := by
  have h22 := hI.st.2.2.1
  obtain ⟨g1, g2⟩ := st_new (I := I) (D := C) (K := xv_u (xOut (201 + 5 * a) pg st sz (nI (200 + a)) C) 63 a (nI (sec + 10 * u + 1000 * d))) (by omega) a1 a2 a3 a4 a5 a6 a7 hu hu2 ((F1 _ _ (by omega)).trans f0) ((F1 _ _ (by omega)).trans f1) ((F1 _ _ (by omega)).trans f2) ((F1 _ _ (by omega)).trans f3) c21 rows hway hmost (fun j => F1 _ _ (by omega)) (fun p hp k hk => by rw [F1 _ _ (by omega)]; exact hno p hp k hk) (fun v j h => if_neg (by omega)) (xv_u_eq _ _ _ _)
  refine ⟨?_, g2⟩
  have Yb : ∀ i, i < 2 → 0 < sz i → pg i < 10 ∧ st i + sz i ≤ 12 := fun i hi hs => ⟨by have := ((hway.2.1 i hi).2 hs).1; omega, ((hway.2.1 i hi).2 hs).2.1⟩
  have C1 := cC.out (w := 201 + 5 * a) (x := nI (200 + a)) (C := C) Yb
  have C2 := C1.patchB (I := I) (J0 := I) (B := fun v => decide ((20 ≤ v ∧ v ≤ 28) ∨ (201 + 5 * a ≤ v ∧ v ≤ 204 + 5 * a))) (fun v hv => decide_eq_false (by omega)) (fun v j h => by
    have := of_decide_eq_false h
    rw [xCopy_o _ _ (by omega)]
    exact F1 v j (by omega)) (fun _ _ _ => rfl)
  have hfree : ∀ p k, outS pg st sz p k → I (3 + p) k = nI 0 ∧ p < 7 := fun p k ⟨i, hi, m, hm, q1, q2⟩ => by
    obtain ⟨r1, r2⟩ := hway.cells i hi m hm
    rw [q1, q2]
    exact ⟨r2.elim id id, r1⟩
  refine Mid.st hI C2 (fun p hp k hk s r => ?_) (Or.inr rfl) (Or.inr fun p hp k hk s => (hfree p k s).2) ha (fun v j h1 h2 h3 => ?_) (fun p hp k hk s => Or.inl (hfree p k s).1) g1
  · exact hno p hp k hk r
  · rw [pB_f (decide_eq_false (by omega))]
    exact if_neg (by omega)
theorem clr_way (w : Nat) (I : xv_I) : xClear w I w 0 = nI 0 ∧ ∀ i, i < 2 → xClear w I (w + 3) i = nI 0 := by
  refine ⟨by simp [xClear, it, xSetPart, xv_u], fun i hi => ?_⟩
  rcases (show i = 0 ∨ i = 1 by omega) with rfl | rfl <;> simp [xClear, it, xSetPart, xv_u]
theorem st_gone {I D K : xv_I} {a : Nat} (ha : a < 20) (h : gSt1 I a) (e : ∀ j, K (200 + 5 * a) j = I (200 + 5 * a) j) (e2 : K (201 + 5 * a) 0 = nI 0 ∧ ∀ i, i < 2 → K (201 + 5 * a + 3) i = nI 0) {X : Nat} (hX : ∀ sec d sh, sec < 4 → d ≤ 999999 → sh ≤ 6 → I 63 a = nI (sec + 10 * sh + 1000 * d) → X = sec + 1000 * d) (e63 : K 63 a = nI X) (hno : ∀ p, p < 10 → ∀ k, k < 12 → ¬ K (3 + p) k = nI (200 + a)) : gSt1 K a := by
  obtain ⟨sec, d, np, lo, sh, a1, a2, a3, a4, a5, a6, a7, a8, a9, b1, b2, b3, b4, b5, b6⟩ := h
  refine ⟨sec, d, np, lo, 0, a1, a2, a3, a4, a5, a6, a7, Nat.zero_le _, (e 0).trans a9, (e 1).trans b1, (e 2).trans b2, (e 3).trans b3, e2.1, ?_, Or.inl ⟨rfl, e2.2, hno⟩⟩
  rw [e63, hX sec d sh a1 a3 (by omega) b5, Nat.mul_zero, Nat.add_zero]
theorem Mid.lift {c : Nat × Nat} {I : xv_I} (hI : Inv c I) {a X : Nat} (ha : a < c.2) (hX : ∀ sec d sh, sec < 4 → d ≤ 999999 → sh ≤ 6 → I 63 a = nI (sec + 10 * sh + 1000 * d) → X = sec + 1000 * d) : Mid c (xv_u (xClear (201 + 5 * a) (xFree (nI (200 + a)) I)) 63 a (nI X)) := by
  have h22 := hI.st.2.2.1
  have hy : ¬ nI 0 = nI (200 + a) := fun q => by
    have := (nI_eq (by omega) (by omega)).mp q
    omega
  have h := cC.free (I := I) hy
  have e1 : ∀ v j, (v < 201 + 5 * a ∨ 204 + 5 * a < v) → (v ≠ 63 ∨ j ≠ a) → xv_u (xClear (201 + 5 * a) (xFree (nI (200 + a)) I)) 63 a (nI X) v j = xFree (nI (200 + a)) I v j := fun v j a1 a2 => by
    rw [show xv_u (xClear (201 + 5 * a) (xFree (nI (200 + a)) I)) 63 a (nI X) v j = xClear (201 + 5 * a) (xFree (nI (200 + a)) I) v j from if_neg (by omega)]
    exact xClear_o _ _ (by omega)
  refine Mid.st hI h (fun p hp k hk q r => hy (r.symm.trans q)) (Or.inl rfl) (Or.inl (by decide)) ha (fun v j a1 a2 _ => e1 v j (by omega) a2) (fun p hp k hk q => Or.inr q) ?_
  obtain ⟨c1, c2⟩ := clr_way (201 + 5 * a) (xFree (nI (200 + a)) I)
  refine st_gone (D := I) (by omega) (hI.st.2.2.2 a ha) (fun j => (e1 _ _ (by omega) (by omega)).trans (h.2.2.2 _ _ (by omega) (by omega) (by omega))) ⟨(if_neg (by omega)).trans c1, fun i hi => (if_neg (by omega)).trans (c2 i hi)⟩ hX (xv_u_eq _ _ _ _) fun p hp k hk q => ?_
  rw [e1 (3 + p) k (by omega) (by omega)] at q
  by_cases s : I (3 + p) k = nI (200 + a)
  · exact hy (((h.1 p hp k hk).1 s).symm.trans q)
  · exact s (((h.1 p hp k hk).2 s).symm.trans q)
theorem Mid.change {c : Nat × Nat} {I C : xv_I} (hI : Inv c I) {a b sec d np lo u X : Nat} {pg st sz : Nat → Nat} (ha : a < c.2) (hb : b < c.2) (hab : a ≠ b) (a1 : sec < 4) (a2 : Dg np d) (a3 : d ≤ 999999) (a4 : 1 ≤ np) (a5 : np ≤ 6) (a6 : 1 ≤ lo) (a7 : lo ≤ np) (hu : 1 ≤ u) (hu2 : u ≤ np) (f0 : I (200 + 5 * b) 0 = nI sec) (f1 : I (200 + 5 * b) 1 = nI d) (f2 : I (200 + 5 * b) 2 = nI np) (f3 : I (200 + 5 * b) 3 = nI lo) (F1 : ∀ v j, (v < 20 ∨ 28 < v) → C v j = I v j) (c21 : C 21 0 = nI u) (rows : ∀ i, i < 2 → C 24 i = nI (sz i) ∧ (0 < sz i → C 22 i = nI (pg i) ∧ C 23 i = nI (st i))) (hway : wayC I (nI (200 + a)) (nI sec) (czf d np) u pg st sz) (hmost : ∀ N, u < N → N ≤ np → ∀ pg st sz, ¬ wayC I (nI (200 + a)) (nI sec) (czf d np) N pg st sz) (hno : ∀ p, p < 10 → ∀ k, k < 12 → ¬ I (3 + p) k = nI (200 + b)) (hX : ∀ sec d sh, sec < 4 → d ≤ 999999 → sh ≤ 6 → I 63 a = nI (sec + 10 * sh + 1000 * d) → X = sec + 1000 * d) :
    Mid c (xv_u (xv_u (xOut (201 + 5 * b) pg st sz (nI (200 + b)) (xClear (201 + 5 * a) (xFree (nI (200 + a)) C))) 63 a (nI X)) 63 b (nI (sec + 10 * u + 1000 * d))) ∧ xWy (xOut (201 + 5 * b) pg st sz (nI (200 + b)) (xClear (201 + 5 * a) (xFree (nI (200 + a)) C))) (201 + 5 * b) pg st sz ∧
    ∃ t u, t < 32 ∧ u < 32 ∧ I 1 6 = nI t ∧ xOut (201 + 5 * b) pg st sz (nI (200 + b)) (xClear (201 + 5 * a) (xFree (nI (200 + a)) C)) 1 6 = nI u ∧ (u.testBit 4 = true → t.testBit 4 = true) := by
  have h20 := hI.ad.2.2.1
  have h22 := hI.st.2.2.1
  have hy : ¬ nI 0 = nI (200 + a) := fun q => by
    have := (nI_eq (by omega) (by omega)).mp q
    omega
  have hf := cC.free (I := C) hy
  obtain ⟨c1, c2⟩ := clr_way (201 + 5 * a) (xFree (nI (200 + a)) C)
  have eD : ∀ v j, (v < 201 + 5 * a ∨ 204 + 5 * a < v) → xClear (201 + 5 * a) (xFree (nI (200 + a)) C) v j = xFree (nI (200 + a)) C v j := fun v j h => xClear_o _ _ (by omega)
  generalize hDD : xClear (201 + 5 * a) (xFree (nI (200 + a)) C) = D at *
  have eD2 : ∀ v j, (v < 3 ∨ 13 ≤ v) → v ≠ 15 → (v ≠ 1 ∨ j ≠ 6) → (v < 201 + 5 * a ∨ 204 + 5 * a < v) → D v j = C v j := fun v j h1 h2 h3 h4 => (eD v j h4).trans (hf.2.2.2 v j h1 h2 h3)
  have noD : ∀ y, y ≠ 0 → y < 1000 → (∀ p, p < 10 → ∀ k, k < 12 → ¬ I (3 + p) k = nI y) → ∀ p, p < 10 → ∀ k, k < 12 → ¬ D (3 + p) k = nI y := fun y hy0 hy1 hn p hp k hk q => by
    rw [eD _ _ (by omega)] at q
    by_cases s : C (3 + p) k = nI (200 + a)
    · have := (nI_eq (by omega) (by omega)).mp (((hf.1 p hp k hk).1 s).symm.trans q)
      omega
    · rw [(hf.1 p hp k hk).2 s, F1 _ _ (by omega)] at q
      exact hn p hp k hk q
  have Yb : ∀ i, i < 2 → 0 < sz i → pg i < 10 ∧ st i + sz i ≤ 12 := fun i hi hs => ⟨by have := ((hway.2.1 i hi).2 hs).1; omega, ((hway.2.1 i hi).2 hs).2.1⟩
  have C1 := cC.out (w := 201 + 5 * b) (x := nI (200 + b)) (C := D) Yb
  have ebD : ∀ j, D (200 + 5 * b) j = I (200 + 5 * b) j := fun j => (eD2 _ _ (by omega) (by omega) (by omega) (by omega)).trans (F1 _ _ (by omega))
  have eX : ∀ v j, (v < 201 + 5 * b ∨ 204 + 5 * b < v) → xCopy (201 + 5 * b) 21 D v j = D v j := fun v j h => xCopy_o _ _ (by omega)
  have eO : ∀ v j, (v < 3 ∨ 13 ≤ v) → v ≠ 15 → (v ≠ 1 ∨ j ≠ 6) → (v < 201 + 5 * b ∨ 204 + 5 * b < v) → xOut (201 + 5 * b) pg st sz (nI (200 + b)) D v j = D v j := fun v j h1 h2 h3 h4 => (C1.2.2.2 v j h1 h2 h3).trans (eX v j h4)
  obtain ⟨g1, g2⟩ := st_new (I := I) (D := D) (K := xv_u (xv_u (xOut (201 + 5 * b) pg st sz (nI (200 + b)) D) 63 a (nI X)) 63 b (nI (sec + 10 * u + 1000 * d))) (by omega) a1 a2 a3 a4 a5 a6 a7 hu hu2 ((ebD 0).trans f0) ((ebD 1).trans f1) ((ebD 2).trans f2) ((ebD 3).trans f3) ((eD2 _ _ (by omega) (by omega) (by omega) (by omega)).trans c21) (fun i hi => by rw [eD2 24 i (by omega) (by omega) (by omega) (by omega), eD2 22 i (by omega) (by omega) (by omega) (by omega), eD2 23 i (by omega) (by omega) (by omega) (by omega)]; exact rows i hi) hway hmost (fun j => (eD2 _ _ (by omega) (by omega) (by omega) (by omega)).trans (F1 _ _ (by omega))) (noD _ (by omega) (by omega) hno) (fun v j h => (if_neg (by omega)).trans (if_neg (by omega))) (xv_u_eq _ _ _ _)
  obtain ⟨B, hB⟩ : ∃ B : Nat → Bool, B = fun v => decide ((20 ≤ v ∧ v ≤ 28) ∨ (201 + 5 * a ≤ v ∧ v ≤ 204 + 5 * a) ∨ (201 + 5 * b ≤ v ∧ v ≤ 204 + 5 * b)) := ⟨_, rfl⟩
  have Bf : ∀ v, ¬ ((20 ≤ v ∧ v ≤ 28) ∨ (201 + 5 * a ≤ v ∧ v ≤ 204 + 5 * a) ∨ (201 + 5 * b ≤ v ∧ v ≤ 204 + 5 * b)) → B v = false := fun v h => by rw [hB]; exact decide_eq_false h
  have Bn : ∀ v, B v = false → ¬ ((20 ≤ v ∧ v ≤ 28) ∨ (201 + 5 * a ≤ v ∧ v ≤ 204 + 5 * a) ∨ (201 + 5 * b ≤ v ∧ v ≤ 204 + 5 * b)) := fun v h => by rw [hB] at h; exact of_decide_eq_false h
  have H1 := hf.patchB (I := I) (J0 := I) (B := B) (fun v hv => Bf v (by omega)) (fun v j h => F1 v j (by have := Bn v h; omega)) (fun _ _ _ => rfl)
  have H2 := C1.patchB (I := pB B I (xFree (nI (200 + a)) C)) (J0 := I) (B := B) (fun v hv => Bf v (by omega)) (fun v j h => by
    have := Bn v h
    rw [eX v j (by omega), eD v j (by omega), pB_f h]) (fun v j h => pB_t h j)
  have hS1 : ∀ p, p < 10 → ∀ k, k < 12 → C (3 + p) k = nI (200 + a) → I (3 + p) k = nI (200 + a) ∧ p < 7 := fun p hp k hk q => by
    rw [F1 _ _ (by omega)] at q
    obtain ⟨v, v1, v2, v3⟩ := hI.ok p hp k hk
    have hv := gOk.lt v1 h20 h22
    have := (nI_eq (by omega) (by omega)).mp (v3.symm.trans q)
    exact ⟨q, by omega⟩
  have hS2 : ∀ p k, outS pg st sz p k → (I (3 + p) k = nI 0 ∨ I (3 + p) k = nI (200 + a)) ∧ p < 7 := fun p k ⟨i, hi, m, hm, q1, q2⟩ => by
    obtain ⟨r1, r2⟩ := hway.cells i hi m hm
    rw [q1, q2]
    exact ⟨r2, r1⟩
  have hx1 : ∀ p, p < 10 → ∀ k, k < 12 → C (3 + p) k = nI (200 + a) → ¬ I (3 + p) k = nI 0 := fun p hp k hk s r => hy (r.symm.trans (hS1 p hp k hk s).1)
  have hx2 : ∀ p, p < 10 → ∀ k, k < 12 → outS pg st sz p k → ¬ I (3 + p) k = nI (200 + b) := fun p hp k hk s r => hno p hp k hk r
  obtain ⟨m1, m2⟩ := H1.mid2 hI H2 hx1 hx2
  have eK : ∀ v j, ¬ ((20 ≤ v ∧ v ≤ 28) ∨ (201 + 5 * a ≤ v ∧ v ≤ 204 + 5 * a) ∨ (201 + 5 * b ≤ v ∧ v ≤ 204 + 5 * b)) → (v ≠ 63 ∨ (j ≠ a ∧ j ≠ b)) → xv_u (xv_u (xOut (201 + 5 * b) pg st sz (nI (200 + b)) D) 63 a (nI X)) 63 b (nI (sec + 10 * u + 1000 * d)) v j = pB B I (xOut (201 + 5 * b) pg st sz (nI (200 + b)) D) v j := fun v j h1 h2 => by
    rw [pB_f (Bf v h1)]
    exact (if_neg (by omega)).trans (if_neg (by omega))
  have eKO : ∀ v j, (v ≠ 63 ∨ (j ≠ a ∧ j ≠ b)) → xv_u (xv_u (xOut (201 + 5 * b) pg st sz (nI (200 + b)) D) 63 a (nI X)) 63 b (nI (sec + 10 * u + 1000 * d)) v j = xOut (201 + 5 * b) pg st sz (nI (200 + b)) D v j := fun v j h2 => (if_neg (by omega)).trans (if_neg (by omega))
  have e63a : xv_u (xv_u (xOut (201 + 5 * b) pg st sz (nI (200 + b)) D) 63 a (nI X)) 63 b (nI (sec + 10 * u + 1000 * d)) 63 a = nI X := (if_neg (by omega)).trans (xv_u_eq _ _ _ _)
  have hplates : ∃ t u, t < 32 ∧ u < 32 ∧ I 1 6 = nI t ∧ xOut (201 + 5 * b) pg st sz (nI (200 + b)) D 1 6 = nI u ∧ (u.testBit 4 = true → t.testBit 4 = true) := by
    obtain ⟨t, t1, t2, t3⟩ := hI.2.2.1
    obtain ⟨u1, u2, u3, u4⟩ := H1.2.2.1 t t1 t2
    obtain ⟨w1, w2, w3, w4⟩ := H2.2.2.1 u1 u2 u3
    rw [pB_f (Bf 1 (by omega))] at w3
    refine ⟨t, w1, t1, w2, t2, w3, fun q => ?_⟩
    rcases (w4 4).mp q with r | ⟨p, k, p1, p2, p3, p4⟩
    · rcases (u4 4).mp r with r | ⟨p, k, p1, p2, p3, p4⟩
      · exact r
      · have := (hS1 p p1 k p2 p3).2
        omega
    · have := (hS2 p k p3).2
      omega
  generalize hPP : pB B I (xOut (201 + 5 * b) pg st sz (nI (200 + b)) D) = P at *
  refine ⟨?_, xWy_to2 g2 fun v j h1 h2 => (eKO v j (by omega)).symm, hplates⟩
  generalize hKK : xv_u (xv_u (xOut (201 + 5 * b) pg st sz (nI (200 + b)) D) 63 a (nI X)) 63 b (nI (sec + 10 * u + 1000 * d)) = K at *
  have e : ∀ v j, (v < 3 ∨ 13 ≤ v) → v ≠ 15 → (v ≠ 1 ∨ j ≠ 6) → ¬ ((20 ≤ v ∧ v ≤ 28) ∨ (201 + 5 * a ≤ v ∧ v ≤ 204 + 5 * a) ∨ (201 + 5 * b ≤ v ∧ v ≤ 204 + 5 * b)) → (v ≠ 63 ∨ (j ≠ a ∧ j ≠ b)) → K v j = I v j := fun v j b1 b2 b3 b4 b5 => (eK v j b4 b5).trans ((H2.2.2.2 v j b1 b2 b3).trans (H1.2.2.2 v j b1 b2 b3))
  have ec : ∀ y, y < 1000 → 0 < y → y ≠ 200 + a → y ≠ 200 + b → ∀ p, p < 10 → ∀ k, k < 12 → (K (3 + p) k = nI y ↔ I (3 + p) k = nI y) := fun y hy1 hy0 hya hyb p hp k hk => by
    rw [eK (3 + p) k (by omega) (by omega)]
    refine (H2.mark (fun q => ?_) (fun p hp k hk hs q => ?_) p hp k hk).trans (H1.mark (fun q => ?_) (fun p hp k hk hs q => ?_) p hp k hk)
    · have := (nI_eq (by omega) (by omega)).mp q
      omega
    · have g3 := (H1.1 p hp k hk)
      by_cases s : C (3 + p) k = nI (200 + a)
      · have := (nI_eq (by omega) (by omega)).mp ((g3.1 s).symm.trans q)
        omega
      · have q2 := (g3.2 s).symm.trans q
        rcases (hS2 p k hs).1 with r | r
        · have := (nI_eq (by omega) (by omega)).mp (q2.symm.trans r)
          omega
        · have := (nI_eq (by omega) (by omega)).mp (q2.symm.trans r)
          omega
    · have := (nI_eq (by omega) (by omega)).mp q
      omega
    · have := (nI_eq (by omega) (by omega)).mp (q.symm.trans (hS1 p hp k hk hs).1)
      omega
  have hok : gOk c P := (H2.ok (c' := c) (H1.ok (c' := c) hI.ok (Or.inl rfl) (Or.inl (by decide))) (by unfold okCell; omega) (Or.inr fun p hp k hk s => (hS2 p k s).2))
  have ha9 : gSt1 K a := by
    refine st_gone (D := I) (by omega) (hI.st.2.2.2 a ha) (fun j => e _ _ (by omega) (by omega) (by omega) (by omega) (by omega)) ⟨?_, fun i hi => ?_⟩ hX e63a fun p hp k hk q => ?_
    · rw [eKO _ _ (by omega), eO _ _ (by omega) (by omega) (by omega) (by omega)]
      exact c1
    · rw [eKO _ _ (by omega), eO _ _ (by omega) (by omega) (by omega) (by omega)]
      exact c2 i hi
    · rw [eK _ _ (by omega) (by omega)] at q
      by_cases so : outS pg st sz p k
      · have := (nI_eq (by omega) (by omega)).mp (((H2.1 p hp k hk).1 so).symm.trans q)
        omega
      · rw [(H2.1 p hp k hk).2 so] at q
        by_cases s : C (3 + p) k = nI (200 + a)
        · exact hy (((H1.1 p hp k hk).1 s).symm.trans q)
        · rw [(H1.1 p hp k hk).2 s] at q
          exact s ((F1 _ _ (by omega)).trans q)
  refine ⟨⟨hI.page.to fun v j g => e v j (by omega) (by omega) (by omega) (by omega) (by omega), hok.to fun v j g => eK v j (by omega) (by omega), hI.hold.to fun v j g => e v j (by omega) (by omega) (by omega) (by omega) (by omega), hI.here.to fun v j g => e v j (by omega) (by omega) (by omega) (by omega) (by omega), hI.dist.to fun v j g => e v j (by omega) (by omega) (by omega) (by omega) (by omega), hI.ad.to (fun v j g => e v j (by omega) (by omega) (by omega) (by omega) (by omega)) (fun s hs => ec _ (by omega) (by omega) (by omega) (by omega)), ⟨(e _ _ (by omega) (by omega) (by omega) (by omega) (by omega)).trans hI.st.1, (e _ _ (by omega) (by omega) (by omega) (by omega) (by omega)).trans hI.st.2.1, h22, fun s hs => ?_⟩, hI.ed.to fun v j g => e v j (by omega) (by omega) (by omega) (by omega) (by omega), hI.owe.to fun v j g => e v j (by omega) (by omega) (by omega) (by omega) (by omega)⟩, m1.to (fun v j g => eK v j (by omega) (by omega)) (eK _ _ (by omega) (by omega)) (fun v j hj g => eK v j (by omega) (by omega)), m2.to (fun v j g => eK v j (by omega) (by omega)) (fun v j g => eK v j (by omega) (by omega))⟩
  by_cases q1 : s = a
  · rw [q1]; exact ha9
  · by_cases q2 : s = b
    · rw [q2]; exact g1
    · exact (hI.st.2.2.2 s hs).to (fun v j h1 h2 => e v j (by omega) (by omega) (by omega) (by omega) (by omega)) (e _ _ (by omega) (by omega) (by omega) (by omega) (by omega)) (fun p _ => Or.inl (e _ _ (by omega) (by omega) (by omega) (by omega) (by omega))) (ec _ (by omega) (by omega) (by omega) (by omega))
theorem Inv.newSt {c : Nat × Nat} {I K : xv_I} (hI : Inv c I) (hc : c.2 < 20) {sec d np lo : Nat} (a1 : sec < 4) (a2 : Dg np d) (a3 : d ≤ 999999) (a4 : 1 ≤ np) (a5 : np ≤ 6) (a6 : 1 ≤ lo) (a7 : lo ≤ np) (f0 : K (200 + 5 * c.2) 0 = nI sec) (f1 : K (200 + 5 * c.2) 1 = nI d) (f2 : K (200 + 5 * c.2) 2 = nI np) (f3 : K (200 + 5 * c.2) 3 = nI lo) (f4 : K (201 + 5 * c.2) 0 = nI 0) (f5 : ∀ i, i < 2 → K (201 + 5 * c.2 + 3) i = nI 0) (e63 : K 63 c.2 = nI (sec + 1000 * d)) (e05 : K 0 5 = nI (c.2 + 1)) (e691 : K 69 1 = nI (c.2 + 1))
    (e : ∀ v j, (v < 200 + 5 * c.2 ∨ 205 + 5 * c.2 ≤ v) → (v ≠ 0 ∨ j ≠ 5) → (v ≠ 69 ∨ j ≠ 1) → (v ≠ 63 ∨ j ≠ c.2) → K v j = I v j) : Inv (c.1, c.2 + 1) K := by
  have ec : ∀ p, p < 10 → ∀ k, K (3 + p) k = I (3 + p) k := fun p hp k => e _ _ (by omega) (by omega) (by omega) (by omega)
  refine hI.of (c' := (c.1, c.2 + 1)) (fun v j h1 h2 h3 h4 h5 h6 h7 h8 h9 => e v j (by omega) (by omega) (by omega) (by omega)) (hI.ok.up (Nat.le_refl _) (Nat.le_succ _)) (hI.dist.to fun v j g => e v j (by omega) (by omega) (by omega) (by omega)) (hI.ad.to (fun v j g => e v j (by omega) (by omega) (by omega) (by omega)) fun a _ p hp k hk => by rw [ec p hp k]) ⟨e05, e691, hc, fun s hs => ?_⟩ (by
    obtain ⟨w, h1, h2, h3, h4⟩ := hI.owe
    exact ⟨w, h1, h2, h3, fun j hj => ⟨(h4 j hj).1, by
      obtain ⟨s, s1, s2⟩ := (h4 j hj).2
      exact ⟨s, Nat.lt_succ_of_lt s1, s2⟩⟩⟩)
  by_cases g : s = c.2
  · subst g
    refine ⟨sec, d, np, lo, 0, a1, a2, a3, a4, a5, a6, a7, Nat.zero_le _, f0, f1, f2, f3, f4, by rw [e63, Nat.mul_zero, Nat.add_zero], Or.inl ⟨rfl, f5, fun p hp k hk q => ?_⟩⟩
    obtain ⟨v, b1, b2, b3⟩ := hI.ok p hp k hk
    have hv := gOk.lt b1 hI.ad.2.2.1 (by omega)
    have h20 := hI.ad.2.2.1
    rw [ec p hp k, b3] at q
    have := (nI_eq (by omega) (by omega)).mp q
    unfold okCell at b1
    omega
  · exact (hI.st.2.2.2 s (by have : s < c.2 + 1 := hs; omega)).to (fun v j h1 h2 => e _ _ (by have : s < c.2 + 1 := hs; omega) (by omega) (by omega) (by omega)) (e _ _ (by omega) (by omega) (by omega) (by omega)) (fun p _ => Or.inl (e _ _ (by omega) (by omega) (by omega) (by omega))) fun p hp k hk => by rw [ec p hp k]
theorem few4 : ∀ t, t < 32 → ∀ u, u < 32 → (u.testBit 4 = true → t.testBit 4 = true) → ∃ x, x < 5 ∧ xBC (nI u &&& (nI t ^^^ (-1))) = nI x := by
  have key : ∀ t, t < 32 → ∀ u, u < 32 → (u.testBit 4 = true → t.testBit 4 = true) → xBC (nI u &&& (nI t ^^^ (-1))) = nI (pop (u &&& (31 ^^^ t))) ∧ pop (u &&& (31 ^^^ t)) < 5 := by decide +kernel
  exact fun t ht u hu h => ⟨_, (key t ht u hu h).2, (key t ht u hu h).1⟩
