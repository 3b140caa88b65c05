theorem itA {α : Type} {R : α → (Nat → Nat → Prop) → Prop} (hcg : ∀ I' S S', (∀ p, p < 10 → ∀ k, k < 12 → (S p k ↔ S' p k)) → R I' S → R I' S') {f : Nat → α → α} {T : Nat → Nat → Nat → Prop} : ∀ (m k : Nat) (I' : α) (S : Nat → Nat → Prop), (∀ i I' S, k ≤ i → i < k + m → R I' S → R (f i I') (fun p j => S p j ∨ T i p j)) → R I' S → R (it f m k I') (fun p j => S p j ∨ ∃ i, k ≤ i ∧ i < k + m ∧ T i p j)
  | 0, k, I', S, _, h => hcg _ _ _ (fun p _ j _ => ⟨Or.inl, fun g => g.elim id fun ⟨i, h1, h2, _⟩ => by omega⟩) h
  | m + 1, k, I', S, hf, h => by
    rw [it]
    refine hcg _ _ _ (fun p _ j _ => ?_) (itA hcg m (k + 1) _ _ (fun i I' S h1 h2 => hf i I' S (by omega) (by omega)) (hf k I' S (Nat.le_refl _) (by omega) h))
    constructor
    · rintro ((g | g) | ⟨i, g1, g2, g⟩)
      · exact Or.inl g
      · exact Or.inr ⟨k, Nat.le_refl _, by omega, g⟩
      · exact Or.inr ⟨i, by omega, by omega, g⟩
    · rintro (g | ⟨i, g1, g2, g⟩)
      · exact Or.inl (Or.inl g)
      · rcases Nat.eq_or_lt_of_le g1 with e | e
        · exact Or.inl (Or.inr (by rw [e]; exact g))
        · exact Or.inr ⟨i, by omega, by omega, g⟩
/-- the plates of a set of cells -/
def oR (x : Int32) (S : Nat → Nat → Prop) : Prop := ∃ G, G < 32 ∧ x = nI G ∧ ∀ j, G.testBit j = true ↔ ∃ p k, p < 10 ∧ k < 12 ∧ S p k ∧ p / 2 = j
theorem oR.cg {x : Int32} {S T : Nat → Nat → Prop} (e : ∀ p, p < 10 → ∀ k, k < 12 → (S p k ↔ T p k)) (h : oR x S) : oR x T := by
  obtain ⟨G, h1, h2, h3⟩ := h
  exact ⟨G, h1, h2, fun j => (h3 j).trans ⟨fun ⟨p, k, hp, hk, s, q⟩ => ⟨p, k, hp, hk, (e p hp k hk).mp s, q⟩, fun ⟨p, k, hp, hk, s, q⟩ => ⟨p, k, hp, hk, (e p hp k hk).mpr s, q⟩⟩⟩
theorem oR.or {x : Int32} {S : Nat → Nat → Prop} (h : oR x S) {p k : Nat} (hp : p < 10) (hk : k < 12) : oR (x ||| nI (2 ^ (p / 2))) (fun q j => S q j ∨ (q = p ∧ j = k)) := by
  obtain ⟨G, h1, h2, h3⟩ := h
  obtain ⟨b1, b2, b3⟩ := pl_or h1 hp
  refine ⟨_, b2, by rw [h2, b1], fun j => ?_⟩
  rw [b3, h3]
  constructor
  · rintro (⟨q, i, hq, hi, s, r⟩ | g)
    · exact ⟨q, i, hq, hi, Or.inl s, r⟩
    · exact ⟨p, k, hp, hk, Or.inr ⟨rfl, rfl⟩, g⟩
  · rintro ⟨q, i, hq, hi, s | s, r⟩
    · exact Or.inl ⟨q, i, hq, hi, s, r⟩
    · exact Or.inr (by omega)
theorem xPl_n (I : xv_I) (y : Int32) : oR (xPl I y) (fun p k => I (3 + p) k = y) := by
  have h1 : ∀ p, p < 10 → ∀ x S, oR x S → oR (xPl1 I y p x) (fun q j => S q j ∨ (q = p ∧ I (3 + p) j = y)) := fun p hp x S h => by
    unfold xPl1
    refine (itA (R := oR) (f := fun k a => if I (3 + p) k = y then a ||| nI (2 ^ (p / 2)) else a) (T := fun k q j => q = p ∧ j = k ∧ I (3 + p) k = y) (fun _ _ _ e h => h.cg e) 12 0 x S (fun k x S _ hk h => ?_) h).cg fun q hq j hj => ⟨fun g => g.elim Or.inl fun ⟨i, _, _, r1, r2, r3⟩ => Or.inr ⟨r1, by rw [r2]; exact r3⟩, fun g => g.elim Or.inl fun r => Or.inr ⟨j, by omega, by omega, r.1, rfl, r.2⟩⟩
    show oR (if I (3 + p) k = y then x ||| nI (2 ^ (p / 2)) else x) _
    by_cases g : I (3 + p) k = y
    · rw [if_pos g]
      exact (h.or hp (by omega)).cg fun q hq j hj => ⟨fun r => r.elim Or.inl fun r => Or.inr ⟨r.1, r.2, g⟩, fun r => r.elim Or.inl fun r => Or.inr ⟨r.1, r.2.1⟩⟩
    · rw [if_neg g]
      exact h.cg fun q hq j hj => ⟨Or.inl, fun r => r.elim id fun r => absurd r.2.2 g⟩
  unfold xPl
  exact (itA (R := oR) (f := xPl1 I y) (T := fun p q j => q = p ∧ I (3 + p) j = y) (fun _ _ _ e h => h.cg e) 10 0 _ _ (fun p x S _ hp h => h1 p (by omega) x S h) (⟨0, by decide, rfl, fun j => ⟨fun q => absurd q (by rw [Nat.zero_testBit]; decide), fun ⟨_, _, _, _, s, _⟩ => s.elim⟩⟩ : oR (nI 0) (fun _ _ => False))).cg fun q hq j hj => ⟨fun g => g.elim False.elim fun ⟨i, _, _, r1, r2⟩ => by rw [r1]; exact r2, fun g => Or.inr ⟨q, by omega, by omega, rfl, g⟩⟩
theorem wP_lt2 {pg sz : Nat → Nat} (h : ∀ i, i < 2 → 0 < sz i → pg i < 10) : wP pg sz < 32 := by
  unfold wP
  refine Nat.or_lt_two_pow (n := 5) ?_ ?_
  · split
    · exact Nat.pow_lt_pow_right (by decide) (by have := h 0 (by decide) (by assumption); omega)
    · decide
  · split
    · exact Nat.pow_lt_pow_right (by decide) (by have := h 1 (by decide) (by assumption); omega)
    · decide
theorem wP_bit (pg sz : Nat → Nat) (j : Nat) : (wP pg sz).testBit j = true ↔ ∃ i, i < 2 ∧ 0 < sz i ∧ pg i / 2 = j := by
  have e : ∀ i, (if 0 < sz i then 2 ^ (pg i / 2) else 0 : Nat).testBit j = true ↔ (0 < sz i ∧ pg i / 2 = j) := fun i => by
    by_cases g : 0 < sz i
    · rw [if_pos g, Nat.testBit_two_pow, decide_eq_true_iff]
      exact ⟨fun q => ⟨g, q⟩, fun q => q.2⟩
    · rw [if_neg g, Nat.zero_testBit]
      exact ⟨fun q => absurd q (by decide), fun q => absurd q.1 g⟩
  unfold wP
  rw [Nat.testBit_or, Bool.or_eq_true, e, e]
  constructor
  · rintro (q | q)
    · exact ⟨0, by decide, q⟩
    · exact ⟨1, by decide, q⟩
  · rintro ⟨i, hi, q⟩
    rcases (show i = 0 ∨ i = 1 by omega) with rfl | rfl
    · exact Or.inl q
    · exact Or.inr q
/-- the plates of a story that is laid out, by both -/
theorem going {I : xv_I} {a sh : Nat} {pg st sz : Nat → Nat} (h1 : 0 < sh) (h1b : sh ≤ 6) (h76 : I 76 a = nI sh) (hw : xWy I (201 + 5 * a) pg st sz) (hm : ∀ i, i < 2 → I 79 (2 * a + i) = nI (sz i) ∧ (0 < sz i → I 77 (2 * a + i) = nI (pg i) ∧ I 78 (2 * a + i) = nI (st i))) (hp : ∀ p, p < 10 → ((∃ k, k < 12 ∧ I (3 + p) k = nI (200 + a)) ↔ ∃ i, i < 2 ∧ 0 < sz i ∧ pg i = p)) : wP pg sz < 32 ∧ xPl I (nI (200 + a)) = nI (wP pg sz) ∧ mPla I a = nI (wP pg sz) := by
  have hl := wP_lt2 (pg := pg) (sz := sz) fun i hi hs => ((hw i hi).2.2 hs).2.1
  refine ⟨hl, ?_, ?_⟩
  · obtain ⟨G, g1, g2, g3⟩ := xPl_n I (nI (200 + a))
    rw [g2]
    congr 1
    refine Nat.eq_of_testBit_eq fun j => Bool.eq_iff_iff.mpr ((g3 j).trans ((wP_bit pg sz j).trans ?_).symm)
    constructor
    · rintro ⟨i, i1, i2, i3⟩
      have r := ((hw i i1).2.2 i2).2.1
      obtain ⟨k, k1, k2⟩ := (hp (pg i) r).mpr ⟨i, i1, i2, rfl⟩
      exact ⟨pg i, k, r, k1, k2, i3⟩
    · rintro ⟨p, k, p1, k1, s, q⟩
      obtain ⟨i, i1, i2, i3⟩ := (hp p p1).mp ⟨k, k1, s⟩
      exact ⟨i, i1, i2, by rw [i3]; exact q⟩
  · have e : ∀ i, i < 2 → ∀ x, mPla1 I a i (nI x) = nI (x ||| if 0 < sz i then 2 ^ (pg i / 2) else 0) := fun i hi x => by
      obtain ⟨m1, m2⟩ := hm i hi
      have m3 := (hw i hi).2.1
      unfold mPla1
      rw [h76, m1]
      by_cases g : 0 < sz i
      · rw [if_pos ⟨nI_nle0 h1 (by omega), nI_nle0 g (by omega)⟩, if_pos g, (m2 g).1, show nI 1 <<< ((nI (pg i) / nI 2) &&& 31) = nI (2 ^ (pg i / 2)) from xPlate_n ((hw i hi).2.2 g).2.1, fa_or]
      · rw [if_neg (fun q => q.2 (by rw [show sz i = 0 by omega]; decide)), if_neg g, fa_or]
    unfold mPla wP
    rw [it, it, it, e 0 (by decide), e 1 (by decide), Nat.zero_or]
theorem mPla_cg {I I' : xv_I} {a : Nat} (h : ∀ v j, v = 76 ∨ v = 77 ∨ v = 79 → I' v j = I v j) : mPla I' a = mPla I a := by
  unfold mPla
  rw [show mPla1 I' a = mPla1 I a from funext fun i => funext fun x => by unfold mPla1; rw [h 76 _ (by omega), h 77 _ (by omega), h 79 _ (by omega)]]
theorem new_pl {T X : Nat} : (T ||| X) &&& (31 ^^^ T) = X &&& (31 ^^^ T) ∨ ¬ T < 32 := by
  by_cases hT : T < 32
  · refine Or.inl (Nat.eq_of_testBit_eq fun i => ?_)
    have e31 : (31 : Nat).testBit i = decide (i < 5) := Nat.testBit_two_pow_sub_one 5 i
    simp only [Nat.testBit_and, Nat.testBit_or, Nat.testBit_xor, e31]
    rcases Nat.lt_or_ge i 5 with h | h
    · rw [decide_eq_true h]
      cases T.testBit i <;> cases X.testBit i <;> decide
    · have l : (2 : Nat) ^ 5 ≤ 2 ^ i := Nat.pow_le_pow_right (by decide) h
      rw [Nat.testBit_lt_two_pow (Nat.lt_of_lt_of_le hT l)]
      simp
  · exact Or.inr hT
theorem chg_x {x y : Int32} {m k : Nat} (h : ¬ (0 < m ∧ k = 0)) (hx : x = nI m) (hy : y = nI k) (hm : m < 2 ^ 31) (hk : k < 2 ^ 31) : ¬ (¬ x ≤ 0 ∧ ¬ ¬ y ≤ 0) := fun ⟨q1, q2⟩ => by
  refine h ⟨Nat.pos_of_ne_zero fun e => q1 (by rw [hx, e]; decide), ?_⟩
  refine Classical.byContradiction fun e => q2 ?_
  rw [hy]
  exact nI_nle0 (Nat.pos_of_ne_zero e) hk
theorem chg_y {x y : Int32} {m k : Nat} (h : ¬ (0 < m ∧ k = 0)) (hx : x = nI m) (hy : y = nI k) (hm : m < 2 ^ 31) (hk : k < 2 ^ 31) : x = 0 ∨ ¬ y ≤ 0 := by
  by_cases e : m = 0
  · exact Or.inl (by rw [hx, e]; rfl)
  · refine Or.inr ?_
    rw [hy]
    exact nI_nle0 (Nat.pos_of_ne_zero fun r => h ⟨Nat.pos_of_ne_zero e, r⟩) hk
theorem armok_11 (n : Nat) : Arm n 11 := fun MC MS Q c I J kc ks i l5 l6 hi hn hI hkc hks hk => by
  obtain ⟨g1, g2, g3, g4⟩ := hI.st
  obtain ad3 := hI.ad.2.2.1
  rcases no_or c.2 (I 99 (i + 1)) with ⟨a, ha, e1⟩ | b1
  · rcases no_or c.2 (I 99 (i + 2)) with ⟨b, hb, e2⟩ | b1
    · obtain ⟨dA, npA, loA, shA, -, -, -, hnA, -, -, hshA, -, -, -, -, -, -, -, -, A16, A17, A18⟩ := g4 a ha
      obtain ⟨d, np, lo, sh, a1, a2, a3, a4, a5, a6, a7, a8, a9, a10, a11, a12, a13, a14, a15, a16, a17, a18⟩ := g4 b hb
      by_cases hst : 0 < shA ∧ sh = 0
      · obtain ⟨h0A, h0⟩ := hst
        obtain hab : a ≠ b := fun e => by
          rw [e, a17] at A17
          have := nI_inj2 A17 (by omega) (by omega)
          omega
        obtain ⟨hS1, hS2⟩ := st_both a2 a3 a4 a5 a6 a8 a9 a10 a11 a12 a13 a14 a15
        obtain hno : ∀ p, p < 10 → ∀ k, k < 12 → ¬ I (3 + p) k = nI (200 + b) := by
          rcases a18 with q | q
          · exact q.2.2
          · exact absurd q.1 (by omega)
        obtain ⟨pgA, stA, szA, -, wA, mA, pA⟩ := A18.resolve_left (fun q => absurd q.1 (by omega)) |>.2
        obtain ⟨hG, hxP, hmP⟩ := going h0A (by omega) A17 wA mA pA
        generalize wP pgA szA = G at hG hxP hmP
        obtain ⟨T1, T, hT, T2⟩ := hI.touch
        obtain hL2 : T ||| G < 32 := Nat.or_lt_two_pow (n := 5) hT hG
        obtain hL : I 1 6 ||| xPl I (nI (200 + a)) = nI (T ||| G) := by rw [T2, hxP, fa_or]
        obtain ⟨G0, G1, G2, G3⟩ := xPl_n I (nI (200 + a))
        obtain rfl : G0 = G := nI_inj2 (G2.symm.trans hxP) (by omega) (by omega)
        obtain hcz : ∀ f t, f < t → t ≤ np → 0 < czf d np f t := fun f t hf ht => (czf_ok (dg_pos a2 a3 a4 a8) hf ht a4).1
        obtain hna : ¬ nI a = -1 := nI_nm1 (by omega)
        obtain hgm : ∀ x : Int32, (x = 0 ∨ x = nI (200 + a)) ↔ (x = 0 ∨ (¬ nI a = -1 ∧ x = nI 200 + nI a)) := fun x => by
          rw [nI_add]
          exact ⟨fun q => q.elim Or.inl fun r => Or.inr ⟨hna, r⟩, fun q => q.elim Or.inl fun r => Or.inr r.2⟩
        obtain hl1 : ¬ I (201 + 5 * a) 0 ≤ 0 ∧ ¬ ¬ I (201 + 5 * b) 0 ≤ 0 := ⟨by rw [A16]; exact nI_nle0 h0A (by omega), by rw [a16, h0]; decide⟩
        obtain FB := fun (M : xv_I) (hM : ∀ v j, v = 61 ∨ v = 63 ∨ (v = 60 ∧ j = 3) → M v j = I v j) => find_both (y := nI a) (gm := nI (200 + a)) (b := nI 0) (sc := I 72 b) (G := G0) (L := T ||| G0) hG hT hL2 (Or.inr ⟨rfl, rfl⟩) (env_of hI hM hgm (T1.symm.trans T2)) a5 a6 a4 hcz
        obtain ⟨F1, F2⟩ := FB I (fun _ _ _ => rfl)
        rcases F2 with ⟨q1, -⟩ | ⟨q1, u, u1, u2, -, hB⟩
        · obtain P1 := p_change_no n c I J ha (by omega) hb (by omega) hS1 hl1 (by rw [hL, q1]; rfl)
          rw [hL] at P1
          generalize hC : (xFind (I 72 b) (czf d np) np lo (nI (200 + a)) (nI (T ||| G0)) I).2 = C at P1 F1
          obtain hM1 : ∀ v j, v = 61 ∨ v = 63 ∨ (v = 60 ∧ j = 3) → xv_u C 60 48 (nI 0) v j = I v j := fun v j hv => (show xv_u C 60 48 (nI 0) v j = C v j from if_neg (by omega)).trans (F1 v j (by omega))
          obtain ⟨-, F3⟩ := FB _ hM1
          obtain hf : (mFind (I 72 b) (nI a) (nI 0) (nI G0) (czf d np) np lo (xv_u C 60 48 (nI 0))).1 = nI 0 := by
            rcases F3 with q | q
            · exact q.2
            · exact absurd (q1.symm.trans q.1) (by decide)
          obtain hmC : mPla C a = nI G0 := (mPla_cg fun v j hv => F1 v j (by omega)).trans hmP
          obtain P2 := m_change_no n c C (xv_u J 98 0 (-1 : Int32).toInt64) ha ((F1 60 13 (by omega)).trans g2) g3 hb (np := np) (lo := lo) (cz := czf d np) (sc := I 72 b) (mStH_to2 hS2 fun v j hv => F1 v j (by omega)) ⟨by rw [F1 76 a (by omega), A17]; exact nI_n0 h0A (by omega), by rw [F1 76 b (by omega), a17, h0]; decide⟩ (by rw [hmC, hf]; rfl)
          rw [hmC] at P2
          obtain MO : ∀ v j, mOut_ v j → (mFind (I 72 b) (nI a) (nI 0) (nI G0) (czf d np) np lo (xv_u C 60 48 (nI 0))).2 v j = xv_u C 60 48 (nI 0) v j := fun v j h => mFindL_o h _ _ _
          generalize (mFind (I 72 b) (nI a) (nI 0) (nI G0) (czf d np) np lo (xv_u C 60 48 (nI 0))).2 = I2 at P2 MO
          refine arm_11 (dX := 8) (I1 := C) (I2 := I2) hi hn (by decide) (fun j => F1 _ _ (by omega)) (w_change_ok n c c J (by rw [e1, e2]; exact P1)) (by rw [e1, e2]; exact P2) ((MO 60 48 (by unfold mOut_; omega)).trans (xv_u_eq _ _ _ _)) (fun _ => by rw [xv_u_eq]) hkc hks (fun l5 l6 => ?_)
          refine @hk c _ _ l5 l6 (hI.to fun v j h1 h2 h3 h4 => ?_)
          rw [MO v j (by unfold mOut_; omega), show xv_u C 60 48 (nI 0) v j = C v j from if_neg (by omega)]
          exact F1 v j (by omega)
        · obtain ⟨Y1, -, Y2⟩ := sB_wy hB
          obtain P1 := p_change_ok n c I J ha (by omega) hb (by omega) hS1 hl1 (by rw [hL, q1]; decide) (by rw [hL]; exact Y1)
          rw [hL] at P1
          obtain CK : (xFind (I 72 b) (czf d np) np lo (nI (200 + a)) (nI (T ||| G0)) I).2 21 0 = nI u := by
            obtain ⟨pa, -, r, -⟩ := hB
            exact r
          generalize hC : (xFind (I 72 b) (czf d np) np lo (nI (200 + a)) (nI (T ||| G0)) I).2 = C at P1 F1 Y1 Y2 CK
          obtain Yb : ∀ i, i < 2 → 0 < wSz C i → wPg C i < 10 ∧ wSt C i + wSz C i ≤ 12 := fun i hi hs => by
            obtain ⟨-, -, r⟩ := Y1 i hi
            obtain ⟨-, r1, -, r2⟩ := r hs
            exact ⟨r1, r2⟩
          obtain hza : ¬ nI 0 = nI (200 + a) := nI_ne2 (by omega) (by decide) (by omega)
          obtain Ca := cC.free (I := C) hza
          generalize xFree (nI (200 + a)) C = F at P1 Ca
          obtain EF : ∀ v j, (v < 3 ∨ 13 ≤ v) → v ≠ 15 → (v ≠ 1 ∨ j ≠ 6) → F v j = C v j := Ca.2.2.2
          obtain EA : ∀ v j, (v < 201 + 5 * a ∨ 204 + 5 * a < v) → xClear (201 + 5 * a) F v j = F v j := fun v j hv => xClear_o _ _ (by omega)
          obtain A0 := xClear_0 (201 + 5 * a) F
          obtain A3 := fun i hi => xClear_3 (201 + 5 * a) F (i := i) hi
          generalize xClear (201 + 5 * a) F = A at P1 EA A0 A3
          obtain YA : xWy A 21 (wPg C) (wSt C) (wSz C) := xWy_to Y1 (fun v j h1 h2 => (EA v j (by omega)).trans (EF v j (by omega) (by omega) (by omega)))
          obtain C1 := cC.out (w := 201 + 5 * b) (x := nI (200 + b)) (C := A) Yb
          obtain XW := xCopy_wy (w := 201 + 5 * b) YA (Or.inr (by omega))
          obtain X0 : xCopy (201 + 5 * b) 21 A (201 + 5 * b) 0 = nI u := (xCopy_00 _ _ _ (by omega)).trans ((EA _ _ (by omega)).trans ((EF _ _ (by omega) (by omega) (by omega)).trans CK))
          obtain EX0 : ∀ v j, (v < 201 + 5 * b ∨ 204 + 5 * b < v) → xCopy (201 + 5 * b) 21 A v j = A v j := fun v j h2 => xCopy_o _ _ (by omega)
          generalize xCopy (201 + 5 * b) 21 A = CX at C1 XW X0 EX0
          generalize xOut (201 + 5 * b) (wPg C) (wSt C) (wSz C) (nI (200 + b)) A = I1 at P1 C1
          obtain EI : ∀ v j, (v < 3 ∨ 13 ≤ v) → v ≠ 15 → (v ≠ 1 ∨ j ≠ 6) → I1 v j = CX v j := C1.2.2.2
          obtain E1 : ∀ v j, (v < 3 ∨ 13 ≤ v) → v ≠ 15 → (v ≠ 1 ∨ j ≠ 6) → (v < 20 ∨ 28 < v) → (v < 201 + 5 * b ∨ 204 + 5 * b < v) → (v < 201 + 5 * a ∨ 204 + 5 * a < v) → I1 v j = I v j := fun v j h1 h2 h3 h4 h5 h6 => (EI v j h1 h2 h3).trans ((EX0 v j h5).trans ((EA v j h6).trans ((EF v j h1 h2 h3).trans (F1 v j h4))))
          obtain EM : ∀ v j, 60 ≤ v → v ≤ 93 → I1 v j = I v j := fun v j h1 h2 => E1 v j (by omega) (by omega) (by omega) (by omega) (by omega) (by omega)
          obtain EK : ∀ v j, 60 ≤ v → v ≤ 93 → (v ≠ 60 ∨ j ≠ 48) → xv_u I1 60 48 (nI 0) v j = I v j := fun v j h1 h2 h6 => (show xv_u I1 60 48 (nI 0) v j = I1 v j from if_neg (by omega)).trans (EM v j h1 h2)
          obtain ⟨-, F3⟩ := FB (xv_u I1 60 48 (nI 0)) (fun v j hv => EK v j (by omega) (by omega) (by omega))
          rw [hC] at F3
          rcases F3 with q | ⟨-, u9, v1, v2, v3, hB2⟩
          · exact absurd (q1.symm.trans q.1) (by decide)
          · obtain huu : u9 = u := by
              obtain ⟨pa, -, r, -⟩ := hB2
              exact nI_inj2 (r.symm.trans CK) (by omega) (by omega)
            rw [huu] at v1 v2 v3 hB2
            obtain ⟨-, Y3, -⟩ := sB_wy hB2
            obtain hopen := sB_open hB2
            obtain T3 : ∀ i, i < 2 → 0 < wSz C i → (mFind (I 72 b) (nI a) (nI 0) (nI G0) (czf d np) np lo (xv_u I1 60 48 (nI 0))).2 95 i = nI (wPg C i) ∧ (mFind (I 72 b) (nI a) (nI 0) (nI G0) (czf d np) np lo (xv_u I1 60 48 (nI 0))).2 96 i = nI (wSt C i) := fun i hi hs => by
              obtain ⟨-, -, -, -, r, -⟩ := hB2
              obtain ⟨-, -, r1, r2, -⟩ := (r i hi).2 hs
              exact ⟨r1, r2⟩
            obtain ⟨hcost, hW⟩ : (mFind (I 72 b) (nI a) (nI 0) (nI G0) (czf d np) np lo (xv_u I1 60 48 (nI 0))).2 60 47 = nI (cnt6 ((G0 ||| wP (wPg C) (wSz C)) &&& (31 ^^^ T))) ∧ wP (wPg C) (wSz C) < 32 := by
              obtain ⟨pa, r9, -, -, -, -, r⟩ := hB2
              exact ⟨r, wP_lt fun i hi hs => ((r9.2.2 i hi).2 hs).1⟩
            obtain hmC : mPla I1 a = nI G0 := (mPla_cg fun v j hv => EM v j (by omega) (by omega)).trans hmP
            obtain P2 := m_change_ok n c I1 (xv_u J 98 0 (xBC (I1 1 6 &&& (I 1 6 ^^^ (-1)))).toInt64) ha ((EM 60 13 (by omega) (by omega)).trans g2) g3 hb (np := np) (lo := lo) (cz := czf d np) (sc := I 72 b) (pg := wPg C) (st := wSt C) (sz := wSz C) (u := u) (mStH_to2 hS2 fun v j hv => EM v j (by omega) (by omega)) ⟨by rw [EM 76 a (by omega) (by omega), A17]; exact nI_n0 h0A (by omega), by rw [EM 76 b (by omega) (by omega), a17, h0]; decide⟩ (by rw [hmC]; exact v3) ⟨by omega, by omega⟩ (by rw [hmC]; exact Y3)
            rw [hmC] at P2
            obtain MO : ∀ v j, mOut_ v j → (mFind (I 72 b) (nI a) (nI 0) (nI G0) (czf d np) np lo (xv_u I1 60 48 (nI 0))).2 v j = xv_u I1 60 48 (nI 0) v j := fun v j h => mFindL_o h _ _ _
            generalize (mFind (I 72 b) (nI a) (nI 0) (nI G0) (czf d np) np lo (xv_u I1 60 48 (nI 0))).2 = M1 at P2 MO T3 hcost
            obtain hM63 : ∀ v j, v = 63 ∨ v = 81 ∨ (v = 60 ∧ j = 3) → M1 v j = I v j := fun v j hv => (MO v j (by unfold mOut_; omega)).trans (EK v j (by omega) (by omega) (by omega))
            obtain Cb := mC.clrA (I := M1) hza
            generalize mClrA (nI (200 + a)) M1 = M2 at P2 Cb
            obtain E76 : xv_u M2 76 a (nI 0) 76 a = nI 0 := xv_u_eq _ _ _ _
            obtain EM3 : ∀ v j, (v ≠ 76 ∨ j ≠ a) → xv_u M2 76 a (nI 0) v j = M2 v j := fun v j hv => if_neg (by omega)
            generalize xv_u M2 76 a (nI 0) = M3 at P2 E76 EM3
            obtain EM2 : ∀ v j, v ≠ 63 → v ≠ 81 → (v ≠ 60 ∨ j ≠ 3) → M2 v j = M1 v j := Cb.2.2.2
            obtain hM1I : ∀ p, p < 10 → ∀ k, k < 12 → M1 63 (12 * p + k) = I (3 + p) k := fun p hp k hk => (hM63 63 _ (Or.inl rfl)).trans (hI.cell p hp k hk).1.symm
            obtain hCI : ∀ p, p < 10 → ∀ k, C (3 + p) k = I (3 + p) k := fun p hp k => F1 _ _ (by omega)
            obtain Cb2 : mC M1 M2 (fun p k => C (3 + p) k = nI (200 + a)) (nI 0) := Cb.cg fun p hp k hk => by rw [hM1I p hp k hk, hCI p hp k]
            obtain hopn : ∀ i, i < 2 → ∀ m, m < wSz C i → I (3 + wPg C i) (cIn (wSt C i + m)) = 0 ∨ I (3 + wPg C i) (cIn (wSt C i + m)) = nI (200 + a) := fun i hi m hm => by
              obtain ⟨r1, r2⟩ := Yb i hi (by omega)
              obtain r := hopen i hi m hm
              unfold mOpen at r
              rw [EK 63 _ (by omega) (by omega) (by omega), ← (hI.cell _ r1 _ (cIn_lt (by omega))).1] at r
              exact (hgm _).mpr r
            obtain hfree : ∀ i, i < 2 → ∀ m, m < wSz C i → M2 63 (12 * wPg C i + cIn (wSt C i + m)) = 0 := fun i hi m hm => by
              obtain ⟨r1, r2⟩ := Yb i hi (by omega)
              by_cases g : C (3 + wPg C i) (cIn (wSt C i + m)) = nI (200 + a)
              · exact (Cb2.1 _ r1 _ (cIn_lt (by omega))).1 g
              · rw [(Cb2.1 _ r1 _ (cIn_lt (by omega))).2 g, hM1I _ r1 _ (cIn_lt (by omega))]
                rw [hCI _ r1] at g
                exact (hopn i hi m hm).resolve_right g
            obtain hz3 : ¬ (0 : Int32) = nI (200 + b) := nI_ne2 (a := 0) (by omega) (by decide) (by omega)
            obtain hz4 : ¬ nI (200 + b) = nI (200 + a) := nI_ne2 (by omega) (by omega) (by omega)
            obtain C2 := mC.out (s := b) (u := u) (K := M3) Yb (fun i hi m hm => by
              rw [EM3 63 _ (by omega), hfree i hi m hm]
              exact hz3)
            obtain LO : ∀ v j, v ≠ 63 → v ≠ 81 → (v ≠ 60 ∨ j ≠ 3) → (v ≠ 76 ∨ j ≠ b) → ((v < 77 ∨ 79 < v) ∨ j < 2 * b ∨ 2 * b + 2 ≤ j) → mLay b u (wPg C) (wSt C) (wSz C) M3 v j = M3 v j := fun v j h1 h2 h3 h4 h5 => mLay_o h1 h2 h3 h4 h5
            obtain ⟨LS1, LS2⟩ := mLay_s (s := b) (u := u) (pg := wPg C) (st := wSt C) (sz := wSz C) (K := M3)
            generalize mLay b u (wPg C) (wSt C) (wSz C) M3 = I2 at P2 C2 LO LS1 LS2
            obtain CPa := ((cpl.of hI).to (I' := C) (K' := M1) (fun v j hv => F1 v j (by omega)) hM63).step Ca Cb2
            obtain CP := (CPa.to (I' := CX) (K' := mD M3 I2) (fun v j hv => (EX0 v j (by omega)).trans (EA v j (by omega))) (fun v j hv => (mD_in _ _ hv).trans (EM3 v j (by omega)))).step C1 C2
            obtain E3 : ∀ v j, v ≠ 63 → v ≠ 81 → (v ≠ 60 ∨ (j ≠ 3 ∧ j ≠ 48 ∧ j ≠ 43 ∧ j ≠ 47)) → (v < 95 ∨ 97 < v) → (v ≠ 76 ∨ (j ≠ b ∧ j ≠ a)) → ((v < 77 ∨ 79 < v) ∨ j < 2 * b ∨ 2 * b + 2 ≤ j) → I2 v j = I1 v j := fun v j h1 h2 h3 h4 h5 h6 => (LO v j h1 h2 (by omega) (by omega) h6).trans ((EM3 v j (by omega)).trans ((EM2 v j h1 h2 (by omega)).trans ((MO v j (by unfold mOut_; omega)).trans (if_neg (by omega)))))
            obtain E4 : ∀ v j, v ≠ 63 → v ≠ 81 → (v ≠ 60 ∨ (j ≠ 3 ∧ j ≠ 48 ∧ j ≠ 43 ∧ j ≠ 47)) → (v < 95 ∨ 97 < v) → (v ≠ 76 ∨ (j ≠ b ∧ j ≠ a)) → ((v < 77 ∨ 79 < v) ∨ j < 2 * b ∨ 2 * b + 2 ≤ j) → (v < 3 ∨ 13 ≤ v) → v ≠ 15 → (v ≠ 1 ∨ j ≠ 6) → (v < 20 ∨ 28 < v) → (v < 201 + 5 * b ∨ 204 + 5 * b < v) → (v < 201 + 5 * a ∨ 204 + 5 * a < v) → I2 v j = I v j := fun v j h1 h2 h3 h4 h5 h6 h7 h8 h9 h10 h11 h12 => (E3 v j h1 h2 h3 h4 h5 h6).trans (E1 v j h7 h8 h9 h10 h11 h12)
            obtain CP2 : cpl I2 I2 := CP.to (fun v j h => E3 v j (by omega) (by omega) (by omega) (by omega) (by omega) (by omega)) (fun v j h => rfl)
            obtain hFI : ∀ p, p < 10 → ∀ k, k < 12 → F (3 + p) k = if I (3 + p) k = nI (200 + a) then nI 0 else I (3 + p) k := fun p hp k hk => by
              by_cases g : C (3 + p) k = nI (200 + a)
              · rw [(Ca.1 p hp k hk).1 g, ← hCI p hp k, if_pos g]
              · rw [(Ca.1 p hp k hk).2 g, ← hCI p hp k, if_neg g]
            obtain hXF : ∀ p, p < 10 → ∀ k, CX (3 + p) k = F (3 + p) k := fun p hp k => (EX0 _ _ (by omega)).trans (EA _ _ (by omega))
            obtain hI2 : ∀ p, p < 10 → ∀ k, k < 12 → (outS (wPg C) (wSt C) (wSz C) p k → I2 (3 + p) k = nI (200 + b)) ∧ (¬ outS (wPg C) (wSt C) (wSz C) p k → I2 (3 + p) k = if I (3 + p) k = nI (200 + a) then nI 0 else I (3 + p) k) := fun p hp k hk => by
              rw [E3 (3 + p) k (by omega) (by omega) (by omega) (by omega) (by omega) (by omega)]
              refine ⟨(C1.1 p hp k hk).1, fun so => ?_⟩
              rw [(C1.1 p hp k hk).2 so, hXF p hp k, hFI p hp k hk]
            obtain MK : ∀ y, ¬ nI 0 = y → ¬ nI (200 + a) = y → ¬ nI (200 + b) = y → ∀ p, p < 10 → ∀ k, k < 12 → (I2 (3 + p) k = y ↔ I (3 + p) k = y) := fun y h1 h2 h3 q hq k hk => by
              by_cases so : outS (wPg C) (wSt C) (wSz C) q k
              · rw [(hI2 q hq k hk).1 so]
                refine ⟨fun r => absurd r h3, fun r => absurd r ?_⟩
                obtain ⟨i, i1, m, i2, i3, i4⟩ := so
                rw [i3, i4]
                rcases hopn i i1 m i2 with z | z
                · rw [z]
                  exact h1
                · rw [z]
                  exact h2
              · rw [(hI2 q hq k hk).2 so]
                by_cases g : I (3 + q) k = nI (200 + a)
                · rw [if_pos g, g]
                  exact ⟨fun r => absurd r h1, fun r => absurd r h2⟩
                · rw [if_neg g]
            obtain hsout : ∀ p, p < 10 → ∀ k, k < 12 → (I2 (3 + p) k = nI (200 + b) ↔ outS (wPg C) (wSt C) (wSz C) p k) := fun p hp k hk => by
              by_cases so : outS (wPg C) (wSt C) (wSz C) p k
              · exact ⟨fun _ => so, fun _ => (hI2 p hp k hk).1 so⟩
              · refine ⟨fun r => absurd r ?_, fun r => absurd r so⟩
                rw [(hI2 p hp k hk).2 so]
                split
                · exact hz3
                · exact hno p hp k hk
            obtain P9 : I1 (201 + 5 * b) 0 = nI u := (EI _ _ (by omega) (by omega) (by omega)).trans X0
            obtain hans : xBC (I1 1 6 &&& (I 1 6 ^^^ (-1))) = M1 60 47 := by
              obtain ⟨t1, y1, y2, y3⟩ := Ca.2.2.1 T hT ((F1 1 6 (by omega)).trans T2)
              obtain ⟨t2, y4, y5, y6⟩ := C1.2.2.1 t1 y1 ((EX0 1 6 (by omega)).trans ((EA 1 6 (by omega)).trans y2))
              obtain et : t2 = T ||| (G0 ||| wP (wPg C) (wSz C)) := Nat.eq_of_testBit_eq fun j => Bool.eq_iff_iff.mpr (by
                rw [y6, y3, Nat.testBit_or, Nat.testBit_or, Bool.or_eq_true, Bool.or_eq_true, G3, wP_bit]
                constructor
                · rintro ((g | ⟨p, k, p1, k1, s, q⟩) | ⟨p, k, p1, k1, ⟨i, i1, m, i2, i3, i4⟩, q⟩)
                  · exact Or.inl g
                  · exact Or.inr (Or.inl ⟨p, k, p1, k1, (hCI p p1 k).symm.trans s, q⟩)
                  · exact Or.inr (Or.inr ⟨i, i1, by omega, by rw [← i3]; exact q⟩)
                · rintro (g | ⟨p, k, p1, k1, s, q⟩ | ⟨i, i1, i2, q⟩)
                  · exact Or.inl (Or.inl g)
                  · exact Or.inl (Or.inr ⟨p, k, p1, k1, (hCI p p1 k).trans s, q⟩)
                  · obtain ⟨r1, r2⟩ := Yb i i1 i2
                    exact Or.inr ⟨wPg C i, cIn (wSt C i + 0), r1, cIn_lt (by omega), ⟨i, i1, 0, i2, rfl, rfl⟩, q⟩)
              rw [y5, T2, kc1 _ y4 _ hT, hcost, et]
              rcases new_pl (T := T) (X := G0 ||| wP (wPg C) (wSz C)) with r | r
              · rw [r]
              · exact absurd hT r
            refine arm_11 (dX := 8) (I1 := I1) (I2 := I2) hi hn (by decide) (fun j => E1 _ _ (by omega) (by omega) (by omega) (by omega) (by omega) (by omega)) (w_change_ok n c c J (by rw [e1, e2]; exact P1)) (by rw [e1, e2]; exact P2) ((LO 60 48 (by omega) (by omega) (by omega) (by omega) (by omega)).trans ((EM3 _ _ (by omega)).trans ((EM2 _ _ (by omega) (by omega) (by omega)).trans ((MO 60 48 (by unfold mOut_; omega)).trans (xv_u_eq _ _ _ _))))) (fun _ => by rw [xv_u_eq, hans]) hkc hks (fun l5 l6 => ?_)
            refine @hk c _ _ l5 l6 (Inv.set_putsS hI (CP2.cell ?_) CP2.touch CP2.2.2 (hI.ad.cells (fun v j h => E4 v j (by omega) (by omega) (by omega) (by omega) (by omega) (by omega) (by omega) (by omega) (by omega) (by omega) (by omega) (by omega)) (fun b9 hb9 => MK _ (nI_ne2 (a := 0) (by omega) (by decide) (by omega)) (nI_ne2 (by omega) (by omega) (by omega)) (nI_ne2 (by omega) (by omega) (by omega)))) ⟨(E4 _ _ (by omega) (by omega) (by omega) (by omega) (by omega) (by omega) (by omega) (by omega) (by omega) (by omega) (by omega) (by omega)).trans g1, (E4 _ _ (by omega) (by omega) (by omega) (by omega) (by omega) (by omega) (by omega) (by omega) (by omega) (by omega) (by omega) (by omega)).trans g2, g3, fun b9 hb9 => ?_⟩ (fun t h1 h2 => (E4 _ _ (by omega) (by omega) (by omega) (by omega) (by omega) (by omega) (by omega) (by omega) (by omega) (by omega) (by omega) (by omega)).trans (hI.new t h1 h2)) ?_)
            · intro q hq k hk9
              by_cases so : outS (wPg C) (wSt C) (wSz C) q k
              · exact ⟨200 + b, Or.inr (Or.inr (Or.inl ⟨by omega, by omega⟩)), (hI2 q hq k hk9).1 so⟩
              · rw [(hI2 q hq k hk9).2 so]
                split
                · exact ⟨0, Or.inl rfl, rfl⟩
                · exact (hI.cell q hq k hk9).2
            · by_cases e : b9 = b
              · rw [e]
                refine ⟨d, np, lo, u, a1, a2, a3, a4, a5, a6, u2, a8, ?_⟩
                obtain E5 : ∀ v j, v = 72 ∨ v = 73 ∨ v = 74 ∨ v = 75 → I2 v j = I v j := fun v j hv => E4 v j (by omega) (by omega) (by omega) (by omega) (by omega) (by omega) (by omega) (by omega) (by omega) (by omega) (by omega) (by omega)
                obtain E6 : ∀ j, I2 (200 + 5 * b) j = I (200 + 5 * b) j := fun j => E4 _ j (by omega) (by omega) (by omega) (by omega) (by omega) (by omega) (by omega) (by omega) (by omega) (by omega) (by omega) (by omega)
                rw [E6 0, E6 1, E6 2, E6 3, E5 72 _ (by omega), E5 73 _ (by omega), E5 75 _ (by omega)]
                refine ⟨a9, a10, a11, a12, a13, a14, fun k hk => (E5 74 _ (by omega)).trans (a15 k hk), (E3 _ _ (by omega) (by omega) (by omega) (by omega) (by omega) (by omega)).trans P9, LS1, Or.inr ⟨by omega, wPg C, wSt C, wSz C, Y2, xWy_to XW (fun v j h1 h2 => (E3 _ _ (by omega) (by omega) (by omega) (by omega) (by omega) (by omega)).trans (EI _ _ (by omega) (by omega) (by omega))), fun i hi => ?_, fun p hp => ?_⟩⟩
                · obtain ⟨r1, r2, r3⟩ := LS2 i hi
                  exact ⟨r3, fun hs => ⟨r1.trans ((EM3 _ _ (by omega)).trans ((EM2 _ _ (by omega) (by omega) (by omega)).trans (T3 i hi hs).1)), r2.trans ((EM3 _ _ (by omega)).trans ((EM2 _ _ (by omega) (by omega) (by omega)).trans (T3 i hi hs).2))⟩⟩
                · constructor
                  · rintro ⟨k, k1, k2⟩
                    obtain ⟨i, i1, m, i2, i3, -⟩ := (hsout p hp k k1).mp k2
                    exact ⟨i, i1, by omega, i3.symm⟩
                  · rintro ⟨i, i1, i2, i3⟩
                    obtain ⟨r1, r2⟩ := Yb i i1 i2
                    exact ⟨cIn (wSt C i + 0), cIn_lt (by omega), (hsout p hp _ (cIn_lt (by omega))).mpr ⟨i, i1, 0, i2, i3.symm, rfl⟩⟩
              · by_cases ea : b9 = a
                · rw [ea]
                  obtain ⟨d7, np7, lo7, sh7, c1, c2, c3, c4, c5, c6, c7, c8, c9, c10, c11, c12, c13, c14, c15, c16, c17, c18⟩ := g4 a ha
                  refine ⟨d7, np7, lo7, 0, c1, c2, c3, c4, c5, c6, Nat.zero_le _, c8, ?_⟩
                  obtain E5 : ∀ v j, v = 72 ∨ v = 73 ∨ v = 74 ∨ v = 75 → I2 v j = I v j := fun v j hv => E4 v j (by omega) (by omega) (by omega) (by omega) (by omega) (by omega) (by omega) (by omega) (by omega) (by omega) (by omega) (by omega)
                  obtain E6 : ∀ j, I2 (200 + 5 * a) j = I (200 + 5 * a) j := fun j => E4 _ j (by omega) (by omega) (by omega) (by omega) (by omega) (by omega) (by omega) (by omega) (by omega) (by omega) (by omega) (by omega)
                  obtain E7 : ∀ v j, 201 + 5 * a ≤ v → v ≤ 204 + 5 * a → I2 v j = A v j := fun v j h1 h2 => (E3 _ _ (by omega) (by omega) (by omega) (by omega) (by omega) (by omega)).trans ((EI _ _ (by omega) (by omega) (by omega)).trans (EX0 _ _ (by omega)))
                  rw [E6 0, E6 1, E6 2, E6 3, E5 72 _ (by omega), E5 73 _ (by omega), E5 75 _ (by omega)]
                  refine ⟨c9, c10, c11, c12, c13, c14, fun k hk => (E5 74 _ (by omega)).trans (c15 k hk), (E7 _ _ (by omega) (by omega)).trans A0, (LO 76 a (by omega) (by omega) (by omega) (by omega) (by omega)).trans E76, Or.inl ⟨rfl, fun i hi => (E7 _ _ (by omega) (by omega)).trans (A3 i hi), fun p hp k hk => ?_⟩⟩
                  by_cases so : outS (wPg C) (wSt C) (wSz C) p k
                  · rw [(hI2 p hp k hk).1 so]
                    exact hz4
                  · rw [(hI2 p hp k hk).2 so]
                    split
                    · exact hza
                    · assumption
                · exact (g4 b9 hb9).cells (fun v j h1 h2 => E4 _ _ (by omega) (by omega) (by omega) (by omega) (by omega) (by omega) (by omega) (by omega) (by omega) (by omega) (by omega) (by omega)) (fun v j h1 => E4 _ _ (by omega) (by omega) (by omega) (by omega) (by omega) (by omega) (by omega) (by omega) (by omega) (by omega) (by omega) (by omega)) (MK _ (nI_ne2 (a := 0) (by omega) (by decide) (by omega)) (nI_ne2 (by omega) (by omega) (by omega)) (nI_ne2 (by omega) (by omega) (by omega)))
            · intro v j h1 h2 h3 h4 h5
              exact E4 v j (by omega) (by omega) (by omega) (by omega) (by omega) (by omega) (by omega) (by omega) (by omega) (by omega) (by omega) (by omega)
      · exact arm_11 (dX := 8) (I1 := I) (I2 := xv_u I 60 48 (nI 2)) (out := nI 0) hi hn (by decide) (fun _ => rfl) (w_change_S n c c J (by rw [e1, e2]; exact p_change_c n c I J ha (by omega) hb (by omega) (chg_x hst A16 a16 (by omega) (by omega)))) (by rw [e1, e2]; exact m_change_c n c _ _ ha g2 g3 hb (chg_y hst A17 a17 (by omega) (by omega))) (xv_u_eq _ _ _ _) (fun q => absurd q (by decide)) hkc hks (fun l5 l6 => by exact hk c _ _ l5 l6 (hI.to (by intro v j h1 h2 h3 h4; simp only [xv_u]; repeat rw [if_neg (by omega)])))
    · exact arm_11 (dX := 8) (I1 := I) (I2 := xv_u I 60 48 (nI 1)) (out := nI 0) hi hn (by decide) (fun _ => rfl) (w_change_I n c c J (by rw [e1]; exact p_change_b n c I J ha (by omega) b1)) (by rw [e1]; exact m_change_b n c _ _ ha g2 g3 b1) (xv_u_eq _ _ _ _) (fun q => absurd q (by decide)) hkc hks (fun l5 l6 => by exact hk c _ _ l5 l6 (hI.to (by intro v j h1 h2 h3 h4; simp only [xv_u]; repeat rw [if_neg (by omega)])))
  · exact arm_11 (dX := 8) (I1 := I) (I2 := xv_u I 60 48 (nI 1)) (out := nI 0) hi hn (by decide) (fun _ => rfl) (w_change_I n c c J (p_change_a n c I J b1)) (m_change_a n c _ _ b1 g2 g3) (xv_u_eq _ _ _ _) (fun q => absurd q (by decide)) hkc hks (fun l5 l6 => by exact hk c _ _ l5 l6 (hI.to (by intro v j h1 h2 h3 h4; simp only [xv_u]; repeat rw [if_neg (by omega)])))