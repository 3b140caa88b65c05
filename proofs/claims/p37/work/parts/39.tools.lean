/-- the class's memory after the cells of S got x -/
def cC (I I' : xv_I) (S : Nat → Nat → Prop) (x : Int32) : Prop :=
  (∀ p, p < 10 → ∀ k, k < 12 → (S p k → I' (3 + p) k = x) ∧ (¬ S p k → I' (3 + p) k = I (3 + p) k)) ∧
  (∀ p, p < 10 → ((∃ k, k < 12 ∧ S p k) → I' 15 p = nI 0) ∧ ((∀ k, k < 12 → ¬ S p k) → I' 15 p = I 15 p)) ∧
  (∀ t, t < 32 → I 1 6 = nI t → ∃ t', t' < 32 ∧ I' 1 6 = nI t' ∧ ∀ j, t'.testBit j = true ↔ (t.testBit j = true ∨ ∃ p k, p < 10 ∧ k < 12 ∧ S p k ∧ p / 2 = j)) ∧
  (∀ v j, (v < 3 ∨ 13 ≤ v) → v ≠ 15 → (v ≠ 1 ∨ j ≠ 6) → I' v j = I v j)
theorem cC.nil (I : xv_I) (x : Int32) : cC I I (fun _ _ => False) x :=
  ⟨fun _ _ _ _ => ⟨False.elim, fun _ => rfl⟩, fun _ _ => ⟨fun ⟨_, _, h⟩ => h.elim, fun _ => rfl⟩, fun t ht e => ⟨t, ht, e, fun j => ⟨Or.inl, fun h => h.elim id fun ⟨_, _, _, _, h, _⟩ => h.elim⟩⟩, fun _ _ _ _ _ => rfl⟩
theorem cC.cg {I I' : xv_I} {S T : Nat → Nat → Prop} {x : Int32} (e : ∀ p, p < 10 → ∀ k, k < 12 → (S p k ↔ T p k)) (h : cC I I' S x) : cC I I' T x := by
  obtain ⟨h1, h2, h3, h4⟩ := h
  refine ⟨fun p hp k hk => ⟨fun g => (h1 p hp k hk).1 ((e p hp k hk).mpr g), fun g => (h1 p hp k hk).2 fun q => g ((e p hp k hk).mp q)⟩, fun p hp => ⟨fun ⟨k, hk, g⟩ => (h2 p hp).1 ⟨k, hk, (e p hp k hk).mpr g⟩, fun g => (h2 p hp).2 fun k hk q => g k hk ((e p hp k hk).mp q)⟩, fun t ht et => ?_, h4⟩
  obtain ⟨t', a1, a2, a3⟩ := h3 t ht et
  refine ⟨t', a1, a2, fun j => (a3 j).trans ⟨fun r => r.elim Or.inl fun ⟨p, k, hp, hk, s, q⟩ => Or.inr ⟨p, k, hp, hk, (e p hp k hk).mp s, q⟩, fun r => r.elim Or.inl fun ⟨p, k, hp, hk, s, q⟩ => Or.inr ⟨p, k, hp, hk, (e p hp k hk).mpr s, q⟩⟩⟩
theorem cC.put {I I' : xv_I} {S : Nat → Nat → Prop} {x : Int32} (h : cC I I' S x) {p k : Nat} (hp : p < 10) (hk : k < 12) : cC I (xPut I' p k x) (fun q j => S q j ∨ (q = p ∧ j = k)) x := by
  obtain ⟨h1, h2, h3, h4⟩ := h
  have e1 : ∀ q j, q < 10 → xPut I' p k x (3 + q) j = if q = p ∧ j = k then x else I' (3 + q) j := fun q j hq => by
    unfold xPut xv_u
    rw [if_neg (by omega), if_neg (by omega)]
    by_cases g : q = p ∧ j = k
    · rw [if_pos g, if_pos (by omega)]
    · rw [if_neg g, if_neg (by omega)]
  have e2 : ∀ q, xPut I' p k x 15 q = if q = p then nI 0 else I' 15 q := fun q => by
    unfold xPut xv_u
    rw [if_neg (by omega)]
    by_cases g : q = p
    · rw [if_pos g, if_pos (by omega)]
    · rw [if_neg g, if_neg (by omega), if_neg (by omega)]
  refine ⟨fun q hq j hj => ⟨fun g => ?_, fun g => ?_⟩, fun q hq => ⟨fun g => ?_, fun g => ?_⟩, fun t ht et => ?_, fun v j a1 a2 a3 => ?_⟩
  · rw [e1 q j hq]
    by_cases r : q = p ∧ j = k
    · rw [if_pos r]
    · rw [if_neg r]
      exact (h1 q hq j hj).1 (g.resolve_right r)
  · rw [e1 q j hq, if_neg fun r => g (Or.inr r)]
    exact (h1 q hq j hj).2 fun r => g (Or.inl r)
  · rw [e2]
    by_cases r : q = p
    · rw [if_pos r]
    · rw [if_neg r]
      obtain ⟨j, hj, g⟩ := g
      exact (h2 q hq).1 ⟨j, hj, g.resolve_right fun s => r s.1⟩
  · rw [e2, if_neg fun r => g k hk (Or.inr ⟨r, rfl⟩)]
    exact (h2 q hq).2 fun j hj r => g j hj (Or.inl r)
  · obtain ⟨t', a1, a2, a3⟩ := h3 t ht et
    obtain ⟨b1, b2, b3⟩ := pl_or a1 hp
    refine ⟨_, b2, by unfold xPut; rw [xv_u_eq, a2, b1], fun j => ?_⟩
    rw [b3, a3]
    constructor
    · rintro ((g | ⟨q, i, hq, hi, s, r⟩) | g)
      · exact Or.inl g
      · exact Or.inr ⟨q, i, hq, hi, Or.inl s, r⟩
      · exact Or.inr ⟨p, k, hp, hk, Or.inr ⟨rfl, rfl⟩, g⟩
    · rintro (g | ⟨q, i, hq, hi, s | s, r⟩)
      · exact Or.inl (Or.inl g)
      · exact Or.inl (Or.inr ⟨q, i, hq, hi, s, r⟩)
      · exact Or.inr (by omega)
  · unfold xPut xv_u
    rw [if_neg (by omega), if_neg (by omega), if_neg (by omega)]
    exact h4 v j a1 a2 a3
theorem itS {R : xv_I → (Nat → Nat → Prop) → Prop} (hcg : ∀ I' S S', (∀ p, p < 10 → ∀ k, k < 12 → (S p k ↔ S' p k)) → R I' S → R I' S') {f : Nat → xv_I → xv_I} {T : Nat → Nat → Nat → Prop} : ∀ (m k : Nat) (I' : xv_I) (S : Nat → Nat → Prop), (∀ i I' S, k ≤ i → i < k + m → R I' S → R (f i I') (fun p j => S p j ∨ T i p j)) → R I' S → R (it f m k I') (fun p j => S p j ∨ ∃ i, k ≤ i ∧ i < k + m ∧ T i p j)
  | 0, k, I', S, _, h => hcg _ _ _ (fun p _ j _ => ⟨Or.inl, fun g => g.elim id fun ⟨i, h1, h2, _⟩ => by omega⟩) h
  | m + 1, k, I', S, hf, h => by
    rw [it]
    refine hcg _ _ _ (fun p _ j _ => ?_) (itS hcg m (k + 1) _ _ (fun i I' S h1 h2 => hf i I' S (by omega) (by omega)) (hf k I' S (Nat.le_refl _) (by omega) h))
    constructor
    · rintro ((g | g) | ⟨i, g1, g2, g⟩)
      · exact Or.inl g
      · exact Or.inr ⟨k, Nat.le_refl _, by omega, g⟩
      · exact Or.inr ⟨i, by omega, by omega, g⟩
    · rintro (g | ⟨i, g1, g2, g⟩)
      · exact Or.inl (Or.inl g)
      · rcases Nat.eq_or_lt_of_le g1 with e | e
        · exact Or.inl (Or.inr (by rw [e]; exact g))
        · exact Or.inr ⟨i, by omega, by omega, g⟩
theorem cC.free {I : xv_I} {y : Int32} (hy : ¬ nI 0 = y) : cC I (xFree y I) (fun p k => I (3 + p) k = y) (nI 0) := by
  have h1 : ∀ p, p < 10 → ∀ I' S, cC I I' S (nI 0) → cC I (xFree1 y p I') (fun q j => S q j ∨ (q = p ∧ I (3 + p) j = y)) (nI 0) := fun p hp I' S h => by
    unfold xFree1
    refine (itS (R := fun I' S => cC I I' S (nI 0)) (T := fun k q j => q = p ∧ j = k ∧ I (3 + p) k = y) (fun _ _ _ e h => h.cg e) 12 0 I' S (fun k I' S _ hk h => ?_) h).cg fun q hq j hj => ⟨fun g => g.elim Or.inl fun ⟨i, _, _, r1, r2, r3⟩ => Or.inr ⟨r1, by rw [r2]; exact r3⟩, fun g => g.elim Or.inl fun r => Or.inr ⟨j, by omega, by omega, r.1, rfl, r.2⟩⟩
    show cC I (if I' (3 + p) k = y then xPut I' p k (nI 0) else I') _ _
    by_cases s : S p k
    · rw [if_neg (by rw [(h.1 p hp k (by omega)).1 s]; exact hy)]
      exact h.cg fun q hq j hj => ⟨Or.inl, fun g => g.elim id fun r => by rw [r.1, r.2.1]; exact s⟩
    · have e := (h.1 p hp k (by omega)).2 s
      rw [e]
      by_cases g : I (3 + p) k = y
      · rw [if_pos g]
        exact (h.put hp (by omega)).cg fun q hq j hj => ⟨fun r => r.elim Or.inl fun r => Or.inr ⟨r.1, r.2, g⟩, fun r => r.elim Or.inl fun r => Or.inr ⟨r.1, r.2.1⟩⟩
      · rw [if_neg g]
        exact h.cg fun q hq j hj => ⟨Or.inl, fun r => r.elim id fun r => absurd r.2.2 g⟩
  unfold xFree
  refine (itS (R := fun I' S => cC I I' S (nI 0)) (T := fun p q j => q = p ∧ I (3 + p) j = y) (fun _ _ _ e h => h.cg e) 10 0 I _ (fun p I' S _ hp h => h1 p (by omega) I' S h) (cC.nil I _)).cg fun q hq j hj => ⟨fun g => g.elim False.elim fun ⟨i, _, _, r1, r2⟩ => by rw [r1]; exact r2, fun g => Or.inr ⟨q, by omega, by omega, rfl, g⟩⟩
/-- a rectangle -/
abbrev inR (p f w h q j : Nat) : Prop := q = p ∧ ∃ d r, d < h ∧ r < w ∧ j = f + 3 * d + r
theorem cC.fill {I : xv_I} {x : Int32} {p f w h : Nat} (hp : p < 10) (h1 : f % 3 + w ≤ 3) (h2 : f / 3 + h ≤ 4) : cC I (xFill p f w h x I) (inR p f w h) x := by
  have g1 : ∀ d, d < h → ∀ I' S, cC I I' S x → cC I (xFill1 p f w x d I') (fun q j => S q j ∨ (q = p ∧ ∃ r, r < w ∧ j = f + 3 * d + r)) x := fun d hd I' S g => by
    unfold xFill1
    exact (itS (R := fun I' S => cC I I' S x) (T := fun r q j => q = p ∧ j = f + 3 * d + r) (fun _ _ _ e h => h.cg e) w 0 I' S (fun r I' S _ hr h => h.put hp (by omega)) g).cg fun q hq j hj => ⟨fun g => g.elim Or.inl fun ⟨i, _, r1, r2, r3⟩ => Or.inr ⟨r2, i, by omega, r3⟩, fun g => g.elim Or.inl fun ⟨r1, r, r2, r3⟩ => Or.inr ⟨r, by omega, by omega, r1, r3⟩⟩
  unfold xFill
  exact (itS (R := fun I' S => cC I I' S x) (T := fun d q j => q = p ∧ ∃ r, r < w ∧ j = f + 3 * d + r) (fun _ _ _ e h => h.cg e) h 0 I _ (fun d I' S _ hd h => g1 d (by omega) I' S h) (cC.nil I _)).cg fun q hq j hj => ⟨fun g => g.elim False.elim fun ⟨d, _, r1, r2, r, r3, r4⟩ => ⟨r2, d, r, by omega, r3, r4⟩, fun ⟨r1, d, r, r2, r3, r4⟩ => Or.inr ⟨d, by omega, by omega, r1, r, r3, r4⟩⟩
/-- the marks that stay -/
theorem cC.mark {I I' : xv_I} {S : Nat → Nat → Prop} {x y : Int32} (h : cC I I' S x) (hx : ¬ x = y) (hs : ∀ p, p < 10 → ∀ k, k < 12 → S p k → ¬ I (3 + p) k = y) : ∀ p, p < 10 → ∀ k, k < 12 → (I' (3 + p) k = y ↔ I (3 + p) k = y) := fun p hp k hk => by
  by_cases s : S p k
  · rw [(h.1 p hp k hk).1 s]
    exact ⟨fun r => absurd r hx, fun r => absurd r (hs p hp k hk s)⟩
  · rw [(h.1 p hp k hk).2 s]
/-- what the class wrote is what the law has still to read -/
theorem cC.mid {c : Nat × Nat} {I I' : xv_I} {S : Nat → Nat → Prop} {x : Int32} (hI : Inv c I) (h : cC I I' S x) (hx : ∀ p, p < 10 → ∀ k, k < 12 → S p k → ¬ I (3 + p) k = x) : mS I' ∧ mT I' := by
  obtain ⟨hR, hC, ⟨t, t1, t2, t3⟩, hS⟩ := hI
  obtain ⟨h1, h2, h3, h4⟩ := h
  have hE : ∀ p, p < 10 → ∀ k, k < 12 → cE I' p k = I (3 + p) k := fun p hp k hk => (cE_to fun v j g => h4 v j (by omega) (by omega) (by omega)).trans (hC p hp k hk).symm
  have hg : ∀ p, p < 10 → (chg I' p ↔ ∃ k, k < 12 ∧ S p k) := fun p hp => by
    constructor
    · rintro ⟨k, hk, q⟩
      exact ⟨k, hk, Classical.byContradiction fun s => q (((h1 p hp k hk).2 s).trans (hE p hp k hk).symm)⟩
    · rintro ⟨k, hk, q⟩
      exact ⟨k, hk, fun s => hx p hp k hk q ((hE p hp k hk).symm.trans (s.symm.trans ((h1 p hp k hk).1 q)))⟩
  refine ⟨fun p hp => ?_, ?_⟩
  · obtain ⟨b, b1, b2, b3, b4⟩ := hS p hp
    exact ⟨b, b1, (h4 64 p (by decide) (by decide) (by omega)).trans b3, fun q => (h2 p hp).1 ((hg p hp).mp q), fun q => ((h2 p hp).2 fun k hk s => q ((hg p hp).mpr ⟨k, hk, s⟩)).trans b2, b4.to (h4 1 5 (by decide) (by decide) (by omega))⟩
  · obtain ⟨u, u1, u2, u3⟩ := h3 t t1 t2
    refine ⟨t, u, t1, u1, (h4 69 2 (by decide) (by decide) (by omega)).trans t3, u2, fun j => (u3 j).trans ⟨fun r => r.elim Or.inl fun ⟨p, k, a1, a2, a3, a4⟩ => Or.inr ⟨p, a1, a4, (hg p a1).mpr ⟨k, a2, a3⟩⟩, fun r => r.elim Or.inl fun ⟨p, a1, a4, q⟩ => ?_⟩⟩
    obtain ⟨k, a2, a3⟩ := (hg p a1).mp q
    exact Or.inr ⟨p, k, a1, a2, a3, a4⟩
theorem cC.ok {c c' : Nat × Nat} {I I' : xv_I} {S : Nat → Nat → Prop} {x : Nat} (h : cC I I' S (nI x)) (g : gOk c I) (hx : okCell c x) (h7 : x < 200 ∨ ∀ p, p < 10 → ∀ k, k < 12 → S p k → p < 7) : gOk c I' := fun p hp k hk => by
  by_cases s : S p k
  · exact ⟨x, hx, h7.elim Or.inl fun q => Or.inr (q p hp k hk s), (h.1 p hp k hk).1 s⟩
  · rw [(h.1 p hp k hk).2 s]
    exact g p hp k hk
theorem pb_xor : ∀ b, b < 64 → ∀ q, q < 6 → nI b ^^^ nI (2 ^ q) = nI (b ^^^ 2 ^ q) ∧ b ^^^ 2 ^ q < 64 := by decide +kernel
theorem pb_or : ∀ b, b < 64 → ∀ q, q < 6 → nI b ||| nI (2 ^ q) = nI (b ||| 2 ^ q) ∧ b ||| 2 ^ q < 64 := by decide +kernel
theorem pb_and {b q : Nat} (hq : q < 6) : nI b &&& nI (2 ^ q) = 0 ↔ b.testBit q = false := fa_bit (by omega)
theorem shL : ∀ b, b < 64 → ∀ q, q < 6 → nI b >>> (nI q &&& 31) &&& nI 1 = if b.testBit q = true then nI 1 else nI 0 := by decide +kernel
theorem t63 : ∀ b, b < 64 → b ^^^ 63 < 64 ∧ ∀ q, q < 6 → (b ^^^ 63).testBit q = !b.testBit q := by decide +kernel
theorem sub_or : ∀ q, q < 6 → ∀ b, b < 64 → ∀ B, B < 64 → b &&& B = b → B.testBit q = true → (b ||| 2 ^ q) &&& B = b ||| 2 ^ q := by decide +kernel
theorem sub_xor : ∀ q, q < 6 → ∀ b, b < 64 → ∀ B, B < 64 → b &&& B = b → B.testBit q = true → (b ^^^ 2 ^ q) &&& B = b ^^^ 2 ^ q := by decide +kernel
theorem out_1 : ∀ q, q < 6 → ∀ B, B < 64 → B.testBit q = true → nI B &&& (nI (2 ^ q) ^^^ (-1)) = nI (B ^^^ 2 ^ q) ∧ nI (B ^^^ 63) ^^^ nI (2 ^ q) = nI ((B ^^^ 2 ^ q) ^^^ 63) ∧ B ^^^ 2 ^ q < 64 ∧ (B ^^^ 2 ^ q).testBit q = false := by decide +kernel
theorem in_1 : ∀ q, q < 6 → ∀ B, B < 64 → B.testBit q = false → nI B ||| nI (2 ^ q) = nI (B ^^^ 2 ^ q) ∧ nI (B ^^^ 63) ^^^ nI (2 ^ q) = nI ((B ^^^ 2 ^ q) ^^^ 63) ∧ B ^^^ 2 ^ q < 64 ∧ (B ^^^ 2 ^ q).testBit q = true := by decide +kernel
theorem out_2 : ∀ q, q < 6 → ∀ B, B < 64 → B.testBit q = true → ∀ b, b < 64 → b &&& B = b → nI b &&& (nI (2 ^ q) ^^^ (-1)) = nI (b &&& (B ^^^ 2 ^ q)) := by decide +kernel
theorem and_3 : ∀ b, b < 64 → ∀ B, B < 64 → nI b &&& (nI (B ^^^ 63) ^^^ (-1)) = nI (b &&& B) ∧ b &&& B < 64 := by decide +kernel
theorem in_2 : ∀ q, q < 6 → ∀ B, B < 64 → B.testBit q = false → ∀ b, b < 64 → b &&& B = b → b &&& (B ^^^ 2 ^ q) = b := by decide +kernel
theorem bi_if (P : Prop) : (if bi P = 0 then nI 0 else nI 1) = bi P := by
  by_cases h : P
  · rw [bi_t h, if_neg (by decide)]
  · rw [bi_f h, if_pos (by decide)]
theorem bi_bit {b q : Nat} (hq : q < 6) : bi (¬ nI b &&& nI (2 ^ q) = 0) = if b.testBit q = true then nI 1 else nI 0 := by
  by_cases h : b.testBit q = true
  · rw [if_pos h, bi_t fun r => by rw [(pb_and hq).mp r] at h; cases h]
  · rw [if_neg h, bi_f fun r => r ((pb_and hq).mpr (Bool.eq_false_iff.mpr h))]
/-- the ends of the law's parts -/
def qI (n : Nat) (J : xv_J) : xv_Q := fun o s i r j => o = .inl (some (.int (nI 1))) ∧ ∃ c', s = sx n c' ∧ r = rx c' ∧ j = J ∧ Inv c' i
def qM (n : Nat) (J : xv_J) : xv_Q := fun o s i r j => o = .inl (some (.int (nI 1))) ∧ ∃ c', s = sx n c' ∧ r = rx c' ∧ j = J ∧ Mid c' i
theorem xv_Met.imp {M : xv_M} {d mc ms : Nat} {sh : xv_Sh} {I : xv_I} {Rf : xv_Rf} {J : xv_J} {As : List Value} {Q Q' : xv_Q} (h : xv_Met M d mc ms sh I Rf J As Q) (hq : ∀ o s i r j, Q o s i r j → Q' o s i r j) : xv_Met M d mc ms sh I Rf J As Q' := fun l D ad ca sz hl => by
  refine MetFree.imp (h l D ad ca sz hl) (fun a st o t hh => ?_)
  rcases hh with ⟨⟨r, sh', I', Rf', J', ad', ca', h1, h2, h3⟩, h4⟩ | ⟨q, h1, h2⟩
  · exact Or.inl ⟨⟨r, sh', I', Rf', J', ad', ca', h1, hq _ _ _ _ _ h2, h3⟩, h4⟩
  · obtain ⟨E, ce, L, ⟨sh', I', Rf', J', ad', ca', g1, g2⟩, h3⟩ := h2
    exact Or.inr ⟨q, h1, E, ce, L, ⟨sh', I', Rf', J', ad', ca', hq _ _ _ _ _ g1, g2⟩, h3⟩
theorem qI.m {n : Nat} {J : xv_J} {o : xv_O} {s : xv_Sh} {i : xv_I} {r : xv_Rf} {j : xv_J} (h : qI n J o s i r j) : qM n J o s i r j := ⟨h.1, h.2.choose, h.2.choose_spec.1, h.2.choose_spec.2.1, h.2.choose_spec.2.2.1, h.2.choose_spec.2.2.2.mid⟩
/-- signatures and holds may change -/
theorem Inv.people {c : Nat × Nat} {I I' : xv_I} (hI : Inv c I) (e : ∀ v j, (v ≠ 1 ∨ j ≠ 5) → v ≠ 15 → v ≠ 16 → v ≠ 64 → (v ≠ 69 ∨ j ≠ 5) → I' v j = I v j) (hS : gS I') (hH : gHold I') (hh : gHere I') : Inv c I' := by
  obtain ⟨⟨h1, h2, h3, h4, h5, h6, h7, h8, h9⟩, hC, hT, -⟩ := hI
  refine ⟨⟨h1.to fun v j g => e v j (by omega) (by omega) (by omega) (by omega) (by omega), h2.to fun v j g => e v j (by omega) (by omega) (by omega) (by omega) (by omega), hH, hh, h5.to fun v j g => e v j (by omega) (by omega) (by omega) (by omega) (by omega), h6.to (fun v j g => e v j (by omega) (by omega) (by omega) (by omega) (by omega)) fun a _ p hp k hk => by rw [e (3 + p) k (by omega) (by omega) (by omega) (by omega) (by omega)], h7.to (fun v j g => e v j (by omega) (by omega) (by omega) (by omega) (by omega)) fun a _ p hp k hk => by rw [e (3 + p) k (by omega) (by omega) (by omega) (by omega) (by omega)], h8.to fun v j g => e v j (by omega) (by omega) (by omega) (by omega) (by omega), h9.to fun v j g => e v j (by omega) (by omega) (by omega) (by omega) (by omega)⟩, hC.to fun v j g => e v j (by omega) (by omega) (by omega) (by omega) (by omega), hT.to fun v j g => e v j (by omega) (by omega) (by omega) (by omega) (by omega), hS⟩
theorem Inv.sign {c : Nat × Nat} {I : xv_I} (hI : Inv c I) {p q b B : Nat} (hp : p < 10) (hq : q < 6) (hb : b < 64) (h15 : I 15 p = nI b) (h64 : I 64 p = nI b) (hsub : sub I b) (hB : B < 64) (h5 : I 1 5 = nI B) (ht : B.testBit q = true) : Inv c (xv_u (xv_u I 15 p (nI (b ||| 2 ^ q))) 64 p (nI (b ||| 2 ^ q))) := by
  have e : ∀ v j, (v ≠ 15 ∨ j ≠ p) → (v ≠ 64 ∨ j ≠ p) → xv_u (xv_u I 15 p (nI (b ||| 2 ^ q))) 64 p (nI (b ||| 2 ^ q)) v j = I v j := fun v j h1 h2 => by
    unfold xv_u
    rw [if_neg (by omega), if_neg (by omega)]
  refine hI.people (fun v j h1 h2 h3 h4 h5 => e v j (by omega) (by omega)) (fun r hr => ?_) (hI.hold.to fun v j g => e v j (by omega) (by omega)) (hI.here.to fun v j g => e v j (by omega) (by omega))
  by_cases g : r = p
  · subst g
    refine ⟨b ||| 2 ^ q, (pb_or b hb q hq).2, by unfold xv_u; rw [if_neg (by omega), if_pos ⟨rfl, rfl⟩], by rw [xv_u_eq], fun B' hB' g' => ?_⟩
    rw [e 1 5 (by omega) (by omega), h5] at g'
    obtain rfl : B = B' := (nI_eq (by omega) (by omega)).mp g'
    exact sub_or q hq b hb B hB (hsub B hB h5) ht
  · obtain ⟨b', b1, b2, b3, b4⟩ := hI.2.2.2 r hr
    exact ⟨b', b1, (e 15 r (by omega) (by omega)).trans b2, (e 64 r (by omega) (by omega)).trans b3, b4.to (e 1 5 (by omega) (by omega))⟩
theorem Inv.holds {c : Nat × Nat} {I : xv_I} (hI : Inv c I) {p q b B : Nat} (hp : p < 10) (hq : q < 6) (hb : b < 64) (h16 : I 16 p = nI b) (h64 : I 64 (10 + p) = nI b) (hsub : sub I b) (hB : B < 64) (h5 : I 1 5 = nI B) (ht : B.testBit q = true) : Inv c (xv_u (xv_u I 16 p (nI (b ^^^ 2 ^ q))) 64 (10 + p) (nI (b ^^^ 2 ^ q))) := by
  have e : ∀ v j, (v ≠ 16 ∨ j ≠ p) → (v ≠ 64 ∨ j ≠ 10 + p) → xv_u (xv_u I 16 p (nI (b ^^^ 2 ^ q))) 64 (10 + p) (nI (b ^^^ 2 ^ q)) v j = I v j := fun v j h1 h2 => by
    unfold xv_u
    rw [if_neg (by omega), if_neg (by omega)]
  refine hI.people (fun v j h1 h2 h3 h4 h5 => e v j (by omega) (by omega)) (hI.2.2.2.to (e 1 5 (by omega) (by omega)) fun v j hj g => e v j (by omega) (by omega)) (fun r hr => ?_) (hI.here.to fun v j g => e v j (by omega) (by omega))
  by_cases g : r = p
  · subst g
    refine ⟨b ^^^ 2 ^ q, (pb_xor b hb q hq).2, by unfold xv_u; rw [if_neg (by omega), if_pos ⟨rfl, rfl⟩], by rw [xv_u_eq], fun B' hB' g' => ?_⟩
    rw [e 1 5 (by omega) (by omega), h5] at g'
    obtain rfl : B = B' := (nI_eq (by omega) (by omega)).mp g'
    exact sub_xor q hq b hb B hB (hsub B hB h5) ht
  · obtain ⟨b', b1, b2, b3, b4⟩ := hI.hold r hr
    exact ⟨b', b1, (e 16 r (by omega) (by omega)).trans b2, (e 64 _ (by omega) (by omega)).trans b3, b4.to (e 1 5 (by omega) (by omega))⟩
theorem xLeave_at (q : Nat) (I : xv_I) (v j : Nat) : xLeave q I v j = if v = 15 ∧ j < 10 then I 15 j &&& (nI (2 ^ q) ^^^ (-1)) else if v = 16 ∧ j < 10 then I 16 j &&& (nI (2 ^ q) ^^^ (-1)) else if v = 1 ∧ j = 5 then I 1 5 &&& (nI (2 ^ q) ^^^ (-1)) else I v j := by
  have key : ∀ (m k : Nat) (I : xv_I) (y : Int32), it (xLeave1 y) m k I v j = if v = 15 ∧ k ≤ j ∧ j < k + m then I 15 j &&& y else if v = 16 ∧ k ≤ j ∧ j < k + m then I 16 j &&& y else I v j := fun m => by
    induction m with
    | zero =>
      intro k I y
      rw [it, if_neg (by omega), if_neg (by omega)]
    | succ m ih =>
      intro k I y
      rw [it, ih]
      have e : ∀ u i, (u ≠ 15 ∨ i ≠ k) → (u ≠ 16 ∨ i ≠ k) → xLeave1 y k I u i = I u i := fun u i h1 h2 => by
        unfold xLeave1 xv_u
        rw [if_neg (by omega), if_neg (by omega)]
      have e15 : xLeave1 y k I 15 k = I 15 k &&& y := by
        unfold xLeave1
        rw [xv_u_ne _ _ _ (by decide), xv_u_eq]
      have e16 : xLeave1 y k I 16 k = I 16 k &&& y := by
        unfold xLeave1
        rw [xv_u_eq, xv_u_ne _ _ _ (by decide)]
      by_cases h1 : v = 15 ∧ k ≤ j ∧ j < k + (m + 1)
      · rw [if_pos h1]
        by_cases h2 : j = k
        · rw [if_neg (by omega), if_neg (by omega), h1.1, h2, e15]
        · rw [if_pos (by omega), e 15 j (by omega) (by omega)]
      · rw [if_neg h1, if_neg (by omega)]
        by_cases h3 : v = 16 ∧ k ≤ j ∧ j < k + (m + 1)
        · rw [if_pos h3]
          by_cases h2 : j = k
          · rw [if_neg (by omega), h3.1, h2, e16]
          · rw [if_pos (by omega), e 16 j (by omega) (by omega)]
        · rw [if_neg h3, if_neg (by omega), e v j (by omega) (by omega)]
  unfold xLeave
  rw [key]
  have e : ∀ u i, (u ≠ 1 ∨ i ≠ 5) → xv_u I 1 5 (I 1 5 &&& (nI (2 ^ q) ^^^ (-1))) u i = I u i := fun u i h => by
    unfold xv_u
    rw [if_neg (by omega)]
  by_cases h1 : v = 15 ∧ j < 10
  · rw [if_pos h1, if_pos (by omega), e 15 j (by omega)]
  · rw [if_neg h1, if_neg (by omega)]
    by_cases h2 : v = 16 ∧ j < 10
    · rw [if_pos h2, if_pos (by omega), e 16 j (by omega)]
    · rw [if_neg h2, if_neg (by omega)]
      by_cases h3 : v = 1 ∧ j = 5
      · rw [if_pos h3, h3.1, h3.2, xv_u_eq]
      · rw [if_neg h3, e v j (by omega)]
/-- the law's rows of people, when the away leave -/
def lGo1 (y : Int32) (k : Nat) (I : xv_I) : xv_I := xv_u I 64 k (I 64 k &&& y)
theorem lGo_at (y : Int32) (v j : Nat) : ∀ (m k : Nat) (I : xv_I), it (lGo1 y) m k I v j = if v = 64 ∧ k ≤ j ∧ j < k + m then I 64 j &&& y else I v j
  | 0, k, I => by rw [it, if_neg (by omega)]
  | m + 1, k, I => by
    rw [it, lGo_at y v j m (k + 1)]
    unfold lGo1 xv_u
    by_cases h : v = 64 ∧ k ≤ j ∧ j < k + (m + 1)
    · rw [if_pos h]
      by_cases h2 : j = k
      · rw [if_neg (by omega), if_pos ⟨h.1, h2⟩, h2]
      · rw [if_pos (by omega), if_neg (by omega)]
    · rw [if_neg h, if_neg (by omega), if_neg (by omega)]
theorem Inv.leave {c : Nat × Nat} {I : xv_I} (hI : Inv c I) {q B : Nat} (hq : q < 6) (hB : B < 64) (h5 : I 1 5 = nI B) (ht : B.testBit q = true) : Inv c (it (lGo1 (nI ((B ^^^ 2 ^ q) ^^^ 63) ^^^ (-1))) 20 0 (xv_u (xLeave q I) 69 5 (nI ((B ^^^ 2 ^ q) ^^^ 63)))) := by
  obtain ⟨o1, o2, o3, o4⟩ := out_1 q hq B hB ht
  generalize hK : it (lGo1 (nI ((B ^^^ 2 ^ q) ^^^ 63) ^^^ (-1))) 20 0 (xv_u (xLeave q I) 69 5 (nI ((B ^^^ 2 ^ q) ^^^ 63))) = K
  have e : ∀ v j, (v ≠ 1 ∨ j ≠ 5) → v ≠ 15 → v ≠ 16 → v ≠ 64 → (v ≠ 69 ∨ j ≠ 5) → K v j = I v j := fun v j h1 h2 h3 h4 h5 => by
    rw [← hK, lGo_at, if_neg (by omega)]
    unfold xv_u
    rw [if_neg (by omega), xLeave_at, if_neg (by omega), if_neg (by omega), if_neg (by omega)]
  have k64 : ∀ j, j < 20 → K 64 j = I 64 j &&& (nI ((B ^^^ 2 ^ q) ^^^ 63) ^^^ (-1)) := fun j hj => by
    rw [← hK, lGo_at, if_pos (by omega)]
    unfold xv_u
    rw [if_neg (by omega), xLeave_at, if_neg (by omega), if_neg (by omega), if_neg (by omega)]
  have k15 : ∀ j, j < 10 → K 15 j = I 15 j &&& (nI (2 ^ q) ^^^ (-1)) := fun j hj => by
    rw [← hK, lGo_at, if_neg (by omega)]
    unfold xv_u
    rw [if_neg (by omega), xLeave_at, if_pos ⟨rfl, hj⟩]
  have k16 : ∀ j, j < 10 → K 16 j = I 16 j &&& (nI (2 ^ q) ^^^ (-1)) := fun j hj => by
    rw [← hK, lGo_at, if_neg (by omega)]
    unfold xv_u
    rw [if_neg (by omega), xLeave_at, if_neg (by omega), if_pos ⟨rfl, hj⟩]
  have k5 : K 1 5 = nI (B ^^^ 2 ^ q) := by
    rw [← hK, lGo_at, if_neg (by omega)]
    unfold xv_u
    rw [if_neg (by omega), xLeave_at, if_neg (by omega), if_neg (by omega), if_pos ⟨rfl, rfl⟩, h5, o1]
  have hs : ∀ b, b < 64 → sub K (b &&& (B ^^^ 2 ^ q)) := fun b hb B' hB' g => by
    rw [k5] at g
    obtain rfl := (nI_eq (by omega) (by omega)).mp g
    rw [Nat.and_assoc, Nat.and_self]
  refine hI.people e (fun p hp => ?_) (fun p hp => ?_) ⟨B ^^^ 2 ^ q, o3, k5, by rw [← hK, lGo_at, if_neg (by omega), xv_u_eq]⟩
  · obtain ⟨b, b1, b2, b3, b4⟩ := hI.2.2.2 p hp
    exact ⟨b &&& (B ^^^ 2 ^ q), (and_3 b b1 _ o3).2, by rw [k15 p hp, b2, out_2 q hq B hB ht b b1 (b4 B hB h5)], by rw [k64 p (by omega), b3, (and_3 b b1 _ o3).1], hs b b1⟩
  · obtain ⟨b, b1, b2, b3, b4⟩ := hI.hold p hp
    exact ⟨b &&& (B ^^^ 2 ^ q), (and_3 b b1 _ o3).2, by rw [k16 p hp, b2, out_2 q hq B hB ht b b1 (b4 B hB h5)], by rw [k64 _ (by omega), b3, (and_3 b b1 _ o3).1], hs b b1⟩
theorem Inv.come {c : Nat × Nat} {I : xv_I} (hI : Inv c I) {q B : Nat} (hq : q < 6) (hB : B < 64) (h5 : I 1 5 = nI B) (ht : B.testBit q = false) : Inv c (it (lGo1 (nI ((B ^^^ 2 ^ q) ^^^ 63) ^^^ (-1))) 20 0 (xv_u (xv_u I 1 5 (nI (B ^^^ 2 ^ q))) 69 5 (nI ((B ^^^ 2 ^ q) ^^^ 63)))) := by
  obtain ⟨o1, o2, o3, o4⟩ := in_1 q hq B hB ht
  generalize hK : it (lGo1 (nI ((B ^^^ 2 ^ q) ^^^ 63) ^^^ (-1))) 20 0 (xv_u (xv_u I 1 5 (nI (B ^^^ 2 ^ q))) 69 5 (nI ((B ^^^ 2 ^ q) ^^^ 63))) = K
  have e : ∀ v j, (v ≠ 1 ∨ j ≠ 5) → v ≠ 64 → (v ≠ 69 ∨ j ≠ 5) → K v j = I v j := fun v j h1 h4 h5 => by
    rw [← hK, lGo_at, if_neg (by omega)]
    unfold xv_u
    rw [if_neg (by omega), if_neg (by omega)]
  have k64 : ∀ j, j < 20 → K 64 j = I 64 j &&& (nI ((B ^^^ 2 ^ q) ^^^ 63) ^^^ (-1)) := fun j hj => by
    rw [← hK, lGo_at, if_pos (by omega)]
    unfold xv_u
    rw [if_neg (by omega), if_neg (by omega)]
  have k5 : K 1 5 = nI (B ^^^ 2 ^ q) := by
    rw [← hK, lGo_at, if_neg (by omega)]
    unfold xv_u
    rw [if_neg (by omega), if_pos ⟨rfl, rfl⟩]
  have hs : ∀ b, b < 64 → sub I b → sub K b := fun b hb hsb B' hB' g => by
    rw [k5] at g
    obtain rfl := (nI_eq (by omega) (by omega)).mp g
    exact in_2 q hq B hB ht b hb (hsb B hB h5)
  refine hI.people (fun v j h1 h2 h3 h4 h5 => e v j h1 h4 h5) (fun p hp => ?_) (fun p hp => ?_) ⟨B ^^^ 2 ^ q, o3, k5, by rw [← hK, lGo_at, if_neg (by omega), xv_u_eq]⟩
  · obtain ⟨b, b1, b2, b3, b4⟩ := hI.2.2.2 p hp
    exact ⟨b, b1, (e 15 p (by omega) (by omega) (by omega)).trans b2, by rw [k64 p (by omega), b3, (and_3 b b1 _ o3).1, in_2 q hq B hB ht b b1 (b4 B hB h5)], hs b b1 b4⟩
  · obtain ⟨b, b1, b2, b3, b4⟩ := hI.hold p hp
    exact ⟨b, b1, (e 16 p (by omega) (by omega) (by omega)).trans b2, by rw [k64 _ (by omega), b3, (and_3 b b1 _ o3).1, in_2 q hq B hB ht b b1 (b4 B hB h5)], hs b b1 b4⟩
