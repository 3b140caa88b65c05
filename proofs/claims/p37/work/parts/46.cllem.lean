theorem nI_inj2 {a b : Nat} (h : nI a = nI b) (ha : a < 2 ^ 31) (hb : b < 2 ^ 31) : a = b := (nI_eq ha hb).mp h
theorem xKp2_at (e p v j : Nat) (hp : p < 10) : ∀ (m k : Nat) (I : xv_I), it (xKp1 e p) m k I v j = if v = 31 + e ∧ 12 * p + k ≤ j ∧ j < 12 * p + k + m then I (3 + p) (j - 12 * p) else I v j
  | 0, k, I => by rw [it, if_neg (by omega)]
  | m + 1, k, I => by
    rw [it, xKp2_at e p v j hp m (k + 1)]
    unfold xKp1 xv_u
    rw [if_neg (show ¬ (3 + p = 31 + e ∧ j - 12 * p = 12 * p + k) by omega)]
    by_cases h : v = 31 + e ∧ 12 * p + k ≤ j ∧ j < 12 * p + k + (m + 1)
    · rw [if_pos h]
      by_cases h2 : j = 12 * p + k
      · rw [if_neg (by omega), if_pos ⟨h.1, h2⟩, h2, Nat.add_sub_cancel_left]
      · rw [if_pos (by omega)]
    · rw [if_neg h, if_neg (by omega), if_neg (by omega)]
theorem xKp_at1 (e v j : Nat) : ∀ (m p : Nat) (I : xv_I), p + m ≤ 10 → it (xKp2 e) m p I v j = if v = 31 + e ∧ 12 * p ≤ j ∧ j < 12 * (p + m) then I (3 + j / 12) (j % 12) else I v j
  | 0, p, I, _ => by rw [it, if_neg (by omega)]
  | m + 1, p, I, hp => by
    have e1 : ∀ v j, xKp2 e p I v j = if v = 31 + e ∧ 12 * p ≤ j ∧ j < 12 * p + 12 then I (3 + p) (j - 12 * p) else I v j := fun v j => by
      unfold xKp2
      rw [xKp2_at e p v j (by omega) 12 0]
      rfl
    rw [it, xKp_at1 e v j m (p + 1) _ (by omega), e1, e1]
    by_cases h : v = 31 + e ∧ 12 * p ≤ j ∧ j < 12 * (p + (m + 1))
    · rw [if_pos h]
      by_cases h2 : j < 12 * p + 12
      · rw [if_neg (by omega), if_pos (by omega), show j / 12 = p by omega, show j % 12 = j - 12 * p by omega]
      · rw [if_pos (by omega), if_neg (by omega)]
    · rw [if_neg h, if_neg (by omega), if_neg (by omega)]
theorem xKp_at (e : Nat) (I : xv_I) (v j : Nat) : xKp e I v j = if v = 31 + e ∧ j < 120 then I (3 + j / 12) (j % 12) else I v j := by
  unfold xKp
  rw [xKp_at1 e v j 10 0 I (by omega)]
  by_cases h : v = 31 + e ∧ j < 120
  · rw [if_pos h, if_pos (by omega)]
  · rw [if_neg h, if_neg (by omega)]
theorem cl_at (w : Nat) (x : Int32) (I : xv_I) (v j : Nat) : xv_u (xKept w x I) 1 6 (nI 0) v j = if v = 1 ∧ j = 6 then nI 0 else if v = 29 ∧ j = 2 then nI (w + 1) else if v = 39 ∧ j = w then x else if v = 31 + w ∧ j < 120 then I (3 + j / 12) (j % 12) else I v j := by
  unfold xKept xv_u
  rw [xKp_at]
theorem xDrop1_at (v j : Nat) : ∀ (m k : Nat) (I : xv_I), 1 ≤ k → it xDrop1 m k I v j = if v = 40 ∧ k - 1 ≤ j ∧ j < k - 1 + m then I 40 (j + 1) else I v j
  | 0, k, I, _ => by rw [it, if_neg (by omega)]
  | m + 1, k, I, hk => by
    have e : ∀ w q, xDrop1 k I w q = if w = 40 ∧ q = k - 1 then I 40 k else I w q := fun w q => rfl
    rw [it, xDrop1_at v j m (k + 1) _ (by omega), e, e]
    by_cases h : v = 40 ∧ k - 1 ≤ j ∧ j < k - 1 + (m + 1)
    · rw [if_pos h]
      by_cases h2 : j = k - 1
      · rw [if_neg (by omega), if_pos ⟨h.1, h2⟩, h2, show k - 1 + 1 = k by omega]
      · rw [if_pos (by omega), if_neg (by omega)]
    · rw [if_neg h, if_neg (by omega), if_neg (by omega)]
theorem xDrop_at {w : Nat} (hw : 0 < w) (I : xv_I) (v j : Nat) : xDrop w I v j = if v = 29 ∧ j = 4 then nI (w - 1) else if v = 40 ∧ j < w - 1 then I 40 (j + 1) else I v j := by
  unfold xDrop
  show (if v = 29 ∧ j = 4 then nI (w - 1) else it xDrop1 (w - 1) 1 I v j) = _
  rw [xDrop1_at v j _ _ _ (Nat.le_refl _)]
  by_cases h : v = 40 ∧ j < w - 1
  · rw [if_pos h, if_pos (show v = 40 ∧ 1 - 1 ≤ j ∧ j < 1 - 1 + (w - 1) by omega)]
  · rw [if_neg h, if_neg (show ¬ (v = 40 ∧ 1 - 1 ≤ j ∧ j < 1 - 1 + (w - 1)) by omega)]
theorem xLow_spec {I : xv_I} {p f : Nat} (h : xLow I p = nI f) (hf : f < 12) : I (3 + p) f = 0 ∧ ∀ j, j < f → ¬ I (3 + p) j = 0 := by
  unfold xLow at h
  rcases fsP_cases (fun k => I (3 + p) k = 0) 12 with ⟨h1, -⟩ | ⟨k, h1, h2, h3, h4⟩
  · rw [h1] at h
    exact absurd h.symm (nI_nm1 (by omega))
  · rw [h4] at h
    obtain rfl := nI_inj2 h (by omega) (by omega)
    exact ⟨h2, h3⟩
theorem xLow_ex {I : xv_I} {p f : Nat} (h : I (3 + p) f = 0) (hf : f < 12) : ¬ xLow I p = -1 := by
  unfold xLow
  rcases fsP_cases (fun k => I (3 + p) k = 0) 12 with ⟨-, h2⟩ | ⟨k, h1, -, -, h4⟩
  · exact absurd h (h2 f hf)
  · rw [h4]
    exact nI_nm1 (by omega)
theorem it_add {α : Type} (f : Nat → α → α) : ∀ (m r k : Nat) (s : α), it f (m + r) k s = it f r (k + m) (it f m k s)
  | 0, r, k, s => by rw [Nat.zero_add]; rfl
  | m + 1, r, k, s => by
    rw [show m + 1 + r = (m + r) + 1 by omega, it, it, it_add f m r (k + 1), show k + 1 + m = k + (m + 1) by omega]
theorem it_last {α : Type} (f : Nat → α → α) (m k : Nat) (s : α) : it f (m + 1) k s = f (k + m) (it f m k s) := by
  rw [it_add f m 1 k s]
  rfl
/-- how many -/
noncomputable def cn (P : Nat → Prop) : Nat → Nat
  | 0 => 0
  | n + 1 => cn P n + iteP (P n) 1 0
theorem xCl_ok {I : xv_I} {p : Nat} (hp : p < 10) : ∀ m, m ≤ 12 → (it (xCl1 p) m 0 (0, I)).1 = cn (fun k => ¬ I (3 + p) k < nI 300) m ∧ cC I (it (xCl1 p) m 0 (0, I)).2 (fun q j => q = p ∧ j < m ∧ ¬ I (3 + p) j < nI 300) (nI 0)
  | 0, _ => ⟨rfl, (cC.nil I _).cg fun q _ j _ => ⟨False.elim, fun r => absurd r.2.1 (Nat.not_lt_zero _)⟩⟩
  | m + 1, hm => by
    obtain ⟨h1, h2⟩ := xCl_ok hp m (by omega)
    rw [it_last, Nat.zero_add]
    obtain e : (it (xCl1 p) m 0 (0, I)).2 (3 + p) m = I (3 + p) m := (h2.1 p hp m (by omega)).2 fun r => Nat.lt_irrefl _ r.2.1
    rw [show ∀ s, xCl1 p m s = (if s.2 (3 + p) m < nI 300 then s else (s.1 + 1, xPut s.2 p m (nI 0))) from fun _ => rfl, e, cn]
    by_cases g : I (3 + p) m < nI 300
    · rw [if_pos g, iteP_f (fun r => r g)]
      refine ⟨h1, h2.cg fun q _ j _ => ⟨fun r => ⟨r.1, by omega, r.2.2⟩, fun r => ⟨r.1, ?_, r.2.2⟩⟩⟩
      rcases Nat.lt_or_ge j m with s | s
      · exact s
      · obtain rfl : j = m := by omega
        exact absurd g r.2.2
    · rw [if_neg g, iteP_t g]
      refine ⟨congrArg (· + 1) h1, (h2.put hp (by omega)).cg fun q _ j _ => ⟨fun r => ?_, fun r => ?_⟩⟩
      · rcases r with r | r
        · exact ⟨r.1, by omega, r.2.2⟩
        · exact ⟨r.1, by omega, by rw [r.2]; exact g⟩
      · rcases Nat.lt_or_ge j m with s | s
        · exact Or.inl ⟨r.1, s, r.2.2⟩
        · exact Or.inr ⟨r.1, by omega⟩
theorem xCl_12 {I : xv_I} {p : Nat} (hp : p < 10) : (xCl p I).1 = cn (fun k => ¬ I (3 + p) k < nI 300) 12 ∧ cC I (xCl p I).2 (fun q j => q = p ∧ j < 12 ∧ ¬ I (3 + p) j < nI 300) (nI 0) := by
  unfold xCl
  exact xCl_ok hp 12 (Nat.le_refl _)
theorem Inv.closed {c : Nat × Nat} {I K : xv_I} (hI : Inv c I) {e : Nat} (he : e < 8) (h16 : K 1 6 = nI 0) (h29 : K 29 2 = nI (e + 1)) (h693 : K 69 3 = nI (e + 1)) (h692 : K 69 2 = nI 0) (eq : ∀ v j, (v ≠ 1 ∨ j ≠ 6) → (v ≠ 29 ∨ j ≠ 2) → v ≠ 39 → v ≠ 31 + e → (v ≠ 69 ∨ (j ≠ 2 ∧ j ≠ 3)) → K v j = I v j) : Inv c K := by
  have ec : ∀ p, p < 10 → ∀ k, K (3 + p) k = I (3 + p) k := fun p hp k => eq _ _ (by omega) (by omega) (by omega) (by omega) (by omega)
  refine ⟨⟨hI.page.to fun v j g => ?_, hI.ok.to fun v j g => ?_, hI.hold.to fun v j g => ?_, hI.here.to fun v j g => ?_, hI.dist.to fun v j g => ?_, hI.ad.to (fun v j g => ?_) fun a _ p hp k hk => by rw [ec p hp k], hI.st.to (fun v j g => ?_) fun a _ p hp k hk => by rw [ec p hp k], ⟨e + 1, he, h29, h693⟩, hI.owe.to fun v j g => ?_⟩, hI.2.1.to fun v j g => ?_, ⟨0, by decide, h16, h692⟩, hI.2.2.2.to ?_ fun v j hj g => ?_⟩
  all_goals exact eq _ _ (by omega) (by omega) (by omega) (by omega) (by omega)
theorem Inv.corr {c : Nat × Nat} {I : xv_I} (hI : Inv c I) {w a : Nat} (hw : w < 5) (ha : a < c.2) (h29 : I 29 4 = nI w) : Inv c (xv_u (xv_u (xv_u (xv_u I 40 w (nI a)) 29 4 (nI (w + 1))) 68 w (nI a)) 69 4 (nI (w + 1))) := by
  have eq : ∀ v j, (v ≠ 40 ∨ j ≠ w) → (v ≠ 29 ∨ j ≠ 4) → (v ≠ 68 ∨ j ≠ w) → (v ≠ 69 ∨ j ≠ 4) → xv_u (xv_u (xv_u (xv_u I 40 w (nI a)) 29 4 (nI (w + 1))) 68 w (nI a)) 69 4 (nI (w + 1)) v j = I v j := fun v j h1 h2 h3 h4 => by
    unfold xv_u
    rw [if_neg (by omega), if_neg (by omega), if_neg (by omega), if_neg (by omega)]
  have e40 : xv_u (xv_u (xv_u (xv_u I 40 w (nI a)) 29 4 (nI (w + 1))) 68 w (nI a)) 69 4 (nI (w + 1)) 40 w = nI a := by
    unfold xv_u
    rw [if_neg (by omega), if_neg (by omega), if_neg (by omega), if_pos ⟨rfl, rfl⟩]
  have e29 : xv_u (xv_u (xv_u (xv_u I 40 w (nI a)) 29 4 (nI (w + 1))) 68 w (nI a)) 69 4 (nI (w + 1)) 29 4 = nI (w + 1) := by
    unfold xv_u
    rw [if_neg (by omega), if_neg (by omega), if_pos ⟨rfl, rfl⟩]
  have e68 : xv_u (xv_u (xv_u (xv_u I 40 w (nI a)) 29 4 (nI (w + 1))) 68 w (nI a)) 69 4 (nI (w + 1)) 68 w = nI a := by
    unfold xv_u
    rw [if_neg (by omega), if_pos ⟨rfl, rfl⟩]
  have e69 : xv_u (xv_u (xv_u (xv_u I 40 w (nI a)) 29 4 (nI (w + 1))) 68 w (nI a)) 69 4 (nI (w + 1)) 69 4 = nI (w + 1) := xv_u_eq _ _ _ _
  generalize xv_u (xv_u (xv_u (xv_u I 40 w (nI a)) 29 4 (nI (w + 1))) 68 w (nI a)) 69 4 (nI (w + 1)) = K at *
  have ec : ∀ p, p < 10 → ∀ k, K (3 + p) k = I (3 + p) k := fun p hp k => eq _ _ (by omega) (by omega) (by omega) (by omega)
  have ho : gOwe c K := by
    obtain ⟨w', h1, h2, h3, h4⟩ := hI.owe
    obtain rfl : w' = w := nI_inj2 (h2.symm.trans h29) (by omega) (by omega)
    refine ⟨w' + 1, hw, e29, e69, fun j hj => ?_⟩
    by_cases g : j = w'
    · subst g
      exact ⟨e40.trans e68.symm, a, ha, e40⟩
    · rw [eq 40 j (by omega) (by omega) (by omega) (by omega), eq 68 j (by omega) (by omega) (by omega) (by omega)]
      exact h4 j (by omega)
  refine ⟨⟨hI.page.to fun v j g => ?_, hI.ok.to fun v j g => ?_, hI.hold.to fun v j g => ?_, hI.here.to fun v j g => ?_, hI.dist.to fun v j g => ?_, hI.ad.to (fun v j g => ?_) fun a _ p hp k hk => by rw [ec p hp k], hI.st.to (fun v j g => ?_) fun a _ p hp k hk => by rw [ec p hp k], hI.ed.to fun v j g => ?_, ho⟩, hI.2.1.to fun v j g => ?_, hI.2.2.1.to fun v j g => ?_, hI.2.2.2.to ?_ fun v j hj g => ?_⟩
  all_goals exact eq _ _ (by omega) (by omega) (by omega) (by omega)
/-- corrections come or go -/
theorem Mid.cr {c : Nat × Nat} {I P K : xv_I} {S : Nat → Nat → Prop} {x : Nat} (hI : Inv c I) (h : cC I P S (nI x)) (hne : ∀ p, p < 10 → ∀ k, k < 12 → S p k → ¬ I (3 + p) k = nI x) (hox : okCell c x) (hx : x = 0 ∨ (300 ≤ x ∧ x < 1000)) (h7 : x < 200 ∨ ∀ p, p < 10 → ∀ k, k < 12 → S p k → p < 7) (e1 : ∀ v j, v ≠ 40 → v ≠ 68 → (v ≠ 29 ∨ j ≠ 4) → (v ≠ 69 ∨ j ≠ 4) → K v j = P v j) (hS : ∀ p, p < 10 → ∀ k, k < 12 → S p k → ∃ y, (y = 0 ∨ 300 ≤ y) ∧ y < 1000 ∧ I (3 + p) k = nI y) (ho : gOwe c K) : Mid c K := by
  have h20 := hI.ad.2.2.1
  have h22 := hI.st.2.2.1
  obtain ⟨m1, m2⟩ := h.mid hI hne
  have e : ∀ v j, (v < 3 ∨ 13 ≤ v) → v ≠ 15 → (v ≠ 1 ∨ j ≠ 6) → v ≠ 40 → v ≠ 68 → (v ≠ 29 ∨ j ≠ 4) → (v ≠ 69 ∨ j ≠ 4) → K v j = I v j := fun v j a1 a2 a3 a4 a5 a6 a7 => (e1 v j a4 a5 a6 a7).trans (h.2.2.2 v j a1 a2 a3)
  have ec : ∀ y, y < 300 → 0 < y → ∀ p, p < 10 → ∀ k, k < 12 → (K (3 + p) k = nI y ↔ I (3 + p) k = nI y) := fun y hy hy0 p hp k hk => by
    rw [e1 (3 + p) k (by omega) (by omega) (by omega) (by omega)]
    refine h.mark (fun q => ?_) (fun p hp k hk hs q => ?_) p hp k hk
    · have := nI_inj2 q (by omega) (by omega)
      omega
    · obtain ⟨z, z1, z2, z3⟩ := hS p hp k hk hs
      have := nI_inj2 (q.symm.trans z3) (by omega) (by omega)
      omega
  refine ⟨⟨hI.page.to fun v j g => ?_, (h.ok (c' := c) hI.ok hox h7).to fun v j g => e1 v j (by omega) (by omega) (by omega) (by omega), hI.hold.to fun v j g => ?_, hI.here.to fun v j g => ?_, hI.dist.to fun v j g => ?_, hI.ad.to (fun v j g => ?_) (fun s hs => ec _ (by omega) (by omega)), hI.st.to (fun v j g => ?_) (fun s hs => ec _ (by omega) (by omega)), hI.ed.to fun v j g => ?_, ho⟩, m1.to (fun v j g => e1 v j (by omega) (by omega) (by omega) (by omega)) (e1 _ _ (by omega) (by omega) (by omega) (by omega)) (fun v j hj g => e1 v j (by omega) (by omega) (by omega) (by omega)), m2.to (fun v j g => e1 v j (by omega) (by omega) (by omega) (by omega)) (fun v j g => e1 v j (by omega) (by omega) (by omega) (by omega))⟩
  all_goals exact e _ _ (by omega) (by omega) (by omega) (by omega) (by omega) (by omega) (by omega)
/-- the law's row of what is owed, moved up -/
def lSh1 (k : Nat) (I : xv_I) : xv_I := xv_u I 68 k (I 68 (k + 1))
theorem lSh_at (v j : Nat) : ∀ (m k : Nat) (I : xv_I), it lSh1 m k I v j = if v = 68 ∧ k ≤ j ∧ j < k + m then I 68 (j + 1) else I v j
  | 0, k, I => by rw [it, if_neg (by omega)]
  | m + 1, k, I => by
    rw [it, lSh_at v j m (k + 1)]
    unfold lSh1 xv_u
    by_cases h : v = 68 ∧ k ≤ j ∧ j < k + (m + 1)
    · rw [if_pos h]
      by_cases h2 : j = k
      · rw [if_neg (by omega), if_pos ⟨h.1, h2⟩, h2]
      · rw [if_pos (by omega), if_neg (by omega)]
    · rw [if_neg h, if_neg (by omega), if_neg (by omega)]
theorem Mid.plc {c : Nat × Nat} {I : xv_I} (hI : Inv c I) {w a p f : Nat} (hw0 : 0 < w) (hw : w ≤ 5) (ha : a < c.2) (h29 : I 29 4 = nI w) (hp : p < 7) (hf : f < 12) (hz : I (3 + p) f = 0) : Mid c (it lSh1 (w - 1) 0 (xv_u (xDrop w (xPut I p f (nI (300 + a)))) 69 4 (nI (w - 1)))) := by
  have h22 := hI.st.2.2.1
  have h := (cC.nil I (nI (300 + a))).put (by omega : p < 10) hf
  have e1 : ∀ v j, v ≠ 40 → v ≠ 68 → (v ≠ 29 ∨ j ≠ 4) → (v ≠ 69 ∨ j ≠ 4) → it lSh1 (w - 1) 0 (xv_u (xDrop w (xPut I p f (nI (300 + a)))) 69 4 (nI (w - 1))) v j = xPut I p f (nI (300 + a)) v j := fun v j a1 a2 a3 a4 => by
    rw [lSh_at, if_neg (by omega), show xv_u (xDrop w (xPut I p f (nI (300 + a)))) 69 4 (nI (w - 1)) v j = xDrop w (xPut I p f (nI (300 + a))) v j from if_neg (by omega), xDrop_at hw0, if_neg (by omega), if_neg (by omega)]
  have hy : ¬ nI 0 = nI (300 + a) := fun q => by
    have := nI_inj2 q (by omega) (by omega)
    omega
  have eP : ∀ v j, 15 < v → xPut I p f (nI (300 + a)) v j = I v j := fun v j g => xPut_o I (by omega) j g
  refine Mid.cr hI h (fun q hq k hk s r => ?_) (by unfold okCell; omega) (Or.inr (by omega)) (Or.inr fun q hq k hk s => ?_) e1 (fun q hq k hk s => ⟨0, Or.inl rfl, by decide, ?_⟩) ?_
  · obtain ⟨rfl, rfl⟩ := s.resolve_left id
    exact hy (hz.symm.trans r)
  · obtain ⟨rfl, rfl⟩ := s.resolve_left id
    exact hp
  · obtain ⟨rfl, rfl⟩ := s.resolve_left id
    exact hz
  · obtain ⟨w', h1, h2, h3, h4⟩ := hI.owe
    obtain rfl : w' = w := nI_inj2 (h2.symm.trans h29) (by omega) (by omega)
    refine ⟨w' - 1, by omega, ?_, ?_, fun j hj => ?_⟩
    · rw [lSh_at, if_neg (by omega), xv_u_ne _ _ _ (by decide), xDrop_at hw0, if_pos ⟨rfl, rfl⟩]
    · rw [lSh_at, if_neg (by omega), xv_u_eq]
    · rw [lSh_at, if_neg (by omega), xv_u_ne _ _ _ (by decide), xDrop_at hw0, if_neg (by omega), if_pos ⟨rfl, hj⟩, lSh_at, if_pos (by omega), xv_u_ne _ _ _ (by decide), xDrop_at hw0, if_neg (by omega), if_neg (by omega), eP _ _ (by omega), eP _ _ (by omega)]
      exact h4 (j + 1) (by omega)
theorem Mid.clean {c : Nat × Nat} {I : xv_I} (hI : Inv c I) {p : Nat} (hp : p < 10) : Mid c (xCl p I).2 := by
  have h := (xCl_12 (I := I) hp).2
  have h20 := hI.ad.2.2.1
  have h22 := hI.st.2.2.1
  have hv : ∀ q, q < 10 → ∀ k, k < 12 → ¬ I (3 + q) k < nI 300 → ∃ y, 300 ≤ y ∧ y < 1000 ∧ I (3 + q) k = nI y := fun q hq k hk g => by
    obtain ⟨v, v1, v2, v3⟩ := hI.ok q hq k hk
    have hv := gOk.lt v1 h20 h22
    rw [v3] at g
    exact ⟨v, lt_of (by omega) (by decide) g, by omega, v3⟩
  refine Mid.cr hI h (fun q hq k hk s r => ?_) (Or.inl rfl) (Or.inl rfl) (Or.inl (by decide)) (fun v j _ _ _ _ => rfl) (fun q hq k hk s => ?_) (hI.owe.to fun v j g => h.2.2.2 v j (by omega) (by omega) (by omega))
  · obtain ⟨rfl, s2, s3⟩ := s
    obtain ⟨y, y1, y2, y3⟩ := hv _ hq k hk s3
    have := nI_inj2 (y3.symm.trans r) (by omega) (by omega)
    omega
  · obtain ⟨rfl, s2, s3⟩ := s
    obtain ⟨y, y1, y2, y3⟩ := hv _ hq k hk s3
    exact ⟨y, Or.inr y1, y2, y3⟩
