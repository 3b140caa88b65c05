theorem xParL_s {m k d : Nat} (hd : 0 < d) (hd2 : d < 2 ^ 31) : xParL (m + 1) k (nI d) = if d % 10 = 0 then nI 0 else xParL m (k + 1) (nI (d / 10)) := by
  rw [xParL, if_neg (nI_n0 hd hd2), if_neg (nI_pos hd2), nI_rem hd2 (by decide), nI_div hd2 (by decide)]
  by_cases h : d % 10 = 0
  · rw [h, if_pos (show nI 0 = 0 from rfl), if_pos rfl]
  · rw [if_neg (nI_n0 (by omega) (by omega)), if_neg h]
theorem xParL_z {m k : Nat} : xParL (m + 1) k (nI 0) = nI k := by rw [xParL, if_pos (show nI 0 = 0 from rfl)]
theorem xD10_n : ∀ (m d : Nat), d < 2 ^ 31 → xD10 m (nI d) = nI (d / 10 ^ m)
  | 0, d, _ => by rw [xD10, Nat.pow_zero, Nat.div_one]
  | m + 1, d, h => by
    rw [xD10, nI_div h (by decide), xD10_n m _ (by omega), Nat.div_div_eq_div_mul, Nat.pow_succ, Nat.mul_comm 10]
def sLow : Nat → Nat → Nat
  | 0, _ => 0
  | m + 1, r => r % 10 + sLow m (r / 10)
theorem xDS_n : ∀ (m r s : Nat), r < 2 ^ 31 → xDS m (nI r) (nI s) = nI (s + sLow m r)
  | 0, _, _, _ => rfl
  | m + 1, r, s, h => by
    rw [xDS, nI_rem h (by decide), nI_add, nI_div h (by decide), xDS_n m (r / 10) _ (by omega), sLow, Nat.add_assoc]
theorem sLow_pre (d np : Nat) : ∀ m e, e + m = np → sLow m (d / 10 ^ e) = pre d np m
  | 0, _, _ => rfl
  | m + 1, e, h => by
    rw [sLow, pre, Nat.div_div_eq_div_mul, ← Nat.pow_succ, sLow_pre d np m (e + 1) (by omega), dg, show np - 1 - m = e by omega, Nat.add_comm]
theorem xLines_n {d np k : Nat} (hd : d < 2 ^ 31) (hk : k ≤ np) : xLines (nI d) np k = nI (pre d np k) := by
  have h2 := Nat.div_le_self d (10 ^ (np - k))
  rw [xLines, xD10_n _ _ hd, xDS_n _ _ 0 (by omega), Nat.zero_add, sLow_pre d np k (np - k) (by omega)]
theorem pre_lt {d np : Nat} (h : ∀ q, q < np → 0 < dg d np q) {f : Nat} : ∀ t, f < t → t ≤ np → pre d np f < pre d np t
  | 0, h1, _ => absurd h1 (Nat.not_lt_zero _)
  | t + 1, h1, h2 => by
    have h3 := h t (by omega)
    rw [pre]
    rcases Nat.lt_or_ge f t with g | g
    · have := pre_lt h t g (by omega)
      omega
    · obtain rfl : f = t := by omega
      omega
theorem czf_ok {d np f t : Nat} (h : ∀ q, q < np → 0 < dg d np q) (hft : f < t) (ht : t ≤ np) (hn : np ≤ 6) : 0 < czf d np f t ∧ czf d np f t ≤ 100 := by
  have h1 := pre_lt h t hft ht
  have h2 := pre_le d np t
  unfold czf
  omega
theorem xCells_n {d np f t : Nat} (hd : d < 2 ^ 31) (h : ∀ q, q < np → 0 < dg d np q) (hft : f < t) (ht : t ≤ np) (hn : np ≤ 6) : xCells (nI d) np f t = nI (czf d np f t) := by
  have h1 := pre_lt h t hft ht
  have h2 := pre_le d np t
  unfold xCells czf
  rw [xLines_n hd ht, xLines_n hd (by omega), nI_sub (by omega), nI_add, nI_sub (by omega), nI_div (by omega) (by decide)]
  congr 2
theorem xRun_cg {ok ok' : Nat → Prop} {s : Nat} : ∀ (m k run : Nat), (∀ j, k ≤ j → j < k + m → (ok j ↔ ok' j)) → xRun ok s m k run = xRun ok' s m k run
  | 0, _, _, _ => rfl
  | m + 1, k, run, h => by
    by_cases g : ok k
    · rw [xRun_y g, xRun_y ((h k (Nat.le_refl _) (by omega)).mp g), xRun_cg m (k + 1) _ fun j h1 h2 => h j (by omega) (by omega)]
    · rw [xRun_n g, xRun_n (fun q => g ((h k (Nat.le_refl _) (by omega)).mpr q)), xRun_cg m (k + 1) _ fun j h1 h2 => h j (by omega) (by omega)]
theorem xRun_sp {ok : Nat → Prop} {s : Nat} (hs : 0 < s) : ∀ (m k run : Nat), run ≤ k → (∀ j, k - run ≤ j → j < k → ok j) → xRun ok s m k run = -1 ∨ ∃ r, r + s ≤ k + m ∧ xRun ok s m k run = nI r ∧ ∀ j, r ≤ j → j < r + s → ok j
  | 0, _, _, _, _ => Or.inl rfl
  | m + 1, k, run, hr, h => by
    by_cases g : ok k
    · rw [xRun_y g]
      have h' : ∀ j, k + 1 - (run + 1) ≤ j → j < k + 1 → ok j := fun j h1 h2 => by
        rcases Nat.lt_or_ge j k with q | q
        · exact h j (by omega) q
        · obtain rfl : j = k := by omega
          exact g
      by_cases q : s ≤ run + 1
      · rw [if_pos q]
        exact Or.inr ⟨k + 1 - s, by omega, rfl, fun j h1 h2 => h' j (by omega) (by omega)⟩
      · rw [if_neg q]
        rcases xRun_sp hs m (k + 1) (run + 1) (by omega) h' with r | ⟨r, r1, r2, r3⟩
        · exact Or.inl r
        · exact Or.inr ⟨r, by omega, r2, r3⟩
    · rw [xRun_n g, if_neg (by omega)]
      rcases xRun_sp hs m (k + 1) 0 (by omega) (fun j h1 h2 => absurd h2 (by omega)) with r | ⟨r, r1, r2, r3⟩
      · exact Or.inl r
      · exact Or.inr ⟨r, by omega, r2, r3⟩
theorem xCopy_0 (C : xv_I) : xCopy 21 25 C 21 0 = C 25 0 := by
  simp [xCopy, it, xCopy1, xSetPart, xv_u]
theorem xKeep_fr (C : xv_I) {v j : Nat} (h : v < 20 ∨ 25 ≤ v ∨ (v = 20 ∧ j ≠ 5)) : xKeep C v j = C v j := by
  unfold xKeep
  by_cases g : C 21 0 = 0 ∨ xCost C < C 20 5
  · rw [iteP_t g, show xv_u (xCopy 21 25 C) 20 5 (xCost C) v j = xCopy 21 25 C v j from if_neg (by omega), xCopy_o _ _ (by omega)]
  · rw [iteP_f g]
/-! THE SEARCH: what it finds is a way, and no way of more paragraphs is there -/
abbrev cEnv (C0 C : xv_I) (gm : Int32) : Prop := (∀ v j, (v < 20 ∨ 28 < v) → C v j = C0 v j) ∧ C 20 3 = gm
noncomputable def runC (C0 : xv_I) (gm : Int32) (p z : Nat) : Int32 := xRun (xOpen C0 p gm) z 12 0 0
theorem run_c {C0 C : xv_I} {gm : Int32} (hC : cEnv C0 C gm) {p : Nat} (hp : p < 7) (z : Nat) : xRun (xOpen C p (C 20 3)) z 12 0 0 = runC C0 gm p z := by
  refine xRun_cg 12 0 0 fun j _ _ => ?_
  unfold xOpen
  rw [hC.1 (3 + p) _ (by omega), hC.2]
theorem runC_ok {C0 : xv_I} {gm : Int32} {p z : Nat} (hz : 0 < z) (h : ¬ runC C0 gm p z = -1) : ∃ f, runC C0 gm p z = nI f ∧ f + z ≤ 12 ∧ ∀ j, f ≤ j → j < f + z → xOpen C0 p gm j := by
  rcases xRun_sp (ok := xOpen C0 p gm) hz 12 0 0 (Nat.le_refl _) (fun j h1 h2 => absurd h2 (Nat.not_lt_zero _)) with q | ⟨r, r1, r2, r3⟩
  · exact absurd q h
  · exact ⟨r, r2, by omega, r3⟩
def wayC (C0 : xv_I) (gm sc : Int32) (cz : Nat → Nat → Nat) (k : Nat) (pg st sz : Nat → Nat) : Prop := 0 < sz 0 ∧ (∀ i, i < 2 → sz i ≤ 12 ∧ (0 < sz i → pg i < 7 ∧ st i + sz i ≤ 12 ∧ runC C0 gm (pg i) (sz i) = nI (st i))) ∧ C0 13 (pg 0) = sc ∧ ((sz 1 = 0 ∧ sz 0 = cz 0 k) ∨ (0 < sz 1 ∧ pg 0 < pg 1 ∧ C0 13 (pg 1) = nI 0 ∧ ∃ h, 1 ≤ h ∧ h < k ∧ sz 0 = cz 0 h ∧ sz 1 = cz h k))
def bestC (C0 C : xv_I) (gm sc : Int32) (cz : Nat → Nat → Nat) (k : Nat) : Prop := C 21 0 = nI k ∧ ∃ pg st sz, wayC C0 gm sc cz k pg st sz ∧ ∀ i, i < 2 → C 24 i = nI (sz i) ∧ (0 < sz i → C 22 i = nI (pg i) ∧ C 23 i = nI (st i))
def stK (C0 C : xv_I) (gm sc : Int32) (cz : Nat → Nat → Nat) (k : Nat) : Prop := cEnv C0 C gm ∧ C 25 0 = nI k ∧ (C 21 0 = 0 ∨ bestC C0 C gm sc cz k)
theorem keep_st {C0 C : xv_I} {gm sc : Int32} {cz : Nat → Nat → Nat} {k : Nat} (hk : 1 ≤ k) (hk6 : k ≤ 6) (h : stK C0 C gm sc cz k) {pg st sz : Nat → Nat} (hw : wayC C0 gm sc cz k pg st sz) (ht : ∀ i, i < 2 → C 28 i = nI (sz i) ∧ (0 < sz i → C 26 i = nI (pg i) ∧ C 27 i = nI (st i))) : stK C0 (xKeep C) gm sc cz k ∧ ¬ xKeep C 21 0 = 0 := by
  obtain ⟨hC, h25, hb⟩ := h
  have hC' : cEnv C0 (xKeep C) gm := ⟨fun v j hv => (xKeep_fr C (by omega)).trans (hC.1 v j hv), (xKeep_fr C (by omega)).trans hC.2⟩
  have h25' : xKeep C 25 0 = nI k := (xKeep_fr C (by omega)).trans h25
  by_cases g : C 21 0 = 0 ∨ xCost C < C 20 5
  · have e : xKeep C = xv_u (xCopy 21 25 C) 20 5 (xCost C) := by
      unfold xKeep
      exact iteP_t g _ _
    have e21 : xKeep C 21 0 = nI k := by rw [e, xv_u_ne _ _ _ (by decide), xCopy_0, h25]
    refine ⟨⟨hC', h25', Or.inr ⟨e21, pg, st, sz, hw, fun i hi => ?_⟩⟩, by rw [e21]; exact nI_ne0 hk (by omega)⟩
    obtain ⟨r1, r2, r3⟩ := xCopy_rows C (w := 21) (u := 25) (Or.inl (by decide)) hi
    obtain ⟨t1, t2⟩ := ht i hi
    rw [e, xv_u_ne _ _ _ (by decide), xv_u_ne _ _ _ (by decide), xv_u_ne _ _ _ (by decide)]
    exact ⟨r3.trans t1, fun hz => ⟨r1.trans (t2 hz).1, r2.trans (t2 hz).2⟩⟩
  · have e : xKeep C = C := by
      unfold xKeep
      exact iteP_f g _ _
    rw [e]
    exact ⟨⟨hC, h25, hb⟩, fun q => g (Or.inl q)⟩
theorem it_st {P : xv_I → Prop} {f : Nat → xv_I → xv_I} {okk : Nat → Prop} : ∀ (m k : Nat) (C : xv_I), (∀ i C, k ≤ i → i < k + m → P C → P (f i C) ∧ (¬ C 21 0 = 0 → ¬ f i C 21 0 = 0) ∧ (okk i → ¬ f i C 21 0 = 0)) → P C → P (it f m k C) ∧ (¬ C 21 0 = 0 → ¬ it f m k C 21 0 = 0) ∧ ((∃ i, k ≤ i ∧ i < k + m ∧ okk i) → ¬ it f m k C 21 0 = 0)
  | 0, k, C, _, h => ⟨h, id, fun ⟨i, h1, h2, _⟩ => by omega⟩
  | m + 1, k, C, hs, h => by
    obtain ⟨a1, a2, a3⟩ := hs k C (Nat.le_refl _) (by omega) h
    obtain ⟨b1, b2, b3⟩ := it_st m (k + 1) (f k C) (fun i C h1 h2 => hs i C (by omega) (by omega)) a1
    refine ⟨b1, fun q => b2 (a2 q), fun ⟨i, h1, h2, h3⟩ => ?_⟩
    rcases Nat.eq_or_lt_of_le h1 with e | e
    · exact b2 (a3 (by rw [e]; exact h3))
    · exact b3 ⟨i, by omega, by omega, h3⟩
def ff2 (a b i : Nat) : Nat := if i = 0 then a else b
theorem one_st {C0 : xv_I} {gm sc : Int32} {cz : Nat → Nat → Nat} {k z : Nat} (hk : 1 ≤ k) (hk6 : k ≤ 6) (hz : 0 < z) (hzk : z = cz 0 k) {p : Nat} (hp : p < 7) (C : xv_I) (h : stK C0 C gm sc cz k ∧ C 28 1 = nI 0) : (stK C0 (xOne1 sc z p C) gm sc cz k ∧ xOne1 sc z p C 28 1 = nI 0) ∧ (¬ C 21 0 = 0 → ¬ xOne1 sc z p C 21 0 = 0) ∧ ((C0 13 p = sc ∧ ¬ runC C0 gm p z = -1) → ¬ xOne1 sc z p C 21 0 = 0) := by
  obtain ⟨⟨hC, h25, hb⟩, h28⟩ := h
  have es : C 13 p = C0 13 p := hC.1 13 p (by omega)
  have er := run_c hC hp z
  unfold xOne1
  by_cases hok : C0 13 p = sc ∧ ¬ runC C0 gm p z = -1
  · have hok2 : xSRok C p sc z := ⟨es.trans hok.1, by rw [er]; exact hok.2⟩
    rw [iteP_t hok2]
    unfold xSR
    rw [iteP_t hok2]
    obtain ⟨f, f1, f2, _⟩ := runC_ok hz hok.2
    unfold xSRI
    rw [er, f1]
    have fr : ∀ v j, (v < 26 ∨ 28 < v) → xSetPart 25 0 (nI p) (nI f) (nI z) C v j = C v j := fun v j hv => xSetPart_o _ _ _ _ _ (by omega)
    have fr1 : xSetPart 25 0 (nI p) (nI f) (nI z) C 28 1 = C 28 1 := by simp [xSetPart, xv_u]
    generalize hC' : xSetPart 25 0 (nI p) (nI f) (nI z) C = C' at fr fr1
    have t0 : C' 26 0 = nI p ∧ C' 27 0 = nI f ∧ C' 28 0 = nI z := by rw [← hC']; simp [xSetPart, xv_u]
    obtain ⟨g1, g2⟩ := keep_st (C := C') hk hk6 (pg := fun _ => p) (st := fun _ => f) (sz := ff2 z 0) ⟨⟨fun v j hv => (fr v j (by omega)).trans (hC.1 v j hv), (fr 20 3 (by omega)).trans hC.2⟩, (fr 25 0 (by omega)).trans h25, hb.elim (fun q => Or.inl ((fr 21 0 (by omega)).trans q)) fun ⟨q1, pg9, st9, sz9, q2, q3⟩ => Or.inr ⟨(fr 21 0 (by omega)).trans q1, pg9, st9, sz9, q2, fun i hi => by rw [fr 24 i (by omega), fr 22 i (by omega), fr 23 i (by omega)]; exact q3 i hi⟩⟩ ⟨hz, fun i hi => by
      rcases (show i = 0 ∨ i = 1 by omega) with rfl | rfl
      · exact ⟨show z ≤ 12 by omega, fun _ => ⟨hp, f2, f1⟩⟩
      · exact ⟨show 0 ≤ 12 by decide, fun q => absurd (show 0 < 0 from q) (by decide)⟩, hok.1, Or.inl ⟨rfl, hzk⟩⟩ (fun i hi => by
      rcases (show i = 0 ∨ i = 1 by omega) with rfl | rfl
      · exact ⟨t0.2.2, fun _ => ⟨t0.1, t0.2.1⟩⟩
      · exact ⟨fr1.trans h28, fun q => absurd (show 0 < 0 from q) (by decide)⟩)
    exact ⟨⟨g1, (xKeep_fr _ (by omega)).trans (fr1.trans h28)⟩, fun _ => g2, fun _ => g2⟩
  · rw [iteP_f (fun q => hok ⟨es.symm.trans q.1, by rw [← er]; exact q.2⟩)]
    exact ⟨⟨⟨hC, h25, hb⟩, h28⟩, id, fun q => absurd q hok⟩
theorem two_st {C0 : xv_I} {gm sc : Int32} {cz : Nat → Nat → Nat} {k z1 z2 p f h9 : Nat} (hk : 1 ≤ k) (hk6 : k ≤ 6) (hz1 : 0 < z1) (hz : 0 < z2) (h91 : 1 ≤ h9) (h92 : h9 < k) (e1 : z1 = cz 0 h9) (e2 : z2 = cz h9 k) (hp : p < 7) (hps : C0 13 p = sc) (hf : runC C0 gm p z1 = nI f) (hf2 : f + z1 ≤ 12) {q : Nat} (hpq : p < q) (hq : q < 7) (C : xv_I) (h : stK C0 C gm sc cz k ∧ C 26 0 = nI p ∧ C 27 0 = nI f ∧ C 28 0 = nI z1) : (stK C0 (xTwo2 z2 q C) gm sc cz k ∧ xTwo2 z2 q C 26 0 = nI p ∧ xTwo2 z2 q C 27 0 = nI f ∧ xTwo2 z2 q C 28 0 = nI z1) ∧ (¬ C 21 0 = 0 → ¬ xTwo2 z2 q C 21 0 = 0) ∧ ((C0 13 q = nI 0 ∧ ¬ runC C0 gm q z2 = -1) → ¬ xTwo2 z2 q C 21 0 = 0) := by
  obtain ⟨⟨hC, h25, hb⟩, h26, h27, h28⟩ := h
  have es : C 13 q = C0 13 q := hC.1 13 q (by omega)
  have er := run_c hC hq z2
  unfold xTwo2
  by_cases hok : C0 13 q = nI 0 ∧ ¬ runC C0 gm q z2 = -1
  · have hok2 : xSRok C q (nI 0) z2 := ⟨es.trans hok.1, by rw [er]; exact hok.2⟩
    rw [iteP_t hok2]
    unfold xSR
    rw [iteP_t hok2]
    obtain ⟨f9, f1, f3, _⟩ := runC_ok hz hok.2
    unfold xSRI
    rw [er, f1]
    have fr : ∀ v j, (v < 26 ∨ 28 < v ∨ j = 0) → xSetPart 25 1 (nI q) (nI f9) (nI z2) C v j = C v j := fun v j hv => by
      by_cases g : j = 0
      · subst g
        simp [xSetPart, xv_u]
      · exact xSetPart_o _ _ _ _ _ (by omega)
    generalize hC' : xSetPart 25 1 (nI q) (nI f9) (nI z2) C = C' at fr
    have t0 : C' 26 1 = nI q ∧ C' 27 1 = nI f9 ∧ C' 28 1 = nI z2 := by rw [← hC']; simp [xSetPart, xv_u]
    obtain ⟨g1, g2⟩ := keep_st (C := C') hk hk6 (pg := ff2 p q) (st := ff2 f f9) (sz := ff2 z1 z2) ⟨⟨fun v j hv => (fr v j (by omega)).trans (hC.1 v j hv), (fr 20 3 (by omega)).trans hC.2⟩, (fr 25 0 (by omega)).trans h25, hb.elim (fun q => Or.inl ((fr 21 0 (by omega)).trans q)) fun ⟨q1, pg9, st9, sz9, q2, q3⟩ => Or.inr ⟨(fr 21 0 (by omega)).trans q1, pg9, st9, sz9, q2, fun i hi => by rw [fr 24 i (by omega), fr 22 i (by omega), fr 23 i (by omega)]; exact q3 i hi⟩⟩ ⟨hz1, fun i hi => by
      rcases (show i = 0 ∨ i = 1 by omega) with rfl | rfl
      · exact ⟨show z1 ≤ 12 by omega, fun _ => ⟨hp, hf2, hf⟩⟩
      · exact ⟨show z2 ≤ 12 by omega, fun _ => ⟨hq, f3, f1⟩⟩, hps, Or.inr ⟨hz, hpq, hok.1, h9, h91, h92, e1, e2⟩⟩ (fun i hi => by
      rcases (show i = 0 ∨ i = 1 by omega) with rfl | rfl
      · exact ⟨(fr 28 0 (by omega)).trans h28, fun _ => ⟨(fr 26 0 (by omega)).trans h26, (fr 27 0 (by omega)).trans h27⟩⟩
      · exact ⟨t0.2.2, fun _ => ⟨t0.1, t0.2.1⟩⟩)
    exact ⟨⟨g1, (xKeep_fr _ (by omega)).trans ((fr 26 0 (by omega)).trans h26), (xKeep_fr _ (by omega)).trans ((fr 27 0 (by omega)).trans h27), (xKeep_fr _ (by omega)).trans ((fr 28 0 (by omega)).trans h28)⟩, fun _ => g2, fun _ => g2⟩
  · rw [iteP_f (fun w => hok ⟨es.symm.trans w.1, by rw [← er]; exact w.2⟩)]
    exact ⟨⟨⟨hC, h25, hb⟩, h26, h27, h28⟩, id, fun w => absurd w hok⟩
theorem two1_st {C0 : xv_I} {gm sc : Int32} {cz : Nat → Nat → Nat} {k z1 z2 h9 : Nat} (hk : 1 ≤ k) (hk6 : k ≤ 6) (hz1 : 0 < z1) (hz : 0 < z2) (h91 : 1 ≤ h9) (h92 : h9 < k) (e1 : z1 = cz 0 h9) (e2 : z2 = cz h9 k) {p : Nat} (hp : p < 7) (C : xv_I) (h : stK C0 C gm sc cz k) : stK C0 (xTwo1 sc z1 z2 p C) gm sc cz k ∧ (¬ C 21 0 = 0 → ¬ xTwo1 sc z1 z2 p C 21 0 = 0) ∧ (((C0 13 p = sc ∧ ¬ runC C0 gm p z1 = -1) ∧ ∃ q, p + 1 ≤ q ∧ q < p + 1 + (7 - (p + 1)) ∧ C0 13 q = nI 0 ∧ ¬ runC C0 gm q z2 = -1) → ¬ xTwo1 sc z1 z2 p C 21 0 = 0) := by
  obtain ⟨hC, h25, hb⟩ := h
  have es : C 13 p = C0 13 p := hC.1 13 p (by omega)
  have er := run_c hC hp z1
  unfold xTwo1
  by_cases hok : C0 13 p = sc ∧ ¬ runC C0 gm p z1 = -1
  · have hok2 : xSRok C p sc z1 := ⟨es.trans hok.1, by rw [er]; exact hok.2⟩
    rw [iteP_t hok2]
    unfold xSR
    rw [iteP_t hok2]
    obtain ⟨f, f1, f2, _⟩ := runC_ok hz1 hok.2
    unfold xSRI
    rw [er, f1]
    have fr : ∀ v j, (v < 26 ∨ 28 < v) → xSetPart 25 0 (nI p) (nI f) (nI z1) C v j = C v j := fun v j hv => xSetPart_o _ _ _ _ _ (by omega)
    generalize hC' : xSetPart 25 0 (nI p) (nI f) (nI z1) C = C' at fr
    have t0 : C' 26 0 = nI p ∧ C' 27 0 = nI f ∧ C' 28 0 = nI z1 := by rw [← hC']; simp [xSetPart, xv_u]
    obtain ⟨g1, g2, g3⟩ := it_st (P := fun C => stK C0 C gm sc cz k ∧ C 26 0 = nI p ∧ C 27 0 = nI f ∧ C 28 0 = nI z1) (f := xTwo2 z2) (okk := fun q => C0 13 q = nI 0 ∧ ¬ runC C0 gm q z2 = -1) (7 - (p + 1)) (p + 1) C' (fun i C h1 h2 hh => two_st hk hk6 hz1 hz h91 h92 e1 e2 hp hok.1 f1 f2 (by omega) (by omega) C hh) ⟨⟨⟨fun v j hv => (fr v j (by omega)).trans (hC.1 v j hv), (fr 20 3 (by omega)).trans hC.2⟩, (fr 25 0 (by omega)).trans h25, hb.elim (fun q => Or.inl ((fr 21 0 (by omega)).trans q)) fun ⟨q1, pg9, st9, sz9, q2, q3⟩ => Or.inr ⟨(fr 21 0 (by omega)).trans q1, pg9, st9, sz9, q2, fun i hi => by rw [fr 24 i (by omega), fr 22 i (by omega), fr 23 i (by omega)]; exact q3 i hi⟩⟩, t0⟩
    exact ⟨g1.1, fun w => g2 (by rw [fr 21 0 (by omega)]; exact w), fun w => g3 w.2⟩
  · rw [iteP_f (fun w => hok ⟨es.symm.trans w.1, by rw [← er]; exact w.2⟩)]
    exact ⟨⟨hC, h25, hb⟩, id, fun w => absurd w.1 hok⟩
theorem twoL_st {C0 : xv_I} {gm sc : Int32} {cz : Nat → Nat → Nat} {k np : Nat} (hk : 1 ≤ k) (hk6 : k ≤ 6) (hkn : k ≤ np) (hcz : ∀ f t, f < t → t ≤ np → 0 < cz f t) : ∀ (h : Nat) (C : xv_I), h < k → stK C0 C gm sc cz k → stK C0 (xTwoL sc cz k h C) gm sc cz k ∧ (¬ C 21 0 = 0 → ¬ xTwoL sc cz k h C 21 0 = 0) ∧ ((∃ h9 p q, 1 ≤ h9 ∧ h9 ≤ h ∧ p < q ∧ q < 7 ∧ (C0 13 p = sc ∧ ¬ runC C0 gm p (cz 0 h9) = -1) ∧ C0 13 q = nI 0 ∧ ¬ runC C0 gm q (cz h9 k) = -1) → ¬ xTwoL sc cz k h C 21 0 = 0)
  | 0, C, _, h => ⟨h, id, fun ⟨h9, p, q, a1, a2, _⟩ => by omega⟩
  | h + 1, C, hh, hs => by
    rw [xTwoL]
    obtain ⟨a1, a2, a3⟩ := it_st (P := fun C => stK C0 C gm sc cz k) (f := xTwo1 sc (cz 0 (h + 1)) (cz (h + 1) k)) (okk := fun p => (C0 13 p = sc ∧ ¬ runC C0 gm p (cz 0 (h + 1)) = -1) ∧ ∃ q, p + 1 ≤ q ∧ q < p + 1 + (7 - (p + 1)) ∧ C0 13 q = nI 0 ∧ ¬ runC C0 gm q (cz (h + 1) k) = -1) 7 0 C (fun i C h1 h2 hC => two1_st hk hk6 (hcz _ _ (by omega) (by omega)) (hcz _ _ (by omega) hkn) (h9 := h + 1) (by omega) hh rfl rfl (by omega) C hC) hs
    obtain ⟨b1, b2, b3⟩ := twoL_st hk hk6 hkn hcz h (xTwoA sc cz k (h + 1) C) (by omega) a1
    refine ⟨b1, fun w => b2 (a2 w), fun ⟨h9, p, q, c1, c2, c3, c4, c5, c6, c7⟩ => ?_⟩
    rcases Nat.eq_or_lt_of_le c2 with e | e
    · subst e
      exact b2 (a3 ⟨p, Nat.zero_le _, by omega, c5, q, by omega, by omega, c6, c7⟩)
    · exact b3 ⟨h9, p, q, c1, by omega, c3, c4, c5, c6, c7⟩
theorem mid_st {C0 : xv_I} {gm sc : Int32} {cz : Nat → Nat → Nat} {k np : Nat} (hk : 1 ≤ k) (hk6 : k ≤ 6) (hkn : k ≤ np) (hcz : ∀ f t, f < t → t ≤ np → 0 < cz f t) (C : xv_I) (hC : cEnv C0 C gm) (h0 : C 21 0 = 0) : stK C0 (xMid sc cz k C) gm sc cz k ∧ ((∃ pg st sz, wayC C0 gm sc cz k pg st sz) → ¬ xMid sc cz k C 21 0 = 0) := by
  have fr : ∀ v j, (v < 25 ∨ 28 < v) → xv_u (xClear 25 C) 25 0 (nI k) v j = C v j := fun v j hv => by
    simp [xClear, it, xSetPart, xv_u]
    repeat rw [if_neg (by omega)]
  obtain ⟨a1, a2, a3⟩ := it_st (P := fun C => stK C0 C gm sc cz k ∧ C 28 1 = nI 0) (f := xOne1 sc (cz 0 k)) (okk := fun p => C0 13 p = sc ∧ ¬ runC C0 gm p (cz 0 k) = -1) 7 0 (xv_u (xClear 25 C) 25 0 (nI k)) (fun i C h1 h2 hh => one_st hk hk6 (hcz _ _ (by omega) hkn) rfl (by omega) C hh) ⟨⟨⟨fun v j hv => (fr v j (by omega)).trans (hC.1 v j hv), (fr 20 3 (by omega)).trans hC.2⟩, xv_u_eq _ _ _ _, Or.inl ((fr 21 0 (by omega)).trans h0)⟩, by simp [xClear, it, xSetPart, xv_u]⟩
  change (stK C0 (xOne sc (cz 0 k) k C) gm sc cz k ∧ xOne sc (cz 0 k) k C 28 1 = nI 0) at a1
  change (∃ i, 0 ≤ i ∧ i < 0 + 7 ∧ C0 13 i = sc ∧ ¬ runC C0 gm i (cz 0 k) = -1) → ¬ xOne sc (cz 0 k) k C 21 0 = 0 at a3
  unfold xMid
  generalize xOne sc (cz 0 k) k C = D at a1 a3
  by_cases g : D 21 0 = 0
  · rw [if_pos g]
    have fr2 : ∀ v j, (v ≠ 25 ∨ j ≠ 0) → xv_u D 25 0 (nI k) v j = D v j := fun v j hv => if_neg (by omega)
    obtain ⟨b1, b2, b3⟩ := twoL_st hk hk6 hkn hcz (k - 1) (xv_u D 25 0 (nI k)) (by omega) ⟨⟨fun v j hv => (fr2 v j (by omega)).trans (a1.1.1.1 v j hv), (fr2 20 3 (by omega)).trans a1.1.1.2⟩, xv_u_eq _ _ _ _, Or.inl ((fr2 21 0 (by omega)).trans g)⟩
    refine ⟨b1, fun ⟨pg, st, sz, w1, w2, w3, w4⟩ => ?_⟩
    obtain ⟨y1, y2, y3⟩ := (w2 0 (by decide)).2 w1
    rcases w4 with ⟨w5, w6⟩ | ⟨w5, w6, w7, h9, w8, w9, w10, w11⟩
    · exact absurd g (a3 ⟨pg 0, Nat.zero_le _, by omega, w3, by rw [← w6, y3]; exact nI_nm1 (by omega)⟩)
    · obtain ⟨z1, z2, z3⟩ := (w2 1 (by decide)).2 w5
      exact b3 ⟨h9, pg 0, pg 1, w8, by omega, w6, z1, ⟨w3, by rw [← w10, y3]; exact nI_nm1 (by omega)⟩, w7, by rw [← w11, z3]; exact nI_nm1 (by omega)⟩
  · rw [if_neg g]
    exact ⟨a1.1, fun _ => g⟩
theorem findL_st {C0 : xv_I} {gm sc : Int32} {cz : Nat → Nat → Nat} {np lo : Nat} (hlo : 1 ≤ lo) (hnp : np ≤ 6) (hcz : ∀ f t, f < t → t ≤ np → 0 < cz f t) : ∀ (m k : Nat) (C : xv_I), k + 1 = lo + m → k ≤ np → cEnv C0 C gm → C 21 0 = 0 → ((xFindL sc cz m k C).1 = nI 0 ∧ cEnv C0 (xFindL sc cz m k C).2 gm) ∨ ((xFindL sc cz m k C).1 = nI 1 ∧ cEnv C0 (xFindL sc cz m k C).2 gm ∧ ∃ u, lo ≤ u ∧ u ≤ k ∧ bestC C0 (xFindL sc cz m k C).2 gm sc cz u ∧ ∀ N, u < N → N ≤ k → ∀ pg st sz, ¬ wayC C0 gm sc cz N pg st sz)
  | 0, k, C, _, _, hC, _ => Or.inl ⟨rfl, hC⟩
  | m + 1, k, C, h1, h2, hC, h0 => by
    obtain ⟨a1, a2⟩ := mid_st (k := k) (sc := sc) (by omega) (by omega) h2 hcz C hC h0
    rw [xFindL]
    by_cases g : xMid sc cz k C 21 0 ≤ 0
    · rw [if_pos g]
      have z : xMid sc cz k C 21 0 = 0 := by
        rcases a1.2.2 with q | q
        · exact q
        · exact absurd g (by rw [q.1]; exact nI_nle (by omega) (by omega))
      rcases Nat.eq_zero_or_pos m with e | e
      · subst e
        exact Or.inl ⟨rfl, a1.1⟩
      · rcases findL_st hlo hnp hcz m (k - 1) (xMid sc cz k C) (by omega) (by omega) a1.1 z with r | ⟨r1, r2, u, r3, r4, r5, r6⟩
        · exact Or.inl r
        · refine Or.inr ⟨r1, r2, u, r3, by omega, r5, fun N n1 n2 pg st sz w => ?_⟩
          rcases Nat.eq_or_lt_of_le n2 with e | e
          · exact a2 ⟨pg, st, sz, by rw [← e]; exact w⟩ z
          · exact r6 N n1 (by omega) pg st sz w
    · rw [if_neg g]
      rcases a1.2.2 with q | q
      · exact absurd (by rw [q]; decide) g
      · exact Or.inr ⟨rfl, a1.1, k, by omega, Nat.le_refl _, q, fun N n1 n2 => by omega⟩
theorem find_st {I : xv_I} {gm sc cl : Int32} {cz : Nat → Nat → Nat} {np lo : Nat} (hlo : 1 ≤ lo) (hln : lo ≤ np) (hnp : np ≤ 6) (hcz : ∀ f t, f < t → t ≤ np → 0 < cz f t) : (∀ v j, (v < 20 ∨ 28 < v) → (xFind sc cz np lo gm cl I).2 v j = I v j) ∧ ((xFind sc cz np lo gm cl I).1 = nI 0 ∨ ((xFind sc cz np lo gm cl I).1 = nI 1 ∧ ∃ u, lo ≤ u ∧ u ≤ np ∧ bestC I (xFind sc cz np lo gm cl I).2 gm sc cz u ∧ ∀ N, u < N → N ≤ np → ∀ pg st sz, ¬ wayC I gm sc cz N pg st sz)) := by
  have e0 : cEnv I (xClear 21 (xv_u (xv_u I 20 3 gm) 20 4 cl)) gm := by
    refine ⟨fun v j hv => ?_, ?_⟩
    · simp [xClear, it, xSetPart, xv_u]
      repeat rw [if_neg (by omega)]
    · simp [xClear, it, xSetPart, xv_u]
  have e1 : xClear 21 (xv_u (xv_u I 20 3 gm) 20 4 cl) 21 0 = 0 := by
    simp [xClear, it, xSetPart, xv_u]
    try rfl
  unfold xFind
  rcases findL_st (C0 := I) (gm := gm) (sc := sc) hlo hnp hcz (np + 1 - lo) np _ (by omega) (Nat.le_refl _) e0 e1 with r | ⟨r1, r2, u, r3, r4, r5, r6⟩
  · exact ⟨r.2.1, Or.inl r.1⟩
  · exact ⟨r2.1, Or.inr ⟨r1, u, r3, r4, r5, r6⟩⟩
theorem Dg_nz : ∀ (np d : Nat), Dg np d → ∀ i, i < np → ¬ d / 10 ^ i % 10 = 0
  | 0, _, _, _, h => absurd h (Nat.not_lt_zero _)
  | np + 1, d, h, i, hi => by
    rcases Nat.eq_zero_or_pos i with g | g
    · subst g
      rw [Nat.pow_zero, Nat.div_one]
      exact h.1
    · have r := Dg_nz np (d / 10) h.2 (i - 1) (by omega)
      rw [Nat.div_div_eq_div_mul, ← Nat.pow_succ', show (i - 1).succ = i by omega] at r
      exact r
theorem Dg_pos {np d : Nat} (h : Dg np d) : ∀ q, q < np → 0 < dg d np q := fun q hq => Nat.pos_of_ne_zero (Dg_nz np d h (np - 1 - q) (by omega))
theorem Dg_0 : ∀ (np d : Nat), Dg np d → 0 < np → 0 < d
  | 0, _, _, h => absurd h (Nat.lt_irrefl 0)
  | np + 1, d, h, _ => Nat.pos_of_ne_zero fun q => h.1 (by rw [q])
theorem Dg_par : ∀ (np m k d : Nat), Dg np d → np < m → d < 2 ^ 31 → xParL m k (nI d) = nI (k + np)
  | _, 0, _, _, _, h, _ => absurd h (Nat.not_lt_zero _)
  | 0, m + 1, k, d, hd, _, _ => by
    obtain rfl : d = 0 := hd
    exact xParL_z
  | np + 1, m + 1, k, d, hd, hm, h31 => by
    rw [xParL_s (Dg_0 _ _ hd (by omega)) h31, if_neg hd.1, Dg_par np m (k + 1) (d / 10) hd.2 (by omega) (by omega)]
    congr 1
    omega
theorem Dg_xPar {np d : Nat} (h : Dg np d) (h6 : np ≤ 6) (h31 : d < 2 ^ 31) : xPar (nI d) = nI np := by
  unfold xPar
  rw [Dg_par np 7 0 d h (by omega) h31, Nat.zero_add]
/-- what the search needs of a story -/
theorem st_x {I : xv_I} {s sec d np lo : Nat} (hD : Dg np d) (hd : d ≤ 999999) (h1 : 1 ≤ np) (h6 : np ≤ 6) (l1 : 1 ≤ lo) (l2 : lo ≤ np) (e0 : I (200 + 5 * s) 0 = nI sec) (e1 : I (200 + 5 * s) 1 = nI d) (e2 : I (200 + 5 * s) 2 = nI np) (e3 : I (200 + 5 * s) 3 = nI lo) : xSt I s np lo (czf d np) (nI sec) :=
  ⟨e0, e2, e3, l1, l2, h6, fun f t hf ht => ⟨by rw [e1]; exact xCells_n (by omega) (Dg_pos hD) hf ht h6, czf_ok (Dg_pos hD) hf ht h6⟩⟩
theorem czf_same (d np n : Nat) : czf d np n n = 0 := by
  unfold czf
  rw [Nat.sub_self]
theorem wayC.fit {I : xv_I} {gm sc : Int32} {d np u : Nat} {pg st sz : Nat → Nat} (hu : 1 ≤ u) (h : wayC I gm sc (czf d np) u pg st sz) : fitW d np u sz := by
  obtain ⟨h1, h2, h3, h4⟩ := h
  rcases h4 with ⟨a1, a2⟩ | ⟨a1, a2, a3, h9, a4, a5, a6, a7⟩
  · exact ⟨u, hu, Nat.le_refl _, ⟨fun q => absurd q (Nat.lt_irrefl _), fun q => by omega⟩, a2, by rw [a1, czf_same]⟩
  · exact ⟨h9, a4, by omega, ⟨fun _ => a1, fun _ => a5⟩, a6, a7⟩
theorem wayC.most {I : xv_I} {gm sc : Int32} {d np u N : Nat} {pg st sz : Nat → Nat} (h : wayC I gm sc (czf d np) u pg st sz) (hN : ∀ pg st sz, ¬ wayC I gm sc (czf d np) N pg st sz) : ¬ fitW d np N sz := by
  rintro ⟨m, m1, m2, m3, m4, m5⟩
  obtain ⟨h1, h2, h3, h4⟩ := h
  refine hN pg st sz ⟨h1, h2, h3, ?_⟩
  rcases Nat.eq_zero_or_pos (sz 1) with z | z
  · obtain rfl : m = N := by
      rcases Nat.lt_or_ge m N with q | q
      · exact absurd (m3.mp q) (by omega)
      · omega
    exact Or.inl ⟨z, m4⟩
  · rcases h4 with ⟨a1, _⟩ | ⟨_, a2, a3, _⟩
    · omega
    · exact Or.inr ⟨z, a2, a3, m, m1, m3.mpr z, m4, m5⟩
theorem wayC.cells {I : xv_I} {gm sc : Int32} {cz : Nat → Nat → Nat} {u : Nat} {pg st sz : Nat → Nat} (h : wayC I gm sc cz u pg st sz) : ∀ i, i < 2 → ∀ m, m < sz i → pg i < 7 ∧ (I (3 + pg i) (cIn (st i + m)) = 0 ∨ I (3 + pg i) (cIn (st i + m)) = gm) := fun i hi m hm => by
  obtain ⟨a1, a2, a3⟩ := (h.2.1 i hi).2 (by omega)
  obtain ⟨f, f1, f2, f3⟩ := runC_ok (show 0 < sz i by omega) (by rw [a3]; exact nI_nm1 (by omega))
  obtain rfl : st i = f := (nI_eq (by omega) (by omega)).mp (a3.symm.trans f1)
  exact ⟨a1, f3 (st i + m) (by omega) (by omega)⟩
