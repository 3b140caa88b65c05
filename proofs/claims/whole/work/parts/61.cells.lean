theorem i32_cancel {a b c : Int32} (h : a + b = c + b) : a = c := by
  have h2 := congrArg (fun x => x - b) h
  simp only [Int32.sub_eq_add_neg, Int32.add_assoc, Int32.add_right_neg, Int32.add_zero] at h2
  exact h2
def sLow : Nat → Nat → Nat
  | 0, _ => 0
  | m + 1, r => r % 10 + sLow m (r / 10)
def dg (d np q : Nat) : Nat := d / 10 ^ (np - 1 - q) % 10
def pre (d np : Nat) : Nat → Nat
  | 0 => 0
  | k + 1 => pre d np k + dg d np k
def czf (d np f t : Nat) : Nat := (pre d np t - pre d np f + 4) / 5
theorem xDS_n : ∀ (m r s : Nat), r < 2 ^ 31 → xDS m (nI r) (nI s) = nI (s + sLow m r)
  | 0, _, _, _ => rfl
  | m + 1, r, s, h => by
    rw [xDS, nI_rem h (by decide), nI_add, nI_div h (by decide), xDS_n m (r / 10) _ (by omega), sLow, Nat.add_assoc]
theorem sLow_pre (d np : Nat) : ∀ m e, e + m = np → sLow m (d / 10 ^ e) = pre d np m
  | 0, _, _ => rfl
  | m + 1, e, h => by
    rw [sLow, pre, Nat.div_div_eq_div_mul, ← Nat.pow_succ, sLow_pre d np m (e + 1) (by omega), dg, show np - 1 - m = e by omega, Nat.add_comm]
theorem xLines_n {d np k : Nat} (hd : d < 2 ^ 31) (hk : k ≤ np) : xLines (nI d) np k = nI (pre d np k) := by
  have h2 := Nat.div_le_self d (10 ^ (np - k))
  rw [xLines, xD10_n _ _ hd, xDS_n _ _ 0 (by omega), Nat.zero_add, sLow_pre d np k (np - k) (by omega)]
theorem pre_le (d np : Nat) : ∀ k, pre d np k ≤ 9 * k
  | 0 => Nat.le_refl _
  | k + 1 => by
    have := pre_le d np k
    have h : dg d np k < 10 := Nat.mod_lt _ (by decide)
    rw [pre]
    omega
theorem pre_lt {d np : Nat} (h : ∀ q, q < np → 0 < dg d np q) {f : Nat} : ∀ t, f < t → t ≤ np → pre d np f < pre d np t
  | 0, h1, _ => absurd h1 (Nat.not_lt_zero _)
  | t + 1, h1, h2 => by
    have h3 := h t (by omega)
    rw [pre]
    rcases Nat.lt_or_ge f t with g | g
    · have := pre_lt h t g (by omega)
      omega
    · obtain rfl : f = t := by omega
      omega
theorem czf_ok {d np f t : Nat} (h : ∀ q, q < np → 0 < dg d np q) (hft : f < t) (ht : t ≤ np) (hn : np ≤ 6) : 0 < czf d np f t ∧ czf d np f t ≤ 100 := by
  have h1 := pre_lt h t hft ht
  have h2 := pre_le d np t
  unfold czf
  omega
theorem xCells_n {d np f t : Nat} (hd : d < 2 ^ 31) (h : ∀ q, q < np → 0 < dg d np q) (hft : f < t) (ht : t ≤ np) (hn : np ≤ 6) : xCells (nI d) np f t = nI (czf d np f t) := by
  have h1 := pre_lt h t hft ht
  have h2 := pre_le d np t
  unfold xCells czf
  rw [xLines_n hd ht, xLines_n hd (by omega), nI_sub (by omega), nI_add, nI_sub (by omega), nI_div (by omega) (by decide)]
  congr 2
theorem mSum_n {I : xv_I} {d np s : Nat} (h74 : ∀ k, k < np → I 74 (6 * s + k) = nI (dg d np k)) : ∀ (m f x : Nat), f + m ≤ np → it (mSum1 I s) m f (nI x) + nI (pre d np f) = nI (x + pre d np (f + m))
  | 0, f, x, _ => nI_add _ _
  | m + 1, f, x, h => by
    have e := mSum_n h74 m (f + 1) (x + dg d np f) (by omega)
    have e2 : mSum1 I s f (nI x) = nI (x + dg d np f) := by
      unfold mSum1
      rw [h74 f (by omega), nI_add]
    rw [it, e2]
    have e3 : it (mSum1 I s) m (f + 1) (nI (x + dg d np f)) + nI (pre d np f) + nI (dg d np f) = nI (x + pre d np (f + (m + 1))) + nI (dg d np f) := by
      rw [Int32.add_assoc, nI_add, show pre d np f + dg d np f = pre d np (f + 1) from rfl, e, nI_add, show f + 1 + m = f + (m + 1) by omega]
      congr 1
      omega
    exact i32_cancel e3
theorem mCells_n {I : xv_I} {d np s f t : Nat} (h74 : ∀ k, k < np → I 74 (6 * s + k) = nI (dg d np k)) (h : ∀ q, q < np → 0 < dg d np q) (hft : f < t) (ht : t ≤ np) (hn : np ≤ 6) : mCells I s f t = nI (czf d np f t) := by
  have h1 := pre_lt h t hft ht
  have h2 := pre_le d np t
  have e := mSum_n h74 (t - f) f 0 (by omega)
  rw [show f + (t - f) = t by omega, Nat.zero_add] at e
  have e2 : it (mSum1 I s) (t - f) f (nI 0) = nI (pre d np t - pre d np f) := by
    refine i32_cancel (b := nI (pre d np f)) ?_
    rw [e, nI_add, Nat.sub_add_cancel (by omega)]
  unfold mCells czf
  rw [e2, nI_add, nI_div (by omega) (by decide)]
theorem par_nz : ∀ (m k d np : Nat), d < 2 ^ 31 → 0 < np → np < 2 ^ 31 → k < 2 ^ 31 → xParL m k (nI d) = nI np → ∀ i, i < np - k → ¬ d / 10 ^ i % 10 = 0
  | 0, k, d, np, _, h1, h2, _, h, i, _ => by
    rw [xParL] at h
    have := nI_inj2 h (by decide) h2
    omega
  | m + 1, k, d, np, hd, h1, h2, hk, h, i, hi => by
    rcases Nat.eq_zero_or_pos d with g | g
    · subst g
      rw [xParL_z] at h
      have := nI_inj2 h hk h2
      omega
    · rw [xParL_s g hd] at h
      by_cases g2 : d % 10 = 0
      · rw [if_pos g2] at h
        have := nI_inj2 h (by decide) h2
        omega
      · rw [if_neg g2] at h
        rcases Nat.eq_zero_or_pos i with g3 | g3
        · subst g3
          rw [Nat.pow_zero, Nat.div_one]
          exact g2
        · have r := par_nz m (k + 1) (d / 10) np (by omega) h1 h2 (by omega) h (i - 1) (by omega)
          rw [Nat.div_div_eq_div_mul, ← Nat.pow_succ', show (i - 1).succ = i by omega] at r
          exact r
theorem dg_pos {d np : Nat} (hd : d ≤ 999999) (h1 : 1 ≤ np) (h6 : np ≤ 6) (h : xPar (nI d) = nI np) : ∀ q, q < np → 0 < dg d np q := fun q hq => Nat.pos_of_ne_zero (par_nz 7 0 d np (by omega) h1 (by omega) (by decide) h (np - 1 - q) (by omega))
theorem st_both {I : xv_I} {s d np lo : Nat} (a2 : d ≤ 999999) (a3 : 1 ≤ np) (a4 : np ≤ 6) (a5 : 1 ≤ lo) (a6 : lo ≤ np) (a8 : xPar (nI d) = nI np) (a9 : I (200 + 5 * s) 0 = I 72 s) (a10 : I (200 + 5 * s) 1 = nI d) (a11 : I (200 + 5 * s) 2 = nI np) (a12 : I 73 s = nI np) (a13 : I (200 + 5 * s) 3 = nI lo) (a14 : I 75 s = nI lo) (a15 : ∀ k, k < np → I 74 (6 * s + k) = nI (d / 10 ^ (np - 1 - k) % 10)) : xSt I s np lo (czf d np) (I 72 s) ∧ mStH I s np lo (czf d np) (I 72 s) := by
  have p := dg_pos a2 a3 a4 a8
  refine ⟨⟨a9, a11, a13, a5, a6, a4, fun f t hf ht => ⟨by rw [a10]; exact xCells_n (by omega) p hf ht a4, czf_ok p hf ht a4⟩⟩, ⟨rfl, a12, a14, a5, a6, a4, fun f t hf ht => ⟨mCells_n a15 p hf ht a4, czf_ok p hf ht a4⟩⟩⟩
theorem kc1 : ∀ P, P < 32 → ∀ L, L < 32 → xBC (nI P &&& (nI L ^^^ (-1))) = nI (cnt6 (P &&& (31 ^^^ L))) := by decide +kernel
theorem kc2 : ∀ P, P < 32 → ∀ L, L < 32 → mSize (nI P &&& (nI L ^^^ (-1))) = nI (cnt6 (P &&& (31 ^^^ L))) := by decide +kernel
theorem kd : ∀ A, A < 32 → ∀ B, B < 32 → A &&& B = 0 → cnt6 (A ||| B) = cnt6 A + cnt6 B := by decide +kernel
theorem kb : ∀ G P T i : Nat, G < 32 → P < 32 → T < 32 → ((G ||| P) &&& (31 ^^^ T)).testBit i = ((P &&& (31 ^^^ (T ||| G))) ||| (G &&& (31 ^^^ T))).testBit i ∧ ((P &&& (31 ^^^ (T ||| G))) &&& (G &&& (31 ^^^ T))).testBit i = false := fun G P T i hG hP hT => by
  have e31 : (31 : Nat).testBit i = decide (i < 5) := Nat.testBit_two_pow_sub_one 5 i
  simp only [Nat.testBit_and, Nat.testBit_or, Nat.testBit_xor, e31]
  rcases Nat.lt_or_ge i 5 with h | h
  · rw [decide_eq_true h]
    cases G.testBit i <;> cases P.testBit i <;> cases T.testBit i <;> decide
  · have l : (2 : Nat) ^ 5 ≤ 2 ^ i := Nat.pow_le_pow_right (by decide) h
    rw [Nat.testBit_lt_two_pow (Nat.lt_of_lt_of_le hG l), Nat.testBit_lt_two_pow (Nat.lt_of_lt_of_le hP l)]
    simp
theorem kc3 (G : Nat) (hG : G < 32) (P : Nat) (hP : P < 32) (T : Nat) (hT : T < 32) : cnt6 ((G ||| P) &&& (31 ^^^ T)) = cnt6 (P &&& (31 ^^^ (T ||| G))) + cnt6 (G &&& (31 ^^^ T)) := by
  rw [← kd _ (Nat.lt_of_le_of_lt Nat.and_le_left hP) _ (Nat.lt_of_le_of_lt Nat.and_le_left hG) (Nat.eq_of_testBit_eq fun i => by rw [(kb G P T i hG hP hT).2, Nat.zero_testBit])]
  exact congrArg cnt6 (Nat.eq_of_testBit_eq fun i => (kb G P T i hG hP hT).1)
theorem kc4 : ∀ P, P < 32 → cnt6 P < 7 := by decide +kernel
theorem xRun_cg {ok ok' : Nat → Prop} {s : Nat} : ∀ (m k run : Nat), (∀ j, k ≤ j → j < k + m → (ok j ↔ ok' j)) → xRun ok s m k run = xRun ok' s m k run
  | 0, _, _, _ => rfl
  | m + 1, k, run, h => by
    by_cases g : ok k
    · rw [xRun_y g, xRun_y ((h k (Nat.le_refl _) (by omega)).mp g), xRun_cg m (k + 1) _ fun j h1 h2 => h j (by omega) (by omega)]
    · rw [xRun_n g, xRun_n (fun q => g ((h k (Nat.le_refl _) (by omega)).mpr q)), xRun_cg m (k + 1) _ fun j h1 h2 => h j (by omega) (by omega)]
theorem xRun_sp {ok : Nat → Prop} {s : Nat} (hs : 0 < s) : ∀ (m k run : Nat), run ≤ k → (∀ j, k - run ≤ j → j < k → ok j) → xRun ok s m k run = -1 ∨ ∃ r, r + s ≤ k + m ∧ xRun ok s m k run = nI r ∧ ∀ j, r ≤ j → j < r + s → ok j
  | 0, _, _, _, _ => Or.inl rfl
  | m + 1, k, run, hr, h => by
    by_cases g : ok k
    · rw [xRun_y g]
      have h' : ∀ j, k + 1 - (run + 1) ≤ j → j < k + 1 → ok j := fun j h1 h2 => by
        rcases Nat.lt_or_ge j k with q | q
        · exact h j (by omega) q
        · obtain rfl : j = k := by omega
          exact g
      by_cases q : s ≤ run + 1
      · rw [if_pos q]
        exact Or.inr ⟨k + 1 - s, by omega, rfl, fun j h1 h2 => h' j (by omega) (by omega)⟩
      · rw [if_neg q]
        rcases xRun_sp hs m (k + 1) (run + 1) (by omega) h' with r | ⟨r, r1, r2, r3⟩
        · exact Or.inl r
        · exact Or.inr ⟨r, by omega, r2, r3⟩
    · rw [xRun_n g, if_neg (by omega)]
      rcases xRun_sp hs m (k + 1) 0 (by omega) (fun j h1 h2 => absurd h2 (by omega)) with r | ⟨r, r1, r2, r3⟩
      · exact Or.inl r
      · exact Or.inr ⟨r, by omega, r2, r3⟩