def wP (pg sz : Nat → Nat) : Nat := (if 0 < sz 0 then 2 ^ (pg 0 / 2) else 0) ||| (if 0 < sz 1 then 2 ^ (pg 1 / 2) else 0)
theorem wP_lt {pg sz : Nat → Nat} (h : ∀ i, i < 2 → 0 < sz i → pg i < 7) : wP pg sz < 32 := by
  unfold wP
  refine Nat.or_lt_two_pow (n := 5) ?_ ?_
  · split
    · exact Nat.pow_lt_pow_right (by decide) (by have := h 0 (by decide) (by assumption); omega)
    · decide
  · split
    · exact Nat.pow_lt_pow_right (by decide) (by have := h 1 (by decide) (by assumption); omega)
    · decide
/-- the class's search goes on in C, begun in C0; the model's in M, begun in M0 -/
abbrev cEnv (C0 C : xv_I) (gm : Int32) (L : Nat) : Prop := (∀ v j, (v < 20 ∨ 28 < v) → C v j = C0 v j) ∧ C 20 3 = gm ∧ C 20 4 = nI L
abbrev mEnv (M0 M : xv_I) : Prop := ∀ v j, mOut_ v j → M v j = M0 v j
abbrev eEnv (C0 M0 : xv_I) (gm y : Int32) (T : Nat) : Prop := (∀ p, p < 7 → C0 13 p = M0 61 p) ∧ (∀ p, p < 7 → ∀ z, xRun (xOpen C0 p gm) z 12 0 0 = mRun M0 p y z) ∧ M0 60 3 = nI T
/-- a way of one part or two -/
abbrev wOK (M0 : xv_I) (y : Int32) (pa : Nat) (pg st sz : Nat → Nat) : Prop := ((pa = 1 ∧ sz 1 = 0) ∨ (pa = 2 ∧ 0 < sz 1)) ∧ 0 < sz 0 ∧ ∀ i, i < 2 → sz i ≤ 12 ∧ (0 < sz i → pg i < 7 ∧ st i + sz i ≤ 12 ∧ mRun M0 (pg i) y (sz i) = nI (st i))
def sB (M0 C M : xv_I) (y : Int32) (G L T k : Nat) (pg st sz : Nat → Nat) : Prop := ∃ pa, wOK M0 y pa pg st sz ∧ C 21 0 = nI k ∧ M 60 43 = nI pa ∧ (∀ i, i < 2 → C 24 i = nI (sz i) ∧ (0 < sz i → C 22 i = nI (pg i) ∧ C 23 i = nI (st i) ∧ M 95 i = nI (pg i) ∧ M 96 i = nI (st i) ∧ M 97 i = nI (sz i))) ∧ C 20 5 = nI (cnt6 (wP pg sz &&& (31 ^^^ L))) ∧ M 60 47 = nI (cnt6 ((G ||| wP pg sz) &&& (31 ^^^ T)))
def sR (M0 C M : xv_I) (y : Int32) (G L T k : Nat) : Prop := (C 21 0 = 0 ∧ M 60 43 = 0) ∨ ∃ pg st sz, sB M0 C M y G L T k pg st sz
abbrev sMode (b : Int32) (G L T : Nat) : Prop := (L = 31 ∧ ¬ b = 0) ∨ (L = T ||| G ∧ b = 0)
abbrev tW (C : xv_I) (pg st sz : Nat → Nat) : Prop := ∀ i, i < 2 → C 28 i = nI (sz i) ∧ (0 < sz i → C 26 i = nI (pg i) ∧ C 27 i = nI (st i))
def ff2 (a b i : Nat) : Nat := if i = 0 then a else b
theorem xCost_n {C : xv_I} {pg st sz : Nat → Nat} {L : Nat} (hL : C 20 4 = nI L) (hL2 : L < 32) (h : tW C pg st sz) (h2 : ∀ i, i < 2 → sz i ≤ 12 ∧ (0 < sz i → pg i < 7)) : xCost C = nI (cnt6 (wP pg sz &&& (31 ^^^ L))) := by
  have e : ∀ i, i < 2 → ∀ a, xWPl1 C 25 i (nI a) = nI (a ||| if 0 < sz i then 2 ^ (pg i / 2) else 0) := fun i hi a => by
    obtain ⟨h3, h4⟩ := h i hi
    obtain ⟨h5, h6⟩ := h2 i hi
    unfold xWPl1
    rw [show 25 + 3 = 28 from rfl, show 25 + 1 = 26 from rfl, h3]
    by_cases g : 0 < sz i
    · rw [if_neg (nI_nle0 g (by omega)), if_pos g, (h4 g).1, xPlate_n (by have := h6 g; omega), fa_or]
    · rw [if_neg g, show sz i = 0 by omega, if_pos (by decide), Nat.or_zero]
  have ew : xWPl C 25 = nI (wP pg sz) := by
    unfold xWPl wP
    rw [it, it, it, e 0 (by decide), e 1 (by decide), Nat.zero_or]
  unfold xCost
  rw [ew, hL]
  exact kc1 _ (wP_lt fun i hi hs => (h2 i hi).2 hs) _ hL2
theorem xCopy_0 (C : xv_I) : xCopy 21 25 C 21 0 = C 25 0 := by
  simp [xCopy, it, xCopy1, xSetPart, xv_u]
theorem xKeep_fr (C : xv_I) {v j : Nat} (h : v < 20 ∨ 25 ≤ v ∨ (v = 20 ∧ j ≠ 5)) : xKeep C v j = C v j := by
  unfold xKeep
  by_cases g : C 21 0 = 0 ∨ xCost C < C 20 5
  · rw [iteP_t g, show xv_u (xCopy 21 25 C) 20 5 (xCost C) v j = xCopy 21 25 C v j from if_neg (by omega), xCopy_o _ _ (by omega)]
  · rw [iteP_f g]
theorem keep_rel {M0 C M : xv_I} {y b n p0 f0 z0 p1 f1 z1 : Int32} {G L T k pa : Nat} {pg st sz : Nat → Nat} (hG : G < 32) (hT : T < 32) (hL2 : L < 32) (hm : sMode b G L T) (hk : 1 ≤ k) (hk6 : k ≤ 6) (hR : sR M0 C M y G L T k) (h25 : C 25 0 = nI k) (hL : C 20 4 = nI L) (hw : wOK M0 y pa pg st sz) (ht : tW C pg st sz) (hn : n = nI (cnt6 ((G ||| wP pg sz) &&& (31 ^^^ T)))) (e0 : p0 = nI (pg 0) ∧ f0 = nI (st 0) ∧ z0 = nI (sz 0)) (e1 : 0 < sz 1 → p1 = nI (pg 1) ∧ f1 = nI (st 1) ∧ z1 = nI (sz 1)) : sR M0 (xKeep C) (iteP (mMay M b) (mKeep M (nI pa) n p0 f0 z0 p1 f1 z1) M) y G L T k := by
  have hpa : pa = 1 ∨ pa = 2 := hw.1.elim (fun q => Or.inl q.1) fun q => Or.inr q.1
  have hlt : ∀ i, i < 2 → 0 < sz i → pg i < 7 := fun i hi hs => ((hw.2.2 i hi).2 hs).1
  have hP : wP pg sz < 32 := wP_lt hlt
  have hc := xCost_n hL hL2 ht fun i hi => ⟨(hw.2.2 i hi).1, hlt i hi⟩
  have hnew : sB M0 (xv_u (xCopy 21 25 C) 20 5 (xCost C)) (mK M (nI pa) n p0 f0 z0 p1 f1 z1) y G L T k pg st sz := by
    refine ⟨pa, hw, ?_, ?_, fun i hi => ?_, ?_, ?_⟩
    · rw [xv_u_ne _ _ _ (by decide), xCopy_0, h25]
    · simp [mK, xv_u]
    · obtain ⟨r1, r2, r3⟩ := xCopy_rows C (w := 21) (u := 25) (Or.inl (by decide)) hi
      obtain ⟨t1, t2⟩ := ht i hi
      refine ⟨?_, fun hs => ?_⟩
      · rw [xv_u_ne _ _ _ (by decide)]
        exact r3.trans t1
      · obtain ⟨t3, t4⟩ := t2 hs
        refine ⟨?_, ?_, ?_⟩
        · rw [xv_u_ne _ _ _ (by decide)]
          exact r1.trans t3
        · rw [xv_u_ne _ _ _ (by decide)]
          exact r2.trans t4
        · rcases (show i = 0 ∨ i = 1 by omega) with rfl | rfl
          · rw [← e0.1, ← e0.2.1, ← e0.2.2]
            simp [mK, xv_u]
          · obtain ⟨u1, u2, u3⟩ := e1 hs
            rw [← u1, ← u2, ← u3]
            simp [mK, xv_u]
    · rw [xv_u_eq, hc]
    · rw [show mK M (nI pa) n p0 f0 z0 p1 f1 z1 60 47 = n by simp [mK, xv_u], hn]
  rcases hR with ⟨h1, h2⟩ | ⟨pg9, st9, sz9, h9⟩
  · refine Or.inr ⟨pg, st, sz, ?_⟩
    unfold xKeep mKeep
    rw [iteP_t (Or.inl h1), iteP_t (Or.inl h2 : mMay M b), iteP_t (Or.inl h2)]
    exact hnew
  · obtain ⟨pa9, w1, w2, w3, w4, w5, w6⟩ := h9
    have hpa9 : pa9 = 1 ∨ pa9 = 2 := w1.1.elim (fun q => Or.inl q.1) fun q => Or.inr q.1
    have hP9 : wP pg9 sz9 < 32 := wP_lt fun i hi hs => ((w1.2.2 i hi).2 hs).1
    have n1 : ¬ C 21 0 = 0 := by rw [w2]; exact nI_n0 hk (by omega)
    have n2 : ¬ M 60 43 = 0 := by rw [w3]; exact nI_n0 (by omega) (by omega)
    have b1 : ∀ P, P < 32 → ∀ X, cnt6 (P &&& X) < 7 := fun P hP X => kc4 _ (Nat.lt_of_le_of_lt Nat.and_le_left hP)
    have hold : sB M0 C M y G L T k pg9 st9 sz9 := ⟨pa9, w1, w2, w3, w4, w5, w6⟩
    have c1 := b1 _ hP (31 ^^^ L)
    have c2 := b1 _ hP9 (31 ^^^ L)
    have c3 := b1 _ (Nat.or_lt_two_pow (n := 5) hG hP) (31 ^^^ T)
    have c4 := b1 _ (Nat.or_lt_two_pow (n := 5) hG hP9) (31 ^^^ T)
    by_cases hkeep : cnt6 (wP pg sz &&& (31 ^^^ L)) < cnt6 (wP pg9 sz9 &&& (31 ^^^ L))
    · rcases hm with ⟨m1, m2⟩ | ⟨m1, m2⟩
      · exfalso
        rw [m1] at hkeep
        simp at hkeep
      · refine Or.inr ⟨pg, st, sz, ?_⟩
        have k1 := kc3 G hG _ hP T hT
        have k2 := kc3 G hG _ hP9 T hT
        rw [m1] at hkeep
        unfold xKeep mKeep
        rw [iteP_t (Or.inr (by rw [hc, w5]; exact (nI_lt2 (by omega) (by omega)).mpr (by rw [m1]; exact hkeep))), iteP_t (Or.inr m2 : mMay M b), iteP_t (Or.inr (by rw [hn, w6]; exact (nI_lt2 (by omega) (by omega)).mpr (by omega)))]
        exact hnew
    · have x1 : xKeep C = C := by
        unfold xKeep
        rw [iteP_f]
        rintro (q | q)
        · exact n1 q
        · rw [hc, w5] at q
          exact hkeep ((nI_lt2 (by omega) (by omega)).mp q)
      have x2 : iteP (mMay M b) (mKeep M (nI pa) n p0 f0 z0 p1 f1 z1) M = M := by
        rcases hm with ⟨m1, m2⟩ | ⟨m1, m2⟩
        · rw [iteP_f fun q => q.elim n2 m2]
        · have k1 := kc3 G hG _ hP T hT
          have k2 := kc3 G hG _ hP9 T hT
          rw [m1] at hkeep
          rw [iteP_t (Or.inr m2 : mMay M b)]
          unfold mKeep
          rw [iteP_f]
          rintro (q | q)
          · exact n2 q
          · rw [hn, w6] at q
            have := (nI_lt2 (by omega) (by omega)).mp q
            omega
      rw [x1, x2]
      exact Or.inr ⟨pg9, st9, sz9, hold⟩
theorem it_rel {R : xv_I → xv_I → Prop} {f g : Nat → xv_I → xv_I} : ∀ (m k : Nat) (C M : xv_I), (∀ i C M, k ≤ i → i < k + m → R C M → R (f i C) (g i M)) → R C M → R (it f m k C) (it g m k M)
  | 0, _, _, _, _, h => h
  | m + 1, k, C, M, hf, h => by
    rw [it, it]
    exact it_rel m (k + 1) _ _ (fun i C M h1 h2 => hf i C M (by omega) (by omega)) (hf k C M (Nat.le_refl _) (by omega) h)
/-- what holds at every step -/
abbrev jR (C0 M0 C M : xv_I) (gm y : Int32) (G L T k : Nat) : Prop := cEnv C0 C gm L ∧ mEnv M0 M ∧ sR M0 C M y G L T k ∧ C 25 0 = nI k
theorem run_c {C0 C M0 : xv_I} {gm y : Int32} {L T : Nat} (hE : eEnv C0 M0 gm y T) (hC : cEnv C0 C gm L) {p : Nat} (hp : p < 7) (z : Nat) : xRun (xOpen C p (C 20 3)) z 12 0 0 = mRun M0 p y z := by
  rw [← hE.2.1 p hp z]
  refine xRun_cg 12 0 0 fun j _ _ => ?_
  unfold xOpen
  rw [hC.1 (3 + p) _ (by omega), hC.2.1]
theorem run_m {M0 M : xv_I} {y : Int32} (hM : mEnv M0 M) {p : Nat} (hp : p < 7) (z : Nat) : mRun M p y z = mRun M0 p y z := by
  refine xRun_cg 12 0 0 fun j _ _ => ?_
  unfold mOpen
  rw [hM 63 _ (by unfold mOut_; omega)]
theorem run_ok {M0 : xv_I} {p z : Nat} {y : Int32} (hz : 0 < z) (h : ¬ mRun M0 p y z = -1) : ∃ f, mRun M0 p y z = nI f ∧ f + z ≤ 12 := by
  rcases xRun_sp (ok := mOpen M0 p y) hz 12 0 0 (Nat.le_refl _) (fun j h1 h2 => absurd h2 (Nat.not_lt_zero _)) with q | ⟨r, r1, r2, -⟩
  · exact absurd q h
  · exact ⟨r, r2, by omega⟩
theorem mKeep_env {M0 M : xv_I} (hM : mEnv M0 M) (pa n p f z p2 f2 z2 : Int32) (P : Prop) : mEnv M0 (iteP P (mKeep M pa n p f z p2 f2 z2) M) := fun v j h => by
  by_cases g : P
  · rw [iteP_t g, mKeep_o _ h.1 h.2]
    exact hM v j h
  · rw [iteP_f g]
    exact hM v j h
theorem iteP_and {α : Type} {P Q : Prop} (h : P) (a c : α) : iteP (P ∧ Q) a c = iteP Q a c := iteP_iff ⟨fun q => q.2, fun q => ⟨h, q⟩⟩ a c
theorem one_rel {C0 M0 : xv_I} {gm y b sc : Int32} {G L T k z : Nat} (hG : G < 32) (hT : T < 32) (hL2 : L < 32) (hm : sMode b G L T) (hE : eEnv C0 M0 gm y T) (hk : 1 ≤ k) (hk6 : k ≤ 6) (hz : 0 < z) {p : Nat} (hp : p < 7) {C M : xv_I} (h : jR C0 M0 C M gm y G L T k ∧ C 28 1 = nI 0) : jR C0 M0 (xOne1 sc z p C) (mOne1 sc y b (nI G) z p M) gm y G L T k ∧ xOne1 sc z p C 28 1 = nI 0 := by
  obtain ⟨⟨hC, hM, hR, h25⟩, h28⟩ := h
  have es : C 13 p = M 61 p := by rw [hC.1 13 p (by omega), hM 61 p (by unfold mOut_; omega)]; exact hE.1 p hp
  have er := run_c hE hC hp z
  have er2 := run_m (y := y) hM hp z
  unfold xOne1 mOne1
  by_cases hok : M 61 p = sc ∧ ¬ mRun M p y z = -1
  · have hok2 : xSRok C p sc z := ⟨es.trans hok.1, by rw [er, ← er2]; exact hok.2⟩
    rw [iteP_t hok2, iteP_and hok]
    unfold xSR
    rw [iteP_t hok2]
    obtain ⟨f, f1, f2⟩ := run_ok hz (by rw [← er2]; exact hok.2)
    unfold xSRI
    rw [er, er2, f1]
    have fr : ∀ v j, (v < 26 ∨ 28 < v) → xSetPart 25 0 (nI p) (nI f) (nI z) C v j = C v j := fun v j hv => xSetPart_o _ _ _ _ _ (by omega)
    have fr1 : xSetPart 25 0 (nI p) (nI f) (nI z) C 28 1 = C 28 1 := by simp [xSetPart, xv_u]
    generalize hC' : xSetPart 25 0 (nI p) (nI f) (nI z) C = C' at fr fr1
    have t0 : C' 26 0 = nI p ∧ C' 27 0 = nI f ∧ C' 28 0 = nI z := by rw [← hC']; simp [xSetPart, xv_u]
    have hP : wP (fun _ => p) (ff2 z 0) = 2 ^ (p / 2) := by simp [wP, ff2, hz]
    have hco : mCo1 M (nI G) p = nI (cnt6 ((G ||| wP (fun _ => p) (ff2 z 0)) &&& (31 ^^^ T))) := by
      unfold mCo1
      rw [hM 60 3 (by unfold mOut_; omega), hE.2.2, fa_or, fa_or, Nat.or_zero, hP]
      exact kc2 _ (Nat.or_lt_two_pow (n := 5) hG (Nat.pow_lt_pow_right (by decide) (by omega))) _ hT
    refine ⟨⟨⟨fun v j hv => ?_, ?_, ?_⟩, mKeep_env hM _ _ _ _ _ _ _ _ _, ?_, ?_⟩, ?_⟩
    · rw [xKeep_fr _ (by omega), fr v j (by omega)]
      exact hC.1 v j hv
    · rw [xKeep_fr _ (by omega), fr 20 3 (by omega)]
      exact hC.2.1
    · rw [xKeep_fr _ (by omega), fr 20 4 (by omega)]
      exact hC.2.2
    · refine keep_rel (pa := 1) (pg := fun _ => p) (st := fun _ => f) (sz := ff2 z 0) hG hT hL2 hm hk hk6 ?_ ((fr 25 0 (by omega)).trans h25) ((fr 20 4 (by omega)).trans hC.2.2) ⟨Or.inl ⟨rfl, rfl⟩, hz, fun i hi => ?_⟩ (fun i hi => ?_) hco ⟨rfl, rfl, rfl⟩ (fun q => absurd (show 0 < 0 from q) (by decide))
      · rcases hR with q | ⟨pg9, st9, sz9, pa9, w1, w2, w3, w4, w5, w6⟩
        · exact Or.inl ⟨(fr 21 0 (by omega)).trans q.1, q.2⟩
        · exact Or.inr ⟨pg9, st9, sz9, pa9, w1, (fr 21 0 (by omega)).trans w2, w3, fun i hi => by rw [fr 24 i (by omega), fr 22 i (by omega), fr 23 i (by omega)]; exact w4 i hi, (fr 20 5 (by omega)).trans w5, w6⟩
      · rcases (show i = 0 ∨ i = 1 by omega) with rfl | rfl
        · exact ⟨show z ≤ 12 by omega, fun _ => ⟨hp, f2, f1⟩⟩
        · exact ⟨show 0 ≤ 12 by decide, fun q => absurd (show 0 < 0 from q) (by decide)⟩
      · rcases (show i = 0 ∨ i = 1 by omega) with rfl | rfl
        · exact ⟨t0.2.2, fun _ => ⟨t0.1, t0.2.1⟩⟩
        · exact ⟨fr1.trans h28, fun q => absurd (show 0 < 0 from q) (by decide)⟩
    · rw [xKeep_fr _ (by omega), fr 25 0 (by omega)]
      exact h25
    · rw [xKeep_fr _ (by omega), fr1]
      exact h28
  · rw [iteP_f (fun q => hok ⟨es.symm.trans q.1, by rw [er2, ← er]; exact q.2⟩), iteP_f (fun q => hok q.1)]
    exact ⟨⟨hC, hM, hR, h25⟩, h28⟩
theorem two_rel {C0 M0 : xv_I} {gm y b : Int32} {G L T k z1 z2 p f : Nat} (hG : G < 32) (hT : T < 32) (hL2 : L < 32) (hm : sMode b G L T) (hE : eEnv C0 M0 gm y T) (hk : 1 ≤ k) (hk6 : k ≤ 6) (hz1 : 0 < z1) (hz : 0 < z2) (hp : p < 7) (hf : mRun M0 p y z1 = nI f) (hf2 : f + z1 ≤ 12) {q : Nat} (hq : q < 7) {C M : xv_I} (h : jR C0 M0 C M gm y G L T k ∧ C 26 0 = nI p ∧ C 27 0 = nI f ∧ C 28 0 = nI z1) : jR C0 M0 (xTwo2 z2 q C) (mTwo2 y b (nI G) (nI f) z1 z2 p q M) gm y G L T k ∧ xTwo2 z2 q C 26 0 = nI p ∧ xTwo2 z2 q C 27 0 = nI f ∧ xTwo2 z2 q C 28 0 = nI z1 := by
  obtain ⟨⟨hC, hM, hR, h25⟩, h26, h27, h28⟩ := h
  have es : C 13 q = M 61 q := by rw [hC.1 13 q (by omega), hM 61 q (by unfold mOut_; omega)]; exact hE.1 q hq
  have er := run_c hE hC hq z2
  have er2 := run_m (y := y) hM hq z2
  unfold xTwo2 mTwo2
  by_cases hok : M 61 q = 0 ∧ ¬ mRun M q y z2 = -1
  · have hok2 : xSRok C q (nI 0) z2 := ⟨es.trans hok.1, by rw [er, ← er2]; exact hok.2⟩
    rw [iteP_t hok2, iteP_and hok]
    unfold xSR
    rw [iteP_t hok2]
    obtain ⟨f9, f1, f2⟩ := run_ok hz (by rw [← er2]; exact hok.2)
    unfold xSRI
    rw [er, er2, f1]
    have fr : ∀ v j, (v < 26 ∨ 28 < v ∨ j = 0) → xSetPart 25 1 (nI q) (nI f9) (nI z2) C v j = C v j := fun v j hv => by
      by_cases g : j = 0
      · subst g
        simp [xSetPart, xv_u]
      · exact xSetPart_o _ _ _ _ _ (by omega)
    generalize hC' : xSetPart 25 1 (nI q) (nI f9) (nI z2) C = C' at fr
    have t0 : C' 26 1 = nI q ∧ C' 27 1 = nI f9 ∧ C' 28 1 = nI z2 := by rw [← hC']; simp [xSetPart, xv_u]
    have hP : wP (ff2 p q) (ff2 z1 z2) = 2 ^ (p / 2) ||| 2 ^ (q / 2) := by simp [wP, ff2, hz1, hz]
    have hco : mCo2 M (nI G) p q = nI (cnt6 ((G ||| wP (ff2 p q) (ff2 z1 z2)) &&& (31 ^^^ T))) := by
      unfold mCo2
      rw [hM 60 3 (by unfold mOut_; omega), hE.2.2, fa_or, fa_or, hP, Nat.or_assoc]
      exact kc2 _ (Nat.or_lt_two_pow (n := 5) hG (Nat.or_lt_two_pow (n := 5) (Nat.pow_lt_pow_right (by decide) (by omega)) (Nat.pow_lt_pow_right (by decide) (by omega)))) _ hT
    refine ⟨⟨⟨fun v j hv => ?_, ?_, ?_⟩, mKeep_env hM _ _ _ _ _ _ _ _ _, ?_, ?_⟩, ?_, ?_, ?_⟩
    · rw [xKeep_fr _ (by omega), fr v j (by omega)]
      exact hC.1 v j hv
    · rw [xKeep_fr _ (by omega), fr 20 3 (by omega)]
      exact hC.2.1
    · rw [xKeep_fr _ (by omega), fr 20 4 (by omega)]
      exact hC.2.2
    · refine keep_rel (pa := 2) (pg := ff2 p q) (st := ff2 f f9) (sz := ff2 z1 z2) hG hT hL2 hm hk hk6 ?_ ((fr 25 0 (by omega)).trans h25) ((fr 20 4 (by omega)).trans hC.2.2) ⟨Or.inr ⟨rfl, hz⟩, hz1, fun i hi => ?_⟩ (fun i hi => ?_) hco ⟨rfl, rfl, rfl⟩ (fun _ => ⟨rfl, rfl, rfl⟩)
      · rcases hR with u | ⟨pg9, st9, sz9, pa9, w1, w2, w3, w4, w5, w6⟩
        · exact Or.inl ⟨(fr 21 0 (by omega)).trans u.1, u.2⟩
        · exact Or.inr ⟨pg9, st9, sz9, pa9, w1, (fr 21 0 (by omega)).trans w2, w3, fun i hi => by rw [fr 24 i (by omega), fr 22 i (by omega), fr 23 i (by omega)]; exact w4 i hi, (fr 20 5 (by omega)).trans w5, w6⟩
      · rcases (show i = 0 ∨ i = 1 by omega) with rfl | rfl
        · exact ⟨show z1 ≤ 12 by omega, fun _ => ⟨hp, hf2, hf⟩⟩
        · exact ⟨show z2 ≤ 12 by omega, fun _ => ⟨hq, f2, f1⟩⟩
      · rcases (show i = 0 ∨ i = 1 by omega) with rfl | rfl
        · exact ⟨(fr 28 0 (by omega)).trans h28, fun _ => ⟨(fr 26 0 (by omega)).trans h26, (fr 27 0 (by omega)).trans h27⟩⟩
        · exact ⟨t0.2.2, fun _ => ⟨t0.1, t0.2.1⟩⟩
    · rw [xKeep_fr _ (by omega), fr 25 0 (by omega)]
      exact h25
    · rw [xKeep_fr _ (by omega), fr 26 0 (by omega)]
      exact h26
    · rw [xKeep_fr _ (by omega), fr 27 0 (by omega)]
      exact h27
    · rw [xKeep_fr _ (by omega), fr 28 0 (by omega)]
      exact h28
  · rw [iteP_f (fun u => hok ⟨es.symm.trans u.1, by rw [er2, ← er]; exact u.2⟩), iteP_f (fun u => hok u.1)]
    exact ⟨⟨hC, hM, hR, h25⟩, h26, h27, h28⟩
theorem two1_rel {C0 M0 : xv_I} {gm y b sc : Int32} {G L T k z1 z2 : Nat} (hG : G < 32) (hT : T < 32) (hL2 : L < 32) (hm : sMode b G L T) (hE : eEnv C0 M0 gm y T) (hk : 1 ≤ k) (hk6 : k ≤ 6) (hz1 : 0 < z1) (hz : 0 < z2) {p : Nat} (hp : p < 7) {C M : xv_I} (h : jR C0 M0 C M gm y G L T k) : jR C0 M0 (xTwo1 sc z1 z2 p C) (mTwo1 sc y b (nI G) z1 z2 p M) gm y G L T k := by
  obtain ⟨hC, hM, hR, h25⟩ := h
  have es : C 13 p = M 61 p := by rw [hC.1 13 p (by omega), hM 61 p (by unfold mOut_; omega)]; exact hE.1 p hp
  have er := run_c hE hC hp z1
  have er2 := run_m (y := y) hM hp z1
  unfold xTwo1 mTwo1
  by_cases hok : M 61 p = sc ∧ ¬ mRun M p y z1 = -1
  · have hok2 : xSRok C p sc z1 := ⟨es.trans hok.1, by rw [er, ← er2]; exact hok.2⟩
    rw [iteP_t hok2, iteP_t hok]
    unfold xSR
    rw [iteP_t hok2]
    obtain ⟨f, f1, f2⟩ := run_ok hz1 (by rw [← er2]; exact hok.2)
    unfold xSRI
    rw [er, er2, f1]
    have fr : ∀ v j, (v < 26 ∨ 28 < v) → xSetPart 25 0 (nI p) (nI f) (nI z1) C v j = C v j := fun v j hv => xSetPart_o _ _ _ _ _ (by omega)
    generalize hC' : xSetPart 25 0 (nI p) (nI f) (nI z1) C = C' at fr
    have t0 : C' 26 0 = nI p ∧ C' 27 0 = nI f ∧ C' 28 0 = nI z1 := by rw [← hC']; simp [xSetPart, xv_u]
    refine (it_rel (R := fun C M => jR C0 M0 C M gm y G L T k ∧ C 26 0 = nI p ∧ C 27 0 = nI f ∧ C 28 0 = nI z1) (f := xTwo2 z2) (g := mTwo2 y b (nI G) (nI f) z1 z2 p) (7 - (p + 1)) (p + 1) C' M (fun q C M h1 h2 h => two_rel hG hT hL2 hm hE hk hk6 hz1 hz hp f1 f2 (by omega) h) ⟨⟨⟨fun v j hv => (fr v j (by omega)).trans (hC.1 v j hv), (fr 20 3 (by omega)).trans hC.2.1, (fr 20 4 (by omega)).trans hC.2.2⟩, hM, ?_, (fr 25 0 (by omega)).trans h25⟩, t0⟩).1
    rcases hR with u | ⟨pg9, st9, sz9, pa9, w1, w2, w3, w4, w5, w6⟩
    · exact Or.inl ⟨(fr 21 0 (by omega)).trans u.1, u.2⟩
    · exact Or.inr ⟨pg9, st9, sz9, pa9, w1, (fr 21 0 (by omega)).trans w2, w3, fun i hi => by rw [fr 24 i (by omega), fr 22 i (by omega), fr 23 i (by omega)]; exact w4 i hi, (fr 20 5 (by omega)).trans w5, w6⟩
  · rw [iteP_f (fun u => hok ⟨es.symm.trans u.1, by rw [er2, ← er]; exact u.2⟩), iteP_f hok]
    exact ⟨hC, hM, hR, h25⟩
theorem twoL_rel {C0 M0 : xv_I} {gm y b sc : Int32} {G L T k np : Nat} {cz : Nat → Nat → Nat} (hG : G < 32) (hT : T < 32) (hL2 : L < 32) (hm : sMode b G L T) (hE : eEnv C0 M0 gm y T) (hk : 1 ≤ k) (hk6 : k ≤ 6) (hcz : ∀ f t, f < t → t ≤ np → 0 < cz f t) (hkn : k ≤ np) : ∀ (h : Nat) (C M : xv_I), h < k → jR C0 M0 C M gm y G L T k → jR C0 M0 (xTwoL sc cz k h C) (mTwoL sc y b (nI G) cz k h M) gm y G L T k
  | 0, _, _, _, hJ => hJ
  | h + 1, C, M, hh, hJ => by
    rw [xTwoL, mTwoL]
    refine twoL_rel hG hT hL2 hm hE hk hk6 hcz hkn h _ _ (by omega) ?_
    unfold xTwoA mTwoA
    exact it_rel (R := fun C M => jR C0 M0 C M gm y G L T k) (f := xTwo1 sc (cz 0 (h + 1)) (cz (h + 1) k)) (g := mTwo1 sc y b (nI G) (cz 0 (h + 1)) (cz (h + 1) k)) 7 0 C M (fun p C M _ h2 h => two1_rel hG hT hL2 hm hE hk hk6 (hcz _ _ (by omega) (by omega)) (hcz _ _ hh hkn) (by omega) h) hJ
theorem mid_rel {C0 M0 : xv_I} {gm y b sc : Int32} {G L T k np : Nat} {cz : Nat → Nat → Nat} (hG : G < 32) (hT : T < 32) (hL2 : L < 32) (hm : sMode b G L T) (hE : eEnv C0 M0 gm y T) (hk : 1 ≤ k) (hk6 : k ≤ 6) (hcz : ∀ f t, f < t → t ≤ np → 0 < cz f t) (hkn : k ≤ np) {C M : xv_I} (hC : cEnv C0 C gm L) (hM : mEnv M0 M) (h0 : C 21 0 = 0) : jR C0 M0 (xMid sc cz k C) (mWays sc y b (nI G) cz k M) gm y G L T k := by
  have h1 : jR C0 M0 (xOne sc (cz 0 k) k C) (mOneA sc y b (nI G) (cz 0 k) M) gm y G L T k := by
    unfold xOne mOneA
    refine (it_rel (R := fun C M => jR C0 M0 C M gm y G L T k ∧ C 28 1 = nI 0) (f := xOne1 sc (cz 0 k)) (g := mOne1 sc y b (nI G) (cz 0 k)) 7 0 _ _ (fun p C M _ h2 h => one_rel hG hT hL2 hm hE hk hk6 (hcz 0 k (by omega) hkn) (by omega) h) ⟨⟨⟨fun v j hv => ?_, ?_, ?_⟩, fun v j hv => ?_, Or.inl ⟨?_, ?_⟩, ?_⟩, ?_⟩).1
    · rw [xv_u_ne _ _ _ (by omega), xClear_o _ _ (by omega)]
      exact hC.1 v j hv
    · rw [xv_u_ne _ _ _ (by omega), xClear_o _ _ (by omega)]
      exact hC.2.1
    · rw [xv_u_ne _ _ _ (by omega), xClear_o _ _ (by omega)]
      exact hC.2.2
    · rw [show xv_u M 60 43 (nI 0) v j = M v j from if_neg (by have := hv.2; omega)]
      exact hM v j hv
    · rw [xv_u_ne _ _ _ (by omega), xClear_o _ _ (by omega)]
      exact h0
    · rw [xv_u_eq]
      rfl
    · rw [xv_u_eq]
    · rw [xv_u_ne _ _ _ (by omega)]
      exact xClear_3 25 C (i := 1) (by decide)
  unfold xMid mWays
  rcases h1.2.2.1 with ⟨q1, q2⟩ | ⟨pg, st, sz, pa, w1, w2, w3, w4⟩
  · rw [if_pos q1, if_pos (by rw [q2]; decide)]
    unfold xTwo
    refine twoL_rel hG hT hL2 hm hE hk hk6 hcz hkn (k - 1) _ _ (by omega) ⟨⟨fun v j hv => ?_, ?_, ?_⟩, h1.2.1, Or.inl ⟨?_, q2⟩, ?_⟩
    · rw [xv_u_ne _ _ _ (by omega)]
      exact h1.1.1 v j hv
    · rw [xv_u_ne _ _ _ (by omega)]
      exact h1.1.2.1
    · rw [xv_u_ne _ _ _ (by omega)]
      exact h1.1.2.2
    · rw [xv_u_ne _ _ _ (by omega)]
      exact q1
    · rw [xv_u_eq]
  · have hpa : pa = 1 ∨ pa = 2 := w1.1.elim (fun q => Or.inl q.1) fun q => Or.inr q.1
    rw [if_neg (by rw [w2]; exact nI_n0 hk (by omega)), if_neg (by rw [w3]; exact nI_nle0 (by omega) (by omega))]
    exact h1
theorem find_rel {C0 M0 : xv_I} {gm y b sc : Int32} {G L T np lo : Nat} {cz : Nat → Nat → Nat} (hG : G < 32) (hT : T < 32) (hL2 : L < 32) (hm : sMode b G L T) (hE : eEnv C0 M0 gm y T) (hlo : 1 ≤ lo) (hnp : np ≤ 6) (hcz : ∀ f t, f < t → t ≤ np → 0 < cz f t) : ∀ (m k : Nat) (C M : xv_I), k + 1 = lo + m → k ≤ np → cEnv C0 C gm L → mEnv M0 M → C 21 0 = 0 → (∀ v j, (v < 20 ∨ 28 < v) → (xFindL sc cz m k C).2 v j = C0 v j) ∧ (((xFindL sc cz m k C).1 = nI 0 ∧ (mFindL sc y b (nI G) cz m k M).1 = nI 0) ∨ ((xFindL sc cz m k C).1 = nI 1 ∧ ∃ u, 1 ≤ u ∧ u ≤ np ∧ (mFindL sc y b (nI G) cz m k M).1 = nI u ∧ ∃ pg st sz, sB M0 (xFindL sc cz m k C).2 (mFindL sc y b (nI G) cz m k M).2 y G L T u pg st sz))
  | 0, k, C, M, _, _, hC, _, _ => ⟨hC.1, Or.inl ⟨rfl, rfl⟩⟩
  | m + 1, k, C, M, hk, hkn, hC, hM, h0 => by
    have h1 := mid_rel (sc := sc) (b := b) hG hT hL2 hm hE (k := k) (by omega) (by omega) hcz hkn hC hM h0
    rw [xFindL, mFindL]
    rcases h1.2.2.1 with ⟨q1, q2⟩ | ⟨pg, st, sz, hB⟩
    · rw [if_pos (by rw [q1]; decide), if_pos (by rw [q2]; decide)]
      exact find_rel hG hT hL2 hm hE hlo hnp hcz m (k - 1) _ _ (by omega) (by omega) h1.1 h1.2.1 q1
    · obtain ⟨pa, w1, w2, w3, w4⟩ := hB
      have hpa : pa = 1 ∨ pa = 2 := w1.1.elim (fun q => Or.inl q.1) fun q => Or.inr q.1
      rw [if_neg (by rw [w2]; exact nI_nle0 (by omega) (by omega)), if_neg (by rw [w3]; exact nI_nle0 (by omega) (by omega))]
      exact ⟨h1.1.1, Or.inr ⟨rfl, k, by omega, hkn, rfl, pg, st, sz, pa, w1, w2, w3, w4⟩⟩