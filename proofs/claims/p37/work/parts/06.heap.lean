section XVH
variable {M : xv_M} {d mc ms kc ks : Nat} {Q : xv_Q} {sh : xv_Sh} {I : xv_I} {Rf : xv_Rf} {J : xv_J} {pc pc' tgt : Nat} {L : List (Option Value)} {S : List Value}
/-- one cell written -/
theorem xv_R.wr {s : State} {D : va_G} {ad : Nat → Nat} {ca : Nat → ClassId} {sh : xv_Sh} {I I' : xv_I} {Rf Rf' : xv_Rf} {J J' : xv_J} {H H1 : Heap} {v : Nat} {x : xv_S} (h : xv_R s D ad ca sh I Rf J H) (hv : sh v = some x) (hn : xv_at s D ad ca I' Rf' J' H1 v x) (oq : ∀ q, q ≠ ad v → H1[q]? = H[q]?)
    (hI : ∀ w k, w ≠ v → I' w k = I w k) (hRf : ∀ w k, w ≠ v → Rf' w k = Rf w k) (hJ : ∀ w k, w ≠ v → J' w k = J w k) (hr : ∀ k w, Rf' v k = some w → sh w ≠ none) : xv_R s D ad ca sh I' Rf' J' H1 := by
  refine ⟨fun w y hy => ?_, h.2.1, fun w k z hw hz => ?_⟩
  · by_cases e : w = v
    · subst e
      cases hv.symm.trans hy
      exact hn
    · have hne : ad w ≠ ad v := fun q => e (h.2.1 w v (by rw [hy]; simp) (by rw [hv]; simp) q)
      exact ((h.1 w y hy).kept (oq _ hne)).cong rfl rfl (fun k => hI w k e) (fun k => hRf w k e) (fun k => hJ w k e) (fun _ _ _ => rfl)
  · by_cases e : w = v
    · subst e
      exact hr k z hz
    · rw [hRf w k e] at hz
      exact h.2.2 w k z hw hz
/-- a field, by the constant pool of a class: place in the pool, the class's place, the field's -/
def xv_G (own : String) (idx ci k : Nat) : Prop := ∃ (C : String) (T : u_T) (N : Nat), vwCl[ci]? = some (C, T, N) ∧ k < N ∧ (∀ w ∈ u_ws C T N, w ∈ xv_tbl) ∧ (Cond.fieldLink own idx (T k).1 (T k).2.1 (T k).2.2.1 ∈ xv_tbl ∨ ∃ host, Cond.fieldLinkNest own idx (T k).1 (T k).2.1 (T k).2.2.1 host ∈ xv_tbl)
theorem xv_one {s : State} {D : va_G} {ad : Nat → Nat} {ca : Nat → ClassId} {I : xv_I} {Rf : xv_Rf} {J : xv_J} {H : Heap} {v ci : Nat} {C : String} {T : u_T} {N : Nat} (h : xv_at s D ad ca I Rf J H v (.inl ci)) (hc : vwCl[ci]? = some (C, T, N)) : va_P D vwCl [(ad v, .inr (ci, (List.range N).map (xv_sl ad I Rf ci v)))] H := by
  intro k q hq
  have hk : k < 1 := (List.getElem?_eq_some_iff.mp hq).1
  rw [show k = 0 by omega] at hq
  cases hq
  obtain ⟨r, h1, h2⟩ := h
  cases h1.symm.trans hc
  refine ⟨_, hc, h2.to fun j hj => ?_⟩
  simp only [vp_V]
  rw [List.getD_eq_getElem?_getD, List.getElem?_map, List.getElem?_range hj]
  rfl
theorem xv_fld {ad : Nat → Nat} {I : xv_I} {Rf : xv_Rf} {ci v N k : Nat} (hk : k < N) : ((List.range N).map (xv_sl ad I Rf ci v))[k]? = some (xv_sl ad I Rf ci v k) := by
  rw [List.getElem?_map, List.getElem?_range hk]
  rfl
theorem xv_get {ci k v idx : Nat} (hf : xv_F M pc (.getfield idx) 3 pc') (hg : xv_G M.1.cls idx ci k) (hv : sh v = some (.inl ci)) {x : Value} (hx : ∀ ad : Nat → Nat, xv_tr ad x = xv_sl ad I Rf ci v k) (ho : (∀ w, Rf v k = some w → sh w ≠ none) → xv_ok sh x)
    (kk : xv_W M d mc ms Q kc ks sh I Rf J pc' L (x :: S)) : xv_W M d mc ms Q kc ks sh I Rf J pc L (.ref v :: S) := by
  obtain ⟨h1, rfl⟩ := hf
  obtain ⟨Cn, T, N, g1, g2, g3, g4⟩ := hg
  intro p l e R s m args below meth c D A sh0 ad0 ca0 ad ca H locs cells slots ls C X hw hR hS hL hO hc hs
  have hP := xv_one (hR.1 v _ hv) g1
  have K := kk (below := below) (e := e) C X hw hR hS hL (List.forall_mem_cons.mpr ⟨ho (fun w hw => hR.2.2 v k w (by rw [hv]; simp) hw), xv_ok_t hO⟩) hc hs
  rw [List.map_cons, hx ad] at K
  rcases g4 with g4 | ⟨host, g4⟩
  · exact va_get (D := D) (cl := vwCl) (tys := []) C.1 C.2.1 C.2.2.2.2.2.1 g3 C.2.2.2.2.1 C.2.2.2.2.2.2.2.2.2.1 hP 0 rfl g1 k g2 (C.2.2.2.2.2.1 _ g4) (fun _ h => h) (xv_fld g2) h1 K
  · exact va_getN (D := D) (cl := vwCl) (tys := []) C.1 C.2.1 C.2.2.2.2.2.1 g3 C.2.2.2.2.1 C.2.2.2.2.2.2.2.2.2.1 hP 0 rfl g1 k g2 (C.2.2.2.2.2.1 _ g4) (fun _ h => h) (xv_fld g2) h1 K
theorem xv_getI {ci k v idx : Nat} (hf : xv_F M pc (.getfield idx) 3 pc') (hg : xv_G M.1.cls idx ci k) (ht : (xv_ft ci k).isReference = false) (hv : sh v = some (.inl ci))
    (kk : xv_W M d mc ms Q kc ks sh I Rf J pc' L (.int (I v k) :: S)) : xv_W M d mc ms Q kc ks sh I Rf J pc L (.ref v :: S) :=
  xv_get (x := .int (I v k)) hf hg hv (fun ad => by unfold xv_sl; rw [if_neg (by rw [ht]; decide)]; rfl) (fun _ => trivial) kk
theorem xv_getR {ci k v idx : Nat} {o : Nat} (hf : xv_F M pc (.getfield idx) 3 pc') (hg : xv_G M.1.cls idx ci k) (ht : (xv_ft ci k).isReference = true) (hv : sh v = some (.inl ci)) (hr : Rf v k = some o)
    (kk : xv_W M d mc ms Q kc ks sh I Rf J pc' L (.ref o :: S)) : xv_W M d mc ms Q kc ks sh I Rf J pc L (.ref v :: S) :=
  xv_get (x := .ref o) hf hg hv (fun ad => by unfold xv_sl; rw [if_pos ht, hr]; rfl) (fun h => h o hr) kk
theorem xv_updsl {ad : Nat → Nat} {I I' : xv_I} {Rf Rf' : xv_Rf} {ci v k N : Nat} {x : Value} (hx : xv_sl ad I' Rf' ci v k = x) (ho : ∀ j, j ≠ k → xv_sl ad I' Rf' ci v j = xv_sl ad I Rf ci v j) : ∀ j, j < N → updV (xv_sl ad I Rf ci v) k x j = xv_sl ad I' Rf' ci v j := by
  intro j _
  unfold updV
  by_cases e : j = k
  · subst e
    rw [if_pos rfl, hx]
  · rw [if_neg e, ho j e]
/-- a field gets something (not a final one) -/
theorem xv_put {ci k v idx : Nat} {x : Value} {I' : xv_I} {Rf' : xv_Rf} (hf : xv_F M pc (.putfield idx) 3 pc') (hg : xv_G M.1.cls idx ci k) (hv : sh v = some (.inl ci)) (ty0 : Nat → FieldType) (hty : ∀ (C : String) (T : u_T) (N : Nat), vwCl[ci]? = some (C, T, N) → (∀ j, j < N → parseFieldDescriptor (T j).2.2.1 = some (ty0 j)) ∧ (∀ a, a < N → ∀ b, b < N → a ≠ b → (T a).2.1 ≠ (T b).2.1) ∧ ((T k).2.2.2 = false ∨ ((T k).2.2.2 = true ∧ M.1.name = "<init>" ∧ (T k).1 = M.1.cls)))
    (hn : ∀ ad : Nat → Nat, narrow (ty0 k) (xv_tr ad x) = xv_tr ad x ∧ fits (ty0 k) (xv_tr ad x) = true) (hx : ∀ ad : Nat → Nat, xv_sl ad I' Rf' ci v k = xv_tr ad x) (ho : ∀ (ad : Nat → Nat) (j : Nat), j ≠ k → xv_sl ad I' Rf' ci v j = xv_sl ad I Rf ci v j)
    (hI : ∀ w k, w ≠ v → I' w k = I w k) (hRf : ∀ w k, w ≠ v → Rf' w k = Rf w k) (hr : xv_ok sh x → (∀ k w, Rf v k = some w → sh w ≠ none) → ∀ k w, Rf' v k = some w → sh w ≠ none)
    (kk : xv_W M d mc ms Q kc ks sh I' Rf' J pc' L S) : xv_W M d mc ms Q kc ks sh I Rf J pc L (x :: .ref v :: S) := by
  obtain ⟨h1, rfl⟩ := hf
  obtain ⟨Cn, T, N, g1, g2, g3, g4⟩ := hg
  obtain ⟨t1, t2, t3⟩ := hty Cn T N g1
  intro p l e R s m args below meth c D A sh0 ad0 ca0 ad ca H locs cells slots ls C X hw hR hS hL hO hc hs
  have hts := C.2.2.2.2.2.1
  have hown := C.2.2.2.2.1
  have hK := C.2.2.2.2.2.2.2.2.2.1
  have hap := va_apart (own := M.1.cls) hts g3 ty0 t1 t2 hK g1
  obtain ⟨r, e0, cell, q1, q2, q3, q4⟩ := hR.1 v _ hv
  cases e0.symm.trans g1
  obtain ⟨hSl, hfc, kC, hkC, hkind⟩ := hK.1 ci _ g1
  obtain ⟨cf, kf, fi, f, hi, hsl⟩ := hSl k g2
  have hst := (u_facts hfc hkC (u_lays hts g3 g2) hi).1
  have hAv : A (ad v) := hw v ⟨_, hv, fun n h => by cases h⟩
  have fin : ∀ (H' : Heap), H'[ad v]? = some (cell.setSlot f.slot (xv_tr ad x)) → H'.size = H.size → (∀ q, q ≠ ad v → H'[q]? = H[q]?) → W p l e R s m args below meth c H' (locs ++ [⟨ad v, f.slot⟩]) cells slots (vx_MQ below (xv_QR Q D sh0 ad0 ca0 A) (xv_QX Q D sh0 ad0 ca0 A) args s mc ms A) (F0 m (pc + 3) ls (S.map (xv_tr ad))) := by
    intro H' e1 e2 e3
    rw [hsl] at e1
    refine kk C X hw (hR.wr hv ⟨_, g1, t_OB.to (V := updV (xv_sl ad I Rf ci v) k (xv_tr ad x)) ⟨_, e1, q2, q3, t_set q4 hap g2 _⟩ (xv_updsl (hx ad) (ho ad))⟩ e3 hI hRf (fun _ _ _ => rfl) (hr (xv_ok_h hO) (fun k w h => hR.2.2 v k w (by rw [hv]; simp) h))) (hS.put e2 e3 hAv) hL (xv_ok_t (xv_ok_t hO)) hc hs
  have hlay := hts _ (g3 _ (u_in_lay g2))
  rcases t3 with t3 | ⟨t3, t4, t5⟩
  · unfold u_lay at hlay
    rw [if_neg (by rw [t3]; decide)] at hlay
    have h6 := u_store hfc hkC hkind hlay hi (t1 k g2) (hn ad).1 (hn ad).2
    rcases g4 with g4 | ⟨host, g4⟩
    · exact W.putK C.1 C.2.1 (f := f) ⟨hown, hts _ g4, ⟨_, _, _, hi⟩, hst⟩ (by rw [q2]; exact h6) q1 q3 (by rw [hsl]; exact k2_hasslot (q4 k g2)) rfl rfl h1 fin
    · exact va_WputK C.1 C.2.1 (f := f) hown (hts _ g4) hi hst (by rw [q2]; exact h6) q1 q3 (by rw [hsl]; exact k2_hasslot (q4 k g2)) rfl rfl h1 fin
  · unfold u_lay at hlay
    rw [if_pos t3] at hlay
    have hcf : m.cls = cf := by
      obtain ⟨_, _, c', _, _, _, -, -, hf', -, -, -, hown2, -⟩ := Cond.laysFinal_spec hlay
      have e1 : c' = cf := by have := hi.symm.trans hf'; simp at this; exact this.1.symm
      rw [t5] at hown2
      rw [← e1]; exact Option.some.inj (hown.symm.trans hown2)
    have h6 := u_fits hfc hkC hkind (Or.inr hlay) hi (t1 k g2) (hn ad).1 (hn ad).2
    rcases g4 with g4 | ⟨host, g4⟩
    · exact W.putFinK C.1 C.2.1 hown (hts _ g4) hi hst hcf (C.2.2.2.2.2.2.2.1.trans t4) (by rw [q2]; exact h6) q1 q3 (by rw [hsl]; exact k2_hasslot (q4 k g2)) rfl rfl h1 fin
    · refine va_Wputf C.1 C.2.1 hown (hts _ g4) hi hst (Or.inr ⟨hcf, C.2.2.2.2.2.2.2.1.trans t4⟩) q1 (by rw [q3]; exact fun h => by cases h) (by rw [hsl]; exact k2_hasslot (q4 k g2)) h6.1 (by rw [q2, q3]; exact h6.2) rfl rfl h1 ?_
      have hlt : ad v < H.size := (Array.getElem?_eq_some_iff.mp q1).1
      exact fin _ (by simp [Array.getElem?_setIfInBounds, hlt]) (by simp) (fun q hq => by simp [Array.getElem?_setIfInBounds, Ne.symm hq])
/-- which fields there are, of a class's place: its types, its names, whether a field is final -/
def xv_T (M : xv_M) (ci k : Nat) : Prop := ∀ (C : String) (T : u_T) (N : Nat), vwCl[ci]? = some (C, T, N) → (∀ j, j < N → parseFieldDescriptor (T j).2.2.1 = some (xv_ft ci j)) ∧ (∀ a, a < N → ∀ b, b < N → a ≠ b → (T a).2.1 ≠ (T b).2.1) ∧ ((T k).2.2.2 = false ∨ ((T k).2.2.2 = true ∧ M.1.name = "<init>" ∧ (T k).1 = M.1.cls))
theorem xv_putI {ci k v idx : Nat} {x : Int32} (hf : xv_F M pc (.putfield idx) 3 pc') (hg : xv_G M.1.cls idx ci k) (ht : (xv_ft ci k).isReference = false) (hT : xv_T M ci k) (hv : sh v = some (.inl ci)) (hn : narrow (xv_ft ci k) (.int x) = .int x ∧ fits (xv_ft ci k) (.int x) = true)
    (kk : xv_W M d mc ms Q kc ks sh (xv_u I v k x) Rf J pc' L S) : xv_W M d mc ms Q kc ks sh I Rf J pc L (.int x :: .ref v :: S) := by
  refine xv_put (x := .int x) (I' := xv_u I v k x) (Rf' := Rf) hf hg hv (xv_ft ci) hT (fun _ => hn) (fun ad => ?_) (fun ad j hj => ?_) (fun w k hw => xv_u_ne _ _ _ hw) (fun _ _ _ => rfl) (fun _ h => h) kk
  · unfold xv_sl
    rw [if_neg (by rw [ht]; decide), xv_u_eq]
    rfl
  · unfold xv_sl
    rw [xv_u_nk _ _ _ hj]
theorem xv_putR {ci k v idx o : Nat} (hf : xv_F M pc (.putfield idx) 3 pc') (hg : xv_G M.1.cls idx ci k) (ht : (xv_ft ci k).isReference = true) (hT : xv_T M ci k) (hv : sh v = some (.inl ci)) (hn : ∀ a : Nat, narrow (xv_ft ci k) (.ref a) = .ref a ∧ fits (xv_ft ci k) (.ref a) = true)
    (kk : xv_W M d mc ms Q kc ks sh I (xv_u Rf v k (some o)) J pc' L S) : xv_W M d mc ms Q kc ks sh I Rf J pc L (.ref o :: .ref v :: S) := by
  refine xv_put (x := .ref o) (I' := I) (Rf' := xv_u Rf v k (some o)) hf hg hv (xv_ft ci) hT (fun ad => hn (ad o)) (fun ad => ?_) (fun ad j hj => ?_) (fun _ _ _ => rfl) (fun w k hw => xv_u_ne _ _ _ hw) (fun ho h j w hj => ?_) kk
  · unfold xv_sl
    rw [if_pos ht, xv_u_eq]
    rfl
  · unfold xv_sl
    rw [xv_u_nk _ _ _ hj]
  · by_cases e : j = k
    · subst e
      rw [xv_u_eq] at hj
      cases hj
      exact ho
    · rw [xv_u_nk _ _ _ e] at hj
      exact h j w hj
/-- an int within -/
theorem xv_in {i : Int32} {n : Nat} (h : vp_in i n) : i.toNatClampNeg < n := Nat.not_le.mp fun q => h (Or.inr q)
theorem xv_iald {v n : Nat} {i : Int32} (hf : xv_F M pc .iaload 1 pc') (hv : sh v = some (.inr (.inl (.int, n)))) (hi : vp_in i n) (kk : xv_W M d mc ms Q kc ks sh I Rf J pc' L (.int (I v i.toNatClampNeg) :: S)) : xv_W M d mc ms Q kc ks sh I Rf J pc L (.int i :: .ref v :: S) := by
  obtain ⟨h1, rfl⟩ := hf
  intro p l e R s m args below meth c D A sh0 ad0 ca0 ad ca H locs cells slots ls C X hw hR hS hL hO hc hs
  obtain ⟨q1, q2, q3⟩ := hR.1 v _ hv
  exact W.iald (v := .int (I v i.toNatClampNeg)) C.1 C.2.1 q1 (q2 n _) (fun q => by cases q) (by show ¬ (i < 0 ∨ (arrV _ _ _).slots.size ≤ _); rw [arrV_size]; exact hi) (by show (arrV _ _ _).slots[_]? = _; rw [arrV_read _ _ (xv_in hi)]; rfl) rfl rfl h1 (kk C X hw hR hS hL (xv_ok_i (xv_ok_t (xv_ok_t hO)) _) hc hs)
theorem xv_zald {v n : Nat} {i : Int32} (hf : xv_F M pc .baload 1 pc') (hv : sh v = some (.inr (.inl (.boolean, n)))) (hi : vp_in i n) (kk : xv_W M d mc ms Q kc ks sh I Rf J pc' L (.int (I v i.toNatClampNeg) :: S)) : xv_W M d mc ms Q kc ks sh I Rf J pc L (.int i :: .ref v :: S) := by
  obtain ⟨h1, rfl⟩ := hf
  intro p l e R s m args below meth c D A sh0 ad0 ca0 ad ca H locs cells slots ls C X hw hR hS hL hO hc hs
  obtain ⟨q1, q2, q3⟩ := hR.1 v _ hv
  exact W.zald (v := .int (I v i.toNatClampNeg)) C.1 C.2.1 q1 (q2 n _) (fun q => by cases q) (by show ¬ (i < 0 ∨ (arrV _ _ _).slots.size ≤ _); rw [arrV_size]; exact hi) (by show (arrV _ _ _).slots[_]? = _; rw [arrV_read _ _ (xv_in hi)]; rfl) rfl rfl h1 (kk C X hw hR hS hL (xv_ok_i (xv_ok_t (xv_ok_t hO)) _) hc hs)
theorem xv_lald {v n : Nat} {i : Int32} (hf : xv_F M pc .laload 1 pc') (hv : sh v = some (.inr (.inl (.long, n)))) (hi : vp_in i n) (kk : xv_W M d mc ms Q kc ks sh I Rf J pc' L (.long (J v i.toNatClampNeg) :: S)) : xv_W M d mc ms Q kc ks sh I Rf J pc L (.int i :: .ref v :: S) := by
  obtain ⟨h1, rfl⟩ := hf
  intro p l e R s m args below meth c D A sh0 ad0 ca0 ad ca H locs cells slots ls C X hw hR hS hL hO hc hs
  obtain ⟨q1, q2, q3⟩ := hR.1 v _ hv
  exact W.lald (v := .long (J v i.toNatClampNeg)) C.1 C.2.1 q1 (q2 n _) (fun q => by cases q) (by show ¬ (i < 0 ∨ (arrV _ _ _).slots.size ≤ _); rw [arrV_size]; exact hi) (by show (arrV _ _ _).slots[_]? = _; rw [arrV_read _ _ (xv_in hi)]; rfl) rfl rfl h1 (kk C X hw hR hS hL (xv_ok_l (xv_ok_t (xv_ok_t hO)) _) hc hs)
theorem xv_aald {v n o : Nat} {i : Int32} {ty : FieldType} (hf : xv_F M pc .aaload 1 pc') (hv : sh v = some (.inr (.inl (ty, n)))) (ht : (∃ C, ty = .object C) ∨ ∃ t, ty = .array t) (hi : vp_in i n) (hr : Rf v i.toNatClampNeg = some o) (kk : xv_W M d mc ms Q kc ks sh I Rf J pc' L (.ref o :: S)) : xv_W M d mc ms Q kc ks sh I Rf J pc L (.int i :: .ref v :: S) := by
  obtain ⟨h1, rfl⟩ := hf
  intro p l e R s m args below meth c D A sh0 ad0 ca0 ad ca H locs cells slots ls C X hw hR hS hL hO hc hs
  obtain ⟨q1, q2, q3⟩ := hR.1 v _ hv
  have he : xv_el ad I Rf J ty v i.toNatClampNeg = .ref (ad o) := by rcases ht with ⟨t, rfl⟩ | ⟨t, rfl⟩ <;> (unfold xv_el; dsimp only; rw [hr]; rfl)
  exact W.aald (v := .ref (ad o)) C.1 C.2.1 q1 (q2 n _) (by rcases ht with ⟨t, rfl⟩ | ⟨t, rfl⟩ <;> rfl) (fun q => by cases q) (by show ¬ (i < 0 ∨ (arrV _ _ _).slots.size ≤ _); rw [arrV_size]; exact hi) (by show (arrV _ _ _).slots[_]? = _; rw [arrV_read _ _ (xv_in hi)]; exact congrArg some he) rfl rfl h1 (kk C X hw hR hS hL (List.forall_mem_cons.mpr ⟨hR.2.2 v _ o (by rw [hv]; simp) hr, xv_ok_t (xv_ok_t hO)⟩) hc hs)
theorem xv_aaldN {v n : Nat} {i : Int32} {ty : FieldType} (hf : xv_F M pc .aaload 1 pc') (hv : sh v = some (.inr (.inl (ty, n)))) (ht : (∃ C, ty = .object C) ∨ ∃ t, ty = .array t) (hi : vp_in i n) (hr : Rf v i.toNatClampNeg = none) (kk : xv_W M d mc ms Q kc ks sh I Rf J pc' L (.null :: S)) : xv_W M d mc ms Q kc ks sh I Rf J pc L (.int i :: .ref v :: S) := by
  obtain ⟨h1, rfl⟩ := hf
  intro p l e R s m args below meth c D A sh0 ad0 ca0 ad ca H locs cells slots ls C X hw hR hS hL hO hc hs
  obtain ⟨q1, q2, q3⟩ := hR.1 v _ hv
  have he : xv_el ad I Rf J ty v i.toNatClampNeg = .null := by rcases ht with ⟨t, rfl⟩ | ⟨t, rfl⟩ <;> (unfold xv_el; dsimp only; rw [hr]; rfl)
  exact W.aald (v := .null) C.1 C.2.1 q1 (q2 n _) (by rcases ht with ⟨t, rfl⟩ | ⟨t, rfl⟩ <;> rfl) (fun q => by cases q) (by show ¬ (i < 0 ∨ (arrV _ _ _).slots.size ≤ _); rw [arrV_size]; exact hi) (by show (arrV _ _ _).slots[_]? = _; rw [arrV_read _ _ (xv_in hi)]; exact congrArg some he) rfl rfl h1 (kk C X hw hR hS hL (List.forall_mem_cons.mpr ⟨trivial, xv_ok_t (xv_ok_t hO)⟩) hc hs)
theorem xv_elu {cA : ClassId} {n : Nat} {f g : Nat → Value} {k : Nat} {x : Value} (hx : g k = x) (ho : ∀ j, j ≠ k → g j = f j) : (arrV cA n f).setSlot k x = arrV cA n g := by
  rw [arrV_store]
  congr 1
  funext j
  unfold updV
  by_cases e : j = k
  · subst e
    rw [if_pos rfl, hx]
  · rw [if_neg e, ho j e]
theorem xv_iast {v n : Nat} {i x : Int32} (hf : xv_F M pc .iastore 1 pc') (hv : sh v = some (.inr (.inl (.int, n)))) (hi : vp_in i n) (kk : xv_W M d mc ms Q kc ks sh (xv_u I v i.toNatClampNeg x) Rf J pc' L S) : xv_W M d mc ms Q kc ks sh I Rf J pc L (.int x :: .int i :: .ref v :: S) := by
  obtain ⟨h1, rfl⟩ := hf
  intro p l e R s m args below meth c D A sh0 ad0 ca0 ad ca H locs cells slots ls C X hw hR hS hL hO hc hs
  obtain ⟨q1, q2, q3⟩ := hR.1 v _ hv
  refine W.iast C.1 C.2.1 q1 (q2 n _) (fun q => by cases q) (by show ¬ (i < 0 ∨ (arrV _ _ _).slots.size ≤ _); rw [arrV_size]; exact hi) rfl rfl h1 fun H1 e1 e2 e3 => ?_
  refine kk C X hw (hR.wr hv ⟨e1.trans (congrArg some (xv_elu ?_ fun j hj => ?_)), q2, q3⟩ e3 (fun w k hw => xv_u_ne _ _ _ hw) (fun _ _ _ => rfl) (fun _ _ _ => rfl) (fun k w h => hR.2.2 v k w (by rw [hv]; simp) h)) (hS.put e2 e3 (hw v ⟨_, hv, fun n h => by cases h⟩)) hL (xv_ok_t (xv_ok_t (xv_ok_t hO))) hc hs
  · show Value.int (xv_u I v _ x v _) = _
    rw [xv_u_eq]
  · show Value.int (xv_u I v _ x v j) = Value.int (I v j)
    rw [xv_u_nk _ _ _ hj]
theorem xv_zast {v n : Nat} {i x y : Int32} (hf : xv_F M pc .bastore 1 pc') (hv : sh v = some (.inr (.inl (.boolean, n)))) (hi : vp_in i n) (hn : narrow .boolean (.int x) = .int y) (kk : xv_W M d mc ms Q kc ks sh (xv_u I v i.toNatClampNeg y) Rf J pc' L S) : xv_W M d mc ms Q kc ks sh I Rf J pc L (.int x :: .int i :: .ref v :: S) := by
  obtain ⟨h1, rfl⟩ := hf
  intro p l e R s m args below meth c D A sh0 ad0 ca0 ad ca H locs cells slots ls C X hw hR hS hL hO hc hs
  obtain ⟨q1, q2, q3⟩ := hR.1 v _ hv
  refine W.zast C.1 C.2.1 q1 (q2 n _) (fun q => by cases q) (by show ¬ (i < 0 ∨ (arrV _ _ _).slots.size ≤ _); rw [arrV_size]; exact hi) rfl rfl h1 fun H1 e1 e2 e3 => ?_
  rw [hn] at e1
  refine kk C X hw (hR.wr hv ⟨e1.trans (congrArg some (xv_elu ?_ fun j hj => ?_)), q2, q3⟩ e3 (fun w k hw => xv_u_ne _ _ _ hw) (fun _ _ _ => rfl) (fun _ _ _ => rfl) (fun k w h => hR.2.2 v k w (by rw [hv]; simp) h)) (hS.put e2 e3 (hw v ⟨_, hv, fun n h => by cases h⟩)) hL (xv_ok_t (xv_ok_t (xv_ok_t hO))) hc hs
  · show Value.int (xv_u I v _ y v _) = _
    rw [xv_u_eq]
  · show Value.int (xv_u I v _ y v j) = Value.int (I v j)
    rw [xv_u_nk _ _ _ hj]
theorem xv_last {v n : Nat} {i : Int32} {x : Int64} (hf : xv_F M pc .lastore 1 pc') (hv : sh v = some (.inr (.inl (.long, n)))) (hi : vp_in i n) (kk : xv_W M d mc ms Q kc ks sh I Rf (xv_u J v i.toNatClampNeg x) pc' L S) : xv_W M d mc ms Q kc ks sh I Rf J pc L (.long x :: .int i :: .ref v :: S) := by
  obtain ⟨h1, rfl⟩ := hf
  intro p l e R s m args below meth c D A sh0 ad0 ca0 ad ca H locs cells slots ls C X hw hR hS hL hO hc hs
  obtain ⟨q1, q2, q3⟩ := hR.1 v _ hv
  refine W.last C.1 C.2.1 q1 (q2 n _) (fun q => by cases q) (by show ¬ (i < 0 ∨ (arrV _ _ _).slots.size ≤ _); rw [arrV_size]; exact hi) rfl rfl h1 fun H1 e1 e2 e3 => ?_
  refine kk C X hw (hR.wr hv ⟨e1.trans (congrArg some (xv_elu ?_ fun j hj => ?_)), q2, q3⟩ e3 (fun _ _ _ => rfl) (fun _ _ _ => rfl) (fun w k hw => xv_u_ne _ _ _ hw) (fun k w h => hR.2.2 v k w (by rw [hv]; simp) h)) (hS.put e2 e3 (hw v ⟨_, hv, fun n h => by cases h⟩)) hL (xv_ok_t (xv_ok_t (xv_ok_t hO))) hc hs
  · show Value.long (xv_u J v _ x v _) = _
    rw [xv_u_eq]
  · show Value.long (xv_u J v _ x v j) = Value.long (J v j)
    rw [xv_u_nk _ _ _ hj]
/-- an array of a class's objects gets one -/
theorem xv_aast {v n o ci : Nat} {i : Int32} {r : vw_C} (hf : xv_F M pc .aastore 1 pc') (hv : sh v = some (.inr (.inl (.object r.1, n)))) (ho : sh o = some (.inl ci)) (hcl : vwCl[ci]? = some r) (hi : vp_in i n) (kk : xv_W M d mc ms Q kc ks sh I (xv_u Rf v i.toNatClampNeg (some o)) J pc' L S) : xv_W M d mc ms Q kc ks sh I Rf J pc L (.ref o :: .int i :: .ref v :: S) := by
  obtain ⟨h1, rfl⟩ := hf
  intro p l e R s m args below meth c D A sh0 ad0 ca0 ad ca H locs cells slots ls C X hw hR hS hL hO hc hs
  have hK := C.2.2.2.2.2.2.2.2.2.1
  obtain ⟨q1, q2, q3⟩ := hR.1 v _ hv
  obtain ⟨r', hr', cellV, g1, g2, g3, -⟩ := hR.1 o _ ho
  have hcls := (hK.1 ci r hcl).2
  obtain ⟨kA, comp, k1, k2, k3, k4⟩ := q3
  have hcomp : comp = D.1 ci := Option.some.inj (k3.symm.trans hcls.1)
  subst hcomp
  obtain ⟨kC, hkC, -⟩ := id hcls.2
  refine W.aast C.1 C.2.1 q1 (fun q h => by cases h) (fun h => by cases h) k1 k2 rfl hkC ⟨fun q => hi (Or.inl q), by show _ < (arrV _ _ _).slots.size; rw [arrV_size]; exact xv_in hi⟩ g1 (fun q h => by rw [g3] at h; cases h) (by rw [g2]; exact hkC) (by rw [g2]; exact va_assign hcls) rfl rfl h1 fun H1 e1 e2 e3 => ?_
  refine kk C X hw (hR.wr hv ⟨e1.trans (congrArg some (xv_elu ?_ fun j hj => ?_)), q2, ⟨kA, _, k1, k2, k3, k4⟩⟩ e3 (fun _ _ _ => rfl) (fun w k hw => xv_u_ne _ _ _ hw) (fun _ _ _ => rfl) (fun k w h => ?_)) (hS.put e2 e3 (hw v ⟨_, hv, fun n h => by cases h⟩)) hL (xv_ok_t (xv_ok_t (xv_ok_t hO))) hc hs
  · show va_rf ((xv_u Rf v _ (some o) v _).map ad) = _
    rw [xv_u_eq]
    rfl
  · show va_rf ((xv_u Rf v _ (some o) v j).map ad) = va_rf ((Rf v j).map ad)
    rw [xv_u_nk _ _ _ hj]
  · by_cases e9 : k = i.toNatClampNeg
    · subst e9
      rw [xv_u_eq] at h
      cases h
      rw [ho]
      simp
    · rw [xv_u_nk _ _ _ e9] at h
      exact hR.2.2 v k w (by rw [hv]; simp) h
theorem xv_alen {v n : Nat} {ty : FieldType} (hf : xv_F M pc .arraylength 1 pc') (hv : sh v = some (.inr (.inl (ty, n)))) {x : Int32} (hx : Int32.ofNat n = x) (kk : xv_W M d mc ms Q kc ks sh I Rf J pc' L (.int x :: S)) : xv_W M d mc ms Q kc ks sh I Rf J pc L (.ref v :: S) := by
  obtain ⟨h1, rfl⟩ := hf
  intro p l e R s m args below meth c D A sh0 ad0 ca0 ad ca H locs cells slots ls C X hw hR hS hL hO hc hs
  obtain ⟨q1, q2, q3⟩ := hR.1 v _ hv
  exact W.alen (n := x) C.1 C.2.1 q1 (q2 n _) (by show (arrV _ _ _).slots.size.toInt32 = _; rw [arrV_size]; exact hx) rfl rfl h1 (kk C X hw hR hS hL (xv_ok_i (xv_ok_t hO) _) hc hs)
/-- the law's script -/
theorem xv_sld {v n : Nat} {i : Int32} (hf : xv_F M pc .iaload 1 pc') (hv : sh v = some (.inr (.inr n))) (hi : vp_in i n) (kk : xv_W M d mc ms Q kc ks sh I Rf J pc' L (.int (I v i.toNatClampNeg) :: S)) : xv_W M d mc ms Q kc ks sh I Rf J pc L (.int i :: .ref v :: S) := by
  obtain ⟨h1, rfl⟩ := hf
  intro p l e R s m args below meth c D A sh0 ad0 ca0 ad ca H locs cells slots ls C X hw hR hS hL hO hc hs
  obtain ⟨scr, q1, q2, q3, q4, q5⟩ := hR.1 v _ hv
  exact W.iald (v := .int (I v i.toNatClampNeg)) C.1 C.2.1 q1 q2 q3 (by rw [q4]; exact hi) (q5 _ (xv_in hi)) rfl rfl h1 (kk C X hw hR hS hL (xv_ok_i (xv_ok_t (xv_ok_t hO)) _) hc hs)
theorem xv_slen {v n : Nat} (hf : xv_F M pc .arraylength 1 pc') (hv : sh v = some (.inr (.inr n))) (kk : xv_W M d mc ms Q kc ks sh I Rf J pc' L (.int (Int32.ofNat n) :: S)) : xv_W M d mc ms Q kc ks sh I Rf J pc L (.ref v :: S) := by
  obtain ⟨h1, rfl⟩ := hf
  intro p l e R s m args below meth c D A sh0 ad0 ca0 ad ca H locs cells slots ls C X hw hR hS hL hO hc hs
  obtain ⟨scr, q1, q2, q3, q4, q5⟩ := hR.1 v _ hv
  exact W.alen (n := Int32.ofNat n) C.1 C.2.1 q1 q2 (by rw [q4]) rfl rfl h1 (kk C X hw hR hS hL (xv_ok_i (xv_ok_t hO) _) hc hs)
end XVH
