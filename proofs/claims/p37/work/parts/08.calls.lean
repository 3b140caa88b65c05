section XVM
variable {M : xv_M} {d mc ms kc ks : Nat} {Q : xv_Q} {sh : xv_Sh} {I : xv_I} {Rf : xv_Rf} {J : xv_J} {pc pc' tgt : Nat} {L : List (Option Value)} {S : List Value}
theorem xv_args_len : ∀ (vs : List Value), (∀ v ∈ vs, v.category = 1) → (lg_sl vs).length = vs.length
  | [], _ => rfl
  | v :: vs, h => by
    have h1 := xv_args_len vs (fun w hw => h w (List.mem_cons_of_mem _ hw))
    unfold lg_sl at h1 ⊢
    rw [List.flatMap_cons, if_neg (by rw [h v List.mem_cons_self]; decide), List.length_append, h1]
    simp [Nat.add_comm]
theorem xv_args_mem : ∀ (vs : List Value) (k j : Nat) (v : Value), (∀ w ∈ vs, w.category = 1) → vs[j]? = some v → (k + j, v) ∈ lv_args k vs
  | [], _, _, _, _, h => by simp at h
  | w :: vs, k, 0, v, _, h => by
    simp at h
    subst h
    exact List.mem_cons_self
  | w :: vs, k, j + 1, v, hc, h => by
    have h1 := xv_args_mem vs (k + 1) j v (fun z hz => hc z (List.mem_cons_of_mem _ hz)) (by simpa using h)
    have e : k + 1 + j = k + (j + 1) := by omega
    rw [e] at h1
    refine List.mem_cons_of_mem _ ?_
    rw [if_neg (by rw [hc w List.mem_cons_self]; decide)]
    exact h1
/-- the locals at a method's entry -/
def xv_L0 (As : List Value) (nL : Nat) : List (Option Value) := As.map some ++ List.replicate (nL - As.length) none
theorem xv_L0_ok {ad : Nat → Nat} {As : List Value} {nL : Nat} (h1 : As.length ≤ nL) (hc : ∀ v ∈ As, v.category = 1) (ho : ∀ v ∈ As, xv_ok sh v) : xv_L ad sh nL ((lg_sl (As.map (xv_tr ad)) ++ List.replicate (nL - (lg_sl (As.map (xv_tr ad))).length) Slot.unset).toArray) (xv_L0 As nL) := by
  have hc' : ∀ v ∈ As.map (xv_tr ad), v.category = 1 := fun v hv => by
    obtain ⟨w, hw, rfl⟩ := List.mem_map.mp hv
    rw [xv_tr_cat]
    exact hc w hw
  have hl := xv_args_len (As.map (xv_tr ad)) hc'
  have he := lv_entry (As.map (xv_tr ad)) (n := nL) (by rw [hl, List.length_map]; exact h1)
  have hget : ∀ (j : Nat) (w : Value), (xv_L0 As nL)[j]? = some (some w) → As[j]? = some w := fun j w hw => by
    unfold xv_L0 at hw
    by_cases hj : j < As.length
    · rw [List.getElem?_append_left (by rw [List.length_map]; exact hj), List.getElem?_map] at hw
      cases h9 : As[j]? with
      | none => rw [h9] at hw; cases hw
      | some z => rw [h9] at hw; cases hw; rfl
    · rw [List.getElem?_append_right (by rw [List.length_map]; omega)] at hw
      have := List.mem_of_getElem? hw
      rw [List.mem_replicate] at this
      cases this.2
  refine ⟨⟨he.1, he.2.1, fun q hq => ?_⟩, fun v hv => ?_, ?_⟩
  · obtain ⟨w, hw, e⟩ := xv_lv_of hq
    obtain ⟨j, x⟩ := q
    dsimp only at hw e
    subst e
    have h9 := xv_args_mem (As.map (xv_tr ad)) 0 j (xv_tr ad w) hc' (by rw [List.getElem?_map, hget j w hw]; rfl)
    rw [Nat.zero_add] at h9
    exact he.2.2 _ h9
  · obtain ⟨j, hj⟩ := List.getElem?_of_mem hv
    have := List.mem_of_getElem? (hget j v hj)
    exact ⟨hc v this, ho v this⟩
  · unfold xv_L0
    rw [List.length_append, List.length_map, List.length_replicate]
    omega
theorem xv_blind {D : va_G} {ad : Nat → Nat} {ca : Nat → ClassId} {sz : Nat} {As : List Value} : FrameBlind (xv_P D ad ca sh I Rf J sz As) := fun a U g mk h => by
  obtain ⟨h1, h2, h3, h4, h5, h6⟩ := h
  have hvm : U.vm.Alike (U.calling g mk a).vm := Vm.Alike.refl U.vm
  exact ⟨h1, h2, h3, h4.moved hvm, h5.moved hvm, xv_E.warm (s := U) (U := U.calling g mk a) (State.WarmedH.refl U) h6 (fun _ _ _ => rfl) (fun _ h => h)⟩
/-- a contract out of a walk of the body -/
theorem xv_Met.of {As : List Value} (hp : plainName M.1.cls = true) (hlen : As.length ≤ M.2.2.1) (hcat : ∀ v ∈ As, v.category = 1) (k : xv_W M d mc ms Q mc ms sh I Rf J 0 (xv_L0 As M.2.2.1) []) : xv_Met M d mc ms sh I Rf J As Q := by
  intro l D ad ca sz hl
  have main : ∀ p e s m args below meth c s₁, BodyLoose p l M.1 (headSpec (xv_ws M) { frames := d, cells := mc, slots := ms, locals := 40 * d }) M.2.1 M.2.2.1 M.2.2.2.1 e s m args below meth c s₁ → c.maxLocals = M.2.2.1 → c.exceptionTable.toList = tableOf M.2.2.2.2 → xv_P D ad ca sh I Rf J sz As args s →
      W p l e (headSpec (xv_ws M) { frames := d, cells := mc, slots := ms, locals := 40 * d }).room s m args below meth c s.heap [] 0 0 (vx_MQ below (xv_QR Q D sh ad ca (xv_A sh ad sz)) (xv_QX Q D sh ad ca (xv_A sh ad sz)) args s mc ms (xv_A sh ad sz)) (entryFrame m args M.2.2.1) := by
    intro p e s m args below meth c s₁ B hml htab hP
    obtain ⟨rfl, ho, hsz, hR, hK, hE⟩ := hP
    have hts : ∀ w ∈ xv_ws M, w.before ((As.map (xv_tr ad)).toArray) s = true := atoms_spec (ws := xv_ws M) B.pre
    rw [lg_entry_eq]
    exact k (p := p) (l := l) (e := e) (D := D) (A := xv_A sh ad sz) (sh0 := sh) (ad0 := ad) (ca0 := ca) ⟨B.exec, B.bytes, hml, B.returns, findClass_of_methodNamed B.named, fun w hw => hts w (List.mem_cons_of_mem _ hw), B.notSynchronized, (name_of_methodNamed B.named B.method).1, hl, hK, hE, fun q hq => Or.inr (by rw [← hsz]; exact hq), htab, Nat.le_refl _, Nat.le_refl _, Nat.le_refl _, Nat.le_refl _⟩
      xv_X.rf (fun v hv => Or.inl ⟨v, hv, rfl⟩) hR va_S.rf (xv_L0_ok hlen hcat ho) (fun v hv => nomatch hv) (by omega) (by omega)
  by_cases hh : M.2.2.2.2 = []
  · have hws : xv_ws M = Cond.code M.1 M.2.1 M.2.2.1 M.2.2.2.1 :: xv_tbl := by unfold xv_ws; rw [xv_cd_0 hh]
    refine vx_ofW (cc := M.2.1) (maxL := M.2.2.1) (ret := M.2.2.2.1) hp hws fun p e s m args below meth c s₁ B hml htab hP => main p e s m args below meth c s₁ B hml ?_ hP
    rw [hh]
    show _ = []
    exact List.eq_nil_iff_forall_not_mem.mpr htab
  · have hws : xv_ws M = Cond.codeWith M.1 M.2.1 M.2.2.1 M.2.2.2.1 M.2.2.2.2 :: xv_tbl := by unfold xv_ws; rw [xv_cd_1 hh]
    refine vx_ofWH (cc := M.2.1) (maxL := M.2.2.1) (ret := M.2.2.2.1) (hh := M.2.2.2.2) hp hws fun p e s m args below meth c s₁ B hml hP => main p e s m args below meth c s₁ B hml ?_ hP
    exact vx_table (x := M.1) B (atoms_spec (ws := xv_ws M) B.pre _ (by rw [hws]; exact List.mem_cons_self))
/-- what the tables say of a callee -/
def xv_Y (M' : xv_M) (n : Nat) : Prop := xv_cd M' ∈ xv_tbl ∧ Cond.initialized M'.1.cls ∈ xv_tbl ∧ M'.1.cls ≠ "java/lang/invoke/MethodHandle" ∧ M'.1.cls ≠ "java/lang/invoke/VarHandle" ∧ (parseMethodDescriptor M'.1.desc).map (fun d => d.parameters.length) = some n ∧ M'.2.2.1 ≤ 21
theorem xv_pay {M' : xv_M} {n : Nat} {args : Array Value} {s : State} (h : xv_Y M' n) (hts : ∀ w ∈ xv_tbl, w.before args s = true) : ∀ w ∈ xv_ws M', ∀ (a' : Array Value) (U : State), s.WarmedH U.vm → w.before a' U = true := fun w hw a' U hW => by
  have h9 : w ∈ xv_tbl := by
    rcases List.mem_cons.mp hw with e | hw
    · rw [e]; exact h.1
    · exact hw
  exact xv_warm (xv_tbl_good w h9) hW (hts w h9)
theorem xv_callB {M' : xv_M} {d' mc' ms' n idx : Nat} {R : Room} {args : Array Value} {s : State} {own : String} {ret : Option FieldType} (h : xv_Y M' n) (hh : M'.2.2.2.2 = []) (hret : M'.2.2.2.1 = ret) (hts : ∀ w ∈ xv_tbl, w.before args s = true) (hl : Cond.methodLink own idx M'.1 ∈ xv_tbl) (hd : d' + 1 ≤ R.frames) (hlo : 40 * d' + 40 ≤ R.locals) : CallB R s args own idx M'.1 M'.2.1 M'.2.2.1 ret (xv_ws M') { frames := d', cells := mc', slots := ms', locals := 40 * d' } mc' ms' n := by
  have hp := xv_pay h hts
  obtain ⟨y1, y2, y3, y4, y5, y6⟩ := h
  subst hret
  refine ⟨rfl, rfl, hd, by show 8 + (M'.2.2.1 + 11) + 40 * d' ≤ _; omega, hp, by unfold xv_ws; rw [xv_cd_0 hh]; exact List.mem_cons_self, hts _ (by rw [xv_cd_0 hh] at y1; exact y1), hts _ y2, ⟨y3, y4⟩, fun sig h => ?_, hts _ hl⟩
  rw [h] at y5
  exact (Option.some.inj y5).symm
/-- the callee's start at a call -/
theorem xv_Pcall {p : Program} {l : Launch} {R : Room} {s : State} {m : MethodId} {args : Array Value} {meth : Method} {c : Code} {D : va_G} {A : Nat → Prop} {ad : Nat → Nat} {ca : Nat → ClassId} {H : Heap} {locs : List Loc} {As : List Value} (C : xv_C M d mc ms p l R s m args meth c D A) (hw : ∀ v, xv_w sh v → A (ad v)) (hR : xv_R s D ad ca sh I Rf J H) (hS : va_S A s.heap H locs) (ho : ∀ v ∈ As, xv_ok sh v) :
    ∀ U : State, U.heap = H → s.WarmedH U.vm → xv_P D ad ca sh I Rf J H.size As ((As.map (xv_tr ad)).toArray) U := fun U hU hW =>
  ⟨rfl, ho, by rw [hU], by rw [hU]; exact hR.moved hW.alike, C.2.2.2.2.2.2.2.2.2.1.moved hW.alike, xv_E.warm hW C.2.2.2.2.2.2.2.2.2.2.1 (fun a h1 h2 => by rw [hU]; exact hS.2.1 a h1 h2) (fun q hq => by
    rcases hq with ⟨v, hv, rfl⟩ | hq
    · exact hw v hv
    · exact C.2.2.2.2.2.2.2.2.2.2.2.1 q (Nat.le_trans hS.1 hq))⟩
theorem xv_Asub {p : Program} {l : Launch} {R : Room} {s : State} {m : MethodId} {args : Array Value} {meth : Method} {c : Code} {D : va_G} {A : Nat → Prop} {ad : Nat → Nat} {H : Heap} {locs : List Loc} (C : xv_C M d mc ms p l R s m args meth c D A) (hw : ∀ v, xv_w sh v → A (ad v)) (hS : va_S A s.heap H locs) : ∀ q, xv_A sh ad H.size q → A q := fun q hq => by
  rcases hq with ⟨v, hv, rfl⟩ | hq
  · exact hw v hv
  · exact C.2.2.2.2.2.2.2.2.2.2.2.1 q (Nat.le_trans hS.1 hq)
/-- behind a call -/
theorem xv_after {Q' : xv_Q} {mc' ms' kc' ks' : Nat} {p : Program} {l : Launch} {e : Env} {R : Room} {s : State} {m : MethodId} {args : Array Value} {below : List Frame} {meth : Method} {c : Code} {D : va_G} {A : Nat → Prop} {sh0 : xv_Sh} {ad0 : Nat → Nat} {ca0 : Nat → ClassId} {ad : Nat → Nat} {ca : Nat → ClassId} {H : Heap} {locs : List Loc} {cells slots : Nat} {ls : Array Slot} {st0 : List Value} {av : Array Value}
    (C : xv_C M d mc ms p l R s m args meth c D A) (X : xv_X sh0 ad0 ca0 sh ad ca) (hw : ∀ v, xv_w sh v → A (ad v)) (hR : xv_R s D ad ca sh I Rf J H) (hS : va_S A s.heap H locs) (hL : xv_L ad sh M.2.2.1 ls L) (hO : ∀ v ∈ S, xv_ok sh v) (hc : cells + kc ≤ mc) (hs : slots + ks ≤ ms) (h1c : kc' + mc' ≤ kc) (h1s : ks' + ms' ≤ ks)
    (hr : vx_Run p l e R s m args below meth c H locs cells slots mc' ms' (F0 m pc ls st0) (S.map (xv_tr ad)) (xv_QR Q' D sh ad ca (xv_A sh ad H.size) av) (xv_QX Q' D sh ad ca (xv_A sh ad H.size)) (xv_A sh ad H.size))
    (kr : ∀ r sh' I' Rf' J', Q' (.inl r) sh' I' Rf' J' → (∀ v, sh v ≠ none → sh' v = sh v) → xv_W M d mc ms Q kc' ks' sh' I' Rf' J' (pc + 3) L (r.toList ++ S))
    (kx : ∀ E sh' I' Rf' J', Q' (.inr E) sh' I' Rf' J' → ∀ {ad' : Nat → Nat} {ca' : Nat → ClassId} {H' : Heap} {locs' : List Loc} {cells' slots' : Nat} {q : Addr} {ce : Cell}, xv_X sh0 ad0 ca0 sh' ad' ca' → (∀ v, xv_w sh' v → A (ad' v)) → xv_R s D ad' ca' sh' I' Rf' J' H' → va_S A s.heap H' locs' → xv_L ad' sh' M.2.2.1 ls L → cells' + kc' ≤ mc → slots' + ks' ≤ ms → H'[q]? = some ce → ce.vm = .none → s.vm.findClass E = some ce.cls →
      vx_W p l e R s m args below meth c H' locs' cells' slots' (vx_MQ below (xv_QR Q D sh0 ad0 ca0 A) (xv_QX Q D sh0 ad0 ca0 A) args s mc ms A) (F0 m pc ls (S.map (xv_tr ad))) q) :
    W p l e R s m args below meth c H locs cells slots (vx_MQ below (xv_QR Q D sh0 ad0 ca0 A) (xv_QX Q D sh0 ad0 ca0 A) args s mc ms A) (F0 m pc ls st0) := by
  have hA := xv_Asub C hw hS
  have hA2 : ∀ q, q < H.size → xv_A sh ad H.size q → A q := fun q _ h => hA q h
  intro T hT Y
  rcases hr T hT Y with ⟨v, st₀, t, T', Lc, h0, Y', hLc, e1, e2, hq, st⟩ | ⟨q, st₀, t, T', Lc, E, ce, h0, Y', hLc, e1, e2, hq, hce, hcv, hcl, st⟩
  · obtain ⟨r, sh', I', Rf', J', ad', ca', a1, a2, a3, a4, a5, a6, a7⟩ := hq
    cases a1
    obtain ⟨k1, k2, k3⟩ := vx_keep h0 e1 hS hA2 hA hLc a7
    have hold : ∀ v, sh v ≠ none → sh' v ≠ none ∧ ad' v = ad v := fun v hv => ⟨by rw [(a5 v hv).1]; exact hv, (a5 v hv).2.1⟩
    have hvm : t.vm.Alike s.vm := by rw [← e2]; exact Y'.warmed.alike.symm
    have K := kr r sh' I' Rf' J' a2 (fun v hv => (a5 v hv).1) (e := e) (below := below) C (X.tr a5) (fun v hv => hA _ (a6 v hv)) (a4.moved hvm) (e1 ▸ k3) (hL.moved hold)
      (fun v hv => by
        rcases List.mem_append.mp hv with h | h
        · exact a3 v (by cases r with | none => cases h | some x => rcases List.mem_singleton.mp h with rfl; rfl)
        · exact xv_okS hO (fun v hv => (hold v hv).1) v h) (cells := cells + mc') (slots := slots + ms') (by omega) (by omega)
    rw [List.map_append, xv_trS hO (fun v hv => (hold v hv).2)] at K
    obtain ⟨t2, b1, b2⟩ := K T' e1 Y'
    refine ⟨t2, st t2 ?_, b2⟩
    cases r with
    | none => exact b1
    | some x => exact b1
  · obtain ⟨sh', I', Rf', J', ad', ca', a2, a4, a5, a6, a7⟩ := hq
    obtain ⟨k1, k2, k3⟩ := vx_keep h0 e1 hS hA2 hA hLc a7
    have hold : ∀ v, sh v ≠ none → sh' v ≠ none ∧ ad' v = ad v := fun v hv => ⟨by rw [(a5 v hv).1]; exact hv, (a5 v hv).2.1⟩
    have hvm : t.vm.Alike s.vm := by rw [← e2]; exact Y'.warmed.alike.symm
    obtain ⟨t2, b1, b2⟩ := kx E sh' I' Rf' J' a2 (X.tr a5) (fun v hv => hA _ (a6 v hv)) (a4.moved hvm) (e1 ▸ k3) (hL.moved hold) (cells' := cells + mc') (slots' := slots + ms') (by omega) (by omega) hce hcv hcl T' e1 Y'
    exact ⟨t2, st.trans b1, b2⟩
/-- what was thrown goes on to the caller (a method without handlers) -/
theorem xv_pass {p : Program} {l : Launch} {e : Env} {R : Room} {s : State} {m : MethodId} {args : Array Value} {below : List Frame} {meth : Method} {c : Code} {D : va_G} {A : Nat → Prop} {sh0 : xv_Sh} {ad0 : Nat → Nat} {ca0 : Nat → ClassId} {ls : Array Slot} {st : List Value} {E : String} {sh' : xv_Sh} {I' : xv_I} {Rf' : xv_Rf} {J' : xv_J}
    (C : xv_C M d mc ms p l R s m args meth c D A) (hh : M.2.2.2.2 = []) (hQ : Q (.inr E) sh' I' Rf' J') {kc' ks' : Nat} {ad' : Nat → Nat} {ca' : Nat → ClassId} {H' : Heap} {locs' : List Loc} {cells' slots' : Nat} {q : Addr} {ce : Cell} (X : xv_X sh0 ad0 ca0 sh' ad' ca') (hw : ∀ v, xv_w sh' v → A (ad' v)) (hR : xv_R s D ad' ca' sh' I' Rf' J' H') (hS : va_S A s.heap H' locs') (hc : cells' + kc' ≤ mc) (hs : slots' + ks' ≤ ms) (hce : H'[q]? = some ce) (hcv : ce.vm = .none) (hcl : s.vm.findClass E = some ce.cls) :
    vx_W p l e R s m args below meth c H' locs' cells' slots' (vx_MQ below (xv_QR Q D sh0 ad0 ca0 A) (xv_QX Q D sh0 ad0 ca0 A) args s mc ms A) (F0 m pc ls st) q := by
  have htab := C.2.2.2.2.2.2.2.2.2.2.2.2.1
  rw [hh] at htab
  exact vx_out (E := E) (ce := ce) (fun x hx => by rw [htab] at hx; cases hx) C.2.2.2.2.2.2.1 hce hcv hcl (fun t ht hvm => ⟨sh', I', Rf', J', ad', ca', hQ, by rw [ht]; exact hR.moved hvm, X, hw, hS.F ht⟩) (fun z hz => hS.2.2 z hz) (by omega) (by omega)
theorem xv_sum {S : List Value} {ad : Nat → Nat} : ((S.map (xv_tr ad)).map fun v => v.category).sum = (S.map fun v => v.category).sum := by
  rw [List.map_map]
  congr 1
  exact List.map_congr_left fun v _ => xv_tr_cat ad v
/-- a link of a method, by the pool of its caller's class -/
theorem xv_callV {M' : xv_M} {d' mc' ms' kc' ks' idx n b ci : Nat} {As S0 : List Value} {Q' : xv_Q} (hM : xv_Met M' d' mc' ms' sh I Rf J (.ref b :: As) Q') (hf : xv_F M pc (.invokevirtual idx) 3 pc') (hY : xv_Y M' n) (hY2 : Cond.instanceMethod M'.1 ∈ xv_tbl ∧ Cond.selects M'.1.cls M'.1 M'.1 ∈ xv_tbl ∧ (vwCl[ci]?.map fun q => q.1) = some M'.1.cls) (hl : Cond.methodLink M.1.cls idx M'.1 ∈ xv_tbl) (hh : M.2.2.2.2 = []) (hh' : M'.2.2.2.2 = []) (hb : sh b = some (.inl ci)) (hn : As.length = n) (hst : S0 = As.reverse ++ .ref b :: S) (hsum : (S.map fun v => v.category).sum ≤ 8) (hd : d' + 1 ≤ d) (h1c : kc' + mc' ≤ kc) (h1s : ks' + ms' ≤ ks)
    (kr : ∀ r sh' I' Rf' J', Q' (.inl r) sh' I' Rf' J' → (∀ v, sh v ≠ none → sh' v = sh v) → xv_W M d mc ms Q kc' ks' sh' I' Rf' J' pc' L (r.toList ++ S)) (kx : ∀ E sh' I' Rf' J', Q' (.inr E) sh' I' Rf' J' → Q (.inr E) sh' I' Rf' J') : xv_W M d mc ms Q kc ks sh I Rf J pc L S0 := by
  obtain ⟨h1, rfl⟩ := hf
  subst hst
  intro p l e R s m args below meth c D A sh0 ad0 ca0 ad ca H locs cells slots ls C X hw hR hS hL hO hc hs
  have hts := C.2.2.2.2.2.1
  have hAs : ∀ v ∈ As, xv_ok sh v := fun v hv => hO v (List.mem_append_left _ (List.mem_reverse.mpr hv))
  have hO2 : ∀ v ∈ Value.ref b :: S, xv_ok sh v := fun v hv => hO v (List.mem_append_right _ hv)
  have hY0 := id hY
  obtain ⟨y1, y2, y3, y4, y5, y6⟩ := hY
  rw [xv_cd_0 hh'] at y1
  have hws : xv_ws M' = Cond.code M'.1 M'.2.1 M'.2.2.1 M'.2.2.2.1 :: xv_tbl := by unfold xv_ws; rw [xv_cd_0 hh']
  have hRf : d ≤ R.frames := C.2.2.2.2.2.2.2.2.2.2.2.2.2.1
  have hRl : 40 * d ≤ R.locals := C.2.2.2.2.2.2.2.2.2.2.2.2.2.2.1
  have hcm : mc ≤ R.cells := C.2.2.2.2.2.2.2.2.2.2.2.2.2.2.2.1
  have hsm : ms ≤ R.slots := C.2.2.2.2.2.2.2.2.2.2.2.2.2.2.2.2
  refine xv_after C X hw hR hS hL (xv_ok_t hO2) hc hs h1c h1s (vx_runV (As := As.map (xv_tr ad)) (C := M'.1.cls) (b := ad b) (ret := M'.2.2.2.1) (n := n) (rest := S.map (xv_tr ad)) ⟨C.1, C.2.1, C.2.2.1, C.2.2.2.2.1, hts⟩ (hM l D ad ca H.size C.2.2.2.2.2.2.2.2.1) ⟨xv_callB hY0 hh' rfl hts hl (by omega) (by omega), hts _ hY2.1, hts _ hY2.2.1⟩
    ⟨xv_blind, ?_, xv_Pcall (As := .ref b :: As) C hw hR hS (List.forall_mem_cons.mpr ⟨xv_ok_h hO2, hAs⟩)⟩ rfl (by rw [List.length_map]; exact hn) hL.1.1 (by rw [List.map_append, List.map_reverse]; rfl) (lv_room (by rw [xv_sum]; exact hsum)) h1 ⟨by omega, by omega⟩) kr ?_
  · obtain ⟨r, g1, cell, q1, q2, q3, -⟩ := hR.1 b _ hb
    have hcn := hY2.2.2
    rw [g1] at hcn
    have hcn2 : r.1 = M'.1.cls := Option.some.inj hcn
    refine ⟨cell, q1, by rw [q3]; rfl, ?_⟩
    rw [q2, ← hcn2]
    exact (C.2.2.2.2.2.2.2.2.2.1.1 ci _ g1).2.1
  · intro E sh' I' Rf' J' hq ad' ca' H' locs' cells' slots' q ce X' hw' hR' hS' hL' hc' hs' hce hcv hcl
    exact xv_pass C hh (kx E sh' I' Rf' J' hq) X' hw' hR' hS' hc' hs' hce hcv hcl
theorem xv_callS {M' : xv_M} {d' mc' ms' kc' ks' idx n : Nat} {As S0 : List Value} {Q' : xv_Q} (hM : xv_Met M' d' mc' ms' sh I Rf J As Q') (hf : xv_F M pc (.invokestatic idx) 3 pc') (hY : xv_Y M' n) (hY2 : Cond.static M'.1 ∈ xv_tbl) (hl : Cond.methodLink M.1.cls idx M'.1 ∈ xv_tbl ∨ (M'.2.2.2.2 = [] ∧ ∃ host, Cond.methodLinkNest M.1.cls idx M'.1 host ∈ xv_tbl)) (hh : M.2.2.2.2 = []) (hn : As.length = n) (hst : S0 = As.reverse ++ S) (hsum : (S.map fun v => v.category).sum ≤ 8) (hd : d' + 1 ≤ d) (h1c : kc' + mc' ≤ kc) (h1s : ks' + ms' ≤ ks)
    (kr : ∀ r sh' I' Rf' J', Q' (.inl r) sh' I' Rf' J' → (∀ v, sh v ≠ none → sh' v = sh v) → xv_W M d mc ms Q kc' ks' sh' I' Rf' J' pc' L (r.toList ++ S)) (kx : ∀ E sh' I' Rf' J', Q' (.inr E) sh' I' Rf' J' → Q (.inr E) sh' I' Rf' J') : xv_W M d mc ms Q kc ks sh I Rf J pc L S0 := by
  obtain ⟨h1, rfl⟩ := hf
  subst hst
  intro p l e R s m args below meth c D A sh0 ad0 ca0 ad ca H locs cells slots ls C X hw hR hS hL hO hc hs
  have hts := C.2.2.2.2.2.1
  have hAs : ∀ v ∈ As, xv_ok sh v := fun v hv => hO v (List.mem_append_left _ (List.mem_reverse.mpr hv))
  have hO2 : ∀ v ∈ S, xv_ok sh v := fun v hv => hO v (List.mem_append_right _ hv)
  have hY0 := id hY
  obtain ⟨y1, y2, y3, y4, y5, y6⟩ := hY
  have hRf : d ≤ R.frames := C.2.2.2.2.2.2.2.2.2.2.2.2.2.1
  have hRl : 40 * d ≤ R.locals := C.2.2.2.2.2.2.2.2.2.2.2.2.2.2.1
  have hcm : mc ≤ R.cells := C.2.2.2.2.2.2.2.2.2.2.2.2.2.2.2.1
  have hsm : ms ≤ R.slots := C.2.2.2.2.2.2.2.2.2.2.2.2.2.2.2.2
  have hpar : ∀ sig, parseMethodDescriptor M'.1.desc = some sig → n = sig.parameters.length := fun sig h => by
    rw [h] at y5
    exact (Option.some.inj y5).symm
  have hPc := xv_Pcall (As := As) C hw hR hS hAs
  have hpay : ∀ w ∈ xv_ws M', ∀ (a' : Array Value) (U : State), s.WarmedH U.vm → w.before a' U = true := xv_pay hY0 hts
  have hrun : vx_Run p l e R s m args below meth c H locs cells slots mc' ms' (F0 m pc ls ((As.reverse ++ S).map (xv_tr ad))) (S.map (xv_tr ad)) (xv_QR Q' D sh ad ca (xv_A sh ad H.size) (As.map (xv_tr ad)).toArray) (xv_QX Q' D sh ad ca (xv_A sh ad H.size)) (xv_A sh ad H.size) := by
    by_cases hh' : M'.2.2.2.2 = []
    · rw [xv_cd_0 hh'] at y1
      have hws : xv_ws M' = Cond.code M'.1 M'.2.1 M'.2.2.1 M'.2.2.2.1 :: xv_tbl := by unfold xv_ws; rw [xv_cd_0 hh']
      have hcode : Cond.code M'.1 M'.2.1 M'.2.2.1 M'.2.2.2.1 ∈ xv_ws M' := by rw [hws]; exact List.mem_cons_self
      rcases hl with hl | ⟨-, host, hl⟩
      · exact vx_runS (As := As.map (xv_tr ad)) (ret := M'.2.2.2.1) (n := n) (rest := S.map (xv_tr ad)) ⟨C.1, C.2.1, C.2.2.1, C.2.2.2.2.1, hts⟩ (hM l D ad ca H.size C.2.2.2.2.2.2.2.2.1) ⟨xv_callB hY0 hh' rfl hts hl (by omega) (by omega), hts _ hY2⟩
          ⟨xv_blind, hPc⟩ rfl (by rw [List.length_map]; exact hn) hL.1.1 (by rw [List.map_append, List.map_reverse]) (lv_room (by rw [xv_sum]; exact hsum)) h1 ⟨by omega, by omega⟩
      · exact vx_runSN (As := As.map (xv_tr ad)) (ret := M'.2.2.2.1) (n := n) (rest := S.map (xv_tr ad)) (host := host) ⟨C.1, C.2.1, C.2.2.1, C.2.2.2.2.1, hts⟩ (hM l D ad ca H.size C.2.2.2.2.2.2.2.2.1) ⟨⟨⟨rfl, rfl, by show d' + 1 ≤ _; omega, by show 8 + (M'.2.2.1 + 11) + 40 * d' ≤ _; omega, hpay, hcode⟩, hts _ y1, hts _ y2, ⟨y3, y4⟩, hpar, hts _ hl⟩, hts _ hY2, trivial⟩
          ⟨xv_blind, hPc⟩ rfl (by rw [List.length_map]; exact hn) hL.1.1 (by rw [List.map_append, List.map_reverse]) (lv_room (by rw [xv_sum]; exact hsum)) h1 ⟨by omega, by omega⟩
    · have e9 := xv_cd_1 hh'
      rw [e9] at y1
      have hws : xv_ws M' = Cond.codeWith M'.1 M'.2.1 M'.2.2.1 M'.2.2.2.1 M'.2.2.2.2 :: xv_tbl := by unfold xv_ws; rw [e9]
      have hcode : Cond.codeWith M'.1 M'.2.1 M'.2.2.1 M'.2.2.2.1 M'.2.2.2.2 ∈ xv_ws M' := by rw [hws]; exact List.mem_cons_self
      rcases hl with hl | ⟨hl, -⟩
      · exact vx_runSX (hh := M'.2.2.2.2) (As := As.map (xv_tr ad)) (ret := M'.2.2.2.1) (n := n) (rest := S.map (xv_tr ad)) ⟨C.1, C.2.1, C.2.2.1, C.2.2.2.2.1, hts⟩ (hM l D ad ca H.size C.2.2.2.2.2.2.2.2.1) ⟨⟨rfl, rfl, by show d' + 1 ≤ _; omega, by show 8 + (M'.2.2.1 + 11) + 40 * d' ≤ _; omega, hpay, hcode⟩, hts _ y1, hts _ y2, ⟨y3, y4⟩, hpar, hts _ hl, hts _ hY2⟩
          ⟨xv_blind, hPc⟩ rfl (by rw [List.length_map]; exact hn) hL.1.1 (by rw [List.map_append, List.map_reverse]) (lv_room (by rw [xv_sum]; exact hsum)) h1 ⟨by omega, by omega⟩
      · exact absurd hl hh'
  refine xv_after C X hw hR hS hL hO2 hc hs h1c h1s hrun kr ?_
  intro E sh' I' Rf' J' hq ad' ca' H' locs' cells' slots' q ce X' hw' hR' hS' hL' hc' hs' hce hcv hcl
  exact xv_pass C hh (kx E sh' I' Rf' J' hq) X' hw' hR' hS' hc' hs' hce hcv hcl
theorem xv_callI {M' : xv_M} {d' mc' ms' kc' ks' idx n b : Nat} {As S0 : List Value} {Q' : xv_Q} (hM : xv_Met M' d' mc' ms' sh I Rf J (.ref b :: As) Q') (hf : xv_F M pc (.invokespecial idx) 3 pc') (hY : xv_Y M' n) (hY2 : Cond.instanceMethod M'.1 ∈ xv_tbl ∧ M'.1.name = "<init>" ∧ M'.2.2.2.1 = none) (hl : Cond.methodLink M.1.cls idx M'.1 ∈ xv_tbl) (hh : M.2.2.2.2 = []) (hh' : M'.2.2.2.2 = []) (hn : As.length = n) (hst : S0 = As.reverse ++ .ref b :: S) (hsum : (S.map fun v => v.category).sum ≤ 8) (hd : d' + 1 ≤ d) (h1c : kc' + mc' ≤ kc) (h1s : ks' + ms' ≤ ks)
    (kr : ∀ r sh' I' Rf' J', Q' (.inl r) sh' I' Rf' J' → (∀ v, sh v ≠ none → sh' v = sh v) → xv_W M d mc ms Q kc' ks' sh' I' Rf' J' pc' L (r.toList ++ S)) (kx : ∀ E sh' I' Rf' J', Q' (.inr E) sh' I' Rf' J' → Q (.inr E) sh' I' Rf' J') : xv_W M d mc ms Q kc ks sh I Rf J pc L S0 := by
  obtain ⟨h1, rfl⟩ := hf
  subst hst
  intro p l e R s m args below meth c D A sh0 ad0 ca0 ad ca H locs cells slots ls C X hw hR hS hL hO hc hs
  have hts := C.2.2.2.2.2.1
  have hAs : ∀ v ∈ As, xv_ok sh v := fun v hv => hO v (List.mem_append_left _ (List.mem_reverse.mpr hv))
  have hO2 : ∀ v ∈ Value.ref b :: S, xv_ok sh v := fun v hv => hO v (List.mem_append_right _ hv)
  have hY0 := id hY
  obtain ⟨y1, y2, y3, y4, y5, y6⟩ := hY
  rw [xv_cd_0 hh'] at y1
  have hws : xv_ws M' = Cond.code M'.1 M'.2.1 M'.2.2.1 none :: xv_tbl := by unfold xv_ws; rw [xv_cd_0 hh', hY2.2.2]
  have hRf : d ≤ R.frames := C.2.2.2.2.2.2.2.2.2.2.2.2.2.1
  have hRl : 40 * d ≤ R.locals := C.2.2.2.2.2.2.2.2.2.2.2.2.2.2.1
  have hcm : mc ≤ R.cells := C.2.2.2.2.2.2.2.2.2.2.2.2.2.2.2.1
  have hsm : ms ≤ R.slots := C.2.2.2.2.2.2.2.2.2.2.2.2.2.2.2.2
  refine xv_after C X hw hR hS hL (xv_ok_t hO2) hc hs h1c h1s (vx_runI (As := As.map (xv_tr ad)) (b := ad b) (n := n) (rest := S.map (xv_tr ad)) ⟨C.1, C.2.1, C.2.2.1, C.2.2.2.2.1, hts⟩ (hM l D ad ca H.size C.2.2.2.2.2.2.2.2.1) ⟨xv_callB hY0 hh' hY2.2.2 hts hl (by omega) (by omega), hY2.2.1, hts _ hY2.1⟩
    ⟨xv_blind, xv_Pcall (As := .ref b :: As) C hw hR hS (List.forall_mem_cons.mpr ⟨xv_ok_h hO2, hAs⟩)⟩ rfl (by rw [List.length_map]; exact hn) hL.1.1 (by rw [List.map_append, List.map_reverse]; rfl) (lv_room (by rw [xv_sum]; exact hsum)) h1 ⟨by omega, by omega⟩) kr ?_
  · intro E sh' I' Rf' J' hq ad' ca' H' locs' cells' slots' q ce X' hw' hR' hS' hL' hc' hs' hce hcv hcl
    exact xv_pass C hh (kx E sh' I' Rf' J' hq) X' hw' hR' hS' hc' hs' hce hcv hcl
theorem xv_obj {idx a : Nat} (hf : xv_F M pc (.invokespecial idx) 3 pc') (hl : Cond.methodLink M.1.cls idx Lib.objectInit ∈ xv_tbl) (h2 : Cond.instanceMethod Lib.objectInit ∈ xv_tbl ∧ Cond.code Lib.objectInit ⟨#[0xb1]⟩ 1 none ∈ xv_tbl) (hd : 1 ≤ d) (hsum : (S.map fun v => v.category).sum ≤ 8) (kk : xv_W M d mc ms Q kc ks sh I Rf J pc' L S) : xv_W M d mc ms Q kc ks sh I Rf J pc L (.ref a :: S) := by
  obtain ⟨h1, rfl⟩ := hf
  intro p l e R s m args below meth c D A sh0 ad0 ca0 ad ca H locs cells slots ls C X hw hR hS hL hO hc hs
  have hts := C.2.2.2.2.2.1
  have hRf : d ≤ R.frames := C.2.2.2.2.2.2.2.2.2.2.2.2.2.1
  have hRl : 40 * d ≤ R.locals := C.2.2.2.2.2.2.2.2.2.2.2.2.2.2.1
  exact W.objInit C.1 C.2.1 C.2.2.2.2.1 (hts _ hl) (hts _ h2.1) (hts _ h2.2) rfl (by rw [C.2.2.1]; exact hL.1.1) rfl h1 (by omega) (by have := lv_room (m := m) (pc := pc) (ls := ls) (rest := S.map (xv_tr ad)) (st := S.map (xv_tr ad)) (by rw [xv_sum]; exact hsum); show 2 * (F0 m pc ls (S.map (xv_tr ad))).monitorRoom + _ + 12 ≤ _; omega) (kk C X hw hR hS hL (xv_ok_t hO) hc hs)
theorem xv_max {idx : Nat} {x y : Int32} (hf : xv_F M pc (.invokestatic idx) 3 pc') (hl : Cond.methodLink M.1.cls idx Lib.Math.max.name ∈ xv_tbl) (h2 : Cond.static Lib.Math.max.name ∈ xv_tbl ∧ Cond.initialized "java/lang/Math" ∈ xv_tbl ∧ Cond.code Lib.Math.max.name Lib.Math.max.code 2 (some .int) ∈ xv_tbl) (hd : 1 ≤ d) (hsum : (S.map fun v => v.category).sum ≤ 8) (kk : xv_W M d mc ms Q kc ks sh I Rf J pc' L (.int (if x < y then y else x) :: S)) : xv_W M d mc ms Q kc ks sh I Rf J pc L (.int y :: .int x :: S) := by
  obtain ⟨h1, rfl⟩ := hf
  intro p l e R s m args below meth c D A sh0 ad0 ca0 ad ca H locs cells slots ls C X hw hR hS hL hO hc hs
  have hts := C.2.2.2.2.2.1
  have hRf : d ≤ R.frames := C.2.2.2.2.2.2.2.2.2.2.2.2.2.1
  have hRl : 40 * d ≤ R.locals := C.2.2.2.2.2.2.2.2.2.2.2.2.2.2.1
  have hcm : mc ≤ R.cells := C.2.2.2.2.2.2.2.2.2.2.2.2.2.2.2.1
  have hsm : ms ≤ R.slots := C.2.2.2.2.2.2.2.2.2.2.2.2.2.2.2.2
  exact va_mmax C.1 C.2.1 (by rw [C.2.2.1]; exact hL.1.1.symm) C.2.2.2.2.1 (hts _ hl) (hts _ h2.1) (hts _ h2.2.1) (hts _ h2.2.2) (by omega) (by rw [xv_sum]; omega) (by omega) (by omega) h1 (kk C X hw hR hS hL (xv_ok_i (xv_ok_t (xv_ok_t hO)) _) hc hs)
end XVM
