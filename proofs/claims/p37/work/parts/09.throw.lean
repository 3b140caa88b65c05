section XVT
variable {M : xv_M} {d mc ms kc ks : Nat} {Q : xv_Q} {sh : xv_Sh} {I : xv_I} {Rf : xv_Rf} {J : xv_J} {pc pc' tgt : Nat} {L : List (Option Value)} {S : List Value}
theorem xv_R.grow {s : State} {D : va_G} {ad : Nat → Nat} {ca : Nat → ClassId} {H H1 : Heap} (h : xv_R s D ad ca sh I Rf J H) (oq : ∀ q, q < H.size → H1[q]? = H[q]?) : xv_R s D ad ca sh I Rf J H1 := ⟨fun v x hx => (h.1 v x hx).kept (oq _ (h.1 v x hx).lt), h.2⟩
def xv_nms : List String := ["java/lang/RuntimeException", "java/lang/Exception"]
/-- a throw of a class with a text: what the tables say -/
def xv_H (own : String) (ik is ic : Nat) (cls : String) : Prop := Bundle.fit cls = true ∧ Cond.classLink own ik cls ∈ xv_tbl ∧ Cond.initialized cls ∈ xv_tbl ∧ (∃ tx, (own, is, tx) ∈ xv_strs) ∧ (∀ w ∈ vx_atS own ic cls xv_nms, w ∈ xv_tbl) ∧ ∀ w ∈ Cond.classLink own ik cls :: Cond.initialized cls :: vx_atS own ic cls xv_nms, vx_ot w = true
theorem xv_nms_fit : ∀ n ∈ xv_nms, Bundle.fit n = true := by decide +kernel
/-- the instructions of a throw -/
def xv_TW (M : xv_M) (pc ik is ic : Nat) : Prop := decode M.2.1 pc = .ok (.new ik, 3) ∧ decode M.2.1 (pc + 3) = .ok (.dup, 1) ∧ ((decode M.2.1 (pc + 4) = .ok (.ldc is, 2) ∧ decode M.2.1 (pc + 6) = .ok (.invokespecial ic, 3) ∧ decode M.2.1 (pc + 9) = .ok (.athrow, 1)) ∨ (decode M.2.1 (pc + 4) = .ok (.ldc_w is, 3) ∧ decode M.2.1 (pc + 7) = .ok (.invokespecial ic, 3) ∧ decode M.2.1 (pc + 10) = .ok (.athrow, 1)))
theorem xv_throw {ik is ic : Nat} {cls : String} (hf : xv_TW M pc ik is ic) (hH : xv_H M.1.cls ik is ic cls) (hh : M.2.2.2.2 = []) (hd : 6 ≤ d) (h1c : 1 ≤ kc) (h1s : 6 ≤ ks) (hsum : (S.map fun v => v.category).sum ≤ 8) (hQ : Q (.inr cls) sh I Rf J) : xv_W M d mc ms Q kc ks sh I Rf J pc L S := by
  obtain ⟨f0, f3, f4⟩ := hf
  obtain ⟨e1, e2, e3, ⟨tx, e4⟩, e5, e6⟩ := hH
  intro p l e R s m args below meth c D A sh0 ad0 ca0 ad ca H locs cells slots ls C X hw hR hS hL hO hc hs
  have hts := C.2.2.2.2.2.1
  have hE := C.2.2.2.2.2.2.2.2.2.2.1
  have htab := C.2.2.2.2.2.2.2.2.2.2.2.2.1
  rw [hh] at htab
  have hRf : d ≤ R.frames := C.2.2.2.2.2.2.2.2.2.2.2.2.2.1
  have hRl : 40 * d ≤ R.locals := C.2.2.2.2.2.2.2.2.2.2.2.2.2.2.1
  have hcm : mc ≤ R.cells := C.2.2.2.2.2.2.2.2.2.2.2.2.2.2.2.1
  have hsm : ms ≤ R.slots := C.2.2.2.2.2.2.2.2.2.2.2.2.2.2.2.2
  obtain ⟨sa, hsa⟩ := hE.2.2.1 _ e4
  have hout : ∀ (k : Nat), ∀ x ∈ c.exceptionTable.toList, covers x k = false := fun k x hx => by rw [htab] at hx; cases hx
  have hx9 : ∀ t : State, s.vm.Alike t.vm → H.size ≤ t.heap.size → (∀ q : Nat, q < H.size → t.heap[q]? = H[q]?) → xv_QX Q D sh0 ad0 ca0 A cls s t := fun t h1 h2 h3 =>
    ⟨sh, I, Rf, J, ad, ca, hQ, (hR.grow h3).moved h1, X, hw, Nat.le_trans hS.1 h2, fun q h4 h5 => (h3 q (Nat.lt_of_lt_of_le h4 hS.1)).trans (hS.2.1 q h4 h5)⟩
  have hsz : ls.size = c.maxLocals := by rw [C.2.2.1]; exact hL.1.1
  have h7 : ((S.map (xv_tr ad)).map fun v => v.category).sum + (13 * (xv_nms.length + 1) + 43) ≤ R.locals := by
    rw [xv_sum]
    show _ + (13 * (2 + 1) + 43) ≤ _
    omega
  rcases f4 with ⟨g4, g6, g9⟩ | ⟨g4, g7, g10⟩
  · exact vx_throwS C.1 C.2.1 C.2.2.2.2.2.2.2.2.1 C.2.2.2.2.1 e1 xv_nms_fit (hts _ e2) (hts _ e3) hsa (fun w hw => hts _ (e5 w hw)) e6 hE.1 hE.2.1 hS hsz f0 f3 g4 g6 g9 (hout _) (by show 2 + 3 < _; omega) h7 (by omega) (by omega) C.2.2.2.2.2.2.1 hx9 (fun z hz => hS.2.2 z hz) (by omega) (by omega)
  · exact vx_throwSW C.1 C.2.1 C.2.2.2.2.2.2.2.2.1 C.2.2.2.2.1 e1 xv_nms_fit (hts _ e2) (hts _ e3) hsa (fun w hw => hts _ (e5 w hw)) e6 hE.1 hE.2.1 hS hsz f0 f3 g4 g7 g10 (hout _) (by show 2 + 3 < _; omega) h7 (by omega) (by omega) C.2.2.2.2.2.2.1 hx9 (fun z hz => hS.2.2 z hz) (by omega) (by omega)
/-- the handler of what is thrown at pc: it stores it, and answers v -/
def xv_Hn (M : xv_M) (pc : Nat) (E : String) (v : Int32) : Prop := ∃ (pre suf : List ExceptionTableEntry) (x : ExceptionTableEntry) (nm : String) (k h2 h3 h4 : Nat), tableOf M.2.2.2.2 = pre ++ x :: suf ∧ (∀ z ∈ pre, covers z pc = false ∨ (z.catchType ≠ 0 ∧ ∃ n2, Cond.classLink M.1.cls z.catchType n2 ∈ xv_tbl ∧ (E, n2) ∈ xv_ncs)) ∧ covers x pc = true ∧ x.catchType ≠ 0 ∧ Cond.classLink M.1.cls x.catchType nm ∈ xv_tbl ∧ Cond.castable E nm ∈ xv_tbl ∧ xv_SA M x.handlerPc k h2 ∧ k < M.2.2.1 ∧ xv_K M h2 v h3 ∧ xv_F M h3 .ireturn 1 h4
theorem xv_caught {p : Program} {l : Launch} {e : Env} {R : Room} {s : State} {m : MethodId} {args : Array Value} {below : List Frame} {meth : Method} {c : Code} {D : va_G} {A : Nat → Prop} {sh0 : xv_Sh} {ad0 : Nat → Nat} {ca0 : Nat → ClassId} {ls : Array Slot} {st : List Value} {E : String} {v : Int32} {sh' : xv_Sh} {I' : xv_I} {Rf' : xv_Rf} {J' : xv_J}
    (C : xv_C M d mc ms p l R s m args meth c D A) (hn : xv_Hn M pc E v) (hr : M.2.2.2.1 = some .int) (hQ : Q (.inl (some (.int v))) sh' I' Rf' J') {kc' ks' : Nat} {ad' : Nat → Nat} {ca' : Nat → ClassId} {H' : Heap} {locs' : List Loc} {cells' slots' : Nat} {q : Addr} {ce : Cell} (X : xv_X sh0 ad0 ca0 sh' ad' ca') (hw : ∀ v, xv_w sh' v → A (ad' v)) (hR : xv_R s D ad' ca' sh' I' Rf' J' H') (hS : va_S A s.heap H' locs') (hL : xv_L ad' sh' M.2.2.1 ls L) (hc : cells' + kc' ≤ mc) (hs : slots' + ks' ≤ ms) (hce : H'[q]? = some ce) (hcv : ce.vm = .none) (hcl : s.vm.findClass E = some ce.cls) :
    vx_W p l e R s m args below meth c H' locs' cells' slots' (vx_MQ below (xv_QR Q D sh0 ad0 ca0 A) (xv_QX Q D sh0 ad0 ca0 A) args s mc ms A) (F0 m pc ls st) q := by
  obtain ⟨pre, suf, x, nm, k, h2, h3, h4, a1, a2, a3, a4, a5, a6, a7, a8, a9, b2, rfl⟩ := hn
  have hts := C.2.2.2.2.2.1
  have htab := C.2.2.2.2.2.2.2.2.2.2.2.2.1
  have hE := C.2.2.2.2.2.2.2.2.2.2.1
  refine vx_catch C.2.2.2.2.1 pre x suf (htab.trans a1) (fun z hz => ?_) a3 a4 (hts _ a5) (hts _ a6) hce hcv hcl ?_
  · rcases a2 z hz with h | ⟨h, n2, h5, h6⟩
    · exact Or.inl h
    · exact Or.inr ⟨h, n2, hts _ h5, hE.2.2.2 _ h6⟩
  · have fin : ∀ ls' : Array Slot, W p l e R s m args below meth c H' locs' cells' slots' (vx_MQ below (xv_QR Q D sh0 ad0 ca0 A) (xv_QX Q D sh0 ad0 ca0 A) args s mc ms A) (F0 m h2 ls' []) := fun ls' => by
      rcases a9 with ⟨n, c1, c2, rfl⟩ | ⟨n, c1, c2, rfl⟩ | ⟨n, c1, c2, rfl⟩ | ⟨n, c1, c2, rfl⟩
      · refine lv_iconst C.1 C.2.1 c1 c2 ?_
        exact vx_ret (W.widen (k := mc) (n := ms) (by omega) (by omega) (W.zret C.1 C.2.1 (C.2.2.2.1.trans hr) rfl (fun t ht hW => ⟨some (.int v), sh', I', Rf', J', ad', ca', rfl, hQ, (fun z hz => by cases hz; trivial), by rw [ht]; exact hR.moved hW.alike, X, hw, hS.F ht⟩) (fun q hq => hS.2.2 q hq) b2 C.2.2.2.2.2.2.1))
      · refine lv_bipush C.1 C.2.1 c1 c2 ?_
        exact vx_ret (W.widen (k := mc) (n := ms) (by omega) (by omega) (W.zret C.1 C.2.1 (C.2.2.2.1.trans hr) rfl (fun t ht hW => ⟨some (.int v), sh', I', Rf', J', ad', ca', rfl, hQ, (fun z hz => by cases hz; trivial), by rw [ht]; exact hR.moved hW.alike, X, hw, hS.F ht⟩) (fun q hq => hS.2.2 q hq) b2 C.2.2.2.2.2.2.1))
      · refine lv_sipush C.1 C.2.1 c1 c2 ?_
        exact vx_ret (W.widen (k := mc) (n := ms) (by omega) (by omega) (W.zret C.1 C.2.1 (C.2.2.2.1.trans hr) rfl (fun t ht hW => ⟨some (.int v), sh', I', Rf', J', ad', ca', rfl, hQ, (fun z hz => by cases hz; trivial), by rw [ht]; exact hR.moved hW.alike, X, hw, hS.F ht⟩) (fun q hq => hS.2.2 q hq) b2 C.2.2.2.2.2.2.1))
      · refine lv_ldc C.1 C.2.1 C.2.2.2.2.1 (hts _ c2) c1 ?_
        exact vx_ret (W.widen (k := mc) (n := ms) (by omega) (by omega) (W.zret C.1 C.2.1 (C.2.2.2.1.trans hr) rfl (fun t ht hW => ⟨some (.int v), sh', I', Rf', J', ad', ca', rfl, hQ, (fun z hz => by cases hz; trivial), by rw [ht]; exact hR.moved hW.alike, X, hw, hS.F ht⟩) (fun q hq => hS.2.2 q hq) b2 C.2.2.2.2.2.2.1))
    rcases a7 with ⟨n, c1, c2, rfl⟩ | ⟨c1, rfl⟩
    · exact lv_astore_n C.1 C.2.1 c1 c2 hL.1 a8 rfl (fun ls' _ => fin ls')
    · exact lv_astore C.1 C.2.1 c1 hL.1 a8 rfl (fun ls' _ => fin ls')
/-- a call of an instance's method, where what it throws is caught here and answered by a number -/
theorem xv_callVH {M' : xv_M} {d' mc' ms' kc' ks' idx n b ci : Nat} {As S0 : List Value} {Q' : xv_Q} (hM : xv_Met M' d' mc' ms' sh I Rf J (.ref b :: As) Q') (hf : xv_F M pc (.invokevirtual idx) 3 pc') (hY : xv_Y M' n) (hY2 : Cond.instanceMethod M'.1 ∈ xv_tbl ∧ Cond.selects M'.1.cls M'.1 M'.1 ∈ xv_tbl ∧ (vwCl[ci]?.map fun q => q.1) = some M'.1.cls) (hl : Cond.methodLink M.1.cls idx M'.1 ∈ xv_tbl) (hret : M.2.2.2.1 = some .int) (hh' : M'.2.2.2.2 = []) (hb : sh b = some (.inl ci)) (hn : As.length = n) (hst : S0 = As.reverse ++ .ref b :: S) (hsum : (S.map fun v => v.category).sum ≤ 8) (hd : d' + 1 ≤ d) (h1c : kc' + mc' ≤ kc) (h1s : ks' + ms' ≤ ks)
    (kr : ∀ r sh' I' Rf' J', Q' (.inl r) sh' I' Rf' J' → (∀ v, sh v ≠ none → sh' v = sh v) → xv_W M d mc ms Q kc' ks' sh' I' Rf' J' pc' L (r.toList ++ S)) (kx : ∀ E sh' I' Rf' J', Q' (.inr E) sh' I' Rf' J' → ∃ v, xv_Hn M pc E v ∧ Q (.inl (some (.int v))) sh' I' Rf' J') : xv_W M d mc ms Q kc ks sh I Rf J pc L S0 := by
  obtain ⟨h1, rfl⟩ := hf
  subst hst
  intro p l e R s m args below meth c D A sh0 ad0 ca0 ad ca H locs cells slots ls C X hw hR hS hL hO hc hs
  have hts := C.2.2.2.2.2.1
  have hAs : ∀ v ∈ As, xv_ok sh v := fun v hv => hO v (List.mem_append_left _ (List.mem_reverse.mpr hv))
  have hO2 : ∀ v ∈ Value.ref b :: S, xv_ok sh v := fun v hv => hO v (List.mem_append_right _ hv)
  have hRf : d ≤ R.frames := C.2.2.2.2.2.2.2.2.2.2.2.2.2.1
  have hRl : 40 * d ≤ R.locals := C.2.2.2.2.2.2.2.2.2.2.2.2.2.2.1
  have hcm : mc ≤ R.cells := C.2.2.2.2.2.2.2.2.2.2.2.2.2.2.2.1
  have hsm : ms ≤ R.slots := C.2.2.2.2.2.2.2.2.2.2.2.2.2.2.2.2
  refine xv_after C X hw hR hS hL (xv_ok_t hO2) hc hs h1c h1s (vx_runV (As := As.map (xv_tr ad)) (C := M'.1.cls) (b := ad b) (ret := M'.2.2.2.1) (n := n) (rest := S.map (xv_tr ad)) ⟨C.1, C.2.1, C.2.2.1, C.2.2.2.2.1, hts⟩ (hM l D ad ca H.size C.2.2.2.2.2.2.2.2.1) ⟨xv_callB hY hh' rfl hts hl (by omega) (by omega), hts _ hY2.1, hts _ hY2.2.1⟩
    ⟨xv_blind, ?_, xv_Pcall (As := .ref b :: As) C hw hR hS (List.forall_mem_cons.mpr ⟨xv_ok_h hO2, hAs⟩)⟩ rfl (by rw [List.length_map]; exact hn) hL.1.1 (by rw [List.map_append, List.map_reverse]; rfl) (lv_room (by rw [xv_sum]; exact hsum)) h1 ⟨by omega, by omega⟩) kr ?_
  · obtain ⟨r, g1, cell, q1, q2, q3, -⟩ := hR.1 b _ hb
    have hcn := hY2.2.2
    rw [g1] at hcn
    have hcn2 : r.1 = M'.1.cls := Option.some.inj hcn
    refine ⟨cell, q1, by rw [q3]; rfl, ?_⟩
    rw [q2, ← hcn2]
    exact (C.2.2.2.2.2.2.2.2.2.1.1 ci _ g1).2.1
  · intro E sh' I' Rf' J' hq ad' ca' H' locs' cells' slots' q ce X' hw' hR' hS' hL' hc' hs' hce hcv hcl
    obtain ⟨v, hv, hQ⟩ := kx E sh' I' Rf' J' hq
    exact xv_caught C hv hret hQ X' hw' hR' hS' hL' hc' hs' hce hcv hcl
/-- the same, of a static method -/
theorem xv_callSH {M' : xv_M} {d' mc' ms' kc' ks' idx n : Nat} {As S0 : List Value} {Q' : xv_Q} (hM : xv_Met M' d' mc' ms' sh I Rf J As Q') (hf : xv_F M pc (.invokestatic idx) 3 pc') (hY : xv_Y M' n) (hY2 : Cond.static M'.1 ∈ xv_tbl) (hl : Cond.methodLink M.1.cls idx M'.1 ∈ xv_tbl ∨ (M'.2.2.2.2 = [] ∧ ∃ host, Cond.methodLinkNest M.1.cls idx M'.1 host ∈ xv_tbl)) (hret : M.2.2.2.1 = some .int) (hn : As.length = n) (hst : S0 = As.reverse ++ S) (hsum : (S.map fun v => v.category).sum ≤ 8) (hd : d' + 1 ≤ d) (h1c : kc' + mc' ≤ kc) (h1s : ks' + ms' ≤ ks)
    (kr : ∀ r sh' I' Rf' J', Q' (.inl r) sh' I' Rf' J' → (∀ v, sh v ≠ none → sh' v = sh v) → xv_W M d mc ms Q kc' ks' sh' I' Rf' J' pc' L (r.toList ++ S)) (kx : ∀ E sh' I' Rf' J', Q' (.inr E) sh' I' Rf' J' → ∃ v, xv_Hn M pc E v ∧ Q (.inl (some (.int v))) sh' I' Rf' J') : xv_W M d mc ms Q kc ks sh I Rf J pc L S0 := by
  obtain ⟨h1, rfl⟩ := hf
  subst hst
  intro p l e R s m args below meth c D A sh0 ad0 ca0 ad ca H locs cells slots ls C X hw hR hS hL hO hc hs
  have hts := C.2.2.2.2.2.1
  have hAs : ∀ v ∈ As, xv_ok sh v := fun v hv => hO v (List.mem_append_left _ (List.mem_reverse.mpr hv))
  have hO2 : ∀ v ∈ S, xv_ok sh v := fun v hv => hO v (List.mem_append_right _ hv)
  have hY0 := id hY
  obtain ⟨y1, y2, y3, y4, y5, y6⟩ := hY
  have hRf : d ≤ R.frames := C.2.2.2.2.2.2.2.2.2.2.2.2.2.1
  have hRl : 40 * d ≤ R.locals := C.2.2.2.2.2.2.2.2.2.2.2.2.2.2.1
  have hcm : mc ≤ R.cells := C.2.2.2.2.2.2.2.2.2.2.2.2.2.2.2.1
  have hsm : ms ≤ R.slots := C.2.2.2.2.2.2.2.2.2.2.2.2.2.2.2.2
  have hpar : ∀ sig, parseMethodDescriptor M'.1.desc = some sig → n = sig.parameters.length := fun sig h => by
    rw [h] at y5
    exact (Option.some.inj y5).symm
  have hPc := xv_Pcall (As := As) C hw hR hS hAs
  have hpay : ∀ w ∈ xv_ws M', ∀ (a' : Array Value) (U : State), s.WarmedH U.vm → w.before a' U = true := xv_pay hY0 hts
  have hrun : vx_Run p l e R s m args below meth c H locs cells slots mc' ms' (F0 m pc ls ((As.reverse ++ S).map (xv_tr ad))) (S.map (xv_tr ad)) (xv_QR Q' D sh ad ca (xv_A sh ad H.size) (As.map (xv_tr ad)).toArray) (xv_QX Q' D sh ad ca (xv_A sh ad H.size)) (xv_A sh ad H.size) := by
    by_cases hh' : M'.2.2.2.2 = []
    · rw [xv_cd_0 hh'] at y1
      have hws : xv_ws M' = Cond.code M'.1 M'.2.1 M'.2.2.1 M'.2.2.2.1 :: xv_tbl := by unfold xv_ws; rw [xv_cd_0 hh']
      have hcode : Cond.code M'.1 M'.2.1 M'.2.2.1 M'.2.2.2.1 ∈ xv_ws M' := by rw [hws]; exact List.mem_cons_self
      rcases hl with hl | ⟨-, host, hl⟩
      · exact vx_runS (As := As.map (xv_tr ad)) (ret := M'.2.2.2.1) (n := n) (rest := S.map (xv_tr ad)) ⟨C.1, C.2.1, C.2.2.1, C.2.2.2.2.1, hts⟩ (hM l D ad ca H.size C.2.2.2.2.2.2.2.2.1) ⟨xv_callB hY0 hh' rfl hts hl (by omega) (by omega), hts _ hY2⟩
          ⟨xv_blind, hPc⟩ rfl (by rw [List.length_map]; exact hn) hL.1.1 (by rw [List.map_append, List.map_reverse]) (lv_room (by rw [xv_sum]; exact hsum)) h1 ⟨by omega, by omega⟩
      · exact vx_runSN (As := As.map (xv_tr ad)) (ret := M'.2.2.2.1) (n := n) (rest := S.map (xv_tr ad)) (host := host) ⟨C.1, C.2.1, C.2.2.1, C.2.2.2.2.1, hts⟩ (hM l D ad ca H.size C.2.2.2.2.2.2.2.2.1) ⟨⟨⟨rfl, rfl, by show d' + 1 ≤ _; omega, by show 8 + (M'.2.2.1 + 11) + 40 * d' ≤ _; omega, hpay, hcode⟩, hts _ y1, hts _ y2, ⟨y3, y4⟩, hpar, hts _ hl⟩, hts _ hY2, trivial⟩
          ⟨xv_blind, hPc⟩ rfl (by rw [List.length_map]; exact hn) hL.1.1 (by rw [List.map_append, List.map_reverse]) (lv_room (by rw [xv_sum]; exact hsum)) h1 ⟨by omega, by omega⟩
    · have e9 := xv_cd_1 hh'
      rw [e9] at y1
      have hws : xv_ws M' = Cond.codeWith M'.1 M'.2.1 M'.2.2.1 M'.2.2.2.1 M'.2.2.2.2 :: xv_tbl := by unfold xv_ws; rw [e9]
      have hcode : Cond.codeWith M'.1 M'.2.1 M'.2.2.1 M'.2.2.2.1 M'.2.2.2.2 ∈ xv_ws M' := by rw [hws]; exact List.mem_cons_self
      rcases hl with hl | ⟨hl, -⟩
      · exact vx_runSX (hh := M'.2.2.2.2) (As := As.map (xv_tr ad)) (ret := M'.2.2.2.1) (n := n) (rest := S.map (xv_tr ad)) ⟨C.1, C.2.1, C.2.2.1, C.2.2.2.2.1, hts⟩ (hM l D ad ca H.size C.2.2.2.2.2.2.2.2.1) ⟨⟨rfl, rfl, by show d' + 1 ≤ _; omega, by show 8 + (M'.2.2.1 + 11) + 40 * d' ≤ _; omega, hpay, hcode⟩, hts _ y1, hts _ y2, ⟨y3, y4⟩, hpar, hts _ hl, hts _ hY2⟩
          ⟨xv_blind, hPc⟩ rfl (by rw [List.length_map]; exact hn) hL.1.1 (by rw [List.map_append, List.map_reverse]) (lv_room (by rw [xv_sum]; exact hsum)) h1 ⟨by omega, by omega⟩
      · exact absurd hl hh'
  refine xv_after C X hw hR hS hL hO2 hc hs h1c h1s hrun kr ?_
  intro E sh' I' Rf' J' hq ad' ca' H' locs' cells' slots' q ce X' hw' hR' hS' hL' hc' hs' hce hcv hcl
  obtain ⟨v, hv, hQ⟩ := kx E sh' I' Rf' J' hq
  exact xv_caught C hv hret hQ X' hw' hR' hS' hL' hc' hs' hce hcv hcl
end XVT
/-- cells that came and are asked for no more are forgotten at the end -/
theorem xv_Met.forget {M : xv_M} {d mc ms : Nat} {sh sh' : xv_Sh} {I I' : xv_I} {Rf Rf' : xv_Rf} {J J' : xv_J} {As : List Value} {v : Int32} (h : xv_Met M d mc ms sh I Rf J As (fun o s i r j => o = .inl (some (.int v)) ∧ s = sh' ∧ i = I' ∧ r = Rf' ∧ j = J'))
    (h2 : ∀ w, sh w ≠ none → sh' w = sh w) (h3 : ∀ w k u, sh w ≠ none → Rf' w k = some u → sh u ≠ none) : xv_Met M d mc ms sh I Rf J As (fun o s i r j => o = .inl (some (.int v)) ∧ s = sh ∧ i = I' ∧ r = Rf' ∧ j = J') := fun l D ad ca sz hl => by
  refine MetFree.imp (h l D ad ca sz hl) (fun a st o t hh => ?_)
  rcases hh with ⟨⟨r, sh1, I1, Rf1, J1, ad1, ca1, g1, ⟨g2, rfl, rfl, rfl, rfl⟩, g3, g4, g5, g6⟩, h4⟩ | ⟨q, h1, hx⟩
  · cases g2
    refine Or.inl ⟨⟨some (.int v), sh, I1, Rf1, J1, ad1, ca1, g1, ⟨rfl, rfl, rfl, rfl, rfl⟩, fun x hx => by cases hx; trivial, ?_, ?_, ?_⟩, h4⟩
    · refine ⟨fun w x hw => g4.1 w x ((h2 w (by rw [hw]; exact Option.some_ne_none _)).trans hw), fun w u hw hu => g4.2.1 w u (by rw [h2 w hw]; exact hw) (by rw [h2 u hu]; exact hu), fun w k u hw hr => h3 w k u hw hr⟩
    · exact fun w hw => ⟨rfl, (g5 w hw).2⟩
    · exact ⟨fun w hw => by
        obtain ⟨x, hx, hx2⟩ := hw
        exact g6.1 w ⟨x, (h2 w (by rw [hx]; exact Option.some_ne_none _)).trans hx, hx2⟩, g6.2⟩
  · obtain ⟨E, ce, L, ⟨sh1, I1, Rf1, J1, ad1, ca1, ⟨g1, -⟩, g2⟩, h3⟩ := hx
    cases g1
