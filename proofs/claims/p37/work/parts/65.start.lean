def R_law : String := "PressHallLaw"
def lw_P (b : Addr) (xs : List Int32) (args : Array Value) (s : State) : Prop := args = #[.ref b] ∧ s.IntsAt b xs ∧ xs.length ≤ 260 ∧ (Jvm.Cond.and given_1 narrow_1).before args s = true
def lw_Q (_ : Array Value) (s : State) (o : Outcome) (t : State) : Prop := o = .returned (some (.int 1)) ∧ Framed s o t [] 600074 7301550
def lw_Z (below : List Frame) (a : Array Value) (s : State) : State → Prop := fun t => ∃ o, t.status = .running ∧ Ended t below o ∧ lw_Q a s o t
/-- the law's own end, with 1 on the stack, nothing written that was there before, its room as the claim has it -/
theorem lw_ret {p : Program} {l : Launch} {e : Env} {s : State} {m : MethodId} {below : List Frame} {meth : Method} {c : Code} {b : Nat} (hx : p.tables.exec = Jvm.exec) (hb : c.code = code) (hr : meth.sig.returnType = ret) (hlocks : meth.locks = false) {pc : Nat} {H : Heap} {ls : Array Slot} (hdg : decode code pc = .ok (.ireturn, 1)) : W p l e room_1 s m #[Value.ref b] below meth c H [] 600074 7301550 (lw_Z below #[Value.ref b] s) (F0 m pc ls [.int 1]) := by
  intro T hT X
  obtain ⟨fs, hret, hrun, hended, hW, hframe⟩ := X.leave (v := some (.int 1)) (hlocks := hlocks) (fun h => by rw [hr] at h; cases h)
  have hmeth' : T.vm.method? m = some meth := X.method'
  refine ⟨T.setFrames fs, ?_, .returned (some (.int 1)), hrun, hended, rfl, ⟨_, rfl⟩, hW, hframe⟩
  jvm_step X.here [X.here.top, hx, hb, hdg, hmeth', hr, ret, narrow_b1]
  (try refine ⟨rfl, ?_⟩); (try refine ⟨rfl, ?_⟩)
  first | (intro acts; rw [hret _ acts rfl rfl rfl]) | rw [hret _ _ rfl rfl rfl]
  exact Steps.refl _
/-- what holds at the law's entry: the machine, the code, the tables' words (any of lw_tbl by 'hts w (by decide +kernel)'), the script of L ints xs at the cell b, what the Statement gives of the start (any of its parts by flat_of_before) -/
def lw_At (p : Program) (s : State) (m : MethodId) (meth : Method) (c : Code) (b L : Nat) (xs : Nat → Int32) : Prop :=
  p.tables.exec = Jvm.exec ∧ c.code = code ∧ meth.sig.returnType = ret ∧ c.maxLocals = 22 ∧ s.vm.findClass R_law = some m.cls ∧ (∀ w ∈ lw_tbl, w.before #[Value.ref b] s = true) ∧ va_X b L xs s s.heap ∧ b < s.heap.size ∧ meth.locks = false ∧ (Jvm.Cond.and given_1 narrow_1).before #[Value.ref b] s = true ∧ meth.name = "law" ∧ c.exceptionTable.toList = []
theorem k_known {s : State} {args : Array Value} (htb : ∀ w ∈ xv_tbl, w.before args s = true) (k : Nat) (q : vw_C) (hq : vwCl[k]? = some q) : ∃ (c : ClassId) (iS : Nat → Nat), u_Kn s q.1 q.2.1 q.2.2 c iS := by
  match k, hq with
  | 0, hq =>
    cases hq
    exact u_known (n := 8) htb inX0 (htb _ (xv_tbl_mem 413 (by decide +kernel) rfl))
  | 1, hq =>
    cases hq
    exact u_known (n := 5) htb inX1 (htb _ (xv_tbl_mem 113 (by decide +kernel) rfl))
  | 2, hq =>
    cases hq
    exact u_known (n := 3) htb inX2 (htb _ (xv_tbl_mem 153 (by decide +kernel) rfl))
  | 3, hq =>
    cases hq
    exact u_known (n := 6) htb inX3 (htb _ (xv_tbl_mem 65 (by decide +kernel) rfl))
  | 4, hq =>
    cases hq
    exact u_known (n := 4) htb inX4 (htb _ (xv_tbl_mem 183 (by decide +kernel) rfl))
  | 5, hq =>
    cases hq
    exact u_known (n := 7) htb inX5 (htb _ (xv_tbl_mem 28 (by decide +kernel) rfl))
  | 6, hq =>
    cases hq
    exact u_known (n := 5) htb inX6 (htb _ (xv_tbl_mem 549 (by decide +kernel) rfl))
  | 7, hq =>
    cases hq
    exact u_known (n := 3) htb inX7 (htb _ (xv_tbl_mem 138 (by decide +kernel) rfl))
  | 8, hq =>
    cases hq
    exact u_known (n := 4) htb inX8 (htb _ (xv_tbl_mem 71 (by decide +kernel) rfl))
  | 9, hq =>
    cases hq
    exact u_known (n := 3) htb inX9 (htb _ (xv_tbl_mem 168 (by decide +kernel) rfl))
  | 10, hq =>
    cases hq
    exact u_known (n := 14) htb inX10 (htb _ (xv_tbl_mem 20 (by decide +kernel) rfl))
  | k + 11, hq => exact absurd hq (by simp [vwCl])
theorem k_strs {s : State} {args : Array Value} {cP : ClassId} (hts : ∀ w ∈ lw_tbl, w.before args s = true) (hP : s.vm.findClass "PressHall" = some cP) : ∀ q ∈ xv_strs, ∃ sa, vk_R q.1 q.2.1 q.2.2 sa s := by
  have f : ∀ (n : Nat) (tx : String), (Cond.stringRef "PressHall" n tx).before args s = true → ∃ sa, vk_R "PressHall" n tx sa s := fun n tx h => by
    obtain ⟨-, -, -, sa, -, -, -, -, -, hev⟩ := Cond.stringRef_spec hP h
    exact ⟨sa, vk_R.of h hev⟩
  exact List.forall_mem_cons.mpr ⟨f _ _ (hts _ (List.mem_append_right _ (List.mem_of_getElem? (i := 312) (by decide +kernel)))), List.forall_mem_cons.mpr ⟨f _ _ (hts _ (List.mem_append_right _ (List.mem_of_getElem? (i := 351) (by decide +kernel)))), List.forall_mem_cons.mpr ⟨f _ _ (hts _ (List.mem_append_right _ (List.mem_of_getElem? (i := 379) (by decide +kernel)))), List.forall_mem_cons.mpr ⟨f _ _ (hts _ (List.mem_append_right _ (List.mem_of_getElem? (i := 398) (by decide +kernel)))), List.forall_mem_cons.mpr ⟨f _ _ (hts _ (List.mem_append_right _ (List.mem_of_getElem? (i := 412) (by decide +kernel)))), List.forall_mem_cons.mpr ⟨f _ _ (hts _ (List.mem_append_right _ (List.mem_of_getElem? (i := 461) (by decide +kernel)))), List.forall_mem_cons.mpr ⟨f _ _ (hts _ (List.mem_append_right _ (List.mem_of_getElem? (i := 466) (by decide +kernel)))), List.forall_mem_cons.mpr ⟨f _ _ (hts _ (List.mem_append_right _ (List.mem_of_getElem? (i := 528) (by decide +kernel)))), List.forall_mem_cons.mpr ⟨f _ _ (hts _ (List.mem_append_right _ (List.mem_of_getElem? (i := 537) (by decide +kernel)))), List.forall_mem_cons.mpr ⟨f _ _ (hts _ (List.mem_append_right _ (List.mem_of_getElem? (i := 548) (by decide +kernel)))), List.forall_mem_cons.mpr ⟨f _ _ (hts _ (List.mem_append_right _ (List.mem_of_getElem? (i := 589) (by decide +kernel)))), List.forall_mem_cons.mpr ⟨f _ _ (hts _ (List.mem_append_right _ (List.mem_of_getElem? (i := 594) (by decide +kernel)))), List.forall_mem_cons.mpr ⟨f _ _ (hts _ (List.mem_append_right _ (List.mem_of_getElem? (i := 681) (by decide +kernel)))), List.forall_mem_cons.mpr ⟨f _ _ (hts _ (List.mem_append_right _ (List.mem_of_getElem? (i := 687) (by decide +kernel)))), List.forall_mem_cons.mpr ⟨f _ _ (hts _ (List.mem_append_right _ (List.mem_of_getElem? (i := 704) (by decide +kernel)))), List.forall_mem_cons.mpr ⟨f _ _ (hts _ (List.mem_append_right _ (List.mem_of_getElem? (i := 725) (by decide +kernel)))), List.forall_mem_cons.mpr ⟨f _ _ (hts _ (List.mem_append_right _ (List.mem_of_getElem? (i := 735) (by decide +kernel)))), List.forall_mem_cons.mpr ⟨f _ _ (hts _ (List.mem_append_right _ (List.mem_of_getElem? (i := 758) (by decide +kernel)))), List.forall_mem_cons.mpr ⟨f _ _ (hts _ (List.mem_append_right _ (List.mem_of_getElem? (i := 772) (by decide +kernel)))), List.forall_mem_cons.mpr ⟨f _ _ (hts _ (List.mem_append_right _ (List.mem_of_getElem? (i := 796) (by decide +kernel)))), List.forall_mem_cons.mpr ⟨f _ _ (hts _ (List.mem_append_right _ (List.mem_of_getElem? (i := 805) (by decide +kernel)))), fun _ h => nomatch h⟩⟩⟩⟩⟩⟩⟩⟩⟩⟩⟩⟩⟩⟩⟩⟩⟩⟩⟩⟩⟩
theorem A_iff (L : Nat) (b sz q : Nat) : xv_A (s00 L) (fun _ => b) sz q ↔ sz ≤ q := by
  unfold xv_A
  constructor
  · rintro (⟨v, ⟨x, hx, hn⟩, -⟩ | h)
    · exfalso
      unfold s00 at hx
      by_cases g : v = 99
      · rw [if_pos g] at hx
        cases hx
        exact hn _ rfl
      · rw [if_neg g] at hx
        cases hx
    · exact h
  · exact Or.inr
theorem k_E {s : State} {b : Nat} {A : Nat → Prop} {cP : ClassId} (hts : ∀ w ∈ lw_tbl, w.before #[Value.ref b] s = true) (hgv : (Jvm.Cond.and given_1 narrow_1).before #[Value.ref b] s = true) (hP : s.vm.findClass "PressHall" = some cP) (hA : ∀ a : Nat, a < s.heap.size → ¬ A a) : xv_E A s s.heap := by
  have hs := flat_of_before _ hgv
  refine ⟨vx_Zqof (hts _ (List.mem_append_right _ (List.mem_of_getElem? (i := 298) (by decide +kernel)))) (hts _ (List.mem_append_right _ (List.mem_of_getElem? (i := 10) (by decide +kernel)))) (hs _ (by decide +kernel)) hA, vx_Zqof (hts _ (List.mem_append_right _ (List.mem_of_getElem? (i := 300) (by decide +kernel)))) (hts _ (List.mem_append_right _ (List.mem_of_getElem? (i := 10) (by decide +kernel)))) (hs _ (by decide +kernel)) hA, k_strs hts hP, ?_⟩
  exact List.forall_mem_cons.mpr ⟨va_Nc.of (hs _ (by decide +kernel)), List.forall_mem_cons.mpr ⟨va_Nc.of (hs _ (by decide +kernel)), List.forall_mem_cons.mpr ⟨va_Nc.of (hs _ (by decide +kernel)), fun _ h => nomatch h⟩⟩⟩
theorem law_end {s t : State} {o : Outcome} {L : List Loc} {A : Nat → Prop} (h : FrameEnd s o t L 330000 2600000) (hL : ∀ q ∈ L, A q.base) (hA : ∀ q, A q → s.heap.size ≤ q) : Framed s o t [] 600074 7301550 := by
  obtain ⟨h1, h2, h3⟩ := h
  exact ⟨h1, h2, h3.weaken (fun y hy hlt => absurd (hA _ (hL y hy)) (Nat.not_le.mpr hlt)) (Nat.le_of_ble_eq_true rfl) (Nat.le_of_ble_eq_true rfl)⟩
theorem whole_of {p : Program} {e : Env} {s : State} {m : MethodId} {below : List Frame} {meth : Method} {c : Code} (l : Launch) (hflags : l.flags = flags0) {b L : Nat} {xs : Nat → Int32} (hL : L ≤ 260) (C0 : lw_At p s m meth c b L xs) (k : xv_W mL_law 12 330000 2600000 (fun o _ _ _ _ => o = .inl (some (.int (nI 1)))) 330000 2600000 (s00 L) (i00 xs) r00 (fun _ _ => 0) 0 [some (.ref 99), none, none, none, none, none, none, none, none, none, none, none, none, none, none, none, none, none, none, none, none, none] []) : W p l e room_1 s m #[Value.ref b] below meth c s.heap [] 0 0 (lw_Z below #[Value.ref b] s) (entryFrame m ([Value.ref b] : List Value).toArray 22) := by
  obtain ⟨hx, hb, hr, hml, hown, hts, hX, hbl, hlocks, hgv, hname, htab⟩ := C0
  have hl : l.stackTraces = false := by
    unfold Launch.stackTraces
    rw [hflags]
    decide +kernel
  have htb : ∀ w ∈ xv_tbl, w.before #[Value.ref b] s = true := fun w hw => hts w (List.mem_filter.mp hw).1
  have hk2 : ∀ k : Nat, ∃ (c : ClassId) (iS : Nat → Nat), ∀ q : vw_C, vwCl[k]? = some q → u_Kn s q.1 q.2.1 q.2.2 c iS := fun k => by
    by_cases h : ∃ q : vw_C, vwCl[k]? = some q
    · obtain ⟨q, h⟩ := h
      obtain ⟨c, iS, h9⟩ := k_known htb k q h
      exact ⟨c, iS, fun q' h2 => by rw [← Option.some.inj (h.symm.trans h2)]; exact h9⟩
    · exact ⟨m.cls, fun _ => 0, fun q h2 => absurd ⟨q, h2⟩ h⟩
  obtain ⟨D, hK⟩ : ∃ D : va_G, va_K D vwCl [] s := ⟨(fun k => Classical.choose (hk2 k), fun k => Classical.choose (Classical.choose_spec (hk2 k))), fun k q h => Classical.choose_spec (Classical.choose_spec (hk2 k)) q h, fun k q h => by simp at h⟩
  have hPc : s.vm.findClass "PressHall" = some (D.1 10) := (hK.1 10 (RX10, TX10, 14) rfl).2.1
  have hAn : ∀ a : Nat, a < s.heap.size → ¬ xv_A (s00 L) (fun _ => b) s.heap.size a := fun a h q => absurd ((A_iff L b _ a).mp q) (Nat.not_le.mpr h)
  have hE := k_E hts hgv hPc hAn
  have hR : xv_R s D (fun _ => b) (fun _ => m.cls) (s00 L) (i00 xs) r00 (fun _ _ => 0) s.heap := by
    have h99 : ∀ v, s00 L v ≠ none → v = 99 := fun v hv => Classical.byContradiction fun g => hv (if_neg g)
    refine ⟨fun v x hv => ?_, fun v w hv hw _ => (h99 v hv).trans (h99 w hw).symm, fun v k w _ h => nomatch h⟩
    have e9 := h99 v (by rw [hv]; exact fun h => nomatch h)
    subst e9
    have ex : x = .inr (.inr L) := by
      have : s00 L 99 = some (.inr (.inr L)) := by
        unfold s00
        rw [if_pos rfl, Nat.mod_eq_of_lt (by omega)]
      exact (Option.some.inj (this.symm.trans hv)).symm
    subst ex
    exact hX
  rw [lg_entry_eq]
  have K := k (p := p) (l := l) (e := e) (R := room_1) (s := s) (m := m) (args := #[Value.ref b]) (below := below) (meth := meth) (c := c) (D := D) (A := xv_A (s00 L) (fun _ => b) s.heap.size) (sh0 := s00 L) (ad0 := fun _ => b) (ca0 := fun _ => m.cls) (ad := fun _ => b) (ca := fun _ => m.cls) (H := s.heap) (locs := []) (cells := 0) (slots := 0)
    ⟨hx, hb, hml, hr, hown, htb, hlocks, hname, hl, hK, hE, fun q hq => Or.inr hq, htab, Nat.le_of_ble_eq_true rfl, Nat.le_of_ble_eq_true rfl, Nat.le_of_ble_eq_true rfl, Nat.le_of_ble_eq_true rfl⟩
    xv_X.rf (fun v hv => Or.inl ⟨v, hv, rfl⟩) hR va_S.rf (xv_L0_ok (As := [.ref 99]) (nL := 22) (Nat.le_of_ble_eq_true rfl) (List.forall_mem_cons.mpr ⟨rfl, fun _ h => nomatch h⟩) (List.forall_mem_cons.mpr ⟨(show s00 L 99 ≠ none from fun h => nomatch h), fun _ h => nomatch h⟩)) (fun v hv => nomatch hv) (Nat.le_refl _) (Nat.le_refl _)
  intro T hT X
  obtain ⟨t, a1, o, h1, h2, h3⟩ := K T hT X
  refine ⟨t, a1, o, h1, h2, ?_⟩
  rcases h3 with ⟨⟨r, sh', I', Rf', J', ad', ca', g1, g2, -⟩, Ls, g3, g4⟩ | ⟨q, -, E, ce, Ls, ⟨sh', I', Rf', J', ad', ca', g2, -⟩, -⟩
  · cases g2
    exact ⟨g1, law_end g3 g4 fun q hq => (A_iff L b _ q).mp hq⟩
  · cases g2
theorem whole_start {p : Program} {e : Env} {s : State} {m : MethodId} {below : List Frame} {meth : Method} {c : Code} (l : Launch) (hflags : l.flags = flags0) {b L : Nat} {xs : Nat → Int32} (hL : L ≤ 260) (C0 : lw_At p s m meth c b L xs) : W p l e room_1 s m #[Value.ref b] below meth c s.heap [] 0 0 (lw_Z below #[Value.ref b] s) (entryFrame m ([Value.ref b] : List Value).toArray 22) := whole_of l hflags hL C0 (by exact law_body xs hL)
