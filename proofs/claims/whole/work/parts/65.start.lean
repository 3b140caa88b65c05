def R_law : String := "PressHallLaw"
def lw_P (b : Addr) (xs : List Int32) (args : Array Value) (s : State) : Prop := args = #[.ref b] ∧ s.IntsAt b xs ∧ xs.length ≤ 3584 ∧ (Jvm.Cond.and given_1 narrow_1).before args s = true
def lw_Q (_ : Array Value) (s : State) (o : Outcome) (t : State) : Prop := o = .returned (some (.int 1)) ∧ Framed s o t [] 601024 7293034
def lw_Z (below : List Frame) (a : Array Value) (s : State) : State → Prop := fun t => ∃ o, t.status = .running ∧ Ended t below o ∧ lw_Q a s o t
/-- the law's own end, with 1 on the stack, nothing written that was there before, its room as the claim has it -/
theorem lw_ret {p : Program} {l : Launch} {e : Env} {s : State} {m : MethodId} {below : List Frame} {meth : Method} {c : Code} {b : Nat} (hx : p.tables.exec = Jvm.exec) (hb : c.code = code) (hr : meth.sig.returnType = ret) (hlocks : meth.locks = false) {pc : Nat} {H : Heap} {ls : Array Slot} (hdg : decode code pc = .ok (.ireturn, 1)) : W p l e room_1 s m #[Value.ref b] below meth c H [] 601024 7293034 (lw_Z below #[Value.ref b] s) (F0 m pc ls [.int 1]) := by
  intro T hT X
  obtain ⟨fs, hret, hrun, hended, hW, hframe⟩ := X.leave (v := some (.int 1)) (hlocks := hlocks) (fun h => by rw [hr] at h; cases h)
  have hmeth' : T.vm.method? m = some meth := X.method'
  refine ⟨T.setFrames fs, ?_, .returned (some (.int 1)), hrun, hended, rfl, ⟨_, rfl⟩, hW, hframe⟩
  jvm_step X.here [X.here.top, hx, hb, hdg, hmeth', hr, ret, narrow_b1]
  (try refine ⟨rfl, ?_⟩); (try refine ⟨rfl, ?_⟩)
  first | (intro acts; rw [hret _ acts rfl rfl rfl]) | rw [hret _ _ rfl rfl rfl]
  exact Steps.refl _
/-- what holds at the law's entry: the machine, the code, the tables' words (any of lw_tbl by 'hts w (by decide +kernel)'), the script of L ints xs at the cell b, what the Statement gives of the start (any of its parts by flat_of_before) -/
def lw_At (p : Program) (s : State) (m : MethodId) (meth : Method) (c : Code) (b L : Nat) (xs : Nat → Int32) : Prop :=
  p.tables.exec = Jvm.exec ∧ c.code = code ∧ meth.sig.returnType = ret ∧ c.maxLocals = 7 ∧ s.vm.findClass R_law = some m.cls ∧ (∀ w ∈ lw_tbl, w.before #[Value.ref b] s = true) ∧ va_X b L xs s s.heap ∧ b < s.heap.size ∧ meth.locks = false ∧ (Jvm.Cond.and given_1 narrow_1).before #[Value.ref b] s = true ∧ meth.name = "law" ∧ c.exceptionTable.toList = []
theorem law_body {n : Nat} (s : Nat → Int32) (hn : n ≤ 3584) (hA : ∀ k, k < 34 → Arm n k) (h0 : Inv (0, 0) (iF s)) : xv_W mL_law 30 8287 68721 (fun o _ _ _ _ => o = .inl (some (.int (nI 1)))) 8287 68721 (s00 n) (i00 s) r00 (fun _ _ => 0) 0 [some (.ref 99), none, none, none, none, none, none] [] := by
  show xv_W mL_law 30 8287 68721 _ 8287 68721 (s00 n) (i00 s) r00 (fun _ _ => 0) 0 [some (.ref 99), none, none, none, none, none, none] []
  refine xv_new (n := 0) (kc' := 8286) (ks' := 68707) fL_law_0 nL_8 (by rfl) (by decide) (by decide) ?_
  refine xv_dup_r fL_law_3 ?_
  refine xv_callI0V (c_X10_init _ _ _ _ (by rfl) (by exact fun v h1 h2 => (xv_us_ne _ _ (by omega)).trans (s00_o n (by omega)))) fL_law_4 YX10_init VX10_init lL_117 rfl rfl (Nat.le_of_ble_eq_true rfl) (by decide) (by decide) (by decide) ?_
  refine xv_as1 fL_law_7 ?_
  refine xv_new (n := 60) (kc' := 8230) (ks' := 67332) fL_law_8 nL_118 (by exact (kX10_initSh_o (by omega)).trans ((xv_us_ne _ _ (by omega)).trans (s00_o n (by omega)))) (by decide) (by decide) ?_
  refine xv_dup_r fL_law_11 ?_
  refine xv_callI0V (c_X11_init _ _ _ _ (by rfl) (by exact fun v h1 h2 => (xv_us_ne _ _ (by omega)).trans ((kX10_initSh_o (by omega)).trans ((xv_us_ne _ _ (by omega)).trans (s00_o n (by omega)))))) fL_law_12 YX11_init VX11_init lL_120 rfl rfl (Nat.le_of_ble_eq_true rfl) (by decide) (by decide) (by decide) ?_
  refine xv_as2 fL_law_15 ?_
  refine xv_k fL_law_16 ?_
  refine xv_newJ (n := 98) (k9 := 1) (kc' := 8192) (ks' := 65536) fL_law_17 xv_ac_long (by exact (kX11_initSh_o (by omega)).trans ((xv_us_ne _ _ (by omega)).trans ((kX10_initSh_o (by omega)).trans ((xv_us_ne _ _ (by omega)).trans (s00_o n (by omega)))))) (by decide) (by decide) (by decide) (by decide) (by decide) ?_
  refine xv_as3 fL_law_19 ?_
  refine xv_k fL_law_20 ?_
  refine xv_is4 fL_law_21 ?_
  rw [show xv_us (kX11_initSh (xv_us (kX10_initSh (xv_us (s00 n) 0 (.inl 10))) 60 (.inl 11))) 98 (.inr (.inl (.long, 1))) = sx n (0, 0) from shF_eq n, show xv_z (kX11_initRf (xv_z (kX10_initRf (xv_z r00 0 none)) 60 none)) 98 none = rx (0, 0) from rfF_eq]
  exact law_loop hn hA 512 0 (0, 0) (iF s) jF _ _ none none (by omega) (by decide) h0 (by decide) (by decide)
theorem all_arms (n : Nat) : ∀ k, k < 34 → Arm n k := fun k hk => match k, hk with
  | 0, _ => armok_0 n
  | 1, _ => armok_1 n
  | 2, _ => armok_2 n
  | 3, _ => armok_3 n
  | 4, _ => armok_4 n
  | 5, _ => armok_5 n
  | 6, _ => armok_6 n
  | 7, _ => armok_7 n
  | 8, _ => armok_8 n
  | 9, _ => armok_9 n
  | 10, _ => armok_10 n
  | 11, _ => armok_11 n
  | 12, _ => armok_12 n
  | 13, _ => armok_13 n
  | 14, _ => armok_14 n
  | 15, _ => armok_15 n
  | 16, _ => armok_16 n
  | 17, _ => armok_17 n
  | 18, _ => armok_18 n
  | 19, _ => armok_19 n
  | 20, _ => armok_20 n
  | 21, _ => armok_21 n
  | 22, _ => armok_22 n
  | 23, _ => armok_23 n
  | 24, _ => armok_24 n
  | 25, _ => armok_25 n
  | 26, _ => armok_26 n
  | 27, _ => armok_27 n
  | 28, _ => armok_28 n
  | 29, _ => armok_29 n
  | 30, _ => armok_30 n
  | 31, _ => armok_31 n
  | 32, _ => armok_32 n
  | 33, _ => armok_33 n
  | k + 34, h => absurd h (by omega)
theorem k_known {s : State} {args : Array Value} (htb : ∀ w ∈ xv_tbl, w.before args s = true) (k : Nat) (q : vw_C) (hq : vwCl[k]? = some q) : ∃ (c : ClassId) (iS : Nat → Nat), u_Kn s q.1 q.2.1 q.2.2 c iS := by
  match k, hq with
  | 0, hq =>
    cases hq
    exact u_known (n := 8) htb inX0 (htb _ (xv_tbl_mem 449 (by decide +kernel) rfl))
  | 1, hq =>
    cases hq
    exact u_known (n := 5) htb inX1 (htb _ (xv_tbl_mem 115 (by decide +kernel) rfl))
  | 2, hq =>
    cases hq
    exact u_known (n := 3) htb inX2 (htb _ (xv_tbl_mem 157 (by decide +kernel) rfl))
  | 3, hq =>
    cases hq
    exact u_known (n := 6) htb inX3 (htb _ (xv_tbl_mem 67 (by decide +kernel) rfl))
  | 4, hq =>
    cases hq
    exact u_known (n := 4) htb inX4 (htb _ (xv_tbl_mem 191 (by decide +kernel) rfl))
  | 5, hq =>
    cases hq
    exact u_known (n := 7) htb inX5 (htb _ (xv_tbl_mem 30 (by decide +kernel) rfl))
  | 6, hq =>
    cases hq
    exact u_known (n := 5) htb inX6 (htb _ (xv_tbl_mem 597 (by decide +kernel) rfl))
  | 7, hq =>
    cases hq
    exact u_known (n := 3) htb inX7 (htb _ (xv_tbl_mem 140 (by decide +kernel) rfl))
  | 8, hq =>
    cases hq
    exact u_known (n := 4) htb inX8 (htb _ (xv_tbl_mem 73 (by decide +kernel) rfl))
  | 9, hq =>
    cases hq
    exact u_known (n := 3) htb inX9 (htb _ (xv_tbl_mem 174 (by decide +kernel) rfl))
  | 10, hq =>
    cases hq
    exact u_known (n := 14) htb inX10 (htb _ (xv_tbl_mem 22 (by decide +kernel) rfl))
  | 11, hq =>
    cases hq
    exact u_known (n := 49) htb inX11 (htb _ (xv_tbl_mem 1059 (by decide +kernel) rfl))
  | k + 12, hq => exact absurd hq (by simp [vwCl])
theorem k_strs {s : State} {args : Array Value} {cP : ClassId} (hts : ∀ w ∈ lw_tbl, w.before args s = true) (hP : s.vm.findClass "PressHall" = some cP) : ∀ q ∈ xv_strs, ∃ sa, vk_R q.1 q.2.1 q.2.2 sa s := by
  have f : ∀ (n : Nat) (tx : String), (Cond.stringRef "PressHall" n tx).before args s = true → ∃ sa, vk_R "PressHall" n tx sa s := fun n tx h => by
    obtain ⟨-, -, -, sa, -, -, -, -, -, hev⟩ := Cond.stringRef_spec hP h
    exact ⟨sa, vk_R.of h hev⟩
  exact List.forall_mem_cons.mpr ⟨f _ _ (hts _ (List.mem_append_right _ (List.mem_of_getElem? (i := 339) (by decide +kernel)))), List.forall_mem_cons.mpr ⟨f _ _ (hts _ (List.mem_append_right _ (List.mem_of_getElem? (i := 378) (by decide +kernel)))), List.forall_mem_cons.mpr ⟨f _ _ (hts _ (List.mem_append_right _ (List.mem_of_getElem? (i := 406) (by decide +kernel)))), List.forall_mem_cons.mpr ⟨f _ _ (hts _ (List.mem_append_right _ (List.mem_of_getElem? (i := 428) (by decide +kernel)))), List.forall_mem_cons.mpr ⟨f _ _ (hts _ (List.mem_append_right _ (List.mem_of_getElem? (i := 448) (by decide +kernel)))), List.forall_mem_cons.mpr ⟨f _ _ (hts _ (List.mem_append_right _ (List.mem_of_getElem? (i := 500) (by decide +kernel)))), List.forall_mem_cons.mpr ⟨f _ _ (hts _ (List.mem_append_right _ (List.mem_of_getElem? (i := 505) (by decide +kernel)))), List.forall_mem_cons.mpr ⟨f _ _ (hts _ (List.mem_append_right _ (List.mem_of_getElem? (i := 570) (by decide +kernel)))), List.forall_mem_cons.mpr ⟨f _ _ (hts _ (List.mem_append_right _ (List.mem_of_getElem? (i := 582) (by decide +kernel)))), List.forall_mem_cons.mpr ⟨f _ _ (hts _ (List.mem_append_right _ (List.mem_of_getElem? (i := 596) (by decide +kernel)))), List.forall_mem_cons.mpr ⟨f _ _ (hts _ (List.mem_append_right _ (List.mem_of_getElem? (i := 640) (by decide +kernel)))), List.forall_mem_cons.mpr ⟨f _ _ (hts _ (List.mem_append_right _ (List.mem_of_getElem? (i := 645) (by decide +kernel)))), List.forall_mem_cons.mpr ⟨f _ _ (hts _ (List.mem_append_right _ (List.mem_of_getElem? (i := 735) (by decide +kernel)))), List.forall_mem_cons.mpr ⟨f _ _ (hts _ (List.mem_append_right _ (List.mem_of_getElem? (i := 744) (by decide +kernel)))), List.forall_mem_cons.mpr ⟨f _ _ (hts _ (List.mem_append_right _ (List.mem_of_getElem? (i := 767) (by decide +kernel)))), List.forall_mem_cons.mpr ⟨f _ _ (hts _ (List.mem_append_right _ (List.mem_of_getElem? (i := 791) (by decide +kernel)))), List.forall_mem_cons.mpr ⟨f _ _ (hts _ (List.mem_append_right _ (List.mem_of_getElem? (i := 804) (by decide +kernel)))), List.forall_mem_cons.mpr ⟨f _ _ (hts _ (List.mem_append_right _ (List.mem_of_getElem? (i := 833) (by decide +kernel)))), List.forall_mem_cons.mpr ⟨f _ _ (hts _ (List.mem_append_right _ (List.mem_of_getElem? (i := 850) (by decide +kernel)))), List.forall_mem_cons.mpr ⟨f _ _ (hts _ (List.mem_append_right _ (List.mem_of_getElem? (i := 877) (by decide +kernel)))), List.forall_mem_cons.mpr ⟨f _ _ (hts _ (List.mem_append_right _ (List.mem_of_getElem? (i := 889) (by decide +kernel)))), List.forall_mem_cons.mpr ⟨f _ _ (hts _ (List.mem_append_right _ (List.mem_of_getElem? (i := 923) (by decide +kernel)))), List.forall_mem_cons.mpr ⟨f _ _ (hts _ (List.mem_append_right _ (List.mem_of_getElem? (i := 935) (by decide +kernel)))), List.forall_mem_cons.mpr ⟨f _ _ (hts _ (List.mem_append_right _ (List.mem_of_getElem? (i := 958) (by decide +kernel)))), List.forall_mem_cons.mpr ⟨f _ _ (hts _ (List.mem_append_right _ (List.mem_of_getElem? (i := 1021) (by decide +kernel)))), List.forall_mem_cons.mpr ⟨f _ _ (hts _ (List.mem_append_right _ (List.mem_of_getElem? (i := 1033) (by decide +kernel)))), List.forall_mem_cons.mpr ⟨f _ _ (hts _ (List.mem_append_right _ (List.mem_of_getElem? (i := 1052) (by decide +kernel)))), fun _ h => nomatch h⟩⟩⟩⟩⟩⟩⟩⟩⟩⟩⟩⟩⟩⟩⟩⟩⟩⟩⟩⟩⟩⟩⟩⟩⟩⟩⟩
theorem A_iff (L : Nat) (b sz q : Nat) : xv_A (s00 L) (fun _ => b) sz q ↔ sz ≤ q := by
  unfold xv_A
  constructor
  · rintro (⟨v, ⟨x, hx, hn⟩, -⟩ | h)
    · exfalso
      unfold s00 at hx
      by_cases g : v = 99
      · rw [if_pos g] at hx
        cases hx
        exact hn L rfl
      · rw [if_neg g] at hx
        cases hx
    · exact h
  · exact Or.inr
theorem k_E {s : State} {b : Nat} {A : Nat → Prop} {cP : ClassId} (hts : ∀ w ∈ lw_tbl, w.before #[Value.ref b] s = true) (hgv : (Jvm.Cond.and given_1 narrow_1).before #[Value.ref b] s = true) (hP : s.vm.findClass "PressHall" = some cP) (hA : ∀ a : Nat, a < s.heap.size → ¬ A a) : xv_E A s s.heap := by
  have hs := flat_of_before _ hgv
  refine ⟨vx_Zqof (hts _ (List.mem_append_right _ (List.mem_of_getElem? (i := 325) (by decide +kernel)))) (hts _ (List.mem_append_right _ (List.mem_of_getElem? (i := 11) (by decide +kernel)))) (hs _ (by decide +kernel)) hA, vx_Zqof (hts _ (List.mem_append_right _ (List.mem_of_getElem? (i := 327) (by decide +kernel)))) (hts _ (List.mem_append_right _ (List.mem_of_getElem? (i := 11) (by decide +kernel)))) (hs _ (by decide +kernel)) hA, k_strs hts hP, ?_⟩
  exact List.forall_mem_cons.mpr ⟨va_Nc.of (hs _ (by decide +kernel)), List.forall_mem_cons.mpr ⟨va_Nc.of (hs _ (by decide +kernel)), List.forall_mem_cons.mpr ⟨va_Nc.of (hs _ (by decide +kernel)), fun _ h => nomatch h⟩⟩⟩
theorem law_end {s t : State} {o : Outcome} {L : List Loc} {A : Nat → Prop} (h : FrameEnd s o t L 8287 68721) (hL : ∀ q ∈ L, A q.base) (hA : ∀ q, A q → s.heap.size ≤ q) : Framed s o t [] 601024 7293034 := by
  obtain ⟨h1, h2, h3⟩ := h
  exact ⟨h1, h2, h3.weaken (fun y hy hlt => absurd (hA _ (hL y hy)) (Nat.not_le.mpr hlt)) (Nat.le_of_ble_eq_true rfl) (Nat.le_of_ble_eq_true rfl)⟩
theorem whole_of {p : Program} {e : Env} {s : State} {m : MethodId} {below : List Frame} {meth : Method} {c : Code} (l : Launch) (hflags : l.flags = flags0) {b L : Nat} {xs : Nat → Int32} (hL : L ≤ 3584) (C0 : lw_At p s m meth c b L xs) (k : xv_W mL_law 30 8287 68721 (fun o _ _ _ _ => o = .inl (some (.int (nI 1)))) 8287 68721 (s00 L) (i00 xs) r00 (fun _ _ => 0) 0 [some (.ref 99), none, none, none, none, none, none] []) : W p l e room_1 s m #[Value.ref b] below meth c s.heap [] 0 0 (lw_Z below #[Value.ref b] s) (entryFrame m ([Value.ref b] : List Value).toArray 7) := by
  obtain ⟨hx, hb, hr, hml, hown, hts, hX, hbl, hlocks, hgv, hname, htab⟩ := C0
  have hl : l.stackTraces = false := by
    unfold Launch.stackTraces
    rw [hflags]
    decide +kernel
  have htb : ∀ w ∈ xv_tbl, w.before #[Value.ref b] s = true := fun w hw => hts w (List.mem_filter.mp hw).1
  have hk2 : ∀ k : Nat, ∃ (c : ClassId) (iS : Nat → Nat), ∀ q : vw_C, vwCl[k]? = some q → u_Kn s q.1 q.2.1 q.2.2 c iS := fun k => by
    by_cases h : ∃ q : vw_C, vwCl[k]? = some q
    · obtain ⟨q, h⟩ := h
      obtain ⟨c, iS, h9⟩ := k_known htb k q h
      exact ⟨c, iS, fun q' h2 => by rw [← Option.some.inj (h.symm.trans h2)]; exact h9⟩
    · exact ⟨m.cls, fun _ => 0, fun q h2 => absurd ⟨q, h2⟩ h⟩
  obtain ⟨D, hK⟩ : ∃ D : va_G, va_K D vwCl [] s := ⟨(fun k => Classical.choose (hk2 k), fun k => Classical.choose (Classical.choose_spec (hk2 k))), fun k q h => Classical.choose_spec (Classical.choose_spec (hk2 k)) q h, fun k q h => by simp at h⟩
  have hPc : s.vm.findClass "PressHall" = some (D.1 10) := (hK.1 10 (RX10, TX10, 14) rfl).2.1
  have hAn : ∀ a : Nat, a < s.heap.size → ¬ xv_A (s00 L) (fun _ => b) s.heap.size a := fun a h q => absurd ((A_iff L b _ a).mp q) (Nat.not_le.mpr h)
  have hE := k_E hts hgv hPc hAn
  have hR : xv_R s D (fun _ => b) (fun _ => m.cls) (s00 L) (i00 xs) r00 (fun _ _ => 0) s.heap := by
    have h99 : ∀ v, s00 L v ≠ none → v = 99 := fun v hv => Classical.byContradiction fun g => hv (if_neg g)
    refine ⟨fun v x hv => ?_, fun v w hv hw _ => (h99 v hv).trans (h99 w hw).symm, fun v k w _ h => nomatch h⟩
    have e9 := h99 v (by rw [hv]; exact fun h => nomatch h)
    subst e9
    have ex : x = .inr (.inr L) := by
      have : s00 L 99 = some (.inr (.inr L)) := rfl
      exact (Option.some.inj (this.symm.trans hv)).symm
    subst ex
    exact hX
  rw [lg_entry_eq]
  have K := k (p := p) (l := l) (e := e) (R := room_1) (s := s) (m := m) (args := #[Value.ref b]) (below := below) (meth := meth) (c := c) (D := D) (A := xv_A (s00 L) (fun _ => b) s.heap.size) (sh0 := s00 L) (ad0 := fun _ => b) (ca0 := fun _ => m.cls) (ad := fun _ => b) (ca := fun _ => m.cls) (H := s.heap) (locs := []) (cells := 0) (slots := 0)
    ⟨hx, hb, hml, hr, hown, htb, hlocks, hname, hl, hK, hE, fun q hq => Or.inr hq, htab, Nat.le_of_ble_eq_true rfl, Nat.le_of_ble_eq_true rfl, Nat.le_of_ble_eq_true rfl, Nat.le_of_ble_eq_true rfl⟩
    xv_X.rf (fun v hv => Or.inl ⟨v, hv, rfl⟩) hR va_S.rf (xv_L0_ok (As := [.ref 99]) (nL := 7) (Nat.le_of_ble_eq_true rfl) (List.forall_mem_cons.mpr ⟨rfl, fun _ h => nomatch h⟩) (List.forall_mem_cons.mpr ⟨(show s00 L 99 ≠ none from fun h => nomatch h), fun _ h => nomatch h⟩)) (fun v hv => nomatch hv) (Nat.le_refl _) (Nat.le_refl _)
  intro T hT X
  obtain ⟨t, a1, o, h1, h2, h3⟩ := K T hT X
  refine ⟨t, a1, o, h1, h2, ?_⟩
  rcases h3 with ⟨⟨r, sh', I', Rf', J', ad', ca', g1, g2, -⟩, Ls, g3, g4⟩ | ⟨q, -, E, ce, Ls, ⟨sh', I', Rf', J', ad', ca', g2, -⟩, -⟩
  · cases g2
    exact ⟨g1, law_end g3 g4 fun q hq => (A_iff L b _ q).mp hq⟩
  · cases g2
theorem whole_start {p : Program} {e : Env} {s : State} {m : MethodId} {below : List Frame} {meth : Method} {c : Code} (l : Launch) (hflags : l.flags = flags0) {b L : Nat} {xs : Nat → Int32} (hL : L ≤ 3584) (C0 : lw_At p s m meth c b L xs) : W p l e room_1 s m #[Value.ref b] below meth c s.heap [] 0 0 (lw_Z below #[Value.ref b] s) (entryFrame m ([Value.ref b] : List Value).toArray 7) := whole_of l hflags hL C0 (by exact law_body xs hL (all_arms L) (Inv_0 xs))
