section
/-! a name of the rest of the library: with it a round knows at once that these rows are read over the whole of it -/
theorem xv_wide : True := by
  have _ := @Jvm.Stand.multianewarray2F
  trivial
end
section
-- ===== PART A: goes FIRST, ahead of the names: the tables' words, and 'selects' of the private methods out of them =====
/-- a private method of a class that the tables say can be made, by its rows of tables_1 -/
def lw_okq (q : MethodName × Nat) : Prop := (q.1.cls ≠ "java/lang/invoke/MethodHandle" ∧ q.1.cls ≠ "java/lang/invoke/VarHandle") ∧ Cond.instantiable q.1.cls q.2 ∈ tables_1 ∧ Cond.privateMethod q.1 ∈ tables_1 ∧ Cond.instanceMethod q.1 ∈ tables_1
theorem lw_p0 : lw_okq (⟨"java/lang/Throwable", "fillInStackTrace", "(I)Ljava/lang/Throwable;"⟩, 6) := ⟨⟨by decide +kernel, by decide +kernel⟩, List.mem_of_getElem? (i := 310) (by decide +kernel), List.mem_of_getElem? (i := 308) (by decide +kernel), List.mem_of_getElem? (i := 309) (by decide +kernel)⟩
theorem lw_p1 : lw_okq (⟨"PressHall", "distanceOf", "(I)I"⟩, 14) := ⟨⟨by decide +kernel, by decide +kernel⟩, List.mem_of_getElem? (i := 20) (by decide +kernel), List.mem_of_getElem? (i := 405) (by decide +kernel), List.mem_of_getElem? (i := 406) (by decide +kernel)⟩
theorem lw_p2 : lw_okq (⟨"PressHall", "needAdvert", "(I)LPressHall$Advert;"⟩, 14) := ⟨⟨by decide +kernel, by decide +kernel⟩, List.mem_of_getElem? (i := 20) (by decide +kernel), List.mem_of_getElem? (i := 458) (by decide +kernel), List.mem_of_getElem? (i := 459) (by decide +kernel)⟩
theorem lw_p3 : lw_okq (⟨"PressHall", "fits", "(LPressHall$Advert;I)Z"⟩, 14) := ⟨⟨by decide +kernel, by decide +kernel⟩, List.mem_of_getElem? (i := 20) (by decide +kernel), List.mem_of_getElem? (i := 476) (by decide +kernel), List.mem_of_getElem? (i := 477) (by decide +kernel)⟩
theorem lw_p4 : lw_okq (⟨"PressHall", "isFarFromItsLike", "(LPressHall$Advert;I)Z"⟩, 14) := ⟨⟨by decide +kernel, by decide +kernel⟩, List.mem_of_getElem? (i := 20) (by decide +kernel), List.mem_of_getElem? (i := 488) (by decide +kernel), List.mem_of_getElem? (i := 489) (by decide +kernel)⟩
theorem lw_p5 : lw_okq (⟨"PressHall$Sheets", "isFreeRectangle", "(IIII)Z"⟩, 7) := ⟨⟨by decide +kernel, by decide +kernel⟩, List.mem_of_getElem? (i := 28) (by decide +kernel), List.mem_of_getElem? (i := 502) (by decide +kernel), List.mem_of_getElem? (i := 503) (by decide +kernel)⟩
theorem lw_p6 : lw_okq (⟨"PressHall", "needStory", "(I)LPressHall$Story;"⟩, 14) := ⟨⟨by decide +kernel, by decide +kernel⟩, List.mem_of_getElem? (i := 20) (by decide +kernel), List.mem_of_getElem? (i := 582) (by decide +kernel), List.mem_of_getElem? (i := 583) (by decide +kernel)⟩
theorem lw_p7 : lw_okq (⟨"PressHall", "storyAt", "(I)LPressHall$Story;"⟩, 14) := ⟨⟨by decide +kernel, by decide +kernel⟩, List.mem_of_getElem? (i := 20) (by decide +kernel), List.mem_of_getElem? (i := 586) (by decide +kernel), List.mem_of_getElem? (i := 587) (by decide +kernel)⟩
theorem lw_p8 : lw_okq (⟨"PressHall$Layout", "tryOnePage", "(LPressHall$Story;I)V"⟩, 6) := ⟨⟨by decide +kernel, by decide +kernel⟩, List.mem_of_getElem? (i := 65) (by decide +kernel), List.mem_of_getElem? (i := 608) (by decide +kernel), List.mem_of_getElem? (i := 609) (by decide +kernel)⟩
theorem lw_p9 : lw_okq (⟨"PressHall$Story", "linesOfFirst", "(I)I"⟩, 5) := ⟨⟨by decide +kernel, by decide +kernel⟩, List.mem_of_getElem? (i := 549) (by decide +kernel), List.mem_of_getElem? (i := 616) (by decide +kernel), List.mem_of_getElem? (i := 617) (by decide +kernel)⟩
theorem lw_p10 : lw_okq (⟨"PressHall$Layout", "setRun", "(IIII)Z"⟩, 6) := ⟨⟨by decide +kernel, by decide +kernel⟩, List.mem_of_getElem? (i := 65) (by decide +kernel), List.mem_of_getElem? (i := 620) (by decide +kernel), List.mem_of_getElem? (i := 621) (by decide +kernel)⟩
theorem lw_p11 : lw_okq (⟨"PressHall$Layout", "keepIfCheaper", "()V"⟩, 6) := ⟨⟨by decide +kernel, by decide +kernel⟩, List.mem_of_getElem? (i := 65) (by decide +kernel), List.mem_of_getElem? (i := 633) (by decide +kernel), List.mem_of_getElem? (i := 634) (by decide +kernel)⟩
theorem lw_p12 : lw_okq (⟨"PressHall$Layout", "tryTwoPages", "(LPressHall$Story;I)V"⟩, 6) := ⟨⟨by decide +kernel, by decide +kernel⟩, List.mem_of_getElem? (i := 65) (by decide +kernel), List.mem_of_getElem? (i := 664) (by decide +kernel), List.mem_of_getElem? (i := 665) (by decide +kernel)⟩
theorem lw_p13 : lw_okq (⟨"PressHall", "putOut", "(LPressHall$Story;I)V"⟩, 14) := ⟨⟨by decide +kernel, by decide +kernel⟩, List.mem_of_getElem? (i := 20) (by decide +kernel), List.mem_of_getElem? (i := 668) (by decide +kernel), List.mem_of_getElem? (i := 669) (by decide +kernel)⟩
theorem lw_p14 : lw_okq (⟨"PressHall", "needEdition", "(I)V"⟩, 14) := ⟨⟨by decide +kernel, by decide +kernel⟩, List.mem_of_getElem? (i := 20) (by decide +kernel), List.mem_of_getElem? (i := 769) (by decide +kernel), List.mem_of_getElem? (i := 770) (by decide +kernel)⟩
theorem lw_p15 : lw_okq (⟨"PressHall$Archive", "isKept", "(I)Z"⟩, 5) := ⟨⟨by decide +kernel, by decide +kernel⟩, List.mem_of_getElem? (i := 113) (by decide +kernel), List.mem_of_getElem? (i := 778) (by decide +kernel), List.mem_of_getElem? (i := 779) (by decide +kernel)⟩
def lw_privs_1 : List (MethodName × Nat) := [(⟨"java/lang/Throwable", "fillInStackTrace", "(I)Ljava/lang/Throwable;"⟩, 6), (⟨"PressHall", "distanceOf", "(I)I"⟩, 14), (⟨"PressHall", "needAdvert", "(I)LPressHall$Advert;"⟩, 14), (⟨"PressHall", "fits", "(LPressHall$Advert;I)Z"⟩, 14), (⟨"PressHall", "isFarFromItsLike", "(LPressHall$Advert;I)Z"⟩, 14), (⟨"PressHall$Sheets", "isFreeRectangle", "(IIII)Z"⟩, 7), (⟨"PressHall", "needStory", "(I)LPressHall$Story;"⟩, 14), (⟨"PressHall", "storyAt", "(I)LPressHall$Story;"⟩, 14), (⟨"PressHall$Layout", "tryOnePage", "(LPressHall$Story;I)V"⟩, 6), (⟨"PressHall$Story", "linesOfFirst", "(I)I"⟩, 5), (⟨"PressHall$Layout", "setRun", "(IIII)Z"⟩, 6), (⟨"PressHall$Layout", "keepIfCheaper", "()V"⟩, 6), (⟨"PressHall$Layout", "tryTwoPages", "(LPressHall$Story;I)V"⟩, 6), (⟨"PressHall", "putOut", "(LPressHall$Story;I)V"⟩, 14), (⟨"PressHall", "needEdition", "(I)V"⟩, 14), (⟨"PressHall$Archive", "isKept", "(I)Z"⟩, 5)]
theorem lw_r1 : ∀ q ∈ lw_privs_1, lw_okq q := List.forall_mem_cons.mpr ⟨lw_p0, List.forall_mem_cons.mpr ⟨lw_p1, List.forall_mem_cons.mpr ⟨lw_p2, List.forall_mem_cons.mpr ⟨lw_p3, List.forall_mem_cons.mpr ⟨lw_p4, List.forall_mem_cons.mpr ⟨lw_p5, List.forall_mem_cons.mpr ⟨lw_p6, List.forall_mem_cons.mpr ⟨lw_p7, List.forall_mem_cons.mpr ⟨lw_p8, List.forall_mem_cons.mpr ⟨lw_p9, List.forall_mem_cons.mpr ⟨lw_p10, List.forall_mem_cons.mpr ⟨lw_p11, List.forall_mem_cons.mpr ⟨lw_p12, List.forall_mem_cons.mpr ⟨lw_p13, List.forall_mem_cons.mpr ⟨lw_p14, List.forall_mem_cons.mpr ⟨lw_p15, fun _ h => absurd h List.not_mem_nil⟩⟩⟩⟩⟩⟩⟩⟩⟩⟩⟩⟩⟩⟩⟩⟩
def lw_privs : List (MethodName × Nat) := lw_privs_1
def lw_tbl : List Cond := k2_sels lw_privs ++ tables_1
theorem lw_privs_ok : ∀ q ∈ lw_privs, lw_okq q := lw_r1
end
section
/-! ===== BEGIN words of one list among another's, by their places ===== -/
theorem goodIn_r {big : List Cond} (ws : List Cond) (ps : List Nat) (hp : ws = ps.filterMap (fun i => big[i]?)) (h : ws.all goodWord = true) : GoodIn big ws := by
  intro w hw
  have h1 := List.all_eq_true.mp h w hw
  rw [hp] at hw
  obtain ⟨i, -, hi⟩ := List.mem_filterMap.mp hw
  have hm : w ∈ big := by first | exact List.mem_of_getElem? hi | exact List.getElem?_mem hi
  exact ⟨hm, good_of_word h1⟩
theorem goodIn_app {big a b : List Cond} (ha : GoodIn big a) (hb : GoodIn big b) : GoodIn big (a ++ b) := fun w h => (List.mem_append.mp h).elim (ha w) (hb w)
theorem goodIn_ca {big a b : List Cond} {c : Cond} (ha : GoodIn big (c :: a)) (hb : GoodIn big b) : GoodIn big (c :: (a ++ b)) := fun w h => (List.mem_cons.mp h).elim (fun e => ha w (List.mem_cons.mpr (Or.inl e))) (fun h => (List.mem_append.mp h).elim (fun h => ha w (List.mem_cons.mpr (Or.inr h))) (hb w))
theorem goodIn_sub {big ws : List Cond} (hm : ∀ w ∈ ws, w ∈ big) (h : ws.all goodWord = true) : GoodIn big ws := fun w hw => ⟨hm w hw, good_of_word (List.all_eq_true.mp h w hw)⟩
/-! ===== END ===== -/


/-! ===== BEGIN exceptions that leave a method, and their catching by the caller (launches without stack traces) ===== -/
section VXA
/-! The laws vx_back, vx_callV, vx_callS, vx_callSW, vx_throw0, vx_throwS follow proofs of the library, with one case more: JvmDerived/Free/Laws.lean (Back.of_free), Shelf42/LK1.lean (callV, callS), Shelf/KitTraced.lean (throwNew0V, throwNewS). -/
/-- where a method has thrown q: the class by its name, the cell, what was written, the world -/
def vx_T (XC : String → State → State → Prop) (st : State) (q : Addr) (t : State) (mc ms : Nat) (free : Addr → Prop) : Prop :=
  ∃ (E : String) (ce : Cell) (L : List Loc), XC E st t ∧ t.heap[q]? = some ce ∧ ce.vm = .none ∧ st.vm.findClass E = some ce.cls ∧ st.WarmedH t.vm ∧ st.sameButNew ({ t with vm := st.vm } : State) L mc ms ∧ ∀ z ∈ L, free z.base
def vx_Q (Qc : Array Value → State → Outcome → State → Prop) (XC : String → State → State → Prop) (mc ms : Nat) (free : Addr → Prop) : Array Value → State → Outcome → State → Prop := fun a st o t =>
  (Qc a st o t ∧ ∃ L, FrameEnd st o t L mc ms ∧ ∀ q ∈ L, free q.base) ∨ ∃ q, o = .threw q ∧ vx_T XC st q t mc ms free
/-- a callee that returns or throws -/
def vx_Met (l : Launch) (y : MethodName) (ws : List Cond) (rm : Room) (Pc : Array Value → State → Prop) (Qc : Array Value → State → Outcome → State → Prop) (XC : String → State → State → Prop) (mc ms : Nat) (free : Addr → Prop) : Prop :=
  MetFree l y (headSpec ws rm) Pc (fun _ _ _ _ _ => True) (vx_Q Qc XC mc ms free)
def vx_Post (XC : String → State → State → Prop) (mc ms : Nat) (free : Addr → Prop) : Pt → Array Value → Addr → Pt → Prop := fun A a q B =>
  ∃ (g : JFrame) (mk : MethodId) (t : State) (L : List Loc) (E : String) (ce : Cell), B.U.heap = t.heap ∧ B.U.vm = t.vm ∧ XC E (A.U.calling g mk a) t ∧ t.heap[q]? = some ce ∧ ce.vm = .none ∧ A.U.vm.findClass E = some ce.cls ∧ B.locs = A.locs ++ L ∧ (∀ z ∈ L, free z.base) ∧ B.cells = A.cells + mc ∧ B.slots = A.slots + ms
def vx_Back (l : Launch) (R : Room) (p : Program) (e : Env) (below : List Frame) (s : State) (sargs : Array Value) (y : MethodName) (len W9 : Nat)
    (Pre : Pt → Array Value → Prop) (Post : Pt → Array Value → Option Value → Pt → Prop) (PostX : Pt → Array Value → Addr → Pt → Prop) : Prop :=
  ∀ (m : MethodId) (meth : Method) (c : Code) (A : Pt) (g : JFrame) (ig : Instr) (mk : MethodId) (a : Array Value),
    Stand p l e R s m sargs below meth c A.U A.locs A.cells A.slots → g.method = m → g.locals.size = c.maxLocals → decode c.code g.pc = .ok (ig, len) →
    2 * g.monitorRoom + (g.stack.map fun v => v.category).sum ≤ W9 → A.U.methodNamed? y = some mk → Pre A a →
    (∃ (v : Option Value) (B : Pt), Stand p l e R s m sargs below meth c B.U B.locs B.cells B.slots ∧ Post A a v B ∧
      Steps p.tables e below (doInvoke e (A.U.setTop g) [] mk a).1 (B.U.setTop { g with pc := g.pc + len, stack := v.toList ++ g.stack })) ∨
    (∃ (q : Addr) (B : Pt), Stand p l e R s m sargs below meth c B.U B.locs B.cells B.slots ∧ PostX A a q B ∧
      Steps p.tables e below (doInvoke e (A.U.setTop g) [] mk a).1 ((B.U.setTop g).pushFrame (.throwing q)))
section Payer
variable {l : Launch} {R : Room} {p : Program} {e : Env} {below : List Frame} {s : State} {sargs : Array Value} {y : MethodName} {len W9 : Nat}
theorem vx_back {ws : List Cond} {rm : Room} {Pc : Array Value → State → Prop} {Qc : Array Value → State → Outcome → State → Prop} {XC : String → State → State → Prop} {mc ms : Nat} {free : Addr → Prop} {bytes : ByteArray} {maxL : Nat} {ret : Option FieldType}
    (hM : vx_Met l y ws rm Pc Qc XC mc ms free) (hblind : FrameBlind Pc) (hrc : rm.cells = mc) (hrs : rm.slots = ms)
    (hframes : rm.frames + 1 ≤ R.frames) (hlocals : W9 + (maxL + 11) + rm.locals ≤ R.locals)
    (hws : ∀ w ∈ ws, ∀ a' U, s.WarmedH U.vm → w.before a' U = true) (hcode : Cond.code y bytes maxL ret ∈ ws) (hinit : ∀ a' U, s.WarmedH U.vm → (Cond.initialized y.cls).before a' U = true) :
    vx_Back l R p e below s sargs y len W9 (PreOf R mc ms Pc) (PostOf Qc mc ms free) (vx_Post XC mc ms free) := by
  intro m meth c A g ig mk a X hg hsize hdg hW hn hp
  have h1 : (headSpec ws rm).pre.before a A.U = true := atoms_intro fun w hw => hws w hw _ _ X.warmed
  have h2 : (Cond.code y bytes maxL ret).before a A.U = true := hws _ hcode _ _ X.warmed
  have h3 : (Cond.initialized y.cls).before a A.U = true := hinit _ _ X.warmed
  have h4 : A.cells + (headSpec ws rm).room.cells ≤ R.cells := by rw [show (headSpec ws rm).room.cells = mc from hrc]; exact hp.1
  have h5 : A.slots + (headSpec ws rm).room.slots ≤ R.slots := by rw [show (headSpec ws rm).room.slots = ms from hrs]; exact hp.2.1
  have hPc : Pc a (A.U.calling g mk a) := hblind _ _ _ _ hp.2.2
  obtain ⟨U, Ls, c0, s0⟩ := A
  dsimp only [Pt.U, Pt.locs, Pt.cells, Pt.slots] at h1 h2 h3 h4 h5 X hn hPc ⊢
  obtain ⟨methY, cY, hmY, hcY, -, hlY, -, -, -, -⟩ := Cond.code_spec hn h2
  obtain ⟨kY, hkY, -⟩ := className_of_methodNamed hn
  have hinitY : kY.init = .initialized := Cond.initialized_spec (findClass_of_methodNamed hn) hkY h3
  have h : At U g.method c below := by rw [hg]; exact X.here
  have hlocals9 : W9 + (maxL + 11) + (headSpec ws rm).room.locals ≤ R.locals := hlocals
  have happ : (headSpec ws rm).appliesLoose y e.platform (U.calling g mk a) = true :=
    Spec.appliesLoose_calling (g := g) h hdg hn hkY hinitY
      (X.room_calling (g := g) (R' := (headSpec ws rm).room) hsize hmY hcY hframes (by rw [hlY]; omega) h4 h5) h1
  obtain ⟨mid, hmid⟩ := h.above
  have hfr : (U.setTop g).frames = (.java g :: mid) ++ below := by rw [State.frames_setTop' g h.top, hmid]; rfl
  obtain ⟨o, s₂, hsteps, -, hend, hq⟩ := Steps.callFree hM p X.admits X.cas X.clock (acts := []) hfr happ hPc trivial
  have hq' : vx_Q Qc XC mc ms free a (U.calling g mk a) o s₂ := hq
  rw [State.frames_setTop' g h.top] at hend
  obtain ⟨g₀, hg0⟩ := Option.isSome_iff_exists.mp h.top
  obtain ⟨r, hr⟩ := State.topJava?_eq_some.mp hg0
  have hr' : (({ U with heap := s₂.heap, slotsUsed := s₂.slotsUsed } : State).setVm s₂.vm).frames = .java g₀ :: r := hr
  rcases hq' with ⟨hqc, L, hfe, hL⟩ | ⟨q, rfl, E, ce, L, hx, hce, hcv, hcl, hW₂, hsm, hL⟩
  · obtain ⟨⟨v, rfl⟩, hW₂, e2, q2, q3, q4, q5, q6⟩ := id hfe
    have e3 : s₂ = ({ (U.calling g mk a).setFrames s₂.frames with heap := s₂.heap, slotsUsed := s₂.slotsUsed } : State).setVm s₂.vm := by
      have : s₂ = ({ s₂ with vm := (U.calling g mk a).vm } : State).setVm s₂.vm := rfl
      rw [e2] at this
      exact this
    obtain ⟨c₂, i₂, len₂, hc₂, hd₂, hf₂⟩ := hend
    have hW' : U.WarmedH s₂.vm := hW₂
    have hcc : c₂ = c := by
      have h1 : s₂.code? g.method = U.code? g.method := by
        rw [State.code?_eq, State.code?_eq, hW'.alike.method?]
      exact Option.some.inj (hc₂.symm.trans (h1.trans h.code))
    subst hcc
    have hlen : len₂ = len := by rw [hdg] at hd₂; cases hd₂; rfl
    subst hlen
    have hs₂ : s₂ = (({ U with heap := s₂.heap, slotsUsed := s₂.slotsUsed } : State).setVm s₂.vm).setTop { g with pc := g.pc + len₂, stack := v.toList ++ g.stack } := by
      refine e3.trans ?_
      rw [hf₂, State.calling_eq h.top, State.setFrames_setFrames, State.setTop_of_frames _ hr', hr]
      rfl
    have hsame : U.sameButNew ({ U with heap := s₂.heap, slotsUsed := s₂.slotsUsed } : State) L mc ms := by
      refine ⟨?_, q2, q3, q4, q5, q6⟩
      obtain ⟨t, ht, -⟩ := State.frames_cons hr
      show ({ U with heap := s₂.heap, slotsUsed := s₂.slotsUsed } : State) = { U.setFrames U.frames with heap := s₂.heap, slotsUsed := s₂.slotsUsed }
      rw [State.setFrames_self ht]
    subst hg
    refine Or.inl ⟨v, ⟨(({ U with heap := s₂.heap, slotsUsed := s₂.slotsUsed } : State).setVm s₂.vm), Ls ++ L, c0 + mc, s0 + ms⟩,
      ⟨X.admits, X.cas, X.clock, X.frames, X.room, X.hears, X.method, X.code, (X.here.setHeapUsed s₂.heap s₂.slotsUsed).setVm hW'.alike, X.tail, State.WarmedH.trans X.warmed hW', X.limits, X.bytes, X.same.trans (hsame.setVm s.vm)⟩,
      ⟨g, mk, s₂, L, rfl, rfl, hqc, rfl, hL, rfl, rfl⟩, ?_⟩
    show Steps p.tables e below _ ((({ U with heap := s₂.heap, slotsUsed := s₂.slotsUsed } : State).setVm s₂.vm).setTop { g with pc := g.pc + len₂, stack := v.toList ++ g.stack })
    rw [← hs₂]
    exact hsteps
  · obtain ⟨e2, q2, q3, q4, q5, q6⟩ := id hsm
    have e3 : s₂ = ({ (U.calling g mk a).setFrames s₂.frames with heap := s₂.heap, slotsUsed := s₂.slotsUsed } : State).setVm s₂.vm := by
      have : s₂ = ({ s₂ with vm := (U.calling g mk a).vm } : State).setVm s₂.vm := rfl
      rw [e2] at this
      exact this
    have hf₂ : s₂.frames = .throwing q :: .java g :: U.frames.tail := hend
    have hW' : U.WarmedH s₂.vm := hW₂
    have hs₂ : s₂ = ((({ U with heap := s₂.heap, slotsUsed := s₂.slotsUsed } : State).setVm s₂.vm).setTop g).pushFrame (.throwing q) := by
      refine e3.trans ?_
      rw [hf₂, State.calling_eq h.top, State.setFrames_setFrames, State.pushFrame, State.frames_setTop _ hr', State.setTop_of_frames _ hr', State.setFrames_setFrames, hr]
      rfl
    have hsame : U.sameButNew ({ U with heap := s₂.heap, slotsUsed := s₂.slotsUsed } : State) L mc ms := by
      refine ⟨?_, q2, q3, q4, q5, q6⟩
      obtain ⟨t, ht, -⟩ := State.frames_cons hr
      show ({ U with heap := s₂.heap, slotsUsed := s₂.slotsUsed } : State) = { U.setFrames U.frames with heap := s₂.heap, slotsUsed := s₂.slotsUsed }
      rw [State.setFrames_self ht]
    subst hg
    refine Or.inr ⟨q, ⟨(({ U with heap := s₂.heap, slotsUsed := s₂.slotsUsed } : State).setVm s₂.vm), Ls ++ L, c0 + mc, s0 + ms⟩,
      ⟨X.admits, X.cas, X.clock, X.frames, X.room, X.hears, X.method, X.code, (X.here.setHeapUsed s₂.heap s₂.slotsUsed).setVm hW'.alike, X.tail, State.WarmedH.trans X.warmed hW', X.limits, X.bytes, X.same.trans (hsame.setVm s.vm)⟩,
      ⟨g, mk, s₂, L, E, ce, rfl, rfl, hx, hce, hcv, hcl, rfl, hL, rfl, rfl⟩, ?_⟩
    show Steps p.tables e below _ (((({ U with heap := s₂.heap, slotsUsed := s₂.slotsUsed } : State).setVm s₂.vm).setTop g).pushFrame (.throwing q))
    rw [← hs₂]
    exact hsteps
end Payer
section Calls
variable {p : Program} {l : Launch} {e : Env} {R : Room} {s : State} {m : MethodId} {args : Array Value} {below : List Frame} {meth : Method} {c : Code} {T : State} {locs : List Loc} {cells slots : Nat}
theorem vx_callV (X : Stand p l e R s m args below meth c T locs cells slots) (hexec : p.tables.exec = Jvm.exec) {own C : String} {index : Nat} {y : MethodName} {bytes : ByteArray} {maxL : Nat} {ret : Option FieldType}
    (hown : s.vm.findClass own = some m.cls) (hlink : (Cond.methodLink own index y).before args s = true) (hinst : (Cond.instanceMethod y).before args s = true) (hsel : (Cond.selects C y y).before args s = true)
    (hcode : (Cond.code y bytes maxL ret).before args s = true) (hy : y.cls ≠ "java/lang/invoke/MethodHandle" ∧ y.cls ≠ "java/lang/invoke/VarHandle")
    {W9 : Nat} {Pre : Pt → Array Value → Prop} {Post : Pt → Array Value → Option Value → Pt → Prop} {PostX : Pt → Array Value → Addr → Pt → Prop} (hK : vx_Back l R p e below s args y 3 W9 Pre Post PostX)
    {b : Addr} {cellB : Cell} (hcell : T.heap[b]? = some cellB) (hobj : cellB.vm.isStatics = false) (hcls : s.vm.findClass C = some cellB.cls)
    {g : JFrame} (hg : g.method = m) (hsize : g.locals.size = c.maxLocals) {argsL rest : List Value} (hlen : ∀ sig, parseMethodDescriptor y.desc = some sig → argsL.length = sig.parameters.length)
    (hstack : g.stack = argsL.reverse ++ .ref b :: rest) (hW : 2 * g.monitorRoom + (rest.map fun v => v.category).sum ≤ W9) (hdg : decode c.code g.pc = .ok (.invokevirtual index, 3))
    (hpre : ∀ vm₁, s.WarmedH vm₁ → Pre ⟨T.setVm vm₁, locs, cells, slots⟩ (Value.ref b :: argsL).toArray) :
    (∃ (v : Option Value) (vm₁ : Vm) (B : Pt), s.WarmedH vm₁ ∧ Stand p l e R s m args below meth c B.U B.locs B.cells B.slots ∧ Post ⟨T.setVm vm₁, locs, cells, slots⟩ (Value.ref b :: argsL).toArray v B ∧
      ∀ target, Steps p.tables e below (B.U.setTop { g with pc := g.pc + 3, stack := v.toList ++ rest }) target → Steps p.tables e below (T.setTop g) target) ∨
    (∃ (q : Addr) (vm₁ : Vm) (B : Pt), s.WarmedH vm₁ ∧ Stand p l e R s m args below meth c B.U B.locs B.cells B.slots ∧ PostX ⟨T.setVm vm₁, locs, cells, slots⟩ (Value.ref b :: argsL).toArray q B ∧
      Steps p.tables e below (T.setTop g) ((B.U.setTop { g with stack := rest }).pushFrame (.throwing q))) := by
  obtain ⟨mk, methM, hnamed, hmethM, hstM, habM⟩ := Cond.instanceMethod_spec hinst
  obtain ⟨methM', cM, hmethM', -, -, -, -, -, -, hsigM⟩ := Cond.code_spec hnamed hcode
  cases hmethM.symm.trans hmethM'
  obtain ⟨c2, r2, m2, q1, q2, q3, q4, kP, hkP, hkPi⟩ := Cond.selects_spec hsel
  cases hcls.symm.trans q1
  cases (State.methodFound?_of_named hnamed hy).symm.trans q2
  cases hnamed.symm.trans q3
  have hselP : selectMethod e.platform s.vm cellB.cls mk = .method mk := by rw [Launch.admits_selectMethod X.admits]; exact q4
  obtain ⟨vm₁, X₁, hstep₁⟩ := X.invokevirtual hexec hown hlink hnamed hmethM hstM hkP hkPi hy (a := b) (cell := cellB) hcell
    (fun z h => by rw [h] at hobj; cases hobj) hselP hmethM habM hkP hkPi (g := g) hg (argsL := argsL) (rest := rest) (hlen _ hsigM) hstack hdg
  rcases hK m meth c ⟨T.setVm vm₁, locs, cells, slots⟩ { g with stack := rest } (.invokevirtual index) mk (Value.ref b :: argsL).toArray X₁ hg hsize hdg hW (X₁.named hnamed) (hpre vm₁ X₁.warmed) with ⟨v, B, X', hpost, hsteps⟩ | ⟨q, B, X', hpost, hsteps⟩
  · exact Or.inl ⟨v, vm₁, B, X₁.warmed, X', hpost, fun target h => hstep₁ _ fun acts => by rw [doInvoke_state]; exact hsteps.trans h⟩
  · exact Or.inr ⟨q, vm₁, B, X₁.warmed, X', hpost, hstep₁ _ fun acts => by rw [doInvoke_state]; exact hsteps⟩
theorem vx_callS (X : Stand p l e R s m args below meth c T locs cells slots) (hexec : p.tables.exec = Jvm.exec) {own : String} {index : Nat} {y : MethodName} {bytes : ByteArray} {maxL : Nat} {ret : Option FieldType}
    (hown : s.vm.findClass own = some m.cls) (hlink : (Cond.methodLink own index y).before args s = true) (hstat : (Cond.static y).before args s = true) (hinit : (Cond.initialized y.cls).before args s = true)
    (hcode : (Cond.code y bytes maxL ret).before args s = true) (hy : y.cls ≠ "java/lang/invoke/MethodHandle" ∧ y.cls ≠ "java/lang/invoke/VarHandle")
    {W9 : Nat} {Pre : Pt → Array Value → Prop} {Post : Pt → Array Value → Option Value → Pt → Prop} {PostX : Pt → Array Value → Addr → Pt → Prop} (hK : vx_Back l R p e below s args y 3 W9 Pre Post PostX)
    {g : JFrame} (hg : g.method = m) (hsize : g.locals.size = c.maxLocals) {argsL rest : List Value} (hlen : ∀ sig, parseMethodDescriptor y.desc = some sig → argsL.length = sig.parameters.length)
    (hstack : g.stack = argsL.reverse ++ rest) (hW : 2 * g.monitorRoom + (rest.map fun v => v.category).sum ≤ W9) (hdg : decode c.code g.pc = .ok (.invokestatic index, 3))
    (hpre : ∀ vm₁, s.WarmedH vm₁ → Pre ⟨T.setVm vm₁, locs, cells, slots⟩ argsL.toArray) :
    (∃ (v : Option Value) (vm₁ : Vm) (B : Pt), s.WarmedH vm₁ ∧ Stand p l e R s m args below meth c B.U B.locs B.cells B.slots ∧ Post ⟨T.setVm vm₁, locs, cells, slots⟩ argsL.toArray v B ∧
      ∀ target, Steps p.tables e below (B.U.setTop { g with pc := g.pc + 3, stack := v.toList ++ rest }) target → Steps p.tables e below (T.setTop g) target) ∨
    (∃ (q : Addr) (vm₁ : Vm) (B : Pt), s.WarmedH vm₁ ∧ Stand p l e R s m args below meth c B.U B.locs B.cells B.slots ∧ PostX ⟨T.setVm vm₁, locs, cells, slots⟩ argsL.toArray q B ∧
      Steps p.tables e below (T.setTop g) ((B.U.setTop { g with stack := rest }).pushFrame (.throwing q))) := by
  obtain ⟨mk, hnamed⟩ := Cond.code_named hcode
  obtain ⟨methM, cM, hmethM, -, -, -, -, -, -, hsigM⟩ := Cond.code_spec hnamed hcode
  have hstatic : methM.isStatic = true := Cond.static_spec hnamed hmethM hstat
  obtain ⟨kP, hkP, -⟩ := className_of_methodNamed hnamed
  have hinitP : kP.init = .initialized := Cond.initialized_spec (findClass_of_methodNamed hnamed) hkP hinit
  obtain ⟨vm₁, X₁, hstep₁⟩ := X.invokestatic hexec hown hlink hnamed hmethM hstatic hkP hinitP hy (g := g) hg (argsL := argsL) (rest := rest) (hlen _ hsigM) hstack hdg
  rcases hK m meth c ⟨T.setVm vm₁, locs, cells, slots⟩ { g with stack := rest } (.invokestatic index) mk argsL.toArray X₁ hg hsize hdg hW (X₁.named hnamed) (hpre vm₁ X₁.warmed) with ⟨v, B, X', hpost, hsteps⟩ | ⟨q, B, X', hpost, hsteps⟩
  · exact Or.inl ⟨v, vm₁, B, X₁.warmed, X', hpost, fun target h => hstep₁ _ fun acts => by rw [doInvoke_state]; exact hsteps.trans h⟩
  · exact Or.inr ⟨q, vm₁, B, X₁.warmed, X', hpost, hstep₁ _ fun acts => by rw [doInvoke_state]; exact hsteps⟩
end Calls
theorem vx_cls {s : State} {T : State} {vm₁ : Vm} {E : String} {k : ClassId} (hW : s.WarmedH vm₁) (h : (T.setVm vm₁).vm.findClass E = some k) : s.vm.findClass E = some k := by
  have h1 : vm₁.findClass E = some k := h
  rw [hW.alike.findClass] at h1
  exact h1
/-- the method's frame g, with q thrown over it -/
def vx_W (p : Program) (l : Launch) (e : Env) (R : Room) (s : State) (m : MethodId) (args : Array Value) (below : List Frame) (meth : Method) (c : Code) (H : Heap) (locs : List Loc) (cells slots : Nat) (Q : State → Prop) (g : JFrame) (q : Addr) : Prop :=
  ∀ T : State, T.heap = H → Stand p l e R s m args below meth c T locs cells slots → ∃ t, Steps p.tables e below ((T.setTop g).pushFrame (.throwing q)) t ∧ Q t
def vx_Run (p : Program) (l : Launch) (e : Env) (R : Room) (s : State) (m : MethodId) (args : Array Value) (below : List Frame) (meth : Method) (c : Code) (H : Heap) (locs : List Loc) (cells slots mc ms : Nat) (g : JFrame) (rest : List Value) (Qa : State → Outcome → State → Prop) (XC : String → State → State → Prop) (free : Addr → Prop) : Prop :=
  ∀ T : State, T.heap = H → Stand p l e R s m args below meth c T locs cells slots →
    (∃ (v : Option Value) (st₀ t T' : State) (L : List Loc), st₀.heap = H ∧ Stand p l e R s m args below meth c T' (locs ++ L) (cells + mc) (slots + ms) ∧ (∀ q ∈ L, free q.base) ∧ T'.heap = t.heap ∧ T'.vm = t.vm ∧ Qa st₀ (.returned v) t ∧
      Goes p e below T g T' { g with pc := g.pc + 3, stack := v.toList ++ rest }) ∨
    (∃ (q : Addr) (st₀ t T' : State) (L : List Loc) (E : String) (ce : Cell), st₀.heap = H ∧ Stand p l e R s m args below meth c T' (locs ++ L) (cells + mc) (slots + ms) ∧ (∀ z ∈ L, free z.base) ∧ T'.heap = t.heap ∧ T'.vm = t.vm ∧ XC E st₀ t ∧ t.heap[q]? = some ce ∧ ce.vm = .none ∧ s.vm.findClass E = some ce.cls ∧
      Steps p.tables e below (T.setTop g) ((T'.setTop { g with stack := rest }).pushFrame (.throwing q)))
def vx_X {S : Type} (px : S → Prop) (B : String → S → State → Prop) (A : Nat → Prop) : String → State → State → Prop := fun E st t => ∃ u : S, px u ∧ B E u t ∧ va_F A st t
section Runs
variable {p : Program} {l : Launch} {e : Env} {R : Room} {s : State} {m : MethodId} {args : Array Value} {below : List Frame} {meth : Method} {c : Code} {H : Heap} {locs : List Loc} {cells slots : Nat}
variable {y : MethodName} {bytes cc : ByteArray} {maxL nL mc ms n index : Nat} {ret : Option FieldType} {ws : List Cond} {rm : Room} {Pc : Array Value → State → Prop} {Qc : Array Value → State → Outcome → State → Prop} {XC : String → State → State → Prop} {free : Addr → Prop} {Ts : List Cond} {own C : String} {b : Addr} {As rest : List Value} {g : JFrame}
theorem vx_callBack (cb : CallB R s args own index y bytes maxL ret ws rm mc ms n) (hM : vx_Met l y ws rm Pc Qc XC mc ms free) (hbl : FrameBlind Pc) : vx_Back l R p e below s args y 3 8 (PreOf R mc ms Pc) (PostOf Qc mc ms free) (vx_Post XC mc ms free) := by
  obtain ⟨hrc, hrs, hfr, hlo, hws, hcw, -, hini, -⟩ := cb
  exact vx_back (bytes := bytes) (maxL := maxL) (ret := ret) hM hbl hrc hrs hfr hlo hws hcw (fun a' U hW => word_at hW (Or.inl (by first | rfl | simp [Cond.onTables, Cond.keeps, Cond.steady])) hini)
theorem vx_runV (S : CallFix p m c cc nL s args Ts own) (hM : vx_Met l y ws rm Pc Qc XC mc ms free) (cw : CallW R s args own C index y bytes maxL ret ws rm mc ms n) (hp : PreV s H C b Pc As)
    (hg : g.method = m) (hn : As.length = n) (hsize : g.locals.size = nL) (hstack : g.stack = As.reverse ++ .ref b :: rest) (hW : 2 * g.monitorRoom + (rest.map fun v => v.category).sum ≤ 8) (hdg : decode cc g.pc = .ok (.invokevirtual index, 3)) (hf : cells + mc ≤ R.cells ∧ slots + ms ≤ R.slots) :
    vx_Run p l e R s m args below meth c H locs cells slots mc ms g rest (Qc (Value.ref b :: As).toArray) XC free := by
  have hK : vx_Back l R p e below s args y 3 8 (PreOf R mc ms Pc) (PostOf Qc mc ms free) (vx_Post XC mc ms free) := vx_callBack cw.1 hM hp.1
  obtain ⟨⟨-, -, -, -, -, -, hcode, -, hy, hlen, hl⟩, hin, hse⟩ := cw
  obtain ⟨hx, hb, hml, ho, -⟩ := S
  obtain ⟨-, ⟨cellB, hcB, hoB, hclB⟩, hPc⟩ := hp
  intro T hT X
  rcases vx_callV X hx (C := C) (bytes := bytes) (maxL := maxL) (ret := ret) ho hl hin hse hcode hy hK (by rw [hT]; exact hcB) hoB hclB hg (hsize.trans hml.symm) (argsL := As) (rest := rest) (fun sig h => hn.trans (hlen sig h)) hstack hW (by rw [hb]; exact hdg)
    (fun vm₁ hW₁ => ⟨hf.1, hf.2, hPc (T.setVm vm₁) hT hW₁⟩) with ⟨v, vm₁, ⟨U', l2, c2, s2⟩, hW₁, X', ⟨g', mk, t, L, e1, e2, hq, h1, hL, h2, h3⟩, st⟩ | ⟨q, vm₁, ⟨U', l2, c2, s2⟩, hW₁, X', ⟨g', mk, t, L, E, ce, e1, e2, hq, hce, hcv, hcl, h1, hL, h2, h3⟩, st⟩
  · dsimp only [Pt.U, Pt.locs, Pt.cells, Pt.slots] at X' e1 e2 h1 h2 h3 st
    subst h1; subst h2; subst h3
    exact Or.inl ⟨v, (T.setVm vm₁).calling g' mk (Value.ref b :: As).toArray, t, U', L, hT, X', hL, e1, e2, hq, st⟩
  · dsimp only [Pt.U, Pt.locs, Pt.cells, Pt.slots] at X' e1 e2 h1 h2 h3 st hcl
    subst h1; subst h2; subst h3
    exact Or.inr ⟨q, (T.setVm vm₁).calling g' mk (Value.ref b :: As).toArray, t, U', L, E, ce, hT, X', hL, e1, e2, hq, hce, hcv, vx_cls hW₁ hcl, st⟩
theorem vx_runS (S : CallFix p m c cc nL s args Ts own) (hM : vx_Met l y ws rm Pc Qc XC mc ms free) (cw : CallB R s args own index y bytes maxL ret ws rm mc ms n ∧ (Cond.static y).before args s = true) (hp : PreS s H Pc As)
    (hg : g.method = m) (hn : As.length = n) (hsize : g.locals.size = nL) (hstack : g.stack = As.reverse ++ rest) (hW : 2 * g.monitorRoom + (rest.map fun v => v.category).sum ≤ 8) (hdg : decode cc g.pc = .ok (.invokestatic index, 3)) (hf : cells + mc ≤ R.cells ∧ slots + ms ≤ R.slots) :
    vx_Run p l e R s m args below meth c H locs cells slots mc ms g rest (Qc As.toArray) XC free := by
  have hK : vx_Back l R p e below s args y 3 8 (PreOf R mc ms Pc) (PostOf Qc mc ms free) (vx_Post XC mc ms free) := vx_callBack cw.1 hM hp.1
  obtain ⟨⟨-, -, -, -, -, -, hcode, hini, hy, hlen, hl⟩, hstt⟩ := cw
  obtain ⟨hx, hb, hml, ho, -⟩ := S
  intro T hT X
  rcases vx_callS X hx (bytes := bytes) (maxL := maxL) (ret := ret) ho hl hstt hini hcode hy hK hg (hsize.trans hml.symm) (argsL := As) (rest := rest) (fun sig h => hn.trans (hlen sig h)) hstack hW (by rw [hb]; exact hdg)
    (fun vm₁ hW₁ => ⟨hf.1, hf.2, hp.2 (T.setVm vm₁) hT hW₁⟩) with ⟨v, vm₁, ⟨U', l2, c2, s2⟩, hW₁, X', ⟨g', mk, t, L, e1, e2, hq, h1, hL, h2, h3⟩, st⟩ | ⟨q, vm₁, ⟨U', l2, c2, s2⟩, hW₁, X', ⟨g', mk, t, L, E, ce, e1, e2, hq, hce, hcv, hcl, h1, hL, h2, h3⟩, st⟩
  · dsimp only [Pt.U, Pt.locs, Pt.cells, Pt.slots] at X' e1 e2 h1 h2 h3 st
    subst h1; subst h2; subst h3
    exact Or.inl ⟨v, (T.setVm vm₁).calling g' mk As.toArray, t, U', L, hT, X', hL, e1, e2, hq, st⟩
  · dsimp only [Pt.U, Pt.locs, Pt.cells, Pt.slots] at X' e1 e2 h1 h2 h3 st hcl
    subst h1; subst h2; subst h3
    exact Or.inr ⟨q, (T.setVm vm₁).calling g' mk As.toArray, t, U', L, E, ce, hT, X', hL, e1, e2, hq, hce, hcv, vx_cls hW₁ hcl, st⟩
end Runs
section Rows
variable {p : Program} {l : Launch} {e : Env} {R : Room} {s : State} {m : MethodId} {args : Array Value} {below : List Frame} {meth : Method} {c : Code} {H : Heap} {locs : List Loc} {cells slots : Nat} {Q : State → Prop}
variable {mc ms : Nat} {free : Addr → Prop} {A0 A1 : Nat → Prop} {H0 : Heap} {a : Array Value} {pc : Nat} {ls : Array Slot} {st0 rest : List Value}
theorem vx_keep {st₀ t T' : State} {L : List Loc} (h0 : st₀.heap = H) (e1 : T'.heap = t.heap) (hS : va_S A0 H0 H locs) (hA : ∀ q, q < H.size → A1 q → A0 q) (hf : ∀ q, free q → A0 q) (hL : ∀ q ∈ L, free q.base) (hF : va_F A1 st₀ t) :
    H.size ≤ T'.heap.size ∧ (∀ q : Nat, q < H.size → ¬ A1 q → T'.heap[q]? = H[q]?) ∧ va_S A0 H0 T'.heap (locs ++ L) := by
  obtain ⟨hz, hk⟩ := hF
  rw [h0] at hz hk
  exact ⟨by rw [e1]; exact hz, fun q h1 h2 => by rw [e1]; exact hk q h1 h2,
    ⟨Nat.le_trans hS.1 (by rw [e1]; exact hz), fun q h1 h2 => by rw [e1, hk q (Nat.lt_of_lt_of_le h1 hS.1) (fun z => h2 (hA q (Nat.lt_of_lt_of_le h1 hS.1) z))]; exact hS.2.1 q h1 h2, fun q hq => by
      rcases List.mem_append.mp hq with h | h
      · exact hS.2.2 q h
      · exact hf _ (hL q h)⟩⟩
theorem vx_calli {S SX : Type} {post : Int32 → S → Prop} {px : SX → Prop} {B : S → State → Prop} {BX : String → SX → State → Prop} {AX : Nat → Prop} (hr : vx_Run p l e R s m args below meth c H locs cells slots mc ms (F0 m pc ls st0) rest (va_Qi post B A1 a) (vx_X px BX AX) free) (hS : va_S A0 H0 H locs) (hA : ∀ q, q < H.size → A1 q → A0 q) (hf : ∀ q, free q → A0 q) (hAX : ∀ q, q < H.size → AX q → A0 q)
    (kx : ∀ (E : String) (ce : Cell) (q9 : Addr) (u : SX) (t : State) (H1 : Heap) (locs1 : List Loc), t.heap = H1 → s.vm.Alike t.vm → px u → BX E u t → H.size ≤ H1.size → (∀ q : Nat, q < H.size → ¬ AX q → H1[q]? = H[q]?) → va_S A0 H0 H1 locs1 → H1[q9]? = some ce → ce.vm = .none → s.vm.findClass E = some ce.cls → vx_W p l e R s m args below meth c H1 locs1 (cells + mc) (slots + ms) Q (F0 m pc ls rest) q9)
    (kk : ∀ (r : Int32) (u : S) (t : State) (H1 : Heap) (locs1 : List Loc), t.heap = H1 → s.vm.Alike t.vm → post r u → B u t → H.size ≤ H1.size → (∀ q : Nat, q < H.size → ¬ A1 q → H1[q]? = H[q]?) → va_S A0 H0 H1 locs1 → W p l e R s m args below meth c H1 locs1 (cells + mc) (slots + ms) Q (F0 m (pc + 3) ls (.int r :: rest))) : W p l e R s m args below meth c H locs cells slots Q (F0 m pc ls st0) := by
  intro T hT X
  rcases hr T hT X with ⟨v, st₀, t, T', L, h0, X', hL, e1, e2, ⟨⟨r, u, hv, hp, hb⟩, hF⟩, st⟩ | ⟨q, st₀, t, T', L, E, ce, h0, X', hL, e1, e2, ⟨u, hp, hb, hF⟩, hce, hcv, hcl, st⟩
  · cases hv
    obtain ⟨k1, k2, k3⟩ := vx_keep h0 e1 hS hA hf hL hF
    obtain ⟨t2, a1, b1⟩ := kk r u t T'.heap (locs ++ L) e1.symm (by rw [← e2]; exact X'.warmed.alike) hp hb k1 k2 k3 T' rfl X'
    exact ⟨t2, st t2 a1, b1⟩
  · obtain ⟨k1, k2, k3⟩ := vx_keep h0 e1 hS hAX hf hL hF
    obtain ⟨t2, a1, b1⟩ := kx E ce q u t T'.heap (locs ++ L) e1.symm (by rw [← e2]; exact X'.warmed.alike) hp hb k1 k2 k3 (by rw [e1]; exact hce) hcv hcl T' rfl X'
    exact ⟨t2, st.trans a1, b1⟩
theorem vx_calll {S SX : Type} {post : Int64 → S → Prop} {px : SX → Prop} {B : S → State → Prop} {BX : String → SX → State → Prop} {AX : Nat → Prop} (hr : vx_Run p l e R s m args below meth c H locs cells slots mc ms (F0 m pc ls st0) rest (va_Ql post B A1 a) (vx_X px BX AX) free) (hS : va_S A0 H0 H locs) (hA : ∀ q, q < H.size → A1 q → A0 q) (hf : ∀ q, free q → A0 q) (hAX : ∀ q, q < H.size → AX q → A0 q)
    (kx : ∀ (E : String) (ce : Cell) (q9 : Addr) (u : SX) (t : State) (H1 : Heap) (locs1 : List Loc), t.heap = H1 → s.vm.Alike t.vm → px u → BX E u t → H.size ≤ H1.size → (∀ q : Nat, q < H.size → ¬ AX q → H1[q]? = H[q]?) → va_S A0 H0 H1 locs1 → H1[q9]? = some ce → ce.vm = .none → s.vm.findClass E = some ce.cls → vx_W p l e R s m args below meth c H1 locs1 (cells + mc) (slots + ms) Q (F0 m pc ls rest) q9)
    (kk : ∀ (r : Int64) (u : S) (t : State) (H1 : Heap) (locs1 : List Loc), t.heap = H1 → s.vm.Alike t.vm → post r u → B u t → H.size ≤ H1.size → (∀ q : Nat, q < H.size → ¬ A1 q → H1[q]? = H[q]?) → va_S A0 H0 H1 locs1 → W p l e R s m args below meth c H1 locs1 (cells + mc) (slots + ms) Q (F0 m (pc + 3) ls (.long r :: rest))) : W p l e R s m args below meth c H locs cells slots Q (F0 m pc ls st0) := by
  intro T hT X
  rcases hr T hT X with ⟨v, st₀, t, T', L, h0, X', hL, e1, e2, ⟨⟨r, u, hv, hp, hb⟩, hF⟩, st⟩ | ⟨q, st₀, t, T', L, E, ce, h0, X', hL, e1, e2, ⟨u, hp, hb, hF⟩, hce, hcv, hcl, st⟩
  · cases hv
    obtain ⟨k1, k2, k3⟩ := vx_keep h0 e1 hS hA hf hL hF
    obtain ⟨t2, a1, b1⟩ := kk r u t T'.heap (locs ++ L) e1.symm (by rw [← e2]; exact X'.warmed.alike) hp hb k1 k2 k3 T' rfl X'
    exact ⟨t2, st t2 a1, b1⟩
  · obtain ⟨k1, k2, k3⟩ := vx_keep h0 e1 hS hAX hf hL hF
    obtain ⟨t2, a1, b1⟩ := kx E ce q u t T'.heap (locs ++ L) e1.symm (by rw [← e2]; exact X'.warmed.alike) hp hb k1 k2 k3 (by rw [e1]; exact hce) hcv hcl T' rfl X'
    exact ⟨t2, st.trans a1, b1⟩
theorem vx_callf {S SX : Type} {post : UInt32 → S → Prop} {px : SX → Prop} {B : S → State → Prop} {BX : String → SX → State → Prop} {AX : Nat → Prop} (hr : vx_Run p l e R s m args below meth c H locs cells slots mc ms (F0 m pc ls st0) rest (va_Qf post B A1 a) (vx_X px BX AX) free) (hS : va_S A0 H0 H locs) (hA : ∀ q, q < H.size → A1 q → A0 q) (hf : ∀ q, free q → A0 q) (hAX : ∀ q, q < H.size → AX q → A0 q)
    (kx : ∀ (E : String) (ce : Cell) (q9 : Addr) (u : SX) (t : State) (H1 : Heap) (locs1 : List Loc), t.heap = H1 → s.vm.Alike t.vm → px u → BX E u t → H.size ≤ H1.size → (∀ q : Nat, q < H.size → ¬ AX q → H1[q]? = H[q]?) → va_S A0 H0 H1 locs1 → H1[q9]? = some ce → ce.vm = .none → s.vm.findClass E = some ce.cls → vx_W p l e R s m args below meth c H1 locs1 (cells + mc) (slots + ms) Q (F0 m pc ls rest) q9)
    (kk : ∀ (r : UInt32) (u : S) (t : State) (H1 : Heap) (locs1 : List Loc), t.heap = H1 → s.vm.Alike t.vm → post r u → B u t → H.size ≤ H1.size → (∀ q : Nat, q < H.size → ¬ A1 q → H1[q]? = H[q]?) → va_S A0 H0 H1 locs1 → W p l e R s m args below meth c H1 locs1 (cells + mc) (slots + ms) Q (F0 m (pc + 3) ls (.float r :: rest))) : W p l e R s m args below meth c H locs cells slots Q (F0 m pc ls st0) := by
  intro T hT X
  rcases hr T hT X with ⟨v, st₀, t, T', L, h0, X', hL, e1, e2, ⟨⟨r, u, hv, hp, hb⟩, hF⟩, st⟩ | ⟨q, st₀, t, T', L, E, ce, h0, X', hL, e1, e2, ⟨u, hp, hb, hF⟩, hce, hcv, hcl, st⟩
  · cases hv
    obtain ⟨k1, k2, k3⟩ := vx_keep h0 e1 hS hA hf hL hF
    obtain ⟨t2, a1, b1⟩ := kk r u t T'.heap (locs ++ L) e1.symm (by rw [← e2]; exact X'.warmed.alike) hp hb k1 k2 k3 T' rfl X'
    exact ⟨t2, st t2 a1, b1⟩
  · obtain ⟨k1, k2, k3⟩ := vx_keep h0 e1 hS hAX hf hL hF
    obtain ⟨t2, a1, b1⟩ := kx E ce q u t T'.heap (locs ++ L) e1.symm (by rw [← e2]; exact X'.warmed.alike) hp hb k1 k2 k3 (by rw [e1]; exact hce) hcv hcl T' rfl X'
    exact ⟨t2, st.trans a1, b1⟩
theorem vx_calld {S SX : Type} {post : UInt64 → S → Prop} {px : SX → Prop} {B : S → State → Prop} {BX : String → SX → State → Prop} {AX : Nat → Prop} (hr : vx_Run p l e R s m args below meth c H locs cells slots mc ms (F0 m pc ls st0) rest (va_Qd post B A1 a) (vx_X px BX AX) free) (hS : va_S A0 H0 H locs) (hA : ∀ q, q < H.size → A1 q → A0 q) (hf : ∀ q, free q → A0 q) (hAX : ∀ q, q < H.size → AX q → A0 q)
    (kx : ∀ (E : String) (ce : Cell) (q9 : Addr) (u : SX) (t : State) (H1 : Heap) (locs1 : List Loc), t.heap = H1 → s.vm.Alike t.vm → px u → BX E u t → H.size ≤ H1.size → (∀ q : Nat, q < H.size → ¬ AX q → H1[q]? = H[q]?) → va_S A0 H0 H1 locs1 → H1[q9]? = some ce → ce.vm = .none → s.vm.findClass E = some ce.cls → vx_W p l e R s m args below meth c H1 locs1 (cells + mc) (slots + ms) Q (F0 m pc ls rest) q9)
    (kk : ∀ (r : UInt64) (u : S) (t : State) (H1 : Heap) (locs1 : List Loc), t.heap = H1 → s.vm.Alike t.vm → post r u → B u t → H.size ≤ H1.size → (∀ q : Nat, q < H.size → ¬ A1 q → H1[q]? = H[q]?) → va_S A0 H0 H1 locs1 → W p l e R s m args below meth c H1 locs1 (cells + mc) (slots + ms) Q (F0 m (pc + 3) ls (.double r :: rest))) : W p l e R s m args below meth c H locs cells slots Q (F0 m pc ls st0) := by
  intro T hT X
  rcases hr T hT X with ⟨v, st₀, t, T', L, h0, X', hL, e1, e2, ⟨⟨r, u, hv, hp, hb⟩, hF⟩, st⟩ | ⟨q, st₀, t, T', L, E, ce, h0, X', hL, e1, e2, ⟨u, hp, hb, hF⟩, hce, hcv, hcl, st⟩
  · cases hv
    obtain ⟨k1, k2, k3⟩ := vx_keep h0 e1 hS hA hf hL hF
    obtain ⟨t2, a1, b1⟩ := kk r u t T'.heap (locs ++ L) e1.symm (by rw [← e2]; exact X'.warmed.alike) hp hb k1 k2 k3 T' rfl X'
    exact ⟨t2, st t2 a1, b1⟩
  · obtain ⟨k1, k2, k3⟩ := vx_keep h0 e1 hS hAX hf hL hF
    obtain ⟨t2, a1, b1⟩ := kx E ce q u t T'.heap (locs ++ L) e1.symm (by rw [← e2]; exact X'.warmed.alike) hp hb k1 k2 k3 (by rw [e1]; exact hce) hcv hcl T' rfl X'
    exact ⟨t2, st.trans a1, b1⟩
theorem vx_callv {S SX : Type} {post : S → Prop} {px : SX → Prop} {B : S → State → Prop} {BX : String → SX → State → Prop} {AX : Nat → Prop} (hr : vx_Run p l e R s m args below meth c H locs cells slots mc ms (F0 m pc ls st0) rest (va_Qv post B A1 a) (vx_X px BX AX) free) (hS : va_S A0 H0 H locs) (hA : ∀ q, q < H.size → A1 q → A0 q) (hf : ∀ q, free q → A0 q) (hAX : ∀ q, q < H.size → AX q → A0 q)
    (kx : ∀ (E : String) (ce : Cell) (q9 : Addr) (u : SX) (t : State) (H1 : Heap) (locs1 : List Loc), t.heap = H1 → s.vm.Alike t.vm → px u → BX E u t → H.size ≤ H1.size → (∀ q : Nat, q < H.size → ¬ AX q → H1[q]? = H[q]?) → va_S A0 H0 H1 locs1 → H1[q9]? = some ce → ce.vm = .none → s.vm.findClass E = some ce.cls → vx_W p l e R s m args below meth c H1 locs1 (cells + mc) (slots + ms) Q (F0 m pc ls rest) q9)
    (kk : ∀ (u : S) (t : State) (H1 : Heap) (locs1 : List Loc), t.heap = H1 → s.vm.Alike t.vm → post u → B u t → H.size ≤ H1.size → (∀ q : Nat, q < H.size → ¬ A1 q → H1[q]? = H[q]?) → va_S A0 H0 H1 locs1 → W p l e R s m args below meth c H1 locs1 (cells + mc) (slots + ms) Q (F0 m (pc + 3) ls (rest))) : W p l e R s m args below meth c H locs cells slots Q (F0 m pc ls st0) := by
  intro T hT X
  rcases hr T hT X with ⟨v, st₀, t, T', L, h0, X', hL, e1, e2, ⟨⟨u, hv, hp, hb⟩, hF⟩, st⟩ | ⟨q, st₀, t, T', L, E, ce, h0, X', hL, e1, e2, ⟨u, hp, hb, hF⟩, hce, hcv, hcl, st⟩
  · cases hv
    obtain ⟨k1, k2, k3⟩ := vx_keep h0 e1 hS hA hf hL hF
    obtain ⟨t2, a1, b1⟩ := kk u t T'.heap (locs ++ L) e1.symm (by rw [← e2]; exact X'.warmed.alike) hp hb k1 k2 k3 T' rfl X'
    exact ⟨t2, st t2 a1, b1⟩
  · obtain ⟨k1, k2, k3⟩ := vx_keep h0 e1 hS hAX hf hL hF
    obtain ⟨t2, a1, b1⟩ := kx E ce q u t T'.heap (locs ++ L) e1.symm (by rw [← e2]; exact X'.warmed.alike) hp hb k1 k2 k3 (by rw [e1]; exact hce) hcv hcl T' rfl X'
    exact ⟨t2, st.trans a1, b1⟩
/-- caught by the row x of this method's table; the rows ahead don't take it -/
theorem vx_catch {own name : String} {E : String} {ce : Cell} {q : Addr} (hown : s.vm.findClass own = some m.cls) (pre : List ExceptionTableEntry) (x : ExceptionTableEntry) (suf : List ExceptionTableEntry) (hsplit : c.exceptionTable.toList = pre ++ x :: suf)
    (hpass : ∀ z ∈ pre, covers z pc = false ∨ (z.catchType ≠ 0 ∧ ∃ nm : String, (Cond.classLink own z.catchType nm).before args s = true ∧ va_Nc E nm s)) (hx : covers x pc = true) (h0 : x.catchType ≠ 0)
    (hlink : (Cond.classLink own x.catchType name).before args s = true) (hcast : (Cond.castable E name).before args s = true) (hcell : H[q]? = some ce) (hv : ce.vm = .none) (hcl : s.vm.findClass E = some ce.cls)
    (kk : W p l e R s m args below meth c H locs cells slots Q (F0 m x.handlerPc ls [.ref q])) : vx_W p l e R s m args below meth c H locs cells slots Q (F0 m pc ls rest) q := by
  intro T hT X
  have hpl : e.platform.magicAccessors = ({} : Platform).magicAccessors := by rw [X.admits.platform]
  obtain ⟨c3, c4, hc3, hc4, hasg⟩ := Cond.castable_spec hcast
  cases Option.some.inj (hc3.symm.trans hcl)
  obtain ⟨c5, hc5, hcl5⟩ := Cond.classLink_spec hown hlink e.platform hpl
  cases Option.some.inj (hc4.symm.trans hc5)
  obtain ⟨vm', X', st⟩ := X.thenCaughtThrough q (g := F0 m pc ls rest) rfl (Steps.refl _) (by rw [hT]; exact hcell) (by rw [hv]; rfl) (by obtain ⟨k9, h9, -⟩ := Vm.findClass_spec hcl; exact ⟨k9, h9⟩) pre x suf hsplit
    (fun z hz => by
      rcases hpass z hz with h | ⟨hz0, nm, hl1, hn1⟩
      · exact Or.inl h
      · obtain ⟨c6, hc6, hcl6⟩ := Cond.classLink_spec hown hl1 e.platform hpl
        obtain ⟨a8, b8, h1, h2, h3⟩ := hn1
        cases Option.some.inj (h1.symm.trans hcl)
        cases Option.some.inj (h2.symm.trans hc6)
        exact Or.inr ⟨hz0, _, hcl6, h3⟩) hx (Or.inr ⟨h0, c4, hcl5, hasg⟩)
  obtain ⟨t, a1, b1⟩ := kk (T.setVm vm') hT X'
  exact ⟨t, st.trans a1, b1⟩
end Rows
section Ends
variable {p : Program} {l : Launch} {e : Env} {R : Room} {s : State} {m : MethodId} {args : Array Value} {below : List Frame} {meth : Method} {c : Code} {H : Heap} {locs : List Loc} {cells slots : Nat} {Q : State → Prop}
variable {mc ms : Nat} {free : Addr → Prop} {A0 A1 : Nat → Prop} {H0 : Heap} {a : Array Value} {ls : Array Slot} {st0 rest : List Value}
variable {Qc : Array Value → State → Outcome → State → Prop} {XC : String → State → State → Prop}
/-- what a body that may throw owes at its end -/
def vx_MQ (below : List Frame) (Qc : Array Value → State → Outcome → State → Prop) (XC : String → State → State → Prop) (a : Array Value) (s : State) (mc ms : Nat) (free : Addr → Prop) : State → Prop := fun t =>
  ∃ o, t.status = .running ∧ Ended t below o ∧ vx_Q Qc XC mc ms free a s o t
theorem vx_ret {g : JFrame} {mc ms : Nat} (k : W p l e R s m args below meth c H locs cells slots (MQ below Qc args s mc ms free) g) : W p l e R s m args below meth c H locs cells slots (vx_MQ below Qc XC args s mc ms free) g := by
  intro T hT X
  obtain ⟨t, a1, o, b1, b2, b3, b4⟩ := k T hT X
  exact ⟨t, a1, o, b1, b2, Or.inl ⟨b3, b4⟩⟩
/-- not caught here: it goes on to the caller -/
theorem vx_widen {g : JFrame} {q : Addr} {k n : Nat} (h1 : cells ≤ k) (h2 : slots ≤ n) (kk : vx_W p l e R s m args below meth c H locs k n Q g q) : vx_W p l e R s m args below meth c H locs cells slots Q g q := fun T hT X => kk T hT (stand_widen X h1 h2)
theorem vx_out {pc : Nat} {E : String} {ce : Cell} {q : Addr} {mc ms : Nat} (hout : ∀ x ∈ c.exceptionTable.toList, covers x pc = false) (hlocks : meth.locks = false) (hcell : H[q]? = some ce) (hv : ce.vm = .none) (hcl : s.vm.findClass E = some ce.cls)
    (hx : ∀ t : State, t.heap = H → s.vm.Alike t.vm → XC E s t) (hf : ∀ z ∈ locs, free z.base) (hc : cells ≤ mc) (hs : slots ≤ ms) :
    vx_W p l e R s m args below meth c H locs cells slots (vx_MQ below Qc XC args s mc ms free) (F0 m pc ls rest) q := by
  intro T hT X
  obtain ⟨st1, hrun, hend, hW, hsm⟩ := X.leaveThrown q (g := F0 m pc ls rest) rfl rfl rfl hout hlocks
  have hcell9 : (T.setFrames (.throwing q :: below)).heap[q]? = some ce := by
    show T.heap[q]? = some ce
    rw [hT]; exact hcell
  exact ⟨_, st1, .threw q, hrun, hend, Or.inr ⟨q, rfl, E, ce, locs, hx _ hT hW.alike, hcell9, hv, hcl, hW, hsm.mono hc hs, hf⟩⟩
theorem vx_frame {U : State} {k n : Nat} (h : s.sameButNew ({ U with vm := s.vm } : State) locs k n) : s.heap.size ≤ U.heap.size ∧ ∀ q : Nat, q < s.heap.size → (∀ z ∈ locs, z.base ≠ q) → U.heap[q]? = s.heap[q]? := by
  obtain ⟨-, h2, -, -, -, h6⟩ := h
  refine ⟨h2, fun q hq hz => ?_⟩
  obtain ⟨c9, e1, e2, e3, e4⟩ := h6 q _ (Array.getElem?_eq_getElem hq)
  have hs : c9.slots = (s.heap[q]).slots := Array.ext_getElem? fun i => e4 i fun hm => hz _ hm rfl
  have h9 : c9 = s.heap[q] := by
    rw [hs] at e2
    exact e2
  have e5 : U.heap[q]? = some c9 := e1
  rw [e5, h9, Array.getElem?_eq_getElem hq]
/-- the words of a throw but the four that speak of the heap -/
def vx_no (w : Cond) : Bool := decide (w ≠ .isRef (.static Bundle.tN "UNASSIGNED_STACK" Bundle.steD)) && decide (w ≠ .isRef (.static Bundle.tN "SUPPRESSED_SENTINEL" Bundle.listD)) && decide (w ≠ .laysStatic Bundle.tN "UNASSIGNED_STACK" Bundle.steD) && decide (w ≠ .laysStatic Bundle.tN "SUPPRESSED_SENTINEL" Bundle.listD)
def vx_at0 (own : String) (ic : Nat) (X : String) (names : List String) : List Cond := (Bundle.ownAtoms0 own ic X names).filter vx_no
def vx_atS (own : String) (ic : Nat) (X : String) (names : List String) : List Cond := (Bundle.ownAtoms own ic X names).filter vx_no
/-- a word that the tables alone decide, or a good one -/
def vx_ot (w : Cond) : Bool := w.onTables || goodWord w
theorem vx_ot_at {args a' : Array Value} {s U : State} {w : Cond} (hW : s.WarmedH U.vm) (hvm : s.vm = U.vm) (hg : vx_ot w = true) (h : w.before args s = true) : w.before a' U = true := by
  simp only [vx_ot, Bool.or_eq_true] at hg
  rcases hg with hg | hg
  · exact va_tabs hg hvm h
  · exact word_at hW (good_of_word hg) h
/-- a list's words: the good ones out of the method's own list, the others by premises of their own -/
theorem vx_hat {args : Array Value} {s : State} {L B : List Cond} (h1 : ∀ w ∈ L.filter goodWord, w.before args s = true) (h2 : ∀ w ∈ L.filter (fun w => !goodWord w), w ∈ B) (h3 : ∀ w ∈ B, w.before args s = true) : ∀ w ∈ L, w.before args s = true := by
  intro w hw
  by_cases g : goodWord w = true
  · exact h1 w (List.mem_filter.mpr ⟨hw, g⟩)
  · refine h3 w (h2 w (List.mem_filter.mpr ⟨hw, ?_⟩))
    show (!goodWord w) = true
    cases hgw : goodWord w
    · rfl
    · exact absurd hgw g
theorem vx_c {args : Array Value} {s : State} {w : Cond} {B : List Cond} (h : w.before args s = true) (t : ∀ w ∈ B, w.before args s = true) : ∀ w' ∈ w :: B, w'.before args s = true := fun w' h' => (List.mem_cons.mp h').elim (fun e => by rw [e]; exact h) (t w')
theorem vx_n {args : Array Value} {s : State} : ∀ w ∈ ([] : List Cond), w.before args s = true := fun _ h => nomatch h
theorem vx_own {args : Array Value} {s : State} {L : List Cond} (h1 : ∀ w ∈ L.filter vx_no, w.before args s = true)
    (hU : (Cond.isRef (.static Bundle.tN "UNASSIGNED_STACK" Bundle.steD)).before args s = true) (hN : (Cond.isRef (.static Bundle.tN "SUPPRESSED_SENTINEL" Bundle.listD)).before args s = true)
    (lU : (Cond.laysStatic Bundle.tN "UNASSIGNED_STACK" Bundle.steD).before args s = true) (lN : (Cond.laysStatic Bundle.tN "SUPPRESSED_SENTINEL" Bundle.listD).before args s = true) : ∀ w ∈ L, w.before args s = true := by
  intro w hw
  by_cases e1 : w = .isRef (.static Bundle.tN "UNASSIGNED_STACK" Bundle.steD)
  · rw [e1]; exact hU
  · by_cases e2 : w = .isRef (.static Bundle.tN "SUPPRESSED_SENTINEL" Bundle.listD)
    · rw [e2]; exact hN
    · by_cases e3 : w = .laysStatic Bundle.tN "UNASSIGNED_STACK" Bundle.steD
      · rw [e3]; exact lU
      · by_cases e4 : w = .laysStatic Bundle.tN "SUPPRESSED_SENTINEL" Bundle.listD
        · rw [e4]; exact lN
        · exact h1 w (List.mem_filter.mpr ⟨hw, by unfold vx_no; rw [decide_eq_true e1, decide_eq_true e2, decide_eq_true e3, decide_eq_true e4]; rfl⟩)
/-- where a static field lies, its class's statics cell in H -/
def vx_L (C n d : String) (A : Nat → Prop) (U : State) (H : Heap) : Prop := ∃ (c : ClassId) (k : Class) (i : Nat) (f : Field) (a : Nat) (cell : Cell), U.vm.findClass C = some c ∧ U.fieldFound? C n d = some (c, k, i, f) ∧ f.isStatic = true ∧ k.statics = some a ∧ H[a]? = some cell ∧ cell.vm.isStatics = true ∧ cell.cls = c ∧ f.slot < cell.slots.size ∧ k.staticTypes[f.slot]? = some f.type ∧ ¬ A a
theorem vx_L.moved {C n d : String} {A : Nat → Prop} {u U : State} {H : Heap} (hvm : u.vm.Alike U.vm) (h : vx_L C n d A u H) : vx_L C n d A U H := by
  obtain ⟨c, k, i, f, a, cell, h1, h2, h3, h4, h5, h6, h7, h8, h9, h10⟩ := h
  obtain ⟨k', hi', he⟩ := State.fieldFound?_setVm hvm h2
  exact ⟨c, k', i, f, a, cell, by rw [hvm.findClass]; exact h1, hi', h3, by rw [he]; exact h4, h5, h6, h7, h8, by rw [he]; exact h9, h10⟩
theorem vx_L.kept {C n d : String} {A : Nat → Prop} {U : State} {H H1 : Heap} (h : vx_L C n d A U H) (hq : ∀ a : Nat, a < H.size → ¬ A a → H1[a]? = H[a]?) : vx_L C n d A U H1 := by
  obtain ⟨c, k, i, f, a, cell, h1, h2, h3, h4, h5, h6, h7, h8, h9, h10⟩ := h
  exact ⟨c, k, i, f, a, cell, h1, h2, h3, h4, by rw [hq a (Array.getElem?_eq_some_iff.mp h5).1 h10]; exact h5, h6, h7, h8, h9, h10⟩
theorem vx_L.narrow {C n d : String} {A B : Nat → Prop} {U : State} {H : Heap} (h : vx_L C n d A U H) (hAB : ∀ q, B q → A q) : vx_L C n d B U H := by
  obtain ⟨c, k, i, f, a, cell, h1, h2, h3, h4, h5, h6, h7, h8, h9, h10⟩ := h
  exact ⟨c, k, i, f, a, cell, h1, h2, h3, h4, h5, h6, h7, h8, h9, fun z => h10 (hAB _ z)⟩
theorem vx_L.word {C n d : String} {A : Nat → Prop} {s : State} {args : Array Value} (h : vx_L C n d A s s.heap) : (Cond.laysStatic C n d).before args s = true := by
  obtain ⟨c, k, i, f, a, cell, h1, h2, h3, h4, h5, h6, h7, h8, h9, -⟩ := h
  show (Cond.laysStatic C n d).holds args s none s [] = true
  exact Cond.laysStatic_of h1 h2 h3 h4 h5 h6 h7 h8 h9
/-- .. and what it holds: null or some reference -/
def vx_Zq (C n d : String) (A : Nat → Prop) (U : State) (H : Heap) : Prop := va_Zq C n d A U H ∧ vx_L C n d A U H
theorem vx_Zq.moved {C n d : String} {A : Nat → Prop} {u U : State} {H : Heap} (hvm : u.vm.Alike U.vm) (h : vx_Zq C n d A u H) : vx_Zq C n d A U H := ⟨va_Zq.moved hvm h.1, vx_L.moved hvm h.2⟩
theorem vx_Zq.kept {C n d : String} {A : Nat → Prop} {U : State} {H H1 : Heap} (h : vx_Zq C n d A U H) (hq : ∀ a : Nat, a < H.size → ¬ A a → H1[a]? = H[a]?) : vx_Zq C n d A U H1 := ⟨va_Zq.kept h.1 hq, vx_L.kept h.2 hq⟩
theorem vx_Zq.narrow {C n d : String} {A B : Nat → Prop} {U : State} {H : Heap} (h : vx_Zq C n d A U H) (hAB : ∀ q, B q → A q) : vx_Zq C n d B U H := ⟨va_Zq.narrow h.1 hAB, vx_L.narrow h.2 hAB⟩
theorem vx_Zqof {args : Array Value} {s : State} {C n d : String} {A : Nat → Prop} (hl : (Cond.laysStatic C n d).before args s = true) (hini : (Cond.initialized C).before args s = true) (h : (Cond.isRef (.static C n d)).before args s = true) (hA : ∀ a : Nat, a < s.heap.size → ¬ A a) : vx_Zq C n d A s s.heap := by
  refine ⟨va_Zqof hl hini h hA, ?_⟩
  obtain ⟨c, k, i, f, a, cell, h1, h2, h3, h4, h5, h6, h7, h8, h9⟩ := Cond.laysStatic_spec hl
  exact ⟨c, k, i, f, a, cell, h1, h2, h3, h4, h5, h6, h7, h8, h9, hA a (Array.getElem?_eq_some_iff.mp h5).1⟩
theorem vx_isRef {C n d : String} {v : Value} {A : Nat → Prop} {s : State} {args : Array Value} (h : va_Z C n d v A s s.heap) (hv : v.isRef = true) : (Cond.isRef (.static C n d)).before args s = true := by
  obtain ⟨cf, kf, fi, f, a, cell, h1, h2, h3, h4, h5, h6, h7, -⟩ := h
  have he : (Term.static C n d).eval args s none [] s = some v := by
    simp [Term.eval, State.fieldNamed?, h1, h2, h4, h5, h6, h7]
  simp only [Cond.before, Cond.holds, Cond.value, he]
  cases v <;> simp_all [Value.isRef]
theorem vx_isRefq {C n d : String} {A : Nat → Prop} {s : State} {args : Array Value} (h : va_Zq C n d A s s.heap) : (Cond.isRef (.static C n d)).before args s = true := by
  rcases h with h | ⟨t, h⟩
  · exact vx_isRef h rfl
  · exact vx_isRef h rfl
/-- the same frame, seen from here: as if the method were called anew in this heap -/
theorem vx_rebase {T : State} (X : Stand p l e R s m args below meth c T locs cells slots) {R' : Room} (hf : R'.frames ≤ R.frames) (hl : R'.locals ≤ R.locals) (hc : cells + R'.cells ≤ R.cells) (hs : slots + R'.slots ≤ R.slots) :
    Stand p l e R' ((T.setVm s.vm).setFrames (.invoking m args :: below)) m args below meth c T [] 0 0 := by
  have htop : (T.setVm s.vm).topJava?.isSome := X.here.top
  have hF : ((T.setVm s.vm).setFrames (.invoking m args :: below)).frames = .invoking m args :: below := State.frames_setFrames _ (State.cur_lt_of_top htop)
  obtain ⟨g₀, hg0⟩ := Option.isSome_iff_exists.mp htop
  obtain ⟨r, hr⟩ := State.topJava?_eq_some.mp hg0
  have hl9 : e.platform.stackLimits (T.setVm s.vm).me = e.platform.stackLimits s.me := X.limits
  have hb9 : (T.setVm s.vm).me.stackBytes = s.me.stackBytes := X.bytes
  refine ⟨X.admits, X.cas, X.clock, hF, ?_, X.hears, X.method, X.code, X.here, X.tail, X.warmed, ?_, ?_, ?_⟩
  · have h := X.room
    have hU : ((T.setVm s.vm).setFrames (.invoking m args :: below)).localsInUse = s.localsInUse := by
      rw [State.localsInUse_invoking hF (meth := meth) (c := c) X.method X.code, State.localsInUse_invoking X.frames X.method X.code]
    simp only [State.hasRoom, Bool.and_eq_true, decide_eq_true_eq] at h ⊢
    obtain ⟨⟨⟨⟨h1, h2, h3, h4, h5, h6⟩, h7⟩, h8⟩, h9⟩ := h
    rw [X.frames, List.length_cons] at h2 h3
    have q1 := X.heapSize
    have q2 := X.used
    simp only [hF, hU, List.length_cons, State.stackLimits_setFrames, State.stackBytes_setFrames, hl9, hb9]
    refine ⟨⟨⟨⟨by omega, by omega, by omega, by omega, by omega, h6⟩, ?_⟩, ?_⟩, X.book⟩
    · show T.heap.size + R'.cells ≤ e.platform.maxCells
      omega
    · show T.slotsUsed + R'.slots ≤ e.platform.maxSlots
      omega
  · rw [State.stackLimits_setFrames]; rfl
  · rw [State.stackBytes_setFrames]; rfl
  · refine ⟨?_, Nat.le_refl _, Nat.le_refl _, ?_, ?_, fun a c9 h9 => ⟨c9, h9, rfl, rfl, fun _ _ => rfl⟩⟩
    · obtain ⟨t, ht, -⟩ := State.frames_cons hr
      show T.setVm s.vm = { ((T.setVm s.vm).setFrames (.invoking m args :: below)).setFrames (T.setVm s.vm).frames with heap := T.heap, slotsUsed := T.slotsUsed }
      rw [State.setFrames_setFrames, State.setFrames_self ht]
      rfl
    · show T.slotsUsed = T.slotsUsed + ((T.heap.toList.drop T.heap.size).map (·.slots.size)).sum
      rw [List.drop_eq_nil_of_le (Nat.le_of_eq Array.length_toList)]
      rfl
    · show ((T.heap.toList.drop T.heap.size).map (·.slots.size)).sum ≤ 0
      rw [List.drop_eq_nil_of_le (Nat.le_of_eq Array.length_toList)]
      exact Nat.le_refl _
/-- 'throw new E()': new; dup; invokespecial; athrow -/
theorem vx_throw0 {cc : ByteArray} {pc : Nat} (hexec : p.tables.exec = Jvm.exec) (hb : c.code = cc) (hl : l.stackTraces = false) {own cls : String} {names : List String} {ik ic mc ms : Nat} {A : Nat → Prop}
    (hown : s.vm.findClass own = some m.cls) (hcls : Bundle.fit cls = true) (hnames : ∀ n ∈ names, Bundle.fit n = true)
    (hk : (Cond.classLink own ik cls).before args s = true) (hini : (Cond.initialized cls).before args s = true) (hat : ∀ w ∈ vx_at0 own ic cls names, w.before args s = true)
    (hgood : ∀ w ∈ Cond.classLink own ik cls :: Cond.initialized cls :: vx_at0 own ic cls names, vx_ot w = true)
    (hU : vx_Zq Bundle.tN "UNASSIGNED_STACK" Bundle.steD A s s.heap) (hN : vx_Zq Bundle.tN "SUPPRESSED_SENTINEL" Bundle.listD A s s.heap) (hS : va_S A s.heap H locs) (hsize : ls.size = c.maxLocals)
    (d0 : decode cc pc = .ok (.new ik, 3)) (d3 : decode cc (pc + 3) = .ok (.dup, 1)) (d4 : decode cc (pc + 4) = .ok (.invokespecial ic, 3)) (d7 : decode cc (pc + 7) = .ok (.athrow, 1))
    (hout : ∀ x ∈ c.exceptionTable.toList, covers x (pc + 7) = false)
    (hRframes : names.length + 3 < R.frames) (hRlocals : (rest.map fun v => v.category).sum + (13 * (names.length + 1) + 42) ≤ R.locals) (hRcells : cells + 1 ≤ R.cells) (hRslots : slots + 6 ≤ R.slots) (hlocks : meth.locks = false)
    (hx : ∀ t : State, s.vm.Alike t.vm → H.size ≤ t.heap.size → (∀ q : Nat, q < H.size → t.heap[q]? = H[q]?) → XC cls s t)
    (hf : ∀ z ∈ locs, free z.base) (hc : cells + 1 ≤ mc) (hs : slots + 6 ≤ ms) :
    W p l e R s m args below meth c H locs cells slots (vx_MQ below Qc XC args s mc ms free) (F0 m pc ls rest) := by
  intro T hT X
  have htr : e.platform.stackTraces = false := (show e.platform.stackTraces = l.stackTraces by rw [X.admits.platform]).trans hl
  have Y := vx_rebase X (R' := { frames := R.frames, locals := R.locals, cells := 1, slots := 6 }) (Nat.le_refl _) (Nat.le_refl _) hRcells hRslots
  obtain ⟨s', hA⟩ : ∃ z, z = (T.setVm s.vm).setFrames (.invoking m args :: below) := ⟨_, rfl⟩
  rw [← hA] at Y
  have hvm : s'.vm = s.vm := by rw [hA]; rfl
  have hhp : s'.heap = H := by rw [hA]; exact hT
  have hW0 : s.WarmedH s'.vm := by rw [hvm]; exact State.WarmedH.refl s
  have hat' : ∀ w ∈ vx_at0 own ic cls names, w.before args s' = true := fun w hw => vx_ot_at hW0 hvm.symm (hgood w (List.mem_cons_of_mem _ (List.mem_cons_of_mem _ hw))) (hat w hw)
  have hk' : (Cond.classLink own ik cls).before args s' = true := vx_ot_at hW0 hvm.symm (hgood _ List.mem_cons_self) hk
  have hini' : (Cond.initialized cls).before args s' = true := vx_ot_at hW0 hvm.symm (hgood _ (List.mem_cons_of_mem _ List.mem_cons_self)) hini
  have hU' : vx_Zq Bundle.tN "UNASSIGNED_STACK" Bundle.steD A s' s'.heap := by rw [hhp]; exact vx_Zq.moved hW0.alike (hU.kept hS.2.1)
  have hN' : vx_Zq Bundle.tN "SUPPRESSED_SENTINEL" Bundle.listD A s' s'.heap := by rw [hhp]; exact vx_Zq.moved hW0.alike (hN.kept hS.2.1)
  have h : ∀ w ∈ Bundle.ownAtoms0 own ic cls names, w.before args s' = true := vx_own hat' (vx_isRefq hU'.1) (vx_isRefq hN'.1) hU'.2.word hN'.2.word
  have hown' : s'.vm.findClass own = some m.cls := by rw [hvm]; exact hown
  have hins : (Cond.instantiable cls 6).before args s' = true := h _ (by simp [Bundle.ownAtoms0])
  obtain ⟨vm₁, cX, kX, hfX, hkX, -, -, X₁, st1⟩ := Y.newCold hexec (own := own) (C := cls) (index := ik) (n := 6) hown' hk' hins hini'
    (g := F0 m pc ls rest) rfl (by rw [hb]; exact d0) (Nat.le_refl _) (Nat.le_refl _)
  generalize hT1 : (T.setVm vm₁).pushCell { cls := cX, slots := kX.instanceTypes.map defaultValue, vm := .none } = T1 at X₁ st1
  have hcat : (Value.ref T.heap.size).category = 1 := rfl
  have hcellA : T1.heap[T.heap.size]? = some (freshCell cX kX) := by rw [← hT1]; exact State.heap_pushCell_size _ _
  have d3' : decode c.code (pc + 3) = .ok (.dup, 1) := by rw [hb]; exact d3
  obtain ⟨U, hsteps, hrun, hend, hW, hsame, ce, hce, hO⟩ := X₁.ctorThrow0 hexec htr (own := own) (cls := cls) (names := names) (ic := ic) hown' hcls hnames h (fun x hx => nomatch hx) hfX hkX hcellA (by rw [hhp, hT]; exact Nat.le_refl _)
    (g := { method := m, pc := pc + 4, locals := ls, stack := .ref T.heap.size :: .ref T.heap.size :: rest, locked := none }) rfl hsize rfl rfl (rest := rest) rfl
    (by rw [hb]; exact d4) (by rw [hb]; exact d7) hout hRframes (by simp only [List.map_cons, List.sum_cons, hcat]; omega) hlocks
  obtain ⟨f1, f2⟩ := vx_frame hsame
  rw [hhp] at f1 f2
  have hWs : s.WarmedH U.vm := State.WarmedH.trans hW0 hW
  have hcl : s.vm.findClass cls = some ce.cls := by
    have h9 := hO.cls
    rw [hvm] at h9
    exact h9
  have hall : s.sameButNew ({ U with vm := s.vm } : State) locs mc ms := by
    subst hA
    obtain ⟨e1, e2⟩ := hsame
    rw [State.setFrames_setFrames] at e1
    have h2 : (T.setVm s.vm).sameButNew ({ U with vm := s.vm } : State) [] (0 + 1) (0 + 6) := ⟨e1, e2⟩
    have h3 := X.same.trans h2
    rw [List.append_nil] at h3
    exact h3.mono hc hs
  refine ⟨U, ?_, .threw T.heap.size, hrun, hend, Or.inr ⟨T.heap.size, rfl, cls, ce, locs, hx U hWs.alike f1 (fun q hq => f2 q hq (fun z hz => nomatch hz)), hce, hO.vm, hcl, hWs, hall, hf⟩⟩
  refine st1 _ ?_
  show Steps p.tables e below (T1.setTop { method := m, pc := pc + 3, locals := ls, stack := .ref T.heap.size :: rest, locked := none }) _
  jvm_step X₁.here [X₁.here.top, hexec, d3', Value.category]
  exact hsteps
/-- 'throw new E("text")': new; dup; ldc; invokespecial; athrow -/
theorem vx_throwS {cc : ByteArray} {pc : Nat} (hexec : p.tables.exec = Jvm.exec) (hb : c.code = cc) (hl : l.stackTraces = false) {own cls text : String} {names : List String} {ik is ic mc ms sa : Nat} {A : Nat → Prop}
    (hown : s.vm.findClass own = some m.cls) (hcls : Bundle.fit cls = true) (hnames : ∀ n ∈ names, Bundle.fit n = true)
    (hk : (Cond.classLink own ik cls).before args s = true) (hini : (Cond.initialized cls).before args s = true) (hstr : vk_R own is text sa s) (hat : ∀ w ∈ vx_atS own ic cls names, w.before args s = true)
    (hgood : ∀ w ∈ Cond.classLink own ik cls :: Cond.initialized cls :: vx_atS own ic cls names, vx_ot w = true)
    (hU : vx_Zq Bundle.tN "UNASSIGNED_STACK" Bundle.steD A s s.heap) (hN : vx_Zq Bundle.tN "SUPPRESSED_SENTINEL" Bundle.listD A s s.heap) (hS : va_S A s.heap H locs) (hsize : ls.size = c.maxLocals)
    (d0 : decode cc pc = .ok (.new ik, 3)) (d3 : decode cc (pc + 3) = .ok (.dup, 1)) (d4 : decode cc (pc + 4) = .ok (.ldc is, 2)) (d6 : decode cc (pc + 6) = .ok (.invokespecial ic, 3)) (d9 : decode cc (pc + 9) = .ok (.athrow, 1))
    (hout : ∀ x ∈ c.exceptionTable.toList, covers x (pc + 9) = false)
    (hRframes : names.length + 3 < R.frames) (hRlocals : (rest.map fun v => v.category).sum + (13 * (names.length + 1) + 43) ≤ R.locals) (hRcells : cells + 1 ≤ R.cells) (hRslots : slots + 6 ≤ R.slots) (hlocks : meth.locks = false)
    (hx : ∀ t : State, s.vm.Alike t.vm → H.size ≤ t.heap.size → (∀ q : Nat, q < H.size → t.heap[q]? = H[q]?) → XC cls s t)
    (hf : ∀ z ∈ locs, free z.base) (hc : cells + 1 ≤ mc) (hs : slots + 6 ≤ ms) :
    W p l e R s m args below meth c H locs cells slots (vx_MQ below Qc XC args s mc ms free) (F0 m pc ls rest) := by
  intro T hT X
  have htr : e.platform.stackTraces = false := (show e.platform.stackTraces = l.stackTraces by rw [X.admits.platform]).trans hl
  have Y := vx_rebase X (R' := { frames := R.frames, locals := R.locals, cells := 1, slots := 6 }) (Nat.le_refl _) (Nat.le_refl _) hRcells hRslots
  obtain ⟨s', hA⟩ : ∃ z, z = (T.setVm s.vm).setFrames (.invoking m args :: below) := ⟨_, rfl⟩
  rw [← hA] at Y
  have hvm : s'.vm = s.vm := by rw [hA]; rfl
  have hhp : s'.heap = H := by rw [hA]; exact hT
  have hW0 : s.WarmedH s'.vm := by rw [hvm]; exact State.WarmedH.refl s
  have hat' : ∀ w ∈ vx_atS own ic cls names, w.before args s' = true := fun w hw => vx_ot_at hW0 hvm.symm (hgood w (List.mem_cons_of_mem _ (List.mem_cons_of_mem _ hw))) (hat w hw)
  have hk' : (Cond.classLink own ik cls).before args s' = true := vx_ot_at hW0 hvm.symm (hgood _ List.mem_cons_self) hk
  have hini' : (Cond.initialized cls).before args s' = true := vx_ot_at hW0 hvm.symm (hgood _ (List.mem_cons_of_mem _ List.mem_cons_self)) hini
  have hU' : vx_Zq Bundle.tN "UNASSIGNED_STACK" Bundle.steD A s' s'.heap := by rw [hhp]; exact vx_Zq.moved hW0.alike (hU.kept hS.2.1)
  have hN' : vx_Zq Bundle.tN "SUPPRESSED_SENTINEL" Bundle.listD A s' s'.heap := by rw [hhp]; exact vx_Zq.moved hW0.alike (hN.kept hS.2.1)
  have h : ∀ w ∈ Bundle.ownAtoms own ic cls names, w.before args s' = true := vx_own hat' (vx_isRefq hU'.1) (vx_isRefq hN'.1) hU'.2.word hN'.2.word
  have hown' : s'.vm.findClass own = some m.cls := by rw [hvm]; exact hown
  have hins : (Cond.instantiable cls 6).before args s' = true := h _ (by simp [Bundle.ownAtoms])
  obtain ⟨vm₁, cX, kX, hfX, hkX, -, -, X₁, st1⟩ := Y.newCold hexec (own := own) (C := cls) (index := ik) (n := 6) hown' hk' hins hini'
    (g := F0 m pc ls rest) rfl (by rw [hb]; exact d0) (Nat.le_refl _) (Nat.le_refl _)
  generalize hT1 : (T.setVm vm₁).pushCell { cls := cX, slots := kX.instanceTypes.map defaultValue, vm := .none } = T1 at X₁ st1
  have hcat : (Value.ref T.heap.size).category = 1 := rfl
  have hcellA : T1.heap[T.heap.size]? = some (freshCell cX kX) := by rw [← hT1]; exact State.heap_pushCell_size _ _
  have d3' : decode c.code (pc + 3) = .ok (.dup, 1) := by rw [hb]; exact d3
  have d4' : decode c.code (pc + 4) = .ok (.ldc is, 2) := by rw [hb]; exact d4
  have hstr' : vk_R own is text sa s' := vk_R.warm hW0 hstr
  obtain ⟨U, hsteps, hrun, hend, hW, hsame, ce, hce, hO⟩ := X₁.ctorThrowS hexec htr (own := own) (cls := cls) (names := names) (ic := ic) hown' hcls hnames h (fun x hx => nomatch hx) hfX hkX hcellA (by rw [hhp, hT]; exact Nat.le_refl _) (msg := .ref sa) rfl
    (g := { method := m, pc := pc + 6, locals := ls, stack := .ref sa :: .ref T.heap.size :: .ref T.heap.size :: rest, locked := none }) rfl hsize rfl rfl (rest := rest) rfl
    (by rw [hb]; exact d6) (by rw [hb]; exact d9) hout hRframes (by simp only [List.map_cons, List.sum_cons, hcat]; omega) hlocks
  obtain ⟨f1, f2⟩ := vx_frame hsame
  rw [hhp] at f1 f2
  have hWs : s.WarmedH U.vm := State.WarmedH.trans hW0 hW
  have hcl : s.vm.findClass cls = some ce.cls := by
    have h9 := hO.cls
    rw [hvm] at h9
    exact h9
  have hall : s.sameButNew ({ U with vm := s.vm } : State) locs mc ms := by
    subst hA
    obtain ⟨e1, e2⟩ := hsame
    rw [State.setFrames_setFrames] at e1
    have h2 : (T.setVm s.vm).sameButNew ({ U with vm := s.vm } : State) [] (0 + 1) (0 + 6) := ⟨e1, e2⟩
    have h3 := X.same.trans h2
    rw [List.append_nil] at h3
    exact h3.mono hc hs
  refine ⟨U, ?_, .threw T.heap.size, hrun, hend, Or.inr ⟨T.heap.size, rfl, cls, ce, locs, hx U hWs.alike f1 (fun q hq => f2 q hq (fun z hz => nomatch hz)), hce, hO.vm, hcl, hWs, hall, hf⟩⟩
  refine st1 _ ?_
  show Steps p.tables e below (T1.setTop { method := m, pc := pc + 3, locals := ls, stack := .ref T.heap.size :: rest, locked := none }) _
  jvm_step X₁.here [X₁.here.top, hexec, d3', Value.category]
  exact X₁.ldcString hexec (own := own) (text := text) (index := is) (a := sa) hown' hstr'.1 hstr'.2
    (g := { method := m, pc := pc + 4, locals := ls, stack := .ref T.heap.size :: .ref T.heap.size :: rest, locked := none }) rfl d4' _ hsteps
/-- 'throw new E("text")', the text by a wide index -/
theorem vx_throwSW {cc : ByteArray} {pc : Nat} (hexec : p.tables.exec = Jvm.exec) (hb : c.code = cc) (hl : l.stackTraces = false) {own cls text : String} {names : List String} {ik is ic mc ms sa : Nat} {A : Nat → Prop}
    (hown : s.vm.findClass own = some m.cls) (hcls : Bundle.fit cls = true) (hnames : ∀ n ∈ names, Bundle.fit n = true)
    (hk : (Cond.classLink own ik cls).before args s = true) (hini : (Cond.initialized cls).before args s = true) (hstr : vk_R own is text sa s) (hat : ∀ w ∈ vx_atS own ic cls names, w.before args s = true)
    (hgood : ∀ w ∈ Cond.classLink own ik cls :: Cond.initialized cls :: vx_atS own ic cls names, vx_ot w = true)
    (hU : vx_Zq Bundle.tN "UNASSIGNED_STACK" Bundle.steD A s s.heap) (hN : vx_Zq Bundle.tN "SUPPRESSED_SENTINEL" Bundle.listD A s s.heap) (hS : va_S A s.heap H locs) (hsize : ls.size = c.maxLocals)
    (d0 : decode cc pc = .ok (.new ik, 3)) (d3 : decode cc (pc + 3) = .ok (.dup, 1)) (d4 : decode cc (pc + 4) = .ok (.ldc_w is, 3)) (d7 : decode cc (pc + 7) = .ok (.invokespecial ic, 3)) (d10 : decode cc (pc + 10) = .ok (.athrow, 1))
    (hout : ∀ x ∈ c.exceptionTable.toList, covers x (pc + 10) = false)
    (hRframes : names.length + 3 < R.frames) (hRlocals : (rest.map fun v => v.category).sum + (13 * (names.length + 1) + 43) ≤ R.locals) (hRcells : cells + 1 ≤ R.cells) (hRslots : slots + 6 ≤ R.slots) (hlocks : meth.locks = false)
    (hx : ∀ t : State, s.vm.Alike t.vm → H.size ≤ t.heap.size → (∀ q : Nat, q < H.size → t.heap[q]? = H[q]?) → XC cls s t)
    (hf : ∀ z ∈ locs, free z.base) (hc : cells + 1 ≤ mc) (hs : slots + 6 ≤ ms) :
    W p l e R s m args below meth c H locs cells slots (vx_MQ below Qc XC args s mc ms free) (F0 m pc ls rest) := by
  intro T hT X
  have htr : e.platform.stackTraces = false := (show e.platform.stackTraces = l.stackTraces by rw [X.admits.platform]).trans hl
  have Y := vx_rebase X (R' := { frames := R.frames, locals := R.locals, cells := 1, slots := 6 }) (Nat.le_refl _) (Nat.le_refl _) hRcells hRslots
  obtain ⟨s', hA⟩ : ∃ z, z = (T.setVm s.vm).setFrames (.invoking m args :: below) := ⟨_, rfl⟩
  rw [← hA] at Y
  have hvm : s'.vm = s.vm := by rw [hA]; rfl
  have hhp : s'.heap = H := by rw [hA]; exact hT
  have hW0 : s.WarmedH s'.vm := by rw [hvm]; exact State.WarmedH.refl s
  have hat' : ∀ w ∈ vx_atS own ic cls names, w.before args s' = true := fun w hw => vx_ot_at hW0 hvm.symm (hgood w (List.mem_cons_of_mem _ (List.mem_cons_of_mem _ hw))) (hat w hw)
  have hk' : (Cond.classLink own ik cls).before args s' = true := vx_ot_at hW0 hvm.symm (hgood _ List.mem_cons_self) hk
  have hini' : (Cond.initialized cls).before args s' = true := vx_ot_at hW0 hvm.symm (hgood _ (List.mem_cons_of_mem _ List.mem_cons_self)) hini
  have hU' : vx_Zq Bundle.tN "UNASSIGNED_STACK" Bundle.steD A s' s'.heap := by rw [hhp]; exact vx_Zq.moved hW0.alike (hU.kept hS.2.1)
  have hN' : vx_Zq Bundle.tN "SUPPRESSED_SENTINEL" Bundle.listD A s' s'.heap := by rw [hhp]; exact vx_Zq.moved hW0.alike (hN.kept hS.2.1)
  have h : ∀ w ∈ Bundle.ownAtoms own ic cls names, w.before args s' = true := vx_own hat' (vx_isRefq hU'.1) (vx_isRefq hN'.1) hU'.2.word hN'.2.word
  have hown' : s'.vm.findClass own = some m.cls := by rw [hvm]; exact hown
  have hins : (Cond.instantiable cls 6).before args s' = true := h _ (by simp [Bundle.ownAtoms])
  obtain ⟨vm₁, cX, kX, hfX, hkX, -, -, X₁, st1⟩ := Y.newCold hexec (own := own) (C := cls) (index := ik) (n := 6) hown' hk' hins hini'
    (g := F0 m pc ls rest) rfl (by rw [hb]; exact d0) (Nat.le_refl _) (Nat.le_refl _)
  generalize hT1 : (T.setVm vm₁).pushCell { cls := cX, slots := kX.instanceTypes.map defaultValue, vm := .none } = T1 at X₁ st1
  have hcat : (Value.ref T.heap.size).category = 1 := rfl
  have hcellA : T1.heap[T.heap.size]? = some (freshCell cX kX) := by rw [← hT1]; exact State.heap_pushCell_size _ _
  have d3' : decode c.code (pc + 3) = .ok (.dup, 1) := by rw [hb]; exact d3
  have d4' : decode c.code (pc + 4) = .ok (.ldc_w is, 3) := by rw [hb]; exact d4
  have hstr' : vk_R own is text sa s' := vk_R.warm hW0 hstr
  obtain ⟨U, hsteps, hrun, hend, hW, hsame, ce, hce, hO⟩ := X₁.ctorThrowS hexec htr (own := own) (cls := cls) (names := names) (ic := ic) hown' hcls hnames h (fun x hx => nomatch hx) hfX hkX hcellA (by rw [hhp, hT]; exact Nat.le_refl _) (msg := .ref sa) rfl
    (g := { method := m, pc := pc + 7, locals := ls, stack := .ref sa :: .ref T.heap.size :: .ref T.heap.size :: rest, locked := none }) rfl hsize rfl rfl (rest := rest) rfl
    (by rw [hb]; exact d7) (by rw [hb]; exact d10) hout hRframes (by simp only [List.map_cons, List.sum_cons, hcat]; omega) hlocks
  obtain ⟨f1, f2⟩ := vx_frame hsame
  rw [hhp] at f1 f2
  have hWs : s.WarmedH U.vm := State.WarmedH.trans hW0 hW
  have hcl : s.vm.findClass cls = some ce.cls := by
    have h9 := hO.cls
    rw [hvm] at h9
    exact h9
  have hall : s.sameButNew ({ U with vm := s.vm } : State) locs mc ms := by
    subst hA
    obtain ⟨e1, e2⟩ := hsame
    rw [State.setFrames_setFrames] at e1
    have h2 : (T.setVm s.vm).sameButNew ({ U with vm := s.vm } : State) [] (0 + 1) (0 + 6) := ⟨e1, e2⟩
    have h3 := X.same.trans h2
    rw [List.append_nil] at h3
    exact h3.mono hc hs
  refine ⟨U, ?_, .threw T.heap.size, hrun, hend, Or.inr ⟨T.heap.size, rfl, cls, ce, locs, hx U hWs.alike f1 (fun q hq => f2 q hq (fun z hz => nomatch hz)), hce, hO.vm, hcl, hWs, hall, hf⟩⟩
  refine st1 _ ?_
  show Steps p.tables e below (T1.setTop { method := m, pc := pc + 3, locals := ls, stack := .ref T.heap.size :: rest, locked := none }) _
  jvm_step X₁.here [X₁.here.top, hexec, d3', Value.category]
  exact X₁.ldcStringW hexec (own := own) (text := text) (index := is) (a := sa) hown' hstr'.1 hstr'.2
    (g := { method := m, pc := pc + 4, locals := ls, stack := .ref T.heap.size :: .ref T.heap.size :: rest, locked := none }) rfl d4' _ hsteps
end Ends
section Bodies
variable {l : Launch}
theorem vx_ofW {y : MethodName} {ws ws' : List Cond} {rm : Room} {Pc : Array Value → State → Prop} {Qc : Array Value → State → Outcome → State → Prop} {XC : String → State → State → Prop} {mc ms : Nat} {free : Addr → Prop} {cc : ByteArray} {maxL : Nat} {ret : Option FieldType}
    (hy : plainName y.cls = true) (hw : ws = Cond.code y cc maxL ret :: ws')
    (body : ∀ p e s m args below meth c s₁, BodyLoose p l y (headSpec ws rm) cc maxL ret e s m args below meth c s₁ → c.maxLocals = maxL → (∀ x ∈ c.exceptionTable.toList, False) → Pc args s →
      W p l e (headSpec ws rm).room s m args below meth c s.heap [] 0 0 (vx_MQ below Qc XC args s mc ms free) (entryFrame m args maxL)) : vx_Met l y ws rm Pc Qc XC mc ms free := by
  refine MetFree.of_bodyS (code := cc) (maxLocals := maxL) (ret := ret) hy ?_ ?_
  · intro args s m h hn
    obtain ⟨meth, c, h1, h2, h3, h4, h5, h6, -, -⟩ := Cond.code_spec hn (atoms_spec (ws := ws) h _ (by rw [hw]; exact List.mem_cons_self))
    exact ⟨meth, c, h1, h2, h3, h4, h5, h6⟩
  · intro p e s m args below meth c s₁ B hml hP _
    have hh0 : s₁.heap = s.heap := by rw [B.state]; rfl
    have ht : ∀ x ∈ c.exceptionTable.toList, False := by
      obtain ⟨meth9, c9, h1, h2, -, -, -, -, h7, -⟩ := Cond.code_spec B.named (atoms_spec (ws := ws) B.pre _ (by rw [hw]; exact List.mem_cons_self))
      cases Option.some.inj (h1.symm.trans B.method)
      cases Option.some.inj (h2.symm.trans (Stand.of_body B).code)
      intro x hx
      rw [Array.isEmpty_iff.mp h7] at hx
      cases hx
    obtain ⟨t, a1, o, b1, b2, b3⟩ := body p e s m args below meth c s₁ B hml ht hP s₁ hh0 (Stand.of_body B)
    exact ⟨t, o, a1, b1, b2, b3⟩
/-- the table of a body with handlers -/
theorem vx_table {p : Program} {x y : MethodName} {S : Spec} {cc bytes : ByteArray} {maxL maxL' : Nat} {ret ret' : Option FieldType} {e : Env} {s s₁ : State} {m : MethodId} {args : Array Value} {below : List Frame} {meth : Method} {c : Code} {hh : List (Nat × Nat × Nat × Nat)}
    (B : BodyLoose p l y S cc maxL ret e s m args below meth c s₁) (h : (Cond.codeWith y bytes maxL' ret' hh).before args s = true) : c.exceptionTable.toList = tableOf hh := by
  obtain ⟨m9, meth9, c9, hn9, h1, h2, -, -, h6, -⟩ := Cond.codeWith_spec h
  cases Option.some.inj (hn9.symm.trans B.named)
  cases Option.some.inj (h1.symm.trans B.method)
  cases Option.some.inj (h2.symm.trans (Stand.of_body B).code)
  rw [← h6, table_eq]
end Bodies
end VXA
/-! ===== END ===== -/
/-! ===== BEGIN a static call of a method with an exception table ===== -/
section VXS
variable {p : Program} {l : Launch} {e : Env} {R : Room} {s : State} {m : MethodId} {args : Array Value} {below : List Frame} {meth : Method} {c : Code} {T : State} {H : Heap} {locs : List Loc} {cells slots : Nat}
abbrev vx_CSW (R : Room) (s : State) (args : Array Value) (own : String) (index : Nat) (y : MethodName) (bytes : ByteArray) (maxL : Nat) (ret : Option FieldType) (hh : List (Nat × Nat × Nat × Nat)) (ws : List Cond) (rm : Room) (mc ms n : Nat) : Prop :=
  (rm.cells = mc ∧ rm.slots = ms ∧ rm.frames + 1 ≤ R.frames ∧ 8 + (maxL + 11) + rm.locals ≤ R.locals ∧ (∀ w ∈ ws, ∀ (a' : Array Value) (U : State), s.WarmedH U.vm → w.before a' U = true) ∧ Cond.codeWith y bytes maxL ret hh ∈ ws) ∧
  (Cond.codeWith y bytes maxL ret hh).before args s = true ∧ (Cond.initialized y.cls).before args s = true ∧ (y.cls ≠ "java/lang/invoke/MethodHandle" ∧ y.cls ≠ "java/lang/invoke/VarHandle") ∧
  (∀ sig, parseMethodDescriptor y.desc = some sig → n = sig.parameters.length) ∧ (Cond.methodLink own index y).before args s = true ∧ (Cond.static y).before args s = true
theorem vx_cwSW {own : String} {index maxL mc ms : Nat} {y : MethodName} {bytes : ByteArray} {ret : Option FieldType} {hh : List (Nat × Nat × Nat × Nat)} {Ts ws ws' : List Cond} {rm : Room} (n : Nat) (ht : ∀ w ∈ Ts, w.before args s = true) (hT : GoodIn Ts (va_wsS own index y ws)) (hw : ws = Cond.codeWith y bytes maxL ret hh :: ws') (hrc : rm.cells = mc) (hrs : rm.slots = ms)
    (hd : y.cls ≠ "java/lang/invoke/MethodHandle" ∧ y.cls ≠ "java/lang/invoke/VarHandle" ∧ (parseMethodDescriptor y.desc).map (fun d => d.parameters.length) = some n) (hR : rm.frames + 1 ≤ R.frames ∧ 8 + (maxL + 11) + rm.locals ≤ R.locals) :
    vx_CSW R s args own index y bytes maxL ret hh ws rm mc ms n := by
  have ok : ∀ w ∈ va_wsS own index y ws, w.before args s = true := fun w h => ht w (hT w h).1
  have hG : GoodIn Ts ws := fun w h => hT w (by unfold va_wsS; exact List.mem_append_right _ h)
  have hc : Cond.codeWith y bytes maxL ret hh ∈ ws := by rw [hw]; exact List.mem_cons_self
  refine ⟨⟨hrc, hrs, hR.1, hR.2, pay_in ht hG, hc⟩, ht _ (hG _ hc).1, ok _ (by simp [va_wsS]), ⟨hd.1, hd.2.1⟩, fun sig h => ?_, ok _ (by simp [va_wsS]), ok _ (by simp [va_wsS])⟩
  have h2 := hd.2.2
  rw [h] at h2
  exact (Option.some.inj h2).symm
theorem vx_callSW (X : Stand p l e R s m args below meth c T locs cells slots) (hexec : p.tables.exec = Jvm.exec) {own : String} {index : Nat} {y : MethodName} {bytes : ByteArray} {maxL : Nat} {ret : Option FieldType} {hh : List (Nat × Nat × Nat × Nat)}
    (hown : s.vm.findClass own = some m.cls) (hlink : (Cond.methodLink own index y).before args s = true) (hstat : (Cond.static y).before args s = true) (hinit : (Cond.initialized y.cls).before args s = true)
    (hcode : (Cond.codeWith y bytes maxL ret hh).before args s = true) (hy : y.cls ≠ "java/lang/invoke/MethodHandle" ∧ y.cls ≠ "java/lang/invoke/VarHandle")
    {W9 : Nat} {Pre : Pt → Array Value → Prop} {Post : Pt → Array Value → Option Value → Pt → Prop} (hK : Back l R p e below s args y 3 W9 Pre Post)
    {g : JFrame} (hg : g.method = m) (hsize : g.locals.size = c.maxLocals) {argsL rest : List Value} (hlen : ∀ sig, parseMethodDescriptor y.desc = some sig → argsL.length = sig.parameters.length)
    (hstack : g.stack = argsL.reverse ++ rest) (hW : 2 * g.monitorRoom + (rest.map fun v => v.category).sum ≤ W9) (hdg : decode c.code g.pc = .ok (.invokestatic index, 3))
    (hpre : ∀ vm₁, s.WarmedH vm₁ → Pre ⟨T.setVm vm₁, locs, cells, slots⟩ argsL.toArray) :
    ∃ (v : Option Value) (vm₁ : Vm) (B : Pt), s.WarmedH vm₁ ∧ Stand p l e R s m args below meth c B.U B.locs B.cells B.slots ∧ Post ⟨T.setVm vm₁, locs, cells, slots⟩ argsL.toArray v B ∧
      ∀ target, Steps p.tables e below (B.U.setTop { g with pc := g.pc + 3, stack := v.toList ++ rest }) target → Steps p.tables e below (T.setTop g) target := by
  obtain ⟨mk, methM, cM, hnamed, hmethM, -, -, -, -, -, -, hsigM⟩ := Cond.codeWith_spec hcode
  have hstatic : methM.isStatic = true := Cond.static_spec hnamed hmethM hstat
  obtain ⟨kP, hkP, -⟩ := className_of_methodNamed hnamed
  have hinitP : kP.init = .initialized := Cond.initialized_spec (findClass_of_methodNamed hnamed) hkP hinit
  obtain ⟨vm₁, X₁, hstep₁⟩ := X.invokestatic hexec hown hlink hnamed hmethM hstatic hkP hinitP hy (g := g) hg (argsL := argsL) (rest := rest) (hlen _ hsigM) hstack hdg
  obtain ⟨v, B, X', hpost, hsteps⟩ := hK m meth c ⟨T.setVm vm₁, locs, cells, slots⟩ { g with stack := rest } (.invokestatic index) mk argsL.toArray X₁ hg hsize hdg hW (X₁.named hnamed) (hpre vm₁ X₁.warmed)
  exact ⟨v, vm₁, B, X₁.warmed, X', hpost, fun target h => hstep₁ _ fun acts => by rw [doInvoke_state]; exact hsteps.trans h⟩
theorem vx_runSW {y : MethodName} {bytes cc : ByteArray} {maxL nL mc ms n index : Nat} {ret : Option FieldType} {hh : List (Nat × Nat × Nat × Nat)} {ws : List Cond} {rm : Room} {Pc : Array Value → State → Prop} {Qc : Array Value → State → Outcome → State → Prop} {free : Addr → Prop} {Ts : List Cond} {own : String} {As rest : List Value} {g : JFrame}
    (S : CallFix p m c cc nL s args Ts own) (hM : Met l y ws rm Pc Qc mc ms free) (cw : vx_CSW R s args own index y bytes maxL ret hh ws rm mc ms n) (hp : PreS s H Pc As)
    (hg : g.method = m) (hn : As.length = n) (hsize : g.locals.size = nL) (hstack : g.stack = As.reverse ++ rest) (hW : 2 * g.monitorRoom + (rest.map fun v => v.category).sum ≤ 8) (hdg : decode cc g.pc = .ok (.invokestatic index, 3)) (hf : cells + mc ≤ R.cells ∧ slots + ms ≤ R.slots) :
    va_Run p l e R s m args below meth c H locs cells slots mc ms g rest (Qc As.toArray) (free) := by
  obtain ⟨⟨hrc, hrs, hfr, hlo, hws, hcw⟩, hcode, hini, hy, hlen, hl, hstt⟩ := cw
  have hK : Back l R p e below s args y 3 8 (PreOf R mc ms Pc) (PostOf Qc mc ms free) := va_backW (hh := hh) (bytes := bytes) (maxL := maxL) (ret := ret) hM hp.1 hrc hrs hfr hlo hws hcw (fun a' U hW => word_at hW (Or.inl (by first | rfl | simp [Cond.onTables, Cond.keeps, Cond.steady])) hini)
  obtain ⟨hx, hb, hml, ho, -⟩ := S
  intro T hT X
  obtain ⟨v, vm₁, ⟨U', l2, c2, s2⟩, hW₁, X', ⟨g', mk, t, L, e1, e2, hq, h1, hL, h2, h3⟩, st⟩ := vx_callSW X hx (hh := hh) (bytes := bytes) (maxL := maxL) (ret := ret) ho hl hstt hini hcode hy hK hg (hsize.trans hml.symm) (argsL := As) (rest := rest) (fun sig h => hn.trans (hlen sig h)) hstack hW (by rw [hb]; exact hdg)
    (fun vm₁ hW₁ => ⟨hf.1, hf.2, hp.2 (T.setVm vm₁) hT hW₁⟩)
  dsimp only [Pt.U, Pt.locs, Pt.cells, Pt.slots] at X' e1 e2 h1 h2 h3 st
  subst h1; subst h2; subst h3
  exact ⟨v, (T.setVm vm₁).calling g' mk As.toArray, t, U', L, hT, X', hL, e1, e2, hq, st⟩
/-- not caught here, past rows that name other classes: it goes on to the caller -/
theorem vx_outP {p : Program} {l : Launch} {e : Env} {R : Room} {s : State} {m : MethodId} {args : Array Value} {below : List Frame} {meth : Method} {c : Code} {H : Heap} {locs : List Loc} {cells slots : Nat} {free : Addr → Prop} {ls : Array Slot} {rest : List Value} {Qc : Array Value → State → Outcome → State → Prop} {XC : String → State → State → Prop}
    {pc : Nat} {own E : String} {ce : Cell} {q : Addr} {mc ms : Nat} (hown : s.vm.findClass own = some m.cls) (hlocks : meth.locks = false)
    (hpass : ∀ z ∈ c.exceptionTable.toList, covers z pc = false ∨ (z.catchType ≠ 0 ∧ ∃ nm : String, (Cond.classLink own z.catchType nm).before args s = true ∧ va_Nc E nm s)) (hcell : H[q]? = some ce) (hv : ce.vm = .none) (hcl : s.vm.findClass E = some ce.cls)
    (hx : ∀ t : State, t.heap = H → s.vm.Alike t.vm → XC E s t) (hf : ∀ z ∈ locs, free z.base) (hc : cells ≤ mc) (hs : slots ≤ ms) :
    vx_W p l e R s m args below meth c H locs cells slots (vx_MQ below Qc XC args s mc ms free) (F0 m pc ls rest) q := by
  intro T hT X
  have hpl : e.platform.magicAccessors = ({} : Platform).magicAccessors := by rw [X.admits.platform]
  obtain ⟨vm', hW', X', st⟩ := X.outThrough hlocks q (g := F0 m pc ls rest) rfl rfl rfl (cell := ce) (by rw [hT]; exact hcell) (by rw [hv]; rfl)
    (by obtain ⟨k9, h9, -⟩ := Vm.findClass_spec hcl; exact ⟨k9, h9⟩) (fun z hz => by
      rcases hpass z hz with h | ⟨hz0, nm, hl1, hn1⟩
      · exact Or.inl h
      · obtain ⟨c6, hc6, hcl6⟩ := Cond.classLink_spec hown hl1 e.platform hpl
        obtain ⟨a8, b8, h1, h2, h3⟩ := hn1
        cases Option.some.inj (h1.symm.trans hcl)
        cases Option.some.inj (h2.symm.trans hc6)
        exact Or.inr ⟨hz0, _, hcl6, h3⟩)
  obtain ⟨g₀, hfr⟩ := X'.frames_eq
  have hcell9 : ((T.setVm vm').setFrames (.throwing q :: below)).heap[q]? = some ce := by
    show T.heap[q]? = some ce
    rw [hT]; exact hcell
  have hend : Ended ((T.setVm vm').setFrames (.throwing q :: below)) below (.threw q) := State.frames_setFrames _ (State.cur_lt_of_frames hfr)
  refine ⟨(T.setVm vm').setFrames (.throwing q :: below), ?_, .threw q, X'.here.running, hend, Or.inr ⟨q, rfl, E, ce, locs, hx _ hT (X'.ends _).1.alike, hcell9, hv, hcl, (X'.ends _).1, (X'.ends _).2.mono hc hs, hf⟩⟩
  rw [X.pushThrowing_eq]
  exact st
/-- a thing of a world lies in the heap -/
theorem vx_lt {D : va_G} {cl : List vw_C} {ws : va_W} {H1 : Heap} (h : va_P D cl ws H1) {k : Nat} {q : Nat × va_E} (hk : ws[k]? = some q) : q.1 < H1.size := (h k q hk).lt
end VXS
/-! ===== END ===== -/
/-! ===== BEGIN methods with a table of their own: called by a name, returning or throwing ===== -/
section VXH
/-! vx_backW, vx_callVX, vx_callSX, vx_callVW, vx_runVW, vx_runVX, vx_runSX, vx_ofWH follow the same proofs as their sisters above (Free/Laws.lean, Shelf42/LK1.lean); vx_outP calls Shelf42/NT130.lean (outThrough). -/
section
variable {l : Launch} {R : Room} {p : Program} {e : Env} {below : List Frame} {s : State} {sargs : Array Value} {y : MethodName} {len W9 : Nat}
theorem vx_backW {ws : List Cond} {rm : Room} {Pc : Array Value → State → Prop} {Qc : Array Value → State → Outcome → State → Prop} {XC : String → State → State → Prop} {mc ms : Nat} {free : Addr → Prop} {bytes : ByteArray} {maxL : Nat} {ret : Option FieldType} {hh : List (Nat × Nat × Nat × Nat)}
    (hM : vx_Met l y ws rm Pc Qc XC mc ms free) (hblind : FrameBlind Pc) (hrc : rm.cells = mc) (hrs : rm.slots = ms)
    (hframes : rm.frames + 1 ≤ R.frames) (hlocals : W9 + (maxL + 11) + rm.locals ≤ R.locals)
    (hws : ∀ w ∈ ws, ∀ a' U, s.WarmedH U.vm → w.before a' U = true) (hcode : Cond.codeWith y bytes maxL ret hh ∈ ws) (hinit : ∀ a' U, s.WarmedH U.vm → (Cond.initialized y.cls).before a' U = true) :
    vx_Back l R p e below s sargs y len W9 (PreOf R mc ms Pc) (PostOf Qc mc ms free) (vx_Post XC mc ms free) := by
  intro m meth c A g ig mk a X hg hsize hdg hW hn hp
  have h1 : (headSpec ws rm).pre.before a A.U = true := atoms_intro fun w hw => hws w hw _ _ X.warmed
  have h2 : (Cond.codeWith y bytes maxL ret hh).before a A.U = true := hws _ hcode _ _ X.warmed
  have h3 : (Cond.initialized y.cls).before a A.U = true := hinit _ _ X.warmed
  have h4 : A.cells + (headSpec ws rm).room.cells ≤ R.cells := by rw [show (headSpec ws rm).room.cells = mc from hrc]; exact hp.1
  have h5 : A.slots + (headSpec ws rm).room.slots ≤ R.slots := by rw [show (headSpec ws rm).room.slots = ms from hrs]; exact hp.2.1
  have hPc : Pc a (A.U.calling g mk a) := hblind _ _ _ _ hp.2.2
  obtain ⟨U, Ls, c0, s0⟩ := A
  dsimp only [Pt.U, Pt.locs, Pt.cells, Pt.slots] at h1 h2 h3 h4 h5 X hn hPc ⊢
  obtain ⟨m9, methY, cY, hn9, hmY, hcY, -, hlY, -⟩ := Cond.codeWith_spec h2
  cases Option.some.inj (hn9.symm.trans hn)
  obtain ⟨kY, hkY, -⟩ := className_of_methodNamed hn
  have hinitY : kY.init = .initialized := Cond.initialized_spec (findClass_of_methodNamed hn) hkY h3
  have h : At U g.method c below := by rw [hg]; exact X.here
  have hlocals9 : W9 + (maxL + 11) + (headSpec ws rm).room.locals ≤ R.locals := hlocals
  have happ : (headSpec ws rm).appliesLoose y e.platform (U.calling g mk a) = true :=
    Spec.appliesLoose_calling (g := g) h hdg hn hkY hinitY
      (X.room_calling (g := g) (R' := (headSpec ws rm).room) hsize hmY hcY hframes (by rw [hlY]; omega) h4 h5) h1
  obtain ⟨mid, hmid⟩ := h.above
  have hfr : (U.setTop g).frames = (.java g :: mid) ++ below := by rw [State.frames_setTop' g h.top, hmid]; rfl
  obtain ⟨o, s₂, hsteps, -, hend, hq⟩ := Steps.callFree hM p X.admits X.cas X.clock (acts := []) hfr happ hPc trivial
  have hq' : vx_Q Qc XC mc ms free a (U.calling g mk a) o s₂ := hq
  rw [State.frames_setTop' g h.top] at hend
  obtain ⟨g₀, hg0⟩ := Option.isSome_iff_exists.mp h.top
  obtain ⟨r, hr⟩ := State.topJava?_eq_some.mp hg0
  have hr' : (({ U with heap := s₂.heap, slotsUsed := s₂.slotsUsed } : State).setVm s₂.vm).frames = .java g₀ :: r := hr
  rcases hq' with ⟨hqc, L, hfe, hL⟩ | ⟨q, rfl, E, ce, L, hx, hce, hcv, hcl, hW₂, hsm, hL⟩
  · obtain ⟨⟨v, rfl⟩, hW₂, e2, q2, q3, q4, q5, q6⟩ := id hfe
    have e3 : s₂ = ({ (U.calling g mk a).setFrames s₂.frames with heap := s₂.heap, slotsUsed := s₂.slotsUsed } : State).setVm s₂.vm := by
      have : s₂ = ({ s₂ with vm := (U.calling g mk a).vm } : State).setVm s₂.vm := rfl
      rw [e2] at this
      exact this
    obtain ⟨c₂, i₂, len₂, hc₂, hd₂, hf₂⟩ := hend
    have hW' : U.WarmedH s₂.vm := hW₂
    have hcc : c₂ = c := by
      have h1 : s₂.code? g.method = U.code? g.method := by
        rw [State.code?_eq, State.code?_eq, hW'.alike.method?]
      exact Option.some.inj (hc₂.symm.trans (h1.trans h.code))
    subst hcc
    have hlen : len₂ = len := by rw [hdg] at hd₂; cases hd₂; rfl
    subst hlen
    have hs₂ : s₂ = (({ U with heap := s₂.heap, slotsUsed := s₂.slotsUsed } : State).setVm s₂.vm).setTop { g with pc := g.pc + len₂, stack := v.toList ++ g.stack } := by
      refine e3.trans ?_
      rw [hf₂, State.calling_eq h.top, State.setFrames_setFrames, State.setTop_of_frames _ hr', hr]
      rfl
    have hsame : U.sameButNew ({ U with heap := s₂.heap, slotsUsed := s₂.slotsUsed } : State) L mc ms := by
      refine ⟨?_, q2, q3, q4, q5, q6⟩
      obtain ⟨t, ht, -⟩ := State.frames_cons hr
      show ({ U with heap := s₂.heap, slotsUsed := s₂.slotsUsed } : State) = { U.setFrames U.frames with heap := s₂.heap, slotsUsed := s₂.slotsUsed }
      rw [State.setFrames_self ht]
    subst hg
    refine Or.inl ⟨v, ⟨(({ U with heap := s₂.heap, slotsUsed := s₂.slotsUsed } : State).setVm s₂.vm), Ls ++ L, c0 + mc, s0 + ms⟩,
      ⟨X.admits, X.cas, X.clock, X.frames, X.room, X.hears, X.method, X.code, (X.here.setHeapUsed s₂.heap s₂.slotsUsed).setVm hW'.alike, X.tail, State.WarmedH.trans X.warmed hW', X.limits, X.bytes, X.same.trans (hsame.setVm s.vm)⟩,
      ⟨g, mk, s₂, L, rfl, rfl, hqc, rfl, hL, rfl, rfl⟩, ?_⟩
    show Steps p.tables e below _ ((({ U with heap := s₂.heap, slotsUsed := s₂.slotsUsed } : State).setVm s₂.vm).setTop { g with pc := g.pc + len₂, stack := v.toList ++ g.stack })
    rw [← hs₂]
    exact hsteps
  · obtain ⟨e2, q2, q3, q4, q5, q6⟩ := id hsm
    have e3 : s₂ = ({ (U.calling g mk a).setFrames s₂.frames with heap := s₂.heap, slotsUsed := s₂.slotsUsed } : State).setVm s₂.vm := by
      have : s₂ = ({ s₂ with vm := (U.calling g mk a).vm } : State).setVm s₂.vm := rfl
      rw [e2] at this
      exact this
    have hf₂ : s₂.frames = .throwing q :: .java g :: U.frames.tail := hend
    have hW' : U.WarmedH s₂.vm := hW₂
    have hs₂ : s₂ = ((({ U with heap := s₂.heap, slotsUsed := s₂.slotsUsed } : State).setVm s₂.vm).setTop g).pushFrame (.throwing q) := by
      refine e3.trans ?_
      rw [hf₂, State.calling_eq h.top, State.setFrames_setFrames, State.pushFrame, State.frames_setTop _ hr', State.setTop_of_frames _ hr', State.setFrames_setFrames, hr]
      rfl
    have hsame : U.sameButNew ({ U with heap := s₂.heap, slotsUsed := s₂.slotsUsed } : State) L mc ms := by
      refine ⟨?_, q2, q3, q4, q5, q6⟩
      obtain ⟨t, ht, -⟩ := State.frames_cons hr
      show ({ U with heap := s₂.heap, slotsUsed := s₂.slotsUsed } : State) = { U.setFrames U.frames with heap := s₂.heap, slotsUsed := s₂.slotsUsed }
      rw [State.setFrames_self ht]
    subst hg
    refine Or.inr ⟨q, ⟨(({ U with heap := s₂.heap, slotsUsed := s₂.slotsUsed } : State).setVm s₂.vm), Ls ++ L, c0 + mc, s0 + ms⟩,
      ⟨X.admits, X.cas, X.clock, X.frames, X.room, X.hears, X.method, X.code, (X.here.setHeapUsed s₂.heap s₂.slotsUsed).setVm hW'.alike, X.tail, State.WarmedH.trans X.warmed hW', X.limits, X.bytes, X.same.trans (hsame.setVm s.vm)⟩,
      ⟨g, mk, s₂, L, E, ce, rfl, rfl, hx, hce, hcv, hcl, rfl, hL, rfl, rfl⟩, ?_⟩
    show Steps p.tables e below _ (((({ U with heap := s₂.heap, slotsUsed := s₂.slotsUsed } : State).setVm s₂.vm).setTop g).pushFrame (.throwing q))
    rw [← hs₂]
    exact hsteps
end
variable {p : Program} {l : Launch} {e : Env} {R : Room} {s : State} {m : MethodId} {args : Array Value} {below : List Frame} {meth : Method} {c : Code} {T : State} {H : Heap} {locs : List Loc} {cells slots : Nat}
theorem vx_callVX (X : Stand p l e R s m args below meth c T locs cells slots) (hexec : p.tables.exec = Jvm.exec) {own C : String} {index : Nat} {y : MethodName} {bytes : ByteArray} {maxL : Nat} {ret : Option FieldType} {hh : List (Nat × Nat × Nat × Nat)}
    (hown : s.vm.findClass own = some m.cls) (hlink : (Cond.methodLink own index y).before args s = true) (hinst : (Cond.instanceMethod y).before args s = true) (hsel : (Cond.selects C y y).before args s = true)
    (hcode : (Cond.codeWith y bytes maxL ret hh).before args s = true) (hy : y.cls ≠ "java/lang/invoke/MethodHandle" ∧ y.cls ≠ "java/lang/invoke/VarHandle")
    {W9 : Nat} {Pre : Pt → Array Value → Prop} {Post : Pt → Array Value → Option Value → Pt → Prop} {PostX : Pt → Array Value → Addr → Pt → Prop} (hK : vx_Back l R p e below s args y 3 W9 Pre Post PostX)
    {b : Addr} {cellB : Cell} (hcell : T.heap[b]? = some cellB) (hobj : cellB.vm.isStatics = false) (hcls : s.vm.findClass C = some cellB.cls)
    {g : JFrame} (hg : g.method = m) (hsize : g.locals.size = c.maxLocals) {argsL rest : List Value} (hlen : ∀ sig, parseMethodDescriptor y.desc = some sig → argsL.length = sig.parameters.length)
    (hstack : g.stack = argsL.reverse ++ .ref b :: rest) (hW : 2 * g.monitorRoom + (rest.map fun v => v.category).sum ≤ W9) (hdg : decode c.code g.pc = .ok (.invokevirtual index, 3))
    (hpre : ∀ vm₁, s.WarmedH vm₁ → Pre ⟨T.setVm vm₁, locs, cells, slots⟩ (Value.ref b :: argsL).toArray) :
    (∃ (v : Option Value) (vm₁ : Vm) (B : Pt), s.WarmedH vm₁ ∧ Stand p l e R s m args below meth c B.U B.locs B.cells B.slots ∧ Post ⟨T.setVm vm₁, locs, cells, slots⟩ (Value.ref b :: argsL).toArray v B ∧
      ∀ target, Steps p.tables e below (B.U.setTop { g with pc := g.pc + 3, stack := v.toList ++ rest }) target → Steps p.tables e below (T.setTop g) target) ∨
    (∃ (q : Addr) (vm₁ : Vm) (B : Pt), s.WarmedH vm₁ ∧ Stand p l e R s m args below meth c B.U B.locs B.cells B.slots ∧ PostX ⟨T.setVm vm₁, locs, cells, slots⟩ (Value.ref b :: argsL).toArray q B ∧
      Steps p.tables e below (T.setTop g) ((B.U.setTop { g with stack := rest }).pushFrame (.throwing q))) := by
  obtain ⟨mk, methM, hnamed, hmethM, hstM, habM⟩ := Cond.instanceMethod_spec hinst
  obtain ⟨m8, methM', cM, hn8, hmethM', -, -, -, -, -, -, hsigM⟩ := Cond.codeWith_spec hcode
  cases Option.some.inj (hn8.symm.trans hnamed)
  cases hmethM.symm.trans hmethM'
  obtain ⟨c2, r2, m2, q1, q2, q3, q4, kP, hkP, hkPi⟩ := Cond.selects_spec hsel
  cases hcls.symm.trans q1
  cases (State.methodFound?_of_named hnamed hy).symm.trans q2
  cases hnamed.symm.trans q3
  have hselP : selectMethod e.platform s.vm cellB.cls mk = .method mk := by rw [Launch.admits_selectMethod X.admits]; exact q4
  obtain ⟨vm₁, X₁, hstep₁⟩ := X.invokevirtual hexec hown hlink hnamed hmethM hstM hkP hkPi hy (a := b) (cell := cellB) hcell
    (fun z h => by rw [h] at hobj; cases hobj) hselP hmethM habM hkP hkPi (g := g) hg (argsL := argsL) (rest := rest) (hlen _ hsigM) hstack hdg
  rcases hK m meth c ⟨T.setVm vm₁, locs, cells, slots⟩ { g with stack := rest } (.invokevirtual index) mk (Value.ref b :: argsL).toArray X₁ hg hsize hdg hW (X₁.named hnamed) (hpre vm₁ X₁.warmed) with ⟨v, B, X', hpost, hsteps⟩ | ⟨q, B, X', hpost, hsteps⟩
  · exact Or.inl ⟨v, vm₁, B, X₁.warmed, X', hpost, fun target h => hstep₁ _ fun acts => by rw [doInvoke_state]; exact hsteps.trans h⟩
  · exact Or.inr ⟨q, vm₁, B, X₁.warmed, X', hpost, hstep₁ _ fun acts => by rw [doInvoke_state]; exact hsteps⟩
theorem vx_callSX (X : Stand p l e R s m args below meth c T locs cells slots) (hexec : p.tables.exec = Jvm.exec) {own : String} {index : Nat} {y : MethodName} {bytes : ByteArray} {maxL : Nat} {ret : Option FieldType} {hh : List (Nat × Nat × Nat × Nat)}
    (hown : s.vm.findClass own = some m.cls) (hlink : (Cond.methodLink own index y).before args s = true) (hstat : (Cond.static y).before args s = true) (hinit : (Cond.initialized y.cls).before args s = true)
    (hcode : (Cond.codeWith y bytes maxL ret hh).before args s = true) (hy : y.cls ≠ "java/lang/invoke/MethodHandle" ∧ y.cls ≠ "java/lang/invoke/VarHandle")
    {W9 : Nat} {Pre : Pt → Array Value → Prop} {Post : Pt → Array Value → Option Value → Pt → Prop} {PostX : Pt → Array Value → Addr → Pt → Prop} (hK : vx_Back l R p e below s args y 3 W9 Pre Post PostX)
    {g : JFrame} (hg : g.method = m) (hsize : g.locals.size = c.maxLocals) {argsL rest : List Value} (hlen : ∀ sig, parseMethodDescriptor y.desc = some sig → argsL.length = sig.parameters.length)
    (hstack : g.stack = argsL.reverse ++ rest) (hW : 2 * g.monitorRoom + (rest.map fun v => v.category).sum ≤ W9) (hdg : decode c.code g.pc = .ok (.invokestatic index, 3))
    (hpre : ∀ vm₁, s.WarmedH vm₁ → Pre ⟨T.setVm vm₁, locs, cells, slots⟩ argsL.toArray) :
    (∃ (v : Option Value) (vm₁ : Vm) (B : Pt), s.WarmedH vm₁ ∧ Stand p l e R s m args below meth c B.U B.locs B.cells B.slots ∧ Post ⟨T.setVm vm₁, locs, cells, slots⟩ argsL.toArray v B ∧
      ∀ target, Steps p.tables e below (B.U.setTop { g with pc := g.pc + 3, stack := v.toList ++ rest }) target → Steps p.tables e below (T.setTop g) target) ∨
    (∃ (q : Addr) (vm₁ : Vm) (B : Pt), s.WarmedH vm₁ ∧ Stand p l e R s m args below meth c B.U B.locs B.cells B.slots ∧ PostX ⟨T.setVm vm₁, locs, cells, slots⟩ argsL.toArray q B ∧
      Steps p.tables e below (T.setTop g) ((B.U.setTop { g with stack := rest }).pushFrame (.throwing q))) := by
  obtain ⟨mk, methM, cM, hnamed, hmethM, -, -, -, -, -, -, hsigM⟩ := Cond.codeWith_spec hcode
  have hstatic : methM.isStatic = true := Cond.static_spec hnamed hmethM hstat
  obtain ⟨kP, hkP, -⟩ := className_of_methodNamed hnamed
  have hinitP : kP.init = .initialized := Cond.initialized_spec (findClass_of_methodNamed hnamed) hkP hinit
  obtain ⟨vm₁, X₁, hstep₁⟩ := X.invokestatic hexec hown hlink hnamed hmethM hstatic hkP hinitP hy (g := g) hg (argsL := argsL) (rest := rest) (hlen _ hsigM) hstack hdg
  rcases hK m meth c ⟨T.setVm vm₁, locs, cells, slots⟩ { g with stack := rest } (.invokestatic index) mk argsL.toArray X₁ hg hsize hdg hW (X₁.named hnamed) (hpre vm₁ X₁.warmed) with ⟨v, B, X', hpost, hsteps⟩ | ⟨q, B, X', hpost, hsteps⟩
  · exact Or.inl ⟨v, vm₁, B, X₁.warmed, X', hpost, fun target h => hstep₁ _ fun acts => by rw [doInvoke_state]; exact hsteps.trans h⟩
  · exact Or.inr ⟨q, vm₁, B, X₁.warmed, X', hpost, hstep₁ _ fun acts => by rw [doInvoke_state]; exact hsteps⟩
theorem vx_callVW (X : Stand p l e R s m args below meth c T locs cells slots) (hexec : p.tables.exec = Jvm.exec) {own C : String} {index : Nat} {y : MethodName} {bytes : ByteArray} {maxL : Nat} {ret : Option FieldType} {hh : List (Nat × Nat × Nat × Nat)}
    (hown : s.vm.findClass own = some m.cls) (hlink : (Cond.methodLink own index y).before args s = true) (hinst : (Cond.instanceMethod y).before args s = true) (hsel : (Cond.selects C y y).before args s = true)
    (hcode : (Cond.codeWith y bytes maxL ret hh).before args s = true) (hy : y.cls ≠ "java/lang/invoke/MethodHandle" ∧ y.cls ≠ "java/lang/invoke/VarHandle")
    {W9 : Nat} {Pre : Pt → Array Value → Prop} {Post : Pt → Array Value → Option Value → Pt → Prop} (hK : Back l R p e below s args y 3 W9 Pre Post)
    {b : Addr} {cellB : Cell} (hcell : T.heap[b]? = some cellB) (hobj : cellB.vm.isStatics = false) (hcls : s.vm.findClass C = some cellB.cls)
    {g : JFrame} (hg : g.method = m) (hsize : g.locals.size = c.maxLocals) {argsL rest : List Value} (hlen : ∀ sig, parseMethodDescriptor y.desc = some sig → argsL.length = sig.parameters.length)
    (hstack : g.stack = argsL.reverse ++ .ref b :: rest) (hW : 2 * g.monitorRoom + (rest.map fun v => v.category).sum ≤ W9) (hdg : decode c.code g.pc = .ok (.invokevirtual index, 3))
    (hpre : ∀ vm₁, s.WarmedH vm₁ → Pre ⟨T.setVm vm₁, locs, cells, slots⟩ (Value.ref b :: argsL).toArray) :
    ∃ (v : Option Value) (vm₁ : Vm) (B : Pt), s.WarmedH vm₁ ∧ Stand p l e R s m args below meth c B.U B.locs B.cells B.slots ∧ Post ⟨T.setVm vm₁, locs, cells, slots⟩ (Value.ref b :: argsL).toArray v B ∧
      ∀ target, Steps p.tables e below (B.U.setTop { g with pc := g.pc + 3, stack := v.toList ++ rest }) target → Steps p.tables e below (T.setTop g) target := by
  obtain ⟨mk, methM, hnamed, hmethM, hstM, habM⟩ := Cond.instanceMethod_spec hinst
  obtain ⟨m8, methM', cM, hn8, hmethM', -, -, -, -, -, -, hsigM⟩ := Cond.codeWith_spec hcode
  cases Option.some.inj (hn8.symm.trans hnamed)
  cases hmethM.symm.trans hmethM'
  obtain ⟨c2, r2, m2, q1, q2, q3, q4, kP, hkP, hkPi⟩ := Cond.selects_spec hsel
  cases hcls.symm.trans q1
  cases (State.methodFound?_of_named hnamed hy).symm.trans q2
  cases hnamed.symm.trans q3
  have hselP : selectMethod e.platform s.vm cellB.cls mk = .method mk := by rw [Launch.admits_selectMethod X.admits]; exact q4
  obtain ⟨vm₁, X₁, hstep₁⟩ := X.invokevirtual hexec hown hlink hnamed hmethM hstM hkP hkPi hy (a := b) (cell := cellB) hcell
    (fun z h => by rw [h] at hobj; cases hobj) hselP hmethM habM hkP hkPi (g := g) hg (argsL := argsL) (rest := rest) (hlen _ hsigM) hstack hdg
  obtain ⟨v, B, X', hpost, hsteps⟩ := hK m meth c ⟨T.setVm vm₁, locs, cells, slots⟩ { g with stack := rest } (.invokevirtual index) mk (Value.ref b :: argsL).toArray X₁ hg hsize hdg hW (X₁.named hnamed) (hpre vm₁ X₁.warmed)
  exact ⟨v, vm₁, B, X₁.warmed, X', hpost, fun target h => hstep₁ _ fun acts => by rw [doInvoke_state]; exact hsteps.trans h⟩
abbrev vx_CVW (R : Room) (s : State) (args : Array Value) (own C : String) (index : Nat) (y : MethodName) (bytes : ByteArray) (maxL : Nat) (ret : Option FieldType) (hh : List (Nat × Nat × Nat × Nat)) (ws : List Cond) (rm : Room) (mc ms n : Nat) : Prop :=
  (rm.cells = mc ∧ rm.slots = ms ∧ rm.frames + 1 ≤ R.frames ∧ 8 + (maxL + 11) + rm.locals ≤ R.locals ∧ (∀ w ∈ ws, ∀ (a' : Array Value) (U : State), s.WarmedH U.vm → w.before a' U = true) ∧ Cond.codeWith y bytes maxL ret hh ∈ ws) ∧
  (Cond.codeWith y bytes maxL ret hh).before args s = true ∧ (Cond.initialized y.cls).before args s = true ∧ (y.cls ≠ "java/lang/invoke/MethodHandle" ∧ y.cls ≠ "java/lang/invoke/VarHandle") ∧
  (∀ sig, parseMethodDescriptor y.desc = some sig → n = sig.parameters.length) ∧ (Cond.methodLink own index y).before args s = true ∧ (Cond.instanceMethod y).before args s = true ∧ (Cond.selects C y y).before args s = true
theorem vx_cwVW {own C : String} {index maxL mc ms : Nat} {y : MethodName} {bytes : ByteArray} {ret : Option FieldType} {hh : List (Nat × Nat × Nat × Nat)} {Ts ws ws' : List Cond} {rm : Room} (n : Nat) (ht : ∀ w ∈ Ts, w.before args s = true) (hT : GoodIn Ts (wsV own index C y ws)) (hw : ws = Cond.codeWith y bytes maxL ret hh :: ws') (hrc : rm.cells = mc) (hrs : rm.slots = ms)
    (hd : y.cls = C ∧ y.cls ≠ "java/lang/invoke/MethodHandle" ∧ y.cls ≠ "java/lang/invoke/VarHandle" ∧ (parseMethodDescriptor y.desc).map (fun d => d.parameters.length) = some n) (hR : rm.frames + 1 ≤ R.frames ∧ 8 + (maxL + 11) + rm.locals ≤ R.locals) :
    vx_CVW R s args own C index y bytes maxL ret hh ws rm mc ms n := by
  obtain ⟨hC, hd⟩ := hd
  subst hC
  have ok : ∀ w ∈ wsV own index y.cls y ws, w.before args s = true := fun w h => ht w (hT w h).1
  have hG : GoodIn Ts ws := fun w h => hT w (by unfold wsV; exact List.mem_append_right _ h)
  have hc : Cond.codeWith y bytes maxL ret hh ∈ ws := by rw [hw]; exact List.mem_cons_self
  refine ⟨⟨hrc, hrs, hR.1, hR.2, pay_in ht hG, hc⟩, ht _ (hG _ hc).1, ok _ (by simp [wsV]), ⟨hd.1, hd.2.1⟩, fun sig h => ?_, ok _ (by simp [wsV]), ok _ (by simp [wsV]), ok _ (by simp [wsV])⟩
  have h2 := hd.2.2
  rw [h] at h2
  exact (Option.some.inj h2).symm
theorem vx_runVW {y : MethodName} {bytes cc : ByteArray} {maxL nL mc ms n index : Nat} {ret : Option FieldType} {hh : List (Nat × Nat × Nat × Nat)} {ws : List Cond} {rm : Room} {Pc : Array Value → State → Prop} {Qc : Array Value → State → Outcome → State → Prop} {free : Addr → Prop} {Ts : List Cond} {own C : String} {b : Addr} {As rest : List Value} {g : JFrame}
    (S : CallFix p m c cc nL s args Ts own) (hM : Met l y ws rm Pc Qc mc ms free) (cw : vx_CVW R s args own C index y bytes maxL ret hh ws rm mc ms n) (hp : PreV s H C b Pc As)
    (hg : g.method = m) (hn : As.length = n) (hsize : g.locals.size = nL) (hstack : g.stack = As.reverse ++ .ref b :: rest) (hW : 2 * g.monitorRoom + (rest.map fun v => v.category).sum ≤ 8) (hdg : decode cc g.pc = .ok (.invokevirtual index, 3)) (hf : cells + mc ≤ R.cells ∧ slots + ms ≤ R.slots) :
    va_Run p l e R s m args below meth c H locs cells slots mc ms g rest (Qc (Value.ref b :: As).toArray) free := by
  obtain ⟨⟨hrc, hrs, hfr, hlo, hws, hcw⟩, hcode, hini, hy, hlen, hl, hin, hse⟩ := cw
  have hK : Back l R p e below s args y 3 8 (PreOf R mc ms Pc) (PostOf Qc mc ms free) := va_backW (hh := hh) (bytes := bytes) (maxL := maxL) (ret := ret) hM hp.1 hrc hrs hfr hlo hws hcw (fun a' U hW => word_at hW (Or.inl (by first | rfl | simp [Cond.onTables, Cond.keeps, Cond.steady])) hini)
  obtain ⟨hx, hb, hml, ho, -⟩ := S
  obtain ⟨-, ⟨cellB, hcB, hoB, hclB⟩, hPc⟩ := hp
  intro T hT X
  obtain ⟨v, vm₁, ⟨U', l2, c2, s2⟩, hW₁, X', ⟨g', mk, t, L, e1, e2, hq, h1, hL, h2, h3⟩, st⟩ := vx_callVW X hx (C := C) (hh := hh) (bytes := bytes) (maxL := maxL) (ret := ret) ho hl hin hse hcode hy hK (by rw [hT]; exact hcB) hoB hclB hg (hsize.trans hml.symm) (argsL := As) (rest := rest) (fun sig h => hn.trans (hlen sig h)) hstack hW (by rw [hb]; exact hdg)
    (fun vm₁ hW₁ => ⟨hf.1, hf.2, hPc (T.setVm vm₁) hT hW₁⟩)
  dsimp only [Pt.U, Pt.locs, Pt.cells, Pt.slots] at X' e1 e2 h1 h2 h3 st
  subst h1; subst h2; subst h3
  exact ⟨v, (T.setVm vm₁).calling g' mk (Value.ref b :: As).toArray, t, U', L, hT, X', hL, e1, e2, hq, st⟩
section
variable {y : MethodName} {bytes cc : ByteArray} {maxL nL mc ms n index : Nat} {ret : Option FieldType} {ws : List Cond} {rm : Room} {Pc : Array Value → State → Prop} {Qc : Array Value → State → Outcome → State → Prop} {XC : String → State → State → Prop} {free : Addr → Prop} {Ts : List Cond} {own C : String} {b : Addr} {As rest : List Value} {g : JFrame}
theorem vx_runVX {hh : List (Nat × Nat × Nat × Nat)} (S : CallFix p m c cc nL s args Ts own) (hM : vx_Met l y ws rm Pc Qc XC mc ms free) (cw : vx_CVW R s args own C index y bytes maxL ret hh ws rm mc ms n) (hp : PreV s H C b Pc As)
    (hg : g.method = m) (hn : As.length = n) (hsize : g.locals.size = nL) (hstack : g.stack = As.reverse ++ .ref b :: rest) (hW : 2 * g.monitorRoom + (rest.map fun v => v.category).sum ≤ 8) (hdg : decode cc g.pc = .ok (.invokevirtual index, 3)) (hf : cells + mc ≤ R.cells ∧ slots + ms ≤ R.slots) :
    vx_Run p l e R s m args below meth c H locs cells slots mc ms g rest (Qc (Value.ref b :: As).toArray) XC free := by
  obtain ⟨⟨hrc, hrs, hfr, hlo, hws, hcw⟩, hcode, hini, hy, hlen, hl, hin, hse⟩ := cw
  have hK : vx_Back l R p e below s args y 3 8 (PreOf R mc ms Pc) (PostOf Qc mc ms free) (vx_Post XC mc ms free) := vx_backW (hh := hh) (bytes := bytes) (maxL := maxL) (ret := ret) hM hp.1 hrc hrs hfr hlo hws hcw (fun a' U hW => word_at hW (Or.inl (by first | rfl | simp [Cond.onTables, Cond.keeps, Cond.steady])) hini)
  obtain ⟨hx, hb, hml, ho, -⟩ := S
  obtain ⟨-, ⟨cellB, hcB, hoB, hclB⟩, hPc⟩ := hp
  intro T hT X
  rcases vx_callVX X hx (C := C) (hh := hh) (bytes := bytes) (maxL := maxL) (ret := ret) ho hl hin hse hcode hy hK (by rw [hT]; exact hcB) hoB hclB hg (hsize.trans hml.symm) (argsL := As) (rest := rest) (fun sig h => hn.trans (hlen sig h)) hstack hW (by rw [hb]; exact hdg)
    (fun vm₁ hW₁ => ⟨hf.1, hf.2, hPc (T.setVm vm₁) hT hW₁⟩) with ⟨v, vm₁, ⟨U', l2, c2, s2⟩, hW₁, X', ⟨g', mk, t, L, e1, e2, hq, h1, hL, h2, h3⟩, st⟩ | ⟨q, vm₁, ⟨U', l2, c2, s2⟩, hW₁, X', ⟨g', mk, t, L, E, ce, e1, e2, hq, hce, hcv, hcl, h1, hL, h2, h3⟩, st⟩
  · dsimp only [Pt.U, Pt.locs, Pt.cells, Pt.slots] at X' e1 e2 h1 h2 h3 st
    subst h1; subst h2; subst h3
    exact Or.inl ⟨v, (T.setVm vm₁).calling g' mk (Value.ref b :: As).toArray, t, U', L, hT, X', hL, e1, e2, hq, st⟩
  · dsimp only [Pt.U, Pt.locs, Pt.cells, Pt.slots] at X' e1 e2 h1 h2 h3 st hcl
    subst h1; subst h2; subst h3
    exact Or.inr ⟨q, (T.setVm vm₁).calling g' mk (Value.ref b :: As).toArray, t, U', L, E, ce, hT, X', hL, e1, e2, hq, hce, hcv, vx_cls hW₁ hcl, st⟩
theorem vx_runSX {hh : List (Nat × Nat × Nat × Nat)} (S : CallFix p m c cc nL s args Ts own) (hM : vx_Met l y ws rm Pc Qc XC mc ms free) (cw : vx_CSW R s args own index y bytes maxL ret hh ws rm mc ms n) (hp : PreS s H Pc As)
    (hg : g.method = m) (hn : As.length = n) (hsize : g.locals.size = nL) (hstack : g.stack = As.reverse ++ rest) (hW : 2 * g.monitorRoom + (rest.map fun v => v.category).sum ≤ 8) (hdg : decode cc g.pc = .ok (.invokestatic index, 3)) (hf : cells + mc ≤ R.cells ∧ slots + ms ≤ R.slots) :
    vx_Run p l e R s m args below meth c H locs cells slots mc ms g rest (Qc As.toArray) XC free := by
  obtain ⟨⟨hrc, hrs, hfr, hlo, hws, hcw⟩, hcode, hini, hy, hlen, hl, hstt⟩ := cw
  have hK : vx_Back l R p e below s args y 3 8 (PreOf R mc ms Pc) (PostOf Qc mc ms free) (vx_Post XC mc ms free) := vx_backW (hh := hh) (bytes := bytes) (maxL := maxL) (ret := ret) hM hp.1 hrc hrs hfr hlo hws hcw (fun a' U hW => word_at hW (Or.inl (by first | rfl | simp [Cond.onTables, Cond.keeps, Cond.steady])) hini)
  obtain ⟨hx, hb, hml, ho, -⟩ := S
  intro T hT X
  rcases vx_callSX X hx (hh := hh) (bytes := bytes) (maxL := maxL) (ret := ret) ho hl hstt hini hcode hy hK hg (hsize.trans hml.symm) (argsL := As) (rest := rest) (fun sig h => hn.trans (hlen sig h)) hstack hW (by rw [hb]; exact hdg)
    (fun vm₁ hW₁ => ⟨hf.1, hf.2, hp.2 (T.setVm vm₁) hT hW₁⟩) with ⟨v, vm₁, ⟨U', l2, c2, s2⟩, hW₁, X', ⟨g', mk, t, L, e1, e2, hq, h1, hL, h2, h3⟩, st⟩ | ⟨q, vm₁, ⟨U', l2, c2, s2⟩, hW₁, X', ⟨g', mk, t, L, E, ce, e1, e2, hq, hce, hcv, hcl, h1, hL, h2, h3⟩, st⟩
  · dsimp only [Pt.U, Pt.locs, Pt.cells, Pt.slots] at X' e1 e2 h1 h2 h3 st
    subst h1; subst h2; subst h3
    exact Or.inl ⟨v, (T.setVm vm₁).calling g' mk As.toArray, t, U', L, hT, X', hL, e1, e2, hq, st⟩
  · dsimp only [Pt.U, Pt.locs, Pt.cells, Pt.slots] at X' e1 e2 h1 h2 h3 st hcl
    subst h1; subst h2; subst h3
    exact Or.inr ⟨q, (T.setVm vm₁).calling g' mk As.toArray, t, U', L, E, ce, hT, X', hL, e1, e2, hq, hce, hcv, vx_cls hW₁ hcl, st⟩
end
end VXH
theorem vx_ofWH {l : Launch} {y : MethodName} {ws ws' : List Cond} {rm : Room} {Pc : Array Value → State → Prop} {Qc : Array Value → State → Outcome → State → Prop} {XC : String → State → State → Prop} {mc ms : Nat} {free : Addr → Prop} {cc : ByteArray} {maxL : Nat} {ret : Option FieldType} {hh : List (Nat × Nat × Nat × Nat)}
    (hy : plainName y.cls = true) (hw : ws = Cond.codeWith y cc maxL ret hh :: ws')
    (body : ∀ p e s m args below meth c s₁, BodyLoose p l y (headSpec ws rm) cc maxL ret e s m args below meth c s₁ → c.maxLocals = maxL → Pc args s →
      W p l e (headSpec ws rm).room s m args below meth c s.heap [] 0 0 (vx_MQ below Qc XC args s mc ms free) (entryFrame m args maxL)) : vx_Met l y ws rm Pc Qc XC mc ms free := by
  refine MetFree.of_bodyS (code := cc) (maxLocals := maxL) (ret := ret) hy ?_ ?_
  · intro args s m h hn
    obtain ⟨m9, meth, c, hn9, h1, h2, h3, h4, -, h5, h6, -⟩ := Cond.codeWith_spec (atoms_spec (ws := ws) h _ (by rw [hw]; exact List.mem_cons_self))
    cases hn.symm.trans hn9
    exact ⟨meth, c, h1, h2, h3, h4, h5, h6⟩
  · intro p e s m args below meth c s₁ B hml hP _
    have hh0 : s₁.heap = s.heap := by rw [B.state]; rfl
    obtain ⟨t, a1, o, b1, b2, b3⟩ := body p e s m args below meth c s₁ B hml hP s₁ hh0 (Stand.of_body B)
    exact ⟨t, o, a1, b1, b2, b3⟩
/-! ===== END ===== -/

/-! ===== BEGIN a constructor that throws (launches without stack traces) ===== -/
section VXIA
variable {p : Program} {l : Launch} {e : Env} {R : Room} {s : State} {m : MethodId} {args : Array Value} {below : List Frame} {meth : Method} {c : Code} {T : State} {locs : List Loc} {cells slots : Nat}
theorem vx_callI (X : Stand p l e R s m args below meth c T locs cells slots) (hexec : p.tables.exec = Jvm.exec) {own : String} {index : Nat} {y : MethodName} {bytes : ByteArray} {maxL : Nat}
    (hown : s.vm.findClass own = some m.cls) (hy1 : y.name = "<init>") (hlink : (Cond.methodLink own index y).before args s = true) (hinst : (Cond.instanceMethod y).before args s = true)
    (hcode : (Cond.code y bytes maxL none).before args s = true) (hy : y.cls ≠ "java/lang/invoke/MethodHandle" ∧ y.cls ≠ "java/lang/invoke/VarHandle")
    {W9 : Nat} {Pre : Pt → Array Value → Prop} {Post : Pt → Array Value → Option Value → Pt → Prop} {PostX : Pt → Array Value → Addr → Pt → Prop} (hK : vx_Back l R p e below s args y 3 W9 Pre Post PostX)
    {g : JFrame} (hg : g.method = m) (hsize : g.locals.size = c.maxLocals) {a : Addr} {argsL rest : List Value} (hlen : ∀ sig, parseMethodDescriptor y.desc = some sig → argsL.length = sig.parameters.length)
    (hstack : g.stack = argsL.reverse ++ .ref a :: rest) (hW : 2 * g.monitorRoom + (rest.map fun v => v.category).sum ≤ W9) (hdg : decode c.code g.pc = .ok (.invokespecial index, 3))
    (hpre : ∀ vm₁, s.WarmedH vm₁ → Pre ⟨T.setVm vm₁, locs, cells, slots⟩ (Value.ref a :: argsL).toArray) :
    (∃ (v : Option Value) (vm₁ : Vm) (B : Pt), s.WarmedH vm₁ ∧ Stand p l e R s m args below meth c B.U B.locs B.cells B.slots ∧ Post ⟨T.setVm vm₁, locs, cells, slots⟩ (Value.ref a :: argsL).toArray v B ∧
      ∀ target, Steps p.tables e below (B.U.setTop { g with pc := g.pc + 3, stack := v.toList ++ rest }) target → Steps p.tables e below (T.setTop g) target) ∨
    (∃ (q : Addr) (vm₁ : Vm) (B : Pt), s.WarmedH vm₁ ∧ Stand p l e R s m args below meth c B.U B.locs B.cells B.slots ∧ PostX ⟨T.setVm vm₁, locs, cells, slots⟩ (Value.ref a :: argsL).toArray q B ∧
      Steps p.tables e below (T.setTop g) ((B.U.setTop { g with stack := rest }).pushFrame (.throwing q))) := by
  subst hg
  have hpl : e.platform.magicAccessors = ({} : Platform).magicAccessors := by rw [X.admits.platform]
  obtain ⟨mk, methM, cM, kP, vm₁, hnamed, hmethM, hcodeM, -, hlocalsM, -, hkP, -, hW₁, hstep₁⟩ := Steps.initColdArgs (e := e) X.here hexec X.warmed hpl hown hy1 hy hlink hinst hcode (f := g) rfl hlen hstack hdg
  have X₁ := X.noted hW₁
  rcases hK g.method meth c ⟨T.setVm vm₁, locs, cells, slots⟩ { g with stack := rest } (.invokespecial index) mk (Value.ref a :: argsL).toArray X₁ rfl hsize hdg hW (X₁.named hnamed) (hpre vm₁ X₁.warmed) with ⟨v, B, X', hpost, hsteps⟩ | ⟨q, B, X', hpost, hsteps⟩
  · exact Or.inl ⟨v, vm₁, B, X₁.warmed, X', hpost, fun target h => hstep₁ _ fun acts => by rw [doInvoke_state]; exact hsteps.trans h⟩
  · exact Or.inr ⟨q, vm₁, B, X₁.warmed, X', hpost, hstep₁ _ fun acts => by rw [doInvoke_state]; exact hsteps⟩
end VXIA
section VXIB
variable {p : Program} {l : Launch} {e : Env} {R : Room} {s : State} {m : MethodId} {args : Array Value} {below : List Frame} {meth : Method} {c : Code} {H : Heap} {locs : List Loc} {cells slots : Nat}
variable {y : MethodName} {bytes cc : ByteArray} {maxL nL mc ms n index : Nat} {ret : Option FieldType} {ws : List Cond} {rm : Room} {Pc : Array Value → State → Prop} {Qc : Array Value → State → Outcome → State → Prop} {XC : String → State → State → Prop} {free : Addr → Prop} {Ts : List Cond} {own C : String} {b : Addr} {As rest : List Value} {g : JFrame}
theorem vx_runI (S : CallFix p m c cc nL s args Ts own) (hM : vx_Met l y ws rm Pc Qc XC mc ms free) (cw : CallB R s args own index y bytes maxL none ws rm mc ms n ∧ y.name = "<init>" ∧ (Cond.instanceMethod y).before args s = true) (hp : PreS s H Pc (.ref b :: As))
    (hg : g.method = m) (hn : As.length = n) (hsize : g.locals.size = nL) (hstack : g.stack = As.reverse ++ .ref b :: rest) (hW : 2 * g.monitorRoom + (rest.map fun v => v.category).sum ≤ 8) (hdg : decode cc g.pc = .ok (.invokespecial index, 3)) (hf : cells + mc ≤ R.cells ∧ slots + ms ≤ R.slots) :
    vx_Run p l e R s m args below meth c H locs cells slots mc ms g rest (Qc (Value.ref b :: As).toArray) XC free := by
  have hK : vx_Back l R p e below s args y 3 8 (PreOf R mc ms Pc) (PostOf Qc mc ms free) (vx_Post XC mc ms free) := vx_callBack cw.1 hM hp.1
  obtain ⟨⟨-, -, -, -, -, -, hcode, -, hy, hlen, hl⟩, hy1, hin⟩ := cw
  obtain ⟨hx, hb, hml, ho, -⟩ := S
  have hPc := hp.2
  intro T hT X
  rcases vx_callI X hx (bytes := bytes) (maxL := maxL) ho hy1 hl hin hcode hy hK hg (hsize.trans hml.symm) (a := b) (argsL := As) (rest := rest) (fun sig h => hn.trans (hlen sig h)) hstack hW (by rw [hb]; exact hdg)
    (fun vm₁ hW₁ => ⟨hf.1, hf.2, hPc (T.setVm vm₁) hT hW₁⟩) with ⟨v, vm₁, ⟨U', l2, c2, s2⟩, hW₁, X', ⟨g', mk, t, L, e1, e2, hq, h1, hL, h2, h3⟩, st⟩ | ⟨q, vm₁, ⟨U', l2, c2, s2⟩, hW₁, X', ⟨g', mk, t, L, E, ce, e1, e2, hq, hce, hcv, hcl, h1, hL, h2, h3⟩, st⟩
  · dsimp only [Pt.U, Pt.locs, Pt.cells, Pt.slots] at X' e1 e2 h1 h2 h3 st
    subst h1; subst h2; subst h3
    exact Or.inl ⟨v, (T.setVm vm₁).calling g' mk (Value.ref b :: As).toArray, t, U', L, hT, X', hL, e1, e2, hq, st⟩
  · dsimp only [Pt.U, Pt.locs, Pt.cells, Pt.slots] at X' e1 e2 h1 h2 h3 st hcl
    subst h1; subst h2; subst h3
    exact Or.inr ⟨q, (T.setVm vm₁).calling g' mk (Value.ref b :: As).toArray, t, U', L, E, ce, hT, X', hL, e1, e2, hq, hce, hcv, vx_cls hW₁ hcl, st⟩
end VXIB
/-! ===== END ===== -/
/-! ===== BEGIN a private method of a nest mate that may throw (follows va_callVN, va_callSN, va_runVN, va_runSN) ===== -/
section
variable {p : Program} {l : Launch} {e : Env} {R : Room} {s : State} {m : MethodId} {args : Array Value} {below : List Frame} {meth : Method} {c : Code} {H : Heap} {locs : List Loc} {cells slots : Nat}
variable {T : State}
theorem vx_callVN (X : Stand p l e R s m args below meth c T locs cells slots) (hexec : p.tables.exec = Jvm.exec) {own C : String} {index : Nat} {host : String} {y : MethodName} {bytes : ByteArray} {maxL : Nat} {ret : Option FieldType}
    (hown : s.vm.findClass own = some m.cls) (hlink : (Cond.methodLinkNest own index y host).before args s = true) (hinst : (Cond.instanceMethod y).before args s = true) (hsel : (Cond.selects C y y).before args s = true)
    (hcode : (Cond.code y bytes maxL ret).before args s = true) (hy : y.cls ≠ "java/lang/invoke/MethodHandle" ∧ y.cls ≠ "java/lang/invoke/VarHandle")
    {W : Nat} {Pre : Pt → Array Value → Prop} {Post : Pt → Array Value → Option Value → Pt → Prop} {PostX : Pt → Array Value → Addr → Pt → Prop} (hK : vx_Back l R p e below s args y 3 W Pre Post PostX)
    {b : Addr} {cellB : Cell} (hcell : T.heap[b]? = some cellB) (hobj : cellB.vm.isStatics = false) (hcls : s.vm.findClass C = some cellB.cls)
    {g : JFrame} (hg : g.method = m) (hsize : g.locals.size = c.maxLocals) {argsL rest : List Value} (hlen : ∀ sig, parseMethodDescriptor y.desc = some sig → argsL.length = sig.parameters.length)
    (hstack : g.stack = argsL.reverse ++ .ref b :: rest) (hW : 2 * g.monitorRoom + (rest.map fun v => v.category).sum ≤ W) (hdg : decode c.code g.pc = .ok (.invokevirtual index, 3))
    (hpre : ∀ vm₁, s.WarmedH vm₁ → Pre ⟨T.setVm vm₁, locs, cells, slots⟩ (Value.ref b :: argsL).toArray) :
    (∃ (v : Option Value) (vm₁ : Vm) (B : Pt), s.WarmedH vm₁ ∧ Stand p l e R s m args below meth c B.U B.locs B.cells B.slots ∧ Post ⟨T.setVm vm₁, locs, cells, slots⟩ (Value.ref b :: argsL).toArray v B ∧
      ∀ target, Steps p.tables e below (B.U.setTop { g with pc := g.pc + 3, stack := v.toList ++ rest }) target → Steps p.tables e below (T.setTop g) target) ∨
    (∃ (q : Addr) (vm₁ : Vm) (B : Pt), s.WarmedH vm₁ ∧ Stand p l e R s m args below meth c B.U B.locs B.cells B.slots ∧ PostX ⟨T.setVm vm₁, locs, cells, slots⟩ (Value.ref b :: argsL).toArray q B ∧
      Steps p.tables e below (T.setTop g) ((B.U.setTop { g with stack := rest }).pushFrame (.throwing q))) := by
  obtain ⟨mk, methM, hnamed, hmethM, hstM, habM⟩ := Cond.instanceMethod_spec hinst
  obtain ⟨methM', cM, hmethM', -, -, -, -, -, -, hsigM⟩ := Cond.code_spec hnamed hcode
  cases hmethM.symm.trans hmethM'
  obtain ⟨c2, r2, m2, q1, q2, q3, q4, kP, hkP, hkPi⟩ := Cond.selects_spec hsel
  cases hcls.symm.trans q1
  cases (State.methodFound?_of_named hnamed hy).symm.trans q2
  cases hnamed.symm.trans q3
  have hselP : selectMethod e.platform s.vm cellB.cls mk = .method mk := by rw [Launch.admits_selectMethod X.admits]; exact q4
  obtain ⟨vm₁, X₁, hstep₁⟩ := X.invokevirtualNest hexec hown hlink hnamed hmethM hstM hkP hkPi hy (a := b) (cell := cellB) hcell
    (fun z h => by rw [h] at hobj; cases hobj) hselP hmethM habM hkP hkPi (g := g) hg (argsL := argsL) (rest := rest) (hlen _ hsigM) hstack hdg
  rcases hK m meth c ⟨T.setVm vm₁, locs, cells, slots⟩ { g with stack := rest } (.invokevirtual index) mk (Value.ref b :: argsL).toArray X₁ hg hsize hdg hW (X₁.named hnamed) (hpre vm₁ X₁.warmed) with ⟨v, B, X', hpost, hsteps⟩ | ⟨q, B, X', hpost, hsteps⟩
  · exact Or.inl ⟨v, vm₁, B, X₁.warmed, X', hpost, fun target h => hstep₁ _ fun acts => by rw [doInvoke_state]; exact hsteps.trans h⟩
  · exact Or.inr ⟨q, vm₁, B, X₁.warmed, X', hpost, hstep₁ _ fun acts => by rw [doInvoke_state]; exact hsteps⟩
theorem vx_callSN (X : Stand p l e R s m args below meth c T locs cells slots) (hexec : p.tables.exec = Jvm.exec) {own : String} {index : Nat} {host : String} {y : MethodName} {bytes : ByteArray} {maxL : Nat} {ret : Option FieldType}
    (hown : s.vm.findClass own = some m.cls) (hlink : (Cond.methodLinkNest own index y host).before args s = true) (hstat : (Cond.static y).before args s = true) (hinit : (Cond.initialized y.cls).before args s = true)
    (hcode : (Cond.code y bytes maxL ret).before args s = true) (hy : y.cls ≠ "java/lang/invoke/MethodHandle" ∧ y.cls ≠ "java/lang/invoke/VarHandle")
    {W : Nat} {Pre : Pt → Array Value → Prop} {Post : Pt → Array Value → Option Value → Pt → Prop} {PostX : Pt → Array Value → Addr → Pt → Prop} (hK : vx_Back l R p e below s args y 3 W Pre Post PostX)
    {g : JFrame} (hg : g.method = m) (hsize : g.locals.size = c.maxLocals) {argsL rest : List Value} (hlen : ∀ sig, parseMethodDescriptor y.desc = some sig → argsL.length = sig.parameters.length)
    (hstack : g.stack = argsL.reverse ++ rest) (hW : 2 * g.monitorRoom + (rest.map fun v => v.category).sum ≤ W) (hdg : decode c.code g.pc = .ok (.invokestatic index, 3))
    (hpre : ∀ vm₁, s.WarmedH vm₁ → Pre ⟨T.setVm vm₁, locs, cells, slots⟩ argsL.toArray) :
    (∃ (v : Option Value) (vm₁ : Vm) (B : Pt), s.WarmedH vm₁ ∧ Stand p l e R s m args below meth c B.U B.locs B.cells B.slots ∧ Post ⟨T.setVm vm₁, locs, cells, slots⟩ argsL.toArray v B ∧
      ∀ target, Steps p.tables e below (B.U.setTop { g with pc := g.pc + 3, stack := v.toList ++ rest }) target → Steps p.tables e below (T.setTop g) target) ∨
    (∃ (q : Addr) (vm₁ : Vm) (B : Pt), s.WarmedH vm₁ ∧ Stand p l e R s m args below meth c B.U B.locs B.cells B.slots ∧ PostX ⟨T.setVm vm₁, locs, cells, slots⟩ argsL.toArray q B ∧
      Steps p.tables e below (T.setTop g) ((B.U.setTop { g with stack := rest }).pushFrame (.throwing q))) := by
  obtain ⟨mk, hnamed⟩ := Cond.code_named hcode
  obtain ⟨methM, cM, hmethM, -, -, -, -, -, -, hsigM⟩ := Cond.code_spec hnamed hcode
  have hstatic : methM.isStatic = true := Cond.static_spec hnamed hmethM hstat
  obtain ⟨kP, hkP, -⟩ := className_of_methodNamed hnamed
  have hinitP : kP.init = .initialized := Cond.initialized_spec (findClass_of_methodNamed hnamed) hkP hinit
  obtain ⟨vm₁, X₁, hstep₁⟩ := X.invokestaticNest hexec hown hlink hnamed hmethM hstatic hkP hinitP hy (g := g) hg (argsL := argsL) (rest := rest) (hlen _ hsigM) hstack hdg
  rcases hK m meth c ⟨T.setVm vm₁, locs, cells, slots⟩ { g with stack := rest } (.invokestatic index) mk argsL.toArray X₁ hg hsize hdg hW (X₁.named hnamed) (hpre vm₁ X₁.warmed) with ⟨v, B, X', hpost, hsteps⟩ | ⟨q, B, X', hpost, hsteps⟩
  · exact Or.inl ⟨v, vm₁, B, X₁.warmed, X', hpost, fun target h => hstep₁ _ fun acts => by rw [doInvoke_state]; exact hsteps.trans h⟩
  · exact Or.inr ⟨q, vm₁, B, X₁.warmed, X', hpost, hstep₁ _ fun acts => by rw [doInvoke_state]; exact hsteps⟩
theorem vx_runVN {y : MethodName} {bytes cc : ByteArray} {maxL nL mc ms n index : Nat} {ret : Option FieldType} {ws : List Cond} {rm : Room} {Pc : Array Value → State → Prop} {Qc : Array Value → State → Outcome → State → Prop} {XC : String → State → State → Prop} {free : Addr → Prop} {Ts : List Cond} {own C host : String} {b : Addr} {As rest : List Value} {g : JFrame}
    (S : CallFix p m c cc nL s args Ts own) (hM : vx_Met l y ws rm Pc Qc XC mc ms free) (cw : va_CN R s args own index y host bytes maxL ret ws rm mc ms n ∧ (Cond.instanceMethod y).before args s = true ∧ (Cond.selects C y y).before args s = true) (hp : PreV s H C b Pc As)
    (hg : g.method = m) (hn : As.length = n) (hsize : g.locals.size = nL) (hstack : g.stack = As.reverse ++ .ref b :: rest) (hW : 2 * g.monitorRoom + (rest.map fun v => v.category).sum ≤ 8) (hdg : decode cc g.pc = .ok (.invokevirtual index, 3)) (hf : cells + mc ≤ R.cells ∧ slots + ms ≤ R.slots) :
    vx_Run p l e R s m args below meth c H locs cells slots mc ms g rest (Qc (Value.ref b :: As).toArray) XC free := by
  obtain ⟨⟨⟨hrc, hrs, hfr, hlo, hws, hcw⟩, hcode, hini, hy, hlen, hl⟩, hx1, hx2⟩ := cw
  have hK : vx_Back l R p e below s args y 3 8 (PreOf R mc ms Pc) (PostOf Qc mc ms free) (vx_Post XC mc ms free) := vx_back (bytes := bytes) (maxL := maxL) (ret := ret) hM hp.1 hrc hrs hfr hlo hws hcw (fun a' U hW => word_at hW (Or.inl (by first | rfl | simp [Cond.onTables, Cond.keeps, Cond.steady])) hini)
  obtain ⟨hx, hb, hml, ho, -⟩ := S
  obtain ⟨-, ⟨cellB, hcB, hoB, hclB⟩, hPc⟩ := hp
  intro T hT X
  rcases vx_callVN X hx (C := C) (bytes := bytes) (maxL := maxL) (ret := ret) ho hl hx1 hx2 hcode hy hK (by rw [hT]; exact hcB) hoB hclB hg (hsize.trans hml.symm) (argsL := As) (rest := rest) (fun sig h => hn.trans (hlen sig h)) hstack hW (by rw [hb]; exact hdg)
    (fun vm₁ hW₁ => ⟨hf.1, hf.2, hPc (T.setVm vm₁) hT hW₁⟩) with ⟨v, vm₁, ⟨U', l2, c2, s2⟩, hW₁, X', ⟨g', mk, t, L, e1, e2, hq, h1, hL, h2, h3⟩, st⟩ | ⟨q, vm₁, ⟨U', l2, c2, s2⟩, hW₁, X', ⟨g', mk, t, L, E, ce, e1, e2, hq, hce, hcv, hcl, h1, hL, h2, h3⟩, st⟩
  · dsimp only [Pt.U, Pt.locs, Pt.cells, Pt.slots] at X' e1 e2 h1 h2 h3 st
    subst h1; subst h2; subst h3
    exact Or.inl ⟨v, (T.setVm vm₁).calling g' mk (Value.ref b :: As).toArray, t, U', L, hT, X', hL, e1, e2, hq, st⟩
  · dsimp only [Pt.U, Pt.locs, Pt.cells, Pt.slots] at X' e1 e2 h1 h2 h3 st hcl
    subst h1; subst h2; subst h3
    exact Or.inr ⟨q, (T.setVm vm₁).calling g' mk (Value.ref b :: As).toArray, t, U', L, E, ce, hT, X', hL, e1, e2, hq, hce, hcv, vx_cls hW₁ hcl, st⟩
theorem vx_runSN {y : MethodName} {bytes cc : ByteArray} {maxL nL mc ms n index : Nat} {ret : Option FieldType} {ws : List Cond} {rm : Room} {Pc : Array Value → State → Prop} {Qc : Array Value → State → Outcome → State → Prop} {XC : String → State → State → Prop} {free : Addr → Prop} {Ts : List Cond} {own host : String} {As rest : List Value} {g : JFrame}
    (S : CallFix p m c cc nL s args Ts own) (hM : vx_Met l y ws rm Pc Qc XC mc ms free) (cw : va_CN R s args own index y host bytes maxL ret ws rm mc ms n ∧ (Cond.static y).before args s = true ∧ True) (hp : PreS s H Pc As)
    (hg : g.method = m) (hn : As.length = n) (hsize : g.locals.size = nL) (hstack : g.stack = As.reverse ++ rest) (hW : 2 * g.monitorRoom + (rest.map fun v => v.category).sum ≤ 8) (hdg : decode cc g.pc = .ok (.invokestatic index, 3)) (hf : cells + mc ≤ R.cells ∧ slots + ms ≤ R.slots) :
    vx_Run p l e R s m args below meth c H locs cells slots mc ms g rest (Qc As.toArray) XC free := by
  obtain ⟨⟨⟨hrc, hrs, hfr, hlo, hws, hcw⟩, hcode, hini, hy, hlen, hl⟩, hx1, hx2⟩ := cw
  have hK : vx_Back l R p e below s args y 3 8 (PreOf R mc ms Pc) (PostOf Qc mc ms free) (vx_Post XC mc ms free) := vx_back (bytes := bytes) (maxL := maxL) (ret := ret) hM hp.1 hrc hrs hfr hlo hws hcw (fun a' U hW => word_at hW (Or.inl (by first | rfl | simp [Cond.onTables, Cond.keeps, Cond.steady])) hini)
  obtain ⟨hx, hb, hml, ho, -⟩ := S
  have hPc := hp.2
  intro T hT X
  rcases vx_callSN X hx (bytes := bytes) (maxL := maxL) (ret := ret) ho hl hx1 hini hcode hy hK hg (hsize.trans hml.symm) (argsL := As) (rest := rest) (fun sig h => hn.trans (hlen sig h)) hstack hW (by rw [hb]; exact hdg)
    (fun vm₁ hW₁ => ⟨hf.1, hf.2, hPc (T.setVm vm₁) hT hW₁⟩) with ⟨v, vm₁, ⟨U', l2, c2, s2⟩, hW₁, X', ⟨g', mk, t, L, e1, e2, hq, h1, hL, h2, h3⟩, st⟩ | ⟨q, vm₁, ⟨U', l2, c2, s2⟩, hW₁, X', ⟨g', mk, t, L, E, ce, e1, e2, hq, hce, hcv, hcl, h1, hL, h2, h3⟩, st⟩
  · dsimp only [Pt.U, Pt.locs, Pt.cells, Pt.slots] at X' e1 e2 h1 h2 h3 st
    subst h1; subst h2; subst h3
    exact Or.inl ⟨v, (T.setVm vm₁).calling g' mk As.toArray, t, U', L, hT, X', hL, e1, e2, hq, st⟩
  · dsimp only [Pt.U, Pt.locs, Pt.cells, Pt.slots] at X' e1 e2 h1 h2 h3 st hcl
    subst h1; subst h2; subst h3
    exact Or.inr ⟨q, (T.setVm vm₁).calling g' mk As.toArray, t, U', L, E, ce, hT, X', hL, e1, e2, hq, hce, hcv, vx_cls hW₁ hcl, st⟩
end
/-! ===== END ===== -/
end
section
/-! ===== BEGIN printed: names, fields, word lists, decode rows ===== -/
def RX0 : String := "PressHall$Advert"
def TX0 : u_T := fun k => match k with
  | 0 => ("PressHall$Advert", "category", "I", true)
  | 1 => ("PressHall$Advert", "width", "I", true)
  | 2 => ("PressHall$Advert", "height", "I", true)
  | 3 => ("PressHall$Advert", "colour", "Z", true)
  | 4 => ("PressHall$Advert", "section", "I", true)
  | 5 => ("PressHall$Advert", "zone", "I", true)
  | 6 => ("PressHall$Advert", "page", "I", false)
  | _ => ("PressHall$Advert", "first", "I", false)
def tyX0 : Nat → FieldType := fun k => match k with
  | 0 => .int
  | 1 => .int
  | 2 => .int
  | 3 => .boolean
  | 4 => .int
  | 5 => .int
  | 6 => .int
  | _ => .int
abbrev wsX00 : List Cond := u_ws RX0 TX0 8
theorem nmX0 : ∀ a, a < 8 → ∀ b, b < 8 → a ≠ b → (TX0 a).2.1 ≠ (TX0 b).2.1 := by decide +kernel
theorem tyX0_ok : ∀ k, k < 8 → parseFieldDescriptor (TX0 k).2.2.1 = some (tyX0 k) := by decide +kernel
abbrev cX0_init : ByteArray := prog_2_method_1_code
def yX0_init : MethodName := ⟨RX0, "<init>", "(IIIZII)V"⟩
abbrev cX0_lowestPage : ByteArray := prog_2_method_2_code
def yX0_lowestPage : MethodName := ⟨RX0, "lowestPage", "()I"⟩
abbrev cX0_highestPage : ByteArray := prog_2_method_3_code
def yX0_highestPage : MethodName := ⟨RX0, "highestPage", "()I"⟩
abbrev cX0_isPlaced : ByteArray := prog_2_method_4_code
def yX0_isPlaced : MethodName := ⟨RX0, "isPlaced", "()Z"⟩
abbrev cX0_putAt : ByteArray := prog_2_method_5_code
def yX0_putAt : MethodName := ⟨RX0, "putAt", "(II)V"⟩
abbrev cX0_whereItIs : ByteArray := prog_2_method_6_code
def yX0_whereItIs : MethodName := ⟨RX0, "whereItIs", "()I"⟩
def RX1 : String := "PressHall$Archive"
def TX1 : u_T := fun k => match k with
  | 0 => ("PressHall$Archive", "cells", "[[I", true)
  | 1 => ("PressHall$Archive", "minutes", "[I", true)
  | 2 => ("PressHall$Archive", "count", "I", false)
  | 3 => ("PressHall$Archive", "owed", "[I", true)
  | _ => ("PressHall$Archive", "owedCount", "I", false)
def tyX1 : Nat → FieldType := fun k => match k with
  | 0 => .array (.array .int)
  | 1 => .array .int
  | 2 => .int
  | 3 => .array .int
  | _ => .int
abbrev wsX10 : List Cond := u_ws RX1 TX1 5
theorem nmX1 : ∀ a, a < 5 → ∀ b, b < 5 → a ≠ b → (TX1 a).2.1 ≠ (TX1 b).2.1 := by decide +kernel
theorem tyX1_ok : ∀ k, k < 5 → parseFieldDescriptor (TX1 k).2.2.1 = some (tyX1 k) := by decide +kernel
abbrev cX1_init : ByteArray := prog_3_method_1_code
def yX1_init : MethodName := ⟨RX1, "<init>", "()V"⟩
abbrev cX1_keep : ByteArray := prog_3_method_2_code
def yX1_keep : MethodName := ⟨RX1, "keep", "(LPressHall$Sheets;I)V"⟩
abbrev cX1_isKept : ByteArray := prog_3_method_3_code
def yX1_isKept : MethodName := ⟨RX1, "isKept", "(I)Z"⟩
abbrev cX1_at : ByteArray := prog_3_method_4_code
def yX1_at : MethodName := ⟨RX1, "at", "(III)I"⟩
abbrev cX1_has : ByteArray := prog_3_method_6_code
def yX1_has : MethodName := ⟨RX1, "has", "(II)Z"⟩
abbrev cX1_owes : ByteArray := prog_3_method_7_code
def yX1_owes : MethodName := ⟨RX1, "owes", "(I)Z"⟩
abbrev cX1_addOwed : ByteArray := prog_3_method_8_code
def yX1_addOwed : MethodName := ⟨RX1, "addOwed", "(I)V"⟩
abbrev cX1_longestOwed : ByteArray := prog_3_method_9_code
def yX1_longestOwed : MethodName := ⟨RX1, "longestOwed", "()I"⟩
abbrev cX1_dropLongestOwed : ByteArray := prog_3_method_10_code
def yX1_dropLongestOwed : MethodName := ⟨RX1, "dropLongestOwed", "()V"⟩
def RX2 : String := "PressHall$Headline"
def TX2 : u_T := fun k => match k with
  | 0 => ("PressHall$Headline", "longs", "[I", true)
  | 1 => ("PressHall$Headline", "shorts", "[I", true)
  | _ => ("PressHall$Headline", "count", "I", false)
def tyX2 : Nat → FieldType := fun k => match k with
  | 0 => .array .int
  | 1 => .array .int
  | _ => .int
abbrev wsX20 : List Cond := u_ws RX2 TX2 3
theorem nmX2 : ∀ a, a < 3 → ∀ b, b < 3 → a ≠ b → (TX2 a).2.1 ≠ (TX2 b).2.1 := by decide +kernel
theorem tyX2_ok : ∀ k, k < 3 → parseFieldDescriptor (TX2 k).2.2.1 = some (tyX2 k) := by decide +kernel
abbrev cX2_init : ByteArray := prog_4_method_1_code
def yX2_init : MethodName := ⟨RX2, "<init>", "()V"⟩
def RX3 : String := "PressHall$Layout"
def TX3 : u_T := fun k => match k with
  | 0 => ("PressHall$Layout", "sheets", "LPressHall$Sheets;", true)
  | 1 => ("PressHall$Layout", "best", "LPressHall$Way;", true)
  | 2 => ("PressHall$Layout", "trial", "LPressHall$Way;", true)
  | 3 => ("PressHall$Layout", "going", "I", false)
  | 4 => ("PressHall$Layout", "costless", "I", false)
  | _ => ("PressHall$Layout", "bestCost", "I", false)
def tyX3 : Nat → FieldType := fun k => match k with
  | 0 => .object "PressHall$Sheets"
  | 1 => .object "PressHall$Way"
  | 2 => .object "PressHall$Way"
  | 3 => .int
  | 4 => .int
  | _ => .int
abbrev wsX30 : List Cond := u_ws RX3 TX3 6
theorem nmX3 : ∀ a, a < 6 → ∀ b, b < 6 → a ≠ b → (TX3 a).2.1 ≠ (TX3 b).2.1 := by decide +kernel
theorem tyX3_ok : ∀ k, k < 6 → parseFieldDescriptor (TX3 k).2.2.1 = some (tyX3 k) := by decide +kernel
abbrev cX3_init : ByteArray := prog_5_method_1_code
def yX3_init : MethodName := ⟨RX3, "<init>", "(LPressHall$Sheets;)V"⟩
abbrev cX3_find : ByteArray := prog_5_method_2_code
def yX3_find : MethodName := ⟨RX3, "find", "(LPressHall$Story;II)Z"⟩
abbrev cX3_tryOnePage : ByteArray := prog_5_method_3_code
def yX3_tryOnePage : MethodName := ⟨RX3, "tryOnePage", "(LPressHall$Story;I)V"⟩
abbrev cX3_tryTwoPages : ByteArray := prog_5_method_4_code
def yX3_tryTwoPages : MethodName := ⟨RX3, "tryTwoPages", "(LPressHall$Story;I)V"⟩
abbrev cX3_setRun : ByteArray := prog_5_method_5_code
def yX3_setRun : MethodName := ⟨RX3, "setRun", "(IIII)Z"⟩
abbrev cX3_keepIfCheaper : ByteArray := prog_5_method_6_code
def yX3_keepIfCheaper : MethodName := ⟨RX3, "keepIfCheaper", "()V"⟩
def RX4 : String := "PressHall$Puzzle"
def TX4 : u_T := fun k => match k with
  | 0 => ("PressHall$Puzzle", "given", "[I", true)
  | 1 => ("PressHall$Puzzle", "inRow", "[I", true)
  | 2 => ("PressHall$Puzzle", "inColumn", "[I", true)
  | _ => ("PressHall$Puzzle", "inQuarter", "[I", true)
def tyX4 : Nat → FieldType := fun k => match k with
  | 0 => .array .int
  | 1 => .array .int
  | 2 => .array .int
  | _ => .array .int
abbrev wsX40 : List Cond := u_ws RX4 TX4 4
theorem nmX4 : ∀ a, a < 4 → ∀ b, b < 4 → a ≠ b → (TX4 a).2.1 ≠ (TX4 b).2.1 := by decide +kernel
theorem tyX4_ok : ∀ k, k < 4 → parseFieldDescriptor (TX4 k).2.2.1 = some (tyX4 k) := by decide +kernel
abbrev cX4_init : ByteArray := prog_6_method_1_code
def yX4_init : MethodName := ⟨RX4, "<init>", "()V"⟩
def RX5 : String := "PressHall$Sheets"
def TX5 : u_T := fun k => match k with
  | 0 => ("PressHall$Sheets", "taken", "[[I", true)
  | 1 => ("PressHall$Sheets", "sections", "[I", true)
  | 2 => ("PressHall$Sheets", "colours", "[Z", true)
  | 3 => ("PressHall$Sheets", "signers", "[I", true)
  | 4 => ("PressHall$Sheets", "holders", "[I", true)
  | 5 => ("PressHall$Sheets", "present", "I", false)
  | _ => ("PressHall$Sheets", "plates", "I", false)
def tyX5 : Nat → FieldType := fun k => match k with
  | 0 => .array (.array .int)
  | 1 => .array .int
  | 2 => .array .boolean
  | 3 => .array .int
  | 4 => .array .int
  | 5 => .int
  | _ => .int
abbrev wsX50 : List Cond := u_ws RX5 TX5 7
theorem nmX5 : ∀ a, a < 7 → ∀ b, b < 7 → a ≠ b → (TX5 a).2.1 ≠ (TX5 b).2.1 := by decide +kernel
theorem tyX5_ok : ∀ k, k < 7 → parseFieldDescriptor (TX5 k).2.2.1 = some (tyX5 k) := by decide +kernel
abbrev cX5_init : ByteArray := prog_7_method_1_code
def yX5_init : MethodName := ⟨RX5, "<init>", "()V"⟩
abbrev cX5_setKind : ByteArray := prog_7_method_2_code
def yX5_setKind : MethodName := ⟨RX5, "setKind", "(IIZ)V"⟩
abbrev cX5_sectionOf : ByteArray := prog_7_method_3_code
def yX5_sectionOf : MethodName := ⟨RX5, "sectionOf", "(I)I"⟩
abbrev cX5_hasColour : ByteArray := prog_7_method_4_code
def yX5_hasColour : MethodName := ⟨RX5, "hasColour", "(I)Z"⟩
abbrev cX5_at : ByteArray := prog_7_method_5_code
def yX5_at : MethodName := ⟨RX5, "at", "(II)I"⟩
abbrev cX5_put : ByteArray := prog_7_method_6_code
def yX5_put : MethodName := ⟨RX5, "put", "(III)V"⟩
abbrev cX5_isBare : ByteArray := prog_7_method_7_code
def yX5_isBare : MethodName := ⟨RX5, "isBare", "(I)Z"⟩
abbrev cX5_lowestFree : ByteArray := prog_7_method_8_code
def yX5_lowestFree : MethodName := ⟨RX5, "lowestFree", "(I)I"⟩
abbrev cX5_freeAllOf : ByteArray := prog_7_method_9_code
def yX5_freeAllOf : MethodName := ⟨RX5, "freeAllOf", "(I)V"⟩
abbrev cX5_platesOf : ByteArray := prog_7_method_10_code
def yX5_platesOf : MethodName := ⟨RX5, "platesOf", "(I)I"⟩
abbrev cX5_freeRectangle : ByteArray := prog_7_method_11_code
def yX5_freeRectangle : MethodName := ⟨RX5, "freeRectangle", "(III)I"⟩
abbrev cX5_isFreeRectangle : ByteArray := prog_7_method_12_code
def yX5_isFreeRectangle : MethodName := ⟨RX5, "isFreeRectangle", "(IIII)Z"⟩
abbrev cX5_fillRectangle : ByteArray := prog_7_method_13_code
def yX5_fillRectangle : MethodName := ⟨RX5, "fillRectangle", "(LPressHall$Advert;I)V"⟩
abbrev cX5_freeRun : ByteArray := prog_7_method_14_code
def yX5_freeRun : MethodName := ⟨RX5, "freeRun", "(III)I"⟩
abbrev cX5_isThere : ByteArray := prog_7_method_15_code
def yX5_isThere : MethodName := ⟨RX5, "isThere", "(I)Z"⟩
abbrev cX5_letLeave : ByteArray := prog_7_method_16_code
def yX5_letLeave : MethodName := ⟨RX5, "letLeave", "(I)V"⟩
abbrev cX5_letComeBack : ByteArray := prog_7_method_17_code
def yX5_letComeBack : MethodName := ⟨RX5, "letComeBack", "(I)V"⟩
abbrev cX5_hasSigned : ByteArray := prog_7_method_18_code
def yX5_hasSigned : MethodName := ⟨RX5, "hasSigned", "(II)Z"⟩
abbrev cX5_addSignature : ByteArray := prog_7_method_19_code
def yX5_addSignature : MethodName := ⟨RX5, "addSignature", "(II)I"⟩
abbrev cX5_turnHold : ByteArray := prog_7_method_20_code
def yX5_turnHold : MethodName := ⟨RX5, "turnHold", "(II)Z"⟩
abbrev cX5_canGo : ByteArray := prog_7_method_21_code
def yX5_canGo : MethodName := ⟨RX5, "canGo", "(I)Z"⟩
abbrev cX5_canAllGo : ByteArray := prog_7_method_22_code
def yX5_canAllGo : MethodName := ⟨RX5, "canAllGo", "()Z"⟩
def RX6 : String := "PressHall$Story"
def TX6 : u_T := fun k => match k with
  | 0 => ("PressHall$Story", "section", "I", true)
  | 1 => ("PressHall$Story", "lines", "I", true)
  | 2 => ("PressHall$Story", "paragraphs", "I", true)
  | 3 => ("PressHall$Story", "least", "I", true)
  | _ => ("PressHall$Story", "way", "LPressHall$Way;", true)
def tyX6 : Nat → FieldType := fun k => match k with
  | 0 => .int
  | 1 => .int
  | 2 => .int
  | 3 => .int
  | _ => .object "PressHall$Way"
abbrev wsX60 : List Cond := u_ws RX6 TX6 5
theorem nmX6 : ∀ a, a < 5 → ∀ b, b < 5 → a ≠ b → (TX6 a).2.1 ≠ (TX6 b).2.1 := by decide +kernel
theorem tyX6_ok : ∀ k, k < 5 → parseFieldDescriptor (TX6 k).2.2.1 = some (tyX6 k) := by decide +kernel
abbrev cX6_init : ByteArray := prog_8_method_1_code
def yX6_init : MethodName := ⟨RX6, "<init>", "(IIII)V"⟩
abbrev cX6_isLaid : ByteArray := prog_8_method_2_code
def yX6_isLaid : MethodName := ⟨RX6, "isLaid", "()Z"⟩
abbrev cX6_linesOfFirst : ByteArray := prog_8_method_3_code
def yX6_linesOfFirst : MethodName := ⟨RX6, "linesOfFirst", "(I)I"⟩
abbrev cX6_cellsFor : ByteArray := prog_8_method_4_code
def yX6_cellsFor : MethodName := ⟨RX6, "cellsFor", "(II)I"⟩
def RX7 : String := "PressHall$Trucks"
def TX7 : u_T := fun k => match k with
  | 0 => ("PressHall$Trucks", "minutes", "[I", true)
  | 1 => ("PressHall$Trucks", "copies", "[I", true)
  | _ => ("PressHall$Trucks", "count", "I", false)
def tyX7 : Nat → FieldType := fun k => match k with
  | 0 => .array .int
  | 1 => .array .int
  | _ => .int
abbrev wsX70 : List Cond := u_ws RX7 TX7 3
theorem nmX7 : ∀ a, a < 3 → ∀ b, b < 3 → a ≠ b → (TX7 a).2.1 ≠ (TX7 b).2.1 := by decide +kernel
theorem tyX7_ok : ∀ k, k < 3 → parseFieldDescriptor (TX7 k).2.2.1 = some (tyX7 k) := by decide +kernel
abbrev cX7_init : ByteArray := prog_9_method_1_code
def yX7_init : MethodName := ⟨RX7, "<init>", "()V"⟩
def RX8 : String := "PressHall$Way"
def TX8 : u_T := fun k => match k with
  | 0 => ("PressHall$Way", "paragraphs", "I", false)
  | 1 => ("PressHall$Way", "pages", "[I", true)
  | 2 => ("PressHall$Way", "starts", "[I", true)
  | _ => ("PressHall$Way", "sizes", "[I", true)
def tyX8 : Nat → FieldType := fun k => match k with
  | 0 => .int
  | 1 => .array .int
  | 2 => .array .int
  | _ => .array .int
abbrev wsX80 : List Cond := u_ws RX8 TX8 4
theorem nmX8 : ∀ a, a < 4 → ∀ b, b < 4 → a ≠ b → (TX8 a).2.1 ≠ (TX8 b).2.1 := by decide +kernel
theorem tyX8_ok : ∀ k, k < 4 → parseFieldDescriptor (TX8 k).2.2.1 = some (tyX8 k) := by decide +kernel
abbrev cX8_init : ByteArray := prog_10_method_1_code
def yX8_init : MethodName := ⟨RX8, "<init>", "()V"⟩
abbrev cX8_clear : ByteArray := prog_10_method_2_code
def yX8_clear : MethodName := ⟨RX8, "clear", "()V"⟩
abbrev cX8_setPart : ByteArray := prog_10_method_3_code
def yX8_setPart : MethodName := ⟨RX8, "setPart", "(IIII)V"⟩
abbrev cX8_copy : ByteArray := prog_10_method_4_code
def yX8_copy : MethodName := ⟨RX8, "copy", "(LPressHall$Way;)V"⟩
abbrev cX8_pageOf : ByteArray := prog_10_method_5_code
def yX8_pageOf : MethodName := ⟨RX8, "pageOf", "(I)I"⟩
abbrev cX8_start : ByteArray := prog_10_method_6_code
def yX8_start : MethodName := ⟨RX8, "start", "(I)I"⟩
abbrev cX8_size : ByteArray := prog_10_method_7_code
def yX8_size : MethodName := ⟨RX8, "size", "(I)I"⟩
abbrev cX8_plates : ByteArray := prog_10_method_8_code
def yX8_plates : MethodName := ⟨RX8, "plates", "()I"⟩
def RX9 : String := "PressHall$Wire"
def TX9 : u_T := fun k => match k with
  | 0 => ("PressHall$Wire", "words", "[I", true)
  | 1 => ("PressHall$Wire", "priorities", "[I", true)
  | _ => ("PressHall$Wire", "count", "I", false)
def tyX9 : Nat → FieldType := fun k => match k with
  | 0 => .array .int
  | 1 => .array .int
  | _ => .int
abbrev wsX90 : List Cond := u_ws RX9 TX9 3
theorem nmX9 : ∀ a, a < 3 → ∀ b, b < 3 → a ≠ b → (TX9 a).2.1 ≠ (TX9 b).2.1 := by decide +kernel
theorem tyX9_ok : ∀ k, k < 3 → parseFieldDescriptor (TX9 k).2.2.1 = some (tyX9 k) := by decide +kernel
abbrev cX9_init : ByteArray := prog_11_method_1_code
def yX9_init : MethodName := ⟨RX9, "<init>", "()V"⟩
def RX10 : String := "PressHall"
def TX10 : u_T := fun k => match k with
  | 0 => ("PressHall", "sheets", "LPressHall$Sheets;", true)
  | 1 => ("PressHall", "distances", "[I", true)
  | 2 => ("PressHall", "adverts", "[LPressHall$Advert;", true)
  | 3 => ("PressHall", "advertCount", "I", false)
  | 4 => ("PressHall", "stories", "[LPressHall$Story;", true)
  | 5 => ("PressHall", "storyCount", "I", false)
  | 6 => ("PressHall", "layout", "LPressHall$Layout;", true)
  | 7 => ("PressHall", "archive", "LPressHall$Archive;", true)
  | 8 => ("PressHall", "trucks", "LPressHall$Trucks;", true)
  | 9 => ("PressHall", "now", "I", false)
  | 10 => ("PressHall", "headline", "LPressHall$Headline;", true)
  | 11 => ("PressHall", "weights", "[I", true)
  | 12 => ("PressHall", "waiting", "LPressHall$Wire;", true)
  | _ => ("PressHall", "puzzle", "LPressHall$Puzzle;", true)
def tyX10 : Nat → FieldType := fun k => match k with
  | 0 => .object "PressHall$Sheets"
  | 1 => .array .int
  | 2 => .array (.object "PressHall$Advert")
  | 3 => .int
  | 4 => .array (.object "PressHall$Story")
  | 5 => .int
  | 6 => .object "PressHall$Layout"
  | 7 => .object "PressHall$Archive"
  | 8 => .object "PressHall$Trucks"
  | 9 => .int
  | 10 => .object "PressHall$Headline"
  | 11 => .array .int
  | 12 => .object "PressHall$Wire"
  | _ => .object "PressHall$Puzzle"
abbrev wsX100 : List Cond := u_ws RX10 TX10 14
theorem nmX10 : ∀ a, a < 14 → ∀ b, b < 14 → a ≠ b → (TX10 a).2.1 ≠ (TX10 b).2.1 := by decide +kernel
theorem tyX10_ok : ∀ k, k < 14 → parseFieldDescriptor (TX10 k).2.2.1 = some (tyX10 k) := by decide +kernel
abbrev cX10_init : ByteArray := prog_1_method_1_code
def yX10_init : MethodName := ⟨RX10, "<init>", "()V"⟩
abbrev cX10_page : ByteArray := prog_1_method_2_code
def yX10_page : MethodName := ⟨RX10, "page", "(IIZ)V"⟩
abbrev cX10_cell : ByteArray := prog_1_method_3_code
def yX10_cell : MethodName := ⟨RX10, "cell", "(II)I"⟩
abbrev cX10_touched : ByteArray := prog_1_method_4_code
def yX10_touched : MethodName := ⟨RX10, "touched", "()I"⟩
abbrev cX10_distance : ByteArray := prog_1_method_5_code
def yX10_distance : MethodName := ⟨RX10, "distance", "(II)I"⟩
abbrev cX10_advert : ByteArray := prog_1_method_6_code
def yX10_advert : MethodName := ⟨RX10, "advert", "(IIIZII)I"⟩
abbrev cX10_place : ByteArray := prog_1_method_7_code
def yX10_place : MethodName := ⟨RX10, "place", "(I)I"⟩
abbrev cX10_takeOff : ByteArray := prog_1_method_8_code
def yX10_takeOff : MethodName := ⟨RX10, "takeOff", "(I)I"⟩
abbrev cX10_advertsIn : ByteArray := prog_1_method_9_code
def yX10_advertsIn : MethodName := ⟨RX10, "advertsIn", "(I)I"⟩
abbrev cX10_story : ByteArray := prog_1_method_10_code
def yX10_story : MethodName := ⟨RX10, "story", "(III)I"⟩
abbrev cX10_lay : ByteArray := prog_1_method_11_code
def yX10_lay : MethodName := ⟨RX10, "lay", "(I)I"⟩
abbrev cX10_lift : ByteArray := prog_1_method_12_code
def yX10_lift : MethodName := ⟨RX10, "lift", "(I)I"⟩
abbrev cX10_change : ByteArray := prog_1_method_13_code
def yX10_change : MethodName := ⟨RX10, "change", "(II)I"⟩
abbrev cX10_part : ByteArray := prog_1_method_14_code
def yX10_part : MethodName := ⟨RX10, "part", "(II)I"⟩
abbrev cX10_person : ByteArray := prog_1_method_15_code
def yX10_person : MethodName := ⟨RX10, "person", "(I)Z"⟩
abbrev cX10_sign : ByteArray := prog_1_method_16_code
def yX10_sign : MethodName := ⟨RX10, "sign", "(II)I"⟩
abbrev cX10_hold : ByteArray := prog_1_method_17_code
def yX10_hold : MethodName := ⟨RX10, "hold", "(II)Z"⟩
abbrev cX10_isReady : ByteArray := prog_1_method_18_code
def yX10_isReady : MethodName := ⟨RX10, "isReady", "(I)Z"⟩
abbrev cX10_close : ByteArray := prog_1_method_19_code
def yX10_close : MethodName := ⟨RX10, "close", "()I"⟩
abbrev cX10_printed : ByteArray := prog_1_method_20_code
def yX10_printed : MethodName := ⟨RX10, "printed", "(III)I"⟩
abbrev cX10_correct : ByteArray := prog_1_method_21_code
def yX10_correct : MethodName := ⟨RX10, "correct", "(II)I"⟩
abbrev cX10_placeCorrection : ByteArray := prog_1_method_22_code
def yX10_placeCorrection : MethodName := ⟨RX10, "placeCorrection", "()I"⟩
abbrev cX10_clean : ByteArray := prog_1_method_23_code
def yX10_clean : MethodName := ⟨RX10, "clean", "(I)I"⟩
abbrev cX10_pass : ByteArray := prog_1_method_24_code
def yX10_pass : MethodName := ⟨RX10, "pass", "(I)I"⟩
abbrev cX10_needPage : ByteArray := prog_1_method_36_code
def yX10_needPage : MethodName := ⟨RX10, "needPage", "(I)V"⟩
abbrev cX10_needCell : ByteArray := prog_1_method_37_code
def yX10_needCell : MethodName := ⟨RX10, "needCell", "(I)V"⟩
abbrev cX10_needPerson : ByteArray := prog_1_method_38_code
def yX10_needPerson : MethodName := ⟨RX10, "needPerson", "(I)V"⟩
abbrev cX10_needRange : ByteArray := prog_1_method_39_code
def yX10_needRange : MethodName := ⟨RX10, "needRange", "(III)V"⟩
abbrev cX10_needEdition : ByteArray := prog_1_method_40_code
def yX10_needEdition : MethodName := ⟨RX10, "needEdition", "(I)V"⟩
abbrev cX10_needAdvert : ByteArray := prog_1_method_41_code
def yX10_needAdvert : MethodName := ⟨RX10, "needAdvert", "(I)LPressHall$Advert;"⟩
abbrev cX10_needStory : ByteArray := prog_1_method_42_code
def yX10_needStory : MethodName := ⟨RX10, "needStory", "(I)LPressHall$Story;"⟩
abbrev cX10_storyAt : ByteArray := prog_1_method_43_code
def yX10_storyAt : MethodName := ⟨RX10, "storyAt", "(I)LPressHall$Story;"⟩
abbrev cX10_isPage : ByteArray := prog_1_method_44_code
def yX10_isPage : MethodName := ⟨RX10, "isPage", "(I)Z"⟩
abbrev cX10_isCell : ByteArray := prog_1_method_45_code
def yX10_isCell : MethodName := ⟨RX10, "isCell", "(I)Z"⟩
abbrev cX10_isZonePage : ByteArray := prog_1_method_46_code
def yX10_isZonePage : MethodName := ⟨RX10, "isZonePage", "(I)Z"⟩
abbrev cX10_isInCopies : ByteArray := prog_1_method_47_code
def yX10_isInCopies : MethodName := ⟨RX10, "isInCopies", "(II)Z"⟩
abbrev cX10_plateOf : ByteArray := prog_1_method_48_code
def yX10_plateOf : MethodName := ⟨RX10, "plateOf", "(I)I"⟩
abbrev cX10_cellInColumns : ByteArray := prog_1_method_49_code
def yX10_cellInColumns : MethodName := ⟨RX10, "cellInColumns", "(I)I"⟩
abbrev cX10_pagesApart : ByteArray := prog_1_method_50_code
def yX10_pagesApart : MethodName := ⟨RX10, "pagesApart", "(II)I"⟩
abbrev cX10_distanceOf : ByteArray := prog_1_method_51_code
def yX10_distanceOf : MethodName := ⟨RX10, "distanceOf", "(I)I"⟩
abbrev cX10_fits : ByteArray := prog_1_method_52_code
def yX10_fits : MethodName := ⟨RX10, "fits", "(LPressHall$Advert;I)Z"⟩
abbrev cX10_isFarFromItsLike : ByteArray := prog_1_method_53_code
def yX10_isFarFromItsLike : MethodName := ⟨RX10, "isFarFromItsLike", "(LPressHall$Advert;I)Z"⟩
abbrev cX10_paragraphsOf : ByteArray := prog_1_method_54_code
def yX10_paragraphsOf : MethodName := ⟨RX10, "paragraphsOf", "(I)I"⟩
abbrev cX10_putOut : ByteArray := prog_1_method_55_code
def yX10_putOut : MethodName := ⟨RX10, "putOut", "(LPressHall$Story;I)V"⟩
def RX11 : String := "PressHallModel"
def TX11 : u_T := fun k => match k with
  | _ => ("", "", "", false)
def tyX11 : Nat → FieldType := fun k => match k with
  | _ => .int
abbrev wsX110 : List Cond := u_ws RX11 TX11 0
theorem nmX11 : ∀ a, a < 0 → ∀ b, b < 0 → a ≠ b → (TX11 a).2.1 ≠ (TX11 b).2.1 := by decide +kernel
theorem tyX11_ok : ∀ k, k < 0 → parseFieldDescriptor (TX11 k).2.2.1 = some (tyX11 k) := by decide +kernel
def RJ6 : String := "java/lang/Integer"
def TJ6 : u_T := fun k => match k with
  | _ => ("", "", "", false)
def tyJ6 : Nat → FieldType := fun k => match k with
  | _ => .int
abbrev wsJ60 : List Cond := u_ws RJ6 TJ6 0
theorem nmJ6 : ∀ a, a < 0 → ∀ b, b < 0 → a ≠ b → (TJ6 a).2.1 ≠ (TJ6 b).2.1 := by decide +kernel
theorem tyJ6_ok : ∀ k, k < 0 → parseFieldDescriptor (TJ6 k).2.2.1 = some (tyJ6 k) := by decide +kernel
abbrev cJ6_bitCount_0f7a4 : ByteArray := prog_18_method_49_code
def yJ6_bitCount_0f7a4 : MethodName := ⟨RJ6, "bitCount", "(I)I"⟩
def RJ0 : String := "java/lang/String"
def TJ0 : u_T := fun k => match k with
  | _ => ("", "", "", false)
def tyJ0 : Nat → FieldType := fun k => match k with
  | _ => .int
abbrev wsJ00 : List Cond := u_ws RJ0 TJ0 0
theorem nmJ0 : ∀ a, a < 0 → ∀ b, b < 0 → a ≠ b → (TJ0 a).2.1 ≠ (TJ0 b).2.1 := by decide +kernel
theorem tyJ0_ok : ∀ k, k < 0 → parseFieldDescriptor (TJ0 k).2.2.1 = some (tyJ0 k) := by decide +kernel
def RL : String := "PressHallLaw"
abbrev cL_part : ByteArray := method_2_code
def yL_part : MethodName := ⟨RL, "part", "([III)I"⟩
abbrev cL_does : ByteArray := method_3_code
def yL_does : MethodName := ⟨RL, "does", "(LPressHall;IIIIII)I"⟩
abbrev cL_paged : ByteArray := method_4_code
def yL_paged : MethodName := ⟨RL, "paged", "(LPressHall;IIZ)I"⟩
abbrev cL_cell : ByteArray := method_5_code
def yL_cell : MethodName := ⟨RL, "cell", "([I[III)I"⟩
abbrev cL_puts : ByteArray := method_6_code
def yL_puts : MethodName := ⟨RL, "puts", "([I[IIII)V"⟩
abbrev cL_areCells : ByteArray := method_7_code
def yL_areCells : MethodName := ⟨RL, "areCells", "(LPressHall;[I[I[I[I[I[I[I[I)Z"⟩
abbrev cL_inColumns : ByteArray := method_8_code
def yL_inColumns : MethodName := ⟨RL, "inColumns", "([I[III)Z"⟩
abbrev cL_count : ByteArray := method_9_code
def yL_count : MethodName := ⟨RL, "count", "(I)I"⟩
abbrev cL_isFar : ByteArray := method_10_code
def yL_isFar : MethodName := ⟨RL, "isFar", "([I[I[I[III)Z"⟩
abbrev cL_placeFor : ByteArray := method_11_code
def yL_placeFor : MethodName := ⟨RL, "placeFor", "([I[I[I[I[I[I[II)I"⟩
abbrev cL_lines : ByteArray := method_12_code
def yL_lines : MethodName := ⟨RL, "lines", "(I)I"⟩
abbrev cL_isAdvert : ByteArray := method_13_code
def yL_isAdvert : MethodName := ⟨RL, "isAdvert", "(LPressHall;[I[I[I[I[I[I[IIII)Z"⟩
abbrev cL_isStory : ByteArray := method_14_code
def yL_isStory : MethodName := ⟨RL, "isStory", "(LPressHall;[I[IIII)Z"⟩
abbrev cL_laid : ByteArray := method_15_code
def yL_laid : MethodName := ⟨RL, "laid", "(LPressHall;II)I"⟩
abbrev cL_fitsIn : ByteArray := method_16_code
def yL_fitsIn : MethodName := ⟨RL, "fitsIn", "(LPressHall;III)Z"⟩
abbrev cL_isSigned : ByteArray := method_17_code
def yL_isSigned : MethodName := ⟨RL, "isSigned", "(LPressHall;[I[IIII)Z"⟩
abbrev cL_isClosed : ByteArray := method_18_code
def yL_isClosed : MethodName := ⟨RL, "isClosed", "(LPressHall;[I[I[I[I[I[I[IIII)Z"⟩
abbrev cL_law : ByteArray := code
def yL_law : MethodName := ⟨RL, "law", "([I)Z"⟩
abbrev vwCl : List vw_C := [(RX0, TX0, 8), (RX1, TX1, 5), (RX2, TX2, 3), (RX3, TX3, 6), (RX4, TX4, 4), (RX5, TX5, 7), (RX6, TX6, 5), (RX7, TX7, 3), (RX8, TX8, 4), (RX9, TX9, 3), (RX10, TX10, 14)]
end
section
/-! ===== THE VIRTUAL LAYER: a world of numbered cells, whatever their addresses. A cell is an object (its class's place in vwCl), an array (type, length), or the law's script (read only). Its contents: I (ints), Rf (references, by numbers), J (longs). ===== -/
abbrev xv_S : Type := Nat ⊕ ((FieldType × Nat) ⊕ Nat)
abbrev xv_Sh : Type := Nat → Option xv_S
abbrev xv_I : Type := Nat → Nat → Int32
abbrev xv_Rf : Type := Nat → Nat → Option Nat
abbrev xv_J : Type := Nat → Nat → Int64
abbrev xv_O : Type := Option Value ⊕ String
abbrev xv_Q : Type := xv_O → xv_Sh → xv_I → xv_Rf → xv_J → Prop
/-- a method: its name, code, locals, type of its answer, table of handlers -/
abbrev xv_M : Type := MethodName × ByteArray × Nat × Option FieldType × List (Nat × Nat × Nat × Nat)
/-- a value of numbers, and one of addresses -/
def xv_tr (ad : Nat → Nat) (v : Value) : Value := match v with
  | .ref a => .ref (ad a)
  | w => w
theorem xv_tr_rf (ad : Nat → Nat) (o : Option Nat) : xv_tr ad (va_rf o) = va_rf (o.map ad) := by cases o <;> rfl
theorem xv_tr_cat (ad : Nat → Nat) (v : Value) : (xv_tr ad v).category = v.category := by cases v <;> rfl
def xv_ok (sh : xv_Sh) (v : Value) : Prop := match v with
  | .ref a => sh a ≠ none
  | _ => True
theorem xv_ok_rf {sh : xv_Sh} {o : Option Nat} (h : ∀ w, o = some w → sh w ≠ none) : xv_ok sh (va_rf o) := by
  cases o with
  | none => trivial
  | some w => exact h w rfl
theorem xv_tr_ext {sh : xv_Sh} {ad ad' : Nat → Nat} (h : ∀ v, sh v ≠ none → ad' v = ad v) {v : Value} (hv : xv_ok sh v) : xv_tr ad' v = xv_tr ad v := by
  cases v with
  | ref a => show Value.ref (ad' a) = Value.ref (ad a); rw [h a hv]
  | _ => rfl
/-- one place of one cell gets something -/
def xv_u {α : Type} (f : Nat → Nat → α) (v k : Nat) (x : α) : Nat → Nat → α := fun w j => if w = v ∧ j = k then x else f w j
theorem xv_u_eq {α : Type} (f : Nat → Nat → α) (v k : Nat) (x : α) : xv_u f v k x v k = x := by simp [xv_u]
theorem xv_u_ne {α : Type} (f : Nat → Nat → α) {v k : Nat} (x : α) {w : Nat} (j : Nat) (h : w ≠ v) : xv_u f v k x w j = f w j := by simp [xv_u, h]
theorem xv_u_nk {α : Type} (f : Nat → Nat → α) {v k : Nat} (x : α) (w : Nat) {j : Nat} (h : j ≠ k) : xv_u f v k x w j = f w j := by simp [xv_u, h]
def xv_us (sh : xv_Sh) (v : Nat) (x : xv_S) : xv_Sh := fun w => if w = v then some x else sh w
/-- the type of a field, by its class's place and its own -/
def xv_ft (ci : Nat) : Nat → FieldType := match ci with
  | 0 => tyX0
  | 1 => tyX1
  | 2 => tyX2
  | 3 => tyX3
  | 4 => tyX4
  | 5 => tyX5
  | 6 => tyX6
  | 7 => tyX7
  | 8 => tyX8
  | 9 => tyX9
  | 10 => tyX10
  | _ => tyX11
def xv_sl (ad : Nat → Nat) (I : xv_I) (Rf : xv_Rf) (ci v k : Nat) : Value := if (xv_ft ci k).isReference = true then va_rf ((Rf v k).map ad) else .int (I v k)
def xv_el (ad : Nat → Nat) (I : xv_I) (Rf : xv_Rf) (J : xv_J) (ty : FieldType) (v j : Nat) : Value := match ty with
  | .long => .long (J v j)
  | .object _ => va_rf ((Rf v j).map ad)
  | .array _ => va_rf ((Rf v j).map ad)
  | _ => .int (I v j)
/-- what a cell is on the heap -/
def xv_at (s : State) (D : va_G) (ad : Nat → Nat) (ca : Nat → ClassId) (I : xv_I) (Rf : xv_Rf) (J : xv_J) (H : Heap) (v : Nat) (x : xv_S) : Prop := match x with
  | .inl ci => ∃ r : vw_C, vwCl[ci]? = some r ∧ t_OB (ad v) (D.1 ci) r.2.2 (D.2 ci) H (xv_sl ad I Rf ci v)
  | .inr (.inl q) => H[ad v]? = some (arrV (ca v) q.2 (xv_el ad I Rf J q.1 v)) ∧ ArrOfT s (ca v) q.1 ∧ va_RA s (ca v) q.1
  | .inr (.inr n) => va_X (ad v) n (I v) s H
theorem xv_at.kept {s : State} {D : va_G} {ad : Nat → Nat} {ca : Nat → ClassId} {I : xv_I} {Rf : xv_Rf} {J : xv_J} {H H1 : Heap} {v : Nat} {x : xv_S} (h : xv_at s D ad ca I Rf J H v x) (hq : H1[ad v]? = H[ad v]?) : xv_at s D ad ca I Rf J H1 v x := by
  rcases x with ci | q | n
  · obtain ⟨r, h1, h2⟩ := h
    exact ⟨r, h1, h2.kept hq⟩
  · exact ⟨hq.trans h.1, h.2⟩
  · exact va_X.kept h hq
theorem xv_at.moved {s U : State} {D : va_G} {ad : Nat → Nat} {ca : Nat → ClassId} {I : xv_I} {Rf : xv_Rf} {J : xv_J} {H : Heap} {v : Nat} {x : xv_S} (hvm : s.vm.Alike U.vm) (h : xv_at s D ad ca I Rf J H v x) : xv_at U D ad ca I Rf J H v x := by
  rcases x with ci | q | n
  · exact h
  · exact ⟨h.1, arrOfT_moved hvm h.2.1, va_RA.moved hvm h.2.2⟩
  · exact va_X.moved hvm h
theorem xv_at.lt {s : State} {D : va_G} {ad : Nat → Nat} {ca : Nat → ClassId} {I : xv_I} {Rf : xv_Rf} {J : xv_J} {H : Heap} {v : Nat} {x : xv_S} (h : xv_at s D ad ca I Rf J H v x) : ad v < H.size := by
  rcases x with ci | q | n
  · obtain ⟨r, h1, cell, h2, -⟩ := h
    exact (Array.getElem?_eq_some_iff.mp h2).1
  · exact (Array.getElem?_eq_some_iff.mp h.1).1
  · obtain ⟨scr, h2, -⟩ := h
    exact (Array.getElem?_eq_some_iff.mp h2).1
theorem xv_at.cong {s : State} {D : va_G} {ad ad' : Nat → Nat} {ca ca' : Nat → ClassId} {I I' : xv_I} {Rf Rf' : xv_Rf} {J J' : xv_J} {H : Heap} {v : Nat} {x : xv_S} (h : xv_at s D ad ca I Rf J H v x)
    (h1 : ad' v = ad v) (h2 : ca' v = ca v) (h3 : ∀ k, I' v k = I v k) (h4 : ∀ k, Rf' v k = Rf v k) (h5 : ∀ k, J' v k = J v k) (h6 : ∀ k w, Rf v k = some w → ad' w = ad w) : xv_at s D ad' ca' I' Rf' J' H v x := by
  have h7 : ∀ k, (Rf' v k).map ad' = (Rf v k).map ad := fun k => by
    rw [h4 k]
    cases hk : Rf v k with
    | none => rfl
    | some w => show some (ad' w) = some (ad w); rw [h6 k w hk]
  rcases x with ci | q | n
  · obtain ⟨r, e1, e2⟩ := h
    refine ⟨r, e1, ?_⟩
    rw [h1]
    refine e2.to fun k _ => ?_
    show xv_sl ad I Rf ci v k = xv_sl ad' I' Rf' ci v k
    unfold xv_sl
    rw [h7 k, h3 k]
  · refine ⟨?_, by rw [h2]; exact h.2.1, by rw [h2]; exact h.2.2⟩
    rw [h1, h2]
    have : xv_el ad' I' Rf' J' q.1 v = xv_el ad I Rf J q.1 v := by
      funext j
      unfold xv_el
      rw [h7 j, h3 j, h5 j]
    rw [this]
    exact h.1
  · show va_X (ad' v) n (I' v) s H
    rw [h1, show I' v = I v from funext h3]
    exact h
/-- the world -/
def xv_R (s : State) (D : va_G) (ad : Nat → Nat) (ca : Nat → ClassId) (sh : xv_Sh) (I : xv_I) (Rf : xv_Rf) (J : xv_J) (H : Heap) : Prop :=
  (∀ v x, sh v = some x → xv_at s D ad ca I Rf J H v x) ∧ (∀ v w, sh v ≠ none → sh w ≠ none → ad v = ad w → v = w) ∧ ∀ v k w, sh v ≠ none → Rf v k = some w → sh w ≠ none
theorem xv_R.moved {s U : State} {D : va_G} {ad : Nat → Nat} {ca : Nat → ClassId} {sh : xv_Sh} {I : xv_I} {Rf : xv_Rf} {J : xv_J} {H : Heap} (hvm : s.vm.Alike U.vm) (h : xv_R s D ad ca sh I Rf J H) : xv_R U D ad ca sh I Rf J H :=
  ⟨fun v x hx => (h.1 v x hx).moved hvm, h.2⟩
/-- cells that may be written -/
def xv_w (sh : xv_Sh) (v : Nat) : Prop := ∃ x : xv_S, sh v = some x ∧ ∀ n : Nat, x ≠ .inr (.inr n)
def xv_A (sh : xv_Sh) (ad : Nat → Nat) (sz : Nat) : Nat → Prop := fun q => (∃ v, xv_w sh v ∧ q = ad v) ∨ sz ≤ q
def xv_X (sh : xv_Sh) (ad : Nat → Nat) (ca : Nat → ClassId) (sh' : xv_Sh) (ad' : Nat → Nat) (ca' : Nat → ClassId) : Prop := ∀ v, sh v ≠ none → sh' v = sh v ∧ ad' v = ad v ∧ ca' v = ca v
theorem xv_X.rf {sh : xv_Sh} {ad : Nat → Nat} {ca : Nat → ClassId} : xv_X sh ad ca sh ad ca := fun _ _ => ⟨rfl, rfl, rfl⟩
theorem xv_X.tr {sh sh1 sh2 : xv_Sh} {ad ad1 ad2 : Nat → Nat} {ca ca1 ca2 : Nat → ClassId} (h : xv_X sh ad ca sh1 ad1 ca1) (h2 : xv_X sh1 ad1 ca1 sh2 ad2 ca2) : xv_X sh ad ca sh2 ad2 ca2 := fun v hv => by
  obtain ⟨a, b, c⟩ := h v hv
  obtain ⟨a', b', c'⟩ := h2 v (by rw [a]; exact hv)
  exact ⟨a'.trans a, b'.trans b, c'.trans c⟩
/-- the texts of the exceptions: class, place in its pool, text -/
def xv_strs : List (String × Nat × String) := [("PressHall", 395, "no such page"), ("PressHall", 404, "an argument is out of range"), ("PressHall", 93, "a cell of the page is taken"), ("PressHall", 400, "no such cell"), ("PressHall", 120, "there are 20 advertisements"), ("PressHall", 408, "no such advertisement"), ("PressHall", 133, "the advertisement is placed"), ("PressHall", 167, "the advertisement is not placed"), ("PressHall", 174, "no such zone"), ("PressHall", 190, "there are 20 stories"), ("PressHall", 410, "no such story"), ("PressHall", 202, "the story is laid out"), ("PressHall", 221, "the story is not laid out"), ("PressHall", 226, "the old story is not laid out, or the fresh one is"), ("PressHall", 402, "no such person"), ("PressHall", 263, "the person has left, or has signed it"), ("PressHall", 268, "the person has left"), ("PressHall", 285, "no edition can be closed now"), ("PressHall", 406, "no such edition"), ("PressHall", 305, "the edition has no such story, one of it is owed, or 5 are"), ("PressHall", 310, "no correction is owed")]
/-- pairs of exceptions that are not each other's -/
def xv_ncs : List (String × String) := [("java/lang/IllegalArgumentException", "java/lang/IndexOutOfBoundsException"), ("java/lang/IllegalStateException", "java/lang/IndexOutOfBoundsException"), ("java/lang/IllegalStateException", "java/lang/IllegalArgumentException")]
/-- what the throws need of the heap that isn't the world's -/
def xv_E (A : Nat → Prop) (U : State) (H : Heap) : Prop :=
  vx_Zq Bundle.tN "UNASSIGNED_STACK" Bundle.steD A U H ∧ vx_Zq Bundle.tN "SUPPRESSED_SENTINEL" Bundle.listD A U H ∧ (∀ q ∈ xv_strs, ∃ sa, vk_R q.1 q.2.1 q.2.2 sa U) ∧ ∀ q ∈ xv_ncs, va_Nc q.1 q.2 U
theorem xv_E.warm {A B : Nat → Prop} {s U : State} {H H1 : Heap} (hW : s.WarmedH U.vm) (h : xv_E A s H) (hq : ∀ a : Nat, a < H.size → ¬ A a → H1[a]? = H[a]?) (hAB : ∀ q, B q → A q) : xv_E B U H1 :=
  ⟨(vx_Zq.moved hW.alike (h.1.kept hq)).narrow hAB, (vx_Zq.moved hW.alike (h.2.1.kept hq)).narrow hAB, fun q hm => by
    obtain ⟨sa, h9⟩ := h.2.2.1 q hm
    exact ⟨sa, vk_R.warm hW h9⟩, fun q hm => va_Nc.moved hW.alike (h.2.2.2 q hm)⟩
/-- the words that every method of the system is given -/
def xv_g (w : Cond) : Bool := goodWord w || match w with
  | .fieldLinkNest .. => true
  | .methodLinkNest .. => true
  | .declares _ => true
  | .castable .. => true
  | .arrayOver (.object _) => true
  | .arrayOver (.array .int) => true
  | _ => false
theorem xv_AOA {t : FieldType} {u U : State} (hvm : u.vm.Alike U.vm) (h : (Cond.arrayOver (.array t)).before #[] u = true) : (Cond.arrayOver (.array t)).before #[] U = true := by
  obtain ⟨comp, c, k, h1, h2, h3, h4, h5⟩ := arrayOverA_spec h
  obtain ⟨k', hk', he⟩ := hvm.2.2 _ _ h3
  have hi : (U.vm.classes.findIdx? fun (x : Class) => match x.kind with | .array component _ => component == comp | _ => false) = some c := by
    have e1 := va_idx_bare U.vm comp
    have e2 := va_idx_bare u.vm comp
    have e3 : U.vm.bare = u.vm.bare := by first | exact hvm.bare_eq | exact hvm.bare_eq.symm
    rw [e3] at e1
    exact e1.symm.trans (e2.trans h2)
  have hkind : k'.kind = .array comp (.array t) := by rw [he]; exact h4
  have f1 : U.vm.findClass (FieldType.array t).toString = some comp := by rw [hvm.findClass]; exact h1
  have f2 : U.vm.findClass ("[" ++ (FieldType.array t).toString) = some c := by rw [hvm.findClass]; exact h5
  unfold Cond.before Cond.holds
  simp only [Cond.value]
  rw [f1, Option.bind_some]
  refine (congrArg (fun o : Option Nat => (o.bind (fun c => (U.vm.classes[c]?).map fun (k : Class) => match k.kind with | .array _ ty => decide (ty = FieldType.array t) && decide (U.vm.findClass ("[" ++ (FieldType.array t).toString) = some c) | _ => false) == some true)) hi).trans ?_
  simp [hk', hkind, f2]
theorem xv_warm {w : Cond} (hg : xv_g w = true) {args a' : Array Value} {s U : State} (hW : s.WarmedH U.vm) (h : w.before args s = true) : w.before a' U = true := by
  by_cases h9 : goodWord w = true
  · exact word_at hW (good_of_word h9) h
  · unfold xv_g at hg
    rw [show goodWord w = false from by cases hq : goodWord w with | true => exact absurd hq h9 | false => rfl, Bool.false_or] at hg
    split at hg
    · exact va_Nw.use rfl (va_Nw.warmF hW (va_Nw.of rfl h))
    · exact va_Nw.use rfl (va_Nw.warmM hW (va_Nw.of rfl h))
    · exact va_Nw.use rfl (va_Nw.warmD hW (va_Nw.of rfl h))
    · exact va_Nw.use rfl (va_Nw.warmC hW (va_Nw.of rfl h))
    · exact va_AO.use (va_AO.moved hW.alike (va_AO.of h))
    · exact xv_AOA (t := .int) hW.alike h
    · cases hg
def xv_tbl : List Cond := lw_tbl.filter xv_g
def xv_cd (M : xv_M) : Cond := match M.2.2.2.2 with
  | [] => Cond.code M.1 M.2.1 M.2.2.1 M.2.2.2.1
  | hh => Cond.codeWith M.1 M.2.1 M.2.2.1 M.2.2.2.1 hh
theorem xv_cd_0 {M : xv_M} (h : M.2.2.2.2 = []) : xv_cd M = Cond.code M.1 M.2.1 M.2.2.1 M.2.2.2.1 := by unfold xv_cd; rw [h]
theorem xv_cd_1 {M : xv_M} (h : ¬ M.2.2.2.2 = []) : xv_cd M = Cond.codeWith M.1 M.2.1 M.2.2.1 M.2.2.2.1 M.2.2.2.2 := by
  unfold xv_cd
  split
  · next h9 => exact absurd h9 h
  · rfl
def xv_ws (M : xv_M) : List Cond := xv_cd M :: xv_tbl
theorem xv_tbl_mem {w : Cond} (n : Nat) (h : tables_1[n]? = some w) (hg : xv_g w = true) : w ∈ xv_tbl := List.mem_filter.mpr ⟨List.mem_append_right _ (List.mem_of_getElem? h), hg⟩
theorem xv_tbl_sel {w : Cond} (n : Nat) (h : (k2_sels lw_privs)[n]? = some w) (hg : xv_g w = true) : w ∈ xv_tbl := List.mem_filter.mpr ⟨List.mem_append_left _ (List.mem_of_getElem? h), hg⟩
theorem xv_tbl_good : ∀ w ∈ xv_tbl, xv_g w = true := fun _ h => (List.mem_filter.mp h).2
/-- a method's ends -/
def xv_QR (Q : xv_Q) (D : va_G) (sh : xv_Sh) (ad : Nat → Nat) (ca : Nat → ClassId) (A : Nat → Prop) : Array Value → State → Outcome → State → Prop := fun _ st o t =>
  ∃ (r : Option Value) (sh' : xv_Sh) (I' : xv_I) (Rf' : xv_Rf) (J' : xv_J) (ad' : Nat → Nat) (ca' : Nat → ClassId), o = .returned (r.map (xv_tr ad')) ∧ Q (.inl r) sh' I' Rf' J' ∧ (∀ x, r = some x → xv_ok sh' x) ∧ xv_R t D ad' ca' sh' I' Rf' J' t.heap ∧ xv_X sh ad ca sh' ad' ca' ∧ (∀ v, xv_w sh' v → A (ad' v)) ∧ va_F A st t
def xv_QX (Q : xv_Q) (D : va_G) (sh : xv_Sh) (ad : Nat → Nat) (ca : Nat → ClassId) (A : Nat → Prop) : String → State → State → Prop := fun E st t =>
  ∃ (sh' : xv_Sh) (I' : xv_I) (Rf' : xv_Rf) (J' : xv_J) (ad' : Nat → Nat) (ca' : Nat → ClassId), Q (.inr E) sh' I' Rf' J' ∧ xv_R t D ad' ca' sh' I' Rf' J' t.heap ∧ xv_X sh ad ca sh' ad' ca' ∧ (∀ v, xv_w sh' v → A (ad' v)) ∧ va_F A st t
/-- a method's start -/
def xv_P (D : va_G) (ad : Nat → Nat) (ca : Nat → ClassId) (sh : xv_Sh) (I : xv_I) (Rf : xv_Rf) (J : xv_J) (sz : Nat) (As : List Value) : Array Value → State → Prop := fun a U =>
  a = (As.map (xv_tr ad)).toArray ∧ (∀ v ∈ As, xv_ok sh v) ∧ U.heap.size = sz ∧ xv_R U D ad ca sh I Rf J U.heap ∧ va_K D vwCl [] U ∧ xv_E (xv_A sh ad sz) U U.heap
/-- THE CONTRACT of a method at a world and arguments: at most mc cells of ms slots come, d frames stand over it -/
def xv_Met (M : xv_M) (d mc ms : Nat) (sh : xv_Sh) (I : xv_I) (Rf : xv_Rf) (J : xv_J) (As : List Value) (Q : xv_Q) : Prop :=
  ∀ (l : Launch) (D : va_G) (ad : Nat → Nat) (ca : Nat → ClassId) (sz : Nat), l.stackTraces = false →
    vx_Met l M.1 (xv_ws M) { frames := d, cells := mc, slots := ms, locals := 40 * d } (xv_P D ad ca sh I Rf J sz As) (xv_QR Q D sh ad ca (xv_A sh ad sz)) (xv_QX Q D sh ad ca (xv_A sh ad sz)) mc ms (xv_A sh ad sz)
/-- what stays while a method runs -/
def xv_C (M : xv_M) (d mc ms : Nat) (p : Program) (l : Launch) (R : Room) (s : State) (m : MethodId) (args : Array Value) (meth : Method) (c : Code) (D : va_G) (A : Nat → Prop) : Prop :=
  p.tables.exec = Jvm.exec ∧ c.code = M.2.1 ∧ c.maxLocals = M.2.2.1 ∧ meth.sig.returnType = M.2.2.2.1 ∧ s.vm.findClass M.1.cls = some m.cls ∧ (∀ w ∈ xv_tbl, w.before args s = true) ∧ meth.locks = false ∧ meth.name = M.1.name ∧ l.stackTraces = false ∧ va_K D vwCl [] s ∧ xv_E A s s.heap ∧ (∀ q, s.heap.size ≤ q → A q) ∧
    c.exceptionTable.toList = tableOf M.2.2.2.2 ∧ d ≤ R.frames ∧ 40 * d ≤ R.locals ∧ mc ≤ R.cells ∧ ms ≤ R.slots
def xv_lv (ad : Nat → Nat) (L : List (Option Value)) : List (Nat × Value) := (List.range L.length).filterMap fun j => match L[j]? with
  | some (some w) => some (j, xv_tr ad w)
  | _ => none
/-- the locals -/
def xv_L (ad : Nat → Nat) (sh : xv_Sh) (nL : Nat) (ls : Array Slot) (L : List (Option Value)) : Prop := lv_has ls nL (xv_lv ad L) ∧ (∀ v, some v ∈ L → v.category = 1 ∧ xv_ok sh v) ∧ L.length = nL
theorem xv_lv_mem {ad : Nat → Nat} {L : List (Option Value)} {j : Nat} {w : Value} (h : L[j]? = some (some w)) : (j, xv_tr ad w) ∈ xv_lv ad L := by
  refine List.mem_filterMap.mpr ⟨j, List.mem_range.mpr (List.getElem?_eq_some_iff.mp h).1, ?_⟩
  rw [h]
theorem xv_lv_of {ad : Nat → Nat} {L : List (Option Value)} {q : Nat × Value} (h : q ∈ xv_lv ad L) : ∃ w, L[q.1]? = some (some w) ∧ q.2 = xv_tr ad w := by
  obtain ⟨j, -, hj⟩ := List.mem_filterMap.mp h
  split at hj
  · next w hw =>
    cases hj
    exact ⟨w, hw, rfl⟩
  · cases hj
theorem xv_L.get {ad : Nat → Nat} {sh : xv_Sh} {nL : Nat} {ls : Array Slot} {L : List (Option Value)} (h : xv_L ad sh nL ls L) {j : Nat} {w : Value} (hj : L[j]? = some (some w)) : ls[j]? = some (.val (xv_tr ad w)) := h.1.2.2 (j, xv_tr ad w) (xv_lv_mem hj)
theorem xv_L.ok {ad : Nat → Nat} {sh : xv_Sh} {nL : Nat} {ls : Array Slot} {L : List (Option Value)} (h : xv_L ad sh nL ls L) {j : Nat} {w : Value} (hj : L[j]? = some (some w)) : xv_ok sh w := (h.2.1 w (List.mem_of_getElem? hj)).2
theorem xv_L.set {ad : Nat → Nat} {sh : xv_Sh} {nL : Nat} {ls ls' : Array Slot} {L : List (Option Value)} (h : xv_L ad sh nL ls L) {i : Nat} {v : Value} (hv : v.category = 1) (ho : xv_ok sh v)
    (h' : lv_has ls' nL ((i, xv_tr ad v) :: (xv_lv ad L).filter (fun q => !(q.1 == i) && !(q.1 + 1 == i && q.2.category == 2)))) : xv_L ad sh nL ls' (L.set i (some v)) := by
  refine ⟨⟨h'.1, h'.2.1, fun q hq => h'.2.2 q ?_⟩, fun w hw => ?_, by rw [List.length_set]; exact h.2.2⟩
  · obtain ⟨w, hw, e⟩ := xv_lv_of hq
    obtain ⟨j, x⟩ := q
    dsimp only at hw e
    subst e
    by_cases hji : j = i
    · subst hji
      rw [List.getElem?_set_self' ] at hw
      cases hL : L[j]? with
      | none => rw [hL] at hw; cases hw
      | some z => rw [hL] at hw; cases hw; exact List.mem_cons_self
    · rw [List.getElem?_set_ne (Ne.symm hji)] at hw
      refine List.mem_cons_of_mem _ (List.mem_filter.mpr ⟨xv_lv_mem hw, ?_⟩)
      have hc := (h.2.1 w (List.mem_of_getElem? hw)).1
      simp [hji, xv_tr_cat, hc]
  · rcases List.mem_or_eq_of_mem_set hw with h9 | h9
    · exact h.2.1 w h9
    · cases h9
      exact ⟨hv, ho⟩
theorem xv_L.moved {ad ad' : Nat → Nat} {sh sh' : xv_Sh} {nL : Nat} {ls : Array Slot} {L : List (Option Value)} (h : xv_L ad sh nL ls L) (hs : ∀ v, sh v ≠ none → sh' v ≠ none ∧ ad' v = ad v) : xv_L ad' sh' nL ls L := by
  refine ⟨⟨h.1.1, h.1.2.1, fun q hq => ?_⟩, fun v hv => ⟨(h.2.1 v hv).1, ?_⟩, h.2.2⟩
  · obtain ⟨w, hw, e⟩ := xv_lv_of hq
    obtain ⟨j, x⟩ := q
    dsimp only at hw e
    subst e
    have h9 := h.get hw
    rw [xv_tr_ext (fun v hv => (hs v hv).2) (h.ok hw)]
    exact h9
  · have h9 := (h.2.1 v hv).2
    cases v with
    | ref a => exact (hs a h9).1
    | _ => trivial
theorem xv_okS {sh sh' : xv_Sh} {S : List Value} (h : ∀ v ∈ S, xv_ok sh v) (hs : ∀ v, sh v ≠ none → sh' v ≠ none) : ∀ v ∈ S, xv_ok sh' v := fun v hv => by
  have h9 := h v hv
  cases v with
  | ref a => exact hs a h9
  | _ => trivial
theorem xv_trS {sh : xv_Sh} {ad ad' : Nat → Nat} {S : List Value} (h : ∀ v ∈ S, xv_ok sh v) (hs : ∀ v, sh v ≠ none → ad' v = ad v) : S.map (xv_tr ad') = S.map (xv_tr ad) := List.map_congr_left fun v hv => xv_tr_ext hs (h v hv)
/-- THE JUDGEMENT: the method M, at pc with locals L and stack S over the world, comes to an end with Q; kc cells of ks slots may still come -/
def xv_W (M : xv_M) (d mc ms : Nat) (Q : xv_Q) (kc ks : Nat) (sh : xv_Sh) (I : xv_I) (Rf : xv_Rf) (J : xv_J) (pc : Nat) (L : List (Option Value)) (S : List Value) : Prop :=
  ∀ {p : Program} {l : Launch} {e : Env} {R : Room} {s : State} {m : MethodId} {args : Array Value} {below : List Frame} {meth : Method} {c : Code} {D : va_G} {A : Nat → Prop} {sh0 : xv_Sh} {ad0 : Nat → Nat} {ca0 : Nat → ClassId} {ad : Nat → Nat} {ca : Nat → ClassId} {H : Heap} {locs : List Loc} {cells slots : Nat} {ls : Array Slot},
    xv_C M d mc ms p l R s m args meth c D A → xv_X sh0 ad0 ca0 sh ad ca → (∀ v, xv_w sh v → A (ad v)) → xv_R s D ad ca sh I Rf J H → va_S A s.heap H locs → xv_L ad sh M.2.2.1 ls L → (∀ v ∈ S, xv_ok sh v) → cells + kc ≤ mc → slots + ks ≤ ms →
    W p l e R s m args below meth c H locs cells slots (vx_MQ below (xv_QR Q D sh0 ad0 ca0 A) (xv_QX Q D sh0 ad0 ca0 A) args s mc ms A) (F0 m pc ls (S.map (xv_tr ad)))
/-- an instruction of n bytes at pc, the next one at pc' -/
def xv_F (M : xv_M) (pc : Nat) (i : Instr) (n pc' : Nat) : Prop := decode M.2.1 pc = .ok (i, n) ∧ pc + n = pc'
/-- a branch -/
def xv_B (M : xv_M) (pc : Nat) (i : Int → Instr) (tgt pc' : Nat) : Prop := ∃ off : Int, decode M.2.1 pc = .ok (i off, 3) ∧ (pc : Int) + off = (tgt : Int) ∧ pc + 3 = pc'
theorem xv_ok_i {sh : xv_Sh} {S : List Value} (h : ∀ v ∈ S, xv_ok sh v) (x : Int32) : ∀ v ∈ Value.int x :: S, xv_ok sh v := List.forall_mem_cons.mpr ⟨trivial, h⟩
theorem xv_ok_l {sh : xv_Sh} {S : List Value} (h : ∀ v ∈ S, xv_ok sh v) (x : Int64) : ∀ v ∈ Value.long x :: S, xv_ok sh v := List.forall_mem_cons.mpr ⟨trivial, h⟩
theorem xv_ok_t {sh : xv_Sh} {S : List Value} {a : Value} (h : ∀ v ∈ a :: S, xv_ok sh v) : ∀ v ∈ S, xv_ok sh v := (List.forall_mem_cons.mp h).2
theorem xv_ok_h {sh : xv_Sh} {S : List Value} {a : Value} (h : ∀ v ∈ a :: S, xv_ok sh v) : xv_ok sh a := (List.forall_mem_cons.mp h).1
end
section
section XVR
variable {M : xv_M} {d mc ms kc ks : Nat} {Q : xv_Q} {sh : xv_Sh} {I : xv_I} {Rf : xv_Rf} {J : xv_J} {pc pc' tgt : Nat} {L : List (Option Value)} {S : List Value}
theorem xv_iadd (hf : xv_F M pc .iadd 1 pc') {x y : Int32} (k : xv_W M d mc ms Q kc ks sh I Rf J pc' L (.int (x + y) :: S)) : xv_W M d mc ms Q kc ks sh I Rf J pc L (.int y :: .int x :: S) := by
  obtain ⟨h1, rfl⟩ := hf
  intro p l e R s m args below meth c D A sh0 ad0 ca0 ad ca H locs cells slots ls C X hw hR hS hL hO hc hs
  exact lv_iadd C.1 C.2.1 h1 (k C X hw hR hS hL (xv_ok_i (xv_ok_t (xv_ok_t hO)) _) hc hs)
theorem xv_isub (hf : xv_F M pc .isub 1 pc') {x y : Int32} (k : xv_W M d mc ms Q kc ks sh I Rf J pc' L (.int (x - y) :: S)) : xv_W M d mc ms Q kc ks sh I Rf J pc L (.int y :: .int x :: S) := by
  obtain ⟨h1, rfl⟩ := hf
  intro p l e R s m args below meth c D A sh0 ad0 ca0 ad ca H locs cells slots ls C X hw hR hS hL hO hc hs
  exact lv_isub C.1 C.2.1 h1 (k C X hw hR hS hL (xv_ok_i (xv_ok_t (xv_ok_t hO)) _) hc hs)
theorem xv_imul (hf : xv_F M pc .imul 1 pc') {x y : Int32} (k : xv_W M d mc ms Q kc ks sh I Rf J pc' L (.int (x * y) :: S)) : xv_W M d mc ms Q kc ks sh I Rf J pc L (.int y :: .int x :: S) := by
  obtain ⟨h1, rfl⟩ := hf
  intro p l e R s m args below meth c D A sh0 ad0 ca0 ad ca H locs cells slots ls C X hw hR hS hL hO hc hs
  exact lv_imul C.1 C.2.1 h1 (k C X hw hR hS hL (xv_ok_i (xv_ok_t (xv_ok_t hO)) _) hc hs)
theorem xv_iand (hf : xv_F M pc .iand 1 pc') {x y : Int32} (k : xv_W M d mc ms Q kc ks sh I Rf J pc' L (.int (x &&& y) :: S)) : xv_W M d mc ms Q kc ks sh I Rf J pc L (.int y :: .int x :: S) := by
  obtain ⟨h1, rfl⟩ := hf
  intro p l e R s m args below meth c D A sh0 ad0 ca0 ad ca H locs cells slots ls C X hw hR hS hL hO hc hs
  exact lv_iand C.1 C.2.1 h1 (k C X hw hR hS hL (xv_ok_i (xv_ok_t (xv_ok_t hO)) _) hc hs)
theorem xv_ior (hf : xv_F M pc .ior 1 pc') {x y : Int32} (k : xv_W M d mc ms Q kc ks sh I Rf J pc' L (.int (x ||| y) :: S)) : xv_W M d mc ms Q kc ks sh I Rf J pc L (.int y :: .int x :: S) := by
  obtain ⟨h1, rfl⟩ := hf
  intro p l e R s m args below meth c D A sh0 ad0 ca0 ad ca H locs cells slots ls C X hw hR hS hL hO hc hs
  exact lv_ior C.1 C.2.1 h1 (k C X hw hR hS hL (xv_ok_i (xv_ok_t (xv_ok_t hO)) _) hc hs)
theorem xv_ixor (hf : xv_F M pc .ixor 1 pc') {x y : Int32} (k : xv_W M d mc ms Q kc ks sh I Rf J pc' L (.int (x ^^^ y) :: S)) : xv_W M d mc ms Q kc ks sh I Rf J pc L (.int y :: .int x :: S) := by
  obtain ⟨h1, rfl⟩ := hf
  intro p l e R s m args below meth c D A sh0 ad0 ca0 ad ca H locs cells slots ls C X hw hR hS hL hO hc hs
  exact lv_ixor C.1 C.2.1 h1 (k C X hw hR hS hL (xv_ok_i (xv_ok_t (xv_ok_t hO)) _) hc hs)
theorem xv_ishl (hf : xv_F M pc .ishl 1 pc') {x y : Int32} (k : xv_W M d mc ms Q kc ks sh I Rf J pc' L (.int (x <<< (y &&& 31)) :: S)) : xv_W M d mc ms Q kc ks sh I Rf J pc L (.int y :: .int x :: S) := by
  obtain ⟨h1, rfl⟩ := hf
  intro p l e R s m args below meth c D A sh0 ad0 ca0 ad ca H locs cells slots ls C X hw hR hS hL hO hc hs
  exact lv_ishl C.1 C.2.1 h1 (k C X hw hR hS hL (xv_ok_i (xv_ok_t (xv_ok_t hO)) _) hc hs)
theorem xv_ishr (hf : xv_F M pc .ishr 1 pc') {x y : Int32} (k : xv_W M d mc ms Q kc ks sh I Rf J pc' L (.int (x >>> (y &&& 31)) :: S)) : xv_W M d mc ms Q kc ks sh I Rf J pc L (.int y :: .int x :: S) := by
  obtain ⟨h1, rfl⟩ := hf
  intro p l e R s m args below meth c D A sh0 ad0 ca0 ad ca H locs cells slots ls C X hw hR hS hL hO hc hs
  exact lv_ishr C.1 C.2.1 h1 (k C X hw hR hS hL (xv_ok_i (xv_ok_t (xv_ok_t hO)) _) hc hs)
theorem xv_iushr (hf : xv_F M pc .iushr 1 pc') {x y : Int32} (k : xv_W M d mc ms Q kc ks sh I Rf J pc' L (.int ((x.toUInt32 >>> (y.toUInt32 &&& Int32.toUInt32 31)).toInt32) :: S)) : xv_W M d mc ms Q kc ks sh I Rf J pc L (.int y :: .int x :: S) := by
  obtain ⟨h1, rfl⟩ := hf
  intro p l e R s m args below meth c D A sh0 ad0 ca0 ad ca H locs cells slots ls C X hw hR hS hL hO hc hs
  exact lv_iushr C.1 C.2.1 h1 rfl (k C X hw hR hS hL (xv_ok_i (xv_ok_t (xv_ok_t hO)) _) hc hs)
theorem xv_idiv (hf : xv_F M pc .idiv 1 pc') {x y : Int32} (hne : ¬ y = 0) (k : xv_W M d mc ms Q kc ks sh I Rf J pc' L (.int (x / y) :: S)) : xv_W M d mc ms Q kc ks sh I Rf J pc L (.int y :: .int x :: S) := by
  obtain ⟨h1, rfl⟩ := hf
  intro p l e R s m args below meth c D A sh0 ad0 ca0 ad ca H locs cells slots ls C X hw hR hS hL hO hc hs
  exact lv_idiv C.1 C.2.1 h1 hne (k C X hw hR hS hL (xv_ok_i (xv_ok_t (xv_ok_t hO)) _) hc hs)
theorem xv_irem (hf : xv_F M pc .irem 1 pc') {x y : Int32} (hne : ¬ y = 0) (k : xv_W M d mc ms Q kc ks sh I Rf J pc' L (.int (x - x / y * y) :: S)) : xv_W M d mc ms Q kc ks sh I Rf J pc L (.int y :: .int x :: S) := by
  obtain ⟨h1, rfl⟩ := hf
  intro p l e R s m args below meth c D A sh0 ad0 ca0 ad ca H locs cells slots ls C X hw hR hS hL hO hc hs
  exact lv_irem C.1 C.2.1 h1 hne (k C X hw hR hS hL (xv_ok_i (xv_ok_t (xv_ok_t hO)) _) hc hs)
theorem xv_ineg (hf : xv_F M pc .ineg 1 pc') {x : Int32} (k : xv_W M d mc ms Q kc ks sh I Rf J pc' L (.int (-x) :: S)) : xv_W M d mc ms Q kc ks sh I Rf J pc L (.int x :: S) := by
  obtain ⟨h1, rfl⟩ := hf
  intro p l e R s m args below meth c D A sh0 ad0 ca0 ad ca H locs cells slots ls C X hw hR hS hL hO hc hs
  exact lv_ineg C.1 C.2.1 h1 (k C X hw hR hS hL (xv_ok_i (xv_ok_t hO) _) hc hs)
theorem xv_i2l (hf : xv_F M pc .i2l 1 pc') {x : Int32} (k : xv_W M d mc ms Q kc ks sh I Rf J pc' L (.long x.toInt64 :: S)) : xv_W M d mc ms Q kc ks sh I Rf J pc L (.int x :: S) := by
  obtain ⟨h1, rfl⟩ := hf
  intro p l e R s m args below meth c D A sh0 ad0 ca0 ad ca H locs cells slots ls C X hw hR hS hL hO hc hs
  exact lv_i2l C.1 C.2.1 h1 rfl (k C X hw hR hS hL (xv_ok_l (xv_ok_t hO) _) hc hs)
theorem xv_lcmp (hf : xv_F M pc .lcmp 1 pc') {x y : Int64} (k : xv_W M d mc ms Q kc ks sh I Rf J pc' L (.int (lg_cmp x y) :: S)) : xv_W M d mc ms Q kc ks sh I Rf J pc L (.long y :: .long x :: S) := by
  obtain ⟨h1, rfl⟩ := hf
  intro p l e R s m args below meth c D A sh0 ad0 ca0 ad ca H locs cells slots ls C X hw hR hS hL hO hc hs
  exact W.lcmp C.1 C.2.1 h1 (k C X hw hR hS hL (xv_ok_i (xv_ok_t (xv_ok_t hO)) _) hc hs)
/-- an instruction that lays a constant -/
def xv_K (M : xv_M) (pc : Nat) (v : Int32) (pc' : Nat) : Prop := (∃ n : Int, decode M.2.1 pc = .ok (.iconst n, 1) ∧ Int32.ofInt n = v ∧ pc + 1 = pc') ∨ (∃ n : Int, decode M.2.1 pc = .ok (.bipush n, 2) ∧ (Int8.ofInt n).toInt32 = v ∧ pc + 2 = pc') ∨ (∃ n : Int, decode M.2.1 pc = .ok (.sipush n, 3) ∧ (Int16.ofInt n).toInt32 = v ∧ pc + 3 = pc') ∨ ∃ n : Nat, decode M.2.1 pc = .ok (.ldc n, 2) ∧ Cond.constant M.1.cls n v ∈ xv_tbl ∧ pc + 2 = pc'
theorem xv_k {v : Int32} (hf : xv_K M pc v pc') (k : xv_W M d mc ms Q kc ks sh I Rf J pc' L (.int v :: S)) : xv_W M d mc ms Q kc ks sh I Rf J pc L S := by
  intro p l e R s m args below meth c D A sh0 ad0 ca0 ad ca H locs cells slots ls C X hw hR hS hL hO hc hs
  rcases hf with ⟨n, h1, h2, rfl⟩ | ⟨n, h1, h2, rfl⟩ | ⟨n, h1, h2, rfl⟩ | ⟨n, h1, h2, rfl⟩
  · exact lv_iconst C.1 C.2.1 h1 h2 (k C X hw hR hS hL (xv_ok_i hO _) hc hs)
  · exact lv_bipush C.1 C.2.1 h1 h2 (k C X hw hR hS hL (xv_ok_i hO _) hc hs)
  · exact lv_sipush C.1 C.2.1 h1 h2 (k C X hw hR hS hL (xv_ok_i hO _) hc hs)
  · exact lv_ldc C.1 C.2.1 C.2.2.2.2.1 (C.2.2.2.2.2.1 _ h2) h1 (k C X hw hR hS hL (xv_ok_i hO _) hc hs)
theorem xv_lconst {n : Fin 2} (hf : xv_F M pc (.lconst n) 1 pc') (k : xv_W M d mc ms Q kc ks sh I Rf J pc' L (.long (Int64.ofNat (n : Nat)) :: S)) : xv_W M d mc ms Q kc ks sh I Rf J pc L S := by
  obtain ⟨h1, rfl⟩ := hf
  intro p l e R s m args below meth c D A sh0 ad0 ca0 ad ca H locs cells slots ls C X hw hR hS hL hO hc hs
  exact lv_lconst C.1 C.2.1 h1 rfl (k C X hw hR hS hL (xv_ok_l hO _) hc hs)
theorem xv_null (hf : xv_F M pc .aconst_null 1 pc') (k : xv_W M d mc ms Q kc ks sh I Rf J pc' L (.null :: S)) : xv_W M d mc ms Q kc ks sh I Rf J pc L S := by
  obtain ⟨h1, rfl⟩ := hf
  intro p l e R s m args below meth c D A sh0 ad0 ca0 ad ca H locs cells slots ls C X hw hR hS hL hO hc hs
  exact lv_null C.1 C.2.1 h1 (k C X hw hR hS hL (List.forall_mem_cons.mpr ⟨trivial, hO⟩) hc hs)
def xv_LI (M : xv_M) (pc i pc' : Nat) : Prop := (∃ k : Fin 4, decode M.2.1 pc = .ok (.iload_n k, 1) ∧ (k : Nat) = i ∧ pc + 1 = pc') ∨ (decode M.2.1 pc = .ok (.iload i, 2) ∧ pc + 2 = pc')
def xv_LA (M : xv_M) (pc i pc' : Nat) : Prop := (∃ k : Fin 4, decode M.2.1 pc = .ok (.aload_n k, 1) ∧ (k : Nat) = i ∧ pc + 1 = pc') ∨ (decode M.2.1 pc = .ok (.aload i, 2) ∧ pc + 2 = pc')
def xv_SI (M : xv_M) (pc i pc' : Nat) : Prop := (∃ k : Fin 4, decode M.2.1 pc = .ok (.istore_n k, 1) ∧ (k : Nat) = i ∧ pc + 1 = pc') ∨ (decode M.2.1 pc = .ok (.istore i, 2) ∧ pc + 2 = pc')
def xv_SA (M : xv_M) (pc i pc' : Nat) : Prop := (∃ k : Fin 4, decode M.2.1 pc = .ok (.astore_n k, 1) ∧ (k : Nat) = i ∧ pc + 1 = pc') ∨ (decode M.2.1 pc = .ok (.astore i, 2) ∧ pc + 2 = pc')
theorem xv_il {i : Nat} {x : Int32} (hf : xv_LI M pc i pc') (hi : L[i]? = some (some (.int x))) (k : xv_W M d mc ms Q kc ks sh I Rf J pc' L (.int x :: S)) : xv_W M d mc ms Q kc ks sh I Rf J pc L S := by
  intro p l e R s m args below meth c D A sh0 ad0 ca0 ad ca H locs cells slots ls C X hw hR hS hL hO hc hs
  rcases hf with ⟨n, h1, h2, rfl⟩ | ⟨h1, rfl⟩
  · exact lv_iload_n C.1 C.2.1 h1 h2 (hL.get hi) (k C X hw hR hS hL (xv_ok_i hO _) hc hs)
  · exact lv_iload C.1 C.2.1 h1 (hL.get hi) (k C X hw hR hS hL (xv_ok_i hO _) hc hs)
theorem xv_al {i : Nat} {x : Nat} (hf : xv_LA M pc i pc') (hi : L[i]? = some (some (.ref x))) (k : xv_W M d mc ms Q kc ks sh I Rf J pc' L (.ref x :: S)) : xv_W M d mc ms Q kc ks sh I Rf J pc L S := by
  intro p l e R s m args below meth c D A sh0 ad0 ca0 ad ca H locs cells slots ls C X hw hR hS hL hO hc hs
  rcases hf with ⟨n, h1, h2, rfl⟩ | ⟨h1, rfl⟩
  · exact lv_aload_n C.1 C.2.1 h1 h2 (hL.get hi) (k C X hw hR hS hL (List.forall_mem_cons.mpr ⟨hL.ok hi, hO⟩) hc hs)
  · exact lv_aload C.1 C.2.1 h1 (hL.get hi) (k C X hw hR hS hL (List.forall_mem_cons.mpr ⟨hL.ok hi, hO⟩) hc hs)
theorem xv_an {i : Nat} (hf : xv_LA M pc i pc') (hi : L[i]? = some (some .null)) (k : xv_W M d mc ms Q kc ks sh I Rf J pc' L (.null :: S)) : xv_W M d mc ms Q kc ks sh I Rf J pc L S := by
  intro p l e R s m args below meth c D A sh0 ad0 ca0 ad ca H locs cells slots ls C X hw hR hS hL hO hc hs
  rcases hf with ⟨n, h1, h2, rfl⟩ | ⟨h1, rfl⟩
  · exact lv_aload_nN C.1 C.2.1 h1 h2 (hL.get hi) (k C X hw hR hS hL (List.forall_mem_cons.mpr ⟨hL.ok hi, hO⟩) hc hs)
  · exact lv_aloadN C.1 C.2.1 h1 (hL.get hi) (k C X hw hR hS hL (List.forall_mem_cons.mpr ⟨hL.ok hi, hO⟩) hc hs)
theorem xv_is {i : Nat} {x : Int32} (hf : xv_SI M pc i pc') (hi : i < L.length) (k : xv_W M d mc ms Q kc ks sh I Rf J pc' (L.set i (some (.int x))) S) : xv_W M d mc ms Q kc ks sh I Rf J pc L (.int x :: S) := by
  intro p l e R s m args below meth c D A sh0 ad0 ca0 ad ca H locs cells slots ls C X hw hR hS hL hO hc hs
  have hi2 : i < M.2.2.1 := hL.2.2 ▸ hi
  rcases hf with ⟨n, h1, h2, rfl⟩ | ⟨h1, rfl⟩
  · exact lv_istore_n C.1 C.2.1 h1 h2 hL.1 hi2 rfl (fun ls' h' => k C X hw hR hS (hL.set rfl trivial h') (xv_ok_t hO) hc hs)
  · exact lv_istore C.1 C.2.1 h1 hL.1 hi2 rfl (fun ls' h' => k C X hw hR hS (hL.set rfl trivial h') (xv_ok_t hO) hc hs)
theorem xv_as {i : Nat} {x : Nat} (hf : xv_SA M pc i pc') (hi : i < L.length) (k : xv_W M d mc ms Q kc ks sh I Rf J pc' (L.set i (some (.ref x))) S) : xv_W M d mc ms Q kc ks sh I Rf J pc L (.ref x :: S) := by
  intro p l e R s m args below meth c D A sh0 ad0 ca0 ad ca H locs cells slots ls C X hw hR hS hL hO hc hs
  have hi2 : i < M.2.2.1 := hL.2.2 ▸ hi
  have ho : xv_ok sh (.ref x) := xv_ok_h hO
  rcases hf with ⟨n, h1, h2, rfl⟩ | ⟨h1, rfl⟩
  · exact lv_astore_n C.1 C.2.1 h1 h2 hL.1 hi2 rfl (fun ls' h' => k C X hw hR hS (hL.set rfl ho h') (xv_ok_t hO) hc hs)
  · exact lv_astore C.1 C.2.1 h1 hL.1 hi2 rfl (fun ls' h' => k C X hw hR hS (hL.set rfl ho h') (xv_ok_t hO) hc hs)
theorem xv_asN {i : Nat} (hf : xv_SA M pc i pc') (hi : i < L.length) (k : xv_W M d mc ms Q kc ks sh I Rf J pc' (L.set i (some .null)) S) : xv_W M d mc ms Q kc ks sh I Rf J pc L (.null :: S) := by
  intro p l e R s m args below meth c D A sh0 ad0 ca0 ad ca H locs cells slots ls C X hw hR hS hL hO hc hs
  have hi2 : i < M.2.2.1 := hL.2.2 ▸ hi
  rcases hf with ⟨n, h1, h2, rfl⟩ | ⟨h1, rfl⟩
  · exact lv_astore_nN C.1 C.2.1 h1 h2 hL.1 hi2 rfl (fun ls' h' => k C X hw hR hS (hL.set rfl trivial h') (xv_ok_t hO) hc hs)
  · exact lv_astoreN C.1 C.2.1 h1 hL.1 hi2 rfl (fun ls' h' => k C X hw hR hS (hL.set rfl trivial h') (xv_ok_t hO) hc hs)
theorem xv_iinc {i : Nat} {n : Int} {x : Int32} (hf : xv_F M pc (.iinc i n) 3 pc') (hi : L[i]? = some (some (.int x))) (k : xv_W M d mc ms Q kc ks sh I Rf J pc' (L.set i (some (.int (x + Int32.ofInt n)))) S) : xv_W M d mc ms Q kc ks sh I Rf J pc L S := by
  obtain ⟨h1, rfl⟩ := hf
  intro p l e R s m args below meth c D A sh0 ad0 ca0 ad ca H locs cells slots ls C X hw hR hS hL hO hc hs
  have hi2 : i < M.2.2.1 := hL.2.2 ▸ (List.getElem?_eq_some_iff.mp hi).1
  obtain ⟨k9, hk9⟩ := List.getElem?_of_mem (xv_lv_mem (ad := ad) hi)
  exact lv_iinc C.1 C.2.1 h1 hL.1 hk9 rfl hi2 rfl (fun ls' h' => k C X hw hR hS (hL.set rfl trivial h') hO hc hs)
theorem xv_il0 {x : Int32} (hf : xv_LI M pc 0 pc') (k : xv_W M d mc ms Q kc ks sh I Rf J pc' (some (.int x) :: L) (.int x :: S)) : xv_W M d mc ms Q kc ks sh I Rf J pc (some (.int x) :: L) S := xv_il hf rfl k
theorem xv_al0 {x : Nat} (hf : xv_LA M pc 0 pc') (k : xv_W M d mc ms Q kc ks sh I Rf J pc' (some (.ref x) :: L) (.ref x :: S)) : xv_W M d mc ms Q kc ks sh I Rf J pc (some (.ref x) :: L) S := xv_al hf rfl k
theorem xv_an0 (hf : xv_LA M pc 0 pc') (k : xv_W M d mc ms Q kc ks sh I Rf J pc' (some .null :: L) (.null :: S)) : xv_W M d mc ms Q kc ks sh I Rf J pc (some .null :: L) S := xv_an hf rfl k
theorem xv_is0 {x : Int32} {z : Option Value} (hf : xv_SI M pc 0 pc') (k : xv_W M d mc ms Q kc ks sh I Rf J pc' (some (.int x) :: L) S) : xv_W M d mc ms Q kc ks sh I Rf J pc (z :: L) (.int x :: S) := xv_is hf (by simp only [List.length_cons]; omega) k
theorem xv_as0 {x : Nat} {z : Option Value} (hf : xv_SA M pc 0 pc') (k : xv_W M d mc ms Q kc ks sh I Rf J pc' (some (.ref x) :: L) S) : xv_W M d mc ms Q kc ks sh I Rf J pc (z :: L) (.ref x :: S) := xv_as hf (by simp only [List.length_cons]; omega) k
theorem xv_asN0 {z : Option Value} (hf : xv_SA M pc 0 pc') (k : xv_W M d mc ms Q kc ks sh I Rf J pc' (some .null :: L) S) : xv_W M d mc ms Q kc ks sh I Rf J pc (z :: L) (.null :: S) := xv_asN hf (by simp only [List.length_cons]; omega) k
theorem xv_iinc0 {n : Int} {x v : Int32} (hf : xv_F M pc (.iinc 0 n) 3 pc') (hv : Int32.ofInt n = v) (k : xv_W M d mc ms Q kc ks sh I Rf J pc' (some (.int (x + v)) :: L) S) : xv_W M d mc ms Q kc ks sh I Rf J pc (some (.int x) :: L) S := by
  subst hv
  exact xv_iinc hf rfl k
theorem xv_il1 {l0 : Option Value} {x : Int32} (hf : xv_LI M pc 1 pc') (k : xv_W M d mc ms Q kc ks sh I Rf J pc' (l0 :: some (.int x) :: L) (.int x :: S)) : xv_W M d mc ms Q kc ks sh I Rf J pc (l0 :: some (.int x) :: L) S := xv_il hf rfl k
theorem xv_al1 {l0 : Option Value} {x : Nat} (hf : xv_LA M pc 1 pc') (k : xv_W M d mc ms Q kc ks sh I Rf J pc' (l0 :: some (.ref x) :: L) (.ref x :: S)) : xv_W M d mc ms Q kc ks sh I Rf J pc (l0 :: some (.ref x) :: L) S := xv_al hf rfl k
theorem xv_an1 {l0 : Option Value} (hf : xv_LA M pc 1 pc') (k : xv_W M d mc ms Q kc ks sh I Rf J pc' (l0 :: some .null :: L) (.null :: S)) : xv_W M d mc ms Q kc ks sh I Rf J pc (l0 :: some .null :: L) S := xv_an hf rfl k
theorem xv_is1 {l0 : Option Value} {x : Int32} {z : Option Value} (hf : xv_SI M pc 1 pc') (k : xv_W M d mc ms Q kc ks sh I Rf J pc' (l0 :: some (.int x) :: L) S) : xv_W M d mc ms Q kc ks sh I Rf J pc (l0 :: z :: L) (.int x :: S) := xv_is hf (by simp only [List.length_cons]; omega) k
theorem xv_as1 {l0 : Option Value} {x : Nat} {z : Option Value} (hf : xv_SA M pc 1 pc') (k : xv_W M d mc ms Q kc ks sh I Rf J pc' (l0 :: some (.ref x) :: L) S) : xv_W M d mc ms Q kc ks sh I Rf J pc (l0 :: z :: L) (.ref x :: S) := xv_as hf (by simp only [List.length_cons]; omega) k
theorem xv_asN1 {l0 : Option Value} {z : Option Value} (hf : xv_SA M pc 1 pc') (k : xv_W M d mc ms Q kc ks sh I Rf J pc' (l0 :: some .null :: L) S) : xv_W M d mc ms Q kc ks sh I Rf J pc (l0 :: z :: L) (.null :: S) := xv_asN hf (by simp only [List.length_cons]; omega) k
theorem xv_iinc1 {l0 : Option Value} {n : Int} {x v : Int32} (hf : xv_F M pc (.iinc 1 n) 3 pc') (hv : Int32.ofInt n = v) (k : xv_W M d mc ms Q kc ks sh I Rf J pc' (l0 :: some (.int (x + v)) :: L) S) : xv_W M d mc ms Q kc ks sh I Rf J pc (l0 :: some (.int x) :: L) S := by
  subst hv
  exact xv_iinc hf rfl k
theorem xv_il2 {l0 l1 : Option Value} {x : Int32} (hf : xv_LI M pc 2 pc') (k : xv_W M d mc ms Q kc ks sh I Rf J pc' (l0 :: l1 :: some (.int x) :: L) (.int x :: S)) : xv_W M d mc ms Q kc ks sh I Rf J pc (l0 :: l1 :: some (.int x) :: L) S := xv_il hf rfl k
theorem xv_al2 {l0 l1 : Option Value} {x : Nat} (hf : xv_LA M pc 2 pc') (k : xv_W M d mc ms Q kc ks sh I Rf J pc' (l0 :: l1 :: some (.ref x) :: L) (.ref x :: S)) : xv_W M d mc ms Q kc ks sh I Rf J pc (l0 :: l1 :: some (.ref x) :: L) S := xv_al hf rfl k
theorem xv_an2 {l0 l1 : Option Value} (hf : xv_LA M pc 2 pc') (k : xv_W M d mc ms Q kc ks sh I Rf J pc' (l0 :: l1 :: some .null :: L) (.null :: S)) : xv_W M d mc ms Q kc ks sh I Rf J pc (l0 :: l1 :: some .null :: L) S := xv_an hf rfl k
theorem xv_is2 {l0 l1 : Option Value} {x : Int32} {z : Option Value} (hf : xv_SI M pc 2 pc') (k : xv_W M d mc ms Q kc ks sh I Rf J pc' (l0 :: l1 :: some (.int x) :: L) S) : xv_W M d mc ms Q kc ks sh I Rf J pc (l0 :: l1 :: z :: L) (.int x :: S) := xv_is hf (by simp only [List.length_cons]; omega) k
theorem xv_as2 {l0 l1 : Option Value} {x : Nat} {z : Option Value} (hf : xv_SA M pc 2 pc') (k : xv_W M d mc ms Q kc ks sh I Rf J pc' (l0 :: l1 :: some (.ref x) :: L) S) : xv_W M d mc ms Q kc ks sh I Rf J pc (l0 :: l1 :: z :: L) (.ref x :: S) := xv_as hf (by simp only [List.length_cons]; omega) k
theorem xv_asN2 {l0 l1 : Option Value} {z : Option Value} (hf : xv_SA M pc 2 pc') (k : xv_W M d mc ms Q kc ks sh I Rf J pc' (l0 :: l1 :: some .null :: L) S) : xv_W M d mc ms Q kc ks sh I Rf J pc (l0 :: l1 :: z :: L) (.null :: S) := xv_asN hf (by simp only [List.length_cons]; omega) k
theorem xv_iinc2 {l0 l1 : Option Value} {n : Int} {x v : Int32} (hf : xv_F M pc (.iinc 2 n) 3 pc') (hv : Int32.ofInt n = v) (k : xv_W M d mc ms Q kc ks sh I Rf J pc' (l0 :: l1 :: some (.int (x + v)) :: L) S) : xv_W M d mc ms Q kc ks sh I Rf J pc (l0 :: l1 :: some (.int x) :: L) S := by
  subst hv
  exact xv_iinc hf rfl k
theorem xv_il3 {l0 l1 l2 : Option Value} {x : Int32} (hf : xv_LI M pc 3 pc') (k : xv_W M d mc ms Q kc ks sh I Rf J pc' (l0 :: l1 :: l2 :: some (.int x) :: L) (.int x :: S)) : xv_W M d mc ms Q kc ks sh I Rf J pc (l0 :: l1 :: l2 :: some (.int x) :: L) S := xv_il hf rfl k
theorem xv_al3 {l0 l1 l2 : Option Value} {x : Nat} (hf : xv_LA M pc 3 pc') (k : xv_W M d mc ms Q kc ks sh I Rf J pc' (l0 :: l1 :: l2 :: some (.ref x) :: L) (.ref x :: S)) : xv_W M d mc ms Q kc ks sh I Rf J pc (l0 :: l1 :: l2 :: some (.ref x) :: L) S := xv_al hf rfl k
theorem xv_an3 {l0 l1 l2 : Option Value} (hf : xv_LA M pc 3 pc') (k : xv_W M d mc ms Q kc ks sh I Rf J pc' (l0 :: l1 :: l2 :: some .null :: L) (.null :: S)) : xv_W M d mc ms Q kc ks sh I Rf J pc (l0 :: l1 :: l2 :: some .null :: L) S := xv_an hf rfl k
theorem xv_is3 {l0 l1 l2 : Option Value} {x : Int32} {z : Option Value} (hf : xv_SI M pc 3 pc') (k : xv_W M d mc ms Q kc ks sh I Rf J pc' (l0 :: l1 :: l2 :: some (.int x) :: L) S) : xv_W M d mc ms Q kc ks sh I Rf J pc (l0 :: l1 :: l2 :: z :: L) (.int x :: S) := xv_is hf (by simp only [List.length_cons]; omega) k
theorem xv_as3 {l0 l1 l2 : Option Value} {x : Nat} {z : Option Value} (hf : xv_SA M pc 3 pc') (k : xv_W M d mc ms Q kc ks sh I Rf J pc' (l0 :: l1 :: l2 :: some (.ref x) :: L) S) : xv_W M d mc ms Q kc ks sh I Rf J pc (l0 :: l1 :: l2 :: z :: L) (.ref x :: S) := xv_as hf (by simp only [List.length_cons]; omega) k
theorem xv_asN3 {l0 l1 l2 : Option Value} {z : Option Value} (hf : xv_SA M pc 3 pc') (k : xv_W M d mc ms Q kc ks sh I Rf J pc' (l0 :: l1 :: l2 :: some .null :: L) S) : xv_W M d mc ms Q kc ks sh I Rf J pc (l0 :: l1 :: l2 :: z :: L) (.null :: S) := xv_asN hf (by simp only [List.length_cons]; omega) k
theorem xv_iinc3 {l0 l1 l2 : Option Value} {n : Int} {x v : Int32} (hf : xv_F M pc (.iinc 3 n) 3 pc') (hv : Int32.ofInt n = v) (k : xv_W M d mc ms Q kc ks sh I Rf J pc' (l0 :: l1 :: l2 :: some (.int (x + v)) :: L) S) : xv_W M d mc ms Q kc ks sh I Rf J pc (l0 :: l1 :: l2 :: some (.int x) :: L) S := by
  subst hv
  exact xv_iinc hf rfl k
theorem xv_il4 {l0 l1 l2 l3 : Option Value} {x : Int32} (hf : xv_LI M pc 4 pc') (k : xv_W M d mc ms Q kc ks sh I Rf J pc' (l0 :: l1 :: l2 :: l3 :: some (.int x) :: L) (.int x :: S)) : xv_W M d mc ms Q kc ks sh I Rf J pc (l0 :: l1 :: l2 :: l3 :: some (.int x) :: L) S := xv_il hf rfl k
theorem xv_al4 {l0 l1 l2 l3 : Option Value} {x : Nat} (hf : xv_LA M pc 4 pc') (k : xv_W M d mc ms Q kc ks sh I Rf J pc' (l0 :: l1 :: l2 :: l3 :: some (.ref x) :: L) (.ref x :: S)) : xv_W M d mc ms Q kc ks sh I Rf J pc (l0 :: l1 :: l2 :: l3 :: some (.ref x) :: L) S := xv_al hf rfl k
theorem xv_an4 {l0 l1 l2 l3 : Option Value} (hf : xv_LA M pc 4 pc') (k : xv_W M d mc ms Q kc ks sh I Rf J pc' (l0 :: l1 :: l2 :: l3 :: some .null :: L) (.null :: S)) : xv_W M d mc ms Q kc ks sh I Rf J pc (l0 :: l1 :: l2 :: l3 :: some .null :: L) S := xv_an hf rfl k
theorem xv_is4 {l0 l1 l2 l3 : Option Value} {x : Int32} {z : Option Value} (hf : xv_SI M pc 4 pc') (k : xv_W M d mc ms Q kc ks sh I Rf J pc' (l0 :: l1 :: l2 :: l3 :: some (.int x) :: L) S) : xv_W M d mc ms Q kc ks sh I Rf J pc (l0 :: l1 :: l2 :: l3 :: z :: L) (.int x :: S) := xv_is hf (by simp only [List.length_cons]; omega) k
theorem xv_as4 {l0 l1 l2 l3 : Option Value} {x : Nat} {z : Option Value} (hf : xv_SA M pc 4 pc') (k : xv_W M d mc ms Q kc ks sh I Rf J pc' (l0 :: l1 :: l2 :: l3 :: some (.ref x) :: L) S) : xv_W M d mc ms Q kc ks sh I Rf J pc (l0 :: l1 :: l2 :: l3 :: z :: L) (.ref x :: S) := xv_as hf (by simp only [List.length_cons]; omega) k
theorem xv_asN4 {l0 l1 l2 l3 : Option Value} {z : Option Value} (hf : xv_SA M pc 4 pc') (k : xv_W M d mc ms Q kc ks sh I Rf J pc' (l0 :: l1 :: l2 :: l3 :: some .null :: L) S) : xv_W M d mc ms Q kc ks sh I Rf J pc (l0 :: l1 :: l2 :: l3 :: z :: L) (.null :: S) := xv_asN hf (by simp only [List.length_cons]; omega) k
theorem xv_iinc4 {l0 l1 l2 l3 : Option Value} {n : Int} {x v : Int32} (hf : xv_F M pc (.iinc 4 n) 3 pc') (hv : Int32.ofInt n = v) (k : xv_W M d mc ms Q kc ks sh I Rf J pc' (l0 :: l1 :: l2 :: l3 :: some (.int (x + v)) :: L) S) : xv_W M d mc ms Q kc ks sh I Rf J pc (l0 :: l1 :: l2 :: l3 :: some (.int x) :: L) S := by
  subst hv
  exact xv_iinc hf rfl k
theorem xv_il5 {l0 l1 l2 l3 l4 : Option Value} {x : Int32} (hf : xv_LI M pc 5 pc') (k : xv_W M d mc ms Q kc ks sh I Rf J pc' (l0 :: l1 :: l2 :: l3 :: l4 :: some (.int x) :: L) (.int x :: S)) : xv_W M d mc ms Q kc ks sh I Rf J pc (l0 :: l1 :: l2 :: l3 :: l4 :: some (.int x) :: L) S := xv_il hf rfl k
theorem xv_al5 {l0 l1 l2 l3 l4 : Option Value} {x : Nat} (hf : xv_LA M pc 5 pc') (k : xv_W M d mc ms Q kc ks sh I Rf J pc' (l0 :: l1 :: l2 :: l3 :: l4 :: some (.ref x) :: L) (.ref x :: S)) : xv_W M d mc ms Q kc ks sh I Rf J pc (l0 :: l1 :: l2 :: l3 :: l4 :: some (.ref x) :: L) S := xv_al hf rfl k
theorem xv_an5 {l0 l1 l2 l3 l4 : Option Value} (hf : xv_LA M pc 5 pc') (k : xv_W M d mc ms Q kc ks sh I Rf J pc' (l0 :: l1 :: l2 :: l3 :: l4 :: some .null :: L) (.null :: S)) : xv_W M d mc ms Q kc ks sh I Rf J pc (l0 :: l1 :: l2 :: l3 :: l4 :: some .null :: L) S := xv_an hf rfl k
theorem xv_is5 {l0 l1 l2 l3 l4 : Option Value} {x : Int32} {z : Option Value} (hf : xv_SI M pc 5 pc') (k : xv_W M d mc ms Q kc ks sh I Rf J pc' (l0 :: l1 :: l2 :: l3 :: l4 :: some (.int x) :: L) S) : xv_W M d mc ms Q kc ks sh I Rf J pc (l0 :: l1 :: l2 :: l3 :: l4 :: z :: L) (.int x :: S) := xv_is hf (by simp only [List.length_cons]; omega) k
theorem xv_as5 {l0 l1 l2 l3 l4 : Option Value} {x : Nat} {z : Option Value} (hf : xv_SA M pc 5 pc') (k : xv_W M d mc ms Q kc ks sh I Rf J pc' (l0 :: l1 :: l2 :: l3 :: l4 :: some (.ref x) :: L) S) : xv_W M d mc ms Q kc ks sh I Rf J pc (l0 :: l1 :: l2 :: l3 :: l4 :: z :: L) (.ref x :: S) := xv_as hf (by simp only [List.length_cons]; omega) k
theorem xv_asN5 {l0 l1 l2 l3 l4 : Option Value} {z : Option Value} (hf : xv_SA M pc 5 pc') (k : xv_W M d mc ms Q kc ks sh I Rf J pc' (l0 :: l1 :: l2 :: l3 :: l4 :: some .null :: L) S) : xv_W M d mc ms Q kc ks sh I Rf J pc (l0 :: l1 :: l2 :: l3 :: l4 :: z :: L) (.null :: S) := xv_asN hf (by simp only [List.length_cons]; omega) k
theorem xv_iinc5 {l0 l1 l2 l3 l4 : Option Value} {n : Int} {x v : Int32} (hf : xv_F M pc (.iinc 5 n) 3 pc') (hv : Int32.ofInt n = v) (k : xv_W M d mc ms Q kc ks sh I Rf J pc' (l0 :: l1 :: l2 :: l3 :: l4 :: some (.int (x + v)) :: L) S) : xv_W M d mc ms Q kc ks sh I Rf J pc (l0 :: l1 :: l2 :: l3 :: l4 :: some (.int x) :: L) S := by
  subst hv
  exact xv_iinc hf rfl k
theorem xv_il6 {l0 l1 l2 l3 l4 l5 : Option Value} {x : Int32} (hf : xv_LI M pc 6 pc') (k : xv_W M d mc ms Q kc ks sh I Rf J pc' (l0 :: l1 :: l2 :: l3 :: l4 :: l5 :: some (.int x) :: L) (.int x :: S)) : xv_W M d mc ms Q kc ks sh I Rf J pc (l0 :: l1 :: l2 :: l3 :: l4 :: l5 :: some (.int x) :: L) S := xv_il hf rfl k
theorem xv_al6 {l0 l1 l2 l3 l4 l5 : Option Value} {x : Nat} (hf : xv_LA M pc 6 pc') (k : xv_W M d mc ms Q kc ks sh I Rf J pc' (l0 :: l1 :: l2 :: l3 :: l4 :: l5 :: some (.ref x) :: L) (.ref x :: S)) : xv_W M d mc ms Q kc ks sh I Rf J pc (l0 :: l1 :: l2 :: l3 :: l4 :: l5 :: some (.ref x) :: L) S := xv_al hf rfl k
theorem xv_an6 {l0 l1 l2 l3 l4 l5 : Option Value} (hf : xv_LA M pc 6 pc') (k : xv_W M d mc ms Q kc ks sh I Rf J pc' (l0 :: l1 :: l2 :: l3 :: l4 :: l5 :: some .null :: L) (.null :: S)) : xv_W M d mc ms Q kc ks sh I Rf J pc (l0 :: l1 :: l2 :: l3 :: l4 :: l5 :: some .null :: L) S := xv_an hf rfl k
theorem xv_is6 {l0 l1 l2 l3 l4 l5 : Option Value} {x : Int32} {z : Option Value} (hf : xv_SI M pc 6 pc') (k : xv_W M d mc ms Q kc ks sh I Rf J pc' (l0 :: l1 :: l2 :: l3 :: l4 :: l5 :: some (.int x) :: L) S) : xv_W M d mc ms Q kc ks sh I Rf J pc (l0 :: l1 :: l2 :: l3 :: l4 :: l5 :: z :: L) (.int x :: S) := xv_is hf (by simp only [List.length_cons]; omega) k
theorem xv_as6 {l0 l1 l2 l3 l4 l5 : Option Value} {x : Nat} {z : Option Value} (hf : xv_SA M pc 6 pc') (k : xv_W M d mc ms Q kc ks sh I Rf J pc' (l0 :: l1 :: l2 :: l3 :: l4 :: l5 :: some (.ref x) :: L) S) : xv_W M d mc ms Q kc ks sh I Rf J pc (l0 :: l1 :: l2 :: l3 :: l4 :: l5 :: z :: L) (.ref x :: S) := xv_as hf (by simp only [List.length_cons]; omega) k
theorem xv_asN6 {l0 l1 l2 l3 l4 l5 : Option Value} {z : Option Value} (hf : xv_SA M pc 6 pc') (k : xv_W M d mc ms Q kc ks sh I Rf J pc' (l0 :: l1 :: l2 :: l3 :: l4 :: l5 :: some .null :: L) S) : xv_W M d mc ms Q kc ks sh I Rf J pc (l0 :: l1 :: l2 :: l3 :: l4 :: l5 :: z :: L) (.null :: S) := xv_asN hf (by simp only [List.length_cons]; omega) k
theorem xv_iinc6 {l0 l1 l2 l3 l4 l5 : Option Value} {n : Int} {x v : Int32} (hf : xv_F M pc (.iinc 6 n) 3 pc') (hv : Int32.ofInt n = v) (k : xv_W M d mc ms Q kc ks sh I Rf J pc' (l0 :: l1 :: l2 :: l3 :: l4 :: l5 :: some (.int (x + v)) :: L) S) : xv_W M d mc ms Q kc ks sh I Rf J pc (l0 :: l1 :: l2 :: l3 :: l4 :: l5 :: some (.int x) :: L) S := by
  subst hv
  exact xv_iinc hf rfl k
theorem xv_il7 {l0 l1 l2 l3 l4 l5 l6 : Option Value} {x : Int32} (hf : xv_LI M pc 7 pc') (k : xv_W M d mc ms Q kc ks sh I Rf J pc' (l0 :: l1 :: l2 :: l3 :: l4 :: l5 :: l6 :: some (.int x) :: L) (.int x :: S)) : xv_W M d mc ms Q kc ks sh I Rf J pc (l0 :: l1 :: l2 :: l3 :: l4 :: l5 :: l6 :: some (.int x) :: L) S := xv_il hf rfl k
theorem xv_al7 {l0 l1 l2 l3 l4 l5 l6 : Option Value} {x : Nat} (hf : xv_LA M pc 7 pc') (k : xv_W M d mc ms Q kc ks sh I Rf J pc' (l0 :: l1 :: l2 :: l3 :: l4 :: l5 :: l6 :: some (.ref x) :: L) (.ref x :: S)) : xv_W M d mc ms Q kc ks sh I Rf J pc (l0 :: l1 :: l2 :: l3 :: l4 :: l5 :: l6 :: some (.ref x) :: L) S := xv_al hf rfl k
theorem xv_an7 {l0 l1 l2 l3 l4 l5 l6 : Option Value} (hf : xv_LA M pc 7 pc') (k : xv_W M d mc ms Q kc ks sh I Rf J pc' (l0 :: l1 :: l2 :: l3 :: l4 :: l5 :: l6 :: some .null :: L) (.null :: S)) : xv_W M d mc ms Q kc ks sh I Rf J pc (l0 :: l1 :: l2 :: l3 :: l4 :: l5 :: l6 :: some .null :: L) S := xv_an hf rfl k
theorem xv_is7 {l0 l1 l2 l3 l4 l5 l6 : Option Value} {x : Int32} {z : Option Value} (hf : xv_SI M pc 7 pc') (k : xv_W M d mc ms Q kc ks sh I Rf J pc' (l0 :: l1 :: l2 :: l3 :: l4 :: l5 :: l6 :: some (.int x) :: L) S) : xv_W M d mc ms Q kc ks sh I Rf J pc (l0 :: l1 :: l2 :: l3 :: l4 :: l5 :: l6 :: z :: L) (.int x :: S) := xv_is hf (by simp only [List.length_cons]; omega) k
theorem xv_as7 {l0 l1 l2 l3 l4 l5 l6 : Option Value} {x : Nat} {z : Option Value} (hf : xv_SA M pc 7 pc') (k : xv_W M d mc ms Q kc ks sh I Rf J pc' (l0 :: l1 :: l2 :: l3 :: l4 :: l5 :: l6 :: some (.ref x) :: L) S) : xv_W M d mc ms Q kc ks sh I Rf J pc (l0 :: l1 :: l2 :: l3 :: l4 :: l5 :: l6 :: z :: L) (.ref x :: S) := xv_as hf (by simp only [List.length_cons]; omega) k
theorem xv_asN7 {l0 l1 l2 l3 l4 l5 l6 : Option Value} {z : Option Value} (hf : xv_SA M pc 7 pc') (k : xv_W M d mc ms Q kc ks sh I Rf J pc' (l0 :: l1 :: l2 :: l3 :: l4 :: l5 :: l6 :: some .null :: L) S) : xv_W M d mc ms Q kc ks sh I Rf J pc (l0 :: l1 :: l2 :: l3 :: l4 :: l5 :: l6 :: z :: L) (.null :: S) := xv_asN hf (by simp only [List.length_cons]; omega) k
theorem xv_iinc7 {l0 l1 l2 l3 l4 l5 l6 : Option Value} {n : Int} {x v : Int32} (hf : xv_F M pc (.iinc 7 n) 3 pc') (hv : Int32.ofInt n = v) (k : xv_W M d mc ms Q kc ks sh I Rf J pc' (l0 :: l1 :: l2 :: l3 :: l4 :: l5 :: l6 :: some (.int (x + v)) :: L) S) : xv_W M d mc ms Q kc ks sh I Rf J pc (l0 :: l1 :: l2 :: l3 :: l4 :: l5 :: l6 :: some (.int x) :: L) S := by
  subst hv
  exact xv_iinc hf rfl k
theorem xv_il8 {l0 l1 l2 l3 l4 l5 l6 l7 : Option Value} {x : Int32} (hf : xv_LI M pc 8 pc') (k : xv_W M d mc ms Q kc ks sh I Rf J pc' (l0 :: l1 :: l2 :: l3 :: l4 :: l5 :: l6 :: l7 :: some (.int x) :: L) (.int x :: S)) : xv_W M d mc ms Q kc ks sh I Rf J pc (l0 :: l1 :: l2 :: l3 :: l4 :: l5 :: l6 :: l7 :: some (.int x) :: L) S := xv_il hf rfl k
theorem xv_al8 {l0 l1 l2 l3 l4 l5 l6 l7 : Option Value} {x : Nat} (hf : xv_LA M pc 8 pc') (k : xv_W M d mc ms Q kc ks sh I Rf J pc' (l0 :: l1 :: l2 :: l3 :: l4 :: l5 :: l6 :: l7 :: some (.ref x) :: L) (.ref x :: S)) : xv_W M d mc ms Q kc ks sh I Rf J pc (l0 :: l1 :: l2 :: l3 :: l4 :: l5 :: l6 :: l7 :: some (.ref x) :: L) S := xv_al hf rfl k
theorem xv_an8 {l0 l1 l2 l3 l4 l5 l6 l7 : Option Value} (hf : xv_LA M pc 8 pc') (k : xv_W M d mc ms Q kc ks sh I Rf J pc' (l0 :: l1 :: l2 :: l3 :: l4 :: l5 :: l6 :: l7 :: some .null :: L) (.null :: S)) : xv_W M d mc ms Q kc ks sh I Rf J pc (l0 :: l1 :: l2 :: l3 :: l4 :: l5 :: l6 :: l7 :: some .null :: L) S := xv_an hf rfl k
theorem xv_is8 {l0 l1 l2 l3 l4 l5 l6 l7 : Option Value} {x : Int32} {z : Option Value} (hf : xv_SI M pc 8 pc') (k : xv_W M d mc ms Q kc ks sh I Rf J pc' (l0 :: l1 :: l2 :: l3 :: l4 :: l5 :: l6 :: l7 :: some (.int x) :: L) S) : xv_W M d mc ms Q kc ks sh I Rf J pc (l0 :: l1 :: l2 :: l3 :: l4 :: l5 :: l6 :: l7 :: z :: L) (.int x :: S) := xv_is hf (by simp only [List.length_cons]; omega) k
theorem xv_as8 {l0 l1 l2 l3 l4 l5 l6 l7 : Option Value} {x : Nat} {z : Option Value} (hf : xv_SA M pc 8 pc') (k : xv_W M d mc ms Q kc ks sh I Rf J pc' (l0 :: l1 :: l2 :: l3 :: l4 :: l5 :: l6 :: l7 :: some (.ref x) :: L) S) : xv_W M d mc ms Q kc ks sh I Rf J pc (l0 :: l1 :: l2 :: l3 :: l4 :: l5 :: l6 :: l7 :: z :: L) (.ref x :: S) := xv_as hf (by simp only [List.length_cons]; omega) k
theorem xv_asN8 {l0 l1 l2 l3 l4 l5 l6 l7 : Option Value} {z : Option Value} (hf : xv_SA M pc 8 pc') (k : xv_W M d mc ms Q kc ks sh I Rf J pc' (l0 :: l1 :: l2 :: l3 :: l4 :: l5 :: l6 :: l7 :: some .null :: L) S) : xv_W M d mc ms Q kc ks sh I Rf J pc (l0 :: l1 :: l2 :: l3 :: l4 :: l5 :: l6 :: l7 :: z :: L) (.null :: S) := xv_asN hf (by simp only [List.length_cons]; omega) k
theorem xv_iinc8 {l0 l1 l2 l3 l4 l5 l6 l7 : Option Value} {n : Int} {x v : Int32} (hf : xv_F M pc (.iinc 8 n) 3 pc') (hv : Int32.ofInt n = v) (k : xv_W M d mc ms Q kc ks sh I Rf J pc' (l0 :: l1 :: l2 :: l3 :: l4 :: l5 :: l6 :: l7 :: some (.int (x + v)) :: L) S) : xv_W M d mc ms Q kc ks sh I Rf J pc (l0 :: l1 :: l2 :: l3 :: l4 :: l5 :: l6 :: l7 :: some (.int x) :: L) S := by
  subst hv
  exact xv_iinc hf rfl k
theorem xv_il9 {l0 l1 l2 l3 l4 l5 l6 l7 l8 : Option Value} {x : Int32} (hf : xv_LI M pc 9 pc') (k : xv_W M d mc ms Q kc ks sh I Rf J pc' (l0 :: l1 :: l2 :: l3 :: l4 :: l5 :: l6 :: l7 :: l8 :: some (.int x) :: L) (.int x :: S)) : xv_W M d mc ms Q kc ks sh I Rf J pc (l0 :: l1 :: l2 :: l3 :: l4 :: l5 :: l6 :: l7 :: l8 :: some (.int x) :: L) S := xv_il hf rfl k
theorem xv_al9 {l0 l1 l2 l3 l4 l5 l6 l7 l8 : Option Value} {x : Nat} (hf : xv_LA M pc 9 pc') (k : xv_W M d mc ms Q kc ks sh I Rf J pc' (l0 :: l1 :: l2 :: l3 :: l4 :: l5 :: l6 :: l7 :: l8 :: some (.ref x) :: L) (.ref x :: S)) : xv_W M d mc ms Q kc ks sh I Rf J pc (l0 :: l1 :: l2 :: l3 :: l4 :: l5 :: l6 :: l7 :: l8 :: some (.ref x) :: L) S := xv_al hf rfl k
theorem xv_an9 {l0 l1 l2 l3 l4 l5 l6 l7 l8 : Option Value} (hf : xv_LA M pc 9 pc') (k : xv_W M d mc ms Q kc ks sh I Rf J pc' (l0 :: l1 :: l2 :: l3 :: l4 :: l5 :: l6 :: l7 :: l8 :: some .null :: L) (.null :: S)) : xv_W M d mc ms Q kc ks sh I Rf J pc (l0 :: l1 :: l2 :: l3 :: l4 :: l5 :: l6 :: l7 :: l8 :: some .null :: L) S := xv_an hf rfl k
theorem xv_is9 {l0 l1 l2 l3 l4 l5 l6 l7 l8 : Option Value} {x : Int32} {z : Option Value} (hf : xv_SI M pc 9 pc') (k : xv_W M d mc ms Q kc ks sh I Rf J pc' (l0 :: l1 :: l2 :: l3 :: l4 :: l5 :: l6 :: l7 :: l8 :: some (.int x) :: L) S) : xv_W M d mc ms Q kc ks sh I Rf J pc (l0 :: l1 :: l2 :: l3 :: l4 :: l5 :: l6 :: l7 :: l8 :: z :: L) (.int x :: S) := xv_is hf (by simp only [List.length_cons]; omega) k
theorem xv_as9 {l0 l1 l2 l3 l4 l5 l6 l7 l8 : Option Value} {x : Nat} {z : Option Value} (hf : xv_SA M pc 9 pc') (k : xv_W M d mc ms Q kc ks sh I Rf J pc' (l0 :: l1 :: l2 :: l3 :: l4 :: l5 :: l6 :: l7 :: l8 :: some (.ref x) :: L) S) : xv_W M d mc ms Q kc ks sh I Rf J pc (l0 :: l1 :: l2 :: l3 :: l4 :: l5 :: l6 :: l7 :: l8 :: z :: L) (.ref x :: S) := xv_as hf (by simp only [List.length_cons]; omega) k
theorem xv_asN9 {l0 l1 l2 l3 l4 l5 l6 l7 l8 : Option Value} {z : Option Value} (hf : xv_SA M pc 9 pc') (k : xv_W M d mc ms Q kc ks sh I Rf J pc' (l0 :: l1 :: l2 :: l3 :: l4 :: l5 :: l6 :: l7 :: l8 :: some .null :: L) S) : xv_W M d mc ms Q kc ks sh I Rf J pc (l0 :: l1 :: l2 :: l3 :: l4 :: l5 :: l6 :: l7 :: l8 :: z :: L) (.null :: S) := xv_asN hf (by simp only [List.length_cons]; omega) k
theorem xv_iinc9 {l0 l1 l2 l3 l4 l5 l6 l7 l8 : Option Value} {n : Int} {x v : Int32} (hf : xv_F M pc (.iinc 9 n) 3 pc') (hv : Int32.ofInt n = v) (k : xv_W M d mc ms Q kc ks sh I Rf J pc' (l0 :: l1 :: l2 :: l3 :: l4 :: l5 :: l6 :: l7 :: l8 :: some (.int (x + v)) :: L) S) : xv_W M d mc ms Q kc ks sh I Rf J pc (l0 :: l1 :: l2 :: l3 :: l4 :: l5 :: l6 :: l7 :: l8 :: some (.int x) :: L) S := by
  subst hv
  exact xv_iinc hf rfl k
theorem xv_il10 {l0 l1 l2 l3 l4 l5 l6 l7 l8 l9 : Option Value} {x : Int32} (hf : xv_LI M pc 10 pc') (k : xv_W M d mc ms Q kc ks sh I Rf J pc' (l0 :: l1 :: l2 :: l3 :: l4 :: l5 :: l6 :: l7 :: l8 :: l9 :: some (.int x) :: L) (.int x :: S)) : xv_W M d mc ms Q kc ks sh I Rf J pc (l0 :: l1 :: l2 :: l3 :: l4 :: l5 :: l6 :: l7 :: l8 :: l9 :: some (.int x) :: L) S := xv_il hf rfl k
theorem xv_al10 {l0 l1 l2 l3 l4 l5 l6 l7 l8 l9 : Option Value} {x : Nat} (hf : xv_LA M pc 10 pc') (k : xv_W M d mc ms Q kc ks sh I Rf J pc' (l0 :: l1 :: l2 :: l3 :: l4 :: l5 :: l6 :: l7 :: l8 :: l9 :: some (.ref x) :: L) (.ref x :: S)) : xv_W M d mc ms Q kc ks sh I Rf J pc (l0 :: l1 :: l2 :: l3 :: l4 :: l5 :: l6 :: l7 :: l8 :: l9 :: some (.ref x) :: L) S := xv_al hf rfl k
theorem xv_an10 {l0 l1 l2 l3 l4 l5 l6 l7 l8 l9 : Option Value} (hf : xv_LA M pc 10 pc') (k : xv_W M d mc ms Q kc ks sh I Rf J pc' (l0 :: l1 :: l2 :: l3 :: l4 :: l5 :: l6 :: l7 :: l8 :: l9 :: some .null :: L) (.null :: S)) : xv_W M d mc ms Q kc ks sh I Rf J pc (l0 :: l1 :: l2 :: l3 :: l4 :: l5 :: l6 :: l7 :: l8 :: l9 :: some .null :: L) S := xv_an hf rfl k
theorem xv_is10 {l0 l1 l2 l3 l4 l5 l6 l7 l8 l9 : Option Value} {x : Int32} {z : Option Value} (hf : xv_SI M pc 10 pc') (k : xv_W M d mc ms Q kc ks sh I Rf J pc' (l0 :: l1 :: l2 :: l3 :: l4 :: l5 :: l6 :: l7 :: l8 :: l9 :: some (.int x) :: L) S) : xv_W M d mc ms Q kc ks sh I Rf J pc (l0 :: l1 :: l2 :: l3 :: l4 :: l5 :: l6 :: l7 :: l8 :: l9 :: z :: L) (.int x :: S) := xv_is hf (by simp only [List.length_cons]; omega) k
theorem xv_as10 {l0 l1 l2 l3 l4 l5 l6 l7 l8 l9 : Option Value} {x : Nat} {z : Option Value} (hf : xv_SA M pc 10 pc') (k : xv_W M d mc ms Q kc ks sh I Rf J pc' (l0 :: l1 :: l2 :: l3 :: l4 :: l5 :: l6 :: l7 :: l8 :: l9 :: some (.ref x) :: L) S) : xv_W M d mc ms Q kc ks sh I Rf J pc (l0 :: l1 :: l2 :: l3 :: l4 :: l5 :: l6 :: l7 :: l8 :: l9 :: z :: L) (.ref x :: S) := xv_as hf (by simp only [List.length_cons]; omega) k
theorem xv_asN10 {l0 l1 l2 l3 l4 l5 l6 l7 l8 l9 : Option Value} {z : Option Value} (hf : xv_SA M pc 10 pc') (k : xv_W M d mc ms Q kc ks sh I Rf J pc' (l0 :: l1 :: l2 :: l3 :: l4 :: l5 :: l6 :: l7 :: l8 :: l9 :: some .null :: L) S) : xv_W M d mc ms Q kc ks sh I Rf J pc (l0 :: l1 :: l2 :: l3 :: l4 :: l5 :: l6 :: l7 :: l8 :: l9 :: z :: L) (.null :: S) := xv_asN hf (by simp only [List.length_cons]; omega) k
theorem xv_iinc10 {l0 l1 l2 l3 l4 l5 l6 l7 l8 l9 : Option Value} {n : Int} {x v : Int32} (hf : xv_F M pc (.iinc 10 n) 3 pc') (hv : Int32.ofInt n = v) (k : xv_W M d mc ms Q kc ks sh I Rf J pc' (l0 :: l1 :: l2 :: l3 :: l4 :: l5 :: l6 :: l7 :: l8 :: l9 :: some (.int (x + v)) :: L) S) : xv_W M d mc ms Q kc ks sh I Rf J pc (l0 :: l1 :: l2 :: l3 :: l4 :: l5 :: l6 :: l7 :: l8 :: l9 :: some (.int x) :: L) S := by
  subst hv
  exact xv_iinc hf rfl k
theorem xv_il11 {l0 l1 l2 l3 l4 l5 l6 l7 l8 l9 l10 : Option Value} {x : Int32} (hf : xv_LI M pc 11 pc') (k : xv_W M d mc ms Q kc ks sh I Rf J pc' (l0 :: l1 :: l2 :: l3 :: l4 :: l5 :: l6 :: l7 :: l8 :: l9 :: l10 :: some (.int x) :: L) (.int x :: S)) : xv_W M d mc ms Q kc ks sh I Rf J pc (l0 :: l1 :: l2 :: l3 :: l4 :: l5 :: l6 :: l7 :: l8 :: l9 :: l10 :: some (.int x) :: L) S := xv_il hf rfl k
theorem xv_al11 {l0 l1 l2 l3 l4 l5 l6 l7 l8 l9 l10 : Option Value} {x : Nat} (hf : xv_LA M pc 11 pc') (k : xv_W M d mc ms Q kc ks sh I Rf J pc' (l0 :: l1 :: l2 :: l3 :: l4 :: l5 :: l6 :: l7 :: l8 :: l9 :: l10 :: some (.ref x) :: L) (.ref x :: S)) : xv_W M d mc ms Q kc ks sh I Rf J pc (l0 :: l1 :: l2 :: l3 :: l4 :: l5 :: l6 :: l7 :: l8 :: l9 :: l10 :: some (.ref x) :: L) S := xv_al hf rfl k
theorem xv_an11 {l0 l1 l2 l3 l4 l5 l6 l7 l8 l9 l10 : Option Value} (hf : xv_LA M pc 11 pc') (k : xv_W M d mc ms Q kc ks sh I Rf J pc' (l0 :: l1 :: l2 :: l3 :: l4 :: l5 :: l6 :: l7 :: l8 :: l9 :: l10 :: some .null :: L) (.null :: S)) : xv_W M d mc ms Q kc ks sh I Rf J pc (l0 :: l1 :: l2 :: l3 :: l4 :: l5 :: l6 :: l7 :: l8 :: l9 :: l10 :: some .null :: L) S := xv_an hf rfl k
theorem xv_is11 {l0 l1 l2 l3 l4 l5 l6 l7 l8 l9 l10 : Option Value} {x : Int32} {z : Option Value} (hf : xv_SI M pc 11 pc') (k : xv_W M d mc ms Q kc ks sh I Rf J pc' (l0 :: l1 :: l2 :: l3 :: l4 :: l5 :: l6 :: l7 :: l8 :: l9 :: l10 :: some (.int x) :: L) S) : xv_W M d mc ms Q kc ks sh I Rf J pc (l0 :: l1 :: l2 :: l3 :: l4 :: l5 :: l6 :: l7 :: l8 :: l9 :: l10 :: z :: L) (.int x :: S) := xv_is hf (by simp only [List.length_cons]; omega) k
theorem xv_as11 {l0 l1 l2 l3 l4 l5 l6 l7 l8 l9 l10 : Option Value} {x : Nat} {z : Option Value} (hf : xv_SA M pc 11 pc') (k : xv_W M d mc ms Q kc ks sh I Rf J pc' (l0 :: l1 :: l2 :: l3 :: l4 :: l5 :: l6 :: l7 :: l8 :: l9 :: l10 :: some (.ref x) :: L) S) : xv_W M d mc ms Q kc ks sh I Rf J pc (l0 :: l1 :: l2 :: l3 :: l4 :: l5 :: l6 :: l7 :: l8 :: l9 :: l10 :: z :: L) (.ref x :: S) := xv_as hf (by simp only [List.length_cons]; omega) k
theorem xv_asN11 {l0 l1 l2 l3 l4 l5 l6 l7 l8 l9 l10 : Option Value} {z : Option Value} (hf : xv_SA M pc 11 pc') (k : xv_W M d mc ms Q kc ks sh I Rf J pc' (l0 :: l1 :: l2 :: l3 :: l4 :: l5 :: l6 :: l7 :: l8 :: l9 :: l10 :: some .null :: L) S) : xv_W M d mc ms Q kc ks sh I Rf J pc (l0 :: l1 :: l2 :: l3 :: l4 :: l5 :: l6 :: l7 :: l8 :: l9 :: l10 :: z :: L) (.null :: S) := xv_asN hf (by simp only [List.length_cons]; omega) k
theorem xv_iinc11 {l0 l1 l2 l3 l4 l5 l6 l7 l8 l9 l10 : Option Value} {n : Int} {x v : Int32} (hf : xv_F M pc (.iinc 11 n) 3 pc') (hv : Int32.ofInt n = v) (k : xv_W M d mc ms Q kc ks sh I Rf J pc' (l0 :: l1 :: l2 :: l3 :: l4 :: l5 :: l6 :: l7 :: l8 :: l9 :: l10 :: some (.int (x + v)) :: L) S) : xv_W M d mc ms Q kc ks sh I Rf J pc (l0 :: l1 :: l2 :: l3 :: l4 :: l5 :: l6 :: l7 :: l8 :: l9 :: l10 :: some (.int x) :: L) S := by
  subst hv
  exact xv_iinc hf rfl k
theorem xv_il12 {l0 l1 l2 l3 l4 l5 l6 l7 l8 l9 l10 l11 : Option Value} {x : Int32} (hf : xv_LI M pc 12 pc') (k : xv_W M d mc ms Q kc ks sh I Rf J pc' (l0 :: l1 :: l2 :: l3 :: l4 :: l5 :: l6 :: l7 :: l8 :: l9 :: l10 :: l11 :: some (.int x) :: L) (.int x :: S)) : xv_W M d mc ms Q kc ks sh I Rf J pc (l0 :: l1 :: l2 :: l3 :: l4 :: l5 :: l6 :: l7 :: l8 :: l9 :: l10 :: l11 :: some (.int x) :: L) S := xv_il hf rfl k
theorem xv_al12 {l0 l1 l2 l3 l4 l5 l6 l7 l8 l9 l10 l11 : Option Value} {x : Nat} (hf : xv_LA M pc 12 pc') (k : xv_W M d mc ms Q kc ks sh I Rf J pc' (l0 :: l1 :: l2 :: l3 :: l4 :: l5 :: l6 :: l7 :: l8 :: l9 :: l10 :: l11 :: some (.ref x) :: L) (.ref x :: S)) : xv_W M d mc ms Q kc ks sh I Rf J pc (l0 :: l1 :: l2 :: l3 :: l4 :: l5 :: l6 :: l7 :: l8 :: l9 :: l10 :: l11 :: some (.ref x) :: L) S := xv_al hf rfl k
theorem xv_an12 {l0 l1 l2 l3 l4 l5 l6 l7 l8 l9 l10 l11 : Option Value} (hf : xv_LA M pc 12 pc') (k : xv_W M d mc ms Q kc ks sh I Rf J pc' (l0 :: l1 :: l2 :: l3 :: l4 :: l5 :: l6 :: l7 :: l8 :: l9 :: l10 :: l11 :: some .null :: L) (.null :: S)) : xv_W M d mc ms Q kc ks sh I Rf J pc (l0 :: l1 :: l2 :: l3 :: l4 :: l5 :: l6 :: l7 :: l8 :: l9 :: l10 :: l11 :: some .null :: L) S := xv_an hf rfl k
theorem xv_is12 {l0 l1 l2 l3 l4 l5 l6 l7 l8 l9 l10 l11 : Option Value} {x : Int32} {z : Option Value} (hf : xv_SI M pc 12 pc') (k : xv_W M d mc ms Q kc ks sh I Rf J pc' (l0 :: l1 :: l2 :: l3 :: l4 :: l5 :: l6 :: l7 :: l8 :: l9 :: l10 :: l11 :: some (.int x) :: L) S) : xv_W M d mc ms Q kc ks sh I Rf J pc (l0 :: l1 :: l2 :: l3 :: l4 :: l5 :: l6 :: l7 :: l8 :: l9 :: l10 :: l11 :: z :: L) (.int x :: S) := xv_is hf (by simp only [List.length_cons]; omega) k
theorem xv_as12 {l0 l1 l2 l3 l4 l5 l6 l7 l8 l9 l10 l11 : Option Value} {x : Nat} {z : Option Value} (hf : xv_SA M pc 12 pc') (k : xv_W M d mc ms Q kc ks sh I Rf J pc' (l0 :: l1 :: l2 :: l3 :: l4 :: l5 :: l6 :: l7 :: l8 :: l9 :: l10 :: l11 :: some (.ref x) :: L) S) : xv_W M d mc ms Q kc ks sh I Rf J pc (l0 :: l1 :: l2 :: l3 :: l4 :: l5 :: l6 :: l7 :: l8 :: l9 :: l10 :: l11 :: z :: L) (.ref x :: S) := xv_as hf (by simp only [List.length_cons]; omega) k
theorem xv_asN12 {l0 l1 l2 l3 l4 l5 l6 l7 l8 l9 l10 l11 : Option Value} {z : Option Value} (hf : xv_SA M pc 12 pc') (k : xv_W M d mc ms Q kc ks sh I Rf J pc' (l0 :: l1 :: l2 :: l3 :: l4 :: l5 :: l6 :: l7 :: l8 :: l9 :: l10 :: l11 :: some .null :: L) S) : xv_W M d mc ms Q kc ks sh I Rf J pc (l0 :: l1 :: l2 :: l3 :: l4 :: l5 :: l6 :: l7 :: l8 :: l9 :: l10 :: l11 :: z :: L) (.null :: S) := xv_asN hf (by simp only [List.length_cons]; omega) k
theorem xv_iinc12 {l0 l1 l2 l3 l4 l5 l6 l7 l8 l9 l10 l11 : Option Value} {n : Int} {x v : Int32} (hf : xv_F M pc (.iinc 12 n) 3 pc') (hv : Int32.ofInt n = v) (k : xv_W M d mc ms Q kc ks sh I Rf J pc' (l0 :: l1 :: l2 :: l3 :: l4 :: l5 :: l6 :: l7 :: l8 :: l9 :: l10 :: l11 :: some (.int (x + v)) :: L) S) : xv_W M d mc ms Q kc ks sh I Rf J pc (l0 :: l1 :: l2 :: l3 :: l4 :: l5 :: l6 :: l7 :: l8 :: l9 :: l10 :: l11 :: some (.int x) :: L) S := by
  subst hv
  exact xv_iinc hf rfl k
theorem xv_il13 {l0 l1 l2 l3 l4 l5 l6 l7 l8 l9 l10 l11 l12 : Option Value} {x : Int32} (hf : xv_LI M pc 13 pc') (k : xv_W M d mc ms Q kc ks sh I Rf J pc' (l0 :: l1 :: l2 :: l3 :: l4 :: l5 :: l6 :: l7 :: l8 :: l9 :: l10 :: l11 :: l12 :: some (.int x) :: L) (.int x :: S)) : xv_W M d mc ms Q kc ks sh I Rf J pc (l0 :: l1 :: l2 :: l3 :: l4 :: l5 :: l6 :: l7 :: l8 :: l9 :: l10 :: l11 :: l12 :: some (.int x) :: L) S := xv_il hf rfl k
theorem xv_al13 {l0 l1 l2 l3 l4 l5 l6 l7 l8 l9 l10 l11 l12 : Option Value} {x : Nat} (hf : xv_LA M pc 13 pc') (k : xv_W M d mc ms Q kc ks sh I Rf J pc' (l0 :: l1 :: l2 :: l3 :: l4 :: l5 :: l6 :: l7 :: l8 :: l9 :: l10 :: l11 :: l12 :: some (.ref x) :: L) (.ref x :: S)) : xv_W M d mc ms Q kc ks sh I Rf J pc (l0 :: l1 :: l2 :: l3 :: l4 :: l5 :: l6 :: l7 :: l8 :: l9 :: l10 :: l11 :: l12 :: some (.ref x) :: L) S := xv_al hf rfl k
theorem xv_an13 {l0 l1 l2 l3 l4 l5 l6 l7 l8 l9 l10 l11 l12 : Option Value} (hf : xv_LA M pc 13 pc') (k : xv_W M d mc ms Q kc ks sh I Rf J pc' (l0 :: l1 :: l2 :: l3 :: l4 :: l5 :: l6 :: l7 :: l8 :: l9 :: l10 :: l11 :: l12 :: some .null :: L) (.null :: S)) : xv_W M d mc ms Q kc ks sh I Rf J pc (l0 :: l1 :: l2 :: l3 :: l4 :: l5 :: l6 :: l7 :: l8 :: l9 :: l10 :: l11 :: l12 :: some .null :: L) S := xv_an hf rfl k
theorem xv_is13 {l0 l1 l2 l3 l4 l5 l6 l7 l8 l9 l10 l11 l12 : Option Value} {x : Int32} {z : Option Value} (hf : xv_SI M pc 13 pc') (k : xv_W M d mc ms Q kc ks sh I Rf J pc' (l0 :: l1 :: l2 :: l3 :: l4 :: l5 :: l6 :: l7 :: l8 :: l9 :: l10 :: l11 :: l12 :: some (.int x) :: L) S) : xv_W M d mc ms Q kc ks sh I Rf J pc (l0 :: l1 :: l2 :: l3 :: l4 :: l5 :: l6 :: l7 :: l8 :: l9 :: l10 :: l11 :: l12 :: z :: L) (.int x :: S) := xv_is hf (by simp only [List.length_cons]; omega) k
theorem xv_as13 {l0 l1 l2 l3 l4 l5 l6 l7 l8 l9 l10 l11 l12 : Option Value} {x : Nat} {z : Option Value} (hf : xv_SA M pc 13 pc') (k : xv_W M d mc ms Q kc ks sh I Rf J pc' (l0 :: l1 :: l2 :: l3 :: l4 :: l5 :: l6 :: l7 :: l8 :: l9 :: l10 :: l11 :: l12 :: some (.ref x) :: L) S) : xv_W M d mc ms Q kc ks sh I Rf J pc (l0 :: l1 :: l2 :: l3 :: l4 :: l5 :: l6 :: l7 :: l8 :: l9 :: l10 :: l11 :: l12 :: z :: L) (.ref x :: S) := xv_as hf (by simp only [List.length_cons]; omega) k
theorem xv_asN13 {l0 l1 l2 l3 l4 l5 l6 l7 l8 l9 l10 l11 l12 : Option Value} {z : Option Value} (hf : xv_SA M pc 13 pc') (k : xv_W M d mc ms Q kc ks sh I Rf J pc' (l0 :: l1 :: l2 :: l3 :: l4 :: l5 :: l6 :: l7 :: l8 :: l9 :: l10 :: l11 :: l12 :: some .null :: L) S) : xv_W M d mc ms Q kc ks sh I Rf J pc (l0 :: l1 :: l2 :: l3 :: l4 :: l5 :: l6 :: l7 :: l8 :: l9 :: l10 :: l11 :: l12 :: z :: L) (.null :: S) := xv_asN hf (by simp only [List.length_cons]; omega) k
theorem xv_iinc13 {l0 l1 l2 l3 l4 l5 l6 l7 l8 l9 l10 l11 l12 : Option Value} {n : Int} {x v : Int32} (hf : xv_F M pc (.iinc 13 n) 3 pc') (hv : Int32.ofInt n = v) (k : xv_W M d mc ms Q kc ks sh I Rf J pc' (l0 :: l1 :: l2 :: l3 :: l4 :: l5 :: l6 :: l7 :: l8 :: l9 :: l10 :: l11 :: l12 :: some (.int (x + v)) :: L) S) : xv_W M d mc ms Q kc ks sh I Rf J pc (l0 :: l1 :: l2 :: l3 :: l4 :: l5 :: l6 :: l7 :: l8 :: l9 :: l10 :: l11 :: l12 :: some (.int x) :: L) S := by
  subst hv
  exact xv_iinc hf rfl k
theorem xv_il14 {l0 l1 l2 l3 l4 l5 l6 l7 l8 l9 l10 l11 l12 l13 : Option Value} {x : Int32} (hf : xv_LI M pc 14 pc') (k : xv_W M d mc ms Q kc ks sh I Rf J pc' (l0 :: l1 :: l2 :: l3 :: l4 :: l5 :: l6 :: l7 :: l8 :: l9 :: l10 :: l11 :: l12 :: l13 :: some (.int x) :: L) (.int x :: S)) : xv_W M d mc ms Q kc ks sh I Rf J pc (l0 :: l1 :: l2 :: l3 :: l4 :: l5 :: l6 :: l7 :: l8 :: l9 :: l10 :: l11 :: l12 :: l13 :: some (.int x) :: L) S := xv_il hf rfl k
theorem xv_al14 {l0 l1 l2 l3 l4 l5 l6 l7 l8 l9 l10 l11 l12 l13 : Option Value} {x : Nat} (hf : xv_LA M pc 14 pc') (k : xv_W M d mc ms Q kc ks sh I Rf J pc' (l0 :: l1 :: l2 :: l3 :: l4 :: l5 :: l6 :: l7 :: l8 :: l9 :: l10 :: l11 :: l12 :: l13 :: some (.ref x) :: L) (.ref x :: S)) : xv_W M d mc ms Q kc ks sh I Rf J pc (l0 :: l1 :: l2 :: l3 :: l4 :: l5 :: l6 :: l7 :: l8 :: l9 :: l10 :: l11 :: l12 :: l13 :: some (.ref x) :: L) S := xv_al hf rfl k
theorem xv_an14 {l0 l1 l2 l3 l4 l5 l6 l7 l8 l9 l10 l11 l12 l13 : Option Value} (hf : xv_LA M pc 14 pc') (k : xv_W M d mc ms Q kc ks sh I Rf J pc' (l0 :: l1 :: l2 :: l3 :: l4 :: l5 :: l6 :: l7 :: l8 :: l9 :: l10 :: l11 :: l12 :: l13 :: some .null :: L) (.null :: S)) : xv_W M d mc ms Q kc ks sh I Rf J pc (l0 :: l1 :: l2 :: l3 :: l4 :: l5 :: l6 :: l7 :: l8 :: l9 :: l10 :: l11 :: l12 :: l13 :: some .null :: L) S := xv_an hf rfl k
theorem xv_is14 {l0 l1 l2 l3 l4 l5 l6 l7 l8 l9 l10 l11 l12 l13 : Option Value} {x : Int32} {z : Option Value} (hf : xv_SI M pc 14 pc') (k : xv_W M d mc ms Q kc ks sh I Rf J pc' (l0 :: l1 :: l2 :: l3 :: l4 :: l5 :: l6 :: l7 :: l8 :: l9 :: l10 :: l11 :: l12 :: l13 :: some (.int x) :: L) S) : xv_W M d mc ms Q kc ks sh I Rf J pc (l0 :: l1 :: l2 :: l3 :: l4 :: l5 :: l6 :: l7 :: l8 :: l9 :: l10 :: l11 :: l12 :: l13 :: z :: L) (.int x :: S) := xv_is hf (by simp only [List.length_cons]; omega) k
theorem xv_as14 {l0 l1 l2 l3 l4 l5 l6 l7 l8 l9 l10 l11 l12 l13 : Option Value} {x : Nat} {z : Option Value} (hf : xv_SA M pc 14 pc') (k : xv_W M d mc ms Q kc ks sh I Rf J pc' (l0 :: l1 :: l2 :: l3 :: l4 :: l5 :: l6 :: l7 :: l8 :: l9 :: l10 :: l11 :: l12 :: l13 :: some (.ref x) :: L) S) : xv_W M d mc ms Q kc ks sh I Rf J pc (l0 :: l1 :: l2 :: l3 :: l4 :: l5 :: l6 :: l7 :: l8 :: l9 :: l10 :: l11 :: l12 :: l13 :: z :: L) (.ref x :: S) := xv_as hf (by simp only [List.length_cons]; omega) k
theorem xv_asN14 {l0 l1 l2 l3 l4 l5 l6 l7 l8 l9 l10 l11 l12 l13 : Option Value} {z : Option Value} (hf : xv_SA M pc 14 pc') (k : xv_W M d mc ms Q kc ks sh I Rf J pc' (l0 :: l1 :: l2 :: l3 :: l4 :: l5 :: l6 :: l7 :: l8 :: l9 :: l10 :: l11 :: l12 :: l13 :: some .null :: L) S) : xv_W M d mc ms Q kc ks sh I Rf J pc (l0 :: l1 :: l2 :: l3 :: l4 :: l5 :: l6 :: l7 :: l8 :: l9 :: l10 :: l11 :: l12 :: l13 :: z :: L) (.null :: S) := xv_asN hf (by simp only [List.length_cons]; omega) k
theorem xv_iinc14 {l0 l1 l2 l3 l4 l5 l6 l7 l8 l9 l10 l11 l12 l13 : Option Value} {n : Int} {x v : Int32} (hf : xv_F M pc (.iinc 14 n) 3 pc') (hv : Int32.ofInt n = v) (k : xv_W M d mc ms Q kc ks sh I Rf J pc' (l0 :: l1 :: l2 :: l3 :: l4 :: l5 :: l6 :: l7 :: l8 :: l9 :: l10 :: l11 :: l12 :: l13 :: some (.int (x + v)) :: L) S) : xv_W M d mc ms Q kc ks sh I Rf J pc (l0 :: l1 :: l2 :: l3 :: l4 :: l5 :: l6 :: l7 :: l8 :: l9 :: l10 :: l11 :: l12 :: l13 :: some (.int x) :: L) S := by
  subst hv
  exact xv_iinc hf rfl k
theorem xv_il15 {l0 l1 l2 l3 l4 l5 l6 l7 l8 l9 l10 l11 l12 l13 l14 : Option Value} {x : Int32} (hf : xv_LI M pc 15 pc') (k : xv_W M d mc ms Q kc ks sh I Rf J pc' (l0 :: l1 :: l2 :: l3 :: l4 :: l5 :: l6 :: l7 :: l8 :: l9 :: l10 :: l11 :: l12 :: l13 :: l14 :: some (.int x) :: L) (.int x :: S)) : xv_W M d mc ms Q kc ks sh I Rf J pc (l0 :: l1 :: l2 :: l3 :: l4 :: l5 :: l6 :: l7 :: l8 :: l9 :: l10 :: l11 :: l12 :: l13 :: l14 :: some (.int x) :: L) S := xv_il hf rfl k
theorem xv_al15 {l0 l1 l2 l3 l4 l5 l6 l7 l8 l9 l10 l11 l12 l13 l14 : Option Value} {x : Nat} (hf : xv_LA M pc 15 pc') (k : xv_W M d mc ms Q kc ks sh I Rf J pc' (l0 :: l1 :: l2 :: l3 :: l4 :: l5 :: l6 :: l7 :: l8 :: l9 :: l10 :: l11 :: l12 :: l13 :: l14 :: some (.ref x) :: L) (.ref x :: S)) : xv_W M d mc ms Q kc ks sh I Rf J pc (l0 :: l1 :: l2 :: l3 :: l4 :: l5 :: l6 :: l7 :: l8 :: l9 :: l10 :: l11 :: l12 :: l13 :: l14 :: some (.ref x) :: L) S := xv_al hf rfl k
theorem xv_an15 {l0 l1 l2 l3 l4 l5 l6 l7 l8 l9 l10 l11 l12 l13 l14 : Option Value} (hf : xv_LA M pc 15 pc') (k : xv_W M d mc ms Q kc ks sh I Rf J pc' (l0 :: l1 :: l2 :: l3 :: l4 :: l5 :: l6 :: l7 :: l8 :: l9 :: l10 :: l11 :: l12 :: l13 :: l14 :: some .null :: L) (.null :: S)) : xv_W M d mc ms Q kc ks sh I Rf J pc (l0 :: l1 :: l2 :: l3 :: l4 :: l5 :: l6 :: l7 :: l8 :: l9 :: l10 :: l11 :: l12 :: l13 :: l14 :: some .null :: L) S := xv_an hf rfl k
theorem xv_is15 {l0 l1 l2 l3 l4 l5 l6 l7 l8 l9 l10 l11 l12 l13 l14 : Option Value} {x : Int32} {z : Option Value} (hf : xv_SI M pc 15 pc') (k : xv_W M d mc ms Q kc ks sh I Rf J pc' (l0 :: l1 :: l2 :: l3 :: l4 :: l5 :: l6 :: l7 :: l8 :: l9 :: l10 :: l11 :: l12 :: l13 :: l14 :: some (.int x) :: L) S) : xv_W M d mc ms Q kc ks sh I Rf J pc (l0 :: l1 :: l2 :: l3 :: l4 :: l5 :: l6 :: l7 :: l8 :: l9 :: l10 :: l11 :: l12 :: l13 :: l14 :: z :: L) (.int x :: S) := xv_is hf (by simp only [List.length_cons]; omega) k
theorem xv_as15 {l0 l1 l2 l3 l4 l5 l6 l7 l8 l9 l10 l11 l12 l13 l14 : Option Value} {x : Nat} {z : Option Value} (hf : xv_SA M pc 15 pc') (k : xv_W M d mc ms Q kc ks sh I Rf J pc' (l0 :: l1 :: l2 :: l3 :: l4 :: l5 :: l6 :: l7 :: l8 :: l9 :: l10 :: l11 :: l12 :: l13 :: l14 :: some (.ref x) :: L) S) : xv_W M d mc ms Q kc ks sh I Rf J pc (l0 :: l1 :: l2 :: l3 :: l4 :: l5 :: l6 :: l7 :: l8 :: l9 :: l10 :: l11 :: l12 :: l13 :: l14 :: z :: L) (.ref x :: S) := xv_as hf (by simp only [List.length_cons]; omega) k
theorem xv_asN15 {l0 l1 l2 l3 l4 l5 l6 l7 l8 l9 l10 l11 l12 l13 l14 : Option Value} {z : Option Value} (hf : xv_SA M pc 15 pc') (k : xv_W M d mc ms Q kc ks sh I Rf J pc' (l0 :: l1 :: l2 :: l3 :: l4 :: l5 :: l6 :: l7 :: l8 :: l9 :: l10 :: l11 :: l12 :: l13 :: l14 :: some .null :: L) S) : xv_W M d mc ms Q kc ks sh I Rf J pc (l0 :: l1 :: l2 :: l3 :: l4 :: l5 :: l6 :: l7 :: l8 :: l9 :: l10 :: l11 :: l12 :: l13 :: l14 :: z :: L) (.null :: S) := xv_asN hf (by simp only [List.length_cons]; omega) k
theorem xv_iinc15 {l0 l1 l2 l3 l4 l5 l6 l7 l8 l9 l10 l11 l12 l13 l14 : Option Value} {n : Int} {x v : Int32} (hf : xv_F M pc (.iinc 15 n) 3 pc') (hv : Int32.ofInt n = v) (k : xv_W M d mc ms Q kc ks sh I Rf J pc' (l0 :: l1 :: l2 :: l3 :: l4 :: l5 :: l6 :: l7 :: l8 :: l9 :: l10 :: l11 :: l12 :: l13 :: l14 :: some (.int (x + v)) :: L) S) : xv_W M d mc ms Q kc ks sh I Rf J pc (l0 :: l1 :: l2 :: l3 :: l4 :: l5 :: l6 :: l7 :: l8 :: l9 :: l10 :: l11 :: l12 :: l13 :: l14 :: some (.int x) :: L) S := by
  subst hv
  exact xv_iinc hf rfl k
theorem xv_il16 {l0 l1 l2 l3 l4 l5 l6 l7 l8 l9 l10 l11 l12 l13 l14 l15 : Option Value} {x : Int32} (hf : xv_LI M pc 16 pc') (k : xv_W M d mc ms Q kc ks sh I Rf J pc' (l0 :: l1 :: l2 :: l3 :: l4 :: l5 :: l6 :: l7 :: l8 :: l9 :: l10 :: l11 :: l12 :: l13 :: l14 :: l15 :: some (.int x) :: L) (.int x :: S)) : xv_W M d mc ms Q kc ks sh I Rf J pc (l0 :: l1 :: l2 :: l3 :: l4 :: l5 :: l6 :: l7 :: l8 :: l9 :: l10 :: l11 :: l12 :: l13 :: l14 :: l15 :: some (.int x) :: L) S := xv_il hf rfl k
theorem xv_al16 {l0 l1 l2 l3 l4 l5 l6 l7 l8 l9 l10 l11 l12 l13 l14 l15 : Option Value} {x : Nat} (hf : xv_LA M pc 16 pc') (k : xv_W M d mc ms Q kc ks sh I Rf J pc' (l0 :: l1 :: l2 :: l3 :: l4 :: l5 :: l6 :: l7 :: l8 :: l9 :: l10 :: l11 :: l12 :: l13 :: l14 :: l15 :: some (.ref x) :: L) (.ref x :: S)) : xv_W M d mc ms Q kc ks sh I Rf J pc (l0 :: l1 :: l2 :: l3 :: l4 :: l5 :: l6 :: l7 :: l8 :: l9 :: l10 :: l11 :: l12 :: l13 :: l14 :: l15 :: some (.ref x) :: L) S := xv_al hf rfl k
theorem xv_an16 {l0 l1 l2 l3 l4 l5 l6 l7 l8 l9 l10 l11 l12 l13 l14 l15 : Option Value} (hf : xv_LA M pc 16 pc') (k : xv_W M d mc ms Q kc ks sh I Rf J pc' (l0 :: l1 :: l2 :: l3 :: l4 :: l5 :: l6 :: l7 :: l8 :: l9 :: l10 :: l11 :: l12 :: l13 :: l14 :: l15 :: some .null :: L) (.null :: S)) : xv_W M d mc ms Q kc ks sh I Rf J pc (l0 :: l1 :: l2 :: l3 :: l4 :: l5 :: l6 :: l7 :: l8 :: l9 :: l10 :: l11 :: l12 :: l13 :: l14 :: l15 :: some .null :: L) S := xv_an hf rfl k
theorem xv_is16 {l0 l1 l2 l3 l4 l5 l6 l7 l8 l9 l10 l11 l12 l13 l14 l15 : Option Value} {x : Int32} {z : Option Value} (hf : xv_SI M pc 16 pc') (k : xv_W M d mc ms Q kc ks sh I Rf J pc' (l0 :: l1 :: l2 :: l3 :: l4 :: l5 :: l6 :: l7 :: l8 :: l9 :: l10 :: l11 :: l12 :: l13 :: l14 :: l15 :: some (.int x) :: L) S) : xv_W M d mc ms Q kc ks sh I Rf J pc (l0 :: l1 :: l2 :: l3 :: l4 :: l5 :: l6 :: l7 :: l8 :: l9 :: l10 :: l11 :: l12 :: l13 :: l14 :: l15 :: z :: L) (.int x :: S) := xv_is hf (by simp only [List.length_cons]; omega) k
theorem xv_as16 {l0 l1 l2 l3 l4 l5 l6 l7 l8 l9 l10 l11 l12 l13 l14 l15 : Option Value} {x : Nat} {z : Option Value} (hf : xv_SA M pc 16 pc') (k : xv_W M d mc ms Q kc ks sh I Rf J pc' (l0 :: l1 :: l2 :: l3 :: l4 :: l5 :: l6 :: l7 :: l8 :: l9 :: l10 :: l11 :: l12 :: l13 :: l14 :: l15 :: some (.ref x) :: L) S) : xv_W M d mc ms Q kc ks sh I Rf J pc (l0 :: l1 :: l2 :: l3 :: l4 :: l5 :: l6 :: l7 :: l8 :: l9 :: l10 :: l11 :: l12 :: l13 :: l14 :: l15 :: z :: L) (.ref x :: S) := xv_as hf (by simp only [List.length_cons]; omega) k
theorem xv_asN16 {l0 l1 l2 l3 l4 l5 l6 l7 l8 l9 l10 l11 l12 l13 l14 l15 : Option Value} {z : Option Value} (hf : xv_SA M pc 16 pc') (k : xv_W M d mc ms Q kc ks sh I Rf J pc' (l0 :: l1 :: l2 :: l3 :: l4 :: l5 :: l6 :: l7 :: l8 :: l9 :: l10 :: l11 :: l12 :: l13 :: l14 :: l15 :: some .null :: L) S) : xv_W M d mc ms Q kc ks sh I Rf J pc (l0 :: l1 :: l2 :: l3 :: l4 :: l5 :: l6 :: l7 :: l8 :: l9 :: l10 :: l11 :: l12 :: l13 :: l14 :: l15 :: z :: L) (.null :: S) := xv_asN hf (by simp only [List.length_cons]; omega) k
theorem xv_iinc16 {l0 l1 l2 l3 l4 l5 l6 l7 l8 l9 l10 l11 l12 l13 l14 l15 : Option Value} {n : Int} {x v : Int32} (hf : xv_F M pc (.iinc 16 n) 3 pc') (hv : Int32.ofInt n = v) (k : xv_W M d mc ms Q kc ks sh I Rf J pc' (l0 :: l1 :: l2 :: l3 :: l4 :: l5 :: l6 :: l7 :: l8 :: l9 :: l10 :: l11 :: l12 :: l13 :: l14 :: l15 :: some (.int (x + v)) :: L) S) : xv_W M d mc ms Q kc ks sh I Rf J pc (l0 :: l1 :: l2 :: l3 :: l4 :: l5 :: l6 :: l7 :: l8 :: l9 :: l10 :: l11 :: l12 :: l13 :: l14 :: l15 :: some (.int x) :: L) S := by
  subst hv
  exact xv_iinc hf rfl k
theorem xv_il17 {l0 l1 l2 l3 l4 l5 l6 l7 l8 l9 l10 l11 l12 l13 l14 l15 l16 : Option Value} {x : Int32} (hf : xv_LI M pc 17 pc') (k : xv_W M d mc ms Q kc ks sh I Rf J pc' (l0 :: l1 :: l2 :: l3 :: l4 :: l5 :: l6 :: l7 :: l8 :: l9 :: l10 :: l11 :: l12 :: l13 :: l14 :: l15 :: l16 :: some (.int x) :: L) (.int x :: S)) : xv_W M d mc ms Q kc ks sh I Rf J pc (l0 :: l1 :: l2 :: l3 :: l4 :: l5 :: l6 :: l7 :: l8 :: l9 :: l10 :: l11 :: l12 :: l13 :: l14 :: l15 :: l16 :: some (.int x) :: L) S := xv_il hf rfl k
theorem xv_al17 {l0 l1 l2 l3 l4 l5 l6 l7 l8 l9 l10 l11 l12 l13 l14 l15 l16 : Option Value} {x : Nat} (hf : xv_LA M pc 17 pc') (k : xv_W M d mc ms Q kc ks sh I Rf J pc' (l0 :: l1 :: l2 :: l3 :: l4 :: l5 :: l6 :: l7 :: l8 :: l9 :: l10 :: l11 :: l12 :: l13 :: l14 :: l15 :: l16 :: some (.ref x) :: L) (.ref x :: S)) : xv_W M d mc ms Q kc ks sh I Rf J pc (l0 :: l1 :: l2 :: l3 :: l4 :: l5 :: l6 :: l7 :: l8 :: l9 :: l10 :: l11 :: l12 :: l13 :: l14 :: l15 :: l16 :: some (.ref x) :: L) S := xv_al hf rfl k
theorem xv_an17 {l0 l1 l2 l3 l4 l5 l6 l7 l8 l9 l10 l11 l12 l13 l14 l15 l16 : Option Value} (hf : xv_LA M pc 17 pc') (k : xv_W M d mc ms Q kc ks sh I Rf J pc' (l0 :: l1 :: l2 :: l3 :: l4 :: l5 :: l6 :: l7 :: l8 :: l9 :: l10 :: l11 :: l12 :: l13 :: l14 :: l15 :: l16 :: some .null :: L) (.null :: S)) : xv_W M d mc ms Q kc ks sh I Rf J pc (l0 :: l1 :: l2 :: l3 :: l4 :: l5 :: l6 :: l7 :: l8 :: l9 :: l10 :: l11 :: l12 :: l13 :: l14 :: l15 :: l16 :: some .null :: L) S := xv_an hf rfl k
theorem xv_is17 {l0 l1 l2 l3 l4 l5 l6 l7 l8 l9 l10 l11 l12 l13 l14 l15 l16 : Option Value} {x : Int32} {z : Option Value} (hf : xv_SI M pc 17 pc') (k : xv_W M d mc ms Q kc ks sh I Rf J pc' (l0 :: l1 :: l2 :: l3 :: l4 :: l5 :: l6 :: l7 :: l8 :: l9 :: l10 :: l11 :: l12 :: l13 :: l14 :: l15 :: l16 :: some (.int x) :: L) S) : xv_W M d mc ms Q kc ks sh I Rf J pc (l0 :: l1 :: l2 :: l3 :: l4 :: l5 :: l6 :: l7 :: l8 :: l9 :: l10 :: l11 :: l12 :: l13 :: l14 :: l15 :: l16 :: z :: L) (.int x :: S) := xv_is hf (by simp only [List.length_cons]; omega) k
theorem xv_as17 {l0 l1 l2 l3 l4 l5 l6 l7 l8 l9 l10 l11 l12 l13 l14 l15 l16 : Option Value} {x : Nat} {z : Option Value} (hf : xv_SA M pc 17 pc') (k : xv_W M d mc ms Q kc ks sh I Rf J pc' (l0 :: l1 :: l2 :: l3 :: l4 :: l5 :: l6 :: l7 :: l8 :: l9 :: l10 :: l11 :: l12 :: l13 :: l14 :: l15 :: l16 :: some (.ref x) :: L) S) : xv_W M d mc ms Q kc ks sh I Rf J pc (l0 :: l1 :: l2 :: l3 :: l4 :: l5 :: l6 :: l7 :: l8 :: l9 :: l10 :: l11 :: l12 :: l13 :: l14 :: l15 :: l16 :: z :: L) (.ref x :: S) := xv_as hf (by simp only [List.length_cons]; omega) k
theorem xv_asN17 {l0 l1 l2 l3 l4 l5 l6 l7 l8 l9 l10 l11 l12 l13 l14 l15 l16 : Option Value} {z : Option Value} (hf : xv_SA M pc 17 pc') (k : xv_W M d mc ms Q kc ks sh I Rf J pc' (l0 :: l1 :: l2 :: l3 :: l4 :: l5 :: l6 :: l7 :: l8 :: l9 :: l10 :: l11 :: l12 :: l13 :: l14 :: l15 :: l16 :: some .null :: L) S) : xv_W M d mc ms Q kc ks sh I Rf J pc (l0 :: l1 :: l2 :: l3 :: l4 :: l5 :: l6 :: l7 :: l8 :: l9 :: l10 :: l11 :: l12 :: l13 :: l14 :: l15 :: l16 :: z :: L) (.null :: S) := xv_asN hf (by simp only [List.length_cons]; omega) k
theorem xv_iinc17 {l0 l1 l2 l3 l4 l5 l6 l7 l8 l9 l10 l11 l12 l13 l14 l15 l16 : Option Value} {n : Int} {x v : Int32} (hf : xv_F M pc (.iinc 17 n) 3 pc') (hv : Int32.ofInt n = v) (k : xv_W M d mc ms Q kc ks sh I Rf J pc' (l0 :: l1 :: l2 :: l3 :: l4 :: l5 :: l6 :: l7 :: l8 :: l9 :: l10 :: l11 :: l12 :: l13 :: l14 :: l15 :: l16 :: some (.int (x + v)) :: L) S) : xv_W M d mc ms Q kc ks sh I Rf J pc (l0 :: l1 :: l2 :: l3 :: l4 :: l5 :: l6 :: l7 :: l8 :: l9 :: l10 :: l11 :: l12 :: l13 :: l14 :: l15 :: l16 :: some (.int x) :: L) S := by
  subst hv
  exact xv_iinc hf rfl k
theorem xv_il18 {l0 l1 l2 l3 l4 l5 l6 l7 l8 l9 l10 l11 l12 l13 l14 l15 l16 l17 : Option Value} {x : Int32} (hf : xv_LI M pc 18 pc') (k : xv_W M d mc ms Q kc ks sh I Rf J pc' (l0 :: l1 :: l2 :: l3 :: l4 :: l5 :: l6 :: l7 :: l8 :: l9 :: l10 :: l11 :: l12 :: l13 :: l14 :: l15 :: l16 :: l17 :: some (.int x) :: L) (.int x :: S)) : xv_W M d mc ms Q kc ks sh I Rf J pc (l0 :: l1 :: l2 :: l3 :: l4 :: l5 :: l6 :: l7 :: l8 :: l9 :: l10 :: l11 :: l12 :: l13 :: l14 :: l15 :: l16 :: l17 :: some (.int x) :: L) S := xv_il hf rfl k
theorem xv_al18 {l0 l1 l2 l3 l4 l5 l6 l7 l8 l9 l10 l11 l12 l13 l14 l15 l16 l17 : Option Value} {x : Nat} (hf : xv_LA M pc 18 pc') (k : xv_W M d mc ms Q kc ks sh I Rf J pc' (l0 :: l1 :: l2 :: l3 :: l4 :: l5 :: l6 :: l7 :: l8 :: l9 :: l10 :: l11 :: l12 :: l13 :: l14 :: l15 :: l16 :: l17 :: some (.ref x) :: L) (.ref x :: S)) : xv_W M d mc ms Q kc ks sh I Rf J pc (l0 :: l1 :: l2 :: l3 :: l4 :: l5 :: l6 :: l7 :: l8 :: l9 :: l10 :: l11 :: l12 :: l13 :: l14 :: l15 :: l16 :: l17 :: some (.ref x) :: L) S := xv_al hf rfl k
theorem xv_an18 {l0 l1 l2 l3 l4 l5 l6 l7 l8 l9 l10 l11 l12 l13 l14 l15 l16 l17 : Option Value} (hf : xv_LA M pc 18 pc') (k : xv_W M d mc ms Q kc ks sh I Rf J pc' (l0 :: l1 :: l2 :: l3 :: l4 :: l5 :: l6 :: l7 :: l8 :: l9 :: l10 :: l11 :: l12 :: l13 :: l14 :: l15 :: l16 :: l17 :: some .null :: L) (.null :: S)) : xv_W M d mc ms Q kc ks sh I Rf J pc (l0 :: l1 :: l2 :: l3 :: l4 :: l5 :: l6 :: l7 :: l8 :: l9 :: l10 :: l11 :: l12 :: l13 :: l14 :: l15 :: l16 :: l17 :: some .null :: L) S := xv_an hf rfl k
theorem xv_is18 {l0 l1 l2 l3 l4 l5 l6 l7 l8 l9 l10 l11 l12 l13 l14 l15 l16 l17 : Option Value} {x : Int32} {z : Option Value} (hf : xv_SI M pc 18 pc') (k : xv_W M d mc ms Q kc ks sh I Rf J pc' (l0 :: l1 :: l2 :: l3 :: l4 :: l5 :: l6 :: l7 :: l8 :: l9 :: l10 :: l11 :: l12 :: l13 :: l14 :: l15 :: l16 :: l17 :: some (.int x) :: L) S) : xv_W M d mc ms Q kc ks sh I Rf J pc (l0 :: l1 :: l2 :: l3 :: l4 :: l5 :: l6 :: l7 :: l8 :: l9 :: l10 :: l11 :: l12 :: l13 :: l14 :: l15 :: l16 :: l17 :: z :: L) (.int x :: S) := xv_is hf (by simp only [List.length_cons]; omega) k
theorem xv_as18 {l0 l1 l2 l3 l4 l5 l6 l7 l8 l9 l10 l11 l12 l13 l14 l15 l16 l17 : Option Value} {x : Nat} {z : Option Value} (hf : xv_SA M pc 18 pc') (k : xv_W M d mc ms Q kc ks sh I Rf J pc' (l0 :: l1 :: l2 :: l3 :: l4 :: l5 :: l6 :: l7 :: l8 :: l9 :: l10 :: l11 :: l12 :: l13 :: l14 :: l15 :: l16 :: l17 :: some (.ref x) :: L) S) : xv_W M d mc ms Q kc ks sh I Rf J pc (l0 :: l1 :: l2 :: l3 :: l4 :: l5 :: l6 :: l7 :: l8 :: l9 :: l10 :: l11 :: l12 :: l13 :: l14 :: l15 :: l16 :: l17 :: z :: L) (.ref x :: S) := xv_as hf (by simp only [List.length_cons]; omega) k
theorem xv_asN18 {l0 l1 l2 l3 l4 l5 l6 l7 l8 l9 l10 l11 l12 l13 l14 l15 l16 l17 : Option Value} {z : Option Value} (hf : xv_SA M pc 18 pc') (k : xv_W M d mc ms Q kc ks sh I Rf J pc' (l0 :: l1 :: l2 :: l3 :: l4 :: l5 :: l6 :: l7 :: l8 :: l9 :: l10 :: l11 :: l12 :: l13 :: l14 :: l15 :: l16 :: l17 :: some .null :: L) S) : xv_W M d mc ms Q kc ks sh I Rf J pc (l0 :: l1 :: l2 :: l3 :: l4 :: l5 :: l6 :: l7 :: l8 :: l9 :: l10 :: l11 :: l12 :: l13 :: l14 :: l15 :: l16 :: l17 :: z :: L) (.null :: S) := xv_asN hf (by simp only [List.length_cons]; omega) k
theorem xv_iinc18 {l0 l1 l2 l3 l4 l5 l6 l7 l8 l9 l10 l11 l12 l13 l14 l15 l16 l17 : Option Value} {n : Int} {x v : Int32} (hf : xv_F M pc (.iinc 18 n) 3 pc') (hv : Int32.ofInt n = v) (k : xv_W M d mc ms Q kc ks sh I Rf J pc' (l0 :: l1 :: l2 :: l3 :: l4 :: l5 :: l6 :: l7 :: l8 :: l9 :: l10 :: l11 :: l12 :: l13 :: l14 :: l15 :: l16 :: l17 :: some (.int (x + v)) :: L) S) : xv_W M d mc ms Q kc ks sh I Rf J pc (l0 :: l1 :: l2 :: l3 :: l4 :: l5 :: l6 :: l7 :: l8 :: l9 :: l10 :: l11 :: l12 :: l13 :: l14 :: l15 :: l16 :: l17 :: some (.int x) :: L) S := by
  subst hv
  exact xv_iinc hf rfl k
theorem xv_il19 {l0 l1 l2 l3 l4 l5 l6 l7 l8 l9 l10 l11 l12 l13 l14 l15 l16 l17 l18 : Option Value} {x : Int32} (hf : xv_LI M pc 19 pc') (k : xv_W M d mc ms Q kc ks sh I Rf J pc' (l0 :: l1 :: l2 :: l3 :: l4 :: l5 :: l6 :: l7 :: l8 :: l9 :: l10 :: l11 :: l12 :: l13 :: l14 :: l15 :: l16 :: l17 :: l18 :: some (.int x) :: L) (.int x :: S)) : xv_W M d mc ms Q kc ks sh I Rf J pc (l0 :: l1 :: l2 :: l3 :: l4 :: l5 :: l6 :: l7 :: l8 :: l9 :: l10 :: l11 :: l12 :: l13 :: l14 :: l15 :: l16 :: l17 :: l18 :: some (.int x) :: L) S := xv_il hf rfl k
theorem xv_al19 {l0 l1 l2 l3 l4 l5 l6 l7 l8 l9 l10 l11 l12 l13 l14 l15 l16 l17 l18 : Option Value} {x : Nat} (hf : xv_LA M pc 19 pc') (k : xv_W M d mc ms Q kc ks sh I Rf J pc' (l0 :: l1 :: l2 :: l3 :: l4 :: l5 :: l6 :: l7 :: l8 :: l9 :: l10 :: l11 :: l12 :: l13 :: l14 :: l15 :: l16 :: l17 :: l18 :: some (.ref x) :: L) (.ref x :: S)) : xv_W M d mc ms Q kc ks sh I Rf J pc (l0 :: l1 :: l2 :: l3 :: l4 :: l5 :: l6 :: l7 :: l8 :: l9 :: l10 :: l11 :: l12 :: l13 :: l14 :: l15 :: l16 :: l17 :: l18 :: some (.ref x) :: L) S := xv_al hf rfl k
theorem xv_an19 {l0 l1 l2 l3 l4 l5 l6 l7 l8 l9 l10 l11 l12 l13 l14 l15 l16 l17 l18 : Option Value} (hf : xv_LA M pc 19 pc') (k : xv_W M d mc ms Q kc ks sh I Rf J pc' (l0 :: l1 :: l2 :: l3 :: l4 :: l5 :: l6 :: l7 :: l8 :: l9 :: l10 :: l11 :: l12 :: l13 :: l14 :: l15 :: l16 :: l17 :: l18 :: some .null :: L) (.null :: S)) : xv_W M d mc ms Q kc ks sh I Rf J pc (l0 :: l1 :: l2 :: l3 :: l4 :: l5 :: l6 :: l7 :: l8 :: l9 :: l10 :: l11 :: l12 :: l13 :: l14 :: l15 :: l16 :: l17 :: l18 :: some .null :: L) S := xv_an hf rfl k
theorem xv_is19 {l0 l1 l2 l3 l4 l5 l6 l7 l8 l9 l10 l11 l12 l13 l14 l15 l16 l17 l18 : Option Value} {x : Int32} {z : Option Value} (hf : xv_SI M pc 19 pc') (k : xv_W M d mc ms Q kc ks sh I Rf J pc' (l0 :: l1 :: l2 :: l3 :: l4 :: l5 :: l6 :: l7 :: l8 :: l9 :: l10 :: l11 :: l12 :: l13 :: l14 :: l15 :: l16 :: l17 :: l18 :: some (.int x) :: L) S) : xv_W M d mc ms Q kc ks sh I Rf J pc (l0 :: l1 :: l2 :: l3 :: l4 :: l5 :: l6 :: l7 :: l8 :: l9 :: l10 :: l11 :: l12 :: l13 :: l14 :: l15 :: l16 :: l17 :: l18 :: z :: L) (.int x :: S) := xv_is hf (by simp only [List.length_cons]; omega) k
theorem xv_as19 {l0 l1 l2 l3 l4 l5 l6 l7 l8 l9 l10 l11 l12 l13 l14 l15 l16 l17 l18 : Option Value} {x : Nat} {z : Option Value} (hf : xv_SA M pc 19 pc') (k : xv_W M d mc ms Q kc ks sh I Rf J pc' (l0 :: l1 :: l2 :: l3 :: l4 :: l5 :: l6 :: l7 :: l8 :: l9 :: l10 :: l11 :: l12 :: l13 :: l14 :: l15 :: l16 :: l17 :: l18 :: some (.ref x) :: L) S) : xv_W M d mc ms Q kc ks sh I Rf J pc (l0 :: l1 :: l2 :: l3 :: l4 :: l5 :: l6 :: l7 :: l8 :: l9 :: l10 :: l11 :: l12 :: l13 :: l14 :: l15 :: l16 :: l17 :: l18 :: z :: L) (.ref x :: S) := xv_as hf (by simp only [List.length_cons]; omega) k
theorem xv_asN19 {l0 l1 l2 l3 l4 l5 l6 l7 l8 l9 l10 l11 l12 l13 l14 l15 l16 l17 l18 : Option Value} {z : Option Value} (hf : xv_SA M pc 19 pc') (k : xv_W M d mc ms Q kc ks sh I Rf J pc' (l0 :: l1 :: l2 :: l3 :: l4 :: l5 :: l6 :: l7 :: l8 :: l9 :: l10 :: l11 :: l12 :: l13 :: l14 :: l15 :: l16 :: l17 :: l18 :: some .null :: L) S) : xv_W M d mc ms Q kc ks sh I Rf J pc (l0 :: l1 :: l2 :: l3 :: l4 :: l5 :: l6 :: l7 :: l8 :: l9 :: l10 :: l11 :: l12 :: l13 :: l14 :: l15 :: l16 :: l17 :: l18 :: z :: L) (.null :: S) := xv_asN hf (by simp only [List.length_cons]; omega) k
theorem xv_iinc19 {l0 l1 l2 l3 l4 l5 l6 l7 l8 l9 l10 l11 l12 l13 l14 l15 l16 l17 l18 : Option Value} {n : Int} {x v : Int32} (hf : xv_F M pc (.iinc 19 n) 3 pc') (hv : Int32.ofInt n = v) (k : xv_W M d mc ms Q kc ks sh I Rf J pc' (l0 :: l1 :: l2 :: l3 :: l4 :: l5 :: l6 :: l7 :: l8 :: l9 :: l10 :: l11 :: l12 :: l13 :: l14 :: l15 :: l16 :: l17 :: l18 :: some (.int (x + v)) :: L) S) : xv_W M d mc ms Q kc ks sh I Rf J pc (l0 :: l1 :: l2 :: l3 :: l4 :: l5 :: l6 :: l7 :: l8 :: l9 :: l10 :: l11 :: l12 :: l13 :: l14 :: l15 :: l16 :: l17 :: l18 :: some (.int x) :: L) S := by
  subst hv
  exact xv_iinc hf rfl k
theorem xv_il20 {l0 l1 l2 l3 l4 l5 l6 l7 l8 l9 l10 l11 l12 l13 l14 l15 l16 l17 l18 l19 : Option Value} {x : Int32} (hf : xv_LI M pc 20 pc') (k : xv_W M d mc ms Q kc ks sh I Rf J pc' (l0 :: l1 :: l2 :: l3 :: l4 :: l5 :: l6 :: l7 :: l8 :: l9 :: l10 :: l11 :: l12 :: l13 :: l14 :: l15 :: l16 :: l17 :: l18 :: l19 :: some (.int x) :: L) (.int x :: S)) : xv_W M d mc ms Q kc ks sh I Rf J pc (l0 :: l1 :: l2 :: l3 :: l4 :: l5 :: l6 :: l7 :: l8 :: l9 :: l10 :: l11 :: l12 :: l13 :: l14 :: l15 :: l16 :: l17 :: l18 :: l19 :: some (.int x) :: L) S := xv_il hf rfl k
theorem xv_al20 {l0 l1 l2 l3 l4 l5 l6 l7 l8 l9 l10 l11 l12 l13 l14 l15 l16 l17 l18 l19 : Option Value} {x : Nat} (hf : xv_LA M pc 20 pc') (k : xv_W M d mc ms Q kc ks sh I Rf J pc' (l0 :: l1 :: l2 :: l3 :: l4 :: l5 :: l6 :: l7 :: l8 :: l9 :: l10 :: l11 :: l12 :: l13 :: l14 :: l15 :: l16 :: l17 :: l18 :: l19 :: some (.ref x) :: L) (.ref x :: S)) : xv_W M d mc ms Q kc ks sh I Rf J pc (l0 :: l1 :: l2 :: l3 :: l4 :: l5 :: l6 :: l7 :: l8 :: l9 :: l10 :: l11 :: l12 :: l13 :: l14 :: l15 :: l16 :: l17 :: l18 :: l19 :: some (.ref x) :: L) S := xv_al hf rfl k
theorem xv_an20 {l0 l1 l2 l3 l4 l5 l6 l7 l8 l9 l10 l11 l12 l13 l14 l15 l16 l17 l18 l19 : Option Value} (hf : xv_LA M pc 20 pc') (k : xv_W M d mc ms Q kc ks sh I Rf J pc' (l0 :: l1 :: l2 :: l3 :: l4 :: l5 :: l6 :: l7 :: l8 :: l9 :: l10 :: l11 :: l12 :: l13 :: l14 :: l15 :: l16 :: l17 :: l18 :: l19 :: some .null :: L) (.null :: S)) : xv_W M d mc ms Q kc ks sh I Rf J pc (l0 :: l1 :: l2 :: l3 :: l4 :: l5 :: l6 :: l7 :: l8 :: l9 :: l10 :: l11 :: l12 :: l13 :: l14 :: l15 :: l16 :: l17 :: l18 :: l19 :: some .null :: L) S := xv_an hf rfl k
theorem xv_is20 {l0 l1 l2 l3 l4 l5 l6 l7 l8 l9 l10 l11 l12 l13 l14 l15 l16 l17 l18 l19 : Option Value} {x : Int32} {z : Option Value} (hf : xv_SI M pc 20 pc') (k : xv_W M d mc ms Q kc ks sh I Rf J pc' (l0 :: l1 :: l2 :: l3 :: l4 :: l5 :: l6 :: l7 :: l8 :: l9 :: l10 :: l11 :: l12 :: l13 :: l14 :: l15 :: l16 :: l17 :: l18 :: l19 :: some (.int x) :: L) S) : xv_W M d mc ms Q kc ks sh I Rf J pc (l0 :: l1 :: l2 :: l3 :: l4 :: l5 :: l6 :: l7 :: l8 :: l9 :: l10 :: l11 :: l12 :: l13 :: l14 :: l15 :: l16 :: l17 :: l18 :: l19 :: z :: L) (.int x :: S) := xv_is hf (by simp only [List.length_cons]; omega) k
theorem xv_as20 {l0 l1 l2 l3 l4 l5 l6 l7 l8 l9 l10 l11 l12 l13 l14 l15 l16 l17 l18 l19 : Option Value} {x : Nat} {z : Option Value} (hf : xv_SA M pc 20 pc') (k : xv_W M d mc ms Q kc ks sh I Rf J pc' (l0 :: l1 :: l2 :: l3 :: l4 :: l5 :: l6 :: l7 :: l8 :: l9 :: l10 :: l11 :: l12 :: l13 :: l14 :: l15 :: l16 :: l17 :: l18 :: l19 :: some (.ref x) :: L) S) : xv_W M d mc ms Q kc ks sh I Rf J pc (l0 :: l1 :: l2 :: l3 :: l4 :: l5 :: l6 :: l7 :: l8 :: l9 :: l10 :: l11 :: l12 :: l13 :: l14 :: l15 :: l16 :: l17 :: l18 :: l19 :: z :: L) (.ref x :: S) := xv_as hf (by simp only [List.length_cons]; omega) k
theorem xv_asN20 {l0 l1 l2 l3 l4 l5 l6 l7 l8 l9 l10 l11 l12 l13 l14 l15 l16 l17 l18 l19 : Option Value} {z : Option Value} (hf : xv_SA M pc 20 pc') (k : xv_W M d mc ms Q kc ks sh I Rf J pc' (l0 :: l1 :: l2 :: l3 :: l4 :: l5 :: l6 :: l7 :: l8 :: l9 :: l10 :: l11 :: l12 :: l13 :: l14 :: l15 :: l16 :: l17 :: l18 :: l19 :: some .null :: L) S) : xv_W M d mc ms Q kc ks sh I Rf J pc (l0 :: l1 :: l2 :: l3 :: l4 :: l5 :: l6 :: l7 :: l8 :: l9 :: l10 :: l11 :: l12 :: l13 :: l14 :: l15 :: l16 :: l17 :: l18 :: l19 :: z :: L) (.null :: S) := xv_asN hf (by simp only [List.length_cons]; omega) k
theorem xv_iinc20 {l0 l1 l2 l3 l4 l5 l6 l7 l8 l9 l10 l11 l12 l13 l14 l15 l16 l17 l18 l19 : Option Value} {n : Int} {x v : Int32} (hf : xv_F M pc (.iinc 20 n) 3 pc') (hv : Int32.ofInt n = v) (k : xv_W M d mc ms Q kc ks sh I Rf J pc' (l0 :: l1 :: l2 :: l3 :: l4 :: l5 :: l6 :: l7 :: l8 :: l9 :: l10 :: l11 :: l12 :: l13 :: l14 :: l15 :: l16 :: l17 :: l18 :: l19 :: some (.int (x + v)) :: L) S) : xv_W M d mc ms Q kc ks sh I Rf J pc (l0 :: l1 :: l2 :: l3 :: l4 :: l5 :: l6 :: l7 :: l8 :: l9 :: l10 :: l11 :: l12 :: l13 :: l14 :: l15 :: l16 :: l17 :: l18 :: l19 :: some (.int x) :: L) S := by
  subst hv
  exact xv_iinc hf rfl k
theorem xv_il21 {l0 l1 l2 l3 l4 l5 l6 l7 l8 l9 l10 l11 l12 l13 l14 l15 l16 l17 l18 l19 l20 : Option Value} {x : Int32} (hf : xv_LI M pc 21 pc') (k : xv_W M d mc ms Q kc ks sh I Rf J pc' (l0 :: l1 :: l2 :: l3 :: l4 :: l5 :: l6 :: l7 :: l8 :: l9 :: l10 :: l11 :: l12 :: l13 :: l14 :: l15 :: l16 :: l17 :: l18 :: l19 :: l20 :: some (.int x) :: L) (.int x :: S)) : xv_W M d mc ms Q kc ks sh I Rf J pc (l0 :: l1 :: l2 :: l3 :: l4 :: l5 :: l6 :: l7 :: l8 :: l9 :: l10 :: l11 :: l12 :: l13 :: l14 :: l15 :: l16 :: l17 :: l18 :: l19 :: l20 :: some (.int x) :: L) S := xv_il hf rfl k
theorem xv_al21 {l0 l1 l2 l3 l4 l5 l6 l7 l8 l9 l10 l11 l12 l13 l14 l15 l16 l17 l18 l19 l20 : Option Value} {x : Nat} (hf : xv_LA M pc 21 pc') (k : xv_W M d mc ms Q kc ks sh I Rf J pc' (l0 :: l1 :: l2 :: l3 :: l4 :: l5 :: l6 :: l7 :: l8 :: l9 :: l10 :: l11 :: l12 :: l13 :: l14 :: l15 :: l16 :: l17 :: l18 :: l19 :: l20 :: some (.ref x) :: L) (.ref x :: S)) : xv_W M d mc ms Q kc ks sh I Rf J pc (l0 :: l1 :: l2 :: l3 :: l4 :: l5 :: l6 :: l7 :: l8 :: l9 :: l10 :: l11 :: l12 :: l13 :: l14 :: l15 :: l16 :: l17 :: l18 :: l19 :: l20 :: some (.ref x) :: L) S := xv_al hf rfl k
theorem xv_an21 {l0 l1 l2 l3 l4 l5 l6 l7 l8 l9 l10 l11 l12 l13 l14 l15 l16 l17 l18 l19 l20 : Option Value} (hf : xv_LA M pc 21 pc') (k : xv_W M d mc ms Q kc ks sh I Rf J pc' (l0 :: l1 :: l2 :: l3 :: l4 :: l5 :: l6 :: l7 :: l8 :: l9 :: l10 :: l11 :: l12 :: l13 :: l14 :: l15 :: l16 :: l17 :: l18 :: l19 :: l20 :: some .null :: L) (.null :: S)) : xv_W M d mc ms Q kc ks sh I Rf J pc (l0 :: l1 :: l2 :: l3 :: l4 :: l5 :: l6 :: l7 :: l8 :: l9 :: l10 :: l11 :: l12 :: l13 :: l14 :: l15 :: l16 :: l17 :: l18 :: l19 :: l20 :: some .null :: L) S := xv_an hf rfl k
theorem xv_is21 {l0 l1 l2 l3 l4 l5 l6 l7 l8 l9 l10 l11 l12 l13 l14 l15 l16 l17 l18 l19 l20 : Option Value} {x : Int32} {z : Option Value} (hf : xv_SI M pc 21 pc') (k : xv_W M d mc ms Q kc ks sh I Rf J pc' (l0 :: l1 :: l2 :: l3 :: l4 :: l5 :: l6 :: l7 :: l8 :: l9 :: l10 :: l11 :: l12 :: l13 :: l14 :: l15 :: l16 :: l17 :: l18 :: l19 :: l20 :: some (.int x) :: L) S) : xv_W M d mc ms Q kc ks sh I Rf J pc (l0 :: l1 :: l2 :: l3 :: l4 :: l5 :: l6 :: l7 :: l8 :: l9 :: l10 :: l11 :: l12 :: l13 :: l14 :: l15 :: l16 :: l17 :: l18 :: l19 :: l20 :: z :: L) (.int x :: S) := xv_is hf (by simp only [List.length_cons]; omega) k
theorem xv_as21 {l0 l1 l2 l3 l4 l5 l6 l7 l8 l9 l10 l11 l12 l13 l14 l15 l16 l17 l18 l19 l20 : Option Value} {x : Nat} {z : Option Value} (hf : xv_SA M pc 21 pc') (k : xv_W M d mc ms Q kc ks sh I Rf J pc' (l0 :: l1 :: l2 :: l3 :: l4 :: l5 :: l6 :: l7 :: l8 :: l9 :: l10 :: l11 :: l12 :: l13 :: l14 :: l15 :: l16 :: l17 :: l18 :: l19 :: l20 :: some (.ref x) :: L) S) : xv_W M d mc ms Q kc ks sh I Rf J pc (l0 :: l1 :: l2 :: l3 :: l4 :: l5 :: l6 :: l7 :: l8 :: l9 :: l10 :: l11 :: l12 :: l13 :: l14 :: l15 :: l16 :: l17 :: l18 :: l19 :: l20 :: z :: L) (.ref x :: S) := xv_as hf (by simp only [List.length_cons]; omega) k
theorem xv_asN21 {l0 l1 l2 l3 l4 l5 l6 l7 l8 l9 l10 l11 l12 l13 l14 l15 l16 l17 l18 l19 l20 : Option Value} {z : Option Value} (hf : xv_SA M pc 21 pc') (k : xv_W M d mc ms Q kc ks sh I Rf J pc' (l0 :: l1 :: l2 :: l3 :: l4 :: l5 :: l6 :: l7 :: l8 :: l9 :: l10 :: l11 :: l12 :: l13 :: l14 :: l15 :: l16 :: l17 :: l18 :: l19 :: l20 :: some .null :: L) S) : xv_W M d mc ms Q kc ks sh I Rf J pc (l0 :: l1 :: l2 :: l3 :: l4 :: l5 :: l6 :: l7 :: l8 :: l9 :: l10 :: l11 :: l12 :: l13 :: l14 :: l15 :: l16 :: l17 :: l18 :: l19 :: l20 :: z :: L) (.null :: S) := xv_asN hf (by simp only [List.length_cons]; omega) k
theorem xv_iinc21 {l0 l1 l2 l3 l4 l5 l6 l7 l8 l9 l10 l11 l12 l13 l14 l15 l16 l17 l18 l19 l20 : Option Value} {n : Int} {x v : Int32} (hf : xv_F M pc (.iinc 21 n) 3 pc') (hv : Int32.ofInt n = v) (k : xv_W M d mc ms Q kc ks sh I Rf J pc' (l0 :: l1 :: l2 :: l3 :: l4 :: l5 :: l6 :: l7 :: l8 :: l9 :: l10 :: l11 :: l12 :: l13 :: l14 :: l15 :: l16 :: l17 :: l18 :: l19 :: l20 :: some (.int (x + v)) :: L) S) : xv_W M d mc ms Q kc ks sh I Rf J pc (l0 :: l1 :: l2 :: l3 :: l4 :: l5 :: l6 :: l7 :: l8 :: l9 :: l10 :: l11 :: l12 :: l13 :: l14 :: l15 :: l16 :: l17 :: l18 :: l19 :: l20 :: some (.int x) :: L) S := by
  subst hv
  exact xv_iinc hf rfl k
theorem xv_dup_i {x : Int32} (hf : xv_F M pc .dup 1 pc') (k : xv_W M d mc ms Q kc ks sh I Rf J pc' L (.int x :: .int x :: S)) : xv_W M d mc ms Q kc ks sh I Rf J pc L (.int x :: S) := by
  obtain ⟨h1, rfl⟩ := hf
  intro p l e R s m args below meth c D A sh0 ad0 ca0 ad ca H locs cells slots ls C X hw hR hS hL hO hc hs
  exact lv_dup C.1 C.2.1 h1 rfl (k C X hw hR hS hL (List.forall_mem_cons.mpr ⟨xv_ok_h hO, hO⟩) hc hs)
theorem xv_pop_i {x : Int32} (hf : xv_F M pc .pop 1 pc') (k : xv_W M d mc ms Q kc ks sh I Rf J pc' L S) : xv_W M d mc ms Q kc ks sh I Rf J pc L (.int x :: S) := by
  obtain ⟨h1, rfl⟩ := hf
  intro p l e R s m args below meth c D A sh0 ad0 ca0 ad ca H locs cells slots ls C X hw hR hS hL hO hc hs
  exact lv_pop C.1 C.2.1 h1 rfl (k C X hw hR hS hL (xv_ok_t hO) hc hs)
theorem xv_dup_r {x : Nat} (hf : xv_F M pc .dup 1 pc') (k : xv_W M d mc ms Q kc ks sh I Rf J pc' L (.ref x :: .ref x :: S)) : xv_W M d mc ms Q kc ks sh I Rf J pc L (.ref x :: S) := by
  obtain ⟨h1, rfl⟩ := hf
  intro p l e R s m args below meth c D A sh0 ad0 ca0 ad ca H locs cells slots ls C X hw hR hS hL hO hc hs
  exact lv_dup C.1 C.2.1 h1 rfl (k C X hw hR hS hL (List.forall_mem_cons.mpr ⟨xv_ok_h hO, hO⟩) hc hs)
theorem xv_pop_r {x : Nat} (hf : xv_F M pc .pop 1 pc') (k : xv_W M d mc ms Q kc ks sh I Rf J pc' L S) : xv_W M d mc ms Q kc ks sh I Rf J pc L (.ref x :: S) := by
  obtain ⟨h1, rfl⟩ := hf
  intro p l e R s m args below meth c D A sh0 ad0 ca0 ad ca H locs cells slots ls C X hw hR hS hL hO hc hs
  exact lv_pop C.1 C.2.1 h1 rfl (k C X hw hR hS hL (xv_ok_t hO) hc hs)
theorem xv_dup2 {i : Int32} {a : Nat} (hf : xv_F M pc .dup2 1 pc') (k : xv_W M d mc ms Q kc ks sh I Rf J pc' L (.int i :: .ref a :: .int i :: .ref a :: S)) : xv_W M d mc ms Q kc ks sh I Rf J pc L (.int i :: .ref a :: S) := by
  obtain ⟨h1, rfl⟩ := hf
  intro p l e R s m args below meth c D A sh0 ad0 ca0 ad ca H locs cells slots ls C X hw hR hS hL hO hc hs
  exact lv_dup2_11 C.1 C.2.1 h1 rfl rfl (k C X hw hR hS hL (List.forall_mem_cons.mpr ⟨trivial, List.forall_mem_cons.mpr ⟨xv_ok_h (xv_ok_t hO), hO⟩⟩) hc hs)
theorem xv_if_eq {x : Int32} (hf : xv_B M pc (.ifCond .eq) tgt pc') (kt : x = 0 → xv_W M d mc ms Q kc ks sh I Rf J tgt L S) (kf : ¬ x = 0 → xv_W M d mc ms Q kc ks sh I Rf J pc' L S) : xv_W M d mc ms Q kc ks sh I Rf J pc L (.int x :: S) := by
  obtain ⟨off, h1, h2, rfl⟩ := hf
  intro p l e R s m args below meth c D A sh0 ad0 ca0 ad ca H locs cells slots ls C X hw hR hS hL hO hc hs
  exact lv_if_eq C.1 C.2.1 h1 h2 (fun h => kt h C X hw hR hS hL (xv_ok_t hO) hc hs) (fun h => kf h C X hw hR hS hL (xv_ok_t hO) hc hs)
theorem xv_if_ne {x : Int32} (hf : xv_B M pc (.ifCond .ne) tgt pc') (kt : ¬ x = 0 → xv_W M d mc ms Q kc ks sh I Rf J tgt L S) (kf : x = 0 → xv_W M d mc ms Q kc ks sh I Rf J pc' L S) : xv_W M d mc ms Q kc ks sh I Rf J pc L (.int x :: S) := by
  obtain ⟨off, h1, h2, rfl⟩ := hf
  intro p l e R s m args below meth c D A sh0 ad0 ca0 ad ca H locs cells slots ls C X hw hR hS hL hO hc hs
  exact lv_if_ne C.1 C.2.1 h1 h2 (fun h => kt h C X hw hR hS hL (xv_ok_t hO) hc hs) (fun h => kf h C X hw hR hS hL (xv_ok_t hO) hc hs)
theorem xv_if_lt {x : Int32} (hf : xv_B M pc (.ifCond .lt) tgt pc') (kt : x < 0 → xv_W M d mc ms Q kc ks sh I Rf J tgt L S) (kf : ¬ x < 0 → xv_W M d mc ms Q kc ks sh I Rf J pc' L S) : xv_W M d mc ms Q kc ks sh I Rf J pc L (.int x :: S) := by
  obtain ⟨off, h1, h2, rfl⟩ := hf
  intro p l e R s m args below meth c D A sh0 ad0 ca0 ad ca H locs cells slots ls C X hw hR hS hL hO hc hs
  exact lv_if_lt C.1 C.2.1 h1 h2 (fun h => kt h C X hw hR hS hL (xv_ok_t hO) hc hs) (fun h => kf h C X hw hR hS hL (xv_ok_t hO) hc hs)
theorem xv_if_ge {x : Int32} (hf : xv_B M pc (.ifCond .ge) tgt pc') (kt : 0 ≤ x → xv_W M d mc ms Q kc ks sh I Rf J tgt L S) (kf : ¬ 0 ≤ x → xv_W M d mc ms Q kc ks sh I Rf J pc' L S) : xv_W M d mc ms Q kc ks sh I Rf J pc L (.int x :: S) := by
  obtain ⟨off, h1, h2, rfl⟩ := hf
  intro p l e R s m args below meth c D A sh0 ad0 ca0 ad ca H locs cells slots ls C X hw hR hS hL hO hc hs
  exact lv_if_ge C.1 C.2.1 h1 h2 (fun h => kt h C X hw hR hS hL (xv_ok_t hO) hc hs) (fun h => kf h C X hw hR hS hL (xv_ok_t hO) hc hs)
theorem xv_if_gt {x : Int32} (hf : xv_B M pc (.ifCond .gt) tgt pc') (kt : 0 < x → xv_W M d mc ms Q kc ks sh I Rf J tgt L S) (kf : ¬ 0 < x → xv_W M d mc ms Q kc ks sh I Rf J pc' L S) : xv_W M d mc ms Q kc ks sh I Rf J pc L (.int x :: S) := by
  obtain ⟨off, h1, h2, rfl⟩ := hf
  intro p l e R s m args below meth c D A sh0 ad0 ca0 ad ca H locs cells slots ls C X hw hR hS hL hO hc hs
  exact lv_if_gt C.1 C.2.1 h1 h2 (fun h => kt h C X hw hR hS hL (xv_ok_t hO) hc hs) (fun h => kf h C X hw hR hS hL (xv_ok_t hO) hc hs)
theorem xv_if_le {x : Int32} (hf : xv_B M pc (.ifCond .le) tgt pc') (kt : x ≤ 0 → xv_W M d mc ms Q kc ks sh I Rf J tgt L S) (kf : ¬ x ≤ 0 → xv_W M d mc ms Q kc ks sh I Rf J pc' L S) : xv_W M d mc ms Q kc ks sh I Rf J pc L (.int x :: S) := by
  obtain ⟨off, h1, h2, rfl⟩ := hf
  intro p l e R s m args below meth c D A sh0 ad0 ca0 ad ca H locs cells slots ls C X hw hR hS hL hO hc hs
  exact lv_if_le C.1 C.2.1 h1 h2 (fun h => kt h C X hw hR hS hL (xv_ok_t hO) hc hs) (fun h => kf h C X hw hR hS hL (xv_ok_t hO) hc hs)
theorem xv_ic_eq {x y : Int32} (hf : xv_B M pc (.if_icmp .eq) tgt pc') (kt : x = y → xv_W M d mc ms Q kc ks sh I Rf J tgt L S) (kf : ¬ x = y → xv_W M d mc ms Q kc ks sh I Rf J pc' L S) : xv_W M d mc ms Q kc ks sh I Rf J pc L (.int y :: .int x :: S) := by
  obtain ⟨off, h1, h2, rfl⟩ := hf
  intro p l e R s m args below meth c D A sh0 ad0 ca0 ad ca H locs cells slots ls C X hw hR hS hL hO hc hs
  exact lv_icmp_eq C.1 C.2.1 h1 h2 (fun h => kt h C X hw hR hS hL (xv_ok_t (xv_ok_t hO)) hc hs) (fun h => kf h C X hw hR hS hL (xv_ok_t (xv_ok_t hO)) hc hs)
theorem xv_ic_ne {x y : Int32} (hf : xv_B M pc (.if_icmp .ne) tgt pc') (kt : ¬ x = y → xv_W M d mc ms Q kc ks sh I Rf J tgt L S) (kf : x = y → xv_W M d mc ms Q kc ks sh I Rf J pc' L S) : xv_W M d mc ms Q kc ks sh I Rf J pc L (.int y :: .int x :: S) := by
  obtain ⟨off, h1, h2, rfl⟩ := hf
  intro p l e R s m args below meth c D A sh0 ad0 ca0 ad ca H locs cells slots ls C X hw hR hS hL hO hc hs
  exact lv_icmp_ne C.1 C.2.1 h1 h2 (fun h => kt h C X hw hR hS hL (xv_ok_t (xv_ok_t hO)) hc hs) (fun h => kf h C X hw hR hS hL (xv_ok_t (xv_ok_t hO)) hc hs)
theorem xv_ic_lt {x y : Int32} (hf : xv_B M pc (.if_icmp .lt) tgt pc') (kt : x < y → xv_W M d mc ms Q kc ks sh I Rf J tgt L S) (kf : ¬ x < y → xv_W M d mc ms Q kc ks sh I Rf J pc' L S) : xv_W M d mc ms Q kc ks sh I Rf J pc L (.int y :: .int x :: S) := by
  obtain ⟨off, h1, h2, rfl⟩ := hf
  intro p l e R s m args below meth c D A sh0 ad0 ca0 ad ca H locs cells slots ls C X hw hR hS hL hO hc hs
  exact lv_icmp_lt C.1 C.2.1 h1 h2 (fun h => kt h C X hw hR hS hL (xv_ok_t (xv_ok_t hO)) hc hs) (fun h => kf h C X hw hR hS hL (xv_ok_t (xv_ok_t hO)) hc hs)
theorem xv_ic_ge {x y : Int32} (hf : xv_B M pc (.if_icmp .ge) tgt pc') (kt : y ≤ x → xv_W M d mc ms Q kc ks sh I Rf J tgt L S) (kf : ¬ y ≤ x → xv_W M d mc ms Q kc ks sh I Rf J pc' L S) : xv_W M d mc ms Q kc ks sh I Rf J pc L (.int y :: .int x :: S) := by
  obtain ⟨off, h1, h2, rfl⟩ := hf
  intro p l e R s m args below meth c D A sh0 ad0 ca0 ad ca H locs cells slots ls C X hw hR hS hL hO hc hs
  exact lv_icmp_ge C.1 C.2.1 h1 h2 (fun h => kt h C X hw hR hS hL (xv_ok_t (xv_ok_t hO)) hc hs) (fun h => kf h C X hw hR hS hL (xv_ok_t (xv_ok_t hO)) hc hs)
theorem xv_ic_gt {x y : Int32} (hf : xv_B M pc (.if_icmp .gt) tgt pc') (kt : y < x → xv_W M d mc ms Q kc ks sh I Rf J tgt L S) (kf : ¬ y < x → xv_W M d mc ms Q kc ks sh I Rf J pc' L S) : xv_W M d mc ms Q kc ks sh I Rf J pc L (.int y :: .int x :: S) := by
  obtain ⟨off, h1, h2, rfl⟩ := hf
  intro p l e R s m args below meth c D A sh0 ad0 ca0 ad ca H locs cells slots ls C X hw hR hS hL hO hc hs
  exact lv_icmp_gt C.1 C.2.1 h1 h2 (fun h => kt h C X hw hR hS hL (xv_ok_t (xv_ok_t hO)) hc hs) (fun h => kf h C X hw hR hS hL (xv_ok_t (xv_ok_t hO)) hc hs)
theorem xv_ic_le {x y : Int32} (hf : xv_B M pc (.if_icmp .le) tgt pc') (kt : x ≤ y → xv_W M d mc ms Q kc ks sh I Rf J tgt L S) (kf : ¬ x ≤ y → xv_W M d mc ms Q kc ks sh I Rf J pc' L S) : xv_W M d mc ms Q kc ks sh I Rf J pc L (.int y :: .int x :: S) := by
  obtain ⟨off, h1, h2, rfl⟩ := hf
  intro p l e R s m args below meth c D A sh0 ad0 ca0 ad ca H locs cells slots ls C X hw hR hS hL hO hc hs
  exact lv_icmp_le C.1 C.2.1 h1 h2 (fun h => kt h C X hw hR hS hL (xv_ok_t (xv_ok_t hO)) hc hs) (fun h => kf h C X hw hR hS hL (xv_ok_t (xv_ok_t hO)) hc hs)
theorem xv_goto (hf : xv_B M pc .goto tgt pc') (k : xv_W M d mc ms Q kc ks sh I Rf J tgt L S) : xv_W M d mc ms Q kc ks sh I Rf J pc L S := by
  obtain ⟨off, h1, h2, rfl⟩ := hf
  intro p l e R s m args below meth c D A sh0 ad0 ca0 ad ca H locs cells slots ls C X hw hR hS hL hO hc hs
  exact lv_goto C.1 C.2.1 h1 h2 (k C X hw hR hS hL hO hc hs)
theorem xv_ifnull_r {a : Nat} (hf : xv_B M pc .ifnull tgt pc') (k : xv_W M d mc ms Q kc ks sh I Rf J pc' L S) : xv_W M d mc ms Q kc ks sh I Rf J pc L (.ref a :: S) := by
  obtain ⟨off, h1, h2, rfl⟩ := hf
  intro p l e R s m args below meth c D A sh0 ad0 ca0 ad ca H locs cells slots ls C X hw hR hS hL hO hc hs
  exact lv_ifnull C.1 C.2.1 h1 (k C X hw hR hS hL (xv_ok_t hO) hc hs)
theorem xv_ifnull_n (hf : xv_B M pc .ifnull tgt pc') (k : xv_W M d mc ms Q kc ks sh I Rf J tgt L S) : xv_W M d mc ms Q kc ks sh I Rf J pc L (.null :: S) := by
  obtain ⟨off, h1, h2, rfl⟩ := hf
  intro p l e R s m args below meth c D A sh0 ad0 ca0 ad ca H locs cells slots ls C X hw hR hS hL hO hc hs
  exact lv_ifnullN C.1 C.2.1 h1 h2 (k C X hw hR hS hL (xv_ok_t hO) hc hs)
theorem xv_ifnon_r {a : Nat} (hf : xv_B M pc .ifnonnull tgt pc') (k : xv_W M d mc ms Q kc ks sh I Rf J tgt L S) : xv_W M d mc ms Q kc ks sh I Rf J pc L (.ref a :: S) := by
  obtain ⟨off, h1, h2, rfl⟩ := hf
  intro p l e R s m args below meth c D A sh0 ad0 ca0 ad ca H locs cells slots ls C X hw hR hS hL hO hc hs
  exact lv_ifnonnull C.1 C.2.1 h1 h2 (k C X hw hR hS hL (xv_ok_t hO) hc hs)
theorem xv_ifnon_n (hf : xv_B M pc .ifnonnull tgt pc') (k : xv_W M d mc ms Q kc ks sh I Rf J pc' L S) : xv_W M d mc ms Q kc ks sh I Rf J pc L (.null :: S) := by
  obtain ⟨off, h1, h2, rfl⟩ := hf
  intro p l e R s m args below meth c D A sh0 ad0 ca0 ad ca H locs cells slots ls C X hw hR hS hL hO hc hs
  exact lv_ifnonnullN C.1 C.2.1 h1 (k C X hw hR hS hL (xv_ok_t hO) hc hs)
theorem xv_acmp_eq {a b : Nat} (hf : xv_B M pc (.if_acmp .eq) tgt pc') (kt : a = b → xv_W M d mc ms Q kc ks sh I Rf J tgt L S) (kf : ¬ a = b → xv_W M d mc ms Q kc ks sh I Rf J pc' L S) : xv_W M d mc ms Q kc ks sh I Rf J pc L (.ref b :: .ref a :: S) := by
  obtain ⟨off, h1, h2, rfl⟩ := hf
  intro p l e R s m args below meth c D A sh0 ad0 ca0 ad ca H locs cells slots ls C X hw hR hS hL hO hc hs
  exact lv_acmp_eq (rx := some (ad a)) (ry := some (ad b)) C.1 C.2.1 h1 h2 (fun h => kt (hR.2.1 a b (xv_ok_h (xv_ok_t hO)) (xv_ok_h hO) (Option.some.inj h)) C X hw hR hS hL (xv_ok_t (xv_ok_t hO)) hc hs) (fun h => kf (fun q => h (by rw [q])) C X hw hR hS hL (xv_ok_t (xv_ok_t hO)) hc hs)
theorem xv_tabIn {dflt lo hi : Int} {offs : Array Int} {len : Nat} {x : Int32} {off : Int} (hd : decode M.2.1 pc = .ok (.tableswitch dflt lo hi offs, len)) (h1 : ¬ x.toInt < lo) (h2 : ¬ hi < x.toInt) (ho : offs[(x.toInt - lo).toNat]? = some off) (ht : (pc : Int) + off = (tgt : Int)) (k : xv_W M d mc ms Q kc ks sh I Rf J tgt L S) : xv_W M d mc ms Q kc ks sh I Rf J pc L (.int x :: S) := by
  intro p l e R s m args below meth c D A sh0 ad0 ca0 ad ca H locs cells slots ls C X hw hR hS hL hO hc hs
  exact lv_tableIn C.1 C.2.1 hd h1 h2 ho ht (k C X hw hR hS hL (xv_ok_t hO) hc hs)
theorem xv_tabOut {dflt lo hi : Int} {offs : Array Int} {len : Nat} {x : Int32} (hd : decode M.2.1 pc = .ok (.tableswitch dflt lo hi offs, len)) (h1 : x.toInt < lo ∨ hi < x.toInt) (ht : (pc : Int) + dflt = (tgt : Int)) (k : xv_W M d mc ms Q kc ks sh I Rf J tgt L S) : xv_W M d mc ms Q kc ks sh I Rf J pc L (.int x :: S) := by
  intro p l e R s m args below meth c D A sh0 ad0 ca0 ad ca H locs cells slots ls C X hw hR hS hL hO hc hs
  exact lv_tableOut C.1 C.2.1 hd h1 ht (k C X hw hR hS hL (xv_ok_t hO) hc hs)
theorem xv_eqi {x y : Int32} (h : x = y) (k : xv_W M d mc ms Q kc ks sh I Rf J pc L (.int y :: S)) : xv_W M d mc ms Q kc ks sh I Rf J pc L (.int x :: S) := h ▸ k
theorem xv_eqI {I' : xv_I} (h : I = I') (k : xv_W M d mc ms Q kc ks sh I' Rf J pc L S) : xv_W M d mc ms Q kc ks sh I Rf J pc L S := h ▸ k
theorem xv_less {kc' ks' : Nat} (h1 : kc' ≤ kc) (h2 : ks' ≤ ks) (k : xv_W M d mc ms Q kc' ks' sh I Rf J pc L S) : xv_W M d mc ms Q kc ks sh I Rf J pc L S := by
  intro p l e R s m args below meth c D A sh0 ad0 ca0 ad ca H locs cells slots ls C X hw hR hS hL hO hc hs
  exact k C X hw hR hS hL hO (by omega) (by omega)
theorem xv_iret {x : Int32} {ty : FieldType} (hf : xv_F M pc .ireturn 1 pc') (hr : M.2.2.2.1 = some ty) (hn : narrow ty (.int x) = .int x) (hQ : Q (.inl (some (.int x))) sh I Rf J) : xv_W M d mc ms Q kc ks sh I Rf J pc L [.int x] := by
  obtain ⟨h1, rfl⟩ := hf
  intro p l e R s m args below meth c D A sh0 ad0 ca0 ad ca H locs cells slots ls C X hw hR hS hL hO hc hs
  exact vx_ret (W.widen (k := mc) (n := ms) (by omega) (by omega) (W.zret C.1 C.2.1 (C.2.2.2.1.trans hr) hn (fun t ht hW => ⟨some (.int x), sh, I, Rf, J, ad, ca, rfl, hQ, (fun z hz => by cases hz; trivial), by rw [ht]; exact hR.moved hW.alike, X, hw, hS.F ht⟩) (fun q hq => hS.2.2 q hq) h1 C.2.2.2.2.2.2.1))
theorem xv_vret (hf : xv_F M pc .return_ 1 pc') (hr : M.2.2.2.1 = none) (hQ : Q (.inl none) sh I Rf J) : xv_W M d mc ms Q kc ks sh I Rf J pc L [] := by
  obtain ⟨h1, rfl⟩ := hf
  intro p l e R s m args below meth c D A sh0 ad0 ca0 ad ca H locs cells slots ls C X hw hR hS hL hO hc hs
  exact vx_ret (W.widen (k := mc) (n := ms) (by omega) (by omega) (W.vret C.1 C.2.1 (C.2.2.2.1.trans hr) (fun t ht hW => ⟨none, sh, I, Rf, J, ad, ca, rfl, hQ, (fun z hz => by cases hz), by rw [ht]; exact hR.moved hW.alike, X, hw, hS.F ht⟩) (fun q hq => hS.2.2 q hq) h1 C.2.2.2.2.2.2.1))
theorem xv_aret {a : Nat} {ty : FieldType} (hf : xv_F M pc .areturn 1 pc') (hr : M.2.2.2.1 = some ty) (ht : (∃ n, ty = .object n) ∨ ∃ t, ty = .array t) (hQ : Q (.inl (some (.ref a))) sh I Rf J) : xv_W M d mc ms Q kc ks sh I Rf J pc L [.ref a] := by
  obtain ⟨h1, rfl⟩ := hf
  intro p l e R s m args below meth c D A sh0 ad0 ca0 ad ca H locs cells slots ls C X hw hR hS hL hO hc hs
  exact vx_ret (W.widen (k := mc) (n := ms) (by omega) (by omega) (W.aret C.1 C.2.1 (C.2.2.2.1.trans hr) ht (Or.inr ⟨_, rfl⟩) (fun t ht hW => ⟨some (.ref a), sh, I, Rf, J, ad, ca, rfl, hQ, (fun z hz => by cases hz; exact xv_ok_h hO), by rw [ht]; exact hR.moved hW.alike, X, hw, hS.F ht⟩) (fun q hq => hS.2.2 q hq) h1 C.2.2.2.2.2.2.1))
theorem xv_nret {ty : FieldType} (hf : xv_F M pc .areturn 1 pc') (hr : M.2.2.2.1 = some ty) (ht : (∃ n, ty = .object n) ∨ ∃ t, ty = .array t) (hQ : Q (.inl (some .null)) sh I Rf J) : xv_W M d mc ms Q kc ks sh I Rf J pc L [.null] := by
  obtain ⟨h1, rfl⟩ := hf
  intro p l e R s m args below meth c D A sh0 ad0 ca0 ad ca H locs cells slots ls C X hw hR hS hL hO hc hs
  exact vx_ret (W.widen (k := mc) (n := ms) (by omega) (by omega) (W.aret C.1 C.2.1 (C.2.2.2.1.trans hr) ht (Or.inl rfl) (fun t ht hW => ⟨some .null, sh, I, Rf, J, ad, ca, rfl, hQ, (fun z hz => by cases hz; trivial), by rw [ht]; exact hR.moved hW.alike, X, hw, hS.F ht⟩) (fun q hq => hS.2.2 q hq) h1 C.2.2.2.2.2.2.1))
end XVR
end
section
section XVH
variable {M : xv_M} {d mc ms kc ks : Nat} {Q : xv_Q} {sh : xv_Sh} {I : xv_I} {Rf : xv_Rf} {J : xv_J} {pc pc' tgt : Nat} {L : List (Option Value)} {S : List Value}
/-- one cell written -/
theorem xv_R.wr {s : State} {D : va_G} {ad : Nat → Nat} {ca : Nat → ClassId} {sh : xv_Sh} {I I' : xv_I} {Rf Rf' : xv_Rf} {J J' : xv_J} {H H1 : Heap} {v : Nat} {x : xv_S} (h : xv_R s D ad ca sh I Rf J H) (hv : sh v = some x) (hn : xv_at s D ad ca I' Rf' J' H1 v x) (oq : ∀ q, q ≠ ad v → H1[q]? = H[q]?)
    (hI : ∀ w k, w ≠ v → I' w k = I w k) (hRf : ∀ w k, w ≠ v → Rf' w k = Rf w k) (hJ : ∀ w k, w ≠ v → J' w k = J w k) (hr : ∀ k w, Rf' v k = some w → sh w ≠ none) : xv_R s D ad ca sh I' Rf' J' H1 := by
  refine ⟨fun w y hy => ?_, h.2.1, fun w k z hw hz => ?_⟩
  · by_cases e : w = v
    · subst e
      cases hv.symm.trans hy
      exact hn
    · have hne : ad w ≠ ad v := fun q => e (h.2.1 w v (by rw [hy]; simp) (by rw [hv]; simp) q)
      exact ((h.1 w y hy).kept (oq _ hne)).cong rfl rfl (fun k => hI w k e) (fun k => hRf w k e) (fun k => hJ w k e) (fun _ _ _ => rfl)
  · by_cases e : w = v
    · subst e
      exact hr k z hz
    · rw [hRf w k e] at hz
      exact h.2.2 w k z hw hz
/-- a field, by the constant pool of a class: place in the pool, the class's place, the field's -/
def xv_G (own : String) (idx ci k : Nat) : Prop := ∃ (C : String) (T : u_T) (N : Nat), vwCl[ci]? = some (C, T, N) ∧ k < N ∧ (∀ w ∈ u_ws C T N, w ∈ xv_tbl) ∧ (Cond.fieldLink own idx (T k).1 (T k).2.1 (T k).2.2.1 ∈ xv_tbl ∨ ∃ host, Cond.fieldLinkNest own idx (T k).1 (T k).2.1 (T k).2.2.1 host ∈ xv_tbl)
theorem xv_one {s : State} {D : va_G} {ad : Nat → Nat} {ca : Nat → ClassId} {I : xv_I} {Rf : xv_Rf} {J : xv_J} {H : Heap} {v ci : Nat} {C : String} {T : u_T} {N : Nat} (h : xv_at s D ad ca I Rf J H v (.inl ci)) (hc : vwCl[ci]? = some (C, T, N)) : va_P D vwCl [(ad v, .inr (ci, (List.range N).map (xv_sl ad I Rf ci v)))] H := by
  intro k q hq
  have hk : k < 1 := (List.getElem?_eq_some_iff.mp hq).1
  rw [show k = 0 by omega] at hq
  cases hq
  obtain ⟨r, h1, h2⟩ := h
  cases h1.symm.trans hc
  refine ⟨_, hc, h2.to fun j hj => ?_⟩
  simp only [vp_V]
  rw [List.getD_eq_getElem?_getD, List.getElem?_map, List.getElem?_range hj]
  rfl
theorem xv_fld {ad : Nat → Nat} {I : xv_I} {Rf : xv_Rf} {ci v N k : Nat} (hk : k < N) : ((List.range N).map (xv_sl ad I Rf ci v))[k]? = some (xv_sl ad I Rf ci v k) := by
  rw [List.getElem?_map, List.getElem?_range hk]
  rfl
theorem xv_get {ci k v idx : Nat} (hf : xv_F M pc (.getfield idx) 3 pc') (hg : xv_G M.1.cls idx ci k) (hv : sh v = some (.inl ci)) {x : Value} (hx : ∀ ad : Nat → Nat, xv_tr ad x = xv_sl ad I Rf ci v k) (ho : (∀ w, Rf v k = some w → sh w ≠ none) → xv_ok sh x)
    (kk : xv_W M d mc ms Q kc ks sh I Rf J pc' L (x :: S)) : xv_W M d mc ms Q kc ks sh I Rf J pc L (.ref v :: S) := by
  obtain ⟨h1, rfl⟩ := hf
  obtain ⟨Cn, T, N, g1, g2, g3, g4⟩ := hg
  intro p l e R s m args below meth c D A sh0 ad0 ca0 ad ca H locs cells slots ls C X hw hR hS hL hO hc hs
  have hP := xv_one (hR.1 v _ hv) g1
  have K := kk (below := below) (e := e) C X hw hR hS hL (List.forall_mem_cons.mpr ⟨ho (fun w hw => hR.2.2 v k w (by rw [hv]; simp) hw), xv_ok_t hO⟩) hc hs
  rw [List.map_cons, hx ad] at K
  rcases g4 with g4 | ⟨host, g4⟩
  · exact va_get (D := D) (cl := vwCl) (tys := []) C.1 C.2.1 C.2.2.2.2.2.1 g3 C.2.2.2.2.1 C.2.2.2.2.2.2.2.2.2.1 hP 0 rfl g1 k g2 (C.2.2.2.2.2.1 _ g4) (fun _ h => h) (xv_fld g2) h1 K
  · exact va_getN (D := D) (cl := vwCl) (tys := []) C.1 C.2.1 C.2.2.2.2.2.1 g3 C.2.2.2.2.1 C.2.2.2.2.2.2.2.2.2.1 hP 0 rfl g1 k g2 (C.2.2.2.2.2.1 _ g4) (fun _ h => h) (xv_fld g2) h1 K
theorem xv_getI {ci k v idx : Nat} (hf : xv_F M pc (.getfield idx) 3 pc') (hg : xv_G M.1.cls idx ci k) (ht : (xv_ft ci k).isReference = false) (hv : sh v = some (.inl ci))
    (kk : xv_W M d mc ms Q kc ks sh I Rf J pc' L (.int (I v k) :: S)) : xv_W M d mc ms Q kc ks sh I Rf J pc L (.ref v :: S) :=
  xv_get (x := .int (I v k)) hf hg hv (fun ad => by unfold xv_sl; rw [if_neg (by rw [ht]; decide)]; rfl) (fun _ => trivial) kk
theorem xv_getR {ci k v idx : Nat} {o : Nat} (hf : xv_F M pc (.getfield idx) 3 pc') (hg : xv_G M.1.cls idx ci k) (ht : (xv_ft ci k).isReference = true) (hv : sh v = some (.inl ci)) (hr : Rf v k = some o)
    (kk : xv_W M d mc ms Q kc ks sh I Rf J pc' L (.ref o :: S)) : xv_W M d mc ms Q kc ks sh I Rf J pc L (.ref v :: S) :=
  xv_get (x := .ref o) hf hg hv (fun ad => by unfold xv_sl; rw [if_pos ht, hr]; rfl) (fun h => h o hr) kk
theorem xv_updsl {ad : Nat → Nat} {I I' : xv_I} {Rf Rf' : xv_Rf} {ci v k N : Nat} {x : Value} (hx : xv_sl ad I' Rf' ci v k = x) (ho : ∀ j, j ≠ k → xv_sl ad I' Rf' ci v j = xv_sl ad I Rf ci v j) : ∀ j, j < N → updV (xv_sl ad I Rf ci v) k x j = xv_sl ad I' Rf' ci v j := by
  intro j _
  unfold updV
  by_cases e : j = k
  · subst e
    rw [if_pos rfl, hx]
  · rw [if_neg e, ho j e]
/-- a field gets something (not a final one) -/
theorem xv_put {ci k v idx : Nat} {x : Value} {I' : xv_I} {Rf' : xv_Rf} (hf : xv_F M pc (.putfield idx) 3 pc') (hg : xv_G M.1.cls idx ci k) (hv : sh v = some (.inl ci)) (ty0 : Nat → FieldType) (hty : ∀ (C : String) (T : u_T) (N : Nat), vwCl[ci]? = some (C, T, N) → (∀ j, j < N → parseFieldDescriptor (T j).2.2.1 = some (ty0 j)) ∧ (∀ a, a < N → ∀ b, b < N → a ≠ b → (T a).2.1 ≠ (T b).2.1) ∧ ((T k).2.2.2 = false ∨ ((T k).2.2.2 = true ∧ M.1.name = "<init>" ∧ (T k).1 = M.1.cls)))
    (hn : ∀ ad : Nat → Nat, narrow (ty0 k) (xv_tr ad x) = xv_tr ad x ∧ fits (ty0 k) (xv_tr ad x) = true) (hx : ∀ ad : Nat → Nat, xv_sl ad I' Rf' ci v k = xv_tr ad x) (ho : ∀ (ad : Nat → Nat) (j : Nat), j ≠ k → xv_sl ad I' Rf' ci v j = xv_sl ad I Rf ci v j)
    (hI : ∀ w k, w ≠ v → I' w k = I w k) (hRf : ∀ w k, w ≠ v → Rf' w k = Rf w k) (hr : xv_ok sh x → (∀ k w, Rf v k = some w → sh w ≠ none) → ∀ k w, Rf' v k = some w → sh w ≠ none)
    (kk : xv_W M d mc ms Q kc ks sh I' Rf' J pc' L S) : xv_W M d mc ms Q kc ks sh I Rf J pc L (x :: .ref v :: S) := by
  obtain ⟨h1, rfl⟩ := hf
  obtain ⟨Cn, T, N, g1, g2, g3, g4⟩ := hg
  obtain ⟨t1, t2, t3⟩ := hty Cn T N g1
  intro p l e R s m args below meth c D A sh0 ad0 ca0 ad ca H locs cells slots ls C X hw hR hS hL hO hc hs
  have hts := C.2.2.2.2.2.1
  have hown := C.2.2.2.2.1
  have hK := C.2.2.2.2.2.2.2.2.2.1
  have hap := va_apart (own := M.1.cls) hts g3 ty0 t1 t2 hK g1
  obtain ⟨r, e0, cell, q1, q2, q3, q4⟩ := hR.1 v _ hv
  cases e0.symm.trans g1
  obtain ⟨hSl, hfc, kC, hkC, hkind⟩ := hK.1 ci _ g1
  obtain ⟨cf, kf, fi, f, hi, hsl⟩ := hSl k g2
  have hst := (u_facts hfc hkC (u_lays hts g3 g2) hi).1
  have hAv : A (ad v) := hw v ⟨_, hv, fun n h => by cases h⟩
  have fin : ∀ (H' : Heap), H'[ad v]? = some (cell.setSlot f.slot (xv_tr ad x)) → H'.size = H.size → (∀ q, q ≠ ad v → H'[q]? = H[q]?) → W p l e R s m args below meth c H' (locs ++ [⟨ad v, f.slot⟩]) cells slots (vx_MQ below (xv_QR Q D sh0 ad0 ca0 A) (xv_QX Q D sh0 ad0 ca0 A) args s mc ms A) (F0 m (pc + 3) ls (S.map (xv_tr ad))) := by
    intro H' e1 e2 e3
    rw [hsl] at e1
    refine kk C X hw (hR.wr hv ⟨_, g1, t_OB.to (V := updV (xv_sl ad I Rf ci v) k (xv_tr ad x)) ⟨_, e1, q2, q3, t_set q4 hap g2 _⟩ (xv_updsl (hx ad) (ho ad))⟩ e3 hI hRf (fun _ _ _ => rfl) (hr (xv_ok_h hO) (fun k w h => hR.2.2 v k w (by rw [hv]; simp) h))) (hS.put e2 e3 hAv) hL (xv_ok_t (xv_ok_t hO)) hc hs
  have hlay := hts _ (g3 _ (u_in_lay g2))
  rcases t3 with t3 | ⟨t3, t4, t5⟩
  · unfold u_lay at hlay
    rw [if_neg (by rw [t3]; decide)] at hlay
    have h6 := u_store hfc hkC hkind hlay hi (t1 k g2) (hn ad).1 (hn ad).2
    rcases g4 with g4 | ⟨host, g4⟩
    · exact W.putK C.1 C.2.1 (f := f) ⟨hown, hts _ g4, ⟨_, _, _, hi⟩, hst⟩ (by rw [q2]; exact h6) q1 q3 (by rw [hsl]; exact k2_hasslot (q4 k g2)) rfl rfl h1 fin
    · exact va_WputK C.1 C.2.1 (f := f) hown (hts _ g4) hi hst (by rw [q2]; exact h6) q1 q3 (by rw [hsl]; exact k2_hasslot (q4 k g2)) rfl rfl h1 fin
  · unfold u_lay at hlay
    rw [if_pos t3] at hlay
    have hcf : m.cls = cf := by
      obtain ⟨_, _, c', _, _, _, -, -, hf', -, -, -, hown2, -⟩ := Cond.laysFinal_spec hlay
      have e1 : c' = cf := by have := hi.symm.trans hf'; simp at this; exact this.1.symm
      rw [t5] at hown2
      rw [← e1]; exact Option.some.inj (hown.symm.trans hown2)
    have h6 := u_fits hfc hkC hkind (Or.inr hlay) hi (t1 k g2) (hn ad).1 (hn ad).2
    rcases g4 with g4 | ⟨host, g4⟩
    · exact W.putFinK C.1 C.2.1 hown (hts _ g4) hi hst hcf (C.2.2.2.2.2.2.2.1.trans t4) (by rw [q2]; exact h6) q1 q3 (by rw [hsl]; exact k2_hasslot (q4 k g2)) rfl rfl h1 fin
    · refine va_Wputf C.1 C.2.1 hown (hts _ g4) hi hst (Or.inr ⟨hcf, C.2.2.2.2.2.2.2.1.trans t4⟩) q1 (by rw [q3]; exact fun h => by cases h) (by rw [hsl]; exact k2_hasslot (q4 k g2)) h6.1 (by rw [q2, q3]; exact h6.2) rfl rfl h1 ?_
      have hlt : ad v < H.size := (Array.getElem?_eq_some_iff.mp q1).1
      exact fin _ (by simp [Array.getElem?_setIfInBounds, hlt]) (by simp) (fun q hq => by simp [Array.getElem?_setIfInBounds, Ne.symm hq])
/-- which fields there are, of a class's place: its types, its names, whether a field is final -/
def xv_T (M : xv_M) (ci k : Nat) : Prop := ∀ (C : String) (T : u_T) (N : Nat), vwCl[ci]? = some (C, T, N) → (∀ j, j < N → parseFieldDescriptor (T j).2.2.1 = some (xv_ft ci j)) ∧ (∀ a, a < N → ∀ b, b < N → a ≠ b → (T a).2.1 ≠ (T b).2.1) ∧ ((T k).2.2.2 = false ∨ ((T k).2.2.2 = true ∧ M.1.name = "<init>" ∧ (T k).1 = M.1.cls))
theorem xv_putI {ci k v idx : Nat} {x : Int32} (hf : xv_F M pc (.putfield idx) 3 pc') (hg : xv_G M.1.cls idx ci k) (ht : (xv_ft ci k).isReference = false) (hT : xv_T M ci k) (hv : sh v = some (.inl ci)) (hn : narrow (xv_ft ci k) (.int x) = .int x ∧ fits (xv_ft ci k) (.int x) = true)
    (kk : xv_W M d mc ms Q kc ks sh (xv_u I v k x) Rf J pc' L S) : xv_W M d mc ms Q kc ks sh I Rf J pc L (.int x :: .ref v :: S) := by
  refine xv_put (x := .int x) (I' := xv_u I v k x) (Rf' := Rf) hf hg hv (xv_ft ci) hT (fun _ => hn) (fun ad => ?_) (fun ad j hj => ?_) (fun w k hw => xv_u_ne _ _ _ hw) (fun _ _ _ => rfl) (fun _ h => h) kk
  · unfold xv_sl
    rw [if_neg (by rw [ht]; decide), xv_u_eq]
    rfl
  · unfold xv_sl
    rw [xv_u_nk _ _ _ hj]
theorem xv_putR {ci k v idx o : Nat} (hf : xv_F M pc (.putfield idx) 3 pc') (hg : xv_G M.1.cls idx ci k) (ht : (xv_ft ci k).isReference = true) (hT : xv_T M ci k) (hv : sh v = some (.inl ci)) (hn : ∀ a : Nat, narrow (xv_ft ci k) (.ref a) = .ref a ∧ fits (xv_ft ci k) (.ref a) = true)
    (kk : xv_W M d mc ms Q kc ks sh I (xv_u Rf v k (some o)) J pc' L S) : xv_W M d mc ms Q kc ks sh I Rf J pc L (.ref o :: .ref v :: S) := by
  refine xv_put (x := .ref o) (I' := I) (Rf' := xv_u Rf v k (some o)) hf hg hv (xv_ft ci) hT (fun ad => hn (ad o)) (fun ad => ?_) (fun ad j hj => ?_) (fun _ _ _ => rfl) (fun w k hw => xv_u_ne _ _ _ hw) (fun ho h j w hj => ?_) kk
  · unfold xv_sl
    rw [if_pos ht, xv_u_eq]
    rfl
  · unfold xv_sl
    rw [xv_u_nk _ _ _ hj]
  · by_cases e : j = k
    · subst e
      rw [xv_u_eq] at hj
      cases hj
      exact ho
    · rw [xv_u_nk _ _ _ e] at hj
      exact h j w hj
/-- an int within -/
theorem xv_in {i : Int32} {n : Nat} (h : vp_in i n) : i.toNatClampNeg < n := Nat.not_le.mp fun q => h (Or.inr q)
theorem xv_iald {v n : Nat} {i : Int32} (hf : xv_F M pc .iaload 1 pc') (hv : sh v = some (.inr (.inl (.int, n)))) (hi : vp_in i n) (kk : xv_W M d mc ms Q kc ks sh I Rf J pc' L (.int (I v i.toNatClampNeg) :: S)) : xv_W M d mc ms Q kc ks sh I Rf J pc L (.int i :: .ref v :: S) := by
  obtain ⟨h1, rfl⟩ := hf
  intro p l e R s m args below meth c D A sh0 ad0 ca0 ad ca H locs cells slots ls C X hw hR hS hL hO hc hs
  obtain ⟨q1, q2, q3⟩ := hR.1 v _ hv
  exact W.iald (v := .int (I v i.toNatClampNeg)) C.1 C.2.1 q1 (q2 n _) (fun q => by cases q) (by show ¬ (i < 0 ∨ (arrV _ _ _).slots.size ≤ _); rw [arrV_size]; exact hi) (by show (arrV _ _ _).slots[_]? = _; rw [arrV_read _ _ (xv_in hi)]; rfl) rfl rfl h1 (kk C X hw hR hS hL (xv_ok_i (xv_ok_t (xv_ok_t hO)) _) hc hs)
theorem xv_zald {v n : Nat} {i : Int32} (hf : xv_F M pc .baload 1 pc') (hv : sh v = some (.inr (.inl (.boolean, n)))) (hi : vp_in i n) (kk : xv_W M d mc ms Q kc ks sh I Rf J pc' L (.int (I v i.toNatClampNeg) :: S)) : xv_W M d mc ms Q kc ks sh I Rf J pc L (.int i :: .ref v :: S) := by
  obtain ⟨h1, rfl⟩ := hf
  intro p l e R s m args below meth c D A sh0 ad0 ca0 ad ca H locs cells slots ls C X hw hR hS hL hO hc hs
  obtain ⟨q1, q2, q3⟩ := hR.1 v _ hv
  exact W.zald (v := .int (I v i.toNatClampNeg)) C.1 C.2.1 q1 (q2 n _) (fun q => by cases q) (by show ¬ (i < 0 ∨ (arrV _ _ _).slots.size ≤ _); rw [arrV_size]; exact hi) (by show (arrV _ _ _).slots[_]? = _; rw [arrV_read _ _ (xv_in hi)]; rfl) rfl rfl h1 (kk C X hw hR hS hL (xv_ok_i (xv_ok_t (xv_ok_t hO)) _) hc hs)
theorem xv_lald {v n : Nat} {i : Int32} (hf : xv_F M pc .laload 1 pc') (hv : sh v = some (.inr (.inl (.long, n)))) (hi : vp_in i n) (kk : xv_W M d mc ms Q kc ks sh I Rf J pc' L (.long (J v i.toNatClampNeg) :: S)) : xv_W M d mc ms Q kc ks sh I Rf J pc L (.int i :: .ref v :: S) := by
  obtain ⟨h1, rfl⟩ := hf
  intro p l e R s m args below meth c D A sh0 ad0 ca0 ad ca H locs cells slots ls C X hw hR hS hL hO hc hs
  obtain ⟨q1, q2, q3⟩ := hR.1 v _ hv
  exact W.lald (v := .long (J v i.toNatClampNeg)) C.1 C.2.1 q1 (q2 n _) (fun q => by cases q) (by show ¬ (i < 0 ∨ (arrV _ _ _).slots.size ≤ _); rw [arrV_size]; exact hi) (by show (arrV _ _ _).slots[_]? = _; rw [arrV_read _ _ (xv_in hi)]; rfl) rfl rfl h1 (kk C X hw hR hS hL (xv_ok_l (xv_ok_t (xv_ok_t hO)) _) hc hs)
theorem xv_aald {v n o : Nat} {i : Int32} {ty : FieldType} (hf : xv_F M pc .aaload 1 pc') (hv : sh v = some (.inr (.inl (ty, n)))) (ht : (∃ C, ty = .object C) ∨ ∃ t, ty = .array t) (hi : vp_in i n) (hr : Rf v i.toNatClampNeg = some o) (kk : xv_W M d mc ms Q kc ks sh I Rf J pc' L (.ref o :: S)) : xv_W M d mc ms Q kc ks sh I Rf J pc L (.int i :: .ref v :: S) := by
  obtain ⟨h1, rfl⟩ := hf
  intro p l e R s m args below meth c D A sh0 ad0 ca0 ad ca H locs cells slots ls C X hw hR hS hL hO hc hs
  obtain ⟨q1, q2, q3⟩ := hR.1 v _ hv
  have he : xv_el ad I Rf J ty v i.toNatClampNeg = .ref (ad o) := by rcases ht with ⟨t, rfl⟩ | ⟨t, rfl⟩ <;> (unfold xv_el; dsimp only; rw [hr]; rfl)
  exact W.aald (v := .ref (ad o)) C.1 C.2.1 q1 (q2 n _) (by rcases ht with ⟨t, rfl⟩ | ⟨t, rfl⟩ <;> rfl) (fun q => by cases q) (by show ¬ (i < 0 ∨ (arrV _ _ _).slots.size ≤ _); rw [arrV_size]; exact hi) (by show (arrV _ _ _).slots[_]? = _; rw [arrV_read _ _ (xv_in hi)]; exact congrArg some he) rfl rfl h1 (kk C X hw hR hS hL (List.forall_mem_cons.mpr ⟨hR.2.2 v _ o (by rw [hv]; simp) hr, xv_ok_t (xv_ok_t hO)⟩) hc hs)
theorem xv_aaldN {v n : Nat} {i : Int32} {ty : FieldType} (hf : xv_F M pc .aaload 1 pc') (hv : sh v = some (.inr (.inl (ty, n)))) (ht : (∃ C, ty = .object C) ∨ ∃ t, ty = .array t) (hi : vp_in i n) (hr : Rf v i.toNatClampNeg = none) (kk : xv_W M d mc ms Q kc ks sh I Rf J pc' L (.null :: S)) : xv_W M d mc ms Q kc ks sh I Rf J pc L (.int i :: .ref v :: S) := by
  obtain ⟨h1, rfl⟩ := hf
  intro p l e R s m args below meth c D A sh0 ad0 ca0 ad ca H locs cells slots ls C X hw hR hS hL hO hc hs
  obtain ⟨q1, q2, q3⟩ := hR.1 v _ hv
  have he : xv_el ad I Rf J ty v i.toNatClampNeg = .null := by rcases ht with ⟨t, rfl⟩ | ⟨t, rfl⟩ <;> (unfold xv_el; dsimp only; rw [hr]; rfl)
  exact W.aald (v := .null) C.1 C.2.1 q1 (q2 n _) (by rcases ht with ⟨t, rfl⟩ | ⟨t, rfl⟩ <;> rfl) (fun q => by cases q) (by show ¬ (i < 0 ∨ (arrV _ _ _).slots.size ≤ _); rw [arrV_size]; exact hi) (by show (arrV _ _ _).slots[_]? = _; rw [arrV_read _ _ (xv_in hi)]; exact congrArg some he) rfl rfl h1 (kk C X hw hR hS hL (List.forall_mem_cons.mpr ⟨trivial, xv_ok_t (xv_ok_t hO)⟩) hc hs)
theorem xv_elu {cA : ClassId} {n : Nat} {f g : Nat → Value} {k : Nat} {x : Value} (hx : g k = x) (ho : ∀ j, j ≠ k → g j = f j) : (arrV cA n f).setSlot k x = arrV cA n g := by
  rw [arrV_store]
  congr 1
  funext j
  unfold updV
  by_cases e : j = k
  · subst e
    rw [if_pos rfl, hx]
  · rw [if_neg e, ho j e]
theorem xv_iast {v n : Nat} {i x : Int32} (hf : xv_F M pc .iastore 1 pc') (hv : sh v = some (.inr (.inl (.int, n)))) (hi : vp_in i n) (kk : xv_W M d mc ms Q kc ks sh (xv_u I v i.toNatClampNeg x) Rf J pc' L S) : xv_W M d mc ms Q kc ks sh I Rf J pc L (.int x :: .int i :: .ref v :: S) := by
  obtain ⟨h1, rfl⟩ := hf
  intro p l e R s m args below meth c D A sh0 ad0 ca0 ad ca H locs cells slots ls C X hw hR hS hL hO hc hs
  obtain ⟨q1, q2, q3⟩ := hR.1 v _ hv
  refine W.iast C.1 C.2.1 q1 (q2 n _) (fun q => by cases q) (by show ¬ (i < 0 ∨ (arrV _ _ _).slots.size ≤ _); rw [arrV_size]; exact hi) rfl rfl h1 fun H1 e1 e2 e3 => ?_
  refine kk C X hw (hR.wr hv ⟨e1.trans (congrArg some (xv_elu ?_ fun j hj => ?_)), q2, q3⟩ e3 (fun w k hw => xv_u_ne _ _ _ hw) (fun _ _ _ => rfl) (fun _ _ _ => rfl) (fun k w h => hR.2.2 v k w (by rw [hv]; simp) h)) (hS.put e2 e3 (hw v ⟨_, hv, fun n h => by cases h⟩)) hL (xv_ok_t (xv_ok_t (xv_ok_t hO))) hc hs
  · show Value.int (xv_u I v _ x v _) = _
    rw [xv_u_eq]
  · show Value.int (xv_u I v _ x v j) = Value.int (I v j)
    rw [xv_u_nk _ _ _ hj]
theorem xv_zast {v n : Nat} {i x y : Int32} (hf : xv_F M pc .bastore 1 pc') (hv : sh v = some (.inr (.inl (.boolean, n)))) (hi : vp_in i n) (hn : narrow .boolean (.int x) = .int y) (kk : xv_W M d mc ms Q kc ks sh (xv_u I v i.toNatClampNeg y) Rf J pc' L S) : xv_W M d mc ms Q kc ks sh I Rf J pc L (.int x :: .int i :: .ref v :: S) := by
  obtain ⟨h1, rfl⟩ := hf
  intro p l e R s m args below meth c D A sh0 ad0 ca0 ad ca H locs cells slots ls C X hw hR hS hL hO hc hs
  obtain ⟨q1, q2, q3⟩ := hR.1 v _ hv
  refine W.zast C.1 C.2.1 q1 (q2 n _) (fun q => by cases q) (by show ¬ (i < 0 ∨ (arrV _ _ _).slots.size ≤ _); rw [arrV_size]; exact hi) rfl rfl h1 fun H1 e1 e2 e3 => ?_
  rw [hn] at e1
  refine kk C X hw (hR.wr hv ⟨e1.trans (congrArg some (xv_elu ?_ fun j hj => ?_)), q2, q3⟩ e3 (fun w k hw => xv_u_ne _ _ _ hw) (fun _ _ _ => rfl) (fun _ _ _ => rfl) (fun k w h => hR.2.2 v k w (by rw [hv]; simp) h)) (hS.put e2 e3 (hw v ⟨_, hv, fun n h => by cases h⟩)) hL (xv_ok_t (xv_ok_t (xv_ok_t hO))) hc hs
  · show Value.int (xv_u I v _ y v _) = _
    rw [xv_u_eq]
  · show Value.int (xv_u I v _ y v j) = Value.int (I v j)
    rw [xv_u_nk _ _ _ hj]
theorem xv_last {v n : Nat} {i : Int32} {x : Int64} (hf : xv_F M pc .lastore 1 pc') (hv : sh v = some (.inr (.inl (.long, n)))) (hi : vp_in i n) (kk : xv_W M d mc ms Q kc ks sh I Rf (xv_u J v i.toNatClampNeg x) pc' L S) : xv_W M d mc ms Q kc ks sh I Rf J pc L (.long x :: .int i :: .ref v :: S) := by
  obtain ⟨h1, rfl⟩ := hf
  intro p l e R s m args below meth c D A sh0 ad0 ca0 ad ca H locs cells slots ls C X hw hR hS hL hO hc hs
  obtain ⟨q1, q2, q3⟩ := hR.1 v _ hv
  refine W.last C.1 C.2.1 q1 (q2 n _) (fun q => by cases q) (by show ¬ (i < 0 ∨ (arrV _ _ _).slots.size ≤ _); rw [arrV_size]; exact hi) rfl rfl h1 fun H1 e1 e2 e3 => ?_
  refine kk C X hw (hR.wr hv ⟨e1.trans (congrArg some (xv_elu ?_ fun j hj => ?_)), q2, q3⟩ e3 (fun _ _ _ => rfl) (fun _ _ _ => rfl) (fun w k hw => xv_u_ne _ _ _ hw) (fun k w h => hR.2.2 v k w (by rw [hv]; simp) h)) (hS.put e2 e3 (hw v ⟨_, hv, fun n h => by cases h⟩)) hL (xv_ok_t (xv_ok_t (xv_ok_t hO))) hc hs
  · show Value.long (xv_u J v _ x v _) = _
    rw [xv_u_eq]
  · show Value.long (xv_u J v _ x v j) = Value.long (J v j)
    rw [xv_u_nk _ _ _ hj]
/-- an array of a class's objects gets one -/
theorem xv_aast {v n o ci : Nat} {i : Int32} {r : vw_C} (hf : xv_F M pc .aastore 1 pc') (hv : sh v = some (.inr (.inl (.object r.1, n)))) (ho : sh o = some (.inl ci)) (hcl : vwCl[ci]? = some r) (hi : vp_in i n) (kk : xv_W M d mc ms Q kc ks sh I (xv_u Rf v i.toNatClampNeg (some o)) J pc' L S) : xv_W M d mc ms Q kc ks sh I Rf J pc L (.ref o :: .int i :: .ref v :: S) := by
  obtain ⟨h1, rfl⟩ := hf
  intro p l e R s m args below meth c D A sh0 ad0 ca0 ad ca H locs cells slots ls C X hw hR hS hL hO hc hs
  have hK := C.2.2.2.2.2.2.2.2.2.1
  obtain ⟨q1, q2, q3⟩ := hR.1 v _ hv
  obtain ⟨r', hr', cellV, g1, g2, g3, -⟩ := hR.1 o _ ho
  have hcls := (hK.1 ci r hcl).2
  obtain ⟨kA, comp, k1, k2, k3, k4⟩ := q3
  have hcomp : comp = D.1 ci := Option.some.inj (k3.symm.trans hcls.1)
  subst hcomp
  obtain ⟨kC, hkC, -⟩ := id hcls.2
  refine W.aast C.1 C.2.1 q1 (fun q h => by cases h) (fun h => by cases h) k1 k2 rfl hkC ⟨fun q => hi (Or.inl q), by show _ < (arrV _ _ _).slots.size; rw [arrV_size]; exact xv_in hi⟩ g1 (fun q h => by rw [g3] at h; cases h) (by rw [g2]; exact hkC) (by rw [g2]; exact va_assign hcls) rfl rfl h1 fun H1 e1 e2 e3 => ?_
  refine kk C X hw (hR.wr hv ⟨e1.trans (congrArg some (xv_elu ?_ fun j hj => ?_)), q2, ⟨kA, _, k1, k2, k3, k4⟩⟩ e3 (fun _ _ _ => rfl) (fun w k hw => xv_u_ne _ _ _ hw) (fun _ _ _ => rfl) (fun k w h => ?_)) (hS.put e2 e3 (hw v ⟨_, hv, fun n h => by cases h⟩)) hL (xv_ok_t (xv_ok_t (xv_ok_t hO))) hc hs
  · show va_rf ((xv_u Rf v _ (some o) v _).map ad) = _
    rw [xv_u_eq]
    rfl
  · show va_rf ((xv_u Rf v _ (some o) v j).map ad) = va_rf ((Rf v j).map ad)
    rw [xv_u_nk _ _ _ hj]
  · by_cases e9 : k = i.toNatClampNeg
    · subst e9
      rw [xv_u_eq] at h
      cases h
      rw [ho]
      simp
    · rw [xv_u_nk _ _ _ e9] at h
      exact hR.2.2 v k w (by rw [hv]; simp) h
theorem xv_alen {v n : Nat} {ty : FieldType} (hf : xv_F M pc .arraylength 1 pc') (hv : sh v = some (.inr (.inl (ty, n)))) {x : Int32} (hx : Int32.ofNat n = x) (kk : xv_W M d mc ms Q kc ks sh I Rf J pc' L (.int x :: S)) : xv_W M d mc ms Q kc ks sh I Rf J pc L (.ref v :: S) := by
  obtain ⟨h1, rfl⟩ := hf
  intro p l e R s m args below meth c D A sh0 ad0 ca0 ad ca H locs cells slots ls C X hw hR hS hL hO hc hs
  obtain ⟨q1, q2, q3⟩ := hR.1 v _ hv
  exact W.alen (n := x) C.1 C.2.1 q1 (q2 n _) (by show (arrV _ _ _).slots.size.toInt32 = _; rw [arrV_size]; exact hx) rfl rfl h1 (kk C X hw hR hS hL (xv_ok_i (xv_ok_t hO) _) hc hs)
/-- the law's script -/
theorem xv_sld {v n : Nat} {i : Int32} (hf : xv_F M pc .iaload 1 pc') (hv : sh v = some (.inr (.inr n))) (hi : vp_in i n) (kk : xv_W M d mc ms Q kc ks sh I Rf J pc' L (.int (I v i.toNatClampNeg) :: S)) : xv_W M d mc ms Q kc ks sh I Rf J pc L (.int i :: .ref v :: S) := by
  obtain ⟨h1, rfl⟩ := hf
  intro p l e R s m args below meth c D A sh0 ad0 ca0 ad ca H locs cells slots ls C X hw hR hS hL hO hc hs
  obtain ⟨scr, q1, q2, q3, q4, q5⟩ := hR.1 v _ hv
  exact W.iald (v := .int (I v i.toNatClampNeg)) C.1 C.2.1 q1 q2 q3 (by rw [q4]; exact hi) (q5 _ (xv_in hi)) rfl rfl h1 (kk C X hw hR hS hL (xv_ok_i (xv_ok_t (xv_ok_t hO)) _) hc hs)
theorem xv_slen {v n : Nat} (hf : xv_F M pc .arraylength 1 pc') (hv : sh v = some (.inr (.inr n))) (kk : xv_W M d mc ms Q kc ks sh I Rf J pc' L (.int (Int32.ofNat n) :: S)) : xv_W M d mc ms Q kc ks sh I Rf J pc L (.ref v :: S) := by
  obtain ⟨h1, rfl⟩ := hf
  intro p l e R s m args below meth c D A sh0 ad0 ca0 ad ca H locs cells slots ls C X hw hR hS hL hO hc hs
  obtain ⟨scr, q1, q2, q3, q4, q5⟩ := hR.1 v _ hv
  exact W.alen (n := Int32.ofNat n) C.1 C.2.1 q1 q2 (by rw [q4]) rfl rfl h1 (kk C X hw hR hS hL (xv_ok_i (xv_ok_t hO) _) hc hs)
end XVH
end
section
section XVN
variable {M : xv_M} {d mc ms kc ks : Nat} {Q : xv_Q} {sh : xv_Sh} {I : xv_I} {Rf : xv_Rf} {J : xv_J} {pc pc' tgt : Nat} {L : List (Option Value)} {S : List Value}
/-- one cell, all its places -/
def xv_z {α : Type} (f : Nat → Nat → α) (v : Nat) (x : α) : Nat → Nat → α := fun w j => if w = v then x else f w j
theorem xv_z_eq {α : Type} (f : Nat → Nat → α) (v : Nat) (x : α) (j : Nat) : xv_z f v x v j = x := by simp [xv_z]
theorem xv_z_ne {α : Type} (f : Nat → Nat → α) {v : Nat} (x : α) {w : Nat} (j : Nat) (h : w ≠ v) : xv_z f v x w j = f w j := by simp [xv_z, h]
theorem xv_us_eq (sh : xv_Sh) (v : Nat) (x : xv_S) : xv_us sh v x v = some x := by simp [xv_us]
theorem xv_us_ne (sh : xv_Sh) {v : Nat} (x : xv_S) {w : Nat} (h : w ≠ v) : xv_us sh v x w = sh w := by simp [xv_us, h]
/-- a new cell -/
theorem xv_R.nw {s : State} {D : va_G} {ad : Nat → Nat} {ca : Nat → ClassId} {sh : xv_Sh} {I I' : xv_I} {Rf Rf' : xv_Rf} {J J' : xv_J} {H H1 : Heap} {n : Nat} {x : xv_S} {cA : ClassId} (h : xv_R s D ad ca sh I Rf J H) (hv : sh n = none)
    (hn : xv_at s D (fun w => if w = n then H.size else ad w) (fun w => if w = n then cA else ca w) I' Rf' J' H1 n x) (oq : ∀ q, q < H.size → H1[q]? = H[q]?)
    (hI : ∀ w k, w ≠ n → I' w k = I w k) (hRf : ∀ w k, w ≠ n → Rf' w k = Rf w k) (hJ : ∀ w k, w ≠ n → J' w k = J w k) (hr : ∀ k, Rf' n k = none) : xv_R s D (fun w => if w = n then H.size else ad w) (fun w => if w = n then cA else ca w) (xv_us sh n x) I' Rf' J' H1 := by
  refine ⟨fun w y hy => ?_, fun w z hw hz e => ?_, fun w k z hw hz => ?_⟩
  · by_cases e : w = n
    · subst e
      rw [xv_us_eq] at hy
      cases hy
      exact hn
    · rw [xv_us_ne _ _ e] at hy
      refine ((h.1 w y hy).kept (oq _ (h.1 w y hy).lt)).cong (if_neg e) (if_neg e) (fun k => hI w k e) (fun k => hRf w k e) (fun k => hJ w k e) (fun k z hz => ?_)
      have hz2 : sh z ≠ none := h.2.2 w k z (by rw [hy]; simp) hz
      exact if_neg (fun q => hz2 (by rw [q]; exact hv))
  · by_cases e1 : w = n <;> by_cases e2 : z = n
    · rw [e1, e2]
    · subst e1
      rw [xv_us_ne _ _ e2] at hz
      obtain ⟨y, hy⟩ := Option.ne_none_iff_exists'.mp hz
      have := (h.1 z y hy).lt
      simp only [if_neg e2, if_true] at e
      omega
    · subst e2
      rw [xv_us_ne _ _ e1] at hw
      obtain ⟨y, hy⟩ := Option.ne_none_iff_exists'.mp hw
      have := (h.1 w y hy).lt
      simp only [if_neg e1, if_true] at e
      omega
    · rw [xv_us_ne _ _ e1] at hw
      rw [xv_us_ne _ _ e2] at hz
      simp only [if_neg e1, if_neg e2] at e
      exact h.2.1 w z hw hz e
  · by_cases e1 : w = n
    · subst e1
      rw [hr k] at hz
      cases hz
    · rw [xv_us_ne _ _ e1] at hw
      rw [hRf w k e1] at hz
      have hz2 := h.2.2 w k z hw hz
      by_cases e2 : z = n
      · subst e2
        exact absurd hv hz2
      · rw [xv_us_ne _ _ e2]
        exact hz2
theorem xv_nwX {ad : Nat → Nat} {ca : Nat → ClassId} {n q : Nat} {cA : ClassId} (x : xv_S) (hv : sh n = none) : xv_X sh ad ca (xv_us sh n x) (fun w => if w = n then q else ad w) (fun w => if w = n then cA else ca w) := fun v hs => by
  have e : v ≠ n := fun q => hs (by rw [q]; exact hv)
  exact ⟨xv_us_ne _ _ e, if_neg e, if_neg e⟩
theorem xv_nww {A : Nat → Prop} {ad : Nat → Nat} {n q : Nat} {x : xv_S} (hw : ∀ v, xv_w sh v → A (ad v)) (hq : A q) : ∀ v, xv_w (xv_us sh n x) v → A ((fun w => if w = n then q else ad w) v) := fun v ⟨y, hy, h2⟩ => by
  by_cases e : v = n
  · show A (if v = n then q else ad v)
    rw [if_pos e]
    exact hq
  · show A (if v = n then q else ad v)
    rw [if_neg e]
    rw [xv_us_ne _ _ e] at hy
    exact hw v ⟨y, hy, h2⟩
theorem xv_nwL {ad : Nat → Nat} {nL : Nat} {ls : Array Slot} {n q : Nat} (x : xv_S) (hv : sh n = none) (h : xv_L ad sh nL ls L) : xv_L (fun w => if w = n then q else ad w) (xv_us sh n x) nL ls L := h.moved fun v hs => by
  have e : v ≠ n := fun q => hs (by rw [q]; exact hv)
  exact ⟨by rw [xv_us_ne _ _ e]; exact hs, if_neg e⟩
theorem xv_nwS {n : Nat} (x : xv_S) (hv : sh n = none) (h : ∀ v ∈ S, xv_ok sh v) : ∀ v ∈ S, xv_ok (xv_us sh n x) v := xv_okS h fun v hs => by
  have e : v ≠ n := fun q => hs (by rw [q]; exact hv)
  rw [xv_us_ne _ _ e]
  exact hs
theorem xv_nwT {ad : Nat → Nat} {n q : Nat} (hv : sh n = none) (h : ∀ v ∈ S, xv_ok sh v) : S.map (xv_tr (fun w => if w = n then q else ad w)) = S.map (xv_tr ad) := xv_trS h fun v hs => if_neg (fun q => hs (by rw [q]; exact hv))
theorem xv_trn {ad : Nat → Nat} {n q : Nat} : xv_tr (fun w => if w = n then q else ad w) (.ref n) = .ref q := by
  show Value.ref (if n = n then q else ad n) = .ref q
  rw [if_pos rfl]
theorem xv_nwSt {A : Nat → Prop} {H0 H H1 : Heap} {locs : List Loc} (hS : va_S A H0 H locs) (hz : H.size ≤ H1.size) (oq : ∀ q, q < H.size → H1[q]? = H[q]?) : va_S A H0 H1 locs := ⟨Nat.le_trans hS.1 hz, fun q h1 h2 => (oq q (Nat.lt_of_lt_of_le h1 hS.1)).trans (hS.2.1 q h1 h2), hS.2.2⟩
/-- a class that 'new' names: place in the pool, the class's place, its fields -/
def xv_N (own : String) (idx ci N : Nat) : Prop := ∃ (C : String) (T : u_T), vwCl[ci]? = some (C, T, N) ∧ (∀ w ∈ u_ws C T N, w ∈ xv_tbl) ∧ Cond.classLink own idx C ∈ xv_tbl ∧ Cond.instantiable C N ∈ xv_tbl ∧ Cond.initialized C ∈ xv_tbl ∧ (∀ k, k < N → parseFieldDescriptor (T k).2.2.1 = some (xv_ft ci k)) ∧ ∀ k, k < N → defaultValue (xv_ft ci k) = if (xv_ft ci k).isReference = true then .null else .int 0
/-- a new object, by a number n that is free -/
theorem xv_new {idx ci N n kc' ks' : Nat} (hf : xv_F M pc (.new idx) 3 pc') (hg : xv_N M.1.cls idx ci N) (hn : sh n = none) (h1c : kc' + 1 ≤ kc) (h1s : ks' + N ≤ ks) (kk : xv_W M d mc ms Q kc' ks' (xv_us sh n (.inl ci)) (xv_z I n 0) (xv_z Rf n none) J pc' L (.ref n :: S)) : xv_W M d mc ms Q kc ks sh I Rf J pc L S := by
  obtain ⟨h1, rfl⟩ := hf
  obtain ⟨Cn, T, g1, g2, g3, g4, g5, g6, g7⟩ := hg
  intro p l e R s m args below meth c D A sh0 ad0 ca0 ad ca H locs cells slots ls C X hw hR hS hL hO hc hs
  have hts := C.2.2.2.2.2.1
  have hKn := C.2.2.2.2.2.2.2.2.2.1.1 ci _ g1
  have hcm : mc ≤ R.cells := C.2.2.2.2.2.2.2.2.2.2.2.2.2.2.2.1
  have hsm : ms ≤ R.slots := C.2.2.2.2.2.2.2.2.2.2.2.2.2.2.2.2
  refine W.newcK C.1 C.2.1 C.2.2.2.2.1 (hts _ g3) (hts _ g4) (hts _ g5) rfl h1 (by omega) (by omega) hKn.2.1 rfl fun H1 kC hkC e1 z1 o1 => ?_
  have K := kk (below := below) (e := e) C (X.tr (xv_nwX (q := H.size) (cA := 0) _ hn)) (xv_nww hw (C.2.2.2.2.2.2.2.2.2.2.2.1 _ hS.1)) (hR.nw hn ⟨_, g1, (u_born (xv_ft ci) hts g2 hKn hkC (by show H1[if n = n then H.size else ad n]? = _; rw [if_pos rfl]; exact e1) g6).to fun k hk => ?_⟩ o1 (fun w k h => xv_z_ne _ _ _ h) (fun w k h => xv_z_ne _ _ _ h) (fun _ _ _ => rfl) (fun k => xv_z_eq _ _ _ _))
    (xv_nwSt hS (by omega) o1) (xv_nwL _ hn hL) (List.forall_mem_cons.mpr ⟨by show xv_us sh n _ n ≠ none; rw [xv_us_eq]; simp, xv_nwS _ hn hO⟩) (cells := cells + 1) (slots := slots + N) (by omega) (by omega)
  · rw [List.map_cons, xv_nwT hn hO, xv_trn] at K
    exact K
  · rw [g7 k hk]
    unfold xv_sl
    rw [xv_z_eq, xv_z_eq]
    rfl
theorem xv_newA {n k9 kc' ks' : Nat} {k : Int32} {atype : ArrayType} {ty : FieldType} {I' : xv_I} {J' : xv_J} (hf : xv_F M pc (.newarray atype) 2 pc') (hty : newarray.typeOf atype = ty) (hw0 : Cond.arrayClass ty ∈ xv_tbl) (hn : sh n = none) (hk : ¬ k < 0) (hN : k.toNatClampNeg = k9) (hb : k9 * componentBytes ty ≤ 536870912) (h1c : kc' + 1 ≤ kc) (h1s : ks' + k9 ≤ ks)
    (hd : ∀ ad j, xv_el ad I' (xv_z Rf n none) J' ty n j = defaultValue ty) (hI : ∀ w k, w ≠ n → I' w k = I w k) (hJ : ∀ w k, w ≠ n → J' w k = J w k) (hnm : ∀ (s : State) (cA : ClassId), s.vm.findClass ("[" ++ ty.toString) = some cA → va_RA s cA ty)
    (kk : xv_W M d mc ms Q kc' ks' (xv_us sh n (.inr (.inl (ty, k9)))) I' (xv_z Rf n none) J' pc' L (.ref n :: S)) : xv_W M d mc ms Q kc ks sh I Rf J pc L (.int k :: S) := by
  obtain ⟨h1, rfl⟩ := hf
  subst hty
  intro p l e R s m args below meth c D A sh0 ad0 ca0 ad ca H locs cells slots ls C X hw hR hS hL hO hc hs
  have hts := C.2.2.2.2.2.1
  have hcm : mc ≤ R.cells := C.2.2.2.2.2.2.2.2.2.2.2.2.2.2.2.1
  have hsm : ms ≤ R.slots := C.2.2.2.2.2.2.2.2.2.2.2.2.2.2.2.2
  refine va_newaK C.1 C.2.1 (hts _ hw0) rfl h1 rfl hk hN hb (by omega) (by omega) rfl fun H1 cA e1 z1 o1 hAr hNm => ?_
  have K := kk (below := below) (e := e) C (X.tr (xv_nwX (q := H.size) (cA := cA) _ hn)) (xv_nww hw (C.2.2.2.2.2.2.2.2.2.2.2.1 _ hS.1)) (hR.nw (cA := cA) hn ⟨?_, by show ArrOfT s (if n = n then cA else ca n) _; rw [if_pos rfl]; exact hAr, by show va_RA s (if n = n then cA else ca n) _; rw [if_pos rfl]; exact hnm s cA hNm⟩ o1 hI (fun w k h => xv_z_ne _ _ _ h) hJ (fun k => xv_z_eq _ _ _ _))
    (xv_nwSt hS (by omega) o1) (xv_nwL _ hn hL) (List.forall_mem_cons.mpr ⟨by show xv_us sh n _ n ≠ none; rw [xv_us_eq]; simp, xv_nwS _ hn (xv_ok_t hO)⟩) (cells := cells + 1) (slots := slots + k9) (by omega) (by omega)
  · rw [List.map_cons, xv_nwT hn (xv_ok_t hO), xv_trn] at K
    exact K
  · show H1[if n = n then H.size else ad n]? = some (arrV (if n = n then cA else ca n) _ _)
    rw [if_pos rfl, if_pos rfl, e1]
    congr 2
    funext j
    exact (hd _ j).symm
theorem xv_newI {n k9 kc' ks' : Nat} {k : Int32} (hf : xv_F M pc (.newarray .int) 2 pc') (hw0 : Cond.arrayClass .int ∈ xv_tbl) (hn : sh n = none) (hk : ¬ k < 0) (hN : k.toNatClampNeg = k9) (hb : k9 ≤ 1000000) (h1c : kc' + 1 ≤ kc) (h1s : ks' + k9 ≤ ks)
    (kk : xv_W M d mc ms Q kc' ks' (xv_us sh n (.inr (.inl (.int, k9)))) (xv_z I n 0) (xv_z Rf n none) J pc' L (.ref n :: S)) : xv_W M d mc ms Q kc ks sh I Rf J pc L (.int k :: S) :=
  xv_newA (ty := .int) hf rfl hw0 hn hk hN (by show k9 * 4 ≤ _; omega) h1c h1s (fun ad j => by show Value.int (xv_z I n 0 n j) = _; rw [xv_z_eq]; rfl) (fun w k h => xv_z_ne _ _ _ h) (fun _ _ _ => rfl) (fun _ _ h => h) kk
theorem xv_newZ {n k9 kc' ks' : Nat} {k : Int32} (hf : xv_F M pc (.newarray .boolean) 2 pc') (hw0 : Cond.arrayClass .boolean ∈ xv_tbl) (hn : sh n = none) (hk : ¬ k < 0) (hN : k.toNatClampNeg = k9) (hb : k9 ≤ 1000000) (h1c : kc' + 1 ≤ kc) (h1s : ks' + k9 ≤ ks)
    (kk : xv_W M d mc ms Q kc' ks' (xv_us sh n (.inr (.inl (.boolean, k9)))) (xv_z I n 0) (xv_z Rf n none) J pc' L (.ref n :: S)) : xv_W M d mc ms Q kc ks sh I Rf J pc L (.int k :: S) :=
  xv_newA (ty := .boolean) hf rfl hw0 hn hk hN (by show k9 * 1 ≤ _; omega) h1c h1s (fun ad j => by show Value.int (xv_z I n 0 n j) = _; rw [xv_z_eq]; rfl) (fun w k h => xv_z_ne _ _ _ h) (fun _ _ _ => rfl) (fun _ _ h => h) kk
theorem xv_newJ {n k9 kc' ks' : Nat} {k : Int32} (hf : xv_F M pc (.newarray .long) 2 pc') (hw0 : Cond.arrayClass .long ∈ xv_tbl) (hn : sh n = none) (hk : ¬ k < 0) (hN : k.toNatClampNeg = k9) (hb : k9 ≤ 1000000) (h1c : kc' + 1 ≤ kc) (h1s : ks' + k9 ≤ ks)
    (kk : xv_W M d mc ms Q kc' ks' (xv_us sh n (.inr (.inl (.long, k9)))) I (xv_z Rf n none) (xv_z J n 0) pc' L (.ref n :: S)) : xv_W M d mc ms Q kc ks sh I Rf J pc L (.int k :: S) :=
  xv_newA (ty := .long) hf rfl hw0 hn hk hN (by show k9 * 8 ≤ _; omega) h1c h1s (fun ad j => by show Value.long (xv_z J n 0 n j) = _; rw [xv_z_eq]; rfl) (fun _ _ _ => rfl) (fun w k h => xv_z_ne _ _ _ h) (fun _ _ h => h) kk
theorem xv_anew {n k9 kc' ks' idx : Nat} {k : Int32} {Cn : String} (hf : xv_F M pc (.anewarray idx) 3 pc') (hl1 : Cond.classLink M.1.cls idx Cn ∈ xv_tbl) (hl2 : Cond.arrayOver (.object Cn) ∈ xv_tbl) (hn : sh n = none) (hk : ¬ k < 0) (hN : k.toNatClampNeg = k9) (hb : k9 ≤ 1000000) (h1c : kc' + 1 ≤ kc) (h1s : ks' + k9 ≤ ks)
    (kk : xv_W M d mc ms Q kc' ks' (xv_us sh n (.inr (.inl (.object Cn, k9)))) I (xv_z Rf n none) J pc' L (.ref n :: S)) : xv_W M d mc ms Q kc ks sh I Rf J pc L (.int k :: S) := by
  obtain ⟨h1, rfl⟩ := hf
  subst hN
  intro p l e R s m args below meth c D A sh0 ad0 ca0 ad ca H locs cells slots ls C X hw hR hS hL hO hc hs
  have hts := C.2.2.2.2.2.1
  have hcm : mc ≤ R.cells := C.2.2.2.2.2.2.2.2.2.2.2.2.2.2.2.1
  have hsm : ms ≤ R.slots := C.2.2.2.2.2.2.2.2.2.2.2.2.2.2.2.2
  refine W.anew C.1 C.2.1 C.2.2.2.2.1 (hts _ hl1) (hts _ hl2) rfl h1 rfl hk (by omega) (by omega) (by omega) fun cA kA comp f1 f2 f3 f4 => ?_
  have o1 : ∀ q, q < H.size → (H.push ({ cls := cA, slots := Array.replicate k.toNatClampNeg .null, vm := .none } : Cell))[q]? = H[q]? := fun q hq => by rw [Array.getElem?_push, if_neg (Nat.ne_of_lt hq)]
  have hAr : ArrOfT s cA (.object Cn) := fun n z => ⟨fun k h => (by cases h), kA, f2, comp, f3⟩
  have K := kk (below := below) (e := e) C (X.tr (xv_nwX (q := H.size) (cA := cA) _ hn)) (xv_nww hw (C.2.2.2.2.2.2.2.2.2.2.2.1 _ hS.1)) (hR.nw (cA := cA) hn ⟨?_, by show ArrOfT s (if n = n then cA else ca n) _; rw [if_pos rfl]; exact hAr, by show va_RA s (if n = n then cA else ca n) _; rw [if_pos rfl]; exact ⟨kA, comp, f2, f3, f4, f1⟩⟩ o1 (fun _ _ _ => rfl) (fun w k h => xv_z_ne _ _ _ h) (fun _ _ _ => rfl) (fun k => xv_z_eq _ _ _ _))
    (xv_nwSt hS (by simp) o1) (xv_nwL _ hn hL) (List.forall_mem_cons.mpr ⟨by show xv_us sh n _ n ≠ none; rw [xv_us_eq]; simp, xv_nwS _ hn (xv_ok_t hO)⟩) (cells := cells + 1) (slots := slots + k.toNatClampNeg) (by omega) (by omega)
  · rw [List.map_cons, xv_nwT hn (xv_ok_t hO), xv_trn] at K
    exact K
  · show (H.push _)[if n = n then H.size else ad n]? = some (arrV (if n = n then cA else ca n) _ _)
    rw [if_pos rfl, if_pos rfl, arrV_new]
    rw [Array.getElem?_push, if_pos rfl]
    congr 2
    funext j
    show _ = va_rf ((xv_z Rf n none n j).map _)
    rw [xv_z_eq]
    rfl
/-- new int[N][K]: the outer array the number o, the inner ones b .. b + N - 1 -/
def xv_ms (sh : xv_Sh) (o b N K : Nat) : xv_Sh := fun w => if w = o then some (.inr (.inl (.array .int, N))) else if b ≤ w ∧ w < b + N then some (.inr (.inl (.int, K))) else sh w
def xv_mr (Rf : xv_Rf) (o b N : Nat) : xv_Rf := fun w j => if w = o then (if j < N then some (b + j) else none) else if b ≤ w ∧ w < b + N then none else Rf w j
def xv_mi (I : xv_I) (b N : Nat) : xv_I := fun w j => if b ≤ w ∧ w < b + N then 0 else I w j
theorem xv_mna {o b N K kc' ks' idx : Nat} {k n : Int32} (hf : xv_F M pc (.multianewarray idx 2) 4 pc') (hl1 : Cond.classLink M.1.cls idx ("[" ++ (FieldType.array .int).toString) ∈ xv_tbl) (hl2 : Cond.arrayOver (.array .int) ∈ xv_tbl) (hl3 : Cond.arrayClass .int ∈ xv_tbl) (ho : sh o = none) (hob : o < b) (hi : ∀ i, i < N → sh (b + i) = none) (hn : ¬ n < 0) (hk : ¬ k < 0) (hN : n.toNatClampNeg = N) (hK : k.toNatClampNeg = K) (hb1 : N ≤ 1000000) (hb2 : K ≤ 1000000) (h1c : kc' + (1 + N) ≤ kc) (h1s : ks' + (N + N * K) ≤ ks)
    (kk : xv_W M d mc ms Q kc' ks' (xv_ms sh o b N K) (xv_mi I b N) (xv_mr Rf o b N) J pc' L (.ref o :: S)) : xv_W M d mc ms Q kc ks sh I Rf J pc L (.int k :: .int n :: S) := by
  obtain ⟨h1, rfl⟩ := hf
  subst hN
  subst hK
  intro p l e R s m args below meth c D A sh0 ad0 ca0 ad ca H locs cells slots ls C X hw hR hS hL hO hc hs
  have hts := C.2.2.2.2.2.1
  have hcm : mc ≤ R.cells := C.2.2.2.2.2.2.2.2.2.2.2.2.2.2.2.1
  have hsm : ms ≤ R.slots := C.2.2.2.2.2.2.2.2.2.2.2.2.2.2.2.2
  intro T hT Xs
  obtain ⟨vm₁, cA, comp, -, fA, fC, hOt, hIn, X', step⟩ := Xs.multianewarray2F C.1 C.2.2.2.2.1 (hts _ hl1) (hts _ hl2) (hts _ hl3) (g := F0 m pc ls (.int k :: .int n :: S.map (xv_tr ad))) rfl (by rw [C.2.1]; exact h1) rfl hn hk (by omega) (by show _ * 4 ≤ _; omega) (by omega) rfl rfl (by omega) (by omega)
  generalize hF : Jvm.Free.Multi.fill (T.setVm vm₁) cA comp n.toNatClampNeg k.toNatClampNeg (defaultValue .int) n.toNatClampNeg = F at X' step
  have hTh : (T.setVm vm₁).heap = H := hT
  obtain ⟨f1, f2, -, -⟩ := Jvm.Free.Multi.fill_facts (T.setVm vm₁) cA comp n.toNatClampNeg k.toNatClampNeg (defaultValue .int) n.toNatClampNeg
  rw [hF, hTh] at f1 f2
  have hold : ∀ x : Nat, x < H.size → F.heap[x]? = H[x]? := fun x hx => by
    have := Jvm.Free.Multi.fill_old (T.setVm vm₁) cA comp n.toNatClampNeg k.toNatClampNeg (defaultValue .int) (a := x) (by rw [hTh]; exact hx) n.toNatClampNeg
    rw [hF, hTh] at this
    exact this
  have hrow : ∀ j : Nat, j < n.toNatClampNeg → F.heap[H.size + 1 + j]? = some (arrV comp k.toNatClampNeg (fun _ => .int 0)) := fun j hj => by
    have := Jvm.Free.Multi.fill_inner (T.setVm vm₁) cA comp n.toNatClampNeg k.toNatClampNeg (defaultValue .int) n.toNatClampNeg j hj
    rw [hF, hTh] at this
    rw [this, ← arrV_new]
    rfl
  have hout : ∀ i : Nat, Jvm.Free.Multi.outerC cA n.toNatClampNeg H.size i = arrV cA n.toNatClampNeg (fun j => va_rf (if j < i then some (H.size + 1 + j) else none)) := by
    intro i
    induction i with
    | zero =>
      show ({ cls := cA, slots := Array.replicate n.toNatClampNeg .null, vm := .none } : Cell) = _
      rw [arrV_new]
      refine congrArg (arrV cA n.toNatClampNeg) (funext fun j => ?_)
      simp [va_rf]
    | succ i ih =>
      show (Jvm.Free.Multi.outerC cA n.toNatClampNeg H.size i).setSlot i (.ref (H.size + 1 + i)) = _
      rw [ih, arrV_store]
      refine congrArg (arrV cA n.toNatClampNeg) (funext fun j => ?_)
      by_cases e : j = i
      · subst e
        simp [updV, va_rf]
      · by_cases h : j < i
        · simp [updV, e, h, Nat.lt_succ_of_lt h]
        · simp [updV, e, h, show ¬ j < i + 1 by omega]
  rw [hout] at f2
  have hArO : ArrOfT s cA (.array .int) := fun N9 z9 => by
    obtain ⟨-, k9, hk9, cm9, hkk9⟩ := (hOt 0 0 0).1
    exact ⟨(fun q hq => by cases hq), k9, hk9, cm9, hkk9⟩
  have hArI : ArrOfT s comp .int := fun N9 z9 => by
    obtain ⟨-, k9, hk9, cm9, hkk9⟩ := (hIn 0 .null).1
    exact ⟨(fun q hq => by cases hq), k9, hk9, cm9, hkk9⟩
  obtain ⟨ad', ead⟩ : ∃ z : Nat → Nat, z = fun w => if w = o then H.size else if b ≤ w ∧ w < b + n.toNatClampNeg then H.size + 1 + (w - b) else ad w := ⟨_, rfl⟩
  obtain ⟨ca', eca⟩ : ∃ z : Nat → ClassId, z = fun w => if w = o then cA else if b ≤ w ∧ w < b + n.toNatClampNeg then comp else ca w := ⟨_, rfl⟩
  have kfree : ∀ v, sh v ≠ none → v ≠ o ∧ ¬ (b ≤ v ∧ v < b + n.toNatClampNeg) := fun v hv => ⟨fun q => hv (by rw [q]; exact ho), fun q => hv (by
    have := hi (v - b) (by omega)
    rw [show b + (v - b) = v by omega] at this
    exact this)⟩
  have kold : ∀ v, sh v ≠ none → xv_ms sh o b n.toNatClampNeg k.toNatClampNeg v = sh v ∧ ad' v = ad v ∧ ca' v = ca v := fun v hv => by
    obtain ⟨a1, a2⟩ := kfree v hv
    refine ⟨?_, ?_, ?_⟩
    · unfold xv_ms
      rw [if_neg a1, if_neg a2]
    · rw [ead]
      show (if _ then _ else _) = _
      rw [if_neg a1, if_neg a2]
    · rw [eca]
      show (if _ then _ else _) = _
      rw [if_neg a1, if_neg a2]
  have ado : ad' o = H.size := by rw [ead]; exact if_pos rfl
  have adi : ∀ i, i < n.toNatClampNeg → ad' (b + i) = H.size + 1 + i := fun i h => by
    rw [ead]
    show (if _ then _ else _) = _
    rw [if_neg (by omega), if_pos ⟨by omega, by omega⟩]
    omega
  have hR' : xv_R s D ad' ca' (xv_ms sh o b n.toNatClampNeg k.toNatClampNeg) (xv_mi I b n.toNatClampNeg) (xv_mr Rf o b n.toNatClampNeg) J F.heap := by
    refine ⟨fun v x hx => ?_, fun v w hv hw9 hvw => ?_, fun v j w hv hj => ?_⟩
    · by_cases e1 : v = o
      · subst e1
        rw [xv_ms, if_pos rfl] at hx
        cases hx
        refine ⟨?_, ?_, ?_⟩
        · rw [ado, f2, eca]
          show _ = some (arrV (if v = v then cA else _) n.toNatClampNeg _)
          rw [if_pos rfl]
          congr 2
          funext j
          show _ = va_rf ((xv_mr Rf v b n.toNatClampNeg v j).map ad')
          rw [xv_mr, if_pos rfl]
          by_cases hj : j < n.toNatClampNeg
          · rw [if_pos hj, if_pos hj]
            show _ = va_rf (some (ad' (b + j)))
            rw [adi j hj]
          · rw [if_neg hj, if_neg hj]
            rfl
        · rw [eca]
          show ArrOfT s (if v = v then cA else _) _
          rw [if_pos rfl]
          exact hArO
        · rw [eca]
          show va_RA s (if v = v then cA else _) _
          rw [if_pos rfl]
          exact fA
      · by_cases e2 : b ≤ v ∧ v < b + n.toNatClampNeg
        · rw [xv_ms, if_neg e1, if_pos e2] at hx
          cases hx
          have hv : v = b + (v - b) := by omega
          have hca : ca' v = comp := by
            rw [eca]
            show (if _ then _ else _) = _
            rw [if_neg e1, if_pos e2]
          refine ⟨?_, by rw [hca]; exact hArI, by rw [hca]; exact fC⟩
          rw [hca, show ad' v = H.size + 1 + (v - b) from by rw [hv, adi _ (by omega)]; omega, hrow _ (by omega)]
          congr 2
          funext j
          show _ = Value.int (xv_mi I b n.toNatClampNeg v j)
          rw [xv_mi, if_pos e2]
        · rw [xv_ms, if_neg e1, if_neg e2] at hx
          obtain ⟨-, b2, b3⟩ := kold v (by rw [hx]; simp)
          refine ((hR.1 v x hx).kept (hold _ (hR.1 v x hx).lt)).cong b2 b3 (fun k => by rw [xv_mi, if_neg e2]) (fun k => by rw [xv_mr, if_neg e1, if_neg e2]) (fun _ => rfl) (fun k z hz => (kold z (hR.2.2 v k z (by rw [hx]; simp) hz)).2.1)
    · have side : ∀ v, xv_ms sh o b n.toNatClampNeg k.toNatClampNeg v ≠ none → (v = o ∧ ad' v = H.size) ∨ (∃ i, i < n.toNatClampNeg ∧ v = b + i ∧ ad' v = H.size + 1 + i) ∨ (sh v ≠ none ∧ ad' v = ad v ∧ ad v < H.size) := fun v hv => by
        by_cases e1 : v = o
        · exact Or.inl ⟨e1, by rw [e1]; exact ado⟩
        · by_cases e2 : b ≤ v ∧ v < b + n.toNatClampNeg
          · refine Or.inr (Or.inl ⟨v - b, by omega, by omega, ?_⟩)
            have hv9 : v = b + (v - b) := by omega
            rw [hv9, adi _ (by omega)]
            omega
          · rw [xv_ms, if_neg e1, if_neg e2] at hv
            obtain ⟨y, hy⟩ := Option.ne_none_iff_exists'.mp hv
            exact Or.inr (Or.inr ⟨hv, (kold v hv).2.1, (hR.1 v y hy).lt⟩)
      rcases side v hv with ⟨a1, a2⟩ | ⟨i, a1, a2, a3⟩ | ⟨a1, a2, a3⟩ <;> rcases side w hw9 with ⟨b1, b2⟩ | ⟨j, b1, b2, b3⟩ | ⟨b1, b2, b3⟩
      · rw [a1, b1]
      · omega
      · omega
      · omega
      · omega
      · omega
      · omega
      · omega
      · exact hR.2.1 v w a1 b1 (by rw [← a2, ← b2]; exact hvw)
    · rw [xv_mr] at hj
      by_cases e1 : v = o
      · rw [if_pos e1] at hj
        by_cases e3 : j < n.toNatClampNeg
        · rw [if_pos e3] at hj
          cases hj
          rw [xv_ms, if_neg (by omega), if_pos ⟨by omega, by omega⟩]
          simp
        · rw [if_neg e3] at hj
          cases hj
      · rw [if_neg e1] at hj
        by_cases e2 : b ≤ v ∧ v < b + n.toNatClampNeg
        · rw [if_pos e2] at hj
          cases hj
        · rw [if_neg e2] at hj
          rw [xv_ms, if_neg e1, if_neg e2] at hv
          have h9 := hR.2.2 v j w hv hj
          rw [(kold w h9).1]
          exact h9
  have hO2 : ∀ v ∈ S, xv_ok sh v := xv_ok_t (xv_ok_t hO)
  have K := kk (below := below) (e := e) C (X.tr kold) (fun v ⟨y, hy, h2⟩ => by
      by_cases e1 : v = o
      · rw [e1, ado]
        exact C.2.2.2.2.2.2.2.2.2.2.2.1 _ hS.1
      · by_cases e2 : b ≤ v ∧ v < b + n.toNatClampNeg
        · rw [show v = b + (v - b) by omega, adi _ (by omega)]
          exact C.2.2.2.2.2.2.2.2.2.2.2.1 _ (by have := hS.1; omega)
        · rw [xv_ms, if_neg e1, if_neg e2] at hy
          rw [(kold v (by rw [hy]; simp)).2.1]
          exact hw v ⟨y, hy, h2⟩) hR' (xv_nwSt hS (by rw [f1]; omega) hold) (hL.moved fun v hv => ⟨by rw [(kold v hv).1]; exact hv, (kold v hv).2.1⟩)
    (List.forall_mem_cons.mpr ⟨by show xv_ms sh o b _ _ o ≠ none; rw [xv_ms, if_pos rfl]; simp, xv_okS hO2 fun v hv => by rw [(kold v hv).1]; exact hv⟩) (cells := cells + 1 + n.toNatClampNeg) (slots := slots + n.toNatClampNeg + n.toNatClampNeg * k.toNatClampNeg) (by omega) (by omega)
  rw [List.map_cons, xv_trS hO2 (fun v hv => (kold v hv).2.1), show xv_tr ad' (.ref o) = .ref H.size from congrArg Value.ref ado] at K
  obtain ⟨t, a1, b1⟩ := K F rfl X'
  refine ⟨t, step t ?_, b1⟩
  have e9 : T.heap.size = H.size := by rw [hT]
  rw [e9]
  exact a1
end XVN
end
section
section XVM
variable {M : xv_M} {d mc ms kc ks : Nat} {Q : xv_Q} {sh : xv_Sh} {I : xv_I} {Rf : xv_Rf} {J : xv_J} {pc pc' tgt : Nat} {L : List (Option Value)} {S : List Value}
theorem xv_args_len : ∀ (vs : List Value), (∀ v ∈ vs, v.category = 1) → (lg_sl vs).length = vs.length
  | [], _ => rfl
  | v :: vs, h => by
    have h1 := xv_args_len vs (fun w hw => h w (List.mem_cons_of_mem _ hw))
    unfold lg_sl at h1 ⊢
    rw [List.flatMap_cons, if_neg (by rw [h v List.mem_cons_self]; decide), List.length_append, h1]
    simp [Nat.add_comm]
theorem xv_args_mem : ∀ (vs : List Value) (k j : Nat) (v : Value), (∀ w ∈ vs, w.category = 1) → vs[j]? = some v → (k + j, v) ∈ lv_args k vs
  | [], _, _, _, _, h => by simp at h
  | w :: vs, k, 0, v, _, h => by
    simp at h
    subst h
    exact List.mem_cons_self
  | w :: vs, k, j + 1, v, hc, h => by
    have h1 := xv_args_mem vs (k + 1) j v (fun z hz => hc z (List.mem_cons_of_mem _ hz)) (by simpa using h)
    have e : k + 1 + j = k + (j + 1) := by omega
    rw [e] at h1
    refine List.mem_cons_of_mem _ ?_
    rw [if_neg (by rw [hc w List.mem_cons_self]; decide)]
    exact h1
/-- the locals at a method's entry -/
def xv_L0 (As : List Value) (nL : Nat) : List (Option Value) := As.map some ++ List.replicate (nL - As.length) none
theorem xv_L0_ok {ad : Nat → Nat} {As : List Value} {nL : Nat} (h1 : As.length ≤ nL) (hc : ∀ v ∈ As, v.category = 1) (ho : ∀ v ∈ As, xv_ok sh v) : xv_L ad sh nL ((lg_sl (As.map (xv_tr ad)) ++ List.replicate (nL - (lg_sl (As.map (xv_tr ad))).length) Slot.unset).toArray) (xv_L0 As nL) := by
  have hc' : ∀ v ∈ As.map (xv_tr ad), v.category = 1 := fun v hv => by
    obtain ⟨w, hw, rfl⟩ := List.mem_map.mp hv
    rw [xv_tr_cat]
    exact hc w hw
  have hl := xv_args_len (As.map (xv_tr ad)) hc'
  have he := lv_entry (As.map (xv_tr ad)) (n := nL) (by rw [hl, List.length_map]; exact h1)
  have hget : ∀ (j : Nat) (w : Value), (xv_L0 As nL)[j]? = some (some w) → As[j]? = some w := fun j w hw => by
    unfold xv_L0 at hw
    by_cases hj : j < As.length
    · rw [List.getElem?_append_left (by rw [List.length_map]; exact hj), List.getElem?_map] at hw
      cases h9 : As[j]? with
      | none => rw [h9] at hw; cases hw
      | some z => rw [h9] at hw; cases hw; rfl
    · rw [List.getElem?_append_right (by rw [List.length_map]; omega)] at hw
      have := List.mem_of_getElem? hw
      rw [List.mem_replicate] at this
      cases this.2
  refine ⟨⟨he.1, he.2.1, fun q hq => ?_⟩, fun v hv => ?_, ?_⟩
  · obtain ⟨w, hw, e⟩ := xv_lv_of hq
    obtain ⟨j, x⟩ := q
    dsimp only at hw e
    subst e
    have h9 := xv_args_mem (As.map (xv_tr ad)) 0 j (xv_tr ad w) hc' (by rw [List.getElem?_map, hget j w hw]; rfl)
    rw [Nat.zero_add] at h9
    exact he.2.2 _ h9
  · obtain ⟨j, hj⟩ := List.getElem?_of_mem hv
    have := List.mem_of_getElem? (hget j v hj)
    exact ⟨hc v this, ho v this⟩
  · unfold xv_L0
    rw [List.length_append, List.length_map, List.length_replicate]
    omega
theorem xv_blind {D : va_G} {ad : Nat → Nat} {ca : Nat → ClassId} {sz : Nat} {As : List Value} : FrameBlind (xv_P D ad ca sh I Rf J sz As) := fun a U g mk h => by
  obtain ⟨h1, h2, h3, h4, h5, h6⟩ := h
  have hvm : U.vm.Alike (U.calling g mk a).vm := Vm.Alike.refl U.vm
  exact ⟨h1, h2, h3, h4.moved hvm, h5.moved hvm, xv_E.warm (s := U) (U := U.calling g mk a) (State.WarmedH.refl U) h6 (fun _ _ _ => rfl) (fun _ h => h)⟩
/-- a contract out of a walk of the body -/
theorem xv_Met.of {As : List Value} (hp : plainName M.1.cls = true) (hlen : As.length ≤ M.2.2.1) (hcat : ∀ v ∈ As, v.category = 1) (k : xv_W M d mc ms Q mc ms sh I Rf J 0 (xv_L0 As M.2.2.1) []) : xv_Met M d mc ms sh I Rf J As Q := by
  intro l D ad ca sz hl
  have main : ∀ p e s m args below meth c s₁, BodyLoose p l M.1 (headSpec (xv_ws M) { frames := d, cells := mc, slots := ms, locals := 40 * d }) M.2.1 M.2.2.1 M.2.2.2.1 e s m args below meth c s₁ → c.maxLocals = M.2.2.1 → c.exceptionTable.toList = tableOf M.2.2.2.2 → xv_P D ad ca sh I Rf J sz As args s →
      W p l e (headSpec (xv_ws M) { frames := d, cells := mc, slots := ms, locals := 40 * d }).room s m args below meth c s.heap [] 0 0 (vx_MQ below (xv_QR Q D sh ad ca (xv_A sh ad sz)) (xv_QX Q D sh ad ca (xv_A sh ad sz)) args s mc ms (xv_A sh ad sz)) (entryFrame m args M.2.2.1) := by
    intro p e s m args below meth c s₁ B hml htab hP
    obtain ⟨rfl, ho, hsz, hR, hK, hE⟩ := hP
    have hts : ∀ w ∈ xv_ws M, w.before ((As.map (xv_tr ad)).toArray) s = true := atoms_spec (ws := xv_ws M) B.pre
    rw [lg_entry_eq]
    exact k (p := p) (l := l) (e := e) (D := D) (A := xv_A sh ad sz) (sh0 := sh) (ad0 := ad) (ca0 := ca) ⟨B.exec, B.bytes, hml, B.returns, findClass_of_methodNamed B.named, fun w hw => hts w (List.mem_cons_of_mem _ hw), B.notSynchronized, (name_of_methodNamed B.named B.method).1, hl, hK, hE, fun q hq => Or.inr (by rw [← hsz]; exact hq), htab, Nat.le_refl _, Nat.le_refl _, Nat.le_refl _, Nat.le_refl _⟩
      xv_X.rf (fun v hv => Or.inl ⟨v, hv, rfl⟩) hR va_S.rf (xv_L0_ok hlen hcat ho) (fun v hv => nomatch hv) (by omega) (by omega)
  by_cases hh : M.2.2.2.2 = []
  · have hws : xv_ws M = Cond.code M.1 M.2.1 M.2.2.1 M.2.2.2.1 :: xv_tbl := by unfold xv_ws; rw [xv_cd_0 hh]
    refine vx_ofW (cc := M.2.1) (maxL := M.2.2.1) (ret := M.2.2.2.1) hp hws fun p e s m args below meth c s₁ B hml htab hP => main p e s m args below meth c s₁ B hml ?_ hP
    rw [hh]
    show _ = []
    exact List.eq_nil_iff_forall_not_mem.mpr htab
  · have hws : xv_ws M = Cond.codeWith M.1 M.2.1 M.2.2.1 M.2.2.2.1 M.2.2.2.2 :: xv_tbl := by unfold xv_ws; rw [xv_cd_1 hh]
    refine vx_ofWH (cc := M.2.1) (maxL := M.2.2.1) (ret := M.2.2.2.1) (hh := M.2.2.2.2) hp hws fun p e s m args below meth c s₁ B hml hP => main p e s m args below meth c s₁ B hml ?_ hP
    exact vx_table (x := M.1) B (atoms_spec (ws := xv_ws M) B.pre _ (by rw [hws]; exact List.mem_cons_self))
/-- what the tables say of a callee -/
def xv_Y (M' : xv_M) (n : Nat) : Prop := xv_cd M' ∈ xv_tbl ∧ Cond.initialized M'.1.cls ∈ xv_tbl ∧ M'.1.cls ≠ "java/lang/invoke/MethodHandle" ∧ M'.1.cls ≠ "java/lang/invoke/VarHandle" ∧ (parseMethodDescriptor M'.1.desc).map (fun d => d.parameters.length) = some n ∧ M'.2.2.1 ≤ 21
theorem xv_pay {M' : xv_M} {n : Nat} {args : Array Value} {s : State} (h : xv_Y M' n) (hts : ∀ w ∈ xv_tbl, w.before args s = true) : ∀ w ∈ xv_ws M', ∀ (a' : Array Value) (U : State), s.WarmedH U.vm → w.before a' U = true := fun w hw a' U hW => by
  have h9 : w ∈ xv_tbl := by
    rcases List.mem_cons.mp hw with e | hw
    · rw [e]; exact h.1
    · exact hw
  exact xv_warm (xv_tbl_good w h9) hW (hts w h9)
theorem xv_callB {M' : xv_M} {d' mc' ms' n idx : Nat} {R : Room} {args : Array Value} {s : State} {own : String} {ret : Option FieldType} (h : xv_Y M' n) (hh : M'.2.2.2.2 = []) (hret : M'.2.2.2.1 = ret) (hts : ∀ w ∈ xv_tbl, w.before args s = true) (hl : Cond.methodLink own idx M'.1 ∈ xv_tbl) (hd : d' + 1 ≤ R.frames) (hlo : 40 * d' + 40 ≤ R.locals) : CallB R s args own idx M'.1 M'.2.1 M'.2.2.1 ret (xv_ws M') { frames := d', cells := mc', slots := ms', locals := 40 * d' } mc' ms' n := by
  have hp := xv_pay h hts
  obtain ⟨y1, y2, y3, y4, y5, y6⟩ := h
  subst hret
  refine ⟨rfl, rfl, hd, by show 8 + (M'.2.2.1 + 11) + 40 * d' ≤ _; omega, hp, by unfold xv_ws; rw [xv_cd_0 hh]; exact List.mem_cons_self, hts _ (by rw [xv_cd_0 hh] at y1; exact y1), hts _ y2, ⟨y3, y4⟩, fun sig h => ?_, hts _ hl⟩
  rw [h] at y5
  exact (Option.some.inj y5).symm
/-- the callee's start at a call -/
theorem xv_Pcall {p : Program} {l : Launch} {R : Room} {s : State} {m : MethodId} {args : Array Value} {meth : Method} {c : Code} {D : va_G} {A : Nat → Prop} {ad : Nat → Nat} {ca : Nat → ClassId} {H : Heap} {locs : List Loc} {As : List Value} (C : xv_C M d mc ms p l R s m args meth c D A) (hw : ∀ v, xv_w sh v → A (ad v)) (hR : xv_R s D ad ca sh I Rf J H) (hS : va_S A s.heap H locs) (ho : ∀ v ∈ As, xv_ok sh v) :
    ∀ U : State, U.heap = H → s.WarmedH U.vm → xv_P D ad ca sh I Rf J H.size As ((As.map (xv_tr ad)).toArray) U := fun U hU hW =>
  ⟨rfl, ho, by rw [hU], by rw [hU]; exact hR.moved hW.alike, C.2.2.2.2.2.2.2.2.2.1.moved hW.alike, xv_E.warm hW C.2.2.2.2.2.2.2.2.2.2.1 (fun a h1 h2 => by rw [hU]; exact hS.2.1 a h1 h2) (fun q hq => by
    rcases hq with ⟨v, hv, rfl⟩ | hq
    · exact hw v hv
    · exact C.2.2.2.2.2.2.2.2.2.2.2.1 q (Nat.le_trans hS.1 hq))⟩
theorem xv_Asub {p : Program} {l : Launch} {R : Room} {s : State} {m : MethodId} {args : Array Value} {meth : Method} {c : Code} {D : va_G} {A : Nat → Prop} {ad : Nat → Nat} {H : Heap} {locs : List Loc} (C : xv_C M d mc ms p l R s m args meth c D A) (hw : ∀ v, xv_w sh v → A (ad v)) (hS : va_S A s.heap H locs) : ∀ q, xv_A sh ad H.size q → A q := fun q hq => by
  rcases hq with ⟨v, hv, rfl⟩ | hq
  · exact hw v hv
  · exact C.2.2.2.2.2.2.2.2.2.2.2.1 q (Nat.le_trans hS.1 hq)
/-- behind a call -/
theorem xv_after {Q' : xv_Q} {mc' ms' kc' ks' : Nat} {p : Program} {l : Launch} {e : Env} {R : Room} {s : State} {m : MethodId} {args : Array Value} {below : List Frame} {meth : Method} {c : Code} {D : va_G} {A : Nat → Prop} {sh0 : xv_Sh} {ad0 : Nat → Nat} {ca0 : Nat → ClassId} {ad : Nat → Nat} {ca : Nat → ClassId} {H : Heap} {locs : List Loc} {cells slots : Nat} {ls : Array Slot} {st0 : List Value} {av : Array Value}
    (C : xv_C M d mc ms p l R s m args meth c D A) (X : xv_X sh0 ad0 ca0 sh ad ca) (hw : ∀ v, xv_w sh v → A (ad v)) (hR : xv_R s D ad ca sh I Rf J H) (hS : va_S A s.heap H locs) (hL : xv_L ad sh M.2.2.1 ls L) (hO : ∀ v ∈ S, xv_ok sh v) (hc : cells + kc ≤ mc) (hs : slots + ks ≤ ms) (h1c : kc' + mc' ≤ kc) (h1s : ks' + ms' ≤ ks)
    (hr : vx_Run p l e R s m args below meth c H locs cells slots mc' ms' (F0 m pc ls st0) (S.map (xv_tr ad)) (xv_QR Q' D sh ad ca (xv_A sh ad H.size) av) (xv_QX Q' D sh ad ca (xv_A sh ad H.size)) (xv_A sh ad H.size))
    (kr : ∀ r sh' I' Rf' J', Q' (.inl r) sh' I' Rf' J' → (∀ v, sh v ≠ none → sh' v = sh v) → xv_W M d mc ms Q kc' ks' sh' I' Rf' J' (pc + 3) L (r.toList ++ S))
    (kx : ∀ E sh' I' Rf' J', Q' (.inr E) sh' I' Rf' J' → ∀ {ad' : Nat → Nat} {ca' : Nat → ClassId} {H' : Heap} {locs' : List Loc} {cells' slots' : Nat} {q : Addr} {ce : Cell}, xv_X sh0 ad0 ca0 sh' ad' ca' → (∀ v, xv_w sh' v → A (ad' v)) → xv_R s D ad' ca' sh' I' Rf' J' H' → va_S A s.heap H' locs' → xv_L ad' sh' M.2.2.1 ls L → cells' + kc' ≤ mc → slots' + ks' ≤ ms → H'[q]? = some ce → ce.vm = .none → s.vm.findClass E = some ce.cls →
      vx_W p l e R s m args below meth c H' locs' cells' slots' (vx_MQ below (xv_QR Q D sh0 ad0 ca0 A) (xv_QX Q D sh0 ad0 ca0 A) args s mc ms A) (F0 m pc ls (S.map (xv_tr ad))) q) :
    W p l e R s m args below meth c H locs cells slots (vx_MQ below (xv_QR Q D sh0 ad0 ca0 A) (xv_QX Q D sh0 ad0 ca0 A) args s mc ms A) (F0 m pc ls st0) := by
  have hA := xv_Asub C hw hS
  have hA2 : ∀ q, q < H.size → xv_A sh ad H.size q → A q := fun q _ h => hA q h
  intro T hT Y
  rcases hr T hT Y with ⟨v, st₀, t, T', Lc, h0, Y', hLc, e1, e2, hq, st⟩ | ⟨q, st₀, t, T', Lc, E, ce, h0, Y', hLc, e1, e2, hq, hce, hcv, hcl, st⟩
  · obtain ⟨r, sh', I', Rf', J', ad', ca', a1, a2, a3, a4, a5, a6, a7⟩ := hq
    cases a1
    obtain ⟨k1, k2, k3⟩ := vx_keep h0 e1 hS hA2 hA hLc a7
    have hold : ∀ v, sh v ≠ none → sh' v ≠ none ∧ ad' v = ad v := fun v hv => ⟨by rw [(a5 v hv).1]; exact hv, (a5 v hv).2.1⟩
    have hvm : t.vm.Alike s.vm := by rw [← e2]; exact Y'.warmed.alike.symm
    have K := kr r sh' I' Rf' J' a2 (fun v hv => (a5 v hv).1) (e := e) (below := below) C (X.tr a5) (fun v hv => hA _ (a6 v hv)) (a4.moved hvm) (e1 ▸ k3) (hL.moved hold)
      (fun v hv => by
        rcases List.mem_append.mp hv with h | h
        · exact a3 v (by cases r with | none => cases h | some x => rcases List.mem_singleton.mp h with rfl; rfl)
        · exact xv_okS hO (fun v hv => (hold v hv).1) v h) (cells := cells + mc') (slots := slots + ms') (by omega) (by omega)
    rw [List.map_append, xv_trS hO (fun v hv => (hold v hv).2)] at K
    obtain ⟨t2, b1, b2⟩ := K T' e1 Y'
    refine ⟨t2, st t2 ?_, b2⟩
    cases r with
    | none => exact b1
    | some x => exact b1
  · obtain ⟨sh', I', Rf', J', ad', ca', a2, a4, a5, a6, a7⟩ := hq
    obtain ⟨k1, k2, k3⟩ := vx_keep h0 e1 hS hA2 hA hLc a7
    have hold : ∀ v, sh v ≠ none → sh' v ≠ none ∧ ad' v = ad v := fun v hv => ⟨by rw [(a5 v hv).1]; exact hv, (a5 v hv).2.1⟩
    have hvm : t.vm.Alike s.vm := by rw [← e2]; exact Y'.warmed.alike.symm
    obtain ⟨t2, b1, b2⟩ := kx E sh' I' Rf' J' a2 (X.tr a5) (fun v hv => hA _ (a6 v hv)) (a4.moved hvm) (e1 ▸ k3) (hL.moved hold) (cells' := cells + mc') (slots' := slots + ms') (by omega) (by omega) hce hcv hcl T' e1 Y'
    exact ⟨t2, st.trans b1, b2⟩
/-- what was thrown goes on to the caller (a method without handlers) -/
theorem xv_pass {p : Program} {l : Launch} {e : Env} {R : Room} {s : State} {m : MethodId} {args : Array Value} {below : List Frame} {meth : Method} {c : Code} {D : va_G} {A : Nat → Prop} {sh0 : xv_Sh} {ad0 : Nat → Nat} {ca0 : Nat → ClassId} {ls : Array Slot} {st : List Value} {E : String} {sh' : xv_Sh} {I' : xv_I} {Rf' : xv_Rf} {J' : xv_J}
    (C : xv_C M d mc ms p l R s m args meth c D A) (hh : M.2.2.2.2 = []) (hQ : Q (.inr E) sh' I' Rf' J') {kc' ks' : Nat} {ad' : Nat → Nat} {ca' : Nat → ClassId} {H' : Heap} {locs' : List Loc} {cells' slots' : Nat} {q : Addr} {ce : Cell} (X : xv_X sh0 ad0 ca0 sh' ad' ca') (hw : ∀ v, xv_w sh' v → A (ad' v)) (hR : xv_R s D ad' ca' sh' I' Rf' J' H') (hS : va_S A s.heap H' locs') (hc : cells' + kc' ≤ mc) (hs : slots' + ks' ≤ ms) (hce : H'[q]? = some ce) (hcv : ce.vm = .none) (hcl : s.vm.findClass E = some ce.cls) :
    vx_W p l e R s m args below meth c H' locs' cells' slots' (vx_MQ below (xv_QR Q D sh0 ad0 ca0 A) (xv_QX Q D sh0 ad0 ca0 A) args s mc ms A) (F0 m pc ls st) q := by
  have htab := C.2.2.2.2.2.2.2.2.2.2.2.2.1
  rw [hh] at htab
  exact vx_out (E := E) (ce := ce) (fun x hx => by rw [htab] at hx; cases hx) C.2.2.2.2.2.2.1 hce hcv hcl (fun t ht hvm => ⟨sh', I', Rf', J', ad', ca', hQ, by rw [ht]; exact hR.moved hvm, X, hw, hS.F ht⟩) (fun z hz => hS.2.2 z hz) (by omega) (by omega)
theorem xv_sum {S : List Value} {ad : Nat → Nat} : ((S.map (xv_tr ad)).map fun v => v.category).sum = (S.map fun v => v.category).sum := by
  rw [List.map_map]
  congr 1
  exact List.map_congr_left fun v _ => xv_tr_cat ad v
/-- a link of a method, by the pool of its caller's class -/
theorem xv_callV {M' : xv_M} {d' mc' ms' kc' ks' idx n b ci : Nat} {As S0 : List Value} {Q' : xv_Q} (hM : xv_Met M' d' mc' ms' sh I Rf J (.ref b :: As) Q') (hf : xv_F M pc (.invokevirtual idx) 3 pc') (hY : xv_Y M' n) (hY2 : Cond.instanceMethod M'.1 ∈ xv_tbl ∧ Cond.selects M'.1.cls M'.1 M'.1 ∈ xv_tbl ∧ (vwCl[ci]?.map fun q => q.1) = some M'.1.cls) (hl : Cond.methodLink M.1.cls idx M'.1 ∈ xv_tbl) (hh : M.2.2.2.2 = []) (hh' : M'.2.2.2.2 = []) (hb : sh b = some (.inl ci)) (hn : As.length = n) (hst : S0 = As.reverse ++ .ref b :: S) (hsum : (S.map fun v => v.category).sum ≤ 8) (hd : d' + 1 ≤ d) (h1c : kc' + mc' ≤ kc) (h1s : ks' + ms' ≤ ks)
    (kr : ∀ r sh' I' Rf' J', Q' (.inl r) sh' I' Rf' J' → (∀ v, sh v ≠ none → sh' v = sh v) → xv_W M d mc ms Q kc' ks' sh' I' Rf' J' pc' L (r.toList ++ S)) (kx : ∀ E sh' I' Rf' J', Q' (.inr E) sh' I' Rf' J' → Q (.inr E) sh' I' Rf' J') : xv_W M d mc ms Q kc ks sh I Rf J pc L S0 := by
  obtain ⟨h1, rfl⟩ := hf
  subst hst
  intro p l e R s m args below meth c D A sh0 ad0 ca0 ad ca H locs cells slots ls C X hw hR hS hL hO hc hs
  have hts := C.2.2.2.2.2.1
  have hAs : ∀ v ∈ As, xv_ok sh v := fun v hv => hO v (List.mem_append_left _ (List.mem_reverse.mpr hv))
  have hO2 : ∀ v ∈ Value.ref b :: S, xv_ok sh v := fun v hv => hO v (List.mem_append_right _ hv)
  have hY0 := id hY
  obtain ⟨y1, y2, y3, y4, y5, y6⟩ := hY
  rw [xv_cd_0 hh'] at y1
  have hws : xv_ws M' = Cond.code M'.1 M'.2.1 M'.2.2.1 M'.2.2.2.1 :: xv_tbl := by unfold xv_ws; rw [xv_cd_0 hh']
  have hRf : d ≤ R.frames := C.2.2.2.2.2.2.2.2.2.2.2.2.2.1
  have hRl : 40 * d ≤ R.locals := C.2.2.2.2.2.2.2.2.2.2.2.2.2.2.1
  have hcm : mc ≤ R.cells := C.2.2.2.2.2.2.2.2.2.2.2.2.2.2.2.1
  have hsm : ms ≤ R.slots := C.2.2.2.2.2.2.2.2.2.2.2.2.2.2.2.2
  refine xv_after C X hw hR hS hL (xv_ok_t hO2) hc hs h1c h1s (vx_runV (As := As.map (xv_tr ad)) (C := M'.1.cls) (b := ad b) (ret := M'.2.2.2.1) (n := n) (rest := S.map (xv_tr ad)) ⟨C.1, C.2.1, C.2.2.1, C.2.2.2.2.1, hts⟩ (hM l D ad ca H.size C.2.2.2.2.2.2.2.2.1) ⟨xv_callB hY0 hh' rfl hts hl (by omega) (by omega), hts _ hY2.1, hts _ hY2.2.1⟩
    ⟨xv_blind, ?_, xv_Pcall (As := .ref b :: As) C hw hR hS (List.forall_mem_cons.mpr ⟨xv_ok_h hO2, hAs⟩)⟩ rfl (by rw [List.length_map]; exact hn) hL.1.1 (by rw [List.map_append, List.map_reverse]; rfl) (lv_room (by rw [xv_sum]; exact hsum)) h1 ⟨by omega, by omega⟩) kr ?_
  · obtain ⟨r, g1, cell, q1, q2, q3, -⟩ := hR.1 b _ hb
    have hcn := hY2.2.2
    rw [g1] at hcn
    have hcn2 : r.1 = M'.1.cls := Option.some.inj hcn
    refine ⟨cell, q1, by rw [q3]; rfl, ?_⟩
    rw [q2, ← hcn2]
    exact (C.2.2.2.2.2.2.2.2.2.1.1 ci _ g1).2.1
  · intro E sh' I' Rf' J' hq ad' ca' H' locs' cells' slots' q ce X' hw' hR' hS' hL' hc' hs' hce hcv hcl
    exact xv_pass C hh (kx E sh' I' Rf' J' hq) X' hw' hR' hS' hc' hs' hce hcv hcl
theorem xv_callS {M' : xv_M} {d' mc' ms' kc' ks' idx n : Nat} {As S0 : List Value} {Q' : xv_Q} (hM : xv_Met M' d' mc' ms' sh I Rf J As Q') (hf : xv_F M pc (.invokestatic idx) 3 pc') (hY : xv_Y M' n) (hY2 : Cond.static M'.1 ∈ xv_tbl) (hl : Cond.methodLink M.1.cls idx M'.1 ∈ xv_tbl ∨ (M'.2.2.2.2 = [] ∧ ∃ host, Cond.methodLinkNest M.1.cls idx M'.1 host ∈ xv_tbl)) (hh : M.2.2.2.2 = []) (hn : As.length = n) (hst : S0 = As.reverse ++ S) (hsum : (S.map fun v => v.category).sum ≤ 8) (hd : d' + 1 ≤ d) (h1c : kc' + mc' ≤ kc) (h1s : ks' + ms' ≤ ks)
    (kr : ∀ r sh' I' Rf' J', Q' (.inl r) sh' I' Rf' J' → (∀ v, sh v ≠ none → sh' v = sh v) → xv_W M d mc ms Q kc' ks' sh' I' Rf' J' pc' L (r.toList ++ S)) (kx : ∀ E sh' I' Rf' J', Q' (.inr E) sh' I' Rf' J' → Q (.inr E) sh' I' Rf' J') : xv_W M d mc ms Q kc ks sh I Rf J pc L S0 := by
  obtain ⟨h1, rfl⟩ := hf
  subst hst
  intro p l e R s m args below meth c D A sh0 ad0 ca0 ad ca H locs cells slots ls C X hw hR hS hL hO hc hs
  have hts := C.2.2.2.2.2.1
  have hAs : ∀ v ∈ As, xv_ok sh v := fun v hv => hO v (List.mem_append_left _ (List.mem_reverse.mpr hv))
  have hO2 : ∀ v ∈ S, xv_ok sh v := fun v hv => hO v (List.mem_append_right _ hv)
  have hY0 := id hY
  obtain ⟨y1, y2, y3, y4, y5, y6⟩ := hY
  have hRf : d ≤ R.frames := C.2.2.2.2.2.2.2.2.2.2.2.2.2.1
  have hRl : 40 * d ≤ R.locals := C.2.2.2.2.2.2.2.2.2.2.2.2.2.2.1
  have hcm : mc ≤ R.cells := C.2.2.2.2.2.2.2.2.2.2.2.2.2.2.2.1
  have hsm : ms ≤ R.slots := C.2.2.2.2.2.2.2.2.2.2.2.2.2.2.2.2
  have hpar : ∀ sig, parseMethodDescriptor M'.1.desc = some sig → n = sig.parameters.length := fun sig h => by
    rw [h] at y5
    exact (Option.some.inj y5).symm
  have hPc := xv_Pcall (As := As) C hw hR hS hAs
  have hpay : ∀ w ∈ xv_ws M', ∀ (a' : Array Value) (U : State), s.WarmedH U.vm → w.before a' U = true := xv_pay hY0 hts
  have hrun : vx_Run p l e R s m args below meth c H locs cells slots mc' ms' (F0 m pc ls ((As.reverse ++ S).map (xv_tr ad))) (S.map (xv_tr ad)) (xv_QR Q' D sh ad ca (xv_A sh ad H.size) (As.map (xv_tr ad)).toArray) (xv_QX Q' D sh ad ca (xv_A sh ad H.size)) (xv_A sh ad H.size) := by
    by_cases hh' : M'.2.2.2.2 = []
    · rw [xv_cd_0 hh'] at y1
      have hws : xv_ws M' = Cond.code M'.1 M'.2.1 M'.2.2.1 M'.2.2.2.1 :: xv_tbl := by unfold xv_ws; rw [xv_cd_0 hh']
      have hcode : Cond.code M'.1 M'.2.1 M'.2.2.1 M'.2.2.2.1 ∈ xv_ws M' := by rw [hws]; exact List.mem_cons_self
      rcases hl with hl | ⟨-, host, hl⟩
      · exact vx_runS (As := As.map (xv_tr ad)) (ret := M'.2.2.2.1) (n := n) (rest := S.map (xv_tr ad)) ⟨C.1, C.2.1, C.2.2.1, C.2.2.2.2.1, hts⟩ (hM l D ad ca H.size C.2.2.2.2.2.2.2.2.1) ⟨xv_callB hY0 hh' rfl hts hl (by omega) (by omega), hts _ hY2⟩
          ⟨xv_blind, hPc⟩ rfl (by rw [List.length_map]; exact hn) hL.1.1 (by rw [List.map_append, List.map_reverse]) (lv_room (by rw [xv_sum]; exact hsum)) h1 ⟨by omega, by omega⟩
      · exact vx_runSN (As := As.map (xv_tr ad)) (ret := M'.2.2.2.1) (n := n) (rest := S.map (xv_tr ad)) (host := host) ⟨C.1, C.2.1, C.2.2.1, C.2.2.2.2.1, hts⟩ (hM l D ad ca H.size C.2.2.2.2.2.2.2.2.1) ⟨⟨⟨rfl, rfl, by show d' + 1 ≤ _; omega, by show 8 + (M'.2.2.1 + 11) + 40 * d' ≤ _; omega, hpay, hcode⟩, hts _ y1, hts _ y2, ⟨y3, y4⟩, hpar, hts _ hl⟩, hts _ hY2, trivial⟩
          ⟨xv_blind, hPc⟩ rfl (by rw [List.length_map]; exact hn) hL.1.1 (by rw [List.map_append, List.map_reverse]) (lv_room (by rw [xv_sum]; exact hsum)) h1 ⟨by omega, by omega⟩
    · have e9 := xv_cd_1 hh'
      rw [e9] at y1
      have hws : xv_ws M' = Cond.codeWith M'.1 M'.2.1 M'.2.2.1 M'.2.2.2.1 M'.2.2.2.2 :: xv_tbl := by unfold xv_ws; rw [e9]
      have hcode : Cond.codeWith M'.1 M'.2.1 M'.2.2.1 M'.2.2.2.1 M'.2.2.2.2 ∈ xv_ws M' := by rw [hws]; exact List.mem_cons_self
      rcases hl with hl | ⟨hl, -⟩
      · exact vx_runSX (hh := M'.2.2.2.2) (As := As.map (xv_tr ad)) (ret := M'.2.2.2.1) (n := n) (rest := S.map (xv_tr ad)) ⟨C.1, C.2.1, C.2.2.1, C.2.2.2.2.1, hts⟩ (hM l D ad ca H.size C.2.2.2.2.2.2.2.2.1) ⟨⟨rfl, rfl, by show d' + 1 ≤ _; omega, by show 8 + (M'.2.2.1 + 11) + 40 * d' ≤ _; omega, hpay, hcode⟩, hts _ y1, hts _ y2, ⟨y3, y4⟩, hpar, hts _ hl, hts _ hY2⟩
          ⟨xv_blind, hPc⟩ rfl (by rw [List.length_map]; exact hn) hL.1.1 (by rw [List.map_append, List.map_reverse]) (lv_room (by rw [xv_sum]; exact hsum)) h1 ⟨by omega, by omega⟩
      · exact absurd hl hh'
  refine xv_after C X hw hR hS hL hO2 hc hs h1c h1s hrun kr ?_
  intro E sh' I' Rf' J' hq ad' ca' H' locs' cells' slots' q ce X' hw' hR' hS' hL' hc' hs' hce hcv hcl
  exact xv_pass C hh (kx E sh' I' Rf' J' hq) X' hw' hR' hS' hc' hs' hce hcv hcl
theorem xv_callI {M' : xv_M} {d' mc' ms' kc' ks' idx n b : Nat} {As S0 : List Value} {Q' : xv_Q} (hM : xv_Met M' d' mc' ms' sh I Rf J (.ref b :: As) Q') (hf : xv_F M pc (.invokespecial idx) 3 pc') (hY : xv_Y M' n) (hY2 : Cond.instanceMethod M'.1 ∈ xv_tbl ∧ M'.1.name = "<init>" ∧ M'.2.2.2.1 = none) (hl : Cond.methodLink M.1.cls idx M'.1 ∈ xv_tbl) (hh : M.2.2.2.2 = []) (hh' : M'.2.2.2.2 = []) (hn : As.length = n) (hst : S0 = As.reverse ++ .ref b :: S) (hsum : (S.map fun v => v.category).sum ≤ 8) (hd : d' + 1 ≤ d) (h1c : kc' + mc' ≤ kc) (h1s : ks' + ms' ≤ ks)
    (kr : ∀ r sh' I' Rf' J', Q' (.inl r) sh' I' Rf' J' → (∀ v, sh v ≠ none → sh' v = sh v) → xv_W M d mc ms Q kc' ks' sh' I' Rf' J' pc' L (r.toList ++ S)) (kx : ∀ E sh' I' Rf' J', Q' (.inr E) sh' I' Rf' J' → Q (.inr E) sh' I' Rf' J') : xv_W M d mc ms Q kc ks sh I Rf J pc L S0 := by
  obtain ⟨h1, rfl⟩ := hf
  subst hst
  intro p l e R s m args below meth c D A sh0 ad0 ca0 ad ca H locs cells slots ls C X hw hR hS hL hO hc hs
  have hts := C.2.2.2.2.2.1
  have hAs : ∀ v ∈ As, xv_ok sh v := fun v hv => hO v (List.mem_append_left _ (List.mem_reverse.mpr hv))
  have hO2 : ∀ v ∈ Value.ref b :: S, xv_ok sh v := fun v hv => hO v (List.mem_append_right _ hv)
  have hY0 := id hY
  obtain ⟨y1, y2, y3, y4, y5, y6⟩ := hY
  rw [xv_cd_0 hh'] at y1
  have hws : xv_ws M' = Cond.code M'.1 M'.2.1 M'.2.2.1 none :: xv_tbl := by unfold xv_ws; rw [xv_cd_0 hh', hY2.2.2]
  have hRf : d ≤ R.frames := C.2.2.2.2.2.2.2.2.2.2.2.2.2.1
  have hRl : 40 * d ≤ R.locals := C.2.2.2.2.2.2.2.2.2.2.2.2.2.2.1
  have hcm : mc ≤ R.cells := C.2.2.2.2.2.2.2.2.2.2.2.2.2.2.2.1
  have hsm : ms ≤ R.slots := C.2.2.2.2.2.2.2.2.2.2.2.2.2.2.2.2
  refine xv_after C X hw hR hS hL (xv_ok_t hO2) hc hs h1c h1s (vx_runI (As := As.map (xv_tr ad)) (b := ad b) (n := n) (rest := S.map (xv_tr ad)) ⟨C.1, C.2.1, C.2.2.1, C.2.2.2.2.1, hts⟩ (hM l D ad ca H.size C.2.2.2.2.2.2.2.2.1) ⟨xv_callB hY0 hh' hY2.2.2 hts hl (by omega) (by omega), hY2.2.1, hts _ hY2.1⟩
    ⟨xv_blind, xv_Pcall (As := .ref b :: As) C hw hR hS (List.forall_mem_cons.mpr ⟨xv_ok_h hO2, hAs⟩)⟩ rfl (by rw [List.length_map]; exact hn) hL.1.1 (by rw [List.map_append, List.map_reverse]; rfl) (lv_room (by rw [xv_sum]; exact hsum)) h1 ⟨by omega, by omega⟩) kr ?_
  · intro E sh' I' Rf' J' hq ad' ca' H' locs' cells' slots' q ce X' hw' hR' hS' hL' hc' hs' hce hcv hcl
    exact xv_pass C hh (kx E sh' I' Rf' J' hq) X' hw' hR' hS' hc' hs' hce hcv hcl
theorem xv_obj {idx a : Nat} (hf : xv_F M pc (.invokespecial idx) 3 pc') (hl : Cond.methodLink M.1.cls idx Lib.objectInit ∈ xv_tbl) (h2 : Cond.instanceMethod Lib.objectInit ∈ xv_tbl ∧ Cond.code Lib.objectInit ⟨#[0xb1]⟩ 1 none ∈ xv_tbl) (hd : 1 ≤ d) (hsum : (S.map fun v => v.category).sum ≤ 8) (kk : xv_W M d mc ms Q kc ks sh I Rf J pc' L S) : xv_W M d mc ms Q kc ks sh I Rf J pc L (.ref a :: S) := by
  obtain ⟨h1, rfl⟩ := hf
  intro p l e R s m args below meth c D A sh0 ad0 ca0 ad ca H locs cells slots ls C X hw hR hS hL hO hc hs
  have hts := C.2.2.2.2.2.1
  have hRf : d ≤ R.frames := C.2.2.2.2.2.2.2.2.2.2.2.2.2.1
  have hRl : 40 * d ≤ R.locals := C.2.2.2.2.2.2.2.2.2.2.2.2.2.2.1
  exact W.objInit C.1 C.2.1 C.2.2.2.2.1 (hts _ hl) (hts _ h2.1) (hts _ h2.2) rfl (by rw [C.2.2.1]; exact hL.1.1) rfl h1 (by omega) (by have := lv_room (m := m) (pc := pc) (ls := ls) (rest := S.map (xv_tr ad)) (st := S.map (xv_tr ad)) (by rw [xv_sum]; exact hsum); show 2 * (F0 m pc ls (S.map (xv_tr ad))).monitorRoom + _ + 12 ≤ _; omega) (kk C X hw hR hS hL (xv_ok_t hO) hc hs)
theorem xv_max {idx : Nat} {x y : Int32} (hf : xv_F M pc (.invokestatic idx) 3 pc') (hl : Cond.methodLink M.1.cls idx Lib.Math.max.name ∈ xv_tbl) (h2 : Cond.static Lib.Math.max.name ∈ xv_tbl ∧ Cond.initialized "java/lang/Math" ∈ xv_tbl ∧ Cond.code Lib.Math.max.name Lib.Math.max.code 2 (some .int) ∈ xv_tbl) (hd : 1 ≤ d) (hsum : (S.map fun v => v.category).sum ≤ 8) (kk : xv_W M d mc ms Q kc ks sh I Rf J pc' L (.int (if x < y then y else x) :: S)) : xv_W M d mc ms Q kc ks sh I Rf J pc L (.int y :: .int x :: S) := by
  obtain ⟨h1, rfl⟩ := hf
  intro p l e R s m args below meth c D A sh0 ad0 ca0 ad ca H locs cells slots ls C X hw hR hS hL hO hc hs
  have hts := C.2.2.2.2.2.1
  have hRf : d ≤ R.frames := C.2.2.2.2.2.2.2.2.2.2.2.2.2.1
  have hRl : 40 * d ≤ R.locals := C.2.2.2.2.2.2.2.2.2.2.2.2.2.2.1
  have hcm : mc ≤ R.cells := C.2.2.2.2.2.2.2.2.2.2.2.2.2.2.2.1
  have hsm : ms ≤ R.slots := C.2.2.2.2.2.2.2.2.2.2.2.2.2.2.2.2
  exact va_mmax C.1 C.2.1 (by rw [C.2.2.1]; exact hL.1.1.symm) C.2.2.2.2.1 (hts _ hl) (hts _ h2.1) (hts _ h2.2.1) (hts _ h2.2.2) (by omega) (by rw [xv_sum]; omega) (by omega) (by omega) h1 (kk C X hw hR hS hL (xv_ok_i (xv_ok_t (xv_ok_t hO)) _) hc hs)
end XVM
end
section
section XVT
variable {M : xv_M} {d mc ms kc ks : Nat} {Q : xv_Q} {sh : xv_Sh} {I : xv_I} {Rf : xv_Rf} {J : xv_J} {pc pc' tgt : Nat} {L : List (Option Value)} {S : List Value}
theorem xv_R.grow {s : State} {D : va_G} {ad : Nat → Nat} {ca : Nat → ClassId} {H H1 : Heap} (h : xv_R s D ad ca sh I Rf J H) (oq : ∀ q, q < H.size → H1[q]? = H[q]?) : xv_R s D ad ca sh I Rf J H1 := ⟨fun v x hx => (h.1 v x hx).kept (oq _ (h.1 v x hx).lt), h.2⟩
def xv_nms : List String := ["java/lang/RuntimeException", "java/lang/Exception"]
/-- a throw of a class with a text: what the tables say -/
def xv_H (own : String) (ik is ic : Nat) (cls : String) : Prop := Bundle.fit cls = true ∧ Cond.classLink own ik cls ∈ xv_tbl ∧ Cond.initialized cls ∈ xv_tbl ∧ (∃ tx, (own, is, tx) ∈ xv_strs) ∧ (∀ w ∈ vx_atS own ic cls xv_nms, w ∈ xv_tbl) ∧ ∀ w ∈ Cond.classLink own ik cls :: Cond.initialized cls :: vx_atS own ic cls xv_nms, vx_ot w = true
theorem xv_nms_fit : ∀ n ∈ xv_nms, Bundle.fit n = true := by decide +kernel
/-- the instructions of a throw -/
def xv_TW (M : xv_M) (pc ik is ic : Nat) : Prop := decode M.2.1 pc = .ok (.new ik, 3) ∧ decode M.2.1 (pc + 3) = .ok (.dup, 1) ∧ ((decode M.2.1 (pc + 4) = .ok (.ldc is, 2) ∧ decode M.2.1 (pc + 6) = .ok (.invokespecial ic, 3) ∧ decode M.2.1 (pc + 9) = .ok (.athrow, 1)) ∨ (decode M.2.1 (pc + 4) = .ok (.ldc_w is, 3) ∧ decode M.2.1 (pc + 7) = .ok (.invokespecial ic, 3) ∧ decode M.2.1 (pc + 10) = .ok (.athrow, 1)))
theorem xv_throw {ik is ic : Nat} {cls : String} (hf : xv_TW M pc ik is ic) (hH : xv_H M.1.cls ik is ic cls) (hh : M.2.2.2.2 = []) (hd : 6 ≤ d) (h1c : 1 ≤ kc) (h1s : 6 ≤ ks) (hsum : (S.map fun v => v.category).sum ≤ 8) (hQ : Q (.inr cls) sh I Rf J) : xv_W M d mc ms Q kc ks sh I Rf J pc L S := by
  obtain ⟨f0, f3, f4⟩ := hf
  obtain ⟨e1, e2, e3, ⟨tx, e4⟩, e5, e6⟩ := hH
  intro p l e R s m args below meth c D A sh0 ad0 ca0 ad ca H locs cells slots ls C X hw hR hS hL hO hc hs
  have hts := C.2.2.2.2.2.1
  have hE := C.2.2.2.2.2.2.2.2.2.2.1
  have htab := C.2.2.2.2.2.2.2.2.2.2.2.2.1
  rw [hh] at htab
  have hRf : d ≤ R.frames := C.2.2.2.2.2.2.2.2.2.2.2.2.2.1
  have hRl : 40 * d ≤ R.locals := C.2.2.2.2.2.2.2.2.2.2.2.2.2.2.1
  have hcm : mc ≤ R.cells := C.2.2.2.2.2.2.2.2.2.2.2.2.2.2.2.1
  have hsm : ms ≤ R.slots := C.2.2.2.2.2.2.2.2.2.2.2.2.2.2.2.2
  obtain ⟨sa, hsa⟩ := hE.2.2.1 _ e4
  have hout : ∀ (k : Nat), ∀ x ∈ c.exceptionTable.toList, covers x k = false := fun k x hx => by rw [htab] at hx; cases hx
  have hx9 : ∀ t : State, s.vm.Alike t.vm → H.size ≤ t.heap.size → (∀ q : Nat, q < H.size → t.heap[q]? = H[q]?) → xv_QX Q D sh0 ad0 ca0 A cls s t := fun t h1 h2 h3 =>
    ⟨sh, I, Rf, J, ad, ca, hQ, (hR.grow h3).moved h1, X, hw, Nat.le_trans hS.1 h2, fun q h4 h5 => (h3 q (Nat.lt_of_lt_of_le h4 hS.1)).trans (hS.2.1 q h4 h5)⟩
  have hsz : ls.size = c.maxLocals := by rw [C.2.2.1]; exact hL.1.1
  have h7 : ((S.map (xv_tr ad)).map fun v => v.category).sum + (13 * (xv_nms.length + 1) + 43) ≤ R.locals := by
    rw [xv_sum]
    show _ + (13 * (2 + 1) + 43) ≤ _
    omega
  rcases f4 with ⟨g4, g6, g9⟩ | ⟨g4, g7, g10⟩
  · exact vx_throwS C.1 C.2.1 C.2.2.2.2.2.2.2.2.1 C.2.2.2.2.1 e1 xv_nms_fit (hts _ e2) (hts _ e3) hsa (fun w hw => hts _ (e5 w hw)) e6 hE.1 hE.2.1 hS hsz f0 f3 g4 g6 g9 (hout _) (by show 2 + 3 < _; omega) h7 (by omega) (by omega) C.2.2.2.2.2.2.1 hx9 (fun z hz => hS.2.2 z hz) (by omega) (by omega)
  · exact vx_throwSW C.1 C.2.1 C.2.2.2.2.2.2.2.2.1 C.2.2.2.2.1 e1 xv_nms_fit (hts _ e2) (hts _ e3) hsa (fun w hw => hts _ (e5 w hw)) e6 hE.1 hE.2.1 hS hsz f0 f3 g4 g7 g10 (hout _) (by show 2 + 3 < _; omega) h7 (by omega) (by omega) C.2.2.2.2.2.2.1 hx9 (fun z hz => hS.2.2 z hz) (by omega) (by omega)
/-- the handler of what is thrown at pc: it stores it, and answers v -/
def xv_Hn (M : xv_M) (pc : Nat) (E : String) (v : Int32) : Prop := ∃ (pre suf : List ExceptionTableEntry) (x : ExceptionTableEntry) (nm : String) (k h2 h3 h4 : Nat), tableOf M.2.2.2.2 = pre ++ x :: suf ∧ (∀ z ∈ pre, covers z pc = false ∨ (z.catchType ≠ 0 ∧ ∃ n2, Cond.classLink M.1.cls z.catchType n2 ∈ xv_tbl ∧ (E, n2) ∈ xv_ncs)) ∧ covers x pc = true ∧ x.catchType ≠ 0 ∧ Cond.classLink M.1.cls x.catchType nm ∈ xv_tbl ∧ Cond.castable E nm ∈ xv_tbl ∧ xv_SA M x.handlerPc k h2 ∧ k < M.2.2.1 ∧ xv_K M h2 v h3 ∧ xv_F M h3 .ireturn 1 h4
theorem xv_caught {p : Program} {l : Launch} {e : Env} {R : Room} {s : State} {m : MethodId} {args : Array Value} {below : List Frame} {meth : Method} {c : Code} {D : va_G} {A : Nat → Prop} {sh0 : xv_Sh} {ad0 : Nat → Nat} {ca0 : Nat → ClassId} {ls : Array Slot} {st : List Value} {E : String} {v : Int32} {sh' : xv_Sh} {I' : xv_I} {Rf' : xv_Rf} {J' : xv_J}
    (C : xv_C M d mc ms p l R s m args meth c D A) (hn : xv_Hn M pc E v) (hr : M.2.2.2.1 = some .int) (hQ : Q (.inl (some (.int v))) sh' I' Rf' J') {kc' ks' : Nat} {ad' : Nat → Nat} {ca' : Nat → ClassId} {H' : Heap} {locs' : List Loc} {cells' slots' : Nat} {q : Addr} {ce : Cell} (X : xv_X sh0 ad0 ca0 sh' ad' ca') (hw : ∀ v, xv_w sh' v → A (ad' v)) (hR : xv_R s D ad' ca' sh' I' Rf' J' H') (hS : va_S A s.heap H' locs') (hL : xv_L ad' sh' M.2.2.1 ls L) (hc : cells' + kc' ≤ mc) (hs : slots' + ks' ≤ ms) (hce : H'[q]? = some ce) (hcv : ce.vm = .none) (hcl : s.vm.findClass E = some ce.cls) :
    vx_W p l e R s m args below meth c H' locs' cells' slots' (vx_MQ below (xv_QR Q D sh0 ad0 ca0 A) (xv_QX Q D sh0 ad0 ca0 A) args s mc ms A) (F0 m pc ls st) q := by
  obtain ⟨pre, suf, x, nm, k, h2, h3, h4, a1, a2, a3, a4, a5, a6, a7, a8, a9, b2, rfl⟩ := hn
  have hts := C.2.2.2.2.2.1
  have htab := C.2.2.2.2.2.2.2.2.2.2.2.2.1
  have hE := C.2.2.2.2.2.2.2.2.2.2.1
  refine vx_catch C.2.2.2.2.1 pre x suf (htab.trans a1) (fun z hz => ?_) a3 a4 (hts _ a5) (hts _ a6) hce hcv hcl ?_
  · rcases a2 z hz with h | ⟨h, n2, h5, h6⟩
    · exact Or.inl h
    · exact Or.inr ⟨h, n2, hts _ h5, hE.2.2.2 _ h6⟩
  · have fin : ∀ ls' : Array Slot, W p l e R s m args below meth c H' locs' cells' slots' (vx_MQ below (xv_QR Q D sh0 ad0 ca0 A) (xv_QX Q D sh0 ad0 ca0 A) args s mc ms A) (F0 m h2 ls' []) := fun ls' => by
      rcases a9 with ⟨n, c1, c2, rfl⟩ | ⟨n, c1, c2, rfl⟩ | ⟨n, c1, c2, rfl⟩ | ⟨n, c1, c2, rfl⟩
      · refine lv_iconst C.1 C.2.1 c1 c2 ?_
        exact vx_ret (W.widen (k := mc) (n := ms) (by omega) (by omega) (W.zret C.1 C.2.1 (C.2.2.2.1.trans hr) rfl (fun t ht hW => ⟨some (.int v), sh', I', Rf', J', ad', ca', rfl, hQ, (fun z hz => by cases hz; trivial), by rw [ht]; exact hR.moved hW.alike, X, hw, hS.F ht⟩) (fun q hq => hS.2.2 q hq) b2 C.2.2.2.2.2.2.1))
      · refine lv_bipush C.1 C.2.1 c1 c2 ?_
        exact vx_ret (W.widen (k := mc) (n := ms) (by omega) (by omega) (W.zret C.1 C.2.1 (C.2.2.2.1.trans hr) rfl (fun t ht hW => ⟨some (.int v), sh', I', Rf', J', ad', ca', rfl, hQ, (fun z hz => by cases hz; trivial), by rw [ht]; exact hR.moved hW.alike, X, hw, hS.F ht⟩) (fun q hq => hS.2.2 q hq) b2 C.2.2.2.2.2.2.1))
      · refine lv_sipush C.1 C.2.1 c1 c2 ?_
        exact vx_ret (W.widen (k := mc) (n := ms) (by omega) (by omega) (W.zret C.1 C.2.1 (C.2.2.2.1.trans hr) rfl (fun t ht hW => ⟨some (.int v), sh', I', Rf', J', ad', ca', rfl, hQ, (fun z hz => by cases hz; trivial), by rw [ht]; exact hR.moved hW.alike, X, hw, hS.F ht⟩) (fun q hq => hS.2.2 q hq) b2 C.2.2.2.2.2.2.1))
      · refine lv_ldc C.1 C.2.1 C.2.2.2.2.1 (hts _ c2) c1 ?_
        exact vx_ret (W.widen (k := mc) (n := ms) (by omega) (by omega) (W.zret C.1 C.2.1 (C.2.2.2.1.trans hr) rfl (fun t ht hW => ⟨some (.int v), sh', I', Rf', J', ad', ca', rfl, hQ, (fun z hz => by cases hz; trivial), by rw [ht]; exact hR.moved hW.alike, X, hw, hS.F ht⟩) (fun q hq => hS.2.2 q hq) b2 C.2.2.2.2.2.2.1))
    rcases a7 with ⟨n, c1, c2, rfl⟩ | ⟨c1, rfl⟩
    · exact lv_astore_n C.1 C.2.1 c1 c2 hL.1 a8 rfl (fun ls' _ => fin ls')
    · exact lv_astore C.1 C.2.1 c1 hL.1 a8 rfl (fun ls' _ => fin ls')
/-- a call of an instance's method, where what it throws is caught here and answered by a number -/
theorem xv_callVH {M' : xv_M} {d' mc' ms' kc' ks' idx n b ci : Nat} {As S0 : List Value} {Q' : xv_Q} (hM : xv_Met M' d' mc' ms' sh I Rf J (.ref b :: As) Q') (hf : xv_F M pc (.invokevirtual idx) 3 pc') (hY : xv_Y M' n) (hY2 : Cond.instanceMethod M'.1 ∈ xv_tbl ∧ Cond.selects M'.1.cls M'.1 M'.1 ∈ xv_tbl ∧ (vwCl[ci]?.map fun q => q.1) = some M'.1.cls) (hl : Cond.methodLink M.1.cls idx M'.1 ∈ xv_tbl) (hret : M.2.2.2.1 = some .int) (hh' : M'.2.2.2.2 = []) (hb : sh b = some (.inl ci)) (hn : As.length = n) (hst : S0 = As.reverse ++ .ref b :: S) (hsum : (S.map fun v => v.category).sum ≤ 8) (hd : d' + 1 ≤ d) (h1c : kc' + mc' ≤ kc) (h1s : ks' + ms' ≤ ks)
    (kr : ∀ r sh' I' Rf' J', Q' (.inl r) sh' I' Rf' J' → (∀ v, sh v ≠ none → sh' v = sh v) → xv_W M d mc ms Q kc' ks' sh' I' Rf' J' pc' L (r.toList ++ S)) (kx : ∀ E sh' I' Rf' J', Q' (.inr E) sh' I' Rf' J' → ∃ v, xv_Hn M pc E v ∧ Q (.inl (some (.int v))) sh' I' Rf' J') : xv_W M d mc ms Q kc ks sh I Rf J pc L S0 := by
  obtain ⟨h1, rfl⟩ := hf
  subst hst
  intro p l e R s m args below meth c D A sh0 ad0 ca0 ad ca H locs cells slots ls C X hw hR hS hL hO hc hs
  have hts := C.2.2.2.2.2.1
  have hAs : ∀ v ∈ As, xv_ok sh v := fun v hv => hO v (List.mem_append_left _ (List.mem_reverse.mpr hv))
  have hO2 : ∀ v ∈ Value.ref b :: S, xv_ok sh v := fun v hv => hO v (List.mem_append_right _ hv)
  have hRf : d ≤ R.frames := C.2.2.2.2.2.2.2.2.2.2.2.2.2.1
  have hRl : 40 * d ≤ R.locals := C.2.2.2.2.2.2.2.2.2.2.2.2.2.2.1
  have hcm : mc ≤ R.cells := C.2.2.2.2.2.2.2.2.2.2.2.2.2.2.2.1
  have hsm : ms ≤ R.slots := C.2.2.2.2.2.2.2.2.2.2.2.2.2.2.2.2
  refine xv_after C X hw hR hS hL (xv_ok_t hO2) hc hs h1c h1s (vx_runV (As := As.map (xv_tr ad)) (C := M'.1.cls) (b := ad b) (ret := M'.2.2.2.1) (n := n) (rest := S.map (xv_tr ad)) ⟨C.1, C.2.1, C.2.2.1, C.2.2.2.2.1, hts⟩ (hM l D ad ca H.size C.2.2.2.2.2.2.2.2.1) ⟨xv_callB hY hh' rfl hts hl (by omega) (by omega), hts _ hY2.1, hts _ hY2.2.1⟩
    ⟨xv_blind, ?_, xv_Pcall (As := .ref b :: As) C hw hR hS (List.forall_mem_cons.mpr ⟨xv_ok_h hO2, hAs⟩)⟩ rfl (by rw [List.length_map]; exact hn) hL.1.1 (by rw [List.map_append, List.map_reverse]; rfl) (lv_room (by rw [xv_sum]; exact hsum)) h1 ⟨by omega, by omega⟩) kr ?_
  · obtain ⟨r, g1, cell, q1, q2, q3, -⟩ := hR.1 b _ hb
    have hcn := hY2.2.2
    rw [g1] at hcn
    have hcn2 : r.1 = M'.1.cls := Option.some.inj hcn
    refine ⟨cell, q1, by rw [q3]; rfl, ?_⟩
    rw [q2, ← hcn2]
    exact (C.2.2.2.2.2.2.2.2.2.1.1 ci _ g1).2.1
  · intro E sh' I' Rf' J' hq ad' ca' H' locs' cells' slots' q ce X' hw' hR' hS' hL' hc' hs' hce hcv hcl
    obtain ⟨v, hv, hQ⟩ := kx E sh' I' Rf' J' hq
    exact xv_caught C hv hret hQ X' hw' hR' hS' hL' hc' hs' hce hcv hcl
/-- the same, of a static method -/
theorem xv_callSH {M' : xv_M} {d' mc' ms' kc' ks' idx n : Nat} {As S0 : List Value} {Q' : xv_Q} (hM : xv_Met M' d' mc' ms' sh I Rf J As Q') (hf : xv_F M pc (.invokestatic idx) 3 pc') (hY : xv_Y M' n) (hY2 : Cond.static M'.1 ∈ xv_tbl) (hl : Cond.methodLink M.1.cls idx M'.1 ∈ xv_tbl ∨ (M'.2.2.2.2 = [] ∧ ∃ host, Cond.methodLinkNest M.1.cls idx M'.1 host ∈ xv_tbl)) (hret : M.2.2.2.1 = some .int) (hn : As.length = n) (hst : S0 = As.reverse ++ S) (hsum : (S.map fun v => v.category).sum ≤ 8) (hd : d' + 1 ≤ d) (h1c : kc' + mc' ≤ kc) (h1s : ks' + ms' ≤ ks)
    (kr : ∀ r sh' I' Rf' J', Q' (.inl r) sh' I' Rf' J' → (∀ v, sh v ≠ none → sh' v = sh v) → xv_W M d mc ms Q kc' ks' sh' I' Rf' J' pc' L (r.toList ++ S)) (kx : ∀ E sh' I' Rf' J', Q' (.inr E) sh' I' Rf' J' → ∃ v, xv_Hn M pc E v ∧ Q (.inl (some (.int v))) sh' I' Rf' J') : xv_W M d mc ms Q kc ks sh I Rf J pc L S0 := by
  obtain ⟨h1, rfl⟩ := hf
  subst hst
  intro p l e R s m args below meth c D A sh0 ad0 ca0 ad ca H locs cells slots ls C X hw hR hS hL hO hc hs
  have hts := C.2.2.2.2.2.1
  have hAs : ∀ v ∈ As, xv_ok sh v := fun v hv => hO v (List.mem_append_left _ (List.mem_reverse.mpr hv))
  have hO2 : ∀ v ∈ S, xv_ok sh v := fun v hv => hO v (List.mem_append_right _ hv)
  have hY0 := id hY
  obtain ⟨y1, y2, y3, y4, y5, y6⟩ := hY
  have hRf : d ≤ R.frames := C.2.2.2.2.2.2.2.2.2.2.2.2.2.1
  have hRl : 40 * d ≤ R.locals := C.2.2.2.2.2.2.2.2.2.2.2.2.2.2.1
  have hcm : mc ≤ R.cells := C.2.2.2.2.2.2.2.2.2.2.2.2.2.2.2.1
  have hsm : ms ≤ R.slots := C.2.2.2.2.2.2.2.2.2.2.2.2.2.2.2.2
  have hpar : ∀ sig, parseMethodDescriptor M'.1.desc = some sig → n = sig.parameters.length := fun sig h => by
    rw [h] at y5
    exact (Option.some.inj y5).symm
  have hPc := xv_Pcall (As := As) C hw hR hS hAs
  have hpay : ∀ w ∈ xv_ws M', ∀ (a' : Array Value) (U : State), s.WarmedH U.vm → w.before a' U = true := xv_pay hY0 hts
  have hrun : vx_Run p l e R s m args below meth c H locs cells slots mc' ms' (F0 m pc ls ((As.reverse ++ S).map (xv_tr ad))) (S.map (xv_tr ad)) (xv_QR Q' D sh ad ca (xv_A sh ad H.size) (As.map (xv_tr ad)).toArray) (xv_QX Q' D sh ad ca (xv_A sh ad H.size)) (xv_A sh ad H.size) := by
    by_cases hh' : M'.2.2.2.2 = []
    · rw [xv_cd_0 hh'] at y1
      have hws : xv_ws M' = Cond.code M'.1 M'.2.1 M'.2.2.1 M'.2.2.2.1 :: xv_tbl := by unfold xv_ws; rw [xv_cd_0 hh']
      have hcode : Cond.code M'.1 M'.2.1 M'.2.2.1 M'.2.2.2.1 ∈ xv_ws M' := by rw [hws]; exact List.mem_cons_self
      rcases hl with hl | ⟨-, host, hl⟩
      · exact vx_runS (As := As.map (xv_tr ad)) (ret := M'.2.2.2.1) (n := n) (rest := S.map (xv_tr ad)) ⟨C.1, C.2.1, C.2.2.1, C.2.2.2.2.1, hts⟩ (hM l D ad ca H.size C.2.2.2.2.2.2.2.2.1) ⟨xv_callB hY0 hh' rfl hts hl (by omega) (by omega), hts _ hY2⟩
          ⟨xv_blind, hPc⟩ rfl (by rw [List.length_map]; exact hn) hL.1.1 (by rw [List.map_append, List.map_reverse]) (lv_room (by rw [xv_sum]; exact hsum)) h1 ⟨by omega, by omega⟩
      · exact vx_runSN (As := As.map (xv_tr ad)) (ret := M'.2.2.2.1) (n := n) (rest := S.map (xv_tr ad)) (host := host) ⟨C.1, C.2.1, C.2.2.1, C.2.2.2.2.1, hts⟩ (hM l D ad ca H.size C.2.2.2.2.2.2.2.2.1) ⟨⟨⟨rfl, rfl, by show d' + 1 ≤ _; omega, by show 8 + (M'.2.2.1 + 11) + 40 * d' ≤ _; omega, hpay, hcode⟩, hts _ y1, hts _ y2, ⟨y3, y4⟩, hpar, hts _ hl⟩, hts _ hY2, trivial⟩
          ⟨xv_blind, hPc⟩ rfl (by rw [List.length_map]; exact hn) hL.1.1 (by rw [List.map_append, List.map_reverse]) (lv_room (by rw [xv_sum]; exact hsum)) h1 ⟨by omega, by omega⟩
    · have e9 := xv_cd_1 hh'
      rw [e9] at y1
      have hws : xv_ws M' = Cond.codeWith M'.1 M'.2.1 M'.2.2.1 M'.2.2.2.1 M'.2.2.2.2 :: xv_tbl := by unfold xv_ws; rw [e9]
      have hcode : Cond.codeWith M'.1 M'.2.1 M'.2.2.1 M'.2.2.2.1 M'.2.2.2.2 ∈ xv_ws M' := by rw [hws]; exact List.mem_cons_self
      rcases hl with hl | ⟨hl, -⟩
      · exact vx_runSX (hh := M'.2.2.2.2) (As := As.map (xv_tr ad)) (ret := M'.2.2.2.1) (n := n) (rest := S.map (xv_tr ad)) ⟨C.1, C.2.1, C.2.2.1, C.2.2.2.2.1, hts⟩ (hM l D ad ca H.size C.2.2.2.2.2.2.2.2.1) ⟨⟨rfl, rfl, by show d' + 1 ≤ _; omega, by show 8 + (M'.2.2.1 + 11) + 40 * d' ≤ _; omega, hpay, hcode⟩, hts _ y1, hts _ y2, ⟨y3, y4⟩, hpar, hts _ hl, hts _ hY2⟩
          ⟨xv_blind, hPc⟩ rfl (by rw [List.length_map]; exact hn) hL.1.1 (by rw [List.map_append, List.map_reverse]) (lv_room (by rw [xv_sum]; exact hsum)) h1 ⟨by omega, by omega⟩
      · exact absurd hl hh'
  refine xv_after C X hw hR hS hL hO2 hc hs h1c h1s hrun kr ?_
  intro E sh' I' Rf' J' hq ad' ca' H' locs' cells' slots' q ce X' hw' hR' hS' hL' hc' hs' hce hcv hcl
  obtain ⟨v, hv, hQ⟩ := kx E sh' I' Rf' J' hq
  exact xv_caught C hv hret hQ X' hw' hR' hS' hL' hc' hs' hce hcv hcl
end XVT
/-- cells that came and are asked for no more are forgotten at the end -/
theorem xv_Met.forget {M : xv_M} {d mc ms : Nat} {sh sh' : xv_Sh} {I I' : xv_I} {Rf Rf' : xv_Rf} {J J' : xv_J} {As : List Value} {v : Int32} (h : xv_Met M d mc ms sh I Rf J As (fun o s i r j => o = .inl (some (.int v)) ∧ s = sh' ∧ i = I' ∧ r = Rf' ∧ j = J'))
    (h2 : ∀ w, sh w ≠ none → sh' w = sh w) (h3 : ∀ w k u, sh w ≠ none → Rf' w k = some u → sh u ≠ none) : xv_Met M d mc ms sh I Rf J As (fun o s i r j => o = .inl (some (.int v)) ∧ s = sh ∧ i = I' ∧ r = Rf' ∧ j = J') := fun l D ad ca sz hl => by
  refine MetFree.imp (h l D ad ca sz hl) (fun a st o t hh => ?_)
  rcases hh with ⟨⟨r, sh1, I1, Rf1, J1, ad1, ca1, g1, ⟨g2, rfl, rfl, rfl, rfl⟩, g3, g4, g5, g6⟩, h4⟩ | ⟨q, h1, hx⟩
  · cases g2
    refine Or.inl ⟨⟨some (.int v), sh, I1, Rf1, J1, ad1, ca1, g1, ⟨rfl, rfl, rfl, rfl, rfl⟩, fun x hx => by cases hx; trivial, ?_, ?_, ?_⟩, h4⟩
    · refine ⟨fun w x hw => g4.1 w x ((h2 w (by rw [hw]; exact Option.some_ne_none _)).trans hw), fun w u hw hu => g4.2.1 w u (by rw [h2 w hw]; exact hw) (by rw [h2 u hu]; exact hu), fun w k u hw hr => h3 w k u hw hr⟩
    · exact fun w hw => ⟨rfl, (g5 w hw).2⟩
    · exact ⟨fun w hw => by
        obtain ⟨x, hx, hx2⟩ := hw
        exact g6.1 w ⟨x, (h2 w (by rw [hx]; exact Option.some_ne_none _)).trans hx, hx2⟩, g6.2⟩
  · obtain ⟨E, ce, L, ⟨sh1, I1, Rf1, J1, ad1, ca1, ⟨g1, -⟩, g2⟩, h3⟩ := hx
    cases g1
end
section
theorem xv_atsin {L : List Cond} (h1 : L.all (fun w => decide (w ∈ lw_tbl)) = true) (h2 : L.all xv_g = true) : ∀ w ∈ L, w ∈ xv_tbl := fun w hw => List.mem_filter.mpr ⟨of_decide_eq_true (List.all_eq_true.mp h1 w hw), List.all_eq_true.mp h2 w hw⟩
abbrev mX0_init : xv_M := (yX0_init, cX0_init, 7, none, [])
abbrev mX0_lowestPage : xv_M := (yX0_lowestPage, cX0_lowestPage, 1, some (.int), [])
abbrev mX0_highestPage : xv_M := (yX0_highestPage, cX0_highestPage, 1, some (.int), [])
abbrev mX0_isPlaced : xv_M := (yX0_isPlaced, cX0_isPlaced, 1, some (.boolean), [])
abbrev mX0_putAt : xv_M := (yX0_putAt, cX0_putAt, 3, none, [])
abbrev mX0_whereItIs : xv_M := (yX0_whereItIs, cX0_whereItIs, 1, some (.int), [])
abbrev mX1_init : xv_M := (yX1_init, cX1_init, 1, none, [])
abbrev mX1_keep : xv_M := (yX1_keep, cX1_keep, 5, none, [])
abbrev mX1_isKept : xv_M := (yX1_isKept, cX1_isKept, 2, some (.boolean), [])
abbrev mX1_at : xv_M := (yX1_at, cX1_at, 4, some (.int), [])
abbrev mX1_has : xv_M := (yX1_has, cX1_has, 5, some (.boolean), [])
abbrev mX1_owes : xv_M := (yX1_owes, cX1_owes, 3, some (.boolean), [])
abbrev mX1_addOwed : xv_M := (yX1_addOwed, cX1_addOwed, 2, none, [])
abbrev mX1_longestOwed : xv_M := (yX1_longestOwed, cX1_longestOwed, 1, some (.int), [])
abbrev mX1_dropLongestOwed : xv_M := (yX1_dropLongestOwed, cX1_dropLongestOwed, 2, none, [])
abbrev mX2_init : xv_M := (yX2_init, cX2_init, 1, none, [])
abbrev mX3_init : xv_M := (yX3_init, cX3_init, 2, none, [])
abbrev mX3_find : xv_M := (yX3_find, cX3_find, 5, some (.boolean), [])
abbrev mX3_tryOnePage : xv_M := (yX3_tryOnePage, cX3_tryOnePage, 5, none, [])
abbrev mX3_tryTwoPages : xv_M := (yX3_tryTwoPages, cX3_tryTwoPages, 8, none, [])
abbrev mX3_setRun : xv_M := (yX3_setRun, cX3_setRun, 6, some (.boolean), [])
abbrev mX3_keepIfCheaper : xv_M := (yX3_keepIfCheaper, cX3_keepIfCheaper, 2, none, [])
abbrev mX4_init : xv_M := (yX4_init, cX4_init, 1, none, [])
abbrev mX5_init : xv_M := (yX5_init, cX5_init, 1, none, [])
abbrev mX5_setKind : xv_M := (yX5_setKind, cX5_setKind, 4, none, [])
abbrev mX5_sectionOf : xv_M := (yX5_sectionOf, cX5_sectionOf, 2, some (.int), [])
abbrev mX5_hasColour : xv_M := (yX5_hasColour, cX5_hasColour, 2, some (.boolean), [])
abbrev mX5_at : xv_M := (yX5_at, cX5_at, 3, some (.int), [])
abbrev mX5_put : xv_M := (yX5_put, cX5_put, 4, none, [])
abbrev mX5_isBare : xv_M := (yX5_isBare, cX5_isBare, 3, some (.boolean), [])
abbrev mX5_lowestFree : xv_M := (yX5_lowestFree, cX5_lowestFree, 3, some (.int), [])
abbrev mX5_freeAllOf : xv_M := (yX5_freeAllOf, cX5_freeAllOf, 4, none, [])
abbrev mX5_platesOf : xv_M := (yX5_platesOf, cX5_platesOf, 5, some (.int), [])
abbrev mX5_freeRectangle : xv_M := (yX5_freeRectangle, cX5_freeRectangle, 6, some (.int), [])
abbrev mX5_isFreeRectangle : xv_M := (yX5_isFreeRectangle, cX5_isFreeRectangle, 7, some (.boolean), [])
abbrev mX5_fillRectangle : xv_M := (yX5_fillRectangle, cX5_fillRectangle, 5, none, [])
abbrev mX5_freeRun : xv_M := (yX5_freeRun, cX5_freeRun, 7, some (.int), [])
abbrev mX5_isThere : xv_M := (yX5_isThere, cX5_isThere, 2, some (.boolean), [])
abbrev mX5_letLeave : xv_M := (yX5_letLeave, cX5_letLeave, 4, none, [])
abbrev mX5_letComeBack : xv_M := (yX5_letComeBack, cX5_letComeBack, 2, none, [])
abbrev mX5_hasSigned : xv_M := (yX5_hasSigned, cX5_hasSigned, 3, some (.boolean), [])
abbrev mX5_addSignature : xv_M := (yX5_addSignature, cX5_addSignature, 3, some (.int), [])
abbrev mX5_turnHold : xv_M := (yX5_turnHold, cX5_turnHold, 3, some (.boolean), [])
abbrev mX5_canGo : xv_M := (yX5_canGo, cX5_canGo, 2, some (.boolean), [])
abbrev mX5_canAllGo : xv_M := (yX5_canAllGo, cX5_canAllGo, 2, some (.boolean), [])
abbrev mX6_init : xv_M := (yX6_init, cX6_init, 5, none, [])
abbrev mX6_isLaid : xv_M := (yX6_isLaid, cX6_isLaid, 1, some (.boolean), [])
abbrev mX6_linesOfFirst : xv_M := (yX6_linesOfFirst, cX6_linesOfFirst, 5, some (.int), [])
abbrev mX6_cellsFor : xv_M := (yX6_cellsFor, cX6_cellsFor, 4, some (.int), [])
abbrev mX7_init : xv_M := (yX7_init, cX7_init, 1, none, [])
abbrev mX8_init : xv_M := (yX8_init, cX8_init, 1, none, [])
abbrev mX8_clear : xv_M := (yX8_clear, cX8_clear, 2, none, [])
abbrev mX8_setPart : xv_M := (yX8_setPart, cX8_setPart, 5, none, [])
abbrev mX8_copy : xv_M := (yX8_copy, cX8_copy, 3, none, [])
abbrev mX8_pageOf : xv_M := (yX8_pageOf, cX8_pageOf, 2, some (.int), [])
abbrev mX8_start : xv_M := (yX8_start, cX8_start, 2, some (.int), [])
abbrev mX8_size : xv_M := (yX8_size, cX8_size, 2, some (.int), [])
abbrev mX8_plates : xv_M := (yX8_plates, cX8_plates, 3, some (.int), [])
abbrev mX9_init : xv_M := (yX9_init, cX9_init, 1, none, [])
abbrev mX10_init : xv_M := (yX10_init, cX10_init, 1, none, [])
abbrev mX10_page : xv_M := (yX10_page, cX10_page, 4, none, [])
abbrev mX10_cell : xv_M := (yX10_cell, cX10_cell, 3, some (.int), [])
abbrev mX10_touched : xv_M := (yX10_touched, cX10_touched, 1, some (.int), [])
abbrev mX10_distance : xv_M := (yX10_distance, cX10_distance, 4, some (.int), [])
abbrev mX10_advert : xv_M := (yX10_advert, cX10_advert, 7, some (.int), [])
abbrev mX10_place : xv_M := (yX10_place, cX10_place, 5, some (.int), [])
abbrev mX10_takeOff : xv_M := (yX10_takeOff, cX10_takeOff, 4, some (.int), [])
abbrev mX10_advertsIn : xv_M := (yX10_advertsIn, cX10_advertsIn, 5, some (.int), [])
abbrev mX10_story : xv_M := (yX10_story, cX10_story, 5, some (.int), [])
abbrev mX10_lay : xv_M := (yX10_lay, cX10_lay, 3, some (.int), [])
abbrev mX10_lift : xv_M := (yX10_lift, cX10_lift, 4, some (.int), [])
abbrev mX10_change : xv_M := (yX10_change, cX10_change, 7, some (.int), [])
abbrev mX10_part : xv_M := (yX10_part, cX10_part, 5, some (.int), [])
abbrev mX10_person : xv_M := (yX10_person, cX10_person, 2, some (.boolean), [])
abbrev mX10_sign : xv_M := (yX10_sign, cX10_sign, 3, some (.int), [])
abbrev mX10_hold : xv_M := (yX10_hold, cX10_hold, 3, some (.boolean), [])
abbrev mX10_isReady : xv_M := (yX10_isReady, cX10_isReady, 2, some (.boolean), [])
abbrev mX10_close : xv_M := (yX10_close, cX10_close, 1, some (.int), [])
abbrev mX10_printed : xv_M := (yX10_printed, cX10_printed, 4, some (.int), [])
abbrev mX10_correct : xv_M := (yX10_correct, cX10_correct, 3, some (.int), [])
abbrev mX10_placeCorrection : xv_M := (yX10_placeCorrection, cX10_placeCorrection, 5, some (.int), [])
abbrev mX10_clean : xv_M := (yX10_clean, cX10_clean, 4, some (.int), [])
abbrev mX10_pass : xv_M := (yX10_pass, cX10_pass, 2, some (.int), [])
abbrev mX10_needPage : xv_M := (yX10_needPage, cX10_needPage, 1, none, [])
abbrev mX10_needCell : xv_M := (yX10_needCell, cX10_needCell, 1, none, [])
abbrev mX10_needPerson : xv_M := (yX10_needPerson, cX10_needPerson, 1, none, [])
abbrev mX10_needRange : xv_M := (yX10_needRange, cX10_needRange, 3, none, [])
abbrev mX10_needEdition : xv_M := (yX10_needEdition, cX10_needEdition, 2, none, [])
abbrev mX10_needAdvert : xv_M := (yX10_needAdvert, cX10_needAdvert, 3, some (.object "PressHall$Advert"), [])
abbrev mX10_needStory : xv_M := (yX10_needStory, cX10_needStory, 3, some (.object "PressHall$Story"), [])
abbrev mX10_storyAt : xv_M := (yX10_storyAt, cX10_storyAt, 2, some (.object "PressHall$Story"), [])
abbrev mX10_isPage : xv_M := (yX10_isPage, cX10_isPage, 1, some (.boolean), [])
abbrev mX10_isCell : xv_M := (yX10_isCell, cX10_isCell, 1, some (.boolean), [])
abbrev mX10_isZonePage : xv_M := (yX10_isZonePage, cX10_isZonePage, 1, some (.boolean), [])
abbrev mX10_isInCopies : xv_M := (yX10_isInCopies, cX10_isInCopies, 2, some (.boolean), [])
abbrev mX10_plateOf : xv_M := (yX10_plateOf, cX10_plateOf, 1, some (.int), [])
abbrev mX10_cellInColumns : xv_M := (yX10_cellInColumns, cX10_cellInColumns, 1, some (.int), [])
abbrev mX10_pagesApart : xv_M := (yX10_pagesApart, cX10_pagesApart, 2, some (.int), [])
abbrev mX10_distanceOf : xv_M := (yX10_distanceOf, cX10_distanceOf, 2, some (.int), [])
abbrev mX10_fits : xv_M := (yX10_fits, cX10_fits, 3, some (.boolean), [])
abbrev mX10_isFarFromItsLike : xv_M := (yX10_isFarFromItsLike, cX10_isFarFromItsLike, 5, some (.boolean), [])
abbrev mX10_paragraphsOf : xv_M := (yX10_paragraphsOf, cX10_paragraphsOf, 3, some (.int), [])
abbrev mX10_putOut : xv_M := (yX10_putOut, cX10_putOut, 7, none, [])
abbrev mJ6_bitCount_0f7a4 : xv_M := (yJ6_bitCount_0f7a4, cJ6_bitCount_0f7a4, 1, some (.int), [])
abbrev mL_part : xv_M := (yL_part, cL_part, 4, some (.int), [])
abbrev mL_does : xv_M := (yL_does, cL_does, 8, some (.int), [(0, 362, 363, 86), (0, 362, 369, 88), (0, 362, 375, 90)])
abbrev mL_paged : xv_M := (yL_paged, cL_paged, 4, some (.int), [])
abbrev mL_cell : xv_M := (yL_cell, cL_cell, 4, some (.int), [])
abbrev mL_puts : xv_M := (yL_puts, cL_puts, 5, none, [])
abbrev mL_areCells : xv_M := (yL_areCells, cL_areCells, 15, some (.boolean), [])
abbrev mL_inColumns : xv_M := (yL_inColumns, cL_inColumns, 9, some (.boolean), [])
abbrev mL_count : xv_M := (yL_count, cL_count, 3, some (.int), [])
abbrev mL_isFar : xv_M := (yL_isFar, cL_isFar, 10, some (.boolean), [])
abbrev mL_placeFor : xv_M := (yL_placeFor, cL_placeFor, 17, some (.int), [])
abbrev mL_lines : xv_M := (yL_lines, cL_lines, 3, some (.int), [])
abbrev mL_isAdvert : xv_M := (yL_isAdvert, cL_isAdvert, 18, some (.boolean), [])
abbrev mL_isStory : xv_M := (yL_isStory, cL_isStory, 12, some (.boolean), [])
abbrev mL_laid : xv_M := (yL_laid, cL_laid, 4, some (.int), [])
abbrev mL_fitsIn : xv_M := (yL_fitsIn, cL_fitsIn, 14, some (.boolean), [])
abbrev mL_isSigned : xv_M := (yL_isSigned, cL_isSigned, 12, some (.boolean), [])
abbrev mL_isClosed : xv_M := (yL_isClosed, cL_isClosed, 17, some (.boolean), [])
abbrev mL_law : xv_M := (yL_law, cL_law, 22, some .boolean, [])
theorem inX0 : ∀ w ∈ u_ws RX0 TX0 8, w ∈ xv_tbl := List.forall_mem_cons.mpr ⟨(xv_tbl_mem 436 (by decide +kernel) rfl), List.forall_mem_cons.mpr ⟨(xv_tbl_mem 438 (by decide +kernel) rfl), List.forall_mem_cons.mpr ⟨(xv_tbl_mem 440 (by decide +kernel) rfl), List.forall_mem_cons.mpr ⟨(xv_tbl_mem 442 (by decide +kernel) rfl), List.forall_mem_cons.mpr ⟨(xv_tbl_mem 444 (by decide +kernel) rfl), List.forall_mem_cons.mpr ⟨(xv_tbl_mem 446 (by decide +kernel) rfl), List.forall_mem_cons.mpr ⟨(xv_tbl_mem 448 (by decide +kernel) rfl), List.forall_mem_cons.mpr ⟨(xv_tbl_mem 450 (by decide +kernel) rfl), fun _ h => absurd h List.not_mem_nil⟩⟩⟩⟩⟩⟩⟩⟩
theorem inX1 : ∀ w ∈ u_ws RX1 TX1 5, w ∈ xv_tbl := List.forall_mem_cons.mpr ⟨(xv_tbl_mem 126 (by decide +kernel) rfl), List.forall_mem_cons.mpr ⟨(xv_tbl_mem 128 (by decide +kernel) rfl), List.forall_mem_cons.mpr ⟨(xv_tbl_mem 130 (by decide +kernel) rfl), List.forall_mem_cons.mpr ⟨(xv_tbl_mem 132 (by decide +kernel) rfl), List.forall_mem_cons.mpr ⟨(xv_tbl_mem 134 (by decide +kernel) rfl), fun _ h => absurd h List.not_mem_nil⟩⟩⟩⟩⟩
theorem inX2 : ∀ w ∈ u_ws RX2 TX2 3, w ∈ xv_tbl := List.forall_mem_cons.mpr ⟨(xv_tbl_mem 160 (by decide +kernel) rfl), List.forall_mem_cons.mpr ⟨(xv_tbl_mem 162 (by decide +kernel) rfl), List.forall_mem_cons.mpr ⟨(xv_tbl_mem 164 (by decide +kernel) rfl), fun _ h => absurd h List.not_mem_nil⟩⟩⟩
theorem inX3 : ∀ w ∈ u_ws RX3 TX3 6, w ∈ xv_tbl := List.forall_mem_cons.mpr ⟨(xv_tbl_mem 99 (by decide +kernel) rfl), List.forall_mem_cons.mpr ⟨(xv_tbl_mem 101 (by decide +kernel) rfl), List.forall_mem_cons.mpr ⟨(xv_tbl_mem 103 (by decide +kernel) rfl), List.forall_mem_cons.mpr ⟨(xv_tbl_mem 105 (by decide +kernel) rfl), List.forall_mem_cons.mpr ⟨(xv_tbl_mem 107 (by decide +kernel) rfl), List.forall_mem_cons.mpr ⟨(xv_tbl_mem 109 (by decide +kernel) rfl), fun _ h => absurd h List.not_mem_nil⟩⟩⟩⟩⟩⟩
theorem inX4 : ∀ w ∈ u_ws RX4 TX4 4, w ∈ xv_tbl := List.forall_mem_cons.mpr ⟨(xv_tbl_mem 192 (by decide +kernel) rfl), List.forall_mem_cons.mpr ⟨(xv_tbl_mem 194 (by decide +kernel) rfl), List.forall_mem_cons.mpr ⟨(xv_tbl_mem 196 (by decide +kernel) rfl), List.forall_mem_cons.mpr ⟨(xv_tbl_mem 198 (by decide +kernel) rfl), fun _ h => absurd h List.not_mem_nil⟩⟩⟩⟩
theorem inX5 : ∀ w ∈ u_ws RX5 TX5 7, w ∈ xv_tbl := List.forall_mem_cons.mpr ⟨(xv_tbl_mem 43 (by decide +kernel) rfl), List.forall_mem_cons.mpr ⟨(xv_tbl_mem 45 (by decide +kernel) rfl), List.forall_mem_cons.mpr ⟨(xv_tbl_mem 47 (by decide +kernel) rfl), List.forall_mem_cons.mpr ⟨(xv_tbl_mem 49 (by decide +kernel) rfl), List.forall_mem_cons.mpr ⟨(xv_tbl_mem 51 (by decide +kernel) rfl), List.forall_mem_cons.mpr ⟨(xv_tbl_mem 53 (by decide +kernel) rfl), List.forall_mem_cons.mpr ⟨(xv_tbl_mem 55 (by decide +kernel) rfl), fun _ h => absurd h List.not_mem_nil⟩⟩⟩⟩⟩⟩⟩
theorem inX6 : ∀ w ∈ u_ws RX6 TX6 5, w ∈ xv_tbl := List.forall_mem_cons.mpr ⟨(xv_tbl_mem 566 (by decide +kernel) rfl), List.forall_mem_cons.mpr ⟨(xv_tbl_mem 568 (by decide +kernel) rfl), List.forall_mem_cons.mpr ⟨(xv_tbl_mem 570 (by decide +kernel) rfl), List.forall_mem_cons.mpr ⟨(xv_tbl_mem 572 (by decide +kernel) rfl), List.forall_mem_cons.mpr ⟨(xv_tbl_mem 574 (by decide +kernel) rfl), fun _ h => absurd h List.not_mem_nil⟩⟩⟩⟩⟩
theorem inX7 : ∀ w ∈ u_ws RX7 TX7 3, w ∈ xv_tbl := List.forall_mem_cons.mpr ⟨(xv_tbl_mem 145 (by decide +kernel) rfl), List.forall_mem_cons.mpr ⟨(xv_tbl_mem 147 (by decide +kernel) rfl), List.forall_mem_cons.mpr ⟨(xv_tbl_mem 149 (by decide +kernel) rfl), fun _ h => absurd h List.not_mem_nil⟩⟩⟩
theorem inX8 : ∀ w ∈ u_ws RX8 TX8 4, w ∈ xv_tbl := List.forall_mem_cons.mpr ⟨(xv_tbl_mem 83 (by decide +kernel) rfl), List.forall_mem_cons.mpr ⟨(xv_tbl_mem 85 (by decide +kernel) rfl), List.forall_mem_cons.mpr ⟨(xv_tbl_mem 87 (by decide +kernel) rfl), List.forall_mem_cons.mpr ⟨(xv_tbl_mem 89 (by decide +kernel) rfl), fun _ h => absurd h List.not_mem_nil⟩⟩⟩⟩
theorem inX9 : ∀ w ∈ u_ws RX9 TX9 3, w ∈ xv_tbl := List.forall_mem_cons.mpr ⟨(xv_tbl_mem 175 (by decide +kernel) rfl), List.forall_mem_cons.mpr ⟨(xv_tbl_mem 177 (by decide +kernel) rfl), List.forall_mem_cons.mpr ⟨(xv_tbl_mem 179 (by decide +kernel) rfl), fun _ h => absurd h List.not_mem_nil⟩⟩⟩
theorem inX10 : ∀ w ∈ u_ws RX10 TX10 14, w ∈ xv_tbl := List.forall_mem_cons.mpr ⟨(xv_tbl_mem 215 (by decide +kernel) rfl), List.forall_mem_cons.mpr ⟨(xv_tbl_mem 217 (by decide +kernel) rfl), List.forall_mem_cons.mpr ⟨(xv_tbl_mem 219 (by decide +kernel) rfl), List.forall_mem_cons.mpr ⟨(xv_tbl_mem 221 (by decide +kernel) rfl), List.forall_mem_cons.mpr ⟨(xv_tbl_mem 223 (by decide +kernel) rfl), List.forall_mem_cons.mpr ⟨(xv_tbl_mem 225 (by decide +kernel) rfl), List.forall_mem_cons.mpr ⟨(xv_tbl_mem 227 (by decide +kernel) rfl), List.forall_mem_cons.mpr ⟨(xv_tbl_mem 229 (by decide +kernel) rfl), List.forall_mem_cons.mpr ⟨(xv_tbl_mem 231 (by decide +kernel) rfl), List.forall_mem_cons.mpr ⟨(xv_tbl_mem 233 (by decide +kernel) rfl), List.forall_mem_cons.mpr ⟨(xv_tbl_mem 235 (by decide +kernel) rfl), List.forall_mem_cons.mpr ⟨(xv_tbl_mem 237 (by decide +kernel) rfl), List.forall_mem_cons.mpr ⟨(xv_tbl_mem 239 (by decide +kernel) rfl), List.forall_mem_cons.mpr ⟨(xv_tbl_mem 241 (by decide +kernel) rfl), fun _ h => absurd h List.not_mem_nil⟩⟩⟩⟩⟩⟩⟩⟩⟩⟩⟩⟩⟩⟩
theorem YX0_init : xv_Y mX0_init 6 := ⟨(xv_tbl_mem 416 (by decide +kernel) rfl), (xv_tbl_mem 16 (by decide +kernel) rfl), by decide +kernel, by decide +kernel, by decide +kernel, by decide⟩
theorem VX0_init : Cond.instanceMethod mX0_init.1 ∈ xv_tbl ∧ mX0_init.1.name = "<init>" ∧ mX0_init.2.2.2.1 = none := ⟨(xv_tbl_mem 415 (by decide +kernel) rfl), rfl, rfl⟩
theorem YX0_lowestPage : xv_Y mX0_lowestPage 0 := ⟨(xv_tbl_mem 470 (by decide +kernel) rfl), (xv_tbl_mem 16 (by decide +kernel) rfl), by decide +kernel, by decide +kernel, by decide +kernel, by decide⟩
theorem VX0_lowestPage : Cond.instanceMethod mX0_lowestPage.1 ∈ xv_tbl ∧ Cond.selects mX0_lowestPage.1.cls mX0_lowestPage.1 mX0_lowestPage.1 ∈ xv_tbl ∧ (vwCl[0]?.map fun q => q.1) = some mX0_lowestPage.1.cls := ⟨(xv_tbl_mem 468 (by decide +kernel) rfl), (xv_tbl_mem 469 (by decide +kernel) rfl), rfl⟩
theorem YX0_highestPage : xv_Y mX0_highestPage 0 := ⟨(xv_tbl_mem 474 (by decide +kernel) rfl), (xv_tbl_mem 16 (by decide +kernel) rfl), by decide +kernel, by decide +kernel, by decide +kernel, by decide⟩
theorem VX0_highestPage : Cond.instanceMethod mX0_highestPage.1 ∈ xv_tbl ∧ Cond.selects mX0_highestPage.1.cls mX0_highestPage.1 mX0_highestPage.1 ∈ xv_tbl ∧ (vwCl[0]?.map fun q => q.1) = some mX0_highestPage.1.cls := ⟨(xv_tbl_mem 472 (by decide +kernel) rfl), (xv_tbl_mem 473 (by decide +kernel) rfl), rfl⟩
theorem YX0_isPlaced : xv_Y mX0_isPlaced 0 := ⟨(xv_tbl_mem 465 (by decide +kernel) rfl), (xv_tbl_mem 16 (by decide +kernel) rfl), by decide +kernel, by decide +kernel, by decide +kernel, by decide⟩
theorem VX0_isPlaced : Cond.instanceMethod mX0_isPlaced.1 ∈ xv_tbl ∧ Cond.selects mX0_isPlaced.1.cls mX0_isPlaced.1 mX0_isPlaced.1 ∈ xv_tbl ∧ (vwCl[0]?.map fun q => q.1) = some mX0_isPlaced.1.cls := ⟨(xv_tbl_mem 463 (by decide +kernel) rfl), (xv_tbl_mem 464 (by decide +kernel) rfl), rfl⟩
theorem YX0_putAt : xv_Y mX0_putAt 2 := ⟨(xv_tbl_mem 508 (by decide +kernel) rfl), (xv_tbl_mem 16 (by decide +kernel) rfl), by decide +kernel, by decide +kernel, by decide +kernel, by decide⟩
theorem VX0_putAt : Cond.instanceMethod mX0_putAt.1 ∈ xv_tbl ∧ Cond.selects mX0_putAt.1.cls mX0_putAt.1 mX0_putAt.1 ∈ xv_tbl ∧ (vwCl[0]?.map fun q => q.1) = some mX0_putAt.1.cls := ⟨(xv_tbl_mem 506 (by decide +kernel) rfl), (xv_tbl_mem 507 (by decide +kernel) rfl), rfl⟩
theorem YX0_whereItIs : xv_Y mX0_whereItIs 0 := ⟨(xv_tbl_mem 523 (by decide +kernel) rfl), (xv_tbl_mem 16 (by decide +kernel) rfl), by decide +kernel, by decide +kernel, by decide +kernel, by decide⟩
theorem VX0_whereItIs : Cond.instanceMethod mX0_whereItIs.1 ∈ xv_tbl ∧ Cond.selects mX0_whereItIs.1.cls mX0_whereItIs.1 mX0_whereItIs.1 ∈ xv_tbl ∧ (vwCl[0]?.map fun q => q.1) = some mX0_whereItIs.1.cls := ⟨(xv_tbl_mem 521 (by decide +kernel) rfl), (xv_tbl_mem 522 (by decide +kernel) rfl), rfl⟩
theorem YX1_init : xv_Y mX1_init 0 := ⟨(xv_tbl_mem 116 (by decide +kernel) rfl), (xv_tbl_mem 5 (by decide +kernel) rfl), by decide +kernel, by decide +kernel, by decide +kernel, by decide⟩
theorem VX1_init : Cond.instanceMethod mX1_init.1 ∈ xv_tbl ∧ mX1_init.1.name = "<init>" ∧ mX1_init.2.2.2.1 = none := ⟨(xv_tbl_mem 115 (by decide +kernel) rfl), rfl, rfl⟩
theorem YX1_keep : xv_Y mX1_keep 2 := ⟨(xv_tbl_mem 762 (by decide +kernel) rfl), (xv_tbl_mem 5 (by decide +kernel) rfl), by decide +kernel, by decide +kernel, by decide +kernel, by decide⟩
theorem VX1_keep : Cond.instanceMethod mX1_keep.1 ∈ xv_tbl ∧ Cond.selects mX1_keep.1.cls mX1_keep.1 mX1_keep.1 ∈ xv_tbl ∧ (vwCl[1]?.map fun q => q.1) = some mX1_keep.1.cls := ⟨(xv_tbl_mem 760 (by decide +kernel) rfl), (xv_tbl_mem 761 (by decide +kernel) rfl), rfl⟩
theorem YX1_isKept : xv_Y mX1_isKept 1 := ⟨(xv_tbl_mem 780 (by decide +kernel) rfl), (xv_tbl_mem 5 (by decide +kernel) rfl), by decide +kernel, by decide +kernel, by decide +kernel, by decide⟩
theorem VX1_isKept : Cond.instanceMethod mX1_isKept.1 ∈ xv_tbl ∧ Cond.selects mX1_isKept.1.cls mX1_isKept.1 mX1_isKept.1 ∈ xv_tbl ∧ (vwCl[1]?.map fun q => q.1) = some mX1_isKept.1.cls := ⟨(xv_tbl_mem 779 (by decide +kernel) rfl), (xv_tbl_sel 15 (by decide +kernel) rfl), rfl⟩
theorem YX1_at : xv_Y mX1_at 3 := ⟨(xv_tbl_mem 776 (by decide +kernel) rfl), (xv_tbl_mem 5 (by decide +kernel) rfl), by decide +kernel, by decide +kernel, by decide +kernel, by decide⟩
theorem VX1_at : Cond.instanceMethod mX1_at.1 ∈ xv_tbl ∧ Cond.selects mX1_at.1.cls mX1_at.1 mX1_at.1 ∈ xv_tbl ∧ (vwCl[1]?.map fun q => q.1) = some mX1_at.1.cls := ⟨(xv_tbl_mem 774 (by decide +kernel) rfl), (xv_tbl_mem 775 (by decide +kernel) rfl), rfl⟩
theorem YX1_has : xv_Y mX1_has 2 := ⟨(xv_tbl_mem 790 (by decide +kernel) rfl), (xv_tbl_mem 5 (by decide +kernel) rfl), by decide +kernel, by decide +kernel, by decide +kernel, by decide⟩
theorem VX1_has : Cond.instanceMethod mX1_has.1 ∈ xv_tbl ∧ Cond.selects mX1_has.1.cls mX1_has.1 mX1_has.1 ∈ xv_tbl ∧ (vwCl[1]?.map fun q => q.1) = some mX1_has.1.cls := ⟨(xv_tbl_mem 788 (by decide +kernel) rfl), (xv_tbl_mem 789 (by decide +kernel) rfl), rfl⟩
theorem YX1_owes : xv_Y mX1_owes 1 := ⟨(xv_tbl_mem 795 (by decide +kernel) rfl), (xv_tbl_mem 5 (by decide +kernel) rfl), by decide +kernel, by decide +kernel, by decide +kernel, by decide⟩
theorem VX1_owes : Cond.instanceMethod mX1_owes.1 ∈ xv_tbl ∧ Cond.selects mX1_owes.1.cls mX1_owes.1 mX1_owes.1 ∈ xv_tbl ∧ (vwCl[1]?.map fun q => q.1) = some mX1_owes.1.cls := ⟨(xv_tbl_mem 793 (by decide +kernel) rfl), (xv_tbl_mem 794 (by decide +kernel) rfl), rfl⟩
theorem YX1_addOwed : xv_Y mX1_addOwed 1 := ⟨(xv_tbl_mem 800 (by decide +kernel) rfl), (xv_tbl_mem 5 (by decide +kernel) rfl), by decide +kernel, by decide +kernel, by decide +kernel, by decide⟩
theorem VX1_addOwed : Cond.instanceMethod mX1_addOwed.1 ∈ xv_tbl ∧ Cond.selects mX1_addOwed.1.cls mX1_addOwed.1 mX1_addOwed.1 ∈ xv_tbl ∧ (vwCl[1]?.map fun q => q.1) = some mX1_addOwed.1.cls := ⟨(xv_tbl_mem 798 (by decide +kernel) rfl), (xv_tbl_mem 799 (by decide +kernel) rfl), rfl⟩
theorem YX1_longestOwed : xv_Y mX1_longestOwed 0 := ⟨(xv_tbl_mem 809 (by decide +kernel) rfl), (xv_tbl_mem 5 (by decide +kernel) rfl), by decide +kernel, by decide +kernel, by decide +kernel, by decide⟩
theorem VX1_longestOwed : Cond.instanceMethod mX1_longestOwed.1 ∈ xv_tbl ∧ Cond.selects mX1_longestOwed.1.cls mX1_longestOwed.1 mX1_longestOwed.1 ∈ xv_tbl ∧ (vwCl[1]?.map fun q => q.1) = some mX1_longestOwed.1.cls := ⟨(xv_tbl_mem 807 (by decide +kernel) rfl), (xv_tbl_mem 808 (by decide +kernel) rfl), rfl⟩
theorem YX1_dropLongestOwed : xv_Y mX1_dropLongestOwed 0 := ⟨(xv_tbl_mem 817 (by decide +kernel) rfl), (xv_tbl_mem 5 (by decide +kernel) rfl), by decide +kernel, by decide +kernel, by decide +kernel, by decide⟩
theorem VX1_dropLongestOwed : Cond.instanceMethod mX1_dropLongestOwed.1 ∈ xv_tbl ∧ Cond.selects mX1_dropLongestOwed.1.cls mX1_dropLongestOwed.1 mX1_dropLongestOwed.1 ∈ xv_tbl ∧ (vwCl[1]?.map fun q => q.1) = some mX1_dropLongestOwed.1.cls := ⟨(xv_tbl_mem 815 (by decide +kernel) rfl), (xv_tbl_mem 816 (by decide +kernel) rfl), rfl⟩
theorem YX2_init : xv_Y mX2_init 0 := ⟨(xv_tbl_mem 156 (by decide +kernel) rfl), (xv_tbl_mem 7 (by decide +kernel) rfl), by decide +kernel, by decide +kernel, by decide +kernel, by decide⟩
theorem VX2_init : Cond.instanceMethod mX2_init.1 ∈ xv_tbl ∧ mX2_init.1.name = "<init>" ∧ mX2_init.2.2.2.1 = none := ⟨(xv_tbl_mem 155 (by decide +kernel) rfl), rfl, rfl⟩
theorem YX3_init : xv_Y mX3_init 1 := ⟨(xv_tbl_mem 68 (by decide +kernel) rfl), (xv_tbl_mem 3 (by decide +kernel) rfl), by decide +kernel, by decide +kernel, by decide +kernel, by decide⟩
theorem VX3_init : Cond.instanceMethod mX3_init.1 ∈ xv_tbl ∧ mX3_init.1.name = "<init>" ∧ mX3_init.2.2.2.1 = none := ⟨(xv_tbl_mem 67 (by decide +kernel) rfl), rfl, rfl⟩
theorem YX3_find : xv_Y mX3_find 3 := ⟨(xv_tbl_mem 598 (by decide +kernel) rfl), (xv_tbl_mem 3 (by decide +kernel) rfl), by decide +kernel, by decide +kernel, by decide +kernel, by decide⟩
theorem VX3_find : Cond.instanceMethod mX3_find.1 ∈ xv_tbl ∧ Cond.selects mX3_find.1.cls mX3_find.1 mX3_find.1 ∈ xv_tbl ∧ (vwCl[3]?.map fun q => q.1) = some mX3_find.1.cls := ⟨(xv_tbl_mem 596 (by decide +kernel) rfl), (xv_tbl_mem 597 (by decide +kernel) rfl), rfl⟩
theorem YX3_tryOnePage : xv_Y mX3_tryOnePage 2 := ⟨(xv_tbl_mem 610 (by decide +kernel) rfl), (xv_tbl_mem 3 (by decide +kernel) rfl), by decide +kernel, by decide +kernel, by decide +kernel, by decide⟩
theorem VX3_tryOnePage : Cond.instanceMethod mX3_tryOnePage.1 ∈ xv_tbl ∧ Cond.selects mX3_tryOnePage.1.cls mX3_tryOnePage.1 mX3_tryOnePage.1 ∈ xv_tbl ∧ (vwCl[3]?.map fun q => q.1) = some mX3_tryOnePage.1.cls := ⟨(xv_tbl_mem 609 (by decide +kernel) rfl), (xv_tbl_sel 8 (by decide +kernel) rfl), rfl⟩
theorem YX3_tryTwoPages : xv_Y mX3_tryTwoPages 2 := ⟨(xv_tbl_mem 666 (by decide +kernel) rfl), (xv_tbl_mem 3 (by decide +kernel) rfl), by decide +kernel, by decide +kernel, by decide +kernel, by decide⟩
theorem VX3_tryTwoPages : Cond.instanceMethod mX3_tryTwoPages.1 ∈ xv_tbl ∧ Cond.selects mX3_tryTwoPages.1.cls mX3_tryTwoPages.1 mX3_tryTwoPages.1 ∈ xv_tbl ∧ (vwCl[3]?.map fun q => q.1) = some mX3_tryTwoPages.1.cls := ⟨(xv_tbl_mem 665 (by decide +kernel) rfl), (xv_tbl_sel 12 (by decide +kernel) rfl), rfl⟩
theorem YX3_setRun : xv_Y mX3_setRun 4 := ⟨(xv_tbl_mem 622 (by decide +kernel) rfl), (xv_tbl_mem 3 (by decide +kernel) rfl), by decide +kernel, by decide +kernel, by decide +kernel, by decide⟩
theorem VX3_setRun : Cond.instanceMethod mX3_setRun.1 ∈ xv_tbl ∧ Cond.selects mX3_setRun.1.cls mX3_setRun.1 mX3_setRun.1 ∈ xv_tbl ∧ (vwCl[3]?.map fun q => q.1) = some mX3_setRun.1.cls := ⟨(xv_tbl_mem 621 (by decide +kernel) rfl), (xv_tbl_sel 10 (by decide +kernel) rfl), rfl⟩
theorem YX3_keepIfCheaper : xv_Y mX3_keepIfCheaper 0 := ⟨(xv_tbl_mem 635 (by decide +kernel) rfl), (xv_tbl_mem 3 (by decide +kernel) rfl), by decide +kernel, by decide +kernel, by decide +kernel, by decide⟩
theorem VX3_keepIfCheaper : Cond.instanceMethod mX3_keepIfCheaper.1 ∈ xv_tbl ∧ Cond.selects mX3_keepIfCheaper.1.cls mX3_keepIfCheaper.1 mX3_keepIfCheaper.1 ∈ xv_tbl ∧ (vwCl[3]?.map fun q => q.1) = some mX3_keepIfCheaper.1.cls := ⟨(xv_tbl_mem 634 (by decide +kernel) rfl), (xv_tbl_sel 11 (by decide +kernel) rfl), rfl⟩
theorem YX4_init : xv_Y mX4_init 0 := ⟨(xv_tbl_mem 186 (by decide +kernel) rfl), (xv_tbl_mem 9 (by decide +kernel) rfl), by decide +kernel, by decide +kernel, by decide +kernel, by decide⟩
theorem VX4_init : Cond.instanceMethod mX4_init.1 ∈ xv_tbl ∧ mX4_init.1.name = "<init>" ∧ mX4_init.2.2.2.1 = none := ⟨(xv_tbl_mem 185 (by decide +kernel) rfl), rfl, rfl⟩
theorem YX5_init : xv_Y mX5_init 0 := ⟨(xv_tbl_mem 31 (by decide +kernel) rfl), (xv_tbl_mem 2 (by decide +kernel) rfl), by decide +kernel, by decide +kernel, by decide +kernel, by decide⟩
theorem VX5_init : Cond.instanceMethod mX5_init.1 ∈ xv_tbl ∧ mX5_init.1.name = "<init>" ∧ mX5_init.2.2.2.1 = none := ⟨(xv_tbl_mem 30 (by decide +kernel) rfl), rfl, rfl⟩
theorem YX5_setKind : xv_Y mX5_setKind 3 := ⟨(xv_tbl_mem 389 (by decide +kernel) rfl), (xv_tbl_mem 2 (by decide +kernel) rfl), by decide +kernel, by decide +kernel, by decide +kernel, by decide⟩
theorem VX5_setKind : Cond.instanceMethod mX5_setKind.1 ∈ xv_tbl ∧ Cond.selects mX5_setKind.1.cls mX5_setKind.1 mX5_setKind.1 ∈ xv_tbl ∧ (vwCl[5]?.map fun q => q.1) = some mX5_setKind.1.cls := ⟨(xv_tbl_mem 387 (by decide +kernel) rfl), (xv_tbl_mem 388 (by decide +kernel) rfl), rfl⟩
theorem YX5_sectionOf : xv_Y mX5_sectionOf 1 := ⟨(xv_tbl_mem 482 (by decide +kernel) rfl), (xv_tbl_mem 2 (by decide +kernel) rfl), by decide +kernel, by decide +kernel, by decide +kernel, by decide⟩
theorem VX5_sectionOf : Cond.instanceMethod mX5_sectionOf.1 ∈ xv_tbl ∧ Cond.selects mX5_sectionOf.1.cls mX5_sectionOf.1 mX5_sectionOf.1 ∈ xv_tbl ∧ (vwCl[5]?.map fun q => q.1) = some mX5_sectionOf.1.cls := ⟨(xv_tbl_mem 480 (by decide +kernel) rfl), (xv_tbl_mem 481 (by decide +kernel) rfl), rfl⟩
theorem YX5_hasColour : xv_Y mX5_hasColour 1 := ⟨(xv_tbl_mem 486 (by decide +kernel) rfl), (xv_tbl_mem 2 (by decide +kernel) rfl), by decide +kernel, by decide +kernel, by decide +kernel, by decide⟩
theorem VX5_hasColour : Cond.instanceMethod mX5_hasColour.1 ∈ xv_tbl ∧ Cond.selects mX5_hasColour.1.cls mX5_hasColour.1 mX5_hasColour.1 ∈ xv_tbl ∧ (vwCl[5]?.map fun q => q.1) = some mX5_hasColour.1.cls := ⟨(xv_tbl_mem 484 (by decide +kernel) rfl), (xv_tbl_mem 485 (by decide +kernel) rfl), rfl⟩
theorem YX5_at : xv_Y mX5_at 2 := ⟨(xv_tbl_mem 365 (by decide +kernel) rfl), (xv_tbl_mem 2 (by decide +kernel) rfl), by decide +kernel, by decide +kernel, by decide +kernel, by decide⟩
theorem VX5_at : Cond.instanceMethod mX5_at.1 ∈ xv_tbl ∧ Cond.selects mX5_at.1.cls mX5_at.1 mX5_at.1 ∈ xv_tbl ∧ (vwCl[5]?.map fun q => q.1) = some mX5_at.1.cls := ⟨(xv_tbl_mem 363 (by decide +kernel) rfl), (xv_tbl_mem 364 (by decide +kernel) rfl), rfl⟩
theorem YX5_put : xv_Y mX5_put 3 := ⟨(xv_tbl_mem 516 (by decide +kernel) rfl), (xv_tbl_mem 2 (by decide +kernel) rfl), by decide +kernel, by decide +kernel, by decide +kernel, by decide⟩
theorem VX5_put : Cond.instanceMethod mX5_put.1 ∈ xv_tbl ∧ Cond.selects mX5_put.1.cls mX5_put.1 mX5_put.1 ∈ xv_tbl ∧ (vwCl[5]?.map fun q => q.1) = some mX5_put.1.cls := ⟨(xv_tbl_mem 514 (by decide +kernel) rfl), (xv_tbl_mem 515 (by decide +kernel) rfl), rfl⟩
theorem YX5_isBare : xv_Y mX5_isBare 1 := ⟨(xv_tbl_mem 361 (by decide +kernel) rfl), (xv_tbl_mem 2 (by decide +kernel) rfl), by decide +kernel, by decide +kernel, by decide +kernel, by decide⟩
theorem VX5_isBare : Cond.instanceMethod mX5_isBare.1 ∈ xv_tbl ∧ Cond.selects mX5_isBare.1.cls mX5_isBare.1 mX5_isBare.1 ∈ xv_tbl ∧ (vwCl[5]?.map fun q => q.1) = some mX5_isBare.1.cls := ⟨(xv_tbl_mem 359 (by decide +kernel) rfl), (xv_tbl_mem 360 (by decide +kernel) rfl), rfl⟩
theorem YX5_lowestFree : xv_Y mX5_lowestFree 1 := ⟨(xv_tbl_mem 813 (by decide +kernel) rfl), (xv_tbl_mem 2 (by decide +kernel) rfl), by decide +kernel, by decide +kernel, by decide +kernel, by decide⟩
theorem VX5_lowestFree : Cond.instanceMethod mX5_lowestFree.1 ∈ xv_tbl ∧ Cond.selects mX5_lowestFree.1.cls mX5_lowestFree.1 mX5_lowestFree.1 ∈ xv_tbl ∧ (vwCl[5]?.map fun q => q.1) = some mX5_lowestFree.1.cls := ⟨(xv_tbl_mem 811 (by decide +kernel) rfl), (xv_tbl_mem 812 (by decide +kernel) rfl), rfl⟩
theorem YX5_freeAllOf : xv_Y mX5_freeAllOf 1 := ⟨(xv_tbl_mem 532 (by decide +kernel) rfl), (xv_tbl_mem 2 (by decide +kernel) rfl), by decide +kernel, by decide +kernel, by decide +kernel, by decide⟩
theorem VX5_freeAllOf : Cond.instanceMethod mX5_freeAllOf.1 ∈ xv_tbl ∧ Cond.selects mX5_freeAllOf.1.cls mX5_freeAllOf.1 mX5_freeAllOf.1 ∈ xv_tbl ∧ (vwCl[5]?.map fun q => q.1) = some mX5_freeAllOf.1.cls := ⟨(xv_tbl_mem 530 (by decide +kernel) rfl), (xv_tbl_mem 531 (by decide +kernel) rfl), rfl⟩
theorem YX5_platesOf : xv_Y mX5_platesOf 1 := ⟨(xv_tbl_mem 691 (by decide +kernel) rfl), (xv_tbl_mem 2 (by decide +kernel) rfl), by decide +kernel, by decide +kernel, by decide +kernel, by decide⟩
theorem VX5_platesOf : Cond.instanceMethod mX5_platesOf.1 ∈ xv_tbl ∧ Cond.selects mX5_platesOf.1.cls mX5_platesOf.1 mX5_platesOf.1 ∈ xv_tbl ∧ (vwCl[5]?.map fun q => q.1) = some mX5_platesOf.1.cls := ⟨(xv_tbl_mem 689 (by decide +kernel) rfl), (xv_tbl_mem 690 (by decide +kernel) rfl), rfl⟩
theorem YX5_freeRectangle : xv_Y mX5_freeRectangle 3 := ⟨(xv_tbl_mem 500 (by decide +kernel) rfl), (xv_tbl_mem 2 (by decide +kernel) rfl), by decide +kernel, by decide +kernel, by decide +kernel, by decide⟩
theorem VX5_freeRectangle : Cond.instanceMethod mX5_freeRectangle.1 ∈ xv_tbl ∧ Cond.selects mX5_freeRectangle.1.cls mX5_freeRectangle.1 mX5_freeRectangle.1 ∈ xv_tbl ∧ (vwCl[5]?.map fun q => q.1) = some mX5_freeRectangle.1.cls := ⟨(xv_tbl_mem 498 (by decide +kernel) rfl), (xv_tbl_mem 499 (by decide +kernel) rfl), rfl⟩
theorem YX5_isFreeRectangle : xv_Y mX5_isFreeRectangle 4 := ⟨(xv_tbl_mem 504 (by decide +kernel) rfl), (xv_tbl_mem 2 (by decide +kernel) rfl), by decide +kernel, by decide +kernel, by decide +kernel, by decide⟩
theorem VX5_isFreeRectangle : Cond.instanceMethod mX5_isFreeRectangle.1 ∈ xv_tbl ∧ Cond.selects mX5_isFreeRectangle.1.cls mX5_isFreeRectangle.1 mX5_isFreeRectangle.1 ∈ xv_tbl ∧ (vwCl[5]?.map fun q => q.1) = some mX5_isFreeRectangle.1.cls := ⟨(xv_tbl_mem 503 (by decide +kernel) rfl), (xv_tbl_sel 5 (by decide +kernel) rfl), rfl⟩
theorem YX5_fillRectangle : xv_Y mX5_fillRectangle 2 := ⟨(xv_tbl_mem 512 (by decide +kernel) rfl), (xv_tbl_mem 2 (by decide +kernel) rfl), by decide +kernel, by decide +kernel, by decide +kernel, by decide⟩
theorem VX5_fillRectangle : Cond.instanceMethod mX5_fillRectangle.1 ∈ xv_tbl ∧ Cond.selects mX5_fillRectangle.1.cls mX5_fillRectangle.1 mX5_fillRectangle.1 ∈ xv_tbl ∧ (vwCl[5]?.map fun q => q.1) = some mX5_fillRectangle.1.cls := ⟨(xv_tbl_mem 510 (by decide +kernel) rfl), (xv_tbl_mem 511 (by decide +kernel) rfl), rfl⟩
theorem YX5_freeRun : xv_Y mX5_freeRun 3 := ⟨(xv_tbl_mem 627 (by decide +kernel) rfl), (xv_tbl_mem 2 (by decide +kernel) rfl), by decide +kernel, by decide +kernel, by decide +kernel, by decide⟩
theorem VX5_freeRun : Cond.instanceMethod mX5_freeRun.1 ∈ xv_tbl ∧ Cond.selects mX5_freeRun.1.cls mX5_freeRun.1 mX5_freeRun.1 ∈ xv_tbl ∧ (vwCl[5]?.map fun q => q.1) = some mX5_freeRun.1.cls := ⟨(xv_tbl_mem 625 (by decide +kernel) rfl), (xv_tbl_mem 626 (by decide +kernel) rfl), rfl⟩
theorem YX5_isThere : xv_Y mX5_isThere 1 := ⟨(xv_tbl_mem 708 (by decide +kernel) rfl), (xv_tbl_mem 2 (by decide +kernel) rfl), by decide +kernel, by decide +kernel, by decide +kernel, by decide⟩
theorem VX5_isThere : Cond.instanceMethod mX5_isThere.1 ∈ xv_tbl ∧ Cond.selects mX5_isThere.1.cls mX5_isThere.1 mX5_isThere.1 ∈ xv_tbl ∧ (vwCl[5]?.map fun q => q.1) = some mX5_isThere.1.cls := ⟨(xv_tbl_mem 706 (by decide +kernel) rfl), (xv_tbl_mem 707 (by decide +kernel) rfl), rfl⟩
theorem YX5_letLeave : xv_Y mX5_letLeave 1 := ⟨(xv_tbl_mem 712 (by decide +kernel) rfl), (xv_tbl_mem 2 (by decide +kernel) rfl), by decide +kernel, by decide +kernel, by decide +kernel, by decide⟩
theorem VX5_letLeave : Cond.instanceMethod mX5_letLeave.1 ∈ xv_tbl ∧ Cond.selects mX5_letLeave.1.cls mX5_letLeave.1 mX5_letLeave.1 ∈ xv_tbl ∧ (vwCl[5]?.map fun q => q.1) = some mX5_letLeave.1.cls := ⟨(xv_tbl_mem 710 (by decide +kernel) rfl), (xv_tbl_mem 711 (by decide +kernel) rfl), rfl⟩
theorem YX5_letComeBack : xv_Y mX5_letComeBack 1 := ⟨(xv_tbl_mem 716 (by decide +kernel) rfl), (xv_tbl_mem 2 (by decide +kernel) rfl), by decide +kernel, by decide +kernel, by decide +kernel, by decide⟩
theorem VX5_letComeBack : Cond.instanceMethod mX5_letComeBack.1 ∈ xv_tbl ∧ Cond.selects mX5_letComeBack.1.cls mX5_letComeBack.1 mX5_letComeBack.1 ∈ xv_tbl ∧ (vwCl[5]?.map fun q => q.1) = some mX5_letComeBack.1.cls := ⟨(xv_tbl_mem 714 (by decide +kernel) rfl), (xv_tbl_mem 715 (by decide +kernel) rfl), rfl⟩
theorem YX5_hasSigned : xv_Y mX5_hasSigned 2 := ⟨(xv_tbl_mem 724 (by decide +kernel) rfl), (xv_tbl_mem 2 (by decide +kernel) rfl), by decide +kernel, by decide +kernel, by decide +kernel, by decide⟩
theorem VX5_hasSigned : Cond.instanceMethod mX5_hasSigned.1 ∈ xv_tbl ∧ Cond.selects mX5_hasSigned.1.cls mX5_hasSigned.1 mX5_hasSigned.1 ∈ xv_tbl ∧ (vwCl[5]?.map fun q => q.1) = some mX5_hasSigned.1.cls := ⟨(xv_tbl_mem 722 (by decide +kernel) rfl), (xv_tbl_mem 723 (by decide +kernel) rfl), rfl⟩
theorem YX5_addSignature : xv_Y mX5_addSignature 2 := ⟨(xv_tbl_mem 729 (by decide +kernel) rfl), (xv_tbl_mem 2 (by decide +kernel) rfl), by decide +kernel, by decide +kernel, by decide +kernel, by decide⟩
theorem VX5_addSignature : Cond.instanceMethod mX5_addSignature.1 ∈ xv_tbl ∧ Cond.selects mX5_addSignature.1.cls mX5_addSignature.1 mX5_addSignature.1 ∈ xv_tbl ∧ (vwCl[5]?.map fun q => q.1) = some mX5_addSignature.1.cls := ⟨(xv_tbl_mem 727 (by decide +kernel) rfl), (xv_tbl_mem 728 (by decide +kernel) rfl), rfl⟩
theorem YX5_turnHold : xv_Y mX5_turnHold 2 := ⟨(xv_tbl_mem 739 (by decide +kernel) rfl), (xv_tbl_mem 2 (by decide +kernel) rfl), by decide +kernel, by decide +kernel, by decide +kernel, by decide⟩
theorem VX5_turnHold : Cond.instanceMethod mX5_turnHold.1 ∈ xv_tbl ∧ Cond.selects mX5_turnHold.1.cls mX5_turnHold.1 mX5_turnHold.1 ∈ xv_tbl ∧ (vwCl[5]?.map fun q => q.1) = some mX5_turnHold.1.cls := ⟨(xv_tbl_mem 737 (by decide +kernel) rfl), (xv_tbl_mem 738 (by decide +kernel) rfl), rfl⟩
theorem YX5_canGo : xv_Y mX5_canGo 1 := ⟨(xv_tbl_mem 747 (by decide +kernel) rfl), (xv_tbl_mem 2 (by decide +kernel) rfl), by decide +kernel, by decide +kernel, by decide +kernel, by decide⟩
theorem VX5_canGo : Cond.instanceMethod mX5_canGo.1 ∈ xv_tbl ∧ Cond.selects mX5_canGo.1.cls mX5_canGo.1 mX5_canGo.1 ∈ xv_tbl ∧ (vwCl[5]?.map fun q => q.1) = some mX5_canGo.1.cls := ⟨(xv_tbl_mem 745 (by decide +kernel) rfl), (xv_tbl_mem 746 (by decide +kernel) rfl), rfl⟩
theorem YX5_canAllGo : xv_Y mX5_canAllGo 0 := ⟨(xv_tbl_mem 756 (by decide +kernel) rfl), (xv_tbl_mem 2 (by decide +kernel) rfl), by decide +kernel, by decide +kernel, by decide +kernel, by decide⟩
theorem VX5_canAllGo : Cond.instanceMethod mX5_canAllGo.1 ∈ xv_tbl ∧ Cond.selects mX5_canAllGo.1.cls mX5_canAllGo.1 mX5_canAllGo.1 ∈ xv_tbl ∧ (vwCl[5]?.map fun q => q.1) = some mX5_canAllGo.1.cls := ⟨(xv_tbl_mem 754 (by decide +kernel) rfl), (xv_tbl_mem 755 (by decide +kernel) rfl), rfl⟩
theorem YX6_init : xv_Y mX6_init 4 := ⟨(xv_tbl_mem 552 (by decide +kernel) rfl), (xv_tbl_mem 17 (by decide +kernel) rfl), by decide +kernel, by decide +kernel, by decide +kernel, by decide⟩
theorem VX6_init : Cond.instanceMethod mX6_init.1 ∈ xv_tbl ∧ mX6_init.1.name = "<init>" ∧ mX6_init.2.2.2.1 = none := ⟨(xv_tbl_mem 551 (by decide +kernel) rfl), rfl, rfl⟩
theorem YX6_isLaid : xv_Y mX6_isLaid 0 := ⟨(xv_tbl_mem 593 (by decide +kernel) rfl), (xv_tbl_mem 17 (by decide +kernel) rfl), by decide +kernel, by decide +kernel, by decide +kernel, by decide⟩
theorem VX6_isLaid : Cond.instanceMethod mX6_isLaid.1 ∈ xv_tbl ∧ Cond.selects mX6_isLaid.1.cls mX6_isLaid.1 mX6_isLaid.1 ∈ xv_tbl ∧ (vwCl[6]?.map fun q => q.1) = some mX6_isLaid.1.cls := ⟨(xv_tbl_mem 591 (by decide +kernel) rfl), (xv_tbl_mem 592 (by decide +kernel) rfl), rfl⟩
theorem YX6_linesOfFirst : xv_Y mX6_linesOfFirst 1 := ⟨(xv_tbl_mem 618 (by decide +kernel) rfl), (xv_tbl_mem 17 (by decide +kernel) rfl), by decide +kernel, by decide +kernel, by decide +kernel, by decide⟩
theorem VX6_linesOfFirst : Cond.instanceMethod mX6_linesOfFirst.1 ∈ xv_tbl ∧ Cond.selects mX6_linesOfFirst.1.cls mX6_linesOfFirst.1 mX6_linesOfFirst.1 ∈ xv_tbl ∧ (vwCl[6]?.map fun q => q.1) = some mX6_linesOfFirst.1.cls := ⟨(xv_tbl_mem 617 (by decide +kernel) rfl), (xv_tbl_sel 9 (by decide +kernel) rfl), rfl⟩
theorem YX6_cellsFor : xv_Y mX6_cellsFor 2 := ⟨(xv_tbl_mem 614 (by decide +kernel) rfl), (xv_tbl_mem 17 (by decide +kernel) rfl), by decide +kernel, by decide +kernel, by decide +kernel, by decide⟩
theorem VX6_cellsFor : Cond.instanceMethod mX6_cellsFor.1 ∈ xv_tbl ∧ Cond.selects mX6_cellsFor.1.cls mX6_cellsFor.1 mX6_cellsFor.1 ∈ xv_tbl ∧ (vwCl[6]?.map fun q => q.1) = some mX6_cellsFor.1.cls := ⟨(xv_tbl_mem 612 (by decide +kernel) rfl), (xv_tbl_mem 613 (by decide +kernel) rfl), rfl⟩
theorem YX7_init : xv_Y mX7_init 0 := ⟨(xv_tbl_mem 141 (by decide +kernel) rfl), (xv_tbl_mem 6 (by decide +kernel) rfl), by decide +kernel, by decide +kernel, by decide +kernel, by decide⟩
theorem VX7_init : Cond.instanceMethod mX7_init.1 ∈ xv_tbl ∧ mX7_init.1.name = "<init>" ∧ mX7_init.2.2.2.1 = none := ⟨(xv_tbl_mem 140 (by decide +kernel) rfl), rfl, rfl⟩
theorem YX8_init : xv_Y mX8_init 0 := ⟨(xv_tbl_mem 74 (by decide +kernel) rfl), (xv_tbl_mem 4 (by decide +kernel) rfl), by decide +kernel, by decide +kernel, by decide +kernel, by decide⟩
theorem VX8_init : Cond.instanceMethod mX8_init.1 ∈ xv_tbl ∧ mX8_init.1.name = "<init>" ∧ mX8_init.2.2.2.1 = none := ⟨(xv_tbl_mem 73 (by decide +kernel) rfl), rfl, rfl⟩
theorem YX8_clear : xv_Y mX8_clear 0 := ⟨(xv_tbl_mem 602 (by decide +kernel) rfl), (xv_tbl_mem 4 (by decide +kernel) rfl), by decide +kernel, by decide +kernel, by decide +kernel, by decide⟩
theorem VX8_clear : Cond.instanceMethod mX8_clear.1 ∈ xv_tbl ∧ Cond.selects mX8_clear.1.cls mX8_clear.1 mX8_clear.1 ∈ xv_tbl ∧ (vwCl[8]?.map fun q => q.1) = some mX8_clear.1.cls := ⟨(xv_tbl_mem 600 (by decide +kernel) rfl), (xv_tbl_mem 601 (by decide +kernel) rfl), rfl⟩
theorem YX8_setPart : xv_Y mX8_setPart 4 := ⟨(xv_tbl_mem 606 (by decide +kernel) rfl), (xv_tbl_mem 4 (by decide +kernel) rfl), by decide +kernel, by decide +kernel, by decide +kernel, by decide⟩
theorem VX8_setPart : Cond.instanceMethod mX8_setPart.1 ∈ xv_tbl ∧ Cond.selects mX8_setPart.1.cls mX8_setPart.1 mX8_setPart.1 ∈ xv_tbl ∧ (vwCl[8]?.map fun q => q.1) = some mX8_setPart.1.cls := ⟨(xv_tbl_mem 604 (by decide +kernel) rfl), (xv_tbl_mem 605 (by decide +kernel) rfl), rfl⟩
theorem YX8_copy : xv_Y mX8_copy 1 := ⟨(xv_tbl_mem 650 (by decide +kernel) rfl), (xv_tbl_mem 4 (by decide +kernel) rfl), by decide +kernel, by decide +kernel, by decide +kernel, by decide⟩
theorem VX8_copy : Cond.instanceMethod mX8_copy.1 ∈ xv_tbl ∧ Cond.selects mX8_copy.1.cls mX8_copy.1 mX8_copy.1 ∈ xv_tbl ∧ (vwCl[8]?.map fun q => q.1) = some mX8_copy.1.cls := ⟨(xv_tbl_mem 648 (by decide +kernel) rfl), (xv_tbl_mem 649 (by decide +kernel) rfl), rfl⟩
theorem YX8_pageOf : xv_Y mX8_pageOf 1 := ⟨(xv_tbl_mem 654 (by decide +kernel) rfl), (xv_tbl_mem 4 (by decide +kernel) rfl), by decide +kernel, by decide +kernel, by decide +kernel, by decide⟩
theorem VX8_pageOf : Cond.instanceMethod mX8_pageOf.1 ∈ xv_tbl ∧ Cond.selects mX8_pageOf.1.cls mX8_pageOf.1 mX8_pageOf.1 ∈ xv_tbl ∧ (vwCl[8]?.map fun q => q.1) = some mX8_pageOf.1.cls := ⟨(xv_tbl_mem 652 (by decide +kernel) rfl), (xv_tbl_mem 653 (by decide +kernel) rfl), rfl⟩
theorem YX8_start : xv_Y mX8_start 1 := ⟨(xv_tbl_mem 658 (by decide +kernel) rfl), (xv_tbl_mem 4 (by decide +kernel) rfl), by decide +kernel, by decide +kernel, by decide +kernel, by decide⟩
theorem VX8_start : Cond.instanceMethod mX8_start.1 ∈ xv_tbl ∧ Cond.selects mX8_start.1.cls mX8_start.1 mX8_start.1 ∈ xv_tbl ∧ (vwCl[8]?.map fun q => q.1) = some mX8_start.1.cls := ⟨(xv_tbl_mem 656 (by decide +kernel) rfl), (xv_tbl_mem 657 (by decide +kernel) rfl), rfl⟩
theorem YX8_size : xv_Y mX8_size 1 := ⟨(xv_tbl_mem 662 (by decide +kernel) rfl), (xv_tbl_mem 4 (by decide +kernel) rfl), by decide +kernel, by decide +kernel, by decide +kernel, by decide⟩
theorem VX8_size : Cond.instanceMethod mX8_size.1 ∈ xv_tbl ∧ Cond.selects mX8_size.1.cls mX8_size.1 mX8_size.1 ∈ xv_tbl ∧ (vwCl[8]?.map fun q => q.1) = some mX8_size.1.cls := ⟨(xv_tbl_mem 660 (by decide +kernel) rfl), (xv_tbl_mem 661 (by decide +kernel) rfl), rfl⟩
theorem YX8_plates : xv_Y mX8_plates 0 := ⟨(xv_tbl_mem 639 (by decide +kernel) rfl), (xv_tbl_mem 4 (by decide +kernel) rfl), by decide +kernel, by decide +kernel, by decide +kernel, by decide⟩
theorem VX8_plates : Cond.instanceMethod mX8_plates.1 ∈ xv_tbl ∧ Cond.selects mX8_plates.1.cls mX8_plates.1 mX8_plates.1 ∈ xv_tbl ∧ (vwCl[8]?.map fun q => q.1) = some mX8_plates.1.cls := ⟨(xv_tbl_mem 637 (by decide +kernel) rfl), (xv_tbl_mem 638 (by decide +kernel) rfl), rfl⟩
theorem YX9_init : xv_Y mX9_init 0 := ⟨(xv_tbl_mem 171 (by decide +kernel) rfl), (xv_tbl_mem 8 (by decide +kernel) rfl), by decide +kernel, by decide +kernel, by decide +kernel, by decide⟩
theorem VX9_init : Cond.instanceMethod mX9_init.1 ∈ xv_tbl ∧ mX9_init.1.name = "<init>" ∧ mX9_init.2.2.2.1 = none := ⟨(xv_tbl_mem 170 (by decide +kernel) rfl), rfl, rfl⟩
theorem YX10_init : xv_Y mX10_init 0 := ⟨(xv_tbl_mem 23 (by decide +kernel) rfl), (xv_tbl_mem 1 (by decide +kernel) rfl), by decide +kernel, by decide +kernel, by decide +kernel, by decide⟩
theorem VX10_init : Cond.instanceMethod mX10_init.1 ∈ xv_tbl ∧ mX10_init.1.name = "<init>" ∧ mX10_init.2.2.2.1 = none := ⟨(xv_tbl_mem 22 (by decide +kernel) rfl), rfl, rfl⟩
theorem YX10_page : xv_Y mX10_page 3 := ⟨(xv_tbl_mem 264 (by decide +kernel) rfl), (xv_tbl_mem 1 (by decide +kernel) rfl), by decide +kernel, by decide +kernel, by decide +kernel, by decide⟩
theorem VX10_page : Cond.instanceMethod mX10_page.1 ∈ xv_tbl ∧ Cond.selects mX10_page.1.cls mX10_page.1 mX10_page.1 ∈ xv_tbl ∧ (vwCl[10]?.map fun q => q.1) = some mX10_page.1.cls := ⟨(xv_tbl_mem 262 (by decide +kernel) rfl), (xv_tbl_mem 263 (by decide +kernel) rfl), rfl⟩
theorem YX10_cell : xv_Y mX10_cell 2 := ⟨(xv_tbl_mem 393 (by decide +kernel) rfl), (xv_tbl_mem 1 (by decide +kernel) rfl), by decide +kernel, by decide +kernel, by decide +kernel, by decide⟩
theorem VX10_cell : Cond.instanceMethod mX10_cell.1 ∈ xv_tbl ∧ Cond.selects mX10_cell.1.cls mX10_cell.1 mX10_cell.1 ∈ xv_tbl ∧ (vwCl[10]?.map fun q => q.1) = some mX10_cell.1.cls := ⟨(xv_tbl_mem 391 (by decide +kernel) rfl), (xv_tbl_mem 392 (by decide +kernel) rfl), rfl⟩
theorem YX10_touched : xv_Y mX10_touched 0 := ⟨(xv_tbl_mem 247 (by decide +kernel) rfl), (xv_tbl_mem 1 (by decide +kernel) rfl), by decide +kernel, by decide +kernel, by decide +kernel, by decide⟩
theorem VX10_touched : Cond.instanceMethod mX10_touched.1 ∈ xv_tbl ∧ Cond.selects mX10_touched.1.cls mX10_touched.1 mX10_touched.1 ∈ xv_tbl ∧ (vwCl[10]?.map fun q => q.1) = some mX10_touched.1.cls := ⟨(xv_tbl_mem 245 (by decide +kernel) rfl), (xv_tbl_mem 246 (by decide +kernel) rfl), rfl⟩
theorem YX10_distance : xv_Y mX10_distance 2 := ⟨(xv_tbl_mem 403 (by decide +kernel) rfl), (xv_tbl_mem 1 (by decide +kernel) rfl), by decide +kernel, by decide +kernel, by decide +kernel, by decide⟩
theorem VX10_distance : Cond.instanceMethod mX10_distance.1 ∈ xv_tbl ∧ Cond.selects mX10_distance.1.cls mX10_distance.1 mX10_distance.1 ∈ xv_tbl ∧ (vwCl[10]?.map fun q => q.1) = some mX10_distance.1.cls := ⟨(xv_tbl_mem 401 (by decide +kernel) rfl), (xv_tbl_mem 402 (by decide +kernel) rfl), rfl⟩
theorem YX10_advert : xv_Y mX10_advert 6 := ⟨(xv_tbl_mem 411 (by decide +kernel) rfl), (xv_tbl_mem 1 (by decide +kernel) rfl), by decide +kernel, by decide +kernel, by decide +kernel, by decide⟩
theorem VX10_advert : Cond.instanceMethod mX10_advert.1 ∈ xv_tbl ∧ Cond.selects mX10_advert.1.cls mX10_advert.1 mX10_advert.1 ∈ xv_tbl ∧ (vwCl[10]?.map fun q => q.1) = some mX10_advert.1.cls := ⟨(xv_tbl_mem 409 (by decide +kernel) rfl), (xv_tbl_mem 410 (by decide +kernel) rfl), rfl⟩
theorem YX10_place : xv_Y mX10_place 1 := ⟨(xv_tbl_mem 456 (by decide +kernel) rfl), (xv_tbl_mem 1 (by decide +kernel) rfl), by decide +kernel, by decide +kernel, by decide +kernel, by decide⟩
theorem VX10_place : Cond.instanceMethod mX10_place.1 ∈ xv_tbl ∧ Cond.selects mX10_place.1.cls mX10_place.1 mX10_place.1 ∈ xv_tbl ∧ (vwCl[10]?.map fun q => q.1) = some mX10_place.1.cls := ⟨(xv_tbl_mem 454 (by decide +kernel) rfl), (xv_tbl_mem 455 (by decide +kernel) rfl), rfl⟩
theorem YX10_takeOff : xv_Y mX10_takeOff 1 := ⟨(xv_tbl_mem 527 (by decide +kernel) rfl), (xv_tbl_mem 1 (by decide +kernel) rfl), by decide +kernel, by decide +kernel, by decide +kernel, by decide⟩
theorem VX10_takeOff : Cond.instanceMethod mX10_takeOff.1 ∈ xv_tbl ∧ Cond.selects mX10_takeOff.1.cls mX10_takeOff.1 mX10_takeOff.1 ∈ xv_tbl ∧ (vwCl[10]?.map fun q => q.1) = some mX10_takeOff.1.cls := ⟨(xv_tbl_mem 525 (by decide +kernel) rfl), (xv_tbl_mem 526 (by decide +kernel) rfl), rfl⟩
theorem YX10_advertsIn : xv_Y mX10_advertsIn 1 := ⟨(xv_tbl_mem 536 (by decide +kernel) rfl), (xv_tbl_mem 1 (by decide +kernel) rfl), by decide +kernel, by decide +kernel, by decide +kernel, by decide⟩
theorem VX10_advertsIn : Cond.instanceMethod mX10_advertsIn.1 ∈ xv_tbl ∧ Cond.selects mX10_advertsIn.1.cls mX10_advertsIn.1 mX10_advertsIn.1 ∈ xv_tbl ∧ (vwCl[10]?.map fun q => q.1) = some mX10_advertsIn.1.cls := ⟨(xv_tbl_mem 534 (by decide +kernel) rfl), (xv_tbl_mem 535 (by decide +kernel) rfl), rfl⟩
theorem YX10_story : xv_Y mX10_story 3 := ⟨(xv_tbl_mem 544 (by decide +kernel) rfl), (xv_tbl_mem 1 (by decide +kernel) rfl), by decide +kernel, by decide +kernel, by decide +kernel, by decide⟩
theorem VX10_story : Cond.instanceMethod mX10_story.1 ∈ xv_tbl ∧ Cond.selects mX10_story.1.cls mX10_story.1 mX10_story.1 ∈ xv_tbl ∧ (vwCl[10]?.map fun q => q.1) = some mX10_story.1.cls := ⟨(xv_tbl_mem 542 (by decide +kernel) rfl), (xv_tbl_mem 543 (by decide +kernel) rfl), rfl⟩
theorem YX10_lay : xv_Y mX10_lay 1 := ⟨(xv_tbl_mem 580 (by decide +kernel) rfl), (xv_tbl_mem 1 (by decide +kernel) rfl), by decide +kernel, by decide +kernel, by decide +kernel, by decide⟩
theorem VX10_lay : Cond.instanceMethod mX10_lay.1 ∈ xv_tbl ∧ Cond.selects mX10_lay.1.cls mX10_lay.1 mX10_lay.1 ∈ xv_tbl ∧ (vwCl[10]?.map fun q => q.1) = some mX10_lay.1.cls := ⟨(xv_tbl_mem 578 (by decide +kernel) rfl), (xv_tbl_mem 579 (by decide +kernel) rfl), rfl⟩
theorem YX10_lift : xv_Y mX10_lift 1 := ⟨(xv_tbl_mem 680 (by decide +kernel) rfl), (xv_tbl_mem 1 (by decide +kernel) rfl), by decide +kernel, by decide +kernel, by decide +kernel, by decide⟩
theorem VX10_lift : Cond.instanceMethod mX10_lift.1 ∈ xv_tbl ∧ Cond.selects mX10_lift.1.cls mX10_lift.1 mX10_lift.1 ∈ xv_tbl ∧ (vwCl[10]?.map fun q => q.1) = some mX10_lift.1.cls := ⟨(xv_tbl_mem 678 (by decide +kernel) rfl), (xv_tbl_mem 679 (by decide +kernel) rfl), rfl⟩
theorem YX10_change : xv_Y mX10_change 2 := ⟨(xv_tbl_mem 686 (by decide +kernel) rfl), (xv_tbl_mem 1 (by decide +kernel) rfl), by decide +kernel, by decide +kernel, by decide +kernel, by decide⟩
theorem VX10_change : Cond.instanceMethod mX10_change.1 ∈ xv_tbl ∧ Cond.selects mX10_change.1.cls mX10_change.1 mX10_change.1 ∈ xv_tbl ∧ (vwCl[10]?.map fun q => q.1) = some mX10_change.1.cls := ⟨(xv_tbl_mem 684 (by decide +kernel) rfl), (xv_tbl_mem 685 (by decide +kernel) rfl), rfl⟩
theorem YX10_part : xv_Y mX10_part 2 := ⟨(xv_tbl_mem 696 (by decide +kernel) rfl), (xv_tbl_mem 1 (by decide +kernel) rfl), by decide +kernel, by decide +kernel, by decide +kernel, by decide⟩
theorem VX10_part : Cond.instanceMethod mX10_part.1 ∈ xv_tbl ∧ Cond.selects mX10_part.1.cls mX10_part.1 mX10_part.1 ∈ xv_tbl ∧ (vwCl[10]?.map fun q => q.1) = some mX10_part.1.cls := ⟨(xv_tbl_mem 694 (by decide +kernel) rfl), (xv_tbl_mem 695 (by decide +kernel) rfl), rfl⟩
theorem YX10_person : xv_Y mX10_person 1 := ⟨(xv_tbl_mem 700 (by decide +kernel) rfl), (xv_tbl_mem 1 (by decide +kernel) rfl), by decide +kernel, by decide +kernel, by decide +kernel, by decide⟩
theorem VX10_person : Cond.instanceMethod mX10_person.1 ∈ xv_tbl ∧ Cond.selects mX10_person.1.cls mX10_person.1 mX10_person.1 ∈ xv_tbl ∧ (vwCl[10]?.map fun q => q.1) = some mX10_person.1.cls := ⟨(xv_tbl_mem 698 (by decide +kernel) rfl), (xv_tbl_mem 699 (by decide +kernel) rfl), rfl⟩
theorem YX10_sign : xv_Y mX10_sign 2 := ⟨(xv_tbl_mem 720 (by decide +kernel) rfl), (xv_tbl_mem 1 (by decide +kernel) rfl), by decide +kernel, by decide +kernel, by decide +kernel, by decide⟩
theorem VX10_sign : Cond.instanceMethod mX10_sign.1 ∈ xv_tbl ∧ Cond.selects mX10_sign.1.cls mX10_sign.1 mX10_sign.1 ∈ xv_tbl ∧ (vwCl[10]?.map fun q => q.1) = some mX10_sign.1.cls := ⟨(xv_tbl_mem 718 (by decide +kernel) rfl), (xv_tbl_mem 719 (by decide +kernel) rfl), rfl⟩
theorem YX10_hold : xv_Y mX10_hold 2 := ⟨(xv_tbl_mem 734 (by decide +kernel) rfl), (xv_tbl_mem 1 (by decide +kernel) rfl), by decide +kernel, by decide +kernel, by decide +kernel, by decide⟩
theorem VX10_hold : Cond.instanceMethod mX10_hold.1 ∈ xv_tbl ∧ Cond.selects mX10_hold.1.cls mX10_hold.1 mX10_hold.1 ∈ xv_tbl ∧ (vwCl[10]?.map fun q => q.1) = some mX10_hold.1.cls := ⟨(xv_tbl_mem 732 (by decide +kernel) rfl), (xv_tbl_mem 733 (by decide +kernel) rfl), rfl⟩
theorem YX10_isReady : xv_Y mX10_isReady 1 := ⟨(xv_tbl_mem 743 (by decide +kernel) rfl), (xv_tbl_mem 1 (by decide +kernel) rfl), by decide +kernel, by decide +kernel, by decide +kernel, by decide⟩
theorem VX10_isReady : Cond.instanceMethod mX10_isReady.1 ∈ xv_tbl ∧ Cond.selects mX10_isReady.1.cls mX10_isReady.1 mX10_isReady.1 ∈ xv_tbl ∧ (vwCl[10]?.map fun q => q.1) = some mX10_isReady.1.cls := ⟨(xv_tbl_mem 741 (by decide +kernel) rfl), (xv_tbl_mem 742 (by decide +kernel) rfl), rfl⟩
theorem YX10_close : xv_Y mX10_close 0 := ⟨(xv_tbl_mem 752 (by decide +kernel) rfl), (xv_tbl_mem 1 (by decide +kernel) rfl), by decide +kernel, by decide +kernel, by decide +kernel, by decide⟩
theorem VX10_close : Cond.instanceMethod mX10_close.1 ∈ xv_tbl ∧ Cond.selects mX10_close.1.cls mX10_close.1 mX10_close.1 ∈ xv_tbl ∧ (vwCl[10]?.map fun q => q.1) = some mX10_close.1.cls := ⟨(xv_tbl_mem 750 (by decide +kernel) rfl), (xv_tbl_mem 751 (by decide +kernel) rfl), rfl⟩
theorem YX10_printed : xv_Y mX10_printed 3 := ⟨(xv_tbl_mem 767 (by decide +kernel) rfl), (xv_tbl_mem 1 (by decide +kernel) rfl), by decide +kernel, by decide +kernel, by decide +kernel, by decide⟩
theorem VX10_printed : Cond.instanceMethod mX10_printed.1 ∈ xv_tbl ∧ Cond.selects mX10_printed.1.cls mX10_printed.1 mX10_printed.1 ∈ xv_tbl ∧ (vwCl[10]?.map fun q => q.1) = some mX10_printed.1.cls := ⟨(xv_tbl_mem 765 (by decide +kernel) rfl), (xv_tbl_mem 766 (by decide +kernel) rfl), rfl⟩
theorem YX10_correct : xv_Y mX10_correct 2 := ⟨(xv_tbl_mem 786 (by decide +kernel) rfl), (xv_tbl_mem 1 (by decide +kernel) rfl), by decide +kernel, by decide +kernel, by decide +kernel, by decide⟩
theorem VX10_correct : Cond.instanceMethod mX10_correct.1 ∈ xv_tbl ∧ Cond.selects mX10_correct.1.cls mX10_correct.1 mX10_correct.1 ∈ xv_tbl ∧ (vwCl[10]?.map fun q => q.1) = some mX10_correct.1.cls := ⟨(xv_tbl_mem 784 (by decide +kernel) rfl), (xv_tbl_mem 785 (by decide +kernel) rfl), rfl⟩
theorem YX10_placeCorrection : xv_Y mX10_placeCorrection 0 := ⟨(xv_tbl_mem 804 (by decide +kernel) rfl), (xv_tbl_mem 1 (by decide +kernel) rfl), by decide +kernel, by decide +kernel, by decide +kernel, by decide⟩
theorem VX10_placeCorrection : Cond.instanceMethod mX10_placeCorrection.1 ∈ xv_tbl ∧ Cond.selects mX10_placeCorrection.1.cls mX10_placeCorrection.1 mX10_placeCorrection.1 ∈ xv_tbl ∧ (vwCl[10]?.map fun q => q.1) = some mX10_placeCorrection.1.cls := ⟨(xv_tbl_mem 802 (by decide +kernel) rfl), (xv_tbl_mem 803 (by decide +kernel) rfl), rfl⟩
theorem YX10_clean : xv_Y mX10_clean 1 := ⟨(xv_tbl_mem 821 (by decide +kernel) rfl), (xv_tbl_mem 1 (by decide +kernel) rfl), by decide +kernel, by decide +kernel, by decide +kernel, by decide⟩
theorem VX10_clean : Cond.instanceMethod mX10_clean.1 ∈ xv_tbl ∧ Cond.selects mX10_clean.1.cls mX10_clean.1 mX10_clean.1 ∈ xv_tbl ∧ (vwCl[10]?.map fun q => q.1) = some mX10_clean.1.cls := ⟨(xv_tbl_mem 819 (by decide +kernel) rfl), (xv_tbl_mem 820 (by decide +kernel) rfl), rfl⟩
theorem YX10_pass : xv_Y mX10_pass 1 := ⟨(xv_tbl_mem 825 (by decide +kernel) rfl), (xv_tbl_mem 1 (by decide +kernel) rfl), by decide +kernel, by decide +kernel, by decide +kernel, by decide⟩
theorem VX10_pass : Cond.instanceMethod mX10_pass.1 ∈ xv_tbl ∧ Cond.selects mX10_pass.1.cls mX10_pass.1 mX10_pass.1 ∈ xv_tbl ∧ (vwCl[10]?.map fun q => q.1) = some mX10_pass.1.cls := ⟨(xv_tbl_mem 823 (by decide +kernel) rfl), (xv_tbl_mem 824 (by decide +kernel) rfl), rfl⟩
theorem YX10_needPage : xv_Y mX10_needPage 1 := ⟨(xv_tbl_mem 267 (by decide +kernel) rfl), (xv_tbl_mem 1 (by decide +kernel) rfl), by decide +kernel, by decide +kernel, by decide +kernel, by decide⟩
theorem VX10_needPage : Cond.static mX10_needPage.1 ∈ xv_tbl := (xv_tbl_mem 266 (by decide +kernel) rfl)
theorem YX10_needCell : xv_Y mX10_needCell 1 := ⟨(xv_tbl_mem 396 (by decide +kernel) rfl), (xv_tbl_mem 1 (by decide +kernel) rfl), by decide +kernel, by decide +kernel, by decide +kernel, by decide⟩
theorem VX10_needCell : Cond.static mX10_needCell.1 ∈ xv_tbl := (xv_tbl_mem 395 (by decide +kernel) rfl)
theorem YX10_needPerson : xv_Y mX10_needPerson 1 := ⟨(xv_tbl_mem 703 (by decide +kernel) rfl), (xv_tbl_mem 1 (by decide +kernel) rfl), by decide +kernel, by decide +kernel, by decide +kernel, by decide⟩
theorem VX10_needPerson : Cond.static mX10_needPerson.1 ∈ xv_tbl := (xv_tbl_mem 702 (by decide +kernel) rfl)
theorem YX10_needRange : xv_Y mX10_needRange 3 := ⟨(xv_tbl_mem 341 (by decide +kernel) rfl), (xv_tbl_mem 1 (by decide +kernel) rfl), by decide +kernel, by decide +kernel, by decide +kernel, by decide⟩
theorem VX10_needRange : Cond.static mX10_needRange.1 ∈ xv_tbl := (xv_tbl_mem 340 (by decide +kernel) rfl)
theorem YX10_needEdition : xv_Y mX10_needEdition 1 := ⟨(xv_tbl_mem 771 (by decide +kernel) rfl), (xv_tbl_mem 1 (by decide +kernel) rfl), by decide +kernel, by decide +kernel, by decide +kernel, by decide⟩
theorem VX10_needEdition : Cond.instanceMethod mX10_needEdition.1 ∈ xv_tbl ∧ Cond.selects mX10_needEdition.1.cls mX10_needEdition.1 mX10_needEdition.1 ∈ xv_tbl ∧ (vwCl[10]?.map fun q => q.1) = some mX10_needEdition.1.cls := ⟨(xv_tbl_mem 770 (by decide +kernel) rfl), (xv_tbl_sel 14 (by decide +kernel) rfl), rfl⟩
theorem YX10_needAdvert : xv_Y mX10_needAdvert 1 := ⟨(xv_tbl_mem 460 (by decide +kernel) rfl), (xv_tbl_mem 1 (by decide +kernel) rfl), by decide +kernel, by decide +kernel, by decide +kernel, by decide⟩
theorem VX10_needAdvert : Cond.instanceMethod mX10_needAdvert.1 ∈ xv_tbl ∧ Cond.selects mX10_needAdvert.1.cls mX10_needAdvert.1 mX10_needAdvert.1 ∈ xv_tbl ∧ (vwCl[10]?.map fun q => q.1) = some mX10_needAdvert.1.cls := ⟨(xv_tbl_mem 459 (by decide +kernel) rfl), (xv_tbl_sel 2 (by decide +kernel) rfl), rfl⟩
theorem YX10_needStory : xv_Y mX10_needStory 1 := ⟨(xv_tbl_mem 584 (by decide +kernel) rfl), (xv_tbl_mem 1 (by decide +kernel) rfl), by decide +kernel, by decide +kernel, by decide +kernel, by decide⟩
theorem VX10_needStory : Cond.instanceMethod mX10_needStory.1 ∈ xv_tbl ∧ Cond.selects mX10_needStory.1.cls mX10_needStory.1 mX10_needStory.1 ∈ xv_tbl ∧ (vwCl[10]?.map fun q => q.1) = some mX10_needStory.1.cls := ⟨(xv_tbl_mem 583 (by decide +kernel) rfl), (xv_tbl_sel 6 (by decide +kernel) rfl), rfl⟩
theorem YX10_storyAt : xv_Y mX10_storyAt 1 := ⟨(xv_tbl_mem 588 (by decide +kernel) rfl), (xv_tbl_mem 1 (by decide +kernel) rfl), by decide +kernel, by decide +kernel, by decide +kernel, by decide⟩
theorem VX10_storyAt : Cond.instanceMethod mX10_storyAt.1 ∈ xv_tbl ∧ Cond.selects mX10_storyAt.1.cls mX10_storyAt.1 mX10_storyAt.1 ∈ xv_tbl ∧ (vwCl[10]?.map fun q => q.1) = some mX10_storyAt.1.cls := ⟨(xv_tbl_mem 587 (by decide +kernel) rfl), (xv_tbl_sel 7 (by decide +kernel) rfl), rfl⟩
theorem YX10_isPage : xv_Y mX10_isPage 1 := ⟨(xv_tbl_mem 270 (by decide +kernel) rfl), (xv_tbl_mem 1 (by decide +kernel) rfl), by decide +kernel, by decide +kernel, by decide +kernel, by decide⟩
theorem VX10_isPage : Cond.static mX10_isPage.1 ∈ xv_tbl := (xv_tbl_mem 269 (by decide +kernel) rfl)
theorem YX10_isCell : xv_Y mX10_isCell 1 := ⟨(xv_tbl_mem 369 (by decide +kernel) rfl), (xv_tbl_mem 1 (by decide +kernel) rfl), by decide +kernel, by decide +kernel, by decide +kernel, by decide⟩
theorem VX10_isCell : Cond.static mX10_isCell.1 ∈ xv_tbl := (xv_tbl_mem 368 (by decide +kernel) rfl)
theorem YX10_isZonePage : xv_Y mX10_isZonePage 1 := ⟨(xv_tbl_mem 496 (by decide +kernel) rfl), (xv_tbl_mem 1 (by decide +kernel) rfl), by decide +kernel, by decide +kernel, by decide +kernel, by decide⟩
theorem VX10_isZonePage : Cond.static mX10_isZonePage.1 ∈ xv_tbl := (xv_tbl_mem 495 (by decide +kernel) rfl)
theorem YX10_isInCopies : xv_Y mX10_isInCopies 2 := ⟨(xv_tbl_mem 540 (by decide +kernel) rfl), (xv_tbl_mem 1 (by decide +kernel) rfl), by decide +kernel, by decide +kernel, by decide +kernel, by decide⟩
theorem VX10_isInCopies : Cond.static mX10_isInCopies.1 ∈ xv_tbl := (xv_tbl_mem 539 (by decide +kernel) rfl)
theorem YX10_plateOf : xv_Y mX10_plateOf 1 := ⟨(xv_tbl_mem 519 (by decide +kernel) rfl), (xv_tbl_mem 1 (by decide +kernel) rfl), by decide +kernel, by decide +kernel, by decide +kernel, by decide⟩
theorem VX10_plateOf : Cond.static mX10_plateOf.1 ∈ xv_tbl := (xv_tbl_mem 518 (by decide +kernel) rfl)
theorem YX10_cellInColumns : xv_Y mX10_cellInColumns 1 := ⟨(xv_tbl_mem 630 (by decide +kernel) rfl), (xv_tbl_mem 1 (by decide +kernel) rfl), by decide +kernel, by decide +kernel, by decide +kernel, by decide⟩
theorem VX10_cellInColumns : Cond.static mX10_cellInColumns.1 ∈ xv_tbl := (xv_tbl_mem 629 (by decide +kernel) rfl)
theorem YX10_pagesApart : xv_Y mX10_pagesApart 2 := ⟨(xv_tbl_mem 493 (by decide +kernel) rfl), (xv_tbl_mem 1 (by decide +kernel) rfl), by decide +kernel, by decide +kernel, by decide +kernel, by decide⟩
theorem VX10_pagesApart : Cond.static mX10_pagesApart.1 ∈ xv_tbl := (xv_tbl_mem 492 (by decide +kernel) rfl)
theorem YX10_distanceOf : xv_Y mX10_distanceOf 1 := ⟨(xv_tbl_mem 407 (by decide +kernel) rfl), (xv_tbl_mem 1 (by decide +kernel) rfl), by decide +kernel, by decide +kernel, by decide +kernel, by decide⟩
theorem VX10_distanceOf : Cond.instanceMethod mX10_distanceOf.1 ∈ xv_tbl ∧ Cond.selects mX10_distanceOf.1.cls mX10_distanceOf.1 mX10_distanceOf.1 ∈ xv_tbl ∧ (vwCl[10]?.map fun q => q.1) = some mX10_distanceOf.1.cls := ⟨(xv_tbl_mem 406 (by decide +kernel) rfl), (xv_tbl_sel 1 (by decide +kernel) rfl), rfl⟩
theorem YX10_fits : xv_Y mX10_fits 2 := ⟨(xv_tbl_mem 478 (by decide +kernel) rfl), (xv_tbl_mem 1 (by decide +kernel) rfl), by decide +kernel, by decide +kernel, by decide +kernel, by decide⟩
theorem VX10_fits : Cond.instanceMethod mX10_fits.1 ∈ xv_tbl ∧ Cond.selects mX10_fits.1.cls mX10_fits.1 mX10_fits.1 ∈ xv_tbl ∧ (vwCl[10]?.map fun q => q.1) = some mX10_fits.1.cls := ⟨(xv_tbl_mem 477 (by decide +kernel) rfl), (xv_tbl_sel 3 (by decide +kernel) rfl), rfl⟩
theorem YX10_isFarFromItsLike : xv_Y mX10_isFarFromItsLike 2 := ⟨(xv_tbl_mem 490 (by decide +kernel) rfl), (xv_tbl_mem 1 (by decide +kernel) rfl), by decide +kernel, by decide +kernel, by decide +kernel, by decide⟩
theorem VX10_isFarFromItsLike : Cond.instanceMethod mX10_isFarFromItsLike.1 ∈ xv_tbl ∧ Cond.selects mX10_isFarFromItsLike.1.cls mX10_isFarFromItsLike.1 mX10_isFarFromItsLike.1 ∈ xv_tbl ∧ (vwCl[10]?.map fun q => q.1) = some mX10_isFarFromItsLike.1.cls := ⟨(xv_tbl_mem 489 (by decide +kernel) rfl), (xv_tbl_sel 4 (by decide +kernel) rfl), rfl⟩
theorem YX10_paragraphsOf : xv_Y mX10_paragraphsOf 1 := ⟨(xv_tbl_mem 547 (by decide +kernel) rfl), (xv_tbl_mem 1 (by decide +kernel) rfl), by decide +kernel, by decide +kernel, by decide +kernel, by decide⟩
theorem VX10_paragraphsOf : Cond.static mX10_paragraphsOf.1 ∈ xv_tbl := (xv_tbl_mem 546 (by decide +kernel) rfl)
theorem YX10_putOut : xv_Y mX10_putOut 2 := ⟨(xv_tbl_mem 670 (by decide +kernel) rfl), (xv_tbl_mem 1 (by decide +kernel) rfl), by decide +kernel, by decide +kernel, by decide +kernel, by decide⟩
theorem VX10_putOut : Cond.instanceMethod mX10_putOut.1 ∈ xv_tbl ∧ Cond.selects mX10_putOut.1.cls mX10_putOut.1 mX10_putOut.1 ∈ xv_tbl ∧ (vwCl[10]?.map fun q => q.1) = some mX10_putOut.1.cls := ⟨(xv_tbl_mem 669 (by decide +kernel) rfl), (xv_tbl_sel 13 (by decide +kernel) rfl), rfl⟩
theorem YJ6_bitCount_0f7a4 : xv_Y mJ6_bitCount_0f7a4 1 := ⟨(xv_tbl_mem 643 (by decide +kernel) rfl), (xv_tbl_mem 18 (by decide +kernel) rfl), by decide +kernel, by decide +kernel, by decide +kernel, by decide⟩
theorem VJ6_bitCount_0f7a4 : Cond.static mJ6_bitCount_0f7a4.1 ∈ xv_tbl := (xv_tbl_mem 642 (by decide +kernel) rfl)
theorem YL_part : xv_Y mL_part 3 := ⟨(xv_tbl_mem 250 (by decide +kernel) rfl), (xv_tbl_mem 0 (by decide +kernel) rfl), by decide +kernel, by decide +kernel, by decide +kernel, by decide⟩
theorem VL_part : Cond.static mL_part.1 ∈ xv_tbl := (xv_tbl_mem 249 (by decide +kernel) rfl)
theorem YL_does : xv_Y mL_does 7 := ⟨(xv_tbl_mem 254 (by decide +kernel) rfl), (xv_tbl_mem 0 (by decide +kernel) rfl), by decide +kernel, by decide +kernel, by decide +kernel, by decide⟩
theorem VL_does : Cond.static mL_does.1 ∈ xv_tbl := (xv_tbl_mem 253 (by decide +kernel) rfl)
theorem YL_paged : xv_Y mL_paged 4 := ⟨(xv_tbl_mem 260 (by decide +kernel) rfl), (xv_tbl_mem 0 (by decide +kernel) rfl), by decide +kernel, by decide +kernel, by decide +kernel, by decide⟩
theorem VL_paged : Cond.static mL_paged.1 ∈ xv_tbl := (xv_tbl_mem 259 (by decide +kernel) rfl)
theorem YL_cell : xv_Y mL_cell 4 := ⟨(xv_tbl_mem 828 (by decide +kernel) rfl), (xv_tbl_mem 0 (by decide +kernel) rfl), by decide +kernel, by decide +kernel, by decide +kernel, by decide⟩
theorem VL_cell : Cond.static mL_cell.1 ∈ xv_tbl := (xv_tbl_mem 827 (by decide +kernel) rfl)
theorem YL_puts : xv_Y mL_puts 5 := ⟨(xv_tbl_mem 834 (by decide +kernel) rfl), (xv_tbl_mem 0 (by decide +kernel) rfl), by decide +kernel, by decide +kernel, by decide +kernel, by decide⟩
theorem VL_puts : Cond.static mL_puts.1 ∈ xv_tbl := (xv_tbl_mem 833 (by decide +kernel) rfl)
theorem VL_areCells : Cond.static mL_areCells.1 ∈ xv_tbl := (xv_tbl_mem 830 (by decide +kernel) rfl)
theorem YL_inColumns : xv_Y mL_inColumns 4 := ⟨(xv_tbl_mem 840 (by decide +kernel) rfl), (xv_tbl_mem 0 (by decide +kernel) rfl), by decide +kernel, by decide +kernel, by decide +kernel, by decide⟩
theorem VL_inColumns : Cond.static mL_inColumns.1 ∈ xv_tbl := (xv_tbl_mem 839 (by decide +kernel) rfl)
theorem YL_count : xv_Y mL_count 1 := ⟨(xv_tbl_mem 837 (by decide +kernel) rfl), (xv_tbl_mem 0 (by decide +kernel) rfl), by decide +kernel, by decide +kernel, by decide +kernel, by decide⟩
theorem VL_count : Cond.static mL_count.1 ∈ xv_tbl := (xv_tbl_mem 836 (by decide +kernel) rfl)
theorem YL_isFar : xv_Y mL_isFar 6 := ⟨(xv_tbl_mem 850 (by decide +kernel) rfl), (xv_tbl_mem 0 (by decide +kernel) rfl), by decide +kernel, by decide +kernel, by decide +kernel, by decide⟩
theorem VL_isFar : Cond.static mL_isFar.1 ∈ xv_tbl := (xv_tbl_mem 849 (by decide +kernel) rfl)
theorem YL_placeFor : xv_Y mL_placeFor 8 := ⟨(xv_tbl_mem 847 (by decide +kernel) rfl), (xv_tbl_mem 0 (by decide +kernel) rfl), by decide +kernel, by decide +kernel, by decide +kernel, by decide⟩
theorem VL_placeFor : Cond.static mL_placeFor.1 ∈ xv_tbl := (xv_tbl_mem 846 (by decide +kernel) rfl)
theorem YL_lines : xv_Y mL_lines 1 := ⟨(xv_tbl_mem 856 (by decide +kernel) rfl), (xv_tbl_mem 0 (by decide +kernel) rfl), by decide +kernel, by decide +kernel, by decide +kernel, by decide⟩
theorem VL_lines : Cond.static mL_lines.1 ∈ xv_tbl := (xv_tbl_mem 855 (by decide +kernel) rfl)
theorem VL_isAdvert : Cond.static mL_isAdvert.1 ∈ xv_tbl := (xv_tbl_mem 842 (by decide +kernel) rfl)
theorem VL_isStory : Cond.static mL_isStory.1 ∈ xv_tbl := (xv_tbl_mem 852 (by decide +kernel) rfl)
theorem YL_laid : xv_Y mL_laid 3 := ⟨(xv_tbl_mem 862 (by decide +kernel) rfl), (xv_tbl_mem 0 (by decide +kernel) rfl), by decide +kernel, by decide +kernel, by decide +kernel, by decide⟩
theorem VL_laid : Cond.static mL_laid.1 ∈ xv_tbl := (xv_tbl_mem 861 (by decide +kernel) rfl)
theorem YL_fitsIn : xv_Y mL_fitsIn 4 := ⟨(xv_tbl_mem 859 (by decide +kernel) rfl), (xv_tbl_mem 0 (by decide +kernel) rfl), by decide +kernel, by decide +kernel, by decide +kernel, by decide⟩
theorem VL_fitsIn : Cond.static mL_fitsIn.1 ∈ xv_tbl := (xv_tbl_mem 858 (by decide +kernel) rfl)
theorem YL_isSigned : xv_Y mL_isSigned 6 := ⟨(xv_tbl_mem 865 (by decide +kernel) rfl), (xv_tbl_mem 0 (by decide +kernel) rfl), by decide +kernel, by decide +kernel, by decide +kernel, by decide⟩
theorem VL_isSigned : Cond.static mL_isSigned.1 ∈ xv_tbl := (xv_tbl_mem 864 (by decide +kernel) rfl)
theorem VL_isClosed : Cond.static mL_isClosed.1 ∈ xv_tbl := (xv_tbl_mem 867 (by decide +kernel) rfl)
theorem nL_15 : xv_N RL 15 10 14 := ⟨RX10, TX10, rfl, inX10, (xv_tbl_mem 19 (by decide +kernel) rfl), (xv_tbl_mem 20 (by decide +kernel) rfl), (xv_tbl_mem 1 (by decide +kernel) rfl), by decide +kernel, by decide +kernel⟩
theorem kL_15 : Cond.classLink RL 15 "PressHall" ∈ xv_tbl := (xv_tbl_mem 19 (by decide +kernel) rfl)
theorem lL_137 : Cond.methodLink RL 137 mX10_init.1 ∈ xv_tbl := (xv_tbl_mem 21 (by decide +kernel) rfl)
theorem lX10_1 : Cond.methodLink RX10 1 Lib.objectInit ∈ xv_tbl := (xv_tbl_mem 24 (by decide +kernel) rfl)
theorem nX10_7 : xv_N RX10 7 5 7 := ⟨RX5, TX5, rfl, inX5, (xv_tbl_mem 27 (by decide +kernel) rfl), (xv_tbl_mem 28 (by decide +kernel) rfl), (xv_tbl_mem 2 (by decide +kernel) rfl), by decide +kernel, by decide +kernel⟩
theorem kX10_7 : Cond.classLink RX10 7 "PressHall$Sheets" ∈ xv_tbl := (xv_tbl_mem 27 (by decide +kernel) rfl)
theorem lX10_9 : Cond.methodLink RX10 9 mX5_init.1 ∈ xv_tbl := (xv_tbl_mem 29 (by decide +kernel) rfl)
theorem lX5_3 : Cond.methodLink RX5 3 Lib.objectInit ∈ xv_tbl := (xv_tbl_mem 32 (by decide +kernel) rfl)
theorem kX5_9 : Cond.classLink RX5 9 "[[I" ∈ xv_tbl := (xv_tbl_mem 33 (by decide +kernel) rfl)
theorem gX5_11 : xv_G RX5 11 5 0 := ⟨RX5, TX5, 7, rfl, by decide, inX5, Or.inl (xv_tbl_mem 35 (by decide +kernel) rfl)⟩
theorem gX5_16 : xv_G RX5 16 5 1 := ⟨RX5, TX5, 7, rfl, by decide, inX5, Or.inl (xv_tbl_mem 36 (by decide +kernel) rfl)⟩
theorem gX5_20 : xv_G RX5 20 5 2 := ⟨RX5, TX5, 7, rfl, by decide, inX5, Or.inl (xv_tbl_mem 37 (by decide +kernel) rfl)⟩
theorem gX5_24 : xv_G RX5 24 5 3 := ⟨RX5, TX5, 7, rfl, by decide, inX5, Or.inl (xv_tbl_mem 38 (by decide +kernel) rfl)⟩
theorem gX5_27 : xv_G RX5 27 5 4 := ⟨RX5, TX5, 7, rfl, by decide, inX5, Or.inl (xv_tbl_mem 39 (by decide +kernel) rfl)⟩
theorem gX5_30 : xv_G RX5 30 5 5 := ⟨RX5, TX5, 7, rfl, by decide, inX5, Or.inl (xv_tbl_mem 40 (by decide +kernel) rfl)⟩
theorem gX10_109 : xv_G RX10 109 5 6 := ⟨RX5, TX5, 7, rfl, by decide, inX5, Or.inr ⟨"PressHall", (xv_tbl_mem 41 (by decide +kernel) rfl)⟩⟩
theorem gX5_41 : xv_G RX5 41 5 6 := ⟨RX5, TX5, 7, rfl, by decide, inX5, Or.inl (xv_tbl_mem 42 (by decide +kernel) rfl)⟩
theorem nX10_20 : xv_N RX10 20 0 8 := ⟨RX0, TX0, rfl, inX0, (xv_tbl_mem 60 (by decide +kernel) rfl), (xv_tbl_mem 413 (by decide +kernel) rfl), (xv_tbl_mem 16 (by decide +kernel) rfl), by decide +kernel, by decide +kernel⟩
theorem kX10_20 : Cond.classLink RX10 20 "PressHall$Advert" ∈ xv_tbl := (xv_tbl_mem 60 (by decide +kernel) rfl)
theorem nX10_26 : xv_N RX10 26 6 5 := ⟨RX6, TX6, rfl, inX6, (xv_tbl_mem 62 (by decide +kernel) rfl), (xv_tbl_mem 549 (by decide +kernel) rfl), (xv_tbl_mem 17 (by decide +kernel) rfl), by decide +kernel, by decide +kernel⟩
theorem kX10_26 : Cond.classLink RX10 26 "PressHall$Story" ∈ xv_tbl := (xv_tbl_mem 62 (by decide +kernel) rfl)
theorem nX10_32 : xv_N RX10 32 3 6 := ⟨RX3, TX3, rfl, inX3, (xv_tbl_mem 64 (by decide +kernel) rfl), (xv_tbl_mem 65 (by decide +kernel) rfl), (xv_tbl_mem 3 (by decide +kernel) rfl), by decide +kernel, by decide +kernel⟩
theorem kX10_32 : Cond.classLink RX10 32 "PressHall$Layout" ∈ xv_tbl := (xv_tbl_mem 64 (by decide +kernel) rfl)
theorem lX10_34 : Cond.methodLink RX10 34 mX3_init.1 ∈ xv_tbl := (xv_tbl_mem 66 (by decide +kernel) rfl)
theorem lX3_3 : Cond.methodLink RX3 3 Lib.objectInit ∈ xv_tbl := (xv_tbl_mem 69 (by decide +kernel) rfl)
theorem nX3_15 : xv_N RX3 15 8 4 := ⟨RX8, TX8, rfl, inX8, (xv_tbl_mem 70 (by decide +kernel) rfl), (xv_tbl_mem 71 (by decide +kernel) rfl), (xv_tbl_mem 4 (by decide +kernel) rfl), by decide +kernel, by decide +kernel⟩
theorem kX3_15 : Cond.classLink RX3 15 "PressHall$Way" ∈ xv_tbl := (xv_tbl_mem 70 (by decide +kernel) rfl)
theorem lX3_17 : Cond.methodLink RX3 17 mX8_init.1 ∈ xv_tbl := (xv_tbl_mem 72 (by decide +kernel) rfl)
theorem lX8_3 : Cond.methodLink RX8 3 Lib.objectInit ∈ xv_tbl := (xv_tbl_mem 75 (by decide +kernel) rfl)
theorem gX8_21 : xv_G RX8 21 8 0 := ⟨RX8, TX8, 4, rfl, by decide, inX8, Or.inl (xv_tbl_mem 76 (by decide +kernel) rfl)⟩
theorem gX6_31 : xv_G RX6 31 8 0 := ⟨RX8, TX8, 4, rfl, by decide, inX8, Or.inr ⟨"PressHall", (xv_tbl_mem 77 (by decide +kernel) rfl)⟩⟩
theorem gX3_47 : xv_G RX3 47 8 0 := ⟨RX8, TX8, 4, rfl, by decide, inX8, Or.inr ⟨"PressHall", (xv_tbl_mem 78 (by decide +kernel) rfl)⟩⟩
theorem gX10_216 : xv_G RX10 216 8 0 := ⟨RX8, TX8, 4, rfl, by decide, inX8, Or.inr ⟨"PressHall", (xv_tbl_mem 79 (by decide +kernel) rfl)⟩⟩
theorem gX8_9 : xv_G RX8 9 8 1 := ⟨RX8, TX8, 4, rfl, by decide, inX8, Or.inl (xv_tbl_mem 80 (by decide +kernel) rfl)⟩
theorem gX8_15 : xv_G RX8 15 8 2 := ⟨RX8, TX8, 4, rfl, by decide, inX8, Or.inl (xv_tbl_mem 81 (by decide +kernel) rfl)⟩
theorem gX8_18 : xv_G RX8 18 8 3 := ⟨RX8, TX8, 4, rfl, by decide, inX8, Or.inl (xv_tbl_mem 82 (by decide +kernel) rfl)⟩
theorem gX3_9 : xv_G RX3 9 3 0 := ⟨RX3, TX3, 6, rfl, by decide, inX3, Or.inl (xv_tbl_mem 92 (by decide +kernel) rfl)⟩
theorem gX3_18 : xv_G RX3 18 3 1 := ⟨RX3, TX3, 6, rfl, by decide, inX3, Or.inl (xv_tbl_mem 93 (by decide +kernel) rfl)⟩
theorem gX10_432 : xv_G RX10 432 3 1 := ⟨RX3, TX3, 6, rfl, by decide, inX3, Or.inr ⟨"PressHall", (xv_tbl_mem 94 (by decide +kernel) rfl)⟩⟩
theorem gX3_22 : xv_G RX3 22 3 2 := ⟨RX3, TX3, 6, rfl, by decide, inX3, Or.inl (xv_tbl_mem 95 (by decide +kernel) rfl)⟩
theorem gX3_25 : xv_G RX3 25 3 3 := ⟨RX3, TX3, 6, rfl, by decide, inX3, Or.inl (xv_tbl_mem 96 (by decide +kernel) rfl)⟩
theorem gX3_29 : xv_G RX3 29 3 4 := ⟨RX3, TX3, 6, rfl, by decide, inX3, Or.inl (xv_tbl_mem 97 (by decide +kernel) rfl)⟩
theorem gX3_88 : xv_G RX3 88 3 5 := ⟨RX3, TX3, 6, rfl, by decide, inX3, Or.inl (xv_tbl_mem 98 (by decide +kernel) rfl)⟩
theorem nX10_41 : xv_N RX10 41 1 5 := ⟨RX1, TX1, rfl, inX1, (xv_tbl_mem 112 (by decide +kernel) rfl), (xv_tbl_mem 113 (by decide +kernel) rfl), (xv_tbl_mem 5 (by decide +kernel) rfl), by decide +kernel, by decide +kernel⟩
theorem kX10_41 : Cond.classLink RX10 41 "PressHall$Archive" ∈ xv_tbl := (xv_tbl_mem 112 (by decide +kernel) rfl)
theorem lX10_43 : Cond.methodLink RX10 43 mX1_init.1 ∈ xv_tbl := (xv_tbl_mem 114 (by decide +kernel) rfl)
theorem lX1_3 : Cond.methodLink RX1 3 Lib.objectInit ∈ xv_tbl := (xv_tbl_mem 117 (by decide +kernel) rfl)
theorem kX1_9 : Cond.classLink RX1 9 "[[I" ∈ xv_tbl := (xv_tbl_mem 118 (by decide +kernel) rfl)
theorem gX1_11 : xv_G RX1 11 1 0 := ⟨RX1, TX1, 5, rfl, by decide, inX1, Or.inl (xv_tbl_mem 119 (by decide +kernel) rfl)⟩
theorem gX1_16 : xv_G RX1 16 1 1 := ⟨RX1, TX1, 5, rfl, by decide, inX1, Or.inl (xv_tbl_mem 120 (by decide +kernel) rfl)⟩
theorem gX1_23 : xv_G RX1 23 1 2 := ⟨RX1, TX1, 5, rfl, by decide, inX1, Or.inl (xv_tbl_mem 121 (by decide +kernel) rfl)⟩
theorem gX10_282 : xv_G RX10 282 1 2 := ⟨RX1, TX1, 5, rfl, by decide, inX1, Or.inr ⟨"PressHall", (xv_tbl_mem 122 (by decide +kernel) rfl)⟩⟩
theorem gX1_20 : xv_G RX1 20 1 3 := ⟨RX1, TX1, 5, rfl, by decide, inX1, Or.inl (xv_tbl_mem 123 (by decide +kernel) rfl)⟩
theorem gX1_46 : xv_G RX1 46 1 4 := ⟨RX1, TX1, 5, rfl, by decide, inX1, Or.inl (xv_tbl_mem 124 (by decide +kernel) rfl)⟩
theorem gX10_279 : xv_G RX10 279 1 4 := ⟨RX1, TX1, 5, rfl, by decide, inX1, Or.inr ⟨"PressHall", (xv_tbl_mem 125 (by decide +kernel) rfl)⟩⟩
theorem nX10_48 : xv_N RX10 48 7 3 := ⟨RX7, TX7, rfl, inX7, (xv_tbl_mem 137 (by decide +kernel) rfl), (xv_tbl_mem 138 (by decide +kernel) rfl), (xv_tbl_mem 6 (by decide +kernel) rfl), by decide +kernel, by decide +kernel⟩
theorem kX10_48 : Cond.classLink RX10 48 "PressHall$Trucks" ∈ xv_tbl := (xv_tbl_mem 137 (by decide +kernel) rfl)
theorem lX10_50 : Cond.methodLink RX10 50 mX7_init.1 ∈ xv_tbl := (xv_tbl_mem 139 (by decide +kernel) rfl)
theorem lX7_3 : Cond.methodLink RX7 3 Lib.objectInit ∈ xv_tbl := (xv_tbl_mem 142 (by decide +kernel) rfl)
theorem gX7_9 : xv_G RX7 9 7 0 := ⟨RX7, TX7, 3, rfl, by decide, inX7, Or.inl (xv_tbl_mem 143 (by decide +kernel) rfl)⟩
theorem gX7_15 : xv_G RX7 15 7 1 := ⟨RX7, TX7, 3, rfl, by decide, inX7, Or.inl (xv_tbl_mem 144 (by decide +kernel) rfl)⟩
theorem nX10_55 : xv_N RX10 55 2 3 := ⟨RX2, TX2, rfl, inX2, (xv_tbl_mem 152 (by decide +kernel) rfl), (xv_tbl_mem 153 (by decide +kernel) rfl), (xv_tbl_mem 7 (by decide +kernel) rfl), by decide +kernel, by decide +kernel⟩
theorem kX10_55 : Cond.classLink RX10 55 "PressHall$Headline" ∈ xv_tbl := (xv_tbl_mem 152 (by decide +kernel) rfl)
theorem lX10_57 : Cond.methodLink RX10 57 mX2_init.1 ∈ xv_tbl := (xv_tbl_mem 154 (by decide +kernel) rfl)
theorem lX2_3 : Cond.methodLink RX2 3 Lib.objectInit ∈ xv_tbl := (xv_tbl_mem 157 (by decide +kernel) rfl)
theorem gX2_9 : xv_G RX2 9 2 0 := ⟨RX2, TX2, 3, rfl, by decide, inX2, Or.inl (xv_tbl_mem 158 (by decide +kernel) rfl)⟩
theorem gX2_15 : xv_G RX2 15 2 1 := ⟨RX2, TX2, 3, rfl, by decide, inX2, Or.inl (xv_tbl_mem 159 (by decide +kernel) rfl)⟩
theorem nX10_65 : xv_N RX10 65 9 3 := ⟨RX9, TX9, rfl, inX9, (xv_tbl_mem 167 (by decide +kernel) rfl), (xv_tbl_mem 168 (by decide +kernel) rfl), (xv_tbl_mem 8 (by decide +kernel) rfl), by decide +kernel, by decide +kernel⟩
theorem kX10_65 : Cond.classLink RX10 65 "PressHall$Wire" ∈ xv_tbl := (xv_tbl_mem 167 (by decide +kernel) rfl)
theorem lX10_67 : Cond.methodLink RX10 67 mX9_init.1 ∈ xv_tbl := (xv_tbl_mem 169 (by decide +kernel) rfl)
theorem lX9_3 : Cond.methodLink RX9 3 Lib.objectInit ∈ xv_tbl := (xv_tbl_mem 172 (by decide +kernel) rfl)
theorem gX9_9 : xv_G RX9 9 9 0 := ⟨RX9, TX9, 3, rfl, by decide, inX9, Or.inl (xv_tbl_mem 173 (by decide +kernel) rfl)⟩
theorem gX9_15 : xv_G RX9 15 9 1 := ⟨RX9, TX9, 3, rfl, by decide, inX9, Or.inl (xv_tbl_mem 174 (by decide +kernel) rfl)⟩
theorem nX10_72 : xv_N RX10 72 4 4 := ⟨RX4, TX4, rfl, inX4, (xv_tbl_mem 182 (by decide +kernel) rfl), (xv_tbl_mem 183 (by decide +kernel) rfl), (xv_tbl_mem 9 (by decide +kernel) rfl), by decide +kernel, by decide +kernel⟩
theorem kX10_72 : Cond.classLink RX10 72 "PressHall$Puzzle" ∈ xv_tbl := (xv_tbl_mem 182 (by decide +kernel) rfl)
theorem lX10_74 : Cond.methodLink RX10 74 mX4_init.1 ∈ xv_tbl := (xv_tbl_mem 184 (by decide +kernel) rfl)
theorem lX4_3 : Cond.methodLink RX4 3 Lib.objectInit ∈ xv_tbl := (xv_tbl_mem 187 (by decide +kernel) rfl)
theorem gX4_9 : xv_G RX4 9 4 0 := ⟨RX4, TX4, 4, rfl, by decide, inX4, Or.inl (xv_tbl_mem 188 (by decide +kernel) rfl)⟩
theorem gX4_15 : xv_G RX4 15 4 1 := ⟨RX4, TX4, 4, rfl, by decide, inX4, Or.inl (xv_tbl_mem 189 (by decide +kernel) rfl)⟩
theorem gX4_18 : xv_G RX4 18 4 2 := ⟨RX4, TX4, 4, rfl, by decide, inX4, Or.inl (xv_tbl_mem 190 (by decide +kernel) rfl)⟩
theorem gX4_21 : xv_G RX4 21 4 3 := ⟨RX4, TX4, 4, rfl, by decide, inX4, Or.inl (xv_tbl_mem 191 (by decide +kernel) rfl)⟩
theorem gX10_10 : xv_G RX10 10 10 0 := ⟨RX10, TX10, 14, rfl, by decide, inX10, Or.inl (xv_tbl_mem 201 (by decide +kernel) rfl)⟩
theorem gX10_16 : xv_G RX10 16 10 1 := ⟨RX10, TX10, 14, rfl, by decide, inX10, Or.inl (xv_tbl_mem 202 (by decide +kernel) rfl)⟩
theorem gX10_22 : xv_G RX10 22 10 2 := ⟨RX10, TX10, 14, rfl, by decide, inX10, Or.inl (xv_tbl_mem 203 (by decide +kernel) rfl)⟩
theorem gX10_117 : xv_G RX10 117 10 3 := ⟨RX10, TX10, 14, rfl, by decide, inX10, Or.inl (xv_tbl_mem 204 (by decide +kernel) rfl)⟩
theorem gX10_28 : xv_G RX10 28 10 4 := ⟨RX10, TX10, 14, rfl, by decide, inX10, Or.inl (xv_tbl_mem 205 (by decide +kernel) rfl)⟩
theorem gX10_187 : xv_G RX10 187 10 5 := ⟨RX10, TX10, 14, rfl, by decide, inX10, Or.inl (xv_tbl_mem 206 (by decide +kernel) rfl)⟩
theorem gX10_37 : xv_G RX10 37 10 6 := ⟨RX10, TX10, 14, rfl, by decide, inX10, Or.inl (xv_tbl_mem 207 (by decide +kernel) rfl)⟩
theorem gX10_44 : xv_G RX10 44 10 7 := ⟨RX10, TX10, 14, rfl, by decide, inX10, Or.inl (xv_tbl_mem 208 (by decide +kernel) rfl)⟩
theorem gX10_51 : xv_G RX10 51 10 8 := ⟨RX10, TX10, 14, rfl, by decide, inX10, Or.inl (xv_tbl_mem 209 (by decide +kernel) rfl)⟩
theorem gX10_287 : xv_G RX10 287 10 9 := ⟨RX10, TX10, 14, rfl, by decide, inX10, Or.inl (xv_tbl_mem 210 (by decide +kernel) rfl)⟩
theorem gX10_58 : xv_G RX10 58 10 10 := ⟨RX10, TX10, 14, rfl, by decide, inX10, Or.inl (xv_tbl_mem 211 (by decide +kernel) rfl)⟩
theorem gX10_62 : xv_G RX10 62 10 11 := ⟨RX10, TX10, 14, rfl, by decide, inX10, Or.inl (xv_tbl_mem 212 (by decide +kernel) rfl)⟩
theorem gX10_68 : xv_G RX10 68 10 12 := ⟨RX10, TX10, 14, rfl, by decide, inX10, Or.inl (xv_tbl_mem 213 (by decide +kernel) rfl)⟩
theorem gX10_75 : xv_G RX10 75 10 13 := ⟨RX10, TX10, 14, rfl, by decide, inX10, Or.inl (xv_tbl_mem 214 (by decide +kernel) rfl)⟩
theorem lL_110 : Cond.methodLink RL 110 mX10_touched.1 ∈ xv_tbl := (xv_tbl_mem 244 (by decide +kernel) rfl)
theorem lL_138 : Cond.methodLink RL 138 mL_part.1 ∈ xv_tbl ∨ (mL_part.2.2.2.2 = [] ∧ ∃ host, Cond.methodLinkNest RL 138 mL_part.1 host ∈ xv_tbl) := Or.inl (xv_tbl_mem 248 (by decide +kernel) rfl)
theorem lL_113 : Cond.methodLink RL 113 mL_does.1 ∈ xv_tbl ∨ (mL_does.2.2.2.2 = [] ∧ ∃ host, Cond.methodLinkNest RL 113 mL_does.1 host ∈ xv_tbl) := Or.inl (xv_tbl_mem 252 (by decide +kernel) rfl)
theorem kL_86 : Cond.classLink RL 86 "java/lang/IndexOutOfBoundsException" ∈ xv_tbl := (xv_tbl_mem 255 (by decide +kernel) rfl)
theorem kL_88 : Cond.classLink RL 88 "java/lang/IllegalArgumentException" ∈ xv_tbl := (xv_tbl_mem 256 (by decide +kernel) rfl)
theorem kL_90 : Cond.classLink RL 90 "java/lang/IllegalStateException" ∈ xv_tbl := (xv_tbl_mem 257 (by decide +kernel) rfl)
theorem lL_8 : Cond.methodLink RL 8 mL_paged.1 ∈ xv_tbl ∨ (mL_paged.2.2.2.2 = [] ∧ ∃ host, Cond.methodLinkNest RL 8 mL_paged.1 host ∈ xv_tbl) := Or.inl (xv_tbl_mem 258 (by decide +kernel) rfl)
theorem lL_92 : Cond.methodLink RL 92 mX10_page.1 ∈ xv_tbl := (xv_tbl_mem 261 (by decide +kernel) rfl)
theorem lX10_79 : Cond.methodLink RX10 79 mX10_needPage.1 ∈ xv_tbl ∨ (mX10_needPage.2.2.2.2 = [] ∧ ∃ host, Cond.methodLinkNest RX10 79 mX10_needPage.1 host ∈ xv_tbl) := Or.inl (xv_tbl_mem 265 (by decide +kernel) rfl)
theorem lX10_392 : Cond.methodLink RX10 392 mX10_isPage.1 ∈ xv_tbl ∨ (mX10_isPage.2.2.2.2 = [] ∧ ∃ host, Cond.methodLinkNest RX10 392 mX10_isPage.1 host ∈ xv_tbl) := Or.inl (xv_tbl_mem 268 (by decide +kernel) rfl)
theorem kX10_172 : Cond.classLink RX10 172 "java/lang/IndexOutOfBoundsException" ∈ xv_tbl := (xv_tbl_mem 271 (by decide +kernel) rfl)
theorem lX10_83 : Cond.methodLink RX10 83 mX10_needRange.1 ∈ xv_tbl ∨ (mX10_needRange.2.2.2.2 = [] ∧ ∃ host, Cond.methodLinkNest RX10 83 mX10_needRange.1 host ∈ xv_tbl) := Or.inl (xv_tbl_mem 339 (by decide +kernel) rfl)
theorem kX10_381 : Cond.classLink RX10 381 "java/lang/IllegalArgumentException" ∈ xv_tbl := (xv_tbl_mem 342 (by decide +kernel) rfl)
theorem lX10_87 : Cond.methodLink RX10 87 mX5_isBare.1 ∈ xv_tbl := (xv_tbl_mem 358 (by decide +kernel) rfl)
theorem lX5_48 : Cond.methodLink RX5 48 mX5_at.1 ∈ xv_tbl := (xv_tbl_mem 362 (by decide +kernel) rfl)
theorem lX5_34 : Cond.methodLink RX5 34 mX10_isPage.1 ∈ xv_tbl ∨ (mX10_isPage.2.2.2.2 = [] ∧ ∃ host, Cond.methodLinkNest RX5 34 mX10_isPage.1 host ∈ xv_tbl) := Or.inr ⟨rfl, "PressHall", (xv_tbl_mem 366 (by decide +kernel) rfl)⟩
theorem lX5_38 : Cond.methodLink RX5 38 mX10_isCell.1 ∈ xv_tbl ∨ (mX10_isCell.2.2.2.2 = [] ∧ ∃ host, Cond.methodLinkNest RX5 38 mX10_isCell.1 host ∈ xv_tbl) := Or.inr ⟨rfl, "PressHall", (xv_tbl_mem 367 (by decide +kernel) rfl)⟩
theorem kX10_91 : Cond.classLink RX10 91 "java/lang/IllegalStateException" ∈ xv_tbl := (xv_tbl_mem 370 (by decide +kernel) rfl)
theorem lX10_98 : Cond.methodLink RX10 98 mX5_setKind.1 ∈ xv_tbl := (xv_tbl_mem 386 (by decide +kernel) rfl)
theorem lL_14 : Cond.methodLink RL 14 mX10_cell.1 ∈ xv_tbl := (xv_tbl_mem 390 (by decide +kernel) rfl)
theorem lX10_102 : Cond.methodLink RX10 102 mX10_needCell.1 ∈ xv_tbl ∨ (mX10_needCell.2.2.2.2 = [] ∧ ∃ host, Cond.methodLinkNest RX10 102 mX10_needCell.1 host ∈ xv_tbl) := Or.inl (xv_tbl_mem 394 (by decide +kernel) rfl)
theorem lX10_397 : Cond.methodLink RX10 397 mX10_isCell.1 ∈ xv_tbl ∨ (mX10_isCell.2.2.2.2 = [] ∧ ∃ host, Cond.methodLinkNest RX10 397 mX10_isCell.1 host ∈ xv_tbl) := Or.inl (xv_tbl_mem 397 (by decide +kernel) rfl)
theorem lX10_105 : Cond.methodLink RX10 105 mX5_at.1 ∈ xv_tbl := (xv_tbl_mem 399 (by decide +kernel) rfl)
theorem lL_20 : Cond.methodLink RL 20 mX10_distance.1 ∈ xv_tbl := (xv_tbl_mem 400 (by decide +kernel) rfl)
theorem lX10_113 : Cond.methodLink RX10 113 mX10_distanceOf.1 ∈ xv_tbl := (xv_tbl_mem 404 (by decide +kernel) rfl)
theorem lL_23 : Cond.methodLink RL 23 mX10_advert.1 ∈ xv_tbl := (xv_tbl_mem 408 (by decide +kernel) rfl)
theorem lX10_122 : Cond.methodLink RX10 122 mX0_init.1 ∈ xv_tbl := (xv_tbl_mem 414 (by decide +kernel) rfl)
theorem lX0_3 : Cond.methodLink RX0 3 Lib.objectInit ∈ xv_tbl := (xv_tbl_mem 417 (by decide +kernel) rfl)
theorem gX0_9 : xv_G RX0 9 0 0 := ⟨RX0, TX0, 8, rfl, by decide, inX0, Or.inl (xv_tbl_mem 418 (by decide +kernel) rfl)⟩
theorem gX10_426 : xv_G RX10 426 0 0 := ⟨RX0, TX0, 8, rfl, by decide, inX0, Or.inr ⟨"PressHall", (xv_tbl_mem 419 (by decide +kernel) rfl)⟩⟩
theorem gX0_15 : xv_G RX0 15 0 1 := ⟨RX0, TX0, 8, rfl, by decide, inX0, Or.inl (xv_tbl_mem 420 (by decide +kernel) rfl)⟩
theorem gX10_146 : xv_G RX10 146 0 1 := ⟨RX0, TX0, 8, rfl, by decide, inX0, Or.inr ⟨"PressHall", (xv_tbl_mem 421 (by decide +kernel) rfl)⟩⟩
theorem gX5_65 : xv_G RX5 65 0 1 := ⟨RX0, TX0, 8, rfl, by decide, inX0, Or.inr ⟨"PressHall", (xv_tbl_mem 422 (by decide +kernel) rfl)⟩⟩
theorem gX0_18 : xv_G RX0 18 0 2 := ⟨RX0, TX0, 8, rfl, by decide, inX0, Or.inl (xv_tbl_mem 423 (by decide +kernel) rfl)⟩
theorem gX10_149 : xv_G RX10 149 0 2 := ⟨RX0, TX0, 8, rfl, by decide, inX0, Or.inr ⟨"PressHall", (xv_tbl_mem 424 (by decide +kernel) rfl)⟩⟩
theorem gX5_60 : xv_G RX5 60 0 2 := ⟨RX0, TX0, 8, rfl, by decide, inX0, Or.inr ⟨"PressHall", (xv_tbl_mem 425 (by decide +kernel) rfl)⟩⟩
theorem gX0_21 : xv_G RX0 21 0 3 := ⟨RX0, TX0, 8, rfl, by decide, inX0, Or.inl (xv_tbl_mem 426 (by decide +kernel) rfl)⟩
theorem gX10_416 : xv_G RX10 416 0 3 := ⟨RX0, TX0, 8, rfl, by decide, inX0, Or.inr ⟨"PressHall", (xv_tbl_mem 427 (by decide +kernel) rfl)⟩⟩
theorem gX0_25 : xv_G RX0 25 0 4 := ⟨RX0, TX0, 8, rfl, by decide, inX0, Or.inl (xv_tbl_mem 428 (by decide +kernel) rfl)⟩
theorem gX10_415 : xv_G RX10 415 0 4 := ⟨RX0, TX0, 8, rfl, by decide, inX0, Or.inr ⟨"PressHall", (xv_tbl_mem 429 (by decide +kernel) rfl)⟩⟩
theorem gX0_28 : xv_G RX0 28 0 5 := ⟨RX0, TX0, 8, rfl, by decide, inX0, Or.inl (xv_tbl_mem 430 (by decide +kernel) rfl)⟩
theorem gX0_31 : xv_G RX0 31 0 6 := ⟨RX0, TX0, 8, rfl, by decide, inX0, Or.inl (xv_tbl_mem 431 (by decide +kernel) rfl)⟩
theorem gX10_177 : xv_G RX10 177 0 6 := ⟨RX0, TX0, 8, rfl, by decide, inX0, Or.inr ⟨"PressHall", (xv_tbl_mem 432 (by decide +kernel) rfl)⟩⟩
theorem gX5_68 : xv_G RX5 68 0 6 := ⟨RX0, TX0, 8, rfl, by decide, inX0, Or.inr ⟨"PressHall", (xv_tbl_mem 433 (by decide +kernel) rfl)⟩⟩
theorem gX0_34 : xv_G RX0 34 0 7 := ⟨RX0, TX0, 8, rfl, by decide, inX0, Or.inl (xv_tbl_mem 434 (by decide +kernel) rfl)⟩
theorem gX5_71 : xv_G RX5 71 0 7 := ⟨RX0, TX0, 8, rfl, by decide, inX0, Or.inr ⟨"PressHall", (xv_tbl_mem 435 (by decide +kernel) rfl)⟩⟩
theorem lL_27 : Cond.methodLink RL 27 mX10_place.1 ∈ xv_tbl := (xv_tbl_mem 453 (by decide +kernel) rfl)
theorem lX10_125 : Cond.methodLink RX10 125 mX10_needAdvert.1 ∈ xv_tbl := (xv_tbl_mem 457 (by decide +kernel) rfl)
theorem lX10_129 : Cond.methodLink RX10 129 mX0_isPlaced.1 ∈ xv_tbl := (xv_tbl_mem 462 (by decide +kernel) rfl)
theorem lX10_135 : Cond.methodLink RX10 135 mX0_lowestPage.1 ∈ xv_tbl := (xv_tbl_mem 467 (by decide +kernel) rfl)
theorem lX10_139 : Cond.methodLink RX10 139 mX0_highestPage.1 ∈ xv_tbl := (xv_tbl_mem 471 (by decide +kernel) rfl)
theorem lX10_142 : Cond.methodLink RX10 142 mX10_fits.1 ∈ xv_tbl := (xv_tbl_mem 475 (by decide +kernel) rfl)
theorem lX10_318 : Cond.methodLink RX10 318 mX5_sectionOf.1 ∈ xv_tbl := (xv_tbl_mem 479 (by decide +kernel) rfl)
theorem lX10_420 : Cond.methodLink RX10 420 mX5_hasColour.1 ∈ xv_tbl := (xv_tbl_mem 483 (by decide +kernel) rfl)
theorem lX10_423 : Cond.methodLink RX10 423 mX10_isFarFromItsLike.1 ∈ xv_tbl := (xv_tbl_mem 487 (by decide +kernel) rfl)
theorem lX10_429 : Cond.methodLink RX10 429 mX10_pagesApart.1 ∈ xv_tbl ∨ (mX10_pagesApart.2.2.2.2 = [] ∧ ∃ host, Cond.methodLinkNest RX10 429 mX10_pagesApart.1 host ∈ xv_tbl) := Or.inl (xv_tbl_mem 491 (by decide +kernel) rfl)
theorem lX10_412 : Cond.methodLink RX10 412 mX10_isZonePage.1 ∈ xv_tbl ∨ (mX10_isZonePage.2.2.2.2 = [] ∧ ∃ host, Cond.methodLinkNest RX10 412 mX10_isZonePage.1 host ∈ xv_tbl) := Or.inl (xv_tbl_mem 494 (by decide +kernel) rfl)
theorem lX10_152 : Cond.methodLink RX10 152 mX5_freeRectangle.1 ∈ xv_tbl := (xv_tbl_mem 497 (by decide +kernel) rfl)
theorem lX5_56 : Cond.methodLink RX5 56 mX5_isFreeRectangle.1 ∈ xv_tbl := (xv_tbl_mem 501 (by decide +kernel) rfl)
theorem lX10_156 : Cond.methodLink RX10 156 mX0_putAt.1 ∈ xv_tbl := (xv_tbl_mem 505 (by decide +kernel) rfl)
theorem lX10_160 : Cond.methodLink RX10 160 mX5_fillRectangle.1 ∈ xv_tbl := (xv_tbl_mem 509 (by decide +kernel) rfl)
theorem lX5_52 : Cond.methodLink RX5 52 mX5_put.1 ∈ xv_tbl := (xv_tbl_mem 513 (by decide +kernel) rfl)
theorem lX5_44 : Cond.methodLink RX5 44 mX10_plateOf.1 ∈ xv_tbl ∨ (mX10_plateOf.2.2.2.2 = [] ∧ ∃ host, Cond.methodLinkNest RX5 44 mX10_plateOf.1 host ∈ xv_tbl) := Or.inr ⟨rfl, "PressHall", (xv_tbl_mem 517 (by decide +kernel) rfl)⟩
theorem lX10_164 : Cond.methodLink RX10 164 mX0_whereItIs.1 ∈ xv_tbl := (xv_tbl_mem 520 (by decide +kernel) rfl)
theorem lL_31 : Cond.methodLink RL 31 mX10_takeOff.1 ∈ xv_tbl := (xv_tbl_mem 524 (by decide +kernel) rfl)
theorem lX10_169 : Cond.methodLink RX10 169 mX5_freeAllOf.1 ∈ xv_tbl := (xv_tbl_mem 529 (by decide +kernel) rfl)
theorem lL_34 : Cond.methodLink RL 34 mX10_advertsIn.1 ∈ xv_tbl := (xv_tbl_mem 533 (by decide +kernel) rfl)
theorem lX10_180 : Cond.methodLink RX10 180 mX10_isInCopies.1 ∈ xv_tbl ∨ (mX10_isInCopies.2.2.2.2 = [] ∧ ∃ host, Cond.methodLinkNest RX10 180 mX10_isInCopies.1 host ∈ xv_tbl) := Or.inl (xv_tbl_mem 538 (by decide +kernel) rfl)
theorem lL_37 : Cond.methodLink RL 37 mX10_story.1 ∈ xv_tbl := (xv_tbl_mem 541 (by decide +kernel) rfl)
theorem lX10_184 : Cond.methodLink RX10 184 mX10_paragraphsOf.1 ∈ xv_tbl ∨ (mX10_paragraphsOf.2.2.2.2 = [] ∧ ∃ host, Cond.methodLinkNest RX10 184 mX10_paragraphsOf.1 host ∈ xv_tbl) := Or.inl (xv_tbl_mem 545 (by decide +kernel) rfl)
theorem lX10_192 : Cond.methodLink RX10 192 mX6_init.1 ∈ xv_tbl := (xv_tbl_mem 550 (by decide +kernel) rfl)
theorem lX6_3 : Cond.methodLink RX6 3 Lib.objectInit ∈ xv_tbl := (xv_tbl_mem 553 (by decide +kernel) rfl)
theorem nX6_24 : xv_N RX6 24 8 4 := ⟨RX8, TX8, rfl, inX8, (xv_tbl_mem 554 (by decide +kernel) rfl), (xv_tbl_mem 71 (by decide +kernel) rfl), (xv_tbl_mem 4 (by decide +kernel) rfl), by decide +kernel, by decide +kernel⟩
theorem kX6_24 : Cond.classLink RX6 24 "PressHall$Way" ∈ xv_tbl := (xv_tbl_mem 554 (by decide +kernel) rfl)
theorem lX6_26 : Cond.methodLink RX6 26 mX8_init.1 ∈ xv_tbl := (xv_tbl_mem 555 (by decide +kernel) rfl)
theorem gX6_9 : xv_G RX6 9 6 0 := ⟨RX6, TX6, 5, rfl, by decide, inX6, Or.inl (xv_tbl_mem 556 (by decide +kernel) rfl)⟩
theorem gX3_55 : xv_G RX3 55 6 0 := ⟨RX6, TX6, 5, rfl, by decide, inX6, Or.inr ⟨"PressHall", (xv_tbl_mem 557 (by decide +kernel) rfl)⟩⟩
theorem gX10_321 : xv_G RX10 321 6 0 := ⟨RX6, TX6, 5, rfl, by decide, inX6, Or.inr ⟨"PressHall", (xv_tbl_mem 558 (by decide +kernel) rfl)⟩⟩
theorem gX6_15 : xv_G RX6 15 6 1 := ⟨RX6, TX6, 5, rfl, by decide, inX6, Or.inl (xv_tbl_mem 559 (by decide +kernel) rfl)⟩
theorem gX6_18 : xv_G RX6 18 6 2 := ⟨RX6, TX6, 5, rfl, by decide, inX6, Or.inl (xv_tbl_mem 560 (by decide +kernel) rfl)⟩
theorem gX3_35 : xv_G RX3 35 6 2 := ⟨RX6, TX6, 5, rfl, by decide, inX6, Or.inr ⟨"PressHall", (xv_tbl_mem 561 (by decide +kernel) rfl)⟩⟩
theorem gX6_21 : xv_G RX6 21 6 3 := ⟨RX6, TX6, 5, rfl, by decide, inX6, Or.inl (xv_tbl_mem 562 (by decide +kernel) rfl)⟩
theorem gX3_40 : xv_G RX3 40 6 3 := ⟨RX6, TX6, 5, rfl, by decide, inX6, Or.inr ⟨"PressHall", (xv_tbl_mem 563 (by decide +kernel) rfl)⟩⟩
theorem gX6_27 : xv_G RX6 27 6 4 := ⟨RX6, TX6, 5, rfl, by decide, inX6, Or.inl (xv_tbl_mem 564 (by decide +kernel) rfl)⟩
theorem gX10_212 : xv_G RX10 212 6 4 := ⟨RX6, TX6, 5, rfl, by decide, inX6, Or.inr ⟨"PressHall", (xv_tbl_mem 565 (by decide +kernel) rfl)⟩⟩
theorem lL_41 : Cond.methodLink RL 41 mX10_lay.1 ∈ xv_tbl := (xv_tbl_mem 577 (by decide +kernel) rfl)
theorem lX10_195 : Cond.methodLink RX10 195 mX10_needStory.1 ∈ xv_tbl := (xv_tbl_mem 581 (by decide +kernel) rfl)
theorem lX10_315 : Cond.methodLink RX10 315 mX10_storyAt.1 ∈ xv_tbl := (xv_tbl_mem 585 (by decide +kernel) rfl)
theorem lX10_199 : Cond.methodLink RX10 199 mX6_isLaid.1 ∈ xv_tbl := (xv_tbl_mem 590 (by decide +kernel) rfl)
theorem lX10_204 : Cond.methodLink RX10 204 mX3_find.1 ∈ xv_tbl := (xv_tbl_mem 595 (by decide +kernel) rfl)
theorem lX3_32 : Cond.methodLink RX3 32 mX8_clear.1 ∈ xv_tbl := (xv_tbl_mem 599 (by decide +kernel) rfl)
theorem lX8_25 : Cond.methodLink RX8 25 mX8_setPart.1 ∈ xv_tbl := (xv_tbl_mem 603 (by decide +kernel) rfl)
theorem lX3_43 : Cond.methodLink RX3 43 mX3_tryOnePage.1 ∈ xv_tbl := (xv_tbl_mem 607 (by decide +kernel) rfl)
theorem lX3_51 : Cond.methodLink RX3 51 mX6_cellsFor.1 ∈ xv_tbl := (xv_tbl_mem 611 (by decide +kernel) rfl)
theorem lX6_32 : Cond.methodLink RX6 32 mX6_linesOfFirst.1 ∈ xv_tbl := (xv_tbl_mem 615 (by decide +kernel) rfl)
theorem lX3_58 : Cond.methodLink RX3 58 mX3_setRun.1 ∈ xv_tbl := (xv_tbl_mem 619 (by decide +kernel) rfl)
theorem lX3_65 : Cond.methodLink RX3 65 mX5_sectionOf.1 ∈ xv_tbl := (xv_tbl_mem 623 (by decide +kernel) rfl)
theorem lX3_71 : Cond.methodLink RX3 71 mX5_freeRun.1 ∈ xv_tbl := (xv_tbl_mem 624 (by decide +kernel) rfl)
theorem lX5_74 : Cond.methodLink RX5 74 mX10_cellInColumns.1 ∈ xv_tbl ∨ (mX10_cellInColumns.2.2.2.2 = [] ∧ ∃ host, Cond.methodLinkNest RX5 74 mX10_cellInColumns.1 host ∈ xv_tbl) := Or.inr ⟨rfl, "PressHall", (xv_tbl_mem 628 (by decide +kernel) rfl)⟩
theorem lX3_75 : Cond.methodLink RX3 75 mX8_setPart.1 ∈ xv_tbl := (xv_tbl_mem 631 (by decide +kernel) rfl)
theorem lX3_62 : Cond.methodLink RX3 62 mX3_keepIfCheaper.1 ∈ xv_tbl := (xv_tbl_mem 632 (by decide +kernel) rfl)
theorem lX3_79 : Cond.methodLink RX3 79 mX8_plates.1 ∈ xv_tbl := (xv_tbl_mem 636 (by decide +kernel) rfl)
theorem lX8_39 : Cond.methodLink RX8 39 mX10_plateOf.1 ∈ xv_tbl ∨ (mX10_plateOf.2.2.2.2 = [] ∧ ∃ host, Cond.methodLinkNest RX8 39 mX10_plateOf.1 host ∈ xv_tbl) := Or.inr ⟨rfl, "PressHall", (xv_tbl_mem 640 (by decide +kernel) rfl)⟩
theorem lX3_83 : Cond.methodLink RX3 83 mJ6_bitCount_0f7a4.1 ∈ xv_tbl ∨ (mJ6_bitCount_0f7a4.2.2.2.2 = [] ∧ ∃ host, Cond.methodLinkNest RX3 83 mJ6_bitCount_0f7a4.1 host ∈ xv_tbl) := Or.inl (xv_tbl_mem 641 (by decide +kernel) rfl)
theorem lX3_91 : Cond.methodLink RX3 91 mX8_copy.1 ∈ xv_tbl := (xv_tbl_mem 647 (by decide +kernel) rfl)
theorem lX8_29 : Cond.methodLink RX8 29 mX8_pageOf.1 ∈ xv_tbl := (xv_tbl_mem 651 (by decide +kernel) rfl)
theorem lX8_33 : Cond.methodLink RX8 33 mX8_start.1 ∈ xv_tbl := (xv_tbl_mem 655 (by decide +kernel) rfl)
theorem lX8_36 : Cond.methodLink RX8 36 mX8_size.1 ∈ xv_tbl := (xv_tbl_mem 659 (by decide +kernel) rfl)
theorem lX3_48 : Cond.methodLink RX3 48 mX3_tryTwoPages.1 ∈ xv_tbl := (xv_tbl_mem 663 (by decide +kernel) rfl)
theorem lX10_208 : Cond.methodLink RX10 208 mX10_putOut.1 ∈ xv_tbl := (xv_tbl_mem 667 (by decide +kernel) rfl)
theorem lX10_435 : Cond.methodLink RX10 435 mX8_copy.1 ∈ xv_tbl := (xv_tbl_mem 671 (by decide +kernel) rfl)
theorem lX10_242 : Cond.methodLink RX10 242 mX8_start.1 ∈ xv_tbl := (xv_tbl_mem 672 (by decide +kernel) rfl)
theorem lX10_236 : Cond.methodLink RX10 236 mX8_size.1 ∈ xv_tbl := (xv_tbl_mem 673 (by decide +kernel) rfl)
theorem lX10_239 : Cond.methodLink RX10 239 mX8_pageOf.1 ∈ xv_tbl := (xv_tbl_mem 674 (by decide +kernel) rfl)
theorem lX10_245 : Cond.methodLink RX10 245 mX10_cellInColumns.1 ∈ xv_tbl ∨ (mX10_cellInColumns.2.2.2.2 = [] ∧ ∃ host, Cond.methodLinkNest RX10 245 mX10_cellInColumns.1 host ∈ xv_tbl) := Or.inl (xv_tbl_mem 675 (by decide +kernel) rfl)
theorem lX10_327 : Cond.methodLink RX10 327 mX5_put.1 ∈ xv_tbl := (xv_tbl_mem 676 (by decide +kernel) rfl)
theorem lL_44 : Cond.methodLink RL 44 mX10_lift.1 ∈ xv_tbl := (xv_tbl_mem 677 (by decide +kernel) rfl)
theorem lX10_223 : Cond.methodLink RX10 223 mX8_clear.1 ∈ xv_tbl := (xv_tbl_mem 682 (by decide +kernel) rfl)
theorem lL_47 : Cond.methodLink RL 47 mX10_change.1 ∈ xv_tbl := (xv_tbl_mem 683 (by decide +kernel) rfl)
theorem lX10_228 : Cond.methodLink RX10 228 mX5_platesOf.1 ∈ xv_tbl := (xv_tbl_mem 688 (by decide +kernel) rfl)
theorem lX10_231 : Cond.methodLink RX10 231 mJ6_bitCount_0f7a4.1 ∈ xv_tbl ∨ (mJ6_bitCount_0f7a4.2.2.2.2 = [] ∧ ∃ host, Cond.methodLinkNest RX10 231 mJ6_bitCount_0f7a4.1 host ∈ xv_tbl) := Or.inl (xv_tbl_mem 692 (by decide +kernel) rfl)
theorem lL_50 : Cond.methodLink RL 50 mX10_part.1 ∈ xv_tbl := (xv_tbl_mem 693 (by decide +kernel) rfl)
theorem lL_53 : Cond.methodLink RL 53 mX10_person.1 ∈ xv_tbl := (xv_tbl_mem 697 (by decide +kernel) rfl)
theorem lX10_248 : Cond.methodLink RX10 248 mX10_needPerson.1 ∈ xv_tbl ∨ (mX10_needPerson.2.2.2.2 = [] ∧ ∃ host, Cond.methodLinkNest RX10 248 mX10_needPerson.1 host ∈ xv_tbl) := Or.inl (xv_tbl_mem 701 (by decide +kernel) rfl)
theorem lX10_251 : Cond.methodLink RX10 251 mX5_isThere.1 ∈ xv_tbl := (xv_tbl_mem 705 (by decide +kernel) rfl)
theorem lX10_254 : Cond.methodLink RX10 254 mX5_letLeave.1 ∈ xv_tbl := (xv_tbl_mem 709 (by decide +kernel) rfl)
theorem lX10_257 : Cond.methodLink RX10 257 mX5_letComeBack.1 ∈ xv_tbl := (xv_tbl_mem 713 (by decide +kernel) rfl)
theorem lL_57 : Cond.methodLink RL 57 mX10_sign.1 ∈ xv_tbl := (xv_tbl_mem 717 (by decide +kernel) rfl)
theorem lX10_260 : Cond.methodLink RX10 260 mX5_hasSigned.1 ∈ xv_tbl := (xv_tbl_mem 721 (by decide +kernel) rfl)
theorem lX10_265 : Cond.methodLink RX10 265 mX5_addSignature.1 ∈ xv_tbl := (xv_tbl_mem 726 (by decide +kernel) rfl)
theorem lX5_77 : Cond.methodLink RX5 77 mJ6_bitCount_0f7a4.1 ∈ xv_tbl ∨ (mJ6_bitCount_0f7a4.2.2.2.2 = [] ∧ ∃ host, Cond.methodLinkNest RX5 77 mJ6_bitCount_0f7a4.1 host ∈ xv_tbl) := Or.inl (xv_tbl_mem 730 (by decide +kernel) rfl)
theorem lL_60 : Cond.methodLink RL 60 mX10_hold.1 ∈ xv_tbl := (xv_tbl_mem 731 (by decide +kernel) rfl)
theorem lX10_270 : Cond.methodLink RX10 270 mX5_turnHold.1 ∈ xv_tbl := (xv_tbl_mem 736 (by decide +kernel) rfl)
theorem lL_64 : Cond.methodLink RL 64 mX10_isReady.1 ∈ xv_tbl := (xv_tbl_mem 740 (by decide +kernel) rfl)
theorem lX10_273 : Cond.methodLink RX10 273 mX5_canGo.1 ∈ xv_tbl := (xv_tbl_mem 744 (by decide +kernel) rfl)
theorem lX5_82 : Cond.methodLink RX5 82 mX5_isBare.1 ∈ xv_tbl := (xv_tbl_mem 748 (by decide +kernel) rfl)
theorem lL_67 : Cond.methodLink RL 67 mX10_close.1 ∈ xv_tbl := (xv_tbl_mem 749 (by decide +kernel) rfl)
theorem lX10_276 : Cond.methodLink RX10 276 mX5_canAllGo.1 ∈ xv_tbl := (xv_tbl_mem 753 (by decide +kernel) rfl)
theorem lX5_85 : Cond.methodLink RX5 85 mX5_canGo.1 ∈ xv_tbl := (xv_tbl_mem 757 (by decide +kernel) rfl)
theorem lX10_290 : Cond.methodLink RX10 290 mX1_keep.1 ∈ xv_tbl := (xv_tbl_mem 759 (by decide +kernel) rfl)
theorem lX1_27 : Cond.methodLink RX1 27 mX5_at.1 ∈ xv_tbl := (xv_tbl_mem 763 (by decide +kernel) rfl)
theorem lL_71 : Cond.methodLink RL 71 mX10_printed.1 ∈ xv_tbl := (xv_tbl_mem 764 (by decide +kernel) rfl)
theorem lX10_294 : Cond.methodLink RX10 294 mX10_needEdition.1 ∈ xv_tbl := (xv_tbl_mem 768 (by decide +kernel) rfl)
theorem lX10_297 : Cond.methodLink RX10 297 mX1_at.1 ∈ xv_tbl := (xv_tbl_mem 773 (by decide +kernel) rfl)
theorem lX1_33 : Cond.methodLink RX1 33 mX1_isKept.1 ∈ xv_tbl := (xv_tbl_mem 777 (by decide +kernel) rfl)
theorem lX1_37 : Cond.methodLink RX1 37 mX10_isPage.1 ∈ xv_tbl ∨ (mX10_isPage.2.2.2.2 = [] ∧ ∃ host, Cond.methodLinkNest RX1 37 mX10_isPage.1 host ∈ xv_tbl) := Or.inr ⟨rfl, "PressHall", (xv_tbl_mem 781 (by decide +kernel) rfl)⟩
theorem lX1_40 : Cond.methodLink RX1 40 mX10_isCell.1 ∈ xv_tbl ∨ (mX10_isCell.2.2.2.2 = [] ∧ ∃ host, Cond.methodLinkNest RX1 40 mX10_isCell.1 host ∈ xv_tbl) := Or.inr ⟨rfl, "PressHall", (xv_tbl_mem 782 (by decide +kernel) rfl)⟩
theorem lL_74 : Cond.methodLink RL 74 mX10_correct.1 ∈ xv_tbl := (xv_tbl_mem 783 (by decide +kernel) rfl)
theorem lX10_299 : Cond.methodLink RX10 299 mX1_has.1 ∈ xv_tbl := (xv_tbl_mem 787 (by decide +kernel) rfl)
theorem lX1_43 : Cond.methodLink RX1 43 mX1_at.1 ∈ xv_tbl := (xv_tbl_mem 791 (by decide +kernel) rfl)
theorem lX10_302 : Cond.methodLink RX10 302 mX1_owes.1 ∈ xv_tbl := (xv_tbl_mem 792 (by decide +kernel) rfl)
theorem lX10_307 : Cond.methodLink RX10 307 mX1_addOwed.1 ∈ xv_tbl := (xv_tbl_mem 797 (by decide +kernel) rfl)
theorem lL_77 : Cond.methodLink RL 77 mX10_placeCorrection.1 ∈ xv_tbl := (xv_tbl_mem 801 (by decide +kernel) rfl)
theorem lX10_312 : Cond.methodLink RX10 312 mX1_longestOwed.1 ∈ xv_tbl := (xv_tbl_mem 806 (by decide +kernel) rfl)
theorem lX10_324 : Cond.methodLink RX10 324 mX5_lowestFree.1 ∈ xv_tbl := (xv_tbl_mem 810 (by decide +kernel) rfl)
theorem lX10_330 : Cond.methodLink RX10 330 mX1_dropLongestOwed.1 ∈ xv_tbl := (xv_tbl_mem 814 (by decide +kernel) rfl)
theorem lL_80 : Cond.methodLink RL 80 mX10_clean.1 ∈ xv_tbl := (xv_tbl_mem 818 (by decide +kernel) rfl)
theorem lL_83 : Cond.methodLink RL 83 mX10_pass.1 ∈ xv_tbl := (xv_tbl_mem 822 (by decide +kernel) rfl)
theorem lL_96 : Cond.methodLink RL 96 mL_cell.1 ∈ xv_tbl ∨ (mL_cell.2.2.2.2 = [] ∧ ∃ host, Cond.methodLinkNest RL 96 mL_cell.1 host ∈ xv_tbl) := Or.inl (xv_tbl_mem 826 (by decide +kernel) rfl)
theorem lL_157 : Cond.methodLink RL 157 mL_areCells.1 ∈ xv_tbl ∨ (mL_areCells.2.2.2.2 = [] ∧ ∃ host, Cond.methodLinkNest RL 157 mL_areCells.1 host ∈ xv_tbl) := Or.inl (xv_tbl_mem 829 (by decide +kernel) rfl)
theorem lL_99 : Cond.methodLink RL 99 mL_puts.1 ∈ xv_tbl ∨ (mL_puts.2.2.2.2 = [] ∧ ∃ host, Cond.methodLinkNest RL 99 mL_puts.1 host ∈ xv_tbl) := Or.inl (xv_tbl_mem 832 (by decide +kernel) rfl)
theorem lL_103 : Cond.methodLink RL 103 mL_count.1 ∈ xv_tbl ∨ (mL_count.2.2.2.2 = [] ∧ ∃ host, Cond.methodLinkNest RL 103 mL_count.1 host ∈ xv_tbl) := Or.inl (xv_tbl_mem 835 (by decide +kernel) rfl)
theorem lL_106 : Cond.methodLink RL 106 mL_inColumns.1 ∈ xv_tbl ∨ (mL_inColumns.2.2.2.2 = [] ∧ ∃ host, Cond.methodLinkNest RL 106 mL_inColumns.1 host ∈ xv_tbl) := Or.inl (xv_tbl_mem 838 (by decide +kernel) rfl)
theorem lL_143 : Cond.methodLink RL 143 mL_isAdvert.1 ∈ xv_tbl ∨ (mL_isAdvert.2.2.2.2 = [] ∧ ∃ host, Cond.methodLinkNest RL 143 mL_isAdvert.1 host ∈ xv_tbl) := Or.inl (xv_tbl_mem 841 (by decide +kernel) rfl)
theorem lL_122 : Cond.methodLink RL 122 mL_placeFor.1 ∈ xv_tbl ∨ (mL_placeFor.2.2.2.2 = [] ∧ ∃ host, Cond.methodLinkNest RL 122 mL_placeFor.1 host ∈ xv_tbl) := Or.inl (xv_tbl_mem 845 (by decide +kernel) rfl)
theorem lL_118 : Cond.methodLink RL 118 mL_isFar.1 ∈ xv_tbl ∨ (mL_isFar.2.2.2.2 = [] ∧ ∃ host, Cond.methodLinkNest RL 118 mL_isFar.1 host ∈ xv_tbl) := Or.inl (xv_tbl_mem 848 (by decide +kernel) rfl)
theorem lL_147 : Cond.methodLink RL 147 mL_isStory.1 ∈ xv_tbl ∨ (mL_isStory.2.2.2.2 = [] ∧ ∃ host, Cond.methodLinkNest RL 147 mL_isStory.1 host ∈ xv_tbl) := Or.inl (xv_tbl_mem 851 (by decide +kernel) rfl)
theorem lL_126 : Cond.methodLink RL 126 mL_lines.1 ∈ xv_tbl ∨ (mL_lines.2.2.2.2 = [] ∧ ∃ host, Cond.methodLinkNest RL 126 mL_lines.1 host ∈ xv_tbl) := Or.inl (xv_tbl_mem 854 (by decide +kernel) rfl)
theorem lL_129 : Cond.methodLink RL 129 mL_fitsIn.1 ∈ xv_tbl ∨ (mL_fitsIn.2.2.2.2 = [] ∧ ∃ host, Cond.methodLinkNest RL 129 mL_fitsIn.1 host ∈ xv_tbl) := Or.inl (xv_tbl_mem 857 (by decide +kernel) rfl)
theorem lL_133 : Cond.methodLink RL 133 mL_laid.1 ∈ xv_tbl ∨ (mL_laid.2.2.2.2 = [] ∧ ∃ host, Cond.methodLinkNest RL 133 mL_laid.1 host ∈ xv_tbl) := Or.inl (xv_tbl_mem 860 (by decide +kernel) rfl)
theorem lL_151 : Cond.methodLink RL 151 mL_isSigned.1 ∈ xv_tbl ∨ (mL_isSigned.2.2.2.2 = [] ∧ ∃ host, Cond.methodLinkNest RL 151 mL_isSigned.1 host ∈ xv_tbl) := Or.inl (xv_tbl_mem 863 (by decide +kernel) rfl)
theorem lL_154 : Cond.methodLink RL 154 mL_isClosed.1 ∈ xv_tbl ∨ (mL_isClosed.2.2.2.2 = [] ∧ ∃ host, Cond.methodLinkNest RL 154 mL_isClosed.1 host ∈ xv_tbl) := Or.inl (xv_tbl_mem 866 (by decide +kernel) rfl)
theorem xv_objw : Cond.instanceMethod Lib.objectInit ∈ xv_tbl ∧ Cond.code Lib.objectInit ⟨#[0xb1]⟩ 1 none ∈ xv_tbl := ⟨(xv_tbl_mem 25 (by decide +kernel) rfl), (xv_tbl_mem 26 (by decide +kernel) rfl)⟩
theorem xv_ao_a : Cond.arrayOver (.array .int) ∈ xv_tbl := (xv_tbl_mem 34 (by decide +kernel) rfl)
theorem xv_ac_int : Cond.arrayClass .int ∈ xv_tbl := (xv_tbl_mem 58 (by decide +kernel) rfl)
theorem xv_ac_boolean : Cond.arrayClass .boolean ∈ xv_tbl := (xv_tbl_mem 59 (by decide +kernel) rfl)
theorem xv_ao_0 : Cond.arrayOver (.object "PressHall$Advert") ∈ xv_tbl := (xv_tbl_mem 61 (by decide +kernel) rfl)
theorem xv_ao_6 : Cond.arrayOver (.object "PressHall$Story") ∈ xv_tbl := (xv_tbl_mem 63 (by decide +kernel) rfl)
theorem xv_ac_byte : Cond.arrayClass .byte ∈ xv_tbl := (xv_tbl_mem 338 (by decide +kernel) rfl)
theorem hX10_93 : xv_H RX10 91 93 95 "java/lang/IllegalStateException" := ⟨by decide +kernel, (xv_tbl_mem 370 (by decide +kernel) rfl), (xv_tbl_mem 15 (by decide +kernel) rfl), ⟨_, List.mem_of_getElem? (i := 2) rfl⟩, xv_atsin (by decide +kernel) (by decide +kernel), List.all_eq_true.mp (by decide +kernel)⟩
theorem hX10_120 : xv_H RX10 91 120 95 "java/lang/IllegalStateException" := ⟨by decide +kernel, (xv_tbl_mem 370 (by decide +kernel) rfl), (xv_tbl_mem 15 (by decide +kernel) rfl), ⟨_, List.mem_of_getElem? (i := 4) rfl⟩, xv_atsin (by decide +kernel) (by decide +kernel), List.all_eq_true.mp (by decide +kernel)⟩
theorem hX10_133 : xv_H RX10 91 133 95 "java/lang/IllegalStateException" := ⟨by decide +kernel, (xv_tbl_mem 370 (by decide +kernel) rfl), (xv_tbl_mem 15 (by decide +kernel) rfl), ⟨_, List.mem_of_getElem? (i := 6) rfl⟩, xv_atsin (by decide +kernel) (by decide +kernel), List.all_eq_true.mp (by decide +kernel)⟩
theorem hX10_167 : xv_H RX10 91 167 95 "java/lang/IllegalStateException" := ⟨by decide +kernel, (xv_tbl_mem 370 (by decide +kernel) rfl), (xv_tbl_mem 15 (by decide +kernel) rfl), ⟨_, List.mem_of_getElem? (i := 7) rfl⟩, xv_atsin (by decide +kernel) (by decide +kernel), List.all_eq_true.mp (by decide +kernel)⟩
theorem hX10_174 : xv_H RX10 172 174 176 "java/lang/IndexOutOfBoundsException" := ⟨by decide +kernel, (xv_tbl_mem 271 (by decide +kernel) rfl), (xv_tbl_mem 13 (by decide +kernel) rfl), ⟨_, List.mem_of_getElem? (i := 8) rfl⟩, xv_atsin (by decide +kernel) (by decide +kernel), List.all_eq_true.mp (by decide +kernel)⟩
theorem hX10_190 : xv_H RX10 91 190 95 "java/lang/IllegalStateException" := ⟨by decide +kernel, (xv_tbl_mem 370 (by decide +kernel) rfl), (xv_tbl_mem 15 (by decide +kernel) rfl), ⟨_, List.mem_of_getElem? (i := 9) rfl⟩, xv_atsin (by decide +kernel) (by decide +kernel), List.all_eq_true.mp (by decide +kernel)⟩
theorem hX10_202 : xv_H RX10 91 202 95 "java/lang/IllegalStateException" := ⟨by decide +kernel, (xv_tbl_mem 370 (by decide +kernel) rfl), (xv_tbl_mem 15 (by decide +kernel) rfl), ⟨_, List.mem_of_getElem? (i := 11) rfl⟩, xv_atsin (by decide +kernel) (by decide +kernel), List.all_eq_true.mp (by decide +kernel)⟩
theorem hX10_221 : xv_H RX10 91 221 95 "java/lang/IllegalStateException" := ⟨by decide +kernel, (xv_tbl_mem 370 (by decide +kernel) rfl), (xv_tbl_mem 15 (by decide +kernel) rfl), ⟨_, List.mem_of_getElem? (i := 12) rfl⟩, xv_atsin (by decide +kernel) (by decide +kernel), List.all_eq_true.mp (by decide +kernel)⟩
theorem hX10_226 : xv_H RX10 91 226 95 "java/lang/IllegalStateException" := ⟨by decide +kernel, (xv_tbl_mem 370 (by decide +kernel) rfl), (xv_tbl_mem 15 (by decide +kernel) rfl), ⟨_, List.mem_of_getElem? (i := 13) rfl⟩, xv_atsin (by decide +kernel) (by decide +kernel), List.all_eq_true.mp (by decide +kernel)⟩
theorem hX10_263 : xv_H RX10 91 263 95 "java/lang/IllegalStateException" := ⟨by decide +kernel, (xv_tbl_mem 370 (by decide +kernel) rfl), (xv_tbl_mem 15 (by decide +kernel) rfl), ⟨_, List.mem_of_getElem? (i := 15) rfl⟩, xv_atsin (by decide +kernel) (by decide +kernel), List.all_eq_true.mp (by decide +kernel)⟩
theorem hX10_268 : xv_H RX10 91 268 95 "java/lang/IllegalStateException" := ⟨by decide +kernel, (xv_tbl_mem 370 (by decide +kernel) rfl), (xv_tbl_mem 15 (by decide +kernel) rfl), ⟨_, List.mem_of_getElem? (i := 16) rfl⟩, xv_atsin (by decide +kernel) (by decide +kernel), List.all_eq_true.mp (by decide +kernel)⟩
theorem hX10_285 : xv_H RX10 91 285 95 "java/lang/IllegalStateException" := ⟨by decide +kernel, (xv_tbl_mem 370 (by decide +kernel) rfl), (xv_tbl_mem 15 (by decide +kernel) rfl), ⟨_, List.mem_of_getElem? (i := 17) rfl⟩, xv_atsin (by decide +kernel) (by decide +kernel), List.all_eq_true.mp (by decide +kernel)⟩
theorem hX10_305 : xv_H RX10 91 305 95 "java/lang/IllegalStateException" := ⟨by decide +kernel, (xv_tbl_mem 370 (by decide +kernel) rfl), (xv_tbl_mem 15 (by decide +kernel) rfl), ⟨_, List.mem_of_getElem? (i := 19) rfl⟩, xv_atsin (by decide +kernel) (by decide +kernel), List.all_eq_true.mp (by decide +kernel)⟩
theorem hX10_310 : xv_H RX10 91 310 95 "java/lang/IllegalStateException" := ⟨by decide +kernel, (xv_tbl_mem 370 (by decide +kernel) rfl), (xv_tbl_mem 15 (by decide +kernel) rfl), ⟨_, List.mem_of_getElem? (i := 20) rfl⟩, xv_atsin (by decide +kernel) (by decide +kernel), List.all_eq_true.mp (by decide +kernel)⟩
theorem hX10_395 : xv_H RX10 172 395 176 "java/lang/IndexOutOfBoundsException" := ⟨by decide +kernel, (xv_tbl_mem 271 (by decide +kernel) rfl), (xv_tbl_mem 13 (by decide +kernel) rfl), ⟨_, List.mem_of_getElem? (i := 0) rfl⟩, xv_atsin (by decide +kernel) (by decide +kernel), List.all_eq_true.mp (by decide +kernel)⟩
theorem hX10_400 : xv_H RX10 172 400 176 "java/lang/IndexOutOfBoundsException" := ⟨by decide +kernel, (xv_tbl_mem 271 (by decide +kernel) rfl), (xv_tbl_mem 13 (by decide +kernel) rfl), ⟨_, List.mem_of_getElem? (i := 3) rfl⟩, xv_atsin (by decide +kernel) (by decide +kernel), List.all_eq_true.mp (by decide +kernel)⟩
theorem hX10_402 : xv_H RX10 172 402 176 "java/lang/IndexOutOfBoundsException" := ⟨by decide +kernel, (xv_tbl_mem 271 (by decide +kernel) rfl), (xv_tbl_mem 13 (by decide +kernel) rfl), ⟨_, List.mem_of_getElem? (i := 14) rfl⟩, xv_atsin (by decide +kernel) (by decide +kernel), List.all_eq_true.mp (by decide +kernel)⟩
theorem hX10_404 : xv_H RX10 381 404 385 "java/lang/IllegalArgumentException" := ⟨by decide +kernel, (xv_tbl_mem 342 (by decide +kernel) rfl), (xv_tbl_mem 14 (by decide +kernel) rfl), ⟨_, List.mem_of_getElem? (i := 1) rfl⟩, xv_atsin (by decide +kernel) (by decide +kernel), List.all_eq_true.mp (by decide +kernel)⟩
theorem hX10_406 : xv_H RX10 172 406 176 "java/lang/IndexOutOfBoundsException" := ⟨by decide +kernel, (xv_tbl_mem 271 (by decide +kernel) rfl), (xv_tbl_mem 13 (by decide +kernel) rfl), ⟨_, List.mem_of_getElem? (i := 18) rfl⟩, xv_atsin (by decide +kernel) (by decide +kernel), List.all_eq_true.mp (by decide +kernel)⟩
theorem hX10_408 : xv_H RX10 172 408 176 "java/lang/IndexOutOfBoundsException" := ⟨by decide +kernel, (xv_tbl_mem 271 (by decide +kernel) rfl), (xv_tbl_mem 13 (by decide +kernel) rfl), ⟨_, List.mem_of_getElem? (i := 5) rfl⟩, xv_atsin (by decide +kernel) (by decide +kernel), List.all_eq_true.mp (by decide +kernel)⟩
theorem hX10_410 : xv_H RX10 172 410 176 "java/lang/IndexOutOfBoundsException" := ⟨by decide +kernel, (xv_tbl_mem 271 (by decide +kernel) rfl), (xv_tbl_mem 13 (by decide +kernel) rfl), ⟨_, List.mem_of_getElem? (i := 10) rfl⟩, xv_atsin (by decide +kernel) (by decide +kernel), List.all_eq_true.mp (by decide +kernel)⟩
end
section
set_option maxRecDepth 1000000 in
theorem YL_areCells : xv_Y mL_areCells 9 := ⟨(xv_tbl_mem 831 (by rfl) rfl), (xv_tbl_mem 0 (by decide +kernel) rfl), by decide +kernel, by decide +kernel, by decide +kernel, by decide⟩
set_option maxRecDepth 1000000 in
theorem YL_isAdvert : xv_Y mL_isAdvert 11 := ⟨(xv_tbl_mem 843 (by rfl) rfl), (xv_tbl_mem 0 (by decide +kernel) rfl), by decide +kernel, by decide +kernel, by decide +kernel, by decide⟩
set_option maxRecDepth 1000000 in
theorem YL_isStory : xv_Y mL_isStory 6 := ⟨(xv_tbl_mem 853 (by rfl) rfl), (xv_tbl_mem 0 (by decide +kernel) rfl), by decide +kernel, by decide +kernel, by decide +kernel, by decide⟩
set_option maxRecDepth 1000000 in
theorem YL_isClosed : xv_Y mL_isClosed 11 := ⟨(xv_tbl_mem 868 (by rfl) rfl), (xv_tbl_mem 0 (by decide +kernel) rfl), by decide +kernel, by decide +kernel, by decide +kernel, by decide⟩
end
