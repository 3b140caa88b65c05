/-! ===== THE VIRTUAL LAYER: a world of numbered cells, whatever their addresses. A cell is an object (its class's place in vwCl), an array (type, length), or the law's script (read only). Its contents: I (ints), Rf (references, by numbers), J (longs). ===== -/
abbrev xv_S : Type := Nat ⊕ ((FieldType × Nat) ⊕ Nat)
abbrev xv_Sh : Type := Nat → Option xv_S
abbrev xv_I : Type := Nat → Nat → Int32
abbrev xv_Rf : Type := Nat → Nat → Option Nat
abbrev xv_J : Type := Nat → Nat → Int64
abbrev xv_O : Type := Option Value ⊕ String
abbrev xv_Q : Type := xv_O → xv_Sh → xv_I → xv_Rf → xv_J → Prop
/-- a method: its name, code, locals, type of its answer, table of handlers -/
abbrev xv_M : Type := MethodName × ByteArray × Nat × Option FieldType × List (Nat × Nat × Nat × Nat)
/-- a value of numbers, and one of addresses -/
def xv_tr (ad : Nat → Nat) (v : Value) : Value := match v with
  | .ref a => .ref (ad a)
  | w => w
theorem xv_tr_rf (ad : Nat → Nat) (o : Option Nat) : xv_tr ad (va_rf o) = va_rf (o.map ad) := by cases o <;> rfl
theorem xv_tr_cat (ad : Nat → Nat) (v : Value) : (xv_tr ad v).category = v.category := by cases v <;> rfl
def xv_ok (sh : xv_Sh) (v : Value) : Prop := match v with
  | .ref a => sh a ≠ none
  | _ => True
theorem xv_ok_rf {sh : xv_Sh} {o : Option Nat} (h : ∀ w, o = some w → sh w ≠ none) : xv_ok sh (va_rf o) := by
  cases o with
  | none => trivial
  | some w => exact h w rfl
theorem xv_tr_ext {sh : xv_Sh} {ad ad' : Nat → Nat} (h : ∀ v, sh v ≠ none → ad' v = ad v) {v : Value} (hv : xv_ok sh v) : xv_tr ad' v = xv_tr ad v := by
  cases v with
  | ref a => show Value.ref (ad' a) = Value.ref (ad a); rw [h a hv]
  | _ => rfl
/-- one place of one cell gets something -/
def xv_u {α : Type} (f : Nat → Nat → α) (v k : Nat) (x : α) : Nat → Nat → α := fun w j => if w = v ∧ j = k then x else f w j
theorem xv_u_eq {α : Type} (f : Nat → Nat → α) (v k : Nat) (x : α) : xv_u f v k x v k = x := by simp [xv_u]
theorem xv_u_ne {α : Type} (f : Nat → Nat → α) {v k : Nat} (x : α) {w : Nat} (j : Nat) (h : w ≠ v) : xv_u f v k x w j = f w j := by simp [xv_u, h]
theorem xv_u_nk {α : Type} (f : Nat → Nat → α) {v k : Nat} (x : α) (w : Nat) {j : Nat} (h : j ≠ k) : xv_u f v k x w j = f w j := by simp [xv_u, h]
def xv_us (sh : xv_Sh) (v : Nat) (x : xv_S) : xv_Sh := fun w => if w = v then some x else sh w
/-- the type of a field, by its class's place and its own -/
def xv_ft (ci : Nat) : Nat → FieldType := match ci with
  | 0 => tyX0
  | 1 => tyX1
  | 2 => tyX2
  | 3 => tyX3
  | 4 => tyX4
  | 5 => tyX5
  | 6 => tyX6
  | 7 => tyX7
  | 8 => tyX8
  | 9 => tyX9
  | 10 => tyX10
  | _ => tyX11
def xv_sl (ad : Nat → Nat) (I : xv_I) (Rf : xv_Rf) (ci v k : Nat) : Value := if (xv_ft ci k).isReference = true then va_rf ((Rf v k).map ad) else .int (I v k)
def xv_el (ad : Nat → Nat) (I : xv_I) (Rf : xv_Rf) (J : xv_J) (ty : FieldType) (v j : Nat) : Value := match ty with
  | .long => .long (J v j)
  | .object _ => va_rf ((Rf v j).map ad)
  | .array _ => va_rf ((Rf v j).map ad)
  | _ => .int (I v j)
/-- what a cell is on the heap -/
def xv_at (s : State) (D : va_G) (ad : Nat → Nat) (ca : Nat → ClassId) (I : xv_I) (Rf : xv_Rf) (J : xv_J) (H : Heap) (v : Nat) (x : xv_S) : Prop := match x with
  | .inl ci => ∃ r : vw_C, vwCl[ci]? = some r ∧ t_OB (ad v) (D.1 ci) r.2.2 (D.2 ci) H (xv_sl ad I Rf ci v)
  | .inr (.inl q) => H[ad v]? = some (arrV (ca v) q.2 (xv_el ad I Rf J q.1 v)) ∧ ArrOfT s (ca v) q.1 ∧ va_RA s (ca v) q.1
  | .inr (.inr n) => va_X (ad v) n (I v) s H
theorem xv_at.kept {s : State} {D : va_G} {ad : Nat → Nat} {ca : Nat → ClassId} {I : xv_I} {Rf : xv_Rf} {J : xv_J} {H H1 : Heap} {v : Nat} {x : xv_S} (h : xv_at s D ad ca I Rf J H v x) (hq : H1[ad v]? = H[ad v]?) : xv_at s D ad ca I Rf J H1 v x := by
  rcases x with ci | q | n
  · obtain ⟨r, h1, h2⟩ := h
    exact ⟨r, h1, h2.kept hq⟩
  · exact ⟨hq.trans h.1, h.2⟩
  · exact va_X.kept h hq
theorem xv_at.moved {s U : State} {D : va_G} {ad : Nat → Nat} {ca : Nat → ClassId} {I : xv_I} {Rf : xv_Rf} {J : xv_J} {H : Heap} {v : Nat} {x : xv_S} (hvm : s.vm.Alike U.vm) (h : xv_at s D ad ca I Rf J H v x) : xv_at U D ad ca I Rf J H v x := by
  rcases x with ci | q | n
  · exact h
  · exact ⟨h.1, arrOfT_moved hvm h.2.1, va_RA.moved hvm h.2.2⟩
  · exact va_X.moved hvm h
theorem xv_at.lt {s : State} {D : va_G} {ad : Nat → Nat} {ca : Nat → ClassId} {I : xv_I} {Rf : xv_Rf} {J : xv_J} {H : Heap} {v : Nat} {x : xv_S} (h : xv_at s D ad ca I Rf J H v x) : ad v < H.size := by
  rcases x with ci | q | n
  · obtain ⟨r, h1, cell, h2, -⟩ := h
    exact (Array.getElem?_eq_some_iff.mp h2).1
  · exact (Array.getElem?_eq_some_iff.mp h.1).1
  · obtain ⟨scr, h2, -⟩ := h
    exact (Array.getElem?_eq_some_iff.mp h2).1
theorem xv_at.cong {s : State} {D : va_G} {ad ad' : Nat → Nat} {ca ca' : Nat → ClassId} {I I' : xv_I} {Rf Rf' : xv_Rf} {J J' : xv_J} {H : Heap} {v : Nat} {x : xv_S} (h : xv_at s D ad ca I Rf J H v x)
    (h1 : ad' v = ad v) (h2 : ca' v = ca v) (h3 : ∀ k, I' v k = I v k) (h4 : ∀ k, Rf' v k = Rf v k) (h5 : ∀ k, J' v k = J v k) (h6 : ∀ k w, Rf v k = some w → ad' w = ad w) : xv_at s D ad' ca' I' Rf' J' H v x := by
  have h7 : ∀ k, (Rf' v k).map ad' = (Rf v k).map ad := fun k => by
    rw [h4 k]
    cases hk : Rf v k with
    | none => rfl
    | some w => show some (ad' w) = some (ad w); rw [h6 k w hk]
  rcases x with ci | q | n
  · obtain ⟨r, e1, e2⟩ := h
    refine ⟨r, e1, ?_⟩
    rw [h1]
    refine e2.to fun k _ => ?_
    show xv_sl ad I Rf ci v k = xv_sl ad' I' Rf' ci v k
    unfold xv_sl
    rw [h7 k, h3 k]
  · refine ⟨?_, by rw [h2]; exact h.2.1, by rw [h2]; exact h.2.2⟩
    rw [h1, h2]
    have : xv_el ad' I' Rf' J' q.1 v = xv_el ad I Rf J q.1 v := by
      funext j
      unfold xv_el
      rw [h7 j, h3 j, h5 j]
    rw [this]
    exact h.1
  · show va_X (ad' v) n (I' v) s H
    rw [h1, show I' v = I v from funext h3]
    exact h
/-- the world -/
def xv_R (s : State) (D : va_G) (ad : Nat → Nat) (ca : Nat → ClassId) (sh : xv_Sh) (I : xv_I) (Rf : xv_Rf) (J : xv_J) (H : Heap) : Prop :=
  (∀ v x, sh v = some x → xv_at s D ad ca I Rf J H v x) ∧ (∀ v w, sh v ≠ none → sh w ≠ none → ad v = ad w → v = w) ∧ ∀ v k w, sh v ≠ none → Rf v k = some w → sh w ≠ none
theorem xv_R.moved {s U : State} {D : va_G} {ad : Nat → Nat} {ca : Nat → ClassId} {sh : xv_Sh} {I : xv_I} {Rf : xv_Rf} {J : xv_J} {H : Heap} (hvm : s.vm.Alike U.vm) (h : xv_R s D ad ca sh I Rf J H) : xv_R U D ad ca sh I Rf J H :=
  ⟨fun v x hx => (h.1 v x hx).moved hvm, h.2⟩
/-- cells that may be written -/
def xv_w (sh : xv_Sh) (v : Nat) : Prop := ∃ x : xv_S, sh v = some x ∧ ∀ n : Nat, x ≠ .inr (.inr n)
def xv_A (sh : xv_Sh) (ad : Nat → Nat) (sz : Nat) : Nat → Prop := fun q => (∃ v, xv_w sh v ∧ q = ad v) ∨ sz ≤ q
def xv_X (sh : xv_Sh) (ad : Nat → Nat) (ca : Nat → ClassId) (sh' : xv_Sh) (ad' : Nat → Nat) (ca' : Nat → ClassId) : Prop := ∀ v, sh v ≠ none → sh' v = sh v ∧ ad' v = ad v ∧ ca' v = ca v
theorem xv_X.rf {sh : xv_Sh} {ad : Nat → Nat} {ca : Nat → ClassId} : xv_X sh ad ca sh ad ca := fun _ _ => ⟨rfl, rfl, rfl⟩
theorem xv_X.tr {sh sh1 sh2 : xv_Sh} {ad ad1 ad2 : Nat → Nat} {ca ca1 ca2 : Nat → ClassId} (h : xv_X sh ad ca sh1 ad1 ca1) (h2 : xv_X sh1 ad1 ca1 sh2 ad2 ca2) : xv_X sh ad ca sh2 ad2 ca2 := fun v hv => by
  obtain ⟨a, b, c⟩ := h v hv
  obtain ⟨a', b', c'⟩ := h2 v (by rw [a]; exact hv)
  exact ⟨a'.trans a, b'.trans b, c'.trans c⟩
/-- the texts of the exceptions: class, place in its pool, text -/
def xv_strs : List (String × Nat × String) := [("PressHall", 395, "no such page"), ("PressHall", 404, "an argument is out of range"), ("PressHall", 93, "a cell of the page is taken"), ("PressHall", 400, "no such cell"), ("PressHall", 120, "there are 20 advertisements"), ("PressHall", 408, "no such advertisement"), ("PressHall", 133, "the advertisement is placed"), ("PressHall", 167, "the advertisement is not placed"), ("PressHall", 174, "no such zone"), ("PressHall", 190, "there are 20 stories"), ("PressHall", 410, "no such story"), ("PressHall", 202, "the story is laid out"), ("PressHall", 221, "the story is not laid out"), ("PressHall", 226, "the old story is not laid out, or the fresh one is"), ("PressHall", 402, "no such person"), ("PressHall", 263, "the person has left, or has signed it"), ("PressHall", 268, "the person has left"), ("PressHall", 285, "no edition can be closed now"), ("PressHall", 406, "no such edition"), ("PressHall", 305, "the edition has no such story, one of it is owed, or 5 are"), ("PressHall", 310, "no correction is owed")]
/-- pairs of exceptions that are not each other's -/
def xv_ncs : List (String × String) := [("java/lang/IllegalArgumentException", "java/lang/IndexOutOfBoundsException"), ("java/lang/IllegalStateException", "java/lang/IndexOutOfBoundsException"), ("java/lang/IllegalStateException", "java/lang/IllegalArgumentException")]
/-- what the throws need of the heap that isn't the world's -/
def xv_E (A : Nat → Prop) (U : State) (H : Heap) : Prop :=
  vx_Zq Bundle.tN "UNASSIGNED_STACK" Bundle.steD A U H ∧ vx_Zq Bundle.tN "SUPPRESSED_SENTINEL" Bundle.listD A U H ∧ (∀ q ∈ xv_strs, ∃ sa, vk_R q.1 q.2.1 q.2.2 sa U) ∧ ∀ q ∈ xv_ncs, va_Nc q.1 q.2 U
theorem xv_E.warm {A B : Nat → Prop} {s U : State} {H H1 : Heap} (hW : s.WarmedH U.vm) (h : xv_E A s H) (hq : ∀ a : Nat, a < H.size → ¬ A a → H1[a]? = H[a]?) (hAB : ∀ q, B q → A q) : xv_E B U H1 :=
  ⟨(vx_Zq.moved hW.alike (h.1.kept hq)).narrow hAB, (vx_Zq.moved hW.alike (h.2.1.kept hq)).narrow hAB, fun q hm => by
    obtain ⟨sa, h9⟩ := h.2.2.1 q hm
    exact ⟨sa, vk_R.warm hW h9⟩, fun q hm => va_Nc.moved hW.alike (h.2.2.2 q hm)⟩
/-- the words that every method of the system is given -/
def xv_g (w : Cond) : Bool := goodWord w || match w with
  | .fieldLinkNest .. => true
  | .methodLinkNest .. => true
  | .declares _ => true
  | .castable .. => true
  | .arrayOver (.object _) => true
  | .arrayOver (.array .int) => true
  | _ => false
theorem xv_AOA {t : FieldType} {u U : State} (hvm : u.vm.Alike U.vm) (h : (Cond.arrayOver (.array t)).before #[] u = true) : (Cond.arrayOver (.array t)).before #[] U = true := by
  obtain ⟨comp, c, k, h1, h2, h3, h4, h5⟩ := arrayOverA_spec h
  obtain ⟨k', hk', he⟩ := hvm.2.2 _ _ h3
  have hi : (U.vm.classes.findIdx? fun (x : Class) => match x.kind with | .array component _ => component == comp | _ => false) = some c := by
    have e1 := va_idx_bare U.vm comp
    have e2 := va_idx_bare u.vm comp
    have e3 : U.vm.bare = u.vm.bare := by first | exact hvm.bare_eq | exact hvm.bare_eq.symm
    rw [e3] at e1
    exact e1.symm.trans (e2.trans h2)
  have hkind : k'.kind = .array comp (.array t) := by rw [he]; exact h4
  have f1 : U.vm.findClass (FieldType.array t).toString = some comp := by rw [hvm.findClass]; exact h1
  have f2 : U.vm.findClass ("[" ++ (FieldType.array t).toString) = some c := by rw [hvm.findClass]; exact h5
  unfold Cond.before Cond.holds
  simp only [Cond.value]
  rw [f1, Option.bind_some]
  refine (congrArg (fun o : Option Nat => (o.bind (fun c => (U.vm.classes[c]?).map fun (k : Class) => match k.kind with | .array _ ty => decide (ty = FieldType.array t) && decide (U.vm.findClass ("[" ++ (FieldType.array t).toString) = some c) | _ => false) == some true)) hi).trans ?_
  simp [hk', hkind, f2]
theorem xv_warm {w : Cond} (hg : xv_g w = true) {args a' : Array Value} {s U : State} (hW : s.WarmedH U.vm) (h : w.before args s = true) : w.before a' U = true := by
  by_cases h9 : goodWord w = true
  · exact word_at hW (good_of_word h9) h
  · unfold xv_g at hg
    rw [show goodWord w = false from by cases hq : goodWord w with | true => exact absurd hq h9 | false => rfl, Bool.false_or] at hg
    split at hg
    · exact va_Nw.use rfl (va_Nw.warmF hW (va_Nw.of rfl h))
    · exact va_Nw.use rfl (va_Nw.warmM hW (va_Nw.of rfl h))
    · exact va_Nw.use rfl (va_Nw.warmD hW (va_Nw.of rfl h))
    · exact va_Nw.use rfl (va_Nw.warmC hW (va_Nw.of rfl h))
    · exact va_AO.use (va_AO.moved hW.alike (va_AO.of h))
    · exact xv_AOA (t := .int) hW.alike h
    · cases hg
def xv_tbl : List Cond := lw_tbl.filter xv_g
def xv_cd (M : xv_M) : Cond := match M.2.2.2.2 with
  | [] => Cond.code M.1 M.2.1 M.2.2.1 M.2.2.2.1
  | hh => Cond.codeWith M.1 M.2.1 M.2.2.1 M.2.2.2.1 hh
theorem xv_cd_0 {M : xv_M} (h : M.2.2.2.2 = []) : xv_cd M = Cond.code M.1 M.2.1 M.2.2.1 M.2.2.2.1 := by unfold xv_cd; rw [h]
theorem xv_cd_1 {M : xv_M} (h : ¬ M.2.2.2.2 = []) : xv_cd M = Cond.codeWith M.1 M.2.1 M.2.2.1 M.2.2.2.1 M.2.2.2.2 := by
  unfold xv_cd
  split
  · next h9 => exact absurd h9 h
  · rfl
def xv_ws (M : xv_M) : List Cond := xv_cd M :: xv_tbl
theorem xv_tbl_mem {w : Cond} (n : Nat) (h : tables_1[n]? = some w) (hg : xv_g w = true) : w ∈ xv_tbl := List.mem_filter.mpr ⟨List.mem_append_right _ (List.mem_of_getElem? h), hg⟩
theorem xv_tbl_sel {w : Cond} (n : Nat) (h : (k2_sels lw_privs)[n]? = some w) (hg : xv_g w = true) : w ∈ xv_tbl := List.mem_filter.mpr ⟨List.mem_append_left _ (List.mem_of_getElem? h), hg⟩
theorem xv_tbl_good : ∀ w ∈ xv_tbl, xv_g w = true := fun _ h => (List.mem_filter.mp h).2
/-- a method's ends -/
def xv_QR (Q : xv_Q) (D : va_G) (sh : xv_Sh) (ad : Nat → Nat) (ca : Nat → ClassId) (A : Nat → Prop) : Array Value → State → Outcome → State → Prop := fun _ st o t =>
  ∃ (r : Option Value) (sh' : xv_Sh) (I' : xv_I) (Rf' : xv_Rf) (J' : xv_J) (ad' : Nat → Nat) (ca' : Nat → ClassId), o = .returned (r.map (xv_tr ad')) ∧ Q (.inl r) sh' I' Rf' J' ∧ (∀ x, r = some x → xv_ok sh' x) ∧ xv_R t D ad' ca' sh' I' Rf' J' t.heap ∧ xv_X sh ad ca sh' ad' ca' ∧ (∀ v, xv_w sh' v → A (ad' v)) ∧ va_F A st t
def xv_QX (Q : xv_Q) (D : va_G) (sh : xv_Sh) (ad : Nat → Nat) (ca : Nat → ClassId) (A : Nat → Prop) : String → State → State → Prop := fun E st t =>
  ∃ (sh' : xv_Sh) (I' : xv_I) (Rf' : xv_Rf) (J' : xv_J) (ad' : Nat → Nat) (ca' : Nat → ClassId), Q (.inr E) sh' I' Rf' J' ∧ xv_R t D ad' ca' sh' I' Rf' J' t.heap ∧ xv_X sh ad ca sh' ad' ca' ∧ (∀ v, xv_w sh' v → A (ad' v)) ∧ va_F A st t
/-- a method's start -/
def xv_P (D : va_G) (ad : Nat → Nat) (ca : Nat → ClassId) (sh : xv_Sh) (I : xv_I) (Rf : xv_Rf) (J : xv_J) (sz : Nat) (As : List Value) : Array Value → State → Prop := fun a U =>
  a = (As.map (xv_tr ad)).toArray ∧ (∀ v ∈ As, xv_ok sh v) ∧ U.heap.size = sz ∧ xv_R U D ad ca sh I Rf J U.heap ∧ va_K D vwCl [] U ∧ xv_E (xv_A sh ad sz) U U.heap
/-- THE CONTRACT of a method at a world and arguments: at most mc cells of ms slots come, d frames stand over it -/
def xv_Met (M : xv_M) (d mc ms : Nat) (sh : xv_Sh) (I : xv_I) (Rf : xv_Rf) (J : xv_J) (As : List Value) (Q : xv_Q) : Prop :=
  ∀ (l : Launch) (D : va_G) (ad : Nat → Nat) (ca : Nat → ClassId) (sz : Nat), l.stackTraces = false →
    vx_Met l M.1 (xv_ws M) { frames := d, cells := mc, slots := ms, locals := 40 * d } (xv_P D ad ca sh I Rf J sz As) (xv_QR Q D sh ad ca (xv_A sh ad sz)) (xv_QX Q D sh ad ca (xv_A sh ad sz)) mc ms (xv_A sh ad sz)
/-- what stays while a method runs -/
def xv_C (M : xv_M) (d mc ms : Nat) (p : Program) (l : Launch) (R : Room) (s : State) (m : MethodId) (args : Array Value) (meth : Method) (c : Code) (D : va_G) (A : Nat → Prop) : Prop :=
  p.tables.exec = Jvm.exec ∧ c.code = M.2.1 ∧ c.maxLocals = M.2.2.1 ∧ meth.sig.returnType = M.2.2.2.1 ∧ s.vm.findClass M.1.cls = some m.cls ∧ (∀ w ∈ xv_tbl, w.before args s = true) ∧ meth.locks = false ∧ meth.name = M.1.name ∧ l.stackTraces = false ∧ va_K D vwCl [] s ∧ xv_E A s s.heap ∧ (∀ q, s.heap.size ≤ q → A q) ∧
    c.exceptionTable.toList = tableOf M.2.2.2.2 ∧ d ≤ R.frames ∧ 40 * d ≤ R.locals ∧ mc ≤ R.cells ∧ ms ≤ R.slots
def xv_lv (ad : Nat → Nat) (L : List (Option Value)) : List (Nat × Value) := (List.range L.length).filterMap fun j => match L[j]? with
  | some (some w) => some (j, xv_tr ad w)
  | _ => none
/-- the locals -/
def xv_L (ad : Nat → Nat) (sh : xv_Sh) (nL : Nat) (ls : Array Slot) (L : List (Option Value)) : Prop := lv_has ls nL (xv_lv ad L) ∧ (∀ v, some v ∈ L → v.category = 1 ∧ xv_ok sh v) ∧ L.length = nL
theorem xv_lv_mem {ad : Nat → Nat} {L : List (Option Value)} {j : Nat} {w : Value} (h : L[j]? = some (some w)) : (j, xv_tr ad w) ∈ xv_lv ad L := by
  refine List.mem_filterMap.mpr ⟨j, List.mem_range.mpr (List.getElem?_eq_some_iff.mp h).1, ?_⟩
  rw [h]
theorem xv_lv_of {ad : Nat → Nat} {L : List (Option Value)} {q : Nat × Value} (h : q ∈ xv_lv ad L) : ∃ w, L[q.1]? = some (some w) ∧ q.2 = xv_tr ad w := by
  obtain ⟨j, -, hj⟩ := List.mem_filterMap.mp h
  split at hj
  · next w hw =>
    cases hj
    exact ⟨w, hw, rfl⟩
  · cases hj
theorem xv_L.get {ad : Nat → Nat} {sh : xv_Sh} {nL : Nat} {ls : Array Slot} {L : List (Option Value)} (h : xv_L ad sh nL ls L) {j : Nat} {w : Value} (hj : L[j]? = some (some w)) : ls[j]? = some (.val (xv_tr ad w)) := h.1.2.2 (j, xv_tr ad w) (xv_lv_mem hj)
theorem xv_L.ok {ad : Nat → Nat} {sh : xv_Sh} {nL : Nat} {ls : Array Slot} {L : List (Option Value)} (h : xv_L ad sh nL ls L) {j : Nat} {w : Value} (hj : L[j]? = some (some w)) : xv_ok sh w := (h.2.1 w (List.mem_of_getElem? hj)).2
theorem xv_L.set {ad : Nat → Nat} {sh : xv_Sh} {nL : Nat} {ls ls' : Array Slot} {L : List (Option Value)} (h : xv_L ad sh nL ls L) {i : Nat} {v : Value} (hv : v.category = 1) (ho : xv_ok sh v)
    (h' : lv_has ls' nL ((i, xv_tr ad v) :: (xv_lv ad L).filter (fun q => !(q.1 == i) && !(q.1 + 1 == i && q.2.category == 2)))) : xv_L ad sh nL ls' (L.set i (some v)) := by
  refine ⟨⟨h'.1, h'.2.1, fun q hq => h'.2.2 q ?_⟩, fun w hw => ?_, by rw [List.length_set]; exact h.2.2⟩
  · obtain ⟨w, hw, e⟩ := xv_lv_of hq
    obtain ⟨j, x⟩ := q
    dsimp only at hw e
    subst e
    by_cases hji : j = i
    · subst hji
      rw [List.getElem?_set_self' ] at hw
      cases hL : L[j]? with
      | none => rw [hL] at hw; cases hw
      | some z => rw [hL] at hw; cases hw; exact List.mem_cons_self
    · rw [List.getElem?_set_ne (Ne.symm hji)] at hw
      refine List.mem_cons_of_mem _ (List.mem_filter.mpr ⟨xv_lv_mem hw, ?_⟩)
      have hc := (h.2.1 w (List.mem_of_getElem? hw)).1
      simp [hji, xv_tr_cat, hc]
  · rcases List.mem_or_eq_of_mem_set hw with h9 | h9
    · exact h.2.1 w h9
    · cases h9
      exact ⟨hv, ho⟩
theorem xv_L.moved {ad ad' : Nat → Nat} {sh sh' : xv_Sh} {nL : Nat} {ls : Array Slot} {L : List (Option Value)} (h : xv_L ad sh nL ls L) (hs : ∀ v, sh v ≠ none → sh' v ≠ none ∧ ad' v = ad v) : xv_L ad' sh' nL ls L := by
  refine ⟨⟨h.1.1, h.1.2.1, fun q hq => ?_⟩, fun v hv => ⟨(h.2.1 v hv).1, ?_⟩, h.2.2⟩
  · obtain ⟨w, hw, e⟩ := xv_lv_of hq
    obtain ⟨j, x⟩ := q
    dsimp only at hw e
    subst e
    have h9 := h.get hw
    rw [xv_tr_ext (fun v hv => (hs v hv).2) (h.ok hw)]
    exact h9
  · have h9 := (h.2.1 v hv).2
    cases v with
    | ref a => exact (hs a h9).1
    | _ => trivial
theorem xv_okS {sh sh' : xv_Sh} {S : List Value} (h : ∀ v ∈ S, xv_ok sh v) (hs : ∀ v, sh v ≠ none → sh' v ≠ none) : ∀ v ∈ S, xv_ok sh' v := fun v hv => by
  have h9 := h v hv
  cases v with
  | ref a => exact hs a h9
  | _ => trivial
theorem xv_trS {sh : xv_Sh} {ad ad' : Nat → Nat} {S : List Value} (h : ∀ v ∈ S, xv_ok sh v) (hs : ∀ v, sh v ≠ none → ad' v = ad v) : S.map (xv_tr ad') = S.map (xv_tr ad) := List.map_congr_left fun v hv => xv_tr_ext hs (h v hv)
/-- THE JUDGEMENT: the method M, at pc with locals L and stack S over the world, comes to an end with Q; kc cells of ks slots may still come -/
def xv_W (M : xv_M) (d mc ms : Nat) (Q : xv_Q) (kc ks : Nat) (sh : xv_Sh) (I : xv_I) (Rf : xv_Rf) (J : xv_J) (pc : Nat) (L : List (Option Value)) (S : List Value) : Prop :=
  ∀ {p : Program} {l : Launch} {e : Env} {R : Room} {s : State} {m : MethodId} {args : Array Value} {below : List Frame} {meth : Method} {c : Code} {D : va_G} {A : Nat → Prop} {sh0 : xv_Sh} {ad0 : Nat → Nat} {ca0 : Nat → ClassId} {ad : Nat → Nat} {ca : Nat → ClassId} {H : Heap} {locs : List Loc} {cells slots : Nat} {ls : Array Slot},
    xv_C M d mc ms p l R s m args meth c D A → xv_X sh0 ad0 ca0 sh ad ca → (∀ v, xv_w sh v → A (ad v)) → xv_R s D ad ca sh I Rf J H → va_S A s.heap H locs → xv_L ad sh M.2.2.1 ls L → (∀ v ∈ S, xv_ok sh v) → cells + kc ≤ mc → slots + ks ≤ ms →
    W p l e R s m args below meth c H locs cells slots (vx_MQ below (xv_QR Q D sh0 ad0 ca0 A) (xv_QX Q D sh0 ad0 ca0 A) args s mc ms A) (F0 m pc ls (S.map (xv_tr ad)))
/-- an instruction of n bytes at pc, the next one at pc' -/
def xv_F (M : xv_M) (pc : Nat) (i : Instr) (n pc' : Nat) : Prop := decode M.2.1 pc = .ok (i, n) ∧ pc + n = pc'
/-- a branch -/
def xv_B (M : xv_M) (pc : Nat) (i : Int → Instr) (tgt pc' : Nat) : Prop := ∃ off : Int, decode M.2.1 pc = .ok (i off, 3) ∧ (pc : Int) + off = (tgt : Int) ∧ pc + 3 = pc'
theorem xv_ok_i {sh : xv_Sh} {S : List Value} (h : ∀ v ∈ S, xv_ok sh v) (x : Int32) : ∀ v ∈ Value.int x :: S, xv_ok sh v := List.forall_mem_cons.mpr ⟨trivial, h⟩
theorem xv_ok_l {sh : xv_Sh} {S : List Value} (h : ∀ v ∈ S, xv_ok sh v) (x : Int64) : ∀ v ∈ Value.long x :: S, xv_ok sh v := List.forall_mem_cons.mpr ⟨trivial, h⟩
theorem xv_ok_t {sh : xv_Sh} {S : List Value} {a : Value} (h : ∀ v ∈ a :: S, xv_ok sh v) : ∀ v ∈ S, xv_ok sh v := (List.forall_mem_cons.mp h).2
theorem xv_ok_h {sh : xv_Sh} {S : List Value} {a : Value} (h : ∀ v ∈ a :: S, xv_ok sh v) : xv_ok sh a := (List.forall_mem_cons.mp h).1
