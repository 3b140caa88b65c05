section XVN
variable {M : xv_M} {d mc ms kc ks : Nat} {Q : xv_Q} {sh : xv_Sh} {I : xv_I} {Rf : xv_Rf} {J : xv_J} {pc pc' tgt : Nat} {L : List (Option Value)} {S : List Value}
/-- one cell, all its places -/
def xv_z {α : Type} (f : Nat → Nat → α) (v : Nat) (x : α) : Nat → Nat → α := fun w j => if w = v then x else f w j
theorem xv_z_eq {α : Type} (f : Nat → Nat → α) (v : Nat) (x : α) (j : Nat) : xv_z f v x v j = x := by simp [xv_z]
theorem xv_z_ne {α : Type} (f : Nat → Nat → α) {v : Nat} (x : α) {w : Nat} (j : Nat) (h : w ≠ v) : xv_z f v x w j = f w j := by simp [xv_z, h]
theorem xv_us_eq (sh : xv_Sh) (v : Nat) (x : xv_S) : xv_us sh v x v = some x := by simp [xv_us]
theorem xv_us_ne (sh : xv_Sh) {v : Nat} (x : xv_S) {w : Nat} (h : w ≠ v) : xv_us sh v x w = sh w := by simp [xv_us, h]
/-- a new cell -/
theorem xv_R.nw {s : State} {D : va_G} {ad : Nat → Nat} {ca : Nat → ClassId} {sh : xv_Sh} {I I' : xv_I} {Rf Rf' : xv_Rf} {J J' : xv_J} {H H1 : Heap} {n : Nat} {x : xv_S} {cA : ClassId} (h : xv_R s D ad ca sh I Rf J H) (hv : sh n = none)
    (hn : xv_at s D (fun w => if w = n then H.size else ad w) (fun w => if w = n then cA else ca w) I' Rf' J' H1 n x) (oq : ∀ q, q < H.size → H1[q]? = H[q]?)
    (hI : ∀ w k, w ≠ n → I' w k = I w k) (hRf : ∀ w k, w ≠ n → Rf' w k = Rf w k) (hJ : ∀ w k, w ≠ n → J' w k = J w k) (hr : ∀ k, Rf' n k = none) : xv_R s D (fun w => if w = n then H.size else ad w) (fun w => if w = n then cA else ca w) (xv_us sh n x) I' Rf' J' H1 := by
  refine ⟨fun w y hy => ?_, fun w z hw hz e => ?_, fun w k z hw hz => ?_⟩
  · by_cases e : w = n
    · subst e
      rw [xv_us_eq] at hy
      cases hy
      exact hn
    · rw [xv_us_ne _ _ e] at hy
      refine ((h.1 w y hy).kept (oq _ (h.1 w y hy).lt)).cong (if_neg e) (if_neg e) (fun k => hI w k e) (fun k => hRf w k e) (fun k => hJ w k e) (fun k z hz => ?_)
      have hz2 : sh z ≠ none := h.2.2 w k z (by rw [hy]; simp) hz
      exact if_neg (fun q => hz2 (by rw [q]; exact hv))
  · by_cases e1 : w = n <;> by_cases e2 : z = n
    · rw [e1, e2]
    · subst e1
      rw [xv_us_ne _ _ e2] at hz
      obtain ⟨y, hy⟩ := Option.ne_none_iff_exists'.mp hz
      have := (h.1 z y hy).lt
      simp only [if_neg e2, if_true] at e
      omega
    · subst e2
      rw [xv_us_ne _ _ e1] at hw
      obtain ⟨y, hy⟩ := Option.ne_none_iff_exists'.mp hw
      have := (h.1 w y hy).lt
      simp only [if_neg e1, if_true] at e
      omega
    · rw [xv_us_ne _ _ e1] at hw
      rw [xv_us_ne _ _ e2] at hz
      simp only [if_neg e1, if_neg e2] at e
      exact h.2.1 w z hw hz e
  · by_cases e1 : w = n
    · subst e1
      rw [hr k] at hz
      cases hz
    · rw [xv_us_ne _ _ e1] at hw
      rw [hRf w k e1] at hz
      have hz2 := h.2.2 w k z hw hz
      by_cases e2 : z = n
      · subst e2
        exact absurd hv hz2
      · rw [xv_us_ne _ _ e2]
        exact hz2
theorem xv_nwX {ad : Nat → Nat} {ca : Nat → ClassId} {n q : Nat} {cA : ClassId} (x : xv_S) (hv : sh n = none) : xv_X sh ad ca (xv_us sh n x) (fun w => if w = n then q else ad w) (fun w => if w = n then cA else ca w) := fun v hs => by
  have e : v ≠ n := fun q => hs (by rw [q]; exact hv)
  exact ⟨xv_us_ne _ _ e, if_neg e, if_neg e⟩
theorem xv_nww {A : Nat → Prop} {ad : Nat → Nat} {n q : Nat} {x : xv_S} (hw : ∀ v, xv_w sh v → A (ad v)) (hq : A q) : ∀ v, xv_w (xv_us sh n x) v → A ((fun w => if w = n then q else ad w) v) := fun v ⟨y, hy, h2⟩ => by
  by_cases e : v = n
  · show A (if v = n then q else ad v)
    rw [if_pos e]
    exact hq
  · show A (if v = n then q else ad v)
    rw [if_neg e]
    rw [xv_us_ne _ _ e] at hy
    exact hw v ⟨y, hy, h2⟩
theorem xv_nwL {ad : Nat → Nat} {nL : Nat} {ls : Array Slot} {n q : Nat} (x : xv_S) (hv : sh n = none) (h : xv_L ad sh nL ls L) : xv_L (fun w => if w = n then q else ad w) (xv_us sh n x) nL ls L := h.moved fun v hs => by
  have e : v ≠ n := fun q => hs (by rw [q]; exact hv)
  exact ⟨by rw [xv_us_ne _ _ e]; exact hs, if_neg e⟩
theorem xv_nwS {n : Nat} (x : xv_S) (hv : sh n = none) (h : ∀ v ∈ S, xv_ok sh v) : ∀ v ∈ S, xv_ok (xv_us sh n x) v := xv_okS h fun v hs => by
  have e : v ≠ n := fun q => hs (by rw [q]; exact hv)
  rw [xv_us_ne _ _ e]
  exact hs
theorem xv_nwT {ad : Nat → Nat} {n q : Nat} (hv : sh n = none) (h : ∀ v ∈ S, xv_ok sh v) : S.map (xv_tr (fun w => if w = n then q else ad w)) = S.map (xv_tr ad) := xv_trS h fun v hs => if_neg (fun q => hs (by rw [q]; exact hv))
theorem xv_trn {ad : Nat → Nat} {n q : Nat} : xv_tr (fun w => if w = n then q else ad w) (.ref n) = .ref q := by
  show Value.ref (if n = n then q else ad n) = .ref q
  rw [if_pos rfl]
theorem xv_nwSt {A : Nat → Prop} {H0 H H1 : Heap} {locs : List Loc} (hS : va_S A H0 H locs) (hz : H.size ≤ H1.size) (oq : ∀ q, q < H.size → H1[q]? = H[q]?) : va_S A H0 H1 locs := ⟨Nat.le_trans hS.1 hz, fun q h1 h2 => (oq q (Nat.lt_of_lt_of_le h1 hS.1)).trans (hS.2.1 q h1 h2), hS.2.2⟩
/-- a class that 'new' names: place in the pool, the class's place, its fields -/
def xv_N (own : String) (idx ci N : Nat) : Prop := ∃ (C : String) (T : u_T), vwCl[ci]? = some (C, T, N) ∧ (∀ w ∈ u_ws C T N, w ∈ xv_tbl) ∧ Cond.classLink own idx C ∈ xv_tbl ∧ Cond.instantiable C N ∈ xv_tbl ∧ Cond.initialized C ∈ xv_tbl ∧ (∀ k, k < N → parseFieldDescriptor (T k).2.2.1 = some (xv_ft ci k)) ∧ ∀ k, k < N → defaultValue (xv_ft ci k) = if (xv_ft ci k).isReference = true then .null else .int 0
/-- a new object, by a number n that is free -/
theorem xv_new {idx ci N n kc' ks' : Nat} (hf : xv_F M pc (.new idx) 3 pc') (hg : xv_N M.1.cls idx ci N) (hn : sh n = none) (h1c : kc' + 1 ≤ kc) (h1s : ks' + N ≤ ks) (kk : xv_W M d mc ms Q kc' ks' (xv_us sh n (.inl ci)) (xv_z I n 0) (xv_z Rf n none) J pc' L (.ref n :: S)) : xv_W M d mc ms Q kc ks sh I Rf J pc L S := by
  obtain ⟨h1, rfl⟩ := hf
  obtain ⟨Cn, T, g1, g2, g3, g4, g5, g6, g7⟩ := hg
  intro p l e R s m args below meth c D A sh0 ad0 ca0 ad ca H locs cells slots ls C X hw hR hS hL hO hc hs
  have hts := C.2.2.2.2.2.1
  have hKn := C.2.2.2.2.2.2.2.2.2.1.1 ci _ g1
  have hcm : mc ≤ R.cells := C.2.2.2.2.2.2.2.2.2.2.2.2.2.2.2.1
  have hsm : ms ≤ R.slots := C.2.2.2.2.2.2.2.2.2.2.2.2.2.2.2.2
  refine W.newcK C.1 C.2.1 C.2.2.2.2.1 (hts _ g3) (hts _ g4) (hts _ g5) rfl h1 (by omega) (by omega) hKn.2.1 rfl fun H1 kC hkC e1 z1 o1 => ?_
  have K := kk (below := below) (e := e) C (X.tr (xv_nwX (q := H.size) (cA := 0) _ hn)) (xv_nww hw (C.2.2.2.2.2.2.2.2.2.2.2.1 _ hS.1)) (hR.nw hn ⟨_, g1, (u_born (xv_ft ci) hts g2 hKn hkC (by show H1[if n = n then H.size else ad n]? = _; rw [if_pos rfl]; exact e1) g6).to fun k hk => ?_⟩ o1 (fun w k h => xv_z_ne _ _ _ h) (fun w k h => xv_z_ne _ _ _ h) (fun _ _ _ => rfl) (fun k => xv_z_eq _ _ _ _))
    (xv_nwSt hS (by omega) o1) (xv_nwL _ hn hL) (List.forall_mem_cons.mpr ⟨by show xv_us sh n _ n ≠ none; rw [xv_us_eq]; simp, xv_nwS _ hn hO⟩) (cells := cells + 1) (slots := slots + N) (by omega) (by omega)
  · rw [List.map_cons, xv_nwT hn hO, xv_trn] at K
    exact K
  · rw [g7 k hk]
    unfold xv_sl
    rw [xv_z_eq, xv_z_eq]
    rfl
theorem xv_newA {n k9 kc' ks' : Nat} {k : Int32} {atype : ArrayType} {ty : FieldType} {I' : xv_I} {J' : xv_J} (hf : xv_F M pc (.newarray atype) 2 pc') (hty : newarray.typeOf atype = ty) (hw0 : Cond.arrayClass ty ∈ xv_tbl) (hn : sh n = none) (hk : ¬ k < 0) (hN : k.toNatClampNeg = k9) (hb : k9 * componentBytes ty ≤ 536870912) (h1c : kc' + 1 ≤ kc) (h1s : ks' + k9 ≤ ks)
    (hd : ∀ ad j, xv_el ad I' (xv_z Rf n none) J' ty n j = defaultValue ty) (hI : ∀ w k, w ≠ n → I' w k = I w k) (hJ : ∀ w k, w ≠ n → J' w k = J w k) (hnm : ∀ (s : State) (cA : ClassId), s.vm.findClass ("[" ++ ty.toString) = some cA → va_RA s cA ty)
    (kk : xv_W M d mc ms Q kc' ks' (xv_us sh n (.inr (.inl (ty, k9)))) I' (xv_z Rf n none) J' pc' L (.ref n :: S)) : xv_W M d mc ms Q kc ks sh I Rf J pc L (.int k :: S) := by
  obtain ⟨h1, rfl⟩ := hf
  subst hty
  intro p l e R s m args below meth c D A sh0 ad0 ca0 ad ca H locs cells slots ls C X hw hR hS hL hO hc hs
  have hts := C.2.2.2.2.2.1
  have hcm : mc ≤ R.cells := C.2.2.2.2.2.2.2.2.2.2.2.2.2.2.2.1
  have hsm : ms ≤ R.slots := C.2.2.2.2.2.2.2.2.2.2.2.2.2.2.2.2
  refine va_newaK C.1 C.2.1 (hts _ hw0) rfl h1 rfl hk hN hb (by omega) (by omega) rfl fun H1 cA e1 z1 o1 hAr hNm => ?_
  have K := kk (below := below) (e := e) C (X.tr (xv_nwX (q := H.size) (cA := cA) _ hn)) (xv_nww hw (C.2.2.2.2.2.2.2.2.2.2.2.1 _ hS.1)) (hR.nw (cA := cA) hn ⟨?_, by show ArrOfT s (if n = n then cA else ca n) _; rw [if_pos rfl]; exact hAr, by show va_RA s (if n = n then cA else ca n) _; rw [if_pos rfl]; exact hnm s cA hNm⟩ o1 hI (fun w k h => xv_z_ne _ _ _ h) hJ (fun k => xv_z_eq _ _ _ _))
    (xv_nwSt hS (by omega) o1) (xv_nwL _ hn hL) (List.forall_mem_cons.mpr ⟨by show xv_us sh n _ n ≠ none; rw [xv_us_eq]; simp, xv_nwS _ hn (xv_ok_t hO)⟩) (cells := cells + 1) (slots := slots + k9) (by omega) (by omega)
  · rw [List.map_cons, xv_nwT hn (xv_ok_t hO), xv_trn] at K
    exact K
  · show H1[if n = n then H.size else ad n]? = some (arrV (if n = n then cA else ca n) _ _)
    rw [if_pos rfl, if_pos rfl, e1]
    congr 2
    funext j
    exact (hd _ j).symm
theorem xv_newI {n k9 kc' ks' : Nat} {k : Int32} (hf : xv_F M pc (.newarray .int) 2 pc') (hw0 : Cond.arrayClass .int ∈ xv_tbl) (hn : sh n = none) (hk : ¬ k < 0) (hN : k.toNatClampNeg = k9) (hb : k9 ≤ 1000000) (h1c : kc' + 1 ≤ kc) (h1s : ks' + k9 ≤ ks)
    (kk : xv_W M d mc ms Q kc' ks' (xv_us sh n (.inr (.inl (.int, k9)))) (xv_z I n 0) (xv_z Rf n none) J pc' L (.ref n :: S)) : xv_W M d mc ms Q kc ks sh I Rf J pc L (.int k :: S) :=
  xv_newA (ty := .int) hf rfl hw0 hn hk hN (by show k9 * 4 ≤ _; omega) h1c h1s (fun ad j => by show Value.int (xv_z I n 0 n j) = _; rw [xv_z_eq]; rfl) (fun w k h => xv_z_ne _ _ _ h) (fun _ _ _ => rfl) (fun _ _ h => h) kk
theorem xv_newZ {n k9 kc' ks' : Nat} {k : Int32} (hf : xv_F M pc (.newarray .boolean) 2 pc') (hw0 : Cond.arrayClass .boolean ∈ xv_tbl) (hn : sh n = none) (hk : ¬ k < 0) (hN : k.toNatClampNeg = k9) (hb : k9 ≤ 1000000) (h1c : kc' + 1 ≤ kc) (h1s : ks' + k9 ≤ ks)
    (kk : xv_W M d mc ms Q kc' ks' (xv_us sh n (.inr (.inl (.boolean, k9)))) (xv_z I n 0) (xv_z Rf n none) J pc' L (.ref n :: S)) : xv_W M d mc ms Q kc ks sh I Rf J pc L (.int k :: S) :=
  xv_newA (ty := .boolean) hf rfl hw0 hn hk hN (by show k9 * 1 ≤ _; omega) h1c h1s (fun ad j => by show Value.int (xv_z I n 0 n j) = _; rw [xv_z_eq]; rfl) (fun w k h => xv_z_ne _ _ _ h) (fun _ _ _ => rfl) (fun _ _ h => h) kk
theorem xv_newJ {n k9 kc' ks' : Nat} {k : Int32} (hf : xv_F M pc (.newarray .long) 2 pc') (hw0 : Cond.arrayClass .long ∈ xv_tbl) (hn : sh n = none) (hk : ¬ k < 0) (hN : k.toNatClampNeg = k9) (hb : k9 ≤ 1000000) (h1c : kc' + 1 ≤ kc) (h1s : ks' + k9 ≤ ks)
    (kk : xv_W M d mc ms Q kc' ks' (xv_us sh n (.inr (.inl (.long, k9)))) I (xv_z Rf n none) (xv_z J n 0) pc' L (.ref n :: S)) : xv_W M d mc ms Q kc ks sh I Rf J pc L (.int k :: S) :=
  xv_newA (ty := .long) hf rfl hw0 hn hk hN (by show k9 * 8 ≤ _; omega) h1c h1s (fun ad j => by show Value.long (xv_z J n 0 n j) = _; rw [xv_z_eq]; rfl) (fun _ _ _ => rfl) (fun w k h => xv_z_ne _ _ _ h) (fun _ _ h => h) kk
theorem xv_anew {n k9 kc' ks' idx : Nat} {k : Int32} {Cn : String} (hf : xv_F M pc (.anewarray idx) 3 pc') (hl1 : Cond.classLink M.1.cls idx Cn ∈ xv_tbl) (hl2 : Cond.arrayOver (.object Cn) ∈ xv_tbl) (hn : sh n = none) (hk : ¬ k < 0) (hN : k.toNatClampNeg = k9) (hb : k9 ≤ 1000000) (h1c : kc' + 1 ≤ kc) (h1s : ks' + k9 ≤ ks)
    (kk : xv_W M d mc ms Q kc' ks' (xv_us sh n (.inr (.inl (.object Cn, k9)))) I (xv_z Rf n none) J pc' L (.ref n :: S)) : xv_W M d mc ms Q kc ks sh I Rf J pc L (.int k :: S) := by
  obtain ⟨h1, rfl⟩ := hf
  subst hN
  intro p l e R s m args below meth c D A sh0 ad0 ca0 ad ca H locs cells slots ls C X hw hR hS hL hO hc hs
  have hts := C.2.2.2.2.2.1
  have hcm : mc ≤ R.cells := C.2.2.2.2.2.2.2.2.2.2.2.2.2.2.2.1
  have hsm : ms ≤ R.slots := C.2.2.2.2.2.2.2.2.2.2.2.2.2.2.2.2
  refine W.anew C.1 C.2.1 C.2.2.2.2.1 (hts _ hl1) (hts _ hl2) rfl h1 rfl hk (by omega) (by omega) (by omega) fun cA kA comp f1 f2 f3 f4 => ?_
  have o1 : ∀ q, q < H.size → (H.push ({ cls := cA, slots := Array.replicate k.toNatClampNeg .null, vm := .none } : Cell))[q]? = H[q]? := fun q hq => by rw [Array.getElem?_push, if_neg (Nat.ne_of_lt hq)]
  have hAr : ArrOfT s cA (.object Cn) := fun n z => ⟨fun k h => (by cases h), kA, f2, comp, f3⟩
  have K := kk (below := below) (e := e) C (X.tr (xv_nwX (q := H.size) (cA := cA) _ hn)) (xv_nww hw (C.2.2.2.2.2.2.2.2.2.2.2.1 _ hS.1)) (hR.nw (cA := cA) hn ⟨?_, by show ArrOfT s (if n = n then cA else ca n) _; rw [if_pos rfl]; exact hAr, by show va_RA s (if n = n then cA else ca n) _; rw [if_pos rfl]; exact ⟨kA, comp, f2, f3, f4, f1⟩⟩ o1 (fun _ _ _ => rfl) (fun w k h => xv_z_ne _ _ _ h) (fun _ _ _ => rfl) (fun k => xv_z_eq _ _ _ _))
    (xv_nwSt hS (by simp) o1) (xv_nwL _ hn hL) (List.forall_mem_cons.mpr ⟨by show xv_us sh n _ n ≠ none; rw [xv_us_eq]; simp, xv_nwS _ hn (xv_ok_t hO)⟩) (cells := cells + 1) (slots := slots + k.toNatClampNeg) (by omega) (by omega)
  · rw [List.map_cons, xv_nwT hn (xv_ok_t hO), xv_trn] at K
    exact K
  · show (H.push _)[if n = n then H.size else ad n]? = some (arrV (if n = n then cA else ca n) _ _)
    rw [if_pos rfl, if_pos rfl, arrV_new]
    rw [Array.getElem?_push, if_pos rfl]
    congr 2
    funext j
    show _ = va_rf ((xv_z Rf n none n j).map _)
    rw [xv_z_eq]
    rfl
/-- new int[N][K]: the outer array the number o, the inner ones b .. b + N - 1 -/
def xv_ms (sh : xv_Sh) (o b N K : Nat) : xv_Sh := fun w => if w = o then some (.inr (.inl (.array .int, N))) else if b ≤ w ∧ w < b + N then some (.inr (.inl (.int, K))) else sh w
def xv_mr (Rf : xv_Rf) (o b N : Nat) : xv_Rf := fun w j => if w = o then (if j < N then some (b + j) else none) else if b ≤ w ∧ w < b + N then none else Rf w j
def xv_mi (I : xv_I) (b N : Nat) : xv_I := fun w j => if b ≤ w ∧ w < b + N then 0 else I w j
theorem xv_mna {o b N K kc' ks' idx : Nat} {k n : Int32} (hf : xv_F M pc (.multianewarray idx 2) 4 pc') (hl1 : Cond.classLink M.1.cls idx ("[" ++ (FieldType.array .int).toString) ∈ xv_tbl) (hl2 : Cond.arrayOver (.array .int) ∈ xv_tbl) (hl3 : Cond.arrayClass .int ∈ xv_tbl) (ho : sh o = none) (hob : o < b) (hi : ∀ i, i < N → sh (b + i) = none) (hn : ¬ n < 0) (hk : ¬ k < 0) (hN : n.toNatClampNeg = N) (hK : k.toNatClampNeg = K) (hb1 : N ≤ 1000000) (hb2 : K ≤ 1000000) (h1c : kc' + (1 + N) ≤ kc) (h1s : ks' + (N + N * K) ≤ ks)
    (kk : xv_W M d mc ms Q kc' ks' (xv_ms sh o b N K) (xv_mi I b N) (xv_mr Rf o b N) J pc' L (.ref o :: S)) : xv_W M d mc ms Q kc ks sh I Rf J pc L (.int k :: .int n :: S) := by
  obtain ⟨h1, rfl⟩ := hf
  subst hN
  subst hK
  intro p l e R s m args below meth c D A sh0 ad0 ca0 ad ca H locs cells slots ls C X hw hR hS hL hO hc hs
  have hts := C.2.2.2.2.2.1
  have hcm : mc ≤ R.cells := C.2.2.2.2.2.2.2.2.2.2.2.2.2.2.2.1
  have hsm : ms ≤ R.slots := C.2.2.2.2.2.2.2.2.2.2.2.2.2.2.2.2
  intro T hT Xs
  obtain ⟨vm₁, cA, comp, -, fA, fC, hOt, hIn, X', step⟩ := Xs.multianewarray2F C.1 C.2.2.2.2.1 (hts _ hl1) (hts _ hl2) (hts _ hl3) (g := F0 m pc ls (.int k :: .int n :: S.map (xv_tr ad))) rfl (by rw [C.2.1]; exact h1) rfl hn hk (by omega) (by show _ * 4 ≤ _; omega) (by omega) rfl rfl (by omega) (by omega)
  generalize hF : Jvm.Free.Multi.fill (T.setVm vm₁) cA comp n.toNatClampNeg k.toNatClampNeg (defaultValue .int) n.toNatClampNeg = F at X' step
  have hTh : (T.setVm vm₁).heap = H := hT
  obtain ⟨f1, f2, -, -⟩ := Jvm.Free.Multi.fill_facts (T.setVm vm₁) cA comp n.toNatClampNeg k.toNatClampNeg (defaultValue .int) n.toNatClampNeg
  rw [hF, hTh] at f1 f2
  have hold : ∀ x : Nat, x < H.size → F.heap[x]? = H[x]? := fun x hx => by
    have := Jvm.Free.Multi.fill_old (T.setVm vm₁) cA comp n.toNatClampNeg k.toNatClampNeg (defaultValue .int) (a := x) (by rw [hTh]; exact hx) n.toNatClampNeg
    rw [hF, hTh] at this
    exact this
  have hrow : ∀ j : Nat, j < n.toNatClampNeg → F.heap[H.size + 1 + j]? = some (arrV comp k.toNatClampNeg (fun _ => .int 0)) := fun j hj => by
    have := Jvm.Free.Multi.fill_inner (T.setVm vm₁) cA comp n.toNatClampNeg k.toNatClampNeg (defaultValue .int) n.toNatClampNeg j hj
    rw [hF, hTh] at this
    rw [this, ← arrV_new]
    rfl
  have hout : ∀ i : Nat, Jvm.Free.Multi.outerC cA n.toNatClampNeg H.size i = arrV cA n.toNatClampNeg (fun j => va_rf (if j < i then some (H.size + 1 + j) else none)) := by
    intro i
    induction i with
    | zero =>
      show ({ cls := cA, slots := Array.replicate n.toNatClampNeg .null, vm := .none } : Cell) = _
      rw [arrV_new]
      refine congrArg (arrV cA n.toNatClampNeg) (funext fun j => ?_)
      simp [va_rf]
    | succ i ih =>
      show (Jvm.Free.Multi.outerC cA n.toNatClampNeg H.size i).setSlot i (.ref (H.size + 1 + i)) = _
      rw [ih, arrV_store]
      refine congrArg (arrV cA n.toNatClampNeg) (funext fun j => ?_)
      by_cases e : j = i
      · subst e
        simp [updV, va_rf]
      · by_cases h : j < i
        · simp [updV, e, h, Nat.lt_succ_of_lt h]
        · simp [updV, e, h, show ¬ j < i + 1 by omega]
  rw [hout] at f2
  have hArO : ArrOfT s cA (.array .int) := fun N9 z9 => by
    obtain ⟨-, k9, hk9, cm9, hkk9⟩ := (hOt 0 0 0).1
    exact ⟨(fun q hq => by cases hq), k9, hk9, cm9, hkk9⟩
  have hArI : ArrOfT s comp .int := fun N9 z9 => by
    obtain ⟨-, k9, hk9, cm9, hkk9⟩ := (hIn 0 .null).1
    exact ⟨(fun q hq => by cases hq), k9, hk9, cm9, hkk9⟩
  obtain ⟨ad', ead⟩ : ∃ z : Nat → Nat, z = fun w => if w = o then H.size else if b ≤ w ∧ w < b + n.toNatClampNeg then H.size + 1 + (w - b) else ad w := ⟨_, rfl⟩
  obtain ⟨ca', eca⟩ : ∃ z : Nat → ClassId, z = fun w => if w = o then cA else if b ≤ w ∧ w < b + n.toNatClampNeg then comp else ca w := ⟨_, rfl⟩
  have kfree : ∀ v, sh v ≠ none → v ≠ o ∧ ¬ (b ≤ v ∧ v < b + n.toNatClampNeg) := fun v hv => ⟨fun q => hv (by rw [q]; exact ho), fun q => hv (by
    have := hi (v - b) (by omega)
    rw [show b + (v - b) = v by omega] at this
    exact this)⟩
  have kold : ∀ v, sh v ≠ none → xv_ms sh o b n.toNatClampNeg k.toNatClampNeg v = sh v ∧ ad' v = ad v ∧ ca' v = ca v := fun v hv => by
    obtain ⟨a1, a2⟩ := kfree v hv
    refine ⟨?_, ?_, ?_⟩
    · unfold xv_ms
      rw [if_neg a1, if_neg a2]
    · rw [ead]
      show (if _ then _ else _) = _
      rw [if_neg a1, if_neg a2]
    · rw [eca]
      show (if _ then _ else _) = _
      rw [if_neg a1, if_neg a2]
  have ado : ad' o = H.size := by rw [ead]; exact if_pos rfl
  have adi : ∀ i, i < n.toNatClampNeg → ad' (b + i) = H.size + 1 + i := fun i h => by
    rw [ead]
    show (if _ then _ else _) = _
    rw [if_neg (by omega), if_pos ⟨by omega, by omega⟩]
    omega
  have hR' : xv_R s D ad' ca' (xv_ms sh o b n.toNatClampNeg k.toNatClampNeg) (xv_mi I b n.toNatClampNeg) (xv_mr Rf o b n.toNatClampNeg) J F.heap := by
    refine ⟨fun v x hx => ?_, fun v w hv hw9 hvw => ?_, fun v j w hv hj => ?_⟩
    · by_cases e1 : v = o
      · subst e1
        rw [xv_ms, if_pos rfl] at hx
        cases hx
        refine ⟨?_, ?_, ?_⟩
        · rw [ado, f2, eca]
          show _ = some (arrV (if v = v then cA else _) n.toNatClampNeg _)
          rw [if_pos rfl]
          congr 2
          funext j
          show _ = va_rf ((xv_mr Rf v b n.toNatClampNeg v j).map ad')
          rw [xv_mr, if_pos rfl]
          by_cases hj : j < n.toNatClampNeg
          · rw [if_pos hj, if_pos hj]
            show _ = va_rf (some (ad' (b + j)))
            rw [adi j hj]
          · rw [if_neg hj, if_neg hj]
            rfl
        · rw [eca]
          show ArrOfT s (if v = v then cA else _) _
          rw [if_pos rfl]
          exact hArO
        · rw [eca]
          show va_RA s (if v = v then cA else _) _
          rw [if_pos rfl]
          exact fA
      · by_cases e2 : b ≤ v ∧ v < b + n.toNatClampNeg
        · rw [xv_ms, if_neg e1, if_pos e2] at hx
          cases hx
          have hv : v = b + (v - b) := by omega
          have hca : ca' v = comp := by
            rw [eca]
            show (if _ then _ else _) = _
            rw [if_neg e1, if_pos e2]
          refine ⟨?_, by rw [hca]; exact hArI, by rw [hca]; exact fC⟩
          rw [hca, show ad' v = H.size + 1 + (v - b) from by rw [hv, adi _ (by omega)]; omega, hrow _ (by omega)]
          congr 2
          funext j
          show _ = Value.int (xv_mi I b n.toNatClampNeg v j)
          rw [xv_mi, if_pos e2]
        · rw [xv_ms, if_neg e1, if_neg e2] at hx
          obtain ⟨-, b2, b3⟩ := kold v (by rw [hx]; simp)
          refine ((hR.1 v x hx).kept (hold _ (hR.1 v x hx).lt)).cong b2 b3 (fun k => by rw [xv_mi, if_neg e2]) (fun k => by rw [xv_mr, if_neg e1, if_neg e2]) (fun _ => rfl) (fun k z hz => (kold z (hR.2.2 v k z (by rw [hx]; simp) hz)).2.1)
    · have side : ∀ v, xv_ms sh o b n.toNatClampNeg k.toNatClampNeg v ≠ none → (v = o ∧ ad' v = H.size) ∨ (∃ i, i < n.toNatClampNeg ∧ v = b + i ∧ ad' v = H.size + 1 + i) ∨ (sh v ≠ none ∧ ad' v = ad v ∧ ad v < H.size) := fun v hv => by
        by_cases e1 : v = o
        · exact Or.inl ⟨e1, by rw [e1]; exact ado⟩
        · by_cases e2 : b ≤ v ∧ v < b + n.toNatClampNeg
          · refine Or.inr (Or.inl ⟨v - b, by omega, by omega, ?_⟩)
            have hv9 : v = b + (v - b) := by omega
            rw [hv9, adi _ (by omega)]
            omega
          · rw [xv_ms, if_neg e1, if_neg e2] at hv
            obtain ⟨y, hy⟩ := Option.ne_none_iff_exists'.mp hv
            exact Or.inr (Or.inr ⟨hv, (kold v hv).2.1, (hR.1 v y hy).lt⟩)
      rcases side v hv with ⟨a1, a2⟩ | ⟨i, a1, a2, a3⟩ | ⟨a1, a2, a3⟩ <;> rcases side w hw9 with ⟨b1, b2⟩ | ⟨j, b1, b2, b3⟩ | ⟨b1, b2, b3⟩
      · rw [a1, b1]
      · omega
      · omega
      · omega
      · omega
      · omega
      · omega
      · omega
      · exact hR.2.1 v w a1 b1 (by rw [← a2, ← b2]; exact hvw)
    · rw [xv_mr] at hj
      by_cases e1 : v = o
      · rw [if_pos e1] at hj
        by_cases e3 : j < n.toNatClampNeg
        · rw [if_pos e3] at hj
          cases hj
          rw [xv_ms, if_neg (by omega), if_pos ⟨by omega, by omega⟩]
          simp
        · rw [if_neg e3] at hj
          cases hj
      · rw [if_neg e1] at hj
        by_cases e2 : b ≤ v ∧ v < b + n.toNatClampNeg
        · rw [if_pos e2] at hj
          cases hj
        · rw [if_neg e2] at hj
          rw [xv_ms, if_neg e1, if_neg e2] at hv
          have h9 := hR.2.2 v j w hv hj
          rw [(kold w h9).1]
          exact h9
  have hO2 : ∀ v ∈ S, xv_ok sh v := xv_ok_t (xv_ok_t hO)
  have K := kk (below := below) (e := e) C (X.tr kold) (fun v ⟨y, hy, h2⟩ => by
      by_cases e1 : v = o
      · rw [e1, ado]
        exact C.2.2.2.2.2.2.2.2.2.2.2.1 _ hS.1
      · by_cases e2 : b ≤ v ∧ v < b + n.toNatClampNeg
        · rw [show v = b + (v - b) by omega, adi _ (by omega)]
          exact C.2.2.2.2.2.2.2.2.2.2.2.1 _ (by have := hS.1; omega)
        · rw [xv_ms, if_neg e1, if_neg e2] at hy
          rw [(kold v (by rw [hy]; simp)).2.1]
          exact hw v ⟨y, hy, h2⟩) hR' (xv_nwSt hS (by rw [f1]; omega) hold) (hL.moved fun v hv => ⟨by rw [(kold v hv).1]; exact hv, (kold v hv).2.1⟩)
    (List.forall_mem_cons.mpr ⟨by show xv_ms sh o b _ _ o ≠ none; rw [xv_ms, if_pos rfl]; simp, xv_okS hO2 fun v hv => by rw [(kold v hv).1]; exact hv⟩) (cells := cells + 1 + n.toNatClampNeg) (slots := slots + n.toNatClampNeg + n.toNatClampNeg * k.toNatClampNeg) (by omega) (by omega)
  rw [List.map_cons, xv_trS hO2 (fun v hv => (kold v hv).2.1), show xv_tr ad' (.ref o) = .ref H.size from congrArg Value.ref ado] at K
  obtain ⟨t, a1, b1⟩ := K F rfl X'
  refine ⟨t, step t ?_, b1⟩
  have e9 : T.heap.size = H.size := by rw [hT]
  rw [e9]
  exact a1
end XVN
