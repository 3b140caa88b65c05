section XVR
variable {M : xv_M} {d mc ms kc ks : Nat} {Q : xv_Q} {sh : xv_Sh} {I : xv_I} {Rf : xv_Rf} {J : xv_J} {pc pc' tgt : Nat} {L : List (Option Value)} {S : List Value}
theorem xv_iadd (hf : xv_F M pc .iadd 1 pc') {x y : Int32} (k : xv_W M d mc ms Q kc ks sh I Rf J pc' L (.int (x + y) :: S)) : xv_W M d mc ms Q kc ks sh I Rf J pc L (.int y :: .int x :: S) := by
  obtain ⟨h1, rfl⟩ := hf
  intro p l e R s m args below meth c D A sh0 ad0 ca0 ad ca H locs cells slots ls C X hw hR hS hL hO hc hs
  exact lv_iadd C.1 C.2.1 h1 (k C X hw hR hS hL (xv_ok_i (xv_ok_t (xv_ok_t hO)) _) hc hs)
theorem xv_isub (hf : xv_F M pc .isub 1 pc') {x y : Int32} (k : xv_W M d mc ms Q kc ks sh I Rf J pc' L (.int (x - y) :: S)) : xv_W M d mc ms Q kc ks sh I Rf J pc L (.int y :: .int x :: S) := by
  obtain ⟨h1, rfl⟩ := hf
  intro p l e R s m args below meth c D A sh0 ad0 ca0 ad ca H locs cells slots ls C X hw hR hS hL hO hc hs
  exact lv_isub C.1 C.2.1 h1 (k C X hw hR hS hL (xv_ok_i (xv_ok_t (xv_ok_t hO)) _) hc hs)
theorem xv_imul (hf : xv_F M pc .imul 1 pc') {x y : Int32} (k : xv_W M d mc ms Q kc ks sh I Rf J pc' L (.int (x * y) :: S)) : xv_W M d mc ms Q kc ks sh I Rf J pc L (.int y :: .int x :: S) := by
  obtain ⟨h1, rfl⟩ := hf
  intro p l e R s m args below meth c D A sh0 ad0 ca0 ad ca H locs cells slots ls C X hw hR hS hL hO hc hs
  exact lv_imul C.1 C.2.1 h1 (k C X hw hR hS hL (xv_ok_i (xv_ok_t (xv_ok_t hO)) _) hc hs)
theorem xv_iand (hf : xv_F M pc .iand 1 pc') {x y : Int32} (k : xv_W M d mc ms Q kc ks sh I Rf J pc' L (.int (x &&& y) :: S)) : xv_W M d mc ms Q kc ks sh I Rf J pc L (.int y :: .int x :: S) := by
  obtain ⟨h1, rfl⟩ := hf
  intro p l e R s m args below meth c D A sh0 ad0 ca0 ad ca H locs cells slots ls C X hw hR hS hL hO hc hs
  exact lv_iand C.1 C.2.1 h1 (k C X hw hR hS hL (xv_ok_i (xv_ok_t (xv_ok_t hO)) _) hc hs)
theorem xv_ior (hf : xv_F M pc .ior 1 pc') {x y : Int32} (k : xv_W M d mc ms Q kc ks sh I Rf J pc' L (.int (x ||| y) :: S)) : xv_W M d mc ms Q kc ks sh I Rf J pc L (.int y :: .int x :: S) := by
  obtain ⟨h1, rfl⟩ := hf
  intro p l e R s m args below meth c D A sh0 ad0 ca0 ad ca H locs cells slots ls C X hw hR hS hL hO hc hs
  exact lv_ior C.1 C.2.1 h1 (k C X hw hR hS hL (xv_ok_i (xv_ok_t (xv_ok_t hO)) _) hc hs)
theorem xv_ixor (hf : xv_F M pc .ixor 1 pc') {x y : Int32} (k : xv_W M d mc ms Q kc ks sh I Rf J pc' L (.int (x ^^^ y) :: S)) : xv_W M d mc ms Q kc ks sh I Rf J pc L (.int y :: .int x :: S) := by
  obtain ⟨h1, rfl⟩ := hf
  intro p l e R s m args below meth c D A sh0 ad0 ca0 ad ca H locs cells slots ls C X hw hR hS hL hO hc hs
  exact lv_ixor C.1 C.2.1 h1 (k C X hw hR hS hL (xv_ok_i (xv_ok_t (xv_ok_t hO)) _) hc hs)
theorem xv_ishl (hf : xv_F M pc .ishl 1 pc') {x y : Int32} (k : xv_W M d mc ms Q kc ks sh I Rf J pc' L (.int (x <<< (y &&& 31)) :: S)) : xv_W M d mc ms Q kc ks sh I Rf J pc L (.int y :: .int x :: S) := by
  obtain ⟨h1, rfl⟩ := hf
  intro p l e R s m args below meth c D A sh0 ad0 ca0 ad ca H locs cells slots ls C X hw hR hS hL hO hc hs
  exact lv_ishl C.1 C.2.1 h1 (k C X hw hR hS hL (xv_ok_i (xv_ok_t (xv_ok_t hO)) _) hc hs)
theorem xv_ishr (hf : xv_F M pc .ishr 1 pc') {x y : Int32} (k : xv_W M d mc ms Q kc ks sh I Rf J pc' L (.int (x >>> (y &&& 31)) :: S)) : xv_W M d mc ms Q kc ks sh I Rf J pc L (.int y :: .int x :: S) := by
  obtain ⟨h1, rfl⟩ := hf
  intro p l e R s m args below meth c D A sh0 ad0 ca0 ad ca H locs cells slots ls C X hw hR hS hL hO hc hs
  exact lv_ishr C.1 C.2.1 h1 (k C X hw hR hS hL (xv_ok_i (xv_ok_t (xv_ok_t hO)) _) hc hs)
theorem xv_iushr (hf : xv_F M pc .iushr 1 pc') {x y : Int32} (k : xv_W M d mc ms Q kc ks sh I Rf J pc' L (.int ((x.toUInt32 >>> (y.toUInt32 &&& Int32.toUInt32 31)).toInt32) :: S)) : xv_W M d mc ms Q kc ks sh I Rf J pc L (.int y :: .int x :: S) := by
  obtain ⟨h1, rfl⟩ := hf
  intro p l e R s m args below meth c D A sh0 ad0 ca0 ad ca H locs cells slots ls C X hw hR hS hL hO hc hs
  exact lv_iushr C.1 C.2.1 h1 rfl (k C X hw hR hS hL (xv_ok_i (xv_ok_t (xv_ok_t hO)) _) hc hs)
theorem xv_idiv (hf : xv_F M pc .idiv 1 pc') {x y : Int32} (hne : ¬ y = 0) (k : xv_W M d mc ms Q kc ks sh I Rf J pc' L (.int (x / y) :: S)) : xv_W M d mc ms Q kc ks sh I Rf J pc L (.int y :: .int x :: S) := by
  obtain ⟨h1, rfl⟩ := hf
  intro p l e R s m args below meth c D A sh0 ad0 ca0 ad ca H locs cells slots ls C X hw hR hS hL hO hc hs
  exact lv_idiv C.1 C.2.1 h1 hne (k C X hw hR hS hL (xv_ok_i (xv_ok_t (xv_ok_t hO)) _) hc hs)
theorem xv_irem (hf : xv_F M pc .irem 1 pc') {x y : Int32} (hne : ¬ y = 0) (k : xv_W M d mc ms Q kc ks sh I Rf J pc' L (.int (x - x / y * y) :: S)) : xv_W M d mc ms Q kc ks sh I Rf J pc L (.int y :: .int x :: S) := by
  obtain ⟨h1, rfl⟩ := hf
  intro p l e R s m args below meth c D A sh0 ad0 ca0 ad ca H locs cells slots ls C X hw hR hS hL hO hc hs
  exact lv_irem C.1 C.2.1 h1 hne (k C X hw hR hS hL (xv_ok_i (xv_ok_t (xv_ok_t hO)) _) hc hs)
theorem xv_ineg (hf : xv_F M pc .ineg 1 pc') {x : Int32} (k : xv_W M d mc ms Q kc ks sh I Rf J pc' L (.int (-x) :: S)) : xv_W M d mc ms Q kc ks sh I Rf J pc L (.int x :: S) := by
  obtain ⟨h1, rfl⟩ := hf
  intro p l e R s m args below meth c D A sh0 ad0 ca0 ad ca H locs cells slots ls C X hw hR hS hL hO hc hs
  exact lv_ineg C.1 C.2.1 h1 (k C X hw hR hS hL (xv_ok_i (xv_ok_t hO) _) hc hs)
theorem xv_i2l (hf : xv_F M pc .i2l 1 pc') {x : Int32} (k : xv_W M d mc ms Q kc ks sh I Rf J pc' L (.long x.toInt64 :: S)) : xv_W M d mc ms Q kc ks sh I Rf J pc L (.int x :: S) := by
  obtain ⟨h1, rfl⟩ := hf
  intro p l e R s m args below meth c D A sh0 ad0 ca0 ad ca H locs cells slots ls C X hw hR hS hL hO hc hs
  exact lv_i2l C.1 C.2.1 h1 rfl (k C X hw hR hS hL (xv_ok_l (xv_ok_t hO) _) hc hs)
theorem xv_lcmp (hf : xv_F M pc .lcmp 1 pc') {x y : Int64} (k : xv_W M d mc ms Q kc ks sh I Rf J pc' L (.int (lg_cmp x y) :: S)) : xv_W M d mc ms Q kc ks sh I Rf J pc L (.long y :: .long x :: S) := by
  obtain ⟨h1, rfl⟩ := hf
  intro p l e R s m args below meth c D A sh0 ad0 ca0 ad ca H locs cells slots ls C X hw hR hS hL hO hc hs
  exact W.lcmp C.1 C.2.1 h1 (k C X hw hR hS hL (xv_ok_i (xv_ok_t (xv_ok_t hO)) _) hc hs)
/-- an instruction that lays a constant -/
def xv_K (M : xv_M) (pc : Nat) (v : Int32) (pc' : Nat) : Prop := (∃ n : Int, decode M.2.1 pc = .ok (.iconst n, 1) ∧ Int32.ofInt n = v ∧ pc + 1 = pc') ∨ (∃ n : Int, decode M.2.1 pc = .ok (.bipush n, 2) ∧ (Int8.ofInt n).toInt32 = v ∧ pc + 2 = pc') ∨ (∃ n : Int, decode M.2.1 pc = .ok (.sipush n, 3) ∧ (Int16.ofInt n).toInt32 = v ∧ pc + 3 = pc') ∨ ∃ n : Nat, decode M.2.1 pc = .ok (.ldc n, 2) ∧ Cond.constant M.1.cls n v ∈ xv_tbl ∧ pc + 2 = pc'
theorem xv_k {v : Int32} (hf : xv_K M pc v pc') (k : xv_W M d mc ms Q kc ks sh I Rf J pc' L (.int v :: S)) : xv_W M d mc ms Q kc ks sh I Rf J pc L S := by
  intro p l e R s m args below meth c D A sh0 ad0 ca0 ad ca H locs cells slots ls C X hw hR hS hL hO hc hs
  rcases hf with ⟨n, h1, h2, rfl⟩ | ⟨n, h1, h2, rfl⟩ | ⟨n, h1, h2, rfl⟩ | ⟨n, h1, h2, rfl⟩
  · exact lv_iconst C.1 C.2.1 h1 h2 (k C X hw hR hS hL (xv_ok_i hO _) hc hs)
  · exact lv_bipush C.1 C.2.1 h1 h2 (k C X hw hR hS hL (xv_ok_i hO _) hc hs)
  · exact lv_sipush C.1 C.2.1 h1 h2 (k C X hw hR hS hL (xv_ok_i hO _) hc hs)
  · exact lv_ldc C.1 C.2.1 C.2.2.2.2.1 (C.2.2.2.2.2.1 _ h2) h1 (k C X hw hR hS hL (xv_ok_i hO _) hc hs)
theorem xv_lconst {n : Fin 2} (hf : xv_F M pc (.lconst n) 1 pc') (k : xv_W M d mc ms Q kc ks sh I Rf J pc' L (.long (Int64.ofNat (n : Nat)) :: S)) : xv_W M d mc ms Q kc ks sh I Rf J pc L S := by
  obtain ⟨h1, rfl⟩ := hf
  intro p l e R s m args below meth c D A sh0 ad0 ca0 ad ca H locs cells slots ls C X hw hR hS hL hO hc hs
  exact lv_lconst C.1 C.2.1 h1 rfl (k C X hw hR hS hL (xv_ok_l hO _) hc hs)
theorem xv_null (hf : xv_F M pc .aconst_null 1 pc') (k : xv_W M d mc ms Q kc ks sh I Rf J pc' L (.null :: S)) : xv_W M d mc ms Q kc ks sh I Rf J pc L S := by
  obtain ⟨h1, rfl⟩ := hf
  intro p l e R s m args below meth c D A sh0 ad0 ca0 ad ca H locs cells slots ls C X hw hR hS hL hO hc hs
  exact lv_null C.1 C.2.1 h1 (k C X hw hR hS hL (List.forall_mem_cons.mpr ⟨trivial, hO⟩) hc hs)
def xv_LI (M : xv_M) (pc i pc' : Nat) : Prop := (∃ k : Fin 4, decode M.2.1 pc = .ok (.iload_n k, 1) ∧ (k : Nat) = i ∧ pc + 1 = pc') ∨ (decode M.2.1 pc = .ok (.iload i, 2) ∧ pc + 2 = pc')
def xv_LA (M : xv_M) (pc i pc' : Nat) : Prop := (∃ k : Fin 4, decode M.2.1 pc = .ok (.aload_n k, 1) ∧ (k : Nat) = i ∧ pc + 1 = pc') ∨ (decode M.2.1 pc = .ok (.aload i, 2) ∧ pc + 2 = pc')
def xv_SI (M : xv_M) (pc i pc' : Nat) : Prop := (∃ k : Fin 4, decode M.2.1 pc = .ok (.istore_n k, 1) ∧ (k : Nat) = i ∧ pc + 1 = pc') ∨ (decode M.2.1 pc = .ok (.istore i, 2) ∧ pc + 2 = pc')
def xv_SA (M : xv_M) (pc i pc' : Nat) : Prop := (∃ k : Fin 4, decode M.2.1 pc = .ok (.astore_n k, 1) ∧ (k : Nat) = i ∧ pc + 1 = pc') ∨ (decode M.2.1 pc = .ok (.astore i, 2) ∧ pc + 2 = pc')
theorem xv_il {i : Nat} {x : Int32} (hf : xv_LI M pc i pc') (hi : L[i]? = some (some (.int x))) (k : xv_W M d mc ms Q kc ks sh I Rf J pc' L (.int x :: S)) : xv_W M d mc ms Q kc ks sh I Rf J pc L S := by
  intro p l e R s m args below meth c D A sh0 ad0 ca0 ad ca H locs cells slots ls C X hw hR hS hL hO hc hs
  rcases hf with ⟨n, h1, h2, rfl⟩ | ⟨h1, rfl⟩
  · exact lv_iload_n C.1 C.2.1 h1 h2 (hL.get hi) (k C X hw hR hS hL (xv_ok_i hO _) hc hs)
  · exact lv_iload C.1 C.2.1 h1 (hL.get hi) (k C X hw hR hS hL (xv_ok_i hO _) hc hs)
theorem xv_al {i : Nat} {x : Nat} (hf : xv_LA M pc i pc') (hi : L[i]? = some (some (.ref x))) (k : xv_W M d mc ms Q kc ks sh I Rf J pc' L (.ref x :: S)) : xv_W M d mc ms Q kc ks sh I Rf J pc L S := by
  intro p l e R s m args below meth c D A sh0 ad0 ca0 ad ca H locs cells slots ls C X hw hR hS hL hO hc hs
  rcases hf with ⟨n, h1, h2, rfl⟩ | ⟨h1, rfl⟩
  · exact lv_aload_n C.1 C.2.1 h1 h2 (hL.get hi) (k C X hw hR hS hL (List.forall_mem_cons.mpr ⟨hL.ok hi, hO⟩) hc hs)
  · exact lv_aload C.1 C.2.1 h1 (hL.get hi) (k C X hw hR hS hL (List.forall_mem_cons.mpr ⟨hL.ok hi, hO⟩) hc hs)
theorem xv_an {i : Nat} (hf : xv_LA M pc i pc') (hi : L[i]? = some (some .null)) (k : xv_W M d mc ms Q kc ks sh I Rf J pc' L (.null :: S)) : xv_W M d mc ms Q kc ks sh I Rf J pc L S := by
  intro p l e R s m args below meth c D A sh0 ad0 ca0 ad ca H locs cells slots ls C X hw hR hS hL hO hc hs
  rcases hf with ⟨n, h1, h2, rfl⟩ | ⟨h1, rfl⟩
  · exact lv_aload_nN C.1 C.2.1 h1 h2 (hL.get hi) (k C X hw hR hS hL (List.forall_mem_cons.mpr ⟨hL.ok hi, hO⟩) hc hs)
  · exact lv_aloadN C.1 C.2.1 h1 (hL.get hi) (k C X hw hR hS hL (List.forall_mem_cons.mpr ⟨hL.ok hi, hO⟩) hc hs)
theorem xv_is {i : Nat} {x : Int32} (hf : xv_SI M pc i pc') (hi : i < L.length) (k : xv_W M d mc ms Q kc ks sh I Rf J pc' (L.set i (some (.int x))) S) : xv_W M d mc ms Q kc ks sh I Rf J pc L (.int x :: S) := by
  intro p l e R s m args below meth c D A sh0 ad0 ca0 ad ca H locs cells slots ls C X hw hR hS hL hO hc hs
  have hi2 : i < M.2.2.1 := hL.2.2 ▸ hi
  rcases hf with ⟨n, h1, h2, rfl⟩ | ⟨h1, rfl⟩
  · exact lv_istore_n C.1 C.2.1 h1 h2 hL.1 hi2 rfl (fun ls' h' => k C X hw hR hS (hL.set rfl trivial h') (xv_ok_t hO) hc hs)
  · exact lv_istore C.1 C.2.1 h1 hL.1 hi2 rfl (fun ls' h' => k C X hw hR hS (hL.set rfl trivial h') (xv_ok_t hO) hc hs)
theorem xv_as {i : Nat} {x : Nat} (hf : xv_SA M pc i pc') (hi : i < L.length) (k : xv_W M d mc ms Q kc ks sh I Rf J pc' (L.set i (some (.ref x))) S) : xv_W M d mc ms Q kc ks sh I Rf J pc L (.ref x :: S) := by
  intro p l e R s m args below meth c D A sh0 ad0 ca0 ad ca H locs cells slots ls C X hw hR hS hL hO hc hs
  have hi2 : i < M.2.2.1 := hL.2.2 ▸ hi
  have ho : xv_ok sh (.ref x) := xv_ok_h hO
  rcases hf with ⟨n, h1, h2, rfl⟩ | ⟨h1, rfl⟩
  · exact lv_astore_n C.1 C.2.1 h1 h2 hL.1 hi2 rfl (fun ls' h' => k C X hw hR hS (hL.set rfl ho h') (xv_ok_t hO) hc hs)
  · exact lv_astore C.1 C.2.1 h1 hL.1 hi2 rfl (fun ls' h' => k C X hw hR hS (hL.set rfl ho h') (xv_ok_t hO) hc hs)
theorem xv_asN {i : Nat} (hf : xv_SA M pc i pc') (hi : i < L.length) (k : xv_W M d mc ms Q kc ks sh I Rf J pc' (L.set i (some .null)) S) : xv_W M d mc ms Q kc ks sh I Rf J pc L (.null :: S) := by
  intro p l e R s m args below meth c D A sh0 ad0 ca0 ad ca H locs cells slots ls C X hw hR hS hL hO hc hs
  have hi2 : i < M.2.2.1 := hL.2.2 ▸ hi
  rcases hf with ⟨n, h1, h2, rfl⟩ | ⟨h1, rfl⟩
  · exact lv_astore_nN C.1 C.2.1 h1 h2 hL.1 hi2 rfl (fun ls' h' => k C X hw hR hS (hL.set rfl trivial h') (xv_ok_t hO) hc hs)
  · exact lv_astoreN C.1 C.2.1 h1 hL.1 hi2 rfl (fun ls' h' => k C X hw hR hS (hL.set rfl trivial h') (xv_ok_t hO) hc hs)
theorem xv_iinc {i : Nat} {n : Int} {x : Int32} (hf : xv_F M pc (.iinc i n) 3 pc') (hi : L[i]? = some (some (.int x))) (k : xv_W M d mc ms Q kc ks sh I Rf J pc' (L.set i (some (.int (x + Int32.ofInt n)))) S) : xv_W M d mc ms Q kc ks sh I Rf J pc L S := by
  obtain ⟨h1, rfl⟩ := hf
  intro p l e R s m args below meth c D A sh0 ad0 ca0 ad ca H locs cells slots ls C X hw hR hS hL hO hc hs
  have hi2 : i < M.2.2.1 := hL.2.2 ▸ (List.getElem?_eq_some_iff.mp hi).1
  obtain ⟨k9, hk9⟩ := List.getElem?_of_mem (xv_lv_mem (ad := ad) hi)
  exact lv_iinc C.1 C.2.1 h1 hL.1 hk9 rfl hi2 rfl (fun ls' h' => k C X hw hR hS (hL.set rfl trivial h') hO hc hs)
theorem xv_il0 {x : Int32} (hf : xv_LI M pc 0 pc') (k : xv_W M d mc ms Q kc ks sh I Rf J pc' (some (.int x) :: L) (.int x :: S)) : xv_W M d mc ms Q kc ks sh I Rf J pc (some (.int x) :: L) S := xv_il hf rfl k
theorem xv_al0 {x : Nat} (hf : xv_LA M pc 0 pc') (k : xv_W M d mc ms Q kc ks sh I Rf J pc' (some (.ref x) :: L) (.ref x :: S)) : xv_W M d mc ms Q kc ks sh I Rf J pc (some (.ref x) :: L) S := xv_al hf rfl k
theorem xv_an0 (hf : xv_LA M pc 0 pc') (k : xv_W M d mc ms Q kc ks sh I Rf J pc' (some .null :: L) (.null :: S)) : xv_W M d mc ms Q kc ks sh I Rf J pc (some .null :: L) S := xv_an hf rfl k
theorem xv_is0 {x : Int32} {z : Option Value} (hf : xv_SI M pc 0 pc') (k : xv_W M d mc ms Q kc ks sh I Rf J pc' (some (.int x) :: L) S) : xv_W M d mc ms Q kc ks sh I Rf J pc (z :: L) (.int x :: S) := xv_is hf (by simp only [List.length_cons]; omega) k
theorem xv_as0 {x : Nat} {z : Option Value} (hf : xv_SA M pc 0 pc') (k : xv_W M d mc ms Q kc ks sh I Rf J pc' (some (.ref x) :: L) S) : xv_W M d mc ms Q kc ks sh I Rf J pc (z :: L) (.ref x :: S) := xv_as hf (by simp only [List.length_cons]; omega) k
theorem xv_asN0 {z : Option Value} (hf : xv_SA M pc 0 pc') (k : xv_W M d mc ms Q kc ks sh I Rf J pc' (some .null :: L) S) : xv_W M d mc ms Q kc ks sh I Rf J pc (z :: L) (.null :: S) := xv_asN hf (by simp only [List.length_cons]; omega) k
theorem xv_iinc0 {n : Int} {x v : Int32} (hf : xv_F M pc (.iinc 0 n) 3 pc') (hv : Int32.ofInt n = v) (k : xv_W M d mc ms Q kc ks sh I Rf J pc' (some (.int (x + v)) :: L) S) : xv_W M d mc ms Q kc ks sh I Rf J pc (some (.int x) :: L) S := by
  subst hv
  exact xv_iinc hf rfl k
theorem xv_il1 {l0 : Option Value} {x : Int32} (hf : xv_LI M pc 1 pc') (k : xv_W M d mc ms Q kc ks sh I Rf J pc' (l0 :: some (.int x) :: L) (.int x :: S)) : xv_W M d mc ms Q kc ks sh I Rf J pc (l0 :: some (.int x) :: L) S := xv_il hf rfl k
theorem xv_al1 {l0 : Option Value} {x : Nat} (hf : xv_LA M pc 1 pc') (k : xv_W M d mc ms Q kc ks sh I Rf J pc' (l0 :: some (.ref x) :: L) (.ref x :: S)) : xv_W M d mc ms Q kc ks sh I Rf J pc (l0 :: some (.ref x) :: L) S := xv_al hf rfl k
theorem xv_an1 {l0 : Option Value} (hf : xv_LA M pc 1 pc') (k : xv_W M d mc ms Q kc ks sh I Rf J pc' (l0 :: some .null :: L) (.null :: S)) : xv_W M d mc ms Q kc ks sh I Rf J pc (l0 :: some .null :: L) S := xv_an hf rfl k
theorem xv_is1 {l0 : Option Value} {x : Int32} {z : Option Value} (hf : xv_SI M pc 1 pc') (k : xv_W M d mc ms Q kc ks sh I Rf J pc' (l0 :: some (.int x) :: L) S) : xv_W M d mc ms Q kc ks sh I Rf J pc (l0 :: z :: L) (.int x :: S) := xv_is hf (by simp only [List.length_cons]; omega) k
theorem xv_as1 {l0 : Option Value} {x : Nat} {z : Option Value} (hf : xv_SA M pc 1 pc') (k : xv_W M d mc ms Q kc ks sh I Rf J pc' (l0 :: some (.ref x) :: L) S) : xv_W M d mc ms Q kc ks sh I Rf J pc (l0 :: z :: L) (.ref x :: S) := xv_as hf (by simp only [List.length_cons]; omega) k
theorem xv_asN1 {l0 : Option Value} {z : Option Value} (hf : xv_SA M pc 1 pc') (k : xv_W M d mc ms Q kc ks sh I Rf J pc' (l0 :: some .null :: L) S) : xv_W M d mc ms Q kc ks sh I Rf J pc (l0 :: z :: L) (.null :: S) := xv_asN hf (by simp only [List.length_cons]; omega) k
theorem xv_iinc1 {l0 : Option Value} {n : Int} {x v : Int32} (hf : xv_F M pc (.iinc 1 n) 3 pc') (hv : Int32.ofInt n = v) (k : xv_W M d mc ms Q kc ks sh I Rf J pc' (l0 :: some (.int (x + v)) :: L) S) : xv_W M d mc ms Q kc ks sh I Rf J pc (l0 :: some (.int x) :: L) S := by
  subst hv
  exact xv_iinc hf rfl k
theorem xv_il2 {l0 l1 : Option Value} {x : Int32} (hf : xv_LI M pc 2 pc') (k : xv_W M d mc ms Q kc ks sh I Rf J pc' (l0 :: l1 :: some (.int x) :: L) (.int x :: S)) : xv_W M d mc ms Q kc ks sh I Rf J pc (l0 :: l1 :: some (.int x) :: L) S := xv_il hf rfl k
theorem xv_al2 {l0 l1 : Option Value} {x : Nat} (hf : xv_LA M pc 2 pc') (k : xv_W M d mc ms Q kc ks sh I Rf J pc' (l0 :: l1 :: some (.ref x) :: L) (.ref x :: S)) : xv_W M d mc ms Q kc ks sh I Rf J pc (l0 :: l1 :: some (.ref x) :: L) S := xv_al hf rfl k
theorem xv_an2 {l0 l1 : Option Value} (hf : xv_LA M pc 2 pc') (k : xv_W M d mc ms Q kc ks sh I Rf J pc' (l0 :: l1 :: some .null :: L) (.null :: S)) : xv_W M d mc ms Q kc ks sh I Rf J pc (l0 :: l1 :: some .null :: L) S := xv_an hf rfl k
theorem xv_is2 {l0 l1 : Option Value} {x : Int32} {z : Option Value} (hf : xv_SI M pc 2 pc') (k : xv_W M d mc ms Q kc ks sh I Rf J pc' (l0 :: l1 :: some (.int x) :: L) S) : xv_W M d mc ms Q kc ks sh I Rf J pc (l0 :: l1 :: z :: L) (.int x :: S) := xv_is hf (by simp only [List.length_cons]; omega) k
theorem xv_as2 {l0 l1 : Option Value} {x : Nat} {z : Option Value} (hf : xv_SA M pc 2 pc') (k : xv_W M d mc ms Q kc ks sh I Rf J pc' (l0 :: l1 :: some (.ref x) :: L) S) : xv_W M d mc ms Q kc ks sh I Rf J pc (l0 :: l1 :: z :: L) (.ref x :: S) := xv_as hf (by simp only [List.length_cons]; omega) k
theorem xv_asN2 {l0 l1 : Option Value} {z : Option Value} (hf : xv_SA M pc 2 pc') (k : xv_W M d mc ms Q kc ks sh I Rf J pc' (l0 :: l1 :: some .null :: L) S) : xv_W M d mc ms Q kc ks sh I Rf J pc (l0 :: l1 :: z :: L) (.null :: S) := xv_asN hf (by simp only [List.length_cons]; omega) k
theorem xv_iinc2 {l0 l1 : Option Value} {n : Int} {x v : Int32} (hf : xv_F M pc (.iinc 2 n) 3 pc') (hv : Int32.ofInt n = v) (k : xv_W M d mc ms Q kc ks sh I Rf J pc' (l0 :: l1 :: some (.int (x + v)) :: L) S) : xv_W M d mc ms Q kc ks sh I Rf J pc (l0 :: l1 :: some (.int x) :: L) S := by
  subst hv
  exact xv_iinc hf rfl k
theorem xv_il3 {l0 l1 l2 : Option Value} {x : Int32} (hf : xv_LI M pc 3 pc') (k : xv_W M d mc ms Q kc ks sh I Rf J pc' (l0 :: l1 :: l2 :: some (.int x) :: L) (.int x :: S)) : xv_W M d mc ms Q kc ks sh I Rf J pc (l0 :: l1 :: l2 :: some (.int x) :: L) S := xv_il hf rfl k
theorem xv_al3 {l0 l1 l2 : Option Value} {x : Nat} (hf : xv_LA M pc 3 pc') (k : xv_W M d mc ms Q kc ks sh I Rf J pc' (l0 :: l1 :: l2 :: some (.ref x) :: L) (.ref x :: S)) : xv_W M d mc ms Q kc ks sh I Rf J pc (l0 :: l1 :: l2 :: some (.ref x) :: L) S := xv_al hf rfl k
theorem xv_an3 {l0 l1 l2 : Option Value} (hf : xv_LA M pc 3 pc') (k : xv_W M d mc ms Q kc ks sh I Rf J pc' (l0 :: l1 :: l2 :: some .null :: L) (.null :: S)) : xv_W M d mc ms Q kc ks sh I Rf J pc (l0 :: l1 :: l2 :: some .null :: L) S := xv_an hf rfl k
theorem xv_is3 {l0 l1 l2 : Option Value} {x : Int32} {z : Option Value} (hf : xv_SI M pc 3 pc') (k : xv_W M d mc ms Q kc ks sh I Rf J pc' (l0 :: l1 :: l2 :: some (.int x) :: L) S) : xv_W M d mc ms Q kc ks sh I Rf J pc (l0 :: l1 :: l2 :: z :: L) (.int x :: S) := xv_is hf (by simp only [List.length_cons]; omega) k
theorem xv_as3 {l0 l1 l2 : Option Value} {x : Nat} {z : Option Value} (hf : xv_SA M pc 3 pc') (k : xv_W M d mc ms Q kc ks sh I Rf J pc' (l0 :: l1 :: l2 :: some (.ref x) :: L) S) : xv_W M d mc ms Q kc ks sh I Rf J pc (l0 :: l1 :: l2 :: z :: L) (.ref x :: S) := xv_as hf (by simp only [List.length_cons]; omega) k
theorem xv_asN3 {l0 l1 l2 : Option Value} {z : Option Value} (hf : xv_SA M pc 3 pc') (k : xv_W M d mc ms Q kc ks sh I Rf J pc' (l0 :: l1 :: l2 :: some .null :: L) S) : xv_W M d mc ms Q kc ks sh I Rf J pc (l0 :: l1 :: l2 :: z :: L) (.null :: S) := xv_asN hf (by simp only [List.length_cons]; omega) k
theorem xv_iinc3 {l0 l1 l2 : Option Value} {n : Int} {x v : Int32} (hf : xv_F M pc (.iinc 3 n) 3 pc') (hv : Int32.ofInt n = v) (k : xv_W M d mc ms Q kc ks sh I Rf J pc' (l0 :: l1 :: l2 :: some (.int (x + v)) :: L) S) : xv_W M d mc ms Q kc ks sh I Rf J pc (l0 :: l1 :: l2 :: some (.int x) :: L) S := by
  subst hv
  exact xv_iinc hf rfl k
theorem xv_il4 {l0 l1 l2 l3 : Option Value} {x : Int32} (hf : xv_LI M pc 4 pc') (k : xv_W M d mc ms Q kc ks sh I Rf J pc' (l0 :: l1 :: l2 :: l3 :: some (.int x) :: L) (.int x :: S)) : xv_W M d mc ms Q kc ks sh I Rf J pc (l0 :: l1 :: l2 :: l3 :: some (.int x) :: L) S := xv_il hf rfl k
theorem xv_al4 {l0 l1 l2 l3 : Option Value} {x : Nat} (hf : xv_LA M pc 4 pc') (k : xv_W M d mc ms Q kc ks sh I Rf J pc' (l0 :: l1 :: l2 :: l3 :: some (.ref x) :: L) (.ref x :: S)) : xv_W M d mc ms Q kc ks sh I Rf J pc (l0 :: l1 :: l2 :: l3 :: some (.ref x) :: L) S := xv_al hf rfl k
theorem xv_an4 {l0 l1 l2 l3 : Option Value} (hf : xv_LA M pc 4 pc') (k : xv_W M d mc ms Q kc ks sh I Rf J pc' (l0 :: l1 :: l2 :: l3 :: some .null :: L) (.null :: S)) : xv_W M d mc ms Q kc ks sh I Rf J pc (l0 :: l1 :: l2 :: l3 :: some .null :: L) S := xv_an hf rfl k
theorem xv_is4 {l0 l1 l2 l3 : Option Value} {x : Int32} {z : Option Value} (hf : xv_SI M pc 4 pc') (k : xv_W M d mc ms Q kc ks sh I Rf J pc' (l0 :: l1 :: l2 :: l3 :: some (.int x) :: L) S) : xv_W M d mc ms Q kc ks sh I Rf J pc (l0 :: l1 :: l2 :: l3 :: z :: L) (.int x :: S) := xv_is hf (by simp only [List.length_cons]; omega) k
theorem xv_as4 {l0 l1 l2 l3 : Option Value} {x : Nat} {z : Option Value} (hf : xv_SA M pc 4 pc') (k : xv_W M d mc ms Q kc ks sh I Rf J pc' (l0 :: l1 :: l2 :: l3 :: some (.ref x) :: L) S) : xv_W M d mc ms Q kc ks sh I Rf J pc (l0 :: l1 :: l2 :: l3 :: z :: L) (.ref x :: S) := xv_as hf (by simp only [List.length_cons]; omega) k
theorem xv_asN4 {l0 l1 l2 l3 : Option Value} {z : Option Value} (hf : xv_SA M pc 4 pc') (k : xv_W M d mc ms Q kc ks sh I Rf J pc' (l0 :: l1 :: l2 :: l3 :: some .null :: L) S) : xv_W M d mc ms Q kc ks sh I Rf J pc (l0 :: l1 :: l2 :: l3 :: z :: L) (.null :: S) := xv_asN hf (by simp only [List.length_cons]; omega) k
theorem xv_iinc4 {l0 l1 l2 l3 : Option Value} {n : Int} {x v : Int32} (hf : xv_F M pc (.iinc 4 n) 3 pc') (hv : Int32.ofInt n = v) (k : xv_W M d mc ms Q kc ks sh I Rf J pc' (l0 :: l1 :: l2 :: l3 :: some (.int (x + v)) :: L) S) : xv_W M d mc ms Q kc ks sh I Rf J pc (l0 :: l1 :: l2 :: l3 :: some (.int x) :: L) S := by
  subst hv
  exact xv_iinc hf rfl k
theorem xv_il5 {l0 l1 l2 l3 l4 : Option Value} {x : Int32} (hf : xv_LI M pc 5 pc') (k : xv_W M d mc ms Q kc ks sh I Rf J pc' (l0 :: l1 :: l2 :: l3 :: l4 :: some (.int x) :: L) (.int x :: S)) : xv_W M d mc ms Q kc ks sh I Rf J pc (l0 :: l1 :: l2 :: l3 :: l4 :: some (.int x) :: L) S := xv_il hf rfl k
theorem xv_al5 {l0 l1 l2 l3 l4 : Option Value} {x : Nat} (hf : xv_LA M pc 5 pc') (k : xv_W M d mc ms Q kc ks sh I Rf J pc' (l0 :: l1 :: l2 :: l3 :: l4 :: some (.ref x) :: L) (.ref x :: S)) : xv_W M d mc ms Q kc ks sh I Rf J pc (l0 :: l1 :: l2 :: l3 :: l4 :: some (.ref x) :: L) S := xv_al hf rfl k
theorem xv_an5 {l0 l1 l2 l3 l4 : Option Value} (hf : xv_LA M pc 5 pc') (k : xv_W M d mc ms Q kc ks sh I Rf J pc' (l0 :: l1 :: l2 :: l3 :: l4 :: some .null :: L) (.null :: S)) : xv_W M d mc ms Q kc ks sh I Rf J pc (l0 :: l1 :: l2 :: l3 :: l4 :: some .null :: L) S := xv_an hf rfl k
theorem xv_is5 {l0 l1 l2 l3 l4 : Option Value} {x : Int32} {z : Option Value} (hf : xv_SI M pc 5 pc') (k : xv_W M d mc ms Q kc ks sh I Rf J pc' (l0 :: l1 :: l2 :: l3 :: l4 :: some (.int x) :: L) S) : xv_W M d mc ms Q kc ks sh I Rf J pc (l0 :: l1 :: l2 :: l3 :: l4 :: z :: L) (.int x :: S) := xv_is hf (by simp only [List.length_cons]; omega) k
theorem xv_as5 {l0 l1 l2 l3 l4 : Option Value} {x : Nat} {z : Option Value} (hf : xv_SA M pc 5 pc') (k : xv_W M d mc ms Q kc ks sh I Rf J pc' (l0 :: l1 :: l2 :: l3 :: l4 :: some (.ref x) :: L) S) : xv_W M d mc ms Q kc ks sh I Rf J pc (l0 :: l1 :: l2 :: l3 :: l4 :: z :: L) (.ref x :: S) := xv_as hf (by simp only [List.length_cons]; omega) k
theorem xv_asN5 {l0 l1 l2 l3 l4 : Option Value} {z : Option Value} (hf : xv_SA M pc 5 pc') (k : xv_W M d mc ms Q kc ks sh I Rf J pc' (l0 :: l1 :: l2 :: l3 :: l4 :: some .null :: L) S) : xv_W M d mc ms Q kc ks sh I Rf J pc (l0 :: l1 :: l2 :: l3 :: l4 :: z :: L) (.null :: S) := xv_asN hf (by simp only [List.length_cons]; omega) k
theorem xv_iinc5 {l0 l1 l2 l3 l4 : Option Value} {n : Int} {x v : Int32} (hf : xv_F M pc (.iinc 5 n) 3 pc') (hv : Int32.ofInt n = v) (k : xv_W M d mc ms Q kc ks sh I Rf J pc' (l0 :: l1 :: l2 :: l3 :: l4 :: some (.int (x + v)) :: L) S) : xv_W M d mc ms Q kc ks sh I Rf J pc (l0 :: l1 :: l2 :: l3 :: l4 :: some (.int x) :: L) S := by
  subst hv
  exact xv_iinc hf rfl k
theorem xv_il6 {l0 l1 l2 l3 l4 l5 : Option Value} {x : Int32} (hf : xv_LI M pc 6 pc') (k : xv_W M d mc ms Q kc ks sh I Rf J pc' (l0 :: l1 :: l2 :: l3 :: l4 :: l5 :: some (.int x) :: L) (.int x :: S)) : xv_W M d mc ms Q kc ks sh I Rf J pc (l0 :: l1 :: l2 :: l3 :: l4 :: l5 :: some (.int x) :: L) S := xv_il hf rfl k
theorem xv_al6 {l0 l1 l2 l3 l4 l5 : Option Value} {x : Nat} (hf : xv_LA M pc 6 pc') (k : xv_W M d mc ms Q kc ks sh I Rf J pc' (l0 :: l1 :: l2 :: l3 :: l4 :: l5 :: some (.ref x) :: L) (.ref x :: S)) : xv_W M d mc ms Q kc ks sh I Rf J pc (l0 :: l1 :: l2 :: l3 :: l4 :: l5 :: some (.ref x) :: L) S := xv_al hf rfl k
theorem xv_an6 {l0 l1 l2 l3 l4 l5 : Option Value} (hf : xv_LA M pc 6 pc') (k : xv_W M d mc ms Q kc ks sh I Rf J pc' (l0 :: l1 :: l2 :: l3 :: l4 :: l5 :: some .null :: L) (.null :: S)) : xv_W M d mc ms Q kc ks sh I Rf J pc (l0 :: l1 :: l2 :: l3 :: l4 :: l5 :: some .null :: L) S := xv_an hf rfl k
theorem xv_is6 {l0 l1 l2 l3 l4 l5 : Option Value} {x : Int32} {z : Option Value} (hf : xv_SI M pc 6 pc') (k : xv_W M d mc ms Q kc ks sh I Rf J pc' (l0 :: l1 :: l2 :: l3 :: l4 :: l5 :: some (.int x) :: L) S) : xv_W M d mc ms Q kc ks sh I Rf J pc (l0 :: l1 :: l2 :: l3 :: l4 :: l5 :: z :: L) (.int x :: S) := xv_is hf (by simp only [List.length_cons]; omega) k
theorem xv_as6 {l0 l1 l2 l3 l4 l5 : Option Value} {x : Nat} {z : Option Value} (hf : xv_SA M pc 6 pc') (k : xv_W M d mc ms Q kc ks sh I Rf J pc' (l0 :: l1 :: l2 :: l3 :: l4 :: l5 :: some (.ref x) :: L) S) : xv_W M d mc ms Q kc ks sh I Rf J pc (l0 :: l1 :: l2 :: l3 :: l4 :: l5 :: z :: L) (.ref x :: S) := xv_as hf (by simp only [List.length_cons]; omega) k
theorem xv_asN6 {l0 l1 l2 l3 l4 l5 : Option Value} {z : Option Value} (hf : xv_SA M pc 6 pc') (k : xv_W M d mc ms Q kc ks sh I Rf J pc' (l0 :: l1 :: l2 :: l3 :: l4 :: l5 :: some .null :: L) S) : xv_W M d mc ms Q kc ks sh I Rf J pc (l0 :: l1 :: l2 :: l3 :: l4 :: l5 :: z :: L) (.null :: S) := xv_asN hf (by simp only [List.length_cons]; omega) k
theorem xv_iinc6 {l0 l1 l2 l3 l4 l5 : Option Value} {n : Int} {x v : Int32} (hf : xv_F M pc (.iinc 6 n) 3 pc') (hv : Int32.ofInt n = v) (k : xv_W M d mc ms Q kc ks sh I Rf J pc' (l0 :: l1 :: l2 :: l3 :: l4 :: l5 :: some (.int (x + v)) :: L) S) : xv_W M d mc ms Q kc ks sh I Rf J pc (l0 :: l1 :: l2 :: l3 :: l4 :: l5 :: some (.int x) :: L) S := by
  subst hv
  exact xv_iinc hf rfl k
theorem xv_il7 {l0 l1 l2 l3 l4 l5 l6 : Option Value} {x : Int32} (hf : xv_LI M pc 7 pc') (k : xv_W M d mc ms Q kc ks sh I Rf J pc' (l0 :: l1 :: l2 :: l3 :: l4 :: l5 :: l6 :: some (.int x) :: L) (.int x :: S)) : xv_W M d mc ms Q kc ks sh I Rf J pc (l0 :: l1 :: l2 :: l3 :: l4 :: l5 :: l6 :: some (.int x) :: L) S := xv_il hf rfl k
theorem xv_al7 {l0 l1 l2 l3 l4 l5 l6 : Option Value} {x : Nat} (hf : xv_LA M pc 7 pc') (k : xv_W M d mc ms Q kc ks sh I Rf J pc' (l0 :: l1 :: l2 :: l3 :: l4 :: l5 :: l6 :: some (.ref x) :: L) (.ref x :: S)) : xv_W M d mc ms Q kc ks sh I Rf J pc (l0 :: l1 :: l2 :: l3 :: l4 :: l5 :: l6 :: some (.ref x) :: L) S := xv_al hf rfl k
theorem xv_an7 {l0 l1 l2 l3 l4 l5 l6 : Option Value} (hf : xv_LA M pc 7 pc') (k : xv_W M d mc ms Q kc ks sh I Rf J pc' (l0 :: l1 :: l2 :: l3 :: l4 :: l5 :: l6 :: some .null :: L) (.null :: S)) : xv_W M d mc ms Q kc ks sh I Rf J pc (l0 :: l1 :: l2 :: l3 :: l4 :: l5 :: l6 :: some .null :: L) S := xv_an hf rfl k
theorem xv_is7 {l0 l1 l2 l3 l4 l5 l6 : Option Value} {x : Int32} {z : Option Value} (hf : xv_SI M pc 7 pc') (k : xv_W M d mc ms Q kc ks sh I Rf J pc' (l0 :: l1 :: l2 :: l3 :: l4 :: l5 :: l6 :: some (.int x) :: L) S) : xv_W M d mc ms Q kc ks sh I Rf J pc (l0 :: l1 :: l2 :: l3 :: l4 :: l5 :: l6 :: z :: L) (.int x :: S) := xv_is hf (by simp only [List.length_cons]; omega) k
theorem xv_as7 {l0 l1 l2 l3 l4 l5 l6 : Option Value} {x : Nat} {z : Option Value} (hf : xv_SA M pc 7 pc') (k : xv_W M d mc ms Q kc ks sh I Rf J pc' (l0 :: l1 :: l2 :: l3 :: l4 :: l5 :: l6 :: some (.ref x) :: L) S) : xv_W M d mc ms Q kc ks sh I Rf J pc (l0 :: l1 :: l2 :: l3 :: l4 :: l5 :: l6 :: z :: L) (.ref x :: S) := xv_as hf (by simp only [List.length_cons]; omega) k
theorem xv_asN7 {l0 l1 l2 l3 l4 l5 l6 : Option Value} {z : Option Value} (hf : xv_SA M pc 7 pc') (k : xv_W M d mc ms Q kc ks sh I Rf J pc' (l0 :: l1 :: l2 :: l3 :: l4 :: l5 :: l6 :: some .null :: L) S) : xv_W M d mc ms Q kc ks sh I Rf J pc (l0 :: l1 :: l2 :: l3 :: l4 :: l5 :: l6 :: z :: L) (.null :: S) := xv_asN hf (by simp only [List.length_cons]; omega) k
theorem xv_iinc7 {l0 l1 l2 l3 l4 l5 l6 : Option Value} {n : Int} {x v : Int32} (hf : xv_F M pc (.iinc 7 n) 3 pc') (hv : Int32.ofInt n = v) (k : xv_W M d mc ms Q kc ks sh I Rf J pc' (l0 :: l1 :: l2 :: l3 :: l4 :: l5 :: l6 :: some (.int (x + v)) :: L) S) : xv_W M d mc ms Q kc ks sh I Rf J pc (l0 :: l1 :: l2 :: l3 :: l4 :: l5 :: l6 :: some (.int x) :: L) S := by
  subst hv
  exact xv_iinc hf rfl k
theorem xv_il8 {l0 l1 l2 l3 l4 l5 l6 l7 : Option Value} {x : Int32} (hf : xv_LI M pc 8 pc') (k : xv_W M d mc ms Q kc ks sh I Rf J pc' (l0 :: l1 :: l2 :: l3 :: l4 :: l5 :: l6 :: l7 :: some (.int x) :: L) (.int x :: S)) : xv_W M d mc ms Q kc ks sh I Rf J pc (l0 :: l1 :: l2 :: l3 :: l4 :: l5 :: l6 :: l7 :: some (.int x) :: L) S := xv_il hf rfl k
theorem xv_al8 {l0 l1 l2 l3 l4 l5 l6 l7 : Option Value} {x : Nat} (hf : xv_LA M pc 8 pc') (k : xv_W M d mc ms Q kc ks sh I Rf J pc' (l0 :: l1 :: l2 :: l3 :: l4 :: l5 :: l6 :: l7 :: some (.ref x) :: L) (.ref x :: S)) : xv_W M d mc ms Q kc ks sh I Rf J pc (l0 :: l1 :: l2 :: l3 :: l4 :: l5 :: l6 :: l7 :: some (.ref x) :: L) S := xv_al hf rfl k
theorem xv_an8 {l0 l1 l2 l3 l4 l5 l6 l7 : Option Value} (hf : xv_LA M pc 8 pc') (k : xv_W M d mc ms Q kc ks sh I Rf J pc' (l0 :: l1 :: l2 :: l3 :: l4 :: l5 :: l6 :: l7 :: some .null :: L) (.null :: S)) : xv_W M d mc ms Q kc ks sh I Rf J pc (l0 :: l1 :: l2 :: l3 :: l4 :: l5 :: l6 :: l7 :: some .null :: L) S := xv_an hf rfl k
theorem xv_is8 {l0 l1 l2 l3 l4 l5 l6 l7 : Option Value} {x : Int32} {z : Option Value} (hf : xv_SI M pc 8 pc') (k : xv_W M d mc ms Q kc ks sh I Rf J pc' (l0 :: l1 :: l2 :: l3 :: l4 :: l5 :: l6 :: l7 :: some (.int x) :: L) S) : xv_W M d mc ms Q kc ks sh I Rf J pc (l0 :: l1 :: l2 :: l3 :: l4 :: l5 :: l6 :: l7 :: z :: L) (.int x :: S) := xv_is hf (by simp only [List.length_cons]; omega) k
theorem xv_as8 {l0 l1 l2 l3 l4 l5 l6 l7 : Option Value} {x : Nat} {z : Option Value} (hf : xv_SA M pc 8 pc') (k : xv_W M d mc ms Q kc ks sh I Rf J pc' (l0 :: l1 :: l2 :: l3 :: l4 :: l5 :: l6 :: l7 :: some (.ref x) :: L) S) : xv_W M d mc ms Q kc ks sh I Rf J pc (l0 :: l1 :: l2 :: l3 :: l4 :: l5 :: l6 :: l7 :: z :: L) (.ref x :: S) := xv_as hf (by simp only [List.length_cons]; omega) k
theorem xv_asN8 {l0 l1 l2 l3 l4 l5 l6 l7 : Option Value} {z : Option Value} (hf : xv_SA M pc 8 pc') (k : xv_W M d mc ms Q kc ks sh I Rf J pc' (l0 :: l1 :: l2 :: l3 :: l4 :: l5 :: l6 :: l7 :: some .null :: L) S) : xv_W M d mc ms Q kc ks sh I Rf J pc (l0 :: l1 :: l2 :: l3 :: l4 :: l5 :: l6 :: l7 :: z :: L) (.null :: S) := xv_asN hf (by simp only [List.length_cons]; omega) k
theorem xv_iinc8 {l0 l1 l2 l3 l4 l5 l6 l7 : Option Value} {n : Int} {x v : Int32} (hf : xv_F M pc (.iinc 8 n) 3 pc') (hv : Int32.ofInt n = v) (k : xv_W M d mc ms Q kc ks sh I Rf J pc' (l0 :: l1 :: l2 :: l3 :: l4 :: l5 :: l6 :: l7 :: some (.int (x + v)) :: L) S) : xv_W M d mc ms Q kc ks sh I Rf J pc (l0 :: l1 :: l2 :: l3 :: l4 :: l5 :: l6 :: l7 :: some (.int x) :: L) S := by
  subst hv
  exact xv_iinc hf rfl k
theorem xv_il9 {l0 l1 l2 l3 l4 l5 l6 l7 l8 : Option Value} {x : Int32} (hf : xv_LI M pc 9 pc') (k : xv_W M d mc ms Q kc ks sh I Rf J pc' (l0 :: l1 :: l2 :: l3 :: l4 :: l5 :: l6 :: l7 :: l8 :: some (.int x) :: L) (.int x :: S)) : xv_W M d mc ms Q kc ks sh I Rf J pc (l0 :: l1 :: l2 :: l3 :: l4 :: l5 :: l6 :: l7 :: l8 :: some (.int x) :: L) S := xv_il hf rfl k
theorem xv_al9 {l0 l1 l2 l3 l4 l5 l6 l7 l8 : Option Value} {x : Nat} (hf : xv_LA M pc 9 pc') (k : xv_W M d mc ms Q kc ks sh I Rf J pc' (l0 :: l1 :: l2 :: l3 :: l4 :: l5 :: l6 :: l7 :: l8 :: some (.ref x) :: L) (.ref x :: S)) : xv_W M d mc ms Q kc ks sh I Rf J pc (l0 :: l1 :: l2 :: l3 :: l4 :: l5 :: l6 :: l7 :: l8 :: some (.ref x) :: L) S := xv_al hf rfl k
theorem xv_an9 {l0 l1 l2 l3 l4 l5 l6 l7 l8 : Option Value} (hf : xv_LA M pc 9 pc') (k : xv_W M d mc ms Q kc ks sh I Rf J pc' (l0 :: l1 :: l2 :: l3 :: l4 :: l5 :: l6 :: l7 :: l8 :: some .null :: L) (.null :: S)) : xv_W M d mc ms Q kc ks sh I Rf J pc (l0 :: l1 :: l2 :: l3 :: l4 :: l5 :: l6 :: l7 :: l8 :: some .null :: L) S := xv_an hf rfl k
theorem xv_is9 {l0 l1 l2 l3 l4 l5 l6 l7 l8 : Option Value} {x : Int32} {z : Option Value} (hf : xv_SI M pc 9 pc') (k : xv_W M d mc ms Q kc ks sh I Rf J pc' (l0 :: l1 :: l2 :: l3 :: l4 :: l5 :: l6 :: l7 :: l8 :: some (.int x) :: L) S) : xv_W M d mc ms Q kc ks sh I Rf J pc (l0 :: l1 :: l2 :: l3 :: l4 :: l5 :: l6 :: l7 :: l8 :: z :: L) (.int x :: S) := xv_is hf (by simp only [List.length_cons]; omega) k
theorem xv_as9 {l0 l1 l2 l3 l4 l5 l6 l7 l8 : Option Value} {x : Nat} {z : Option Value} (hf : xv_SA M pc 9 pc') (k : xv_W M d mc ms Q kc ks sh I Rf J pc' (l0 :: l1 :: l2 :: l3 :: l4 :: l5 :: l6 :: l7 :: l8 :: some (.ref x) :: L) S) : xv_W M d mc ms Q kc ks sh I Rf J pc (l0 :: l1 :: l2 :: l3 :: l4 :: l5 :: l6 :: l7 :: l8 :: z :: L) (.ref x :: S) := xv_as hf (by simp only [List.length_cons]; omega) k
theorem xv_asN9 {l0 l1 l2 l3 l4 l5 l6 l7 l8 : Option Value} {z : Option Value} (hf : xv_SA M pc 9 pc') (k : xv_W M d mc ms Q kc ks sh I Rf J pc' (l0 :: l1 :: l2 :: l3 :: l4 :: l5 :: l6 :: l7 :: l8 :: some .null :: L) S) : xv_W M d mc ms Q kc ks sh I Rf J pc (l0 :: l1 :: l2 :: l3 :: l4 :: l5 :: l6 :: l7 :: l8 :: z :: L) (.null :: S) := xv_asN hf (by simp only [List.length_cons]; omega) k
theorem xv_iinc9 {l0 l1 l2 l3 l4 l5 l6 l7 l8 : Option Value} {n : Int} {x v : Int32} (hf : xv_F M pc (.iinc 9 n) 3 pc') (hv : Int32.ofInt n = v) (k : xv_W M d mc ms Q kc ks sh I Rf J pc' (l0 :: l1 :: l2 :: l3 :: l4 :: l5 :: l6 :: l7 :: l8 :: some (.int (x + v)) :: L) S) : xv_W M d mc ms Q kc ks sh I Rf J pc (l0 :: l1 :: l2 :: l3 :: l4 :: l5 :: l6 :: l7 :: l8 :: some (.int x) :: L) S := by
  subst hv
  exact xv_iinc hf rfl k
theorem xv_il10 {l0 l1 l2 l3 l4 l5 l6 l7 l8 l9 : Option Value} {x : Int32} (hf : xv_LI M pc 10 pc') (k : xv_W M d mc ms Q kc ks sh I Rf J pc' (l0 :: l1 :: l2 :: l3 :: l4 :: l5 :: l6 :: l7 :: l8 :: l9 :: some (.int x) :: L) (.int x :: S)) : xv_W M d mc ms Q kc ks sh I Rf J pc (l0 :: l1 :: l2 :: l3 :: l4 :: l5 :: l6 :: l7 :: l8 :: l9 :: some (.int x) :: L) S := xv_il hf rfl k
theorem xv_al10 {l0 l1 l2 l3 l4 l5 l6 l7 l8 l9 : Option Value} {x : Nat} (hf : xv_LA M pc 10 pc') (k : xv_W M d mc ms Q kc ks sh I Rf J pc' (l0 :: l1 :: l2 :: l3 :: l4 :: l5 :: l6 :: l7 :: l8 :: l9 :: some (.ref x) :: L) (.ref x :: S)) : xv_W M d mc ms Q kc ks sh I Rf J pc (l0 :: l1 :: l2 :: l3 :: l4 :: l5 :: l6 :: l7 :: l8 :: l9 :: some (.ref x) :: L) S := xv_al hf rfl k
theorem xv_an10 {l0 l1 l2 l3 l4 l5 l6 l7 l8 l9 : Option Value} (hf : xv_LA M pc 10 pc') (k : xv_W M d mc ms Q kc ks sh I Rf J pc' (l0 :: l1 :: l2 :: l3 :: l4 :: l5 :: l6 :: l7 :: l8 :: l9 :: some .null :: L) (.null :: S)) : xv_W M d mc ms Q kc ks sh I Rf J pc (l0 :: l1 :: l2 :: l3 :: l4 :: l5 :: l6 :: l7 :: l8 :: l9 :: some .null :: L) S := xv_an hf rfl k
theorem xv_is10 {l0 l1 l2 l3 l4 l5 l6 l7 l8 l9 : Option Value} {x : Int32} {z : Option Value} (hf : xv_SI M pc 10 pc') (k : xv_W M d mc ms Q kc ks sh I Rf J pc' (l0 :: l1 :: l2 :: l3 :: l4 :: l5 :: l6 :: l7 :: l8 :: l9 :: some (.int x) :: L) S) : xv_W M d mc ms Q kc ks sh I Rf J pc (l0 :: l1 :: l2 :: l3 :: l4 :: l5 :: l6 :: l7 :: l8 :: l9 :: z :: L) (.int x :: S) := xv_is hf (by simp only [List.length_cons]; omega) k
theorem xv_as10 {l0 l1 l2 l3 l4 l5 l6 l7 l8 l9 : Option Value} {x : Nat} {z : Option Value} (hf : xv_SA M pc 10 pc') (k : xv_W M d mc ms Q kc ks sh I Rf J pc' (l0 :: l1 :: l2 :: l3 :: l4 :: l5 :: l6 :: l7 :: l8 :: l9 :: some (.ref x) :: L) S) : xv_W M d mc ms Q kc ks sh I Rf J pc (l0 :: l1 :: l2 :: l3 :: l4 :: l5 :: l6 :: l7 :: l8 :: l9 :: z :: L) (.ref x :: S) := xv_as hf (by simp only [List.length_cons]; omega) k
theorem xv_asN10 {l0 l1 l2 l3 l4 l5 l6 l7 l8 l9 : Option Value} {z : Option Value} (hf : xv_SA M pc 10 pc') (k : xv_W M d mc ms Q kc ks sh I Rf J pc' (l0 :: l1 :: l2 :: l3 :: l4 :: l5 :: l6 :: l7 :: l8 :: l9 :: some .null :: L) S) : xv_W M d mc ms Q kc ks sh I Rf J pc (l0 :: l1 :: l2 :: l3 :: l4 :: l5 :: l6 :: l7 :: l8 :: l9 :: z :: L) (.null :: S) := xv_asN hf (by simp only [List.length_cons]; omega) k
theorem xv_iinc10 {l0 l1 l2 l3 l4 l5 l6 l7 l8 l9 : Option Value} {n : Int} {x v : Int32} (hf : xv_F M pc (.iinc 10 n) 3 pc') (hv : Int32.ofInt n = v) (k : xv_W M d mc ms Q kc ks sh I Rf J pc' (l0 :: l1 :: l2 :: l3 :: l4 :: l5 :: l6 :: l7 :: l8 :: l9 :: some (.int (x + v)) :: L) S) : xv_W M d mc ms Q kc ks sh I Rf J pc (l0 :: l1 :: l2 :: l3 :: l4 :: l5 :: l6 :: l7 :: l8 :: l9 :: some (.int x) :: L) S := by
  subst hv
  exact xv_iinc hf rfl k
theorem xv_il11 {l0 l1 l2 l3 l4 l5 l6 l7 l8 l9 l10 : Option Value} {x : Int32} (hf : xv_LI M pc 11 pc') (k : xv_W M d mc ms Q kc ks sh I Rf J pc' (l0 :: l1 :: l2 :: l3 :: l4 :: l5 :: l6 :: l7 :: l8 :: l9 :: l10 :: some (.int x) :: L) (.int x :: S)) : xv_W M d mc ms Q kc ks sh I Rf J pc (l0 :: l1 :: l2 :: l3 :: l4 :: l5 :: l6 :: l7 :: l8 :: l9 :: l10 :: some (.int x) :: L) S := xv_il hf rfl k
theorem xv_al11 {l0 l1 l2 l3 l4 l5 l6 l7 l8 l9 l10 : Option Value} {x : Nat} (hf : xv_LA M pc 11 pc') (k : xv_W M d mc ms Q kc ks sh I Rf J pc' (l0 :: l1 :: l2 :: l3 :: l4 :: l5 :: l6 :: l7 :: l8 :: l9 :: l10 :: some (.ref x) :: L) (.ref x :: S)) : xv_W M d mc ms Q kc ks sh I Rf J pc (l0 :: l1 :: l2 :: l3 :: l4 :: l5 :: l6 :: l7 :: l8 :: l9 :: l10 :: some (.ref x) :: L) S := xv_al hf rfl k
theorem xv_an11 {l0 l1 l2 l3 l4 l5 l6 l7 l8 l9 l10 : Option Value} (hf : xv_LA M pc 11 pc') (k : xv_W M d mc ms Q kc ks sh I Rf J pc' (l0 :: l1 :: l2 :: l3 :: l4 :: l5 :: l6 :: l7 :: l8 :: l9 :: l10 :: some .null :: L) (.null :: S)) : xv_W M d mc ms Q kc ks sh I Rf J pc (l0 :: l1 :: l2 :: l3 :: l4 :: l5 :: l6 :: l7 :: l8 :: l9 :: l10 :: some .null :: L) S := xv_an hf rfl k
theorem xv_is11 {l0 l1 l2 l3 l4 l5 l6 l7 l8 l9 l10 : Option Value} {x : Int32} {z : Option Value} (hf : xv_SI M pc 11 pc') (k : xv_W M d mc ms Q kc ks sh I Rf J pc' (l0 :: l1 :: l2 :: l3 :: l4 :: l5 :: l6 :: l7 :: l8 :: l9 :: l10 :: some (.int x) :: L) S) : xv_W M d mc ms Q kc ks sh I Rf J pc (l0 :: l1 :: l2 :: l3 :: l4 :: l5 :: l6 :: l7 :: l8 :: l9 :: l10 :: z :: L) (.int x :: S) := xv_is hf (by simp only [List.length_cons]; omega) k
theorem xv_as11 {l0 l1 l2 l3 l4 l5 l6 l7 l8 l9 l10 : Option Value} {x : Nat} {z : Option Value} (hf : xv_SA M pc 11 pc') (k : xv_W M d mc ms Q kc ks sh I Rf J pc' (l0 :: l1 :: l2 :: l3 :: l4 :: l5 :: l6 :: l7 :: l8 :: l9 :: l10 :: some (.ref x) :: L) S) : xv_W M d mc ms Q kc ks sh I Rf J pc (l0 :: l1 :: l2 :: l3 :: l4 :: l5 :: l6 :: l7 :: l8 :: l9 :: l10 :: z :: L) (.ref x :: S) := xv_as hf (by simp only [List.length_cons]; omega) k
theorem xv_asN11 {l0 l1 l2 l3 l4 l5 l6 l7 l8 l9 l10 : Option Value} {z : Option Value} (hf : xv_SA M pc 11 pc') (k : xv_W M d mc ms Q kc ks sh I Rf J pc' (l0 :: l1 :: l2 :: l3 :: l4 :: l5 :: l6 :: l7 :: l8 :: l9 :: l10 :: some .null :: L) S) : xv_W M d mc ms Q kc ks sh I Rf J pc (l0 :: l1 :: l2 :: l3 :: l4 :: l5 :: l6 :: l7 :: l8 :: l9 :: l10 :: z :: L) (.null :: S) := xv_asN hf (by simp only [List.length_cons]; omega) k
theorem xv_iinc11 {l0 l1 l2 l3 l4 l5 l6 l7 l8 l9 l10 : Option Value} {n : Int} {x v : Int32} (hf : xv_F M pc (.iinc 11 n) 3 pc') (hv : Int32.ofInt n = v) (k : xv_W M d mc ms Q kc ks sh I Rf J pc' (l0 :: l1 :: l2 :: l3 :: l4 :: l5 :: l6 :: l7 :: l8 :: l9 :: l10 :: some (.int (x + v)) :: L) S) : xv_W M d mc ms Q kc ks sh I Rf J pc (l0 :: l1 :: l2 :: l3 :: l4 :: l5 :: l6 :: l7 :: l8 :: l9 :: l10 :: some (.int x) :: L) S := by
  subst hv
  exact xv_iinc hf rfl k
theorem xv_il12 {l0 l1 l2 l3 l4 l5 l6 l7 l8 l9 l10 l11 : Option Value} {x : Int32} (hf : xv_LI M pc 12 pc') (k : xv_W M d mc ms Q kc ks sh I Rf J pc' (l0 :: l1 :: l2 :: l3 :: l4 :: l5 :: l6 :: l7 :: l8 :: l9 :: l10 :: l11 :: some (.int x) :: L) (.int x :: S)) : xv_W M d mc ms Q kc ks sh I Rf J pc (l0 :: l1 :: l2 :: l3 :: l4 :: l5 :: l6 :: l7 :: l8 :: l9 :: l10 :: l11 :: some (.int x) :: L) S := xv_il hf rfl k
theorem xv_al12 {l0 l1 l2 l3 l4 l5 l6 l7 l8 l9 l10 l11 : Option Value} {x : Nat} (hf : xv_LA M pc 12 pc') (k : xv_W M d mc ms Q kc ks sh I Rf J pc' (l0 :: l1 :: l2 :: l3 :: l4 :: l5 :: l6 :: l7 :: l8 :: l9 :: l10 :: l11 :: some (.ref x) :: L) (.ref x :: S)) : xv_W M d mc ms Q kc ks sh I Rf J pc (l0 :: l1 :: l2 :: l3 :: l4 :: l5 :: l6 :: l7 :: l8 :: l9 :: l10 :: l11 :: some (.ref x) :: L) S := xv_al hf rfl k
theorem xv_an12 {l0 l1 l2 l3 l4 l5 l6 l7 l8 l9 l10 l11 : Option Value} (hf : xv_LA M pc 12 pc') (k : xv_W M d mc ms Q kc ks sh I Rf J pc' (l0 :: l1 :: l2 :: l3 :: l4 :: l5 :: l6 :: l7 :: l8 :: l9 :: l10 :: l11 :: some .null :: L) (.null :: S)) : xv_W M d mc ms Q kc ks sh I Rf J pc (l0 :: l1 :: l2 :: l3 :: l4 :: l5 :: l6 :: l7 :: l8 :: l9 :: l10 :: l11 :: some .null :: L) S := xv_an hf rfl k
theorem xv_is12 {l0 l1 l2 l3 l4 l5 l6 l7 l8 l9 l10 l11 : Option Value} {x : Int32} {z : Option Value} (hf : xv_SI M pc 12 pc') (k : xv_W M d mc ms Q kc ks sh I Rf J pc' (l0 :: l1 :: l2 :: l3 :: l4 :: l5 :: l6 :: l7 :: l8 :: l9 :: l10 :: l11 :: some (.int x) :: L) S) : xv_W M d mc ms Q kc ks sh I Rf J pc (l0 :: l1 :: l2 :: l3 :: l4 :: l5 :: l6 :: l7 :: l8 :: l9 :: l10 :: l11 :: z :: L) (.int x :: S) := xv_is hf (by simp only [List.length_cons]; omega) k
theorem xv_as12 {l0 l1 l2 l3 l4 l5 l6 l7 l8 l9 l10 l11 : Option Value} {x : Nat} {z : Option Value} (hf : xv_SA M pc 12 pc') (k : xv_W M d mc ms Q kc ks sh I Rf J pc' (l0 :: l1 :: l2 :: l3 :: l4 :: l5 :: l6 :: l7 :: l8 :: l9 :: l10 :: l11 :: some (.ref x) :: L) S) : xv_W M d mc ms Q kc ks sh I Rf J pc (l0 :: l1 :: l2 :: l3 :: l4 :: l5 :: l6 :: l7 :: l8 :: l9 :: l10 :: l11 :: z :: L) (.ref x :: S) := xv_as hf (by simp only [List.length_cons]; omega) k
theorem xv_asN12 {l0 l1 l2 l3 l4 l5 l6 l7 l8 l9 l10 l11 : Option Value} {z : Option Value} (hf : xv_SA M pc 12 pc') (k : xv_W M d mc ms Q kc ks sh I Rf J pc' (l0 :: l1 :: l2 :: l3 :: l4 :: l5 :: l6 :: l7 :: l8 :: l9 :: l10 :: l11 :: some .null :: L) S) : xv_W M d mc ms Q kc ks sh I Rf J pc (l0 :: l1 :: l2 :: l3 :: l4 :: l5 :: l6 :: l7 :: l8 :: l9 :: l10 :: l11 :: z :: L) (.null :: S) := xv_asN hf (by simp only [List.length_cons]; omega) k
theorem xv_iinc12 {l0 l1 l2 l3 l4 l5 l6 l7 l8 l9 l10 l11 : Option Value} {n : Int} {x v : Int32} (hf : xv_F M pc (.iinc 12 n) 3 pc') (hv : Int32.ofInt n = v) (k : xv_W M d mc ms Q kc ks sh I Rf J pc' (l0 :: l1 :: l2 :: l3 :: l4 :: l5 :: l6 :: l7 :: l8 :: l9 :: l10 :: l11 :: some (.int (x + v)) :: L) S) : xv_W M d mc ms Q kc ks sh I Rf J pc (l0 :: l1 :: l2 :: l3 :: l4 :: l5 :: l6 :: l7 :: l8 :: l9 :: l10 :: l11 :: some (.int x) :: L) S := by
  subst hv
  exact xv_iinc hf rfl k
theorem xv_il13 {l0 l1 l2 l3 l4 l5 l6 l7 l8 l9 l10 l11 l12 : Option Value} {x : Int32} (hf : xv_LI M pc 13 pc') (k : xv_W M d mc ms Q kc ks sh I Rf J pc' (l0 :: l1 :: l2 :: l3 :: l4 :: l5 :: l6 :: l7 :: l8 :: l9 :: l10 :: l11 :: l12 :: some (.int x) :: L) (.int x :: S)) : xv_W M d mc ms Q kc ks sh I Rf J pc (l0 :: l1 :: l2 :: l3 :: l4 :: l5 :: l6 :: l7 :: l8 :: l9 :: l10 :: l11 :: l12 :: some (.int x) :: L) S := xv_il hf rfl k
theorem xv_al13 {l0 l1 l2 l3 l4 l5 l6 l7 l8 l9 l10 l11 l12 : Option Value} {x : Nat} (hf : xv_LA M pc 13 pc') (k : xv_W M d mc ms Q kc ks sh I Rf J pc' (l0 :: l1 :: l2 :: l3 :: l4 :: l5 :: l6 :: l7 :: l8 :: l9 :: l10 :: l11 :: l12 :: some (.ref x) :: L) (.ref x :: S)) : xv_W M d mc ms Q kc ks sh I Rf J pc (l0 :: l1 :: l2 :: l3 :: l4 :: l5 :: l6 :: l7 :: l8 :: l9 :: l10 :: l11 :: l12 :: some (.ref x) :: L) S := xv_al hf rfl k
theorem xv_an13 {l0 l1 l2 l3 l4 l5 l6 l7 l8 l9 l10 l11 l12 : Option Value} (hf : xv_LA M pc 13 pc') (k : xv_W M d mc ms Q kc ks sh I Rf J pc' (l0 :: l1 :: l2 :: l3 :: l4 :: l5 :: l6 :: l7 :: l8 :: l9 :: l10 :: l11 :: l12 :: some .null :: L) (.null :: S)) : xv_W M d mc ms Q kc ks sh I Rf J pc (l0 :: l1 :: l2 :: l3 :: l4 :: l5 :: l6 :: l7 :: l8 :: l9 :: l10 :: l11 :: l12 :: some .null :: L) S := xv_an hf rfl k
theorem xv_is13 {l0 l1 l2 l3 l4 l5 l6 l7 l8 l9 l10 l11 l12 : Option Value} {x : Int32} {z : Option Value} (hf : xv_SI M pc 13 pc') (k : xv_W M d mc ms Q kc ks sh I Rf J pc' (l0 :: l1 :: l2 :: l3 :: l4 :: l5 :: l6 :: l7 :: l8 :: l9 :: l10 :: l11 :: l12 :: some (.int x) :: L) S) : xv_W M d mc ms Q kc ks sh I Rf J pc (l0 :: l1 :: l2 :: l3 :: l4 :: l5 :: l6 :: l7 :: l8 :: l9 :: l10 :: l11 :: l12 :: z :: L) (.int x :: S) := xv_is hf (by simp only [List.length_cons]; omega) k
theorem xv_as13 {l0 l1 l2 l3 l4 l5 l6 l7 l8 l9 l10 l11 l12 : Option Value} {x : Nat} {z : Option Value} (hf : xv_SA M pc 13 pc') (k : xv_W M d mc ms Q kc ks sh I Rf J pc' (l0 :: l1 :: l2 :: l3 :: l4 :: l5 :: l6 :: l7 :: l8 :: l9 :: l10 :: l11 :: l12 :: some (.ref x) :: L) S) : xv_W M d mc ms Q kc ks sh I Rf J pc (l0 :: l1 :: l2 :: l3 :: l4 :: l5 :: l6 :: l7 :: l8 :: l9 :: l10 :: l11 :: l12 :: z :: L) (.ref x :: S) := xv_as hf (by simp only [List.length_cons]; omega) k
theorem xv_asN13 {l0 l1 l2 l3 l4 l5 l6 l7 l8 l9 l10 l11 l12 : Option Value} {z : Option Value} (hf : xv_SA M pc 13 pc') (k : xv_W M d mc ms Q kc ks sh I Rf J pc' (l0 :: l1 :: l2 :: l3 :: l4 :: l5 :: l6 :: l7 :: l8 :: l9 :: l10 :: l11 :: l12 :: some .null :: L) S) : xv_W M d mc ms Q kc ks sh I Rf J pc (l0 :: l1 :: l2 :: l3 :: l4 :: l5 :: l6 :: l7 :: l8 :: l9 :: l10 :: l11 :: l12 :: z :: L) (.null :: S) := xv_asN hf (by simp only [List.length_cons]; omega) k
theorem xv_iinc13 {l0 l1 l2 l3 l4 l5 l6 l7 l8 l9 l10 l11 l12 : Option Value} {n : Int} {x v : Int32} (hf : xv_F M pc (.iinc 13 n) 3 pc') (hv : Int32.ofInt n = v) (k : xv_W M d mc ms Q kc ks sh I Rf J pc' (l0 :: l1 :: l2 :: l3 :: l4 :: l5 :: l6 :: l7 :: l8 :: l9 :: l10 :: l11 :: l12 :: some (.int (x + v)) :: L) S) : xv_W M d mc ms Q kc ks sh I Rf J pc (l0 :: l1 :: l2 :: l3 :: l4 :: l5 :: l6 :: l7 :: l8 :: l9 :: l10 :: l11 :: l12 :: some (.int x) :: L) S := by
  subst hv
  exact xv_iinc hf rfl k
theorem xv_dup_i {x : Int32} (hf : xv_F M pc .dup 1 pc') (k : xv_W M d mc ms Q kc ks sh I Rf J pc' L (.int x :: .int x :: S)) : xv_W M d mc ms Q kc ks sh I Rf J pc L (.int x :: S) := by
  obtain ⟨h1, rfl⟩ := hf
  intro p l e R s m args below meth c D A sh0 ad0 ca0 ad ca H locs cells slots ls C X hw hR hS hL hO hc hs
  exact lv_dup C.1 C.2.1 h1 rfl (k C X hw hR hS hL (List.forall_mem_cons.mpr ⟨xv_ok_h hO, hO⟩) hc hs)
theorem xv_pop_i {x : Int32} (hf : xv_F M pc .pop 1 pc') (k : xv_W M d mc ms Q kc ks sh I Rf J pc' L S) : xv_W M d mc ms Q kc ks sh I Rf J pc L (.int x :: S) := by
  obtain ⟨h1, rfl⟩ := hf
  intro p l e R s m args below meth c D A sh0 ad0 ca0 ad ca H locs cells slots ls C X hw hR hS hL hO hc hs
  exact lv_pop C.1 C.2.1 h1 rfl (k C X hw hR hS hL (xv_ok_t hO) hc hs)
theorem xv_dup_r {x : Nat} (hf : xv_F M pc .dup 1 pc') (k : xv_W M d mc ms Q kc ks sh I Rf J pc' L (.ref x :: .ref x :: S)) : xv_W M d mc ms Q kc ks sh I Rf J pc L (.ref x :: S) := by
  obtain ⟨h1, rfl⟩ := hf
  intro p l e R s m args below meth c D A sh0 ad0 ca0 ad ca H locs cells slots ls C X hw hR hS hL hO hc hs
  exact lv_dup C.1 C.2.1 h1 rfl (k C X hw hR hS hL (List.forall_mem_cons.mpr ⟨xv_ok_h hO, hO⟩) hc hs)
theorem xv_pop_r {x : Nat} (hf : xv_F M pc .pop 1 pc') (k : xv_W M d mc ms Q kc ks sh I Rf J pc' L S) : xv_W M d mc ms Q kc ks sh I Rf J pc L (.ref x :: S) := by
  obtain ⟨h1, rfl⟩ := hf
  intro p l e R s m args below meth c D A sh0 ad0 ca0 ad ca H locs cells slots ls C X hw hR hS hL hO hc hs
  exact lv_pop C.1 C.2.1 h1 rfl (k C X hw hR hS hL (xv_ok_t hO) hc hs)
theorem xv_dup2 {i : Int32} {a : Nat} (hf : xv_F M pc .dup2 1 pc') (k : xv_W M d mc ms Q kc ks sh I Rf J pc' L (.int i :: .ref a :: .int i :: .ref a :: S)) : xv_W M d mc ms Q kc ks sh I Rf J pc L (.int i :: .ref a :: S) := by
  obtain ⟨h1, rfl⟩ := hf
  intro p l e R s m args below meth c D A sh0 ad0 ca0 ad ca H locs cells slots ls C X hw hR hS hL hO hc hs
  exact lv_dup2_11 C.1 C.2.1 h1 rfl rfl (k C X hw hR hS hL (List.forall_mem_cons.mpr ⟨trivial, List.forall_mem_cons.mpr ⟨xv_ok_h (xv_ok_t hO), hO⟩⟩) hc hs)
theorem xv_if_eq {x : Int32} (hf : xv_B M pc (.ifCond .eq) tgt pc') (kt : x = 0 → xv_W M d mc ms Q kc ks sh I Rf J tgt L S) (kf : ¬ x = 0 → xv_W M d mc ms Q kc ks sh I Rf J pc' L S) : xv_W M d mc ms Q kc ks sh I Rf J pc L (.int x :: S) := by
  obtain ⟨off, h1, h2, rfl⟩ := hf
  intro p l e R s m args below meth c D A sh0 ad0 ca0 ad ca H locs cells slots ls C X hw hR hS hL hO hc hs
  exact lv_if_eq C.1 C.2.1 h1 h2 (fun h => kt h C X hw hR hS hL (xv_ok_t hO) hc hs) (fun h => kf h C X hw hR hS hL (xv_ok_t hO) hc hs)
theorem xv_if_ne {x : Int32} (hf : xv_B M pc (.ifCond .ne) tgt pc') (kt : ¬ x = 0 → xv_W M d mc ms Q kc ks sh I Rf J tgt L S) (kf : x = 0 → xv_W M d mc ms Q kc ks sh I Rf J pc' L S) : xv_W M d mc ms Q kc ks sh I Rf J pc L (.int x :: S) := by
  obtain ⟨off, h1, h2, rfl⟩ := hf
  intro p l e R s m args below meth c D A sh0 ad0 ca0 ad ca H locs cells slots ls C X hw hR hS hL hO hc hs
  exact lv_if_ne C.1 C.2.1 h1 h2 (fun h => kt h C X hw hR hS hL (xv_ok_t hO) hc hs) (fun h => kf h C X hw hR hS hL (xv_ok_t hO) hc hs)
theorem xv_if_lt {x : Int32} (hf : xv_B M pc (.ifCond .lt) tgt pc') (kt : x < 0 → xv_W M d mc ms Q kc ks sh I Rf J tgt L S) (kf : ¬ x < 0 → xv_W M d mc ms Q kc ks sh I Rf J pc' L S) : xv_W M d mc ms Q kc ks sh I Rf J pc L (.int x :: S) := by
  obtain ⟨off, h1, h2, rfl⟩ := hf
  intro p l e R s m args below meth c D A sh0 ad0 ca0 ad ca H locs cells slots ls C X hw hR hS hL hO hc hs
  exact lv_if_lt C.1 C.2.1 h1 h2 (fun h => kt h C X hw hR hS hL (xv_ok_t hO) hc hs) (fun h => kf h C X hw hR hS hL (xv_ok_t hO) hc hs)
theorem xv_if_ge {x : Int32} (hf : xv_B M pc (.ifCond .ge) tgt pc') (kt : 0 ≤ x → xv_W M d mc ms Q kc ks sh I Rf J tgt L S) (kf : ¬ 0 ≤ x → xv_W M d mc ms Q kc ks sh I Rf J pc' L S) : xv_W M d mc ms Q kc ks sh I Rf J pc L (.int x :: S) := by
  obtain ⟨off, h1, h2, rfl⟩ := hf
  intro p l e R s m args below meth c D A sh0 ad0 ca0 ad ca H locs cells slots ls C X hw hR hS hL hO hc hs
  exact lv_if_ge C.1 C.2.1 h1 h2 (fun h => kt h C X hw hR hS hL (xv_ok_t hO) hc hs) (fun h => kf h C X hw hR hS hL (xv_ok_t hO) hc hs)
theorem xv_if_gt {x : Int32} (hf : xv_B M pc (.ifCond .gt) tgt pc') (kt : 0 < x → xv_W M d mc ms Q kc ks sh I Rf J tgt L S) (kf : ¬ 0 < x → xv_W M d mc ms Q kc ks sh I Rf J pc' L S) : xv_W M d mc ms Q kc ks sh I Rf J pc L (.int x :: S) := by
  obtain ⟨off, h1, h2, rfl⟩ := hf
  intro p l e R s m args below meth c D A sh0 ad0 ca0 ad ca H locs cells slots ls C X hw hR hS hL hO hc hs
  exact lv_if_gt C.1 C.2.1 h1 h2 (fun h => kt h C X hw hR hS hL (xv_ok_t hO) hc hs) (fun h => kf h C X hw hR hS hL (xv_ok_t hO) hc hs)
theorem xv_if_le {x : Int32} (hf : xv_B M pc (.ifCond .le) tgt pc') (kt : x ≤ 0 → xv_W M d mc ms Q kc ks sh I Rf J tgt L S) (kf : ¬ x ≤ 0 → xv_W M d mc ms Q kc ks sh I Rf J pc' L S) : xv_W M d mc ms Q kc ks sh I Rf J pc L (.int x :: S) := by
  obtain ⟨off, h1, h2, rfl⟩ := hf
  intro p l e R s m args below meth c D A sh0 ad0 ca0 ad ca H locs cells slots ls C X hw hR hS hL hO hc hs
  exact lv_if_le C.1 C.2.1 h1 h2 (fun h => kt h C X hw hR hS hL (xv_ok_t hO) hc hs) (fun h => kf h C X hw hR hS hL (xv_ok_t hO) hc hs)
theorem xv_ic_eq {x y : Int32} (hf : xv_B M pc (.if_icmp .eq) tgt pc') (kt : x = y → xv_W M d mc ms Q kc ks sh I Rf J tgt L S) (kf : ¬ x = y → xv_W M d mc ms Q kc ks sh I Rf J pc' L S) : xv_W M d mc ms Q kc ks sh I Rf J pc L (.int y :: .int x :: S) := by
  obtain ⟨off, h1, h2, rfl⟩ := hf
  intro p l e R s m args below meth c D A sh0 ad0 ca0 ad ca H locs cells slots ls C X hw hR hS hL hO hc hs
  exact lv_icmp_eq C.1 C.2.1 h1 h2 (fun h => kt h C X hw hR hS hL (xv_ok_t (xv_ok_t hO)) hc hs) (fun h => kf h C X hw hR hS hL (xv_ok_t (xv_ok_t hO)) hc hs)
theorem xv_ic_ne {x y : Int32} (hf : xv_B M pc (.if_icmp .ne) tgt pc') (kt : ¬ x = y → xv_W M d mc ms Q kc ks sh I Rf J tgt L S) (kf : x = y → xv_W M d mc ms Q kc ks sh I Rf J pc' L S) : xv_W M d mc ms Q kc ks sh I Rf J pc L (.int y :: .int x :: S) := by
  obtain ⟨off, h1, h2, rfl⟩ := hf
  intro p l e R s m args below meth c D A sh0 ad0 ca0 ad ca H locs cells slots ls C X hw hR hS hL hO hc hs
  exact lv_icmp_ne C.1 C.2.1 h1 h2 (fun h => kt h C X hw hR hS hL (xv_ok_t (xv_ok_t hO)) hc hs) (fun h => kf h C X hw hR hS hL (xv_ok_t (xv_ok_t hO)) hc hs)
theorem xv_ic_lt {x y : Int32} (hf : xv_B M pc (.if_icmp .lt) tgt pc') (kt : x < y → xv_W M d mc ms Q kc ks sh I Rf J tgt L S) (kf : ¬ x < y → xv_W M d mc ms Q kc ks sh I Rf J pc' L S) : xv_W M d mc ms Q kc ks sh I Rf J pc L (.int y :: .int x :: S) := by
  obtain ⟨off, h1, h2, rfl⟩ := hf
  intro p l e R s m args below meth c D A sh0 ad0 ca0 ad ca H locs cells slots ls C X hw hR hS hL hO hc hs
  exact lv_icmp_lt C.1 C.2.1 h1 h2 (fun h => kt h C X hw hR hS hL (xv_ok_t (xv_ok_t hO)) hc hs) (fun h => kf h C X hw hR hS hL (xv_ok_t (xv_ok_t hO)) hc hs)
theorem xv_ic_ge {x y : Int32} (hf : xv_B M pc (.if_icmp .ge) tgt pc') (kt : y ≤ x → xv_W M d mc ms Q kc ks sh I Rf J tgt L S) (kf : ¬ y ≤ x → xv_W M d mc ms Q kc ks sh I Rf J pc' L S) : xv_W M d mc ms Q kc ks sh I Rf J pc L (.int y :: .int x :: S) := by
  obtain ⟨off, h1, h2, rfl⟩ := hf
  intro p l e R s m args below meth c D A sh0 ad0 ca0 ad ca H locs cells slots ls C X hw hR hS hL hO hc hs
  exact lv_icmp_ge C.1 C.2.1 h1 h2 (fun h => kt h C X hw hR hS hL (xv_ok_t (xv_ok_t hO)) hc hs) (fun h => kf h C X hw hR hS hL (xv_ok_t (xv_ok_t hO)) hc hs)
theorem xv_ic_gt {x y : Int32} (hf : xv_B M pc (.if_icmp .gt) tgt pc') (kt : y < x → xv_W M d mc ms Q kc ks sh I Rf J tgt L S) (kf : ¬ y < x → xv_W M d mc ms Q kc ks sh I Rf J pc' L S) : xv_W M d mc ms Q kc ks sh I Rf J pc L (.int y :: .int x :: S) := by
  obtain ⟨off, h1, h2, rfl⟩ := hf
  intro p l e R s m args below meth c D A sh0 ad0 ca0 ad ca H locs cells slots ls C X hw hR hS hL hO hc hs
  exact lv_icmp_gt C.1 C.2.1 h1 h2 (fun h => kt h C X hw hR hS hL (xv_ok_t (xv_ok_t hO)) hc hs) (fun h => kf h C X hw hR hS hL (xv_ok_t (xv_ok_t hO)) hc hs)
theorem xv_ic_le {x y : Int32} (hf : xv_B M pc (.if_icmp .le) tgt pc') (kt : x ≤ y → xv_W M d mc ms Q kc ks sh I Rf J tgt L S) (kf : ¬ x ≤ y → xv_W M d mc ms Q kc ks sh I Rf J pc' L S) : xv_W M d mc ms Q kc ks sh I Rf J pc L (.int y :: .int x :: S) := by
  obtain ⟨off, h1, h2, rfl⟩ := hf
  intro p l e R s m args below meth c D A sh0 ad0 ca0 ad ca H locs cells slots ls C X hw hR hS hL hO hc hs
  exact lv_icmp_le C.1 C.2.1 h1 h2 (fun h => kt h C X hw hR hS hL (xv_ok_t (xv_ok_t hO)) hc hs) (fun h => kf h C X hw hR hS hL (xv_ok_t (xv_ok_t hO)) hc hs)
theorem xv_goto (hf : xv_B M pc .goto tgt pc') (k : xv_W M d mc ms Q kc ks sh I Rf J tgt L S) : xv_W M d mc ms Q kc ks sh I Rf J pc L S := by
  obtain ⟨off, h1, h2, rfl⟩ := hf
  intro p l e R s m args below meth c D A sh0 ad0 ca0 ad ca H locs cells slots ls C X hw hR hS hL hO hc hs
  exact lv_goto C.1 C.2.1 h1 h2 (k C X hw hR hS hL hO hc hs)
theorem xv_ifnull_r {a : Nat} (hf : xv_B M pc .ifnull tgt pc') (k : xv_W M d mc ms Q kc ks sh I Rf J pc' L S) : xv_W M d mc ms Q kc ks sh I Rf J pc L (.ref a :: S) := by
  obtain ⟨off, h1, h2, rfl⟩ := hf
  intro p l e R s m args below meth c D A sh0 ad0 ca0 ad ca H locs cells slots ls C X hw hR hS hL hO hc hs
  exact lv_ifnull C.1 C.2.1 h1 (k C X hw hR hS hL (xv_ok_t hO) hc hs)
theorem xv_ifnull_n (hf : xv_B M pc .ifnull tgt pc') (k : xv_W M d mc ms Q kc ks sh I Rf J tgt L S) : xv_W M d mc ms Q kc ks sh I Rf J pc L (.null :: S) := by
  obtain ⟨off, h1, h2, rfl⟩ := hf
  intro p l e R s m args below meth c D A sh0 ad0 ca0 ad ca H locs cells slots ls C X hw hR hS hL hO hc hs
  exact lv_ifnullN C.1 C.2.1 h1 h2 (k C X hw hR hS hL (xv_ok_t hO) hc hs)
theorem xv_ifnon_r {a : Nat} (hf : xv_B M pc .ifnonnull tgt pc') (k : xv_W M d mc ms Q kc ks sh I Rf J tgt L S) : xv_W M d mc ms Q kc ks sh I Rf J pc L (.ref a :: S) := by
  obtain ⟨off, h1, h2, rfl⟩ := hf
  intro p l e R s m args below meth c D A sh0 ad0 ca0 ad ca H locs cells slots ls C X hw hR hS hL hO hc hs
  exact lv_ifnonnull C.1 C.2.1 h1 h2 (k C X hw hR hS hL (xv_ok_t hO) hc hs)
theorem xv_ifnon_n (hf : xv_B M pc .ifnonnull tgt pc') (k : xv_W M d mc ms Q kc ks sh I Rf J pc' L S) : xv_W M d mc ms Q kc ks sh I Rf J pc L (.null :: S) := by
  obtain ⟨off, h1, h2, rfl⟩ := hf
  intro p l e R s m args below meth c D A sh0 ad0 ca0 ad ca H locs cells slots ls C X hw hR hS hL hO hc hs
  exact lv_ifnonnullN C.1 C.2.1 h1 (k C X hw hR hS hL (xv_ok_t hO) hc hs)
theorem xv_acmp_eq {a b : Nat} (hf : xv_B M pc (.if_acmp .eq) tgt pc') (kt : a = b → xv_W M d mc ms Q kc ks sh I Rf J tgt L S) (kf : ¬ a = b → xv_W M d mc ms Q kc ks sh I Rf J pc' L S) : xv_W M d mc ms Q kc ks sh I Rf J pc L (.ref b :: .ref a :: S) := by
  obtain ⟨off, h1, h2, rfl⟩ := hf
  intro p l e R s m args below meth c D A sh0 ad0 ca0 ad ca H locs cells slots ls C X hw hR hS hL hO hc hs
  exact lv_acmp_eq (rx := some (ad a)) (ry := some (ad b)) C.1 C.2.1 h1 h2 (fun h => kt (hR.2.1 a b (xv_ok_h (xv_ok_t hO)) (xv_ok_h hO) (Option.some.inj h)) C X hw hR hS hL (xv_ok_t (xv_ok_t hO)) hc hs) (fun h => kf (fun q => h (by rw [q])) C X hw hR hS hL (xv_ok_t (xv_ok_t hO)) hc hs)
theorem xv_tabIn {dflt lo hi : Int} {offs : Array Int} {len : Nat} {x : Int32} {off : Int} (hd : decode M.2.1 pc = .ok (.tableswitch dflt lo hi offs, len)) (h1 : ¬ x.toInt < lo) (h2 : ¬ hi < x.toInt) (ho : offs[(x.toInt - lo).toNat]? = some off) (ht : (pc : Int) + off = (tgt : Int)) (k : xv_W M d mc ms Q kc ks sh I Rf J tgt L S) : xv_W M d mc ms Q kc ks sh I Rf J pc L (.int x :: S) := by
  intro p l e R s m args below meth c D A sh0 ad0 ca0 ad ca H locs cells slots ls C X hw hR hS hL hO hc hs
  exact lv_tableIn C.1 C.2.1 hd h1 h2 ho ht (k C X hw hR hS hL (xv_ok_t hO) hc hs)
theorem xv_tabOut {dflt lo hi : Int} {offs : Array Int} {len : Nat} {x : Int32} (hd : decode M.2.1 pc = .ok (.tableswitch dflt lo hi offs, len)) (h1 : x.toInt < lo ∨ hi < x.toInt) (ht : (pc : Int) + dflt = (tgt : Int)) (k : xv_W M d mc ms Q kc ks sh I Rf J tgt L S) : xv_W M d mc ms Q kc ks sh I Rf J pc L (.int x :: S) := by
  intro p l e R s m args below meth c D A sh0 ad0 ca0 ad ca H locs cells slots ls C X hw hR hS hL hO hc hs
  exact lv_tableOut C.1 C.2.1 hd h1 ht (k C X hw hR hS hL (xv_ok_t hO) hc hs)
theorem xv_eqi {x y : Int32} (h : x = y) (k : xv_W M d mc ms Q kc ks sh I Rf J pc L (.int y :: S)) : xv_W M d mc ms Q kc ks sh I Rf J pc L (.int x :: S) := h ▸ k
theorem xv_eqI {I' : xv_I} (h : I = I') (k : xv_W M d mc ms Q kc ks sh I' Rf J pc L S) : xv_W M d mc ms Q kc ks sh I Rf J pc L S := h ▸ k
theorem xv_less {kc' ks' : Nat} (h1 : kc' ≤ kc) (h2 : ks' ≤ ks) (k : xv_W M d mc ms Q kc' ks' sh I Rf J pc L S) : xv_W M d mc ms Q kc ks sh I Rf J pc L S := by
  intro p l e R s m args below meth c D A sh0 ad0 ca0 ad ca H locs cells slots ls C X hw hR hS hL hO hc hs
  exact k C X hw hR hS hL hO (by omega) (by omega)
theorem xv_iret {x : Int32} {ty : FieldType} (hf : xv_F M pc .ireturn 1 pc') (hr : M.2.2.2.1 = some ty) (hn : narrow ty (.int x) = .int x) (hQ : Q (.inl (some (.int x))) sh I Rf J) : xv_W M d mc ms Q kc ks sh I Rf J pc L [.int x] := by
  obtain ⟨h1, rfl⟩ := hf
  intro p l e R s m args below meth c D A sh0 ad0 ca0 ad ca H locs cells slots ls C X hw hR hS hL hO hc hs
  exact vx_ret (W.widen (k := mc) (n := ms) (by omega) (by omega) (W.zret C.1 C.2.1 (C.2.2.2.1.trans hr) hn (fun t ht hW => ⟨some (.int x), sh, I, Rf, J, ad, ca, rfl, hQ, (fun z hz => by cases hz; trivial), by rw [ht]; exact hR.moved hW.alike, X, hw, hS.F ht⟩) (fun q hq => hS.2.2 q hq) h1 C.2.2.2.2.2.2.1))
theorem xv_vret (hf : xv_F M pc .return_ 1 pc') (hr : M.2.2.2.1 = none) (hQ : Q (.inl none) sh I Rf J) : xv_W M d mc ms Q kc ks sh I Rf J pc L [] := by
  obtain ⟨h1, rfl⟩ := hf
  intro p l e R s m args below meth c D A sh0 ad0 ca0 ad ca H locs cells slots ls C X hw hR hS hL hO hc hs
  exact vx_ret (W.widen (k := mc) (n := ms) (by omega) (by omega) (W.vret C.1 C.2.1 (C.2.2.2.1.trans hr) (fun t ht hW => ⟨none, sh, I, Rf, J, ad, ca, rfl, hQ, (fun z hz => by cases hz), by rw [ht]; exact hR.moved hW.alike, X, hw, hS.F ht⟩) (fun q hq => hS.2.2 q hq) h1 C.2.2.2.2.2.2.1))
theorem xv_aret {a : Nat} {ty : FieldType} (hf : xv_F M pc .areturn 1 pc') (hr : M.2.2.2.1 = some ty) (ht : (∃ n, ty = .object n) ∨ ∃ t, ty = .array t) (hQ : Q (.inl (some (.ref a))) sh I Rf J) : xv_W M d mc ms Q kc ks sh I Rf J pc L [.ref a] := by
  obtain ⟨h1, rfl⟩ := hf
  intro p l e R s m args below meth c D A sh0 ad0 ca0 ad ca H locs cells slots ls C X hw hR hS hL hO hc hs
  exact vx_ret (W.widen (k := mc) (n := ms) (by omega) (by omega) (W.aret C.1 C.2.1 (C.2.2.2.1.trans hr) ht (Or.inr ⟨_, rfl⟩) (fun t ht hW => ⟨some (.ref a), sh, I, Rf, J, ad, ca, rfl, hQ, (fun z hz => by cases hz; exact xv_ok_h hO), by rw [ht]; exact hR.moved hW.alike, X, hw, hS.F ht⟩) (fun q hq => hS.2.2 q hq) h1 C.2.2.2.2.2.2.1))
theorem xv_nret {ty : FieldType} (hf : xv_F M pc .areturn 1 pc') (hr : M.2.2.2.1 = some ty) (ht : (∃ n, ty = .object n) ∨ ∃ t, ty = .array t) (hQ : Q (.inl (some .null)) sh I Rf J) : xv_W M d mc ms Q kc ks sh I Rf J pc L [.null] := by
  obtain ⟨h1, rfl⟩ := hf
  intro p l e R s m args below meth c D A sh0 ad0 ca0 ad ca H locs cells slots ls C X hw hR hS hL hO hc hs
  exact vx_ret (W.widen (k := mc) (n := ms) (by omega) (by omega) (W.aret C.1 C.2.1 (C.2.2.2.1.trans hr) ht (Or.inl rfl) (fun t ht hW => ⟨some .null, sh, I, Rf, J, ad, ca, rfl, hQ, (fun z hz => by cases hz; trivial), by rw [ht]; exact hR.moved hW.alike, X, hw, hS.F ht⟩) (fun q hq => hS.2.2 q hq) h1 C.2.2.2.2.2.2.1))
end XVR
