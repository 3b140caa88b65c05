theorem Inv_0 (s : Nat → Int32) : Inv (0, 0) (iF s) :=
  ⟨fun p _ => ⟨(iFz_13 s p).trans (iFz_61 s p).symm, (iFz_14 s p).trans (iFz_62 s p).symm⟩,
   fun p hp k _ => ⟨(iF_row s p hp k).trans (iFz_63 s _).symm, 0, Or.inl rfl, iF_row s p hp k⟩,
   ⟨(iF_1_6 s).trans (iF_60_3 s).symm, 0, by decide, iF_1_6 s⟩,
   fun p _ => ⟨0, by decide, iFz_15 s p, fun q _ => by show iF s 81 _ = _; rw [iFz_81, Nat.zero_testBit]; rfl⟩,
   fun p _ => ⟨0, by decide, iFz_16 s p, fun q _ => by show iF s 82 _ = _; rw [iFz_82, Nat.zero_testBit]; rfl⟩,
   ⟨63, by decide, iF_1_5 s, fun q hq => by
     have key : ∀ q, q < 6 → (63 : Nat).testBit q = true := by decide
     rw [key q hq, iFz_80]
     rfl⟩,
   fun k hk => (iF_17 s k hk).1.trans (iF_17 s k hk).2.symm,
   ⟨iF_0_3 s, iF_60_5 s, by decide, fun a ha => absurd ha (Nat.not_lt_zero _)⟩,
   ⟨iF_0_5 s, iF_60_13 s, by decide, fun a ha => absurd ha (Nat.not_lt_zero _)⟩,
   ⟨0, by decide, iF_29_2 s, iF_60_25 s, fun a ha => absurd ha (Nat.not_lt_zero _)⟩,
   ⟨0, by decide, iF_29_4 s, iF_60_28 s, fun a ha => absurd ha (Nat.not_lt_zero _)⟩,
   (iF_0_9 s).trans (iF_60_30 s).symm,
   ⟨0, by decide, iF_41_2 s, iF_60_31 s, fun a ha => absurd ha (Nat.not_lt_zero _)⟩,
   ⟨0, by decide, iF_44_2 s, iF_60_34 s, fun a ha => absurd ha (Nat.not_lt_zero _)⟩,
   fun j _ => (iFz_47 s j).trans (iFz_90 s j).symm,
   ⟨0, by decide, iF_48_2 s, iF_60_38 s, fun a ha => absurd ha (Nat.not_lt_zero _)⟩,
   ⟨fun j _ => ⟨(iFz_52 s j).trans (iFz_93 s j).symm, 0, by decide, iFz_52 s j⟩, fun j _ => ⟨iFz_53 s j, iFz_54 s j, iFz_55 s j⟩⟩,
   fun k _ _ => iFz_76 s k⟩
theorem Inv.set_page {c : Nat × Nat} {I I' : xv_I} (h : Inv c I) (g : gPage I') (h2 : ∀ v j, (v < 20 ∨ 28 < v) → v < 300 → (v < 94 ∨ 99 < v) → (v ≠ 60 ∨ (j ≠ 43 ∧ j ≠ 47 ∧ j ≠ 48)) → ¬ (v = 13 ∨ v = 14 ∨ v = 61 ∨ v = 62) → I' v j = I v j) : Inv c I' :=
  ⟨g,
   h.cell.to fun v j hv => h2 v j (by omega) (by omega) (by omega) (by omega) (by omega),
   h.touch.to fun v j hv => h2 v j (by omega) (by omega) (by omega) (by omega) (by omega),
   h.sign.to fun v j hv => h2 v j (by omega) (by omega) (by omega) (by omega) (by omega),
   h.hold.to fun v j hv => h2 v j (by omega) (by omega) (by omega) (by omega) (by omega),
   h.here.to fun v j hv => h2 v j (by omega) (by omega) (by omega) (by omega) (by omega),
   h.dist.to fun v j hv => h2 v j (by omega) (by omega) (by omega) (by omega) (by omega),
   h.ad.to fun v j hv => h2 v j (by omega) (by omega) (by omega) (by omega) (by omega),
   h.st.to fun v j hv => h2 v j (by omega) (by omega) (by omega) (by omega) (by omega),
   h.ed.to fun v j hv => h2 v j (by omega) (by omega) (by omega) (by omega) (by omega),
   h.owe.to fun v j hv => h2 v j (by omega) (by omega) (by omega) (by omega) (by omega),
   h.min.to fun v j hv => h2 v j (by omega) (by omega) (by omega) (by omega) (by omega),
   h.tr.to fun v j hv => h2 v j (by omega) (by omega) (by omega) (by omega) (by omega),
   h.word.to fun v j hv => h2 v j (by omega) (by omega) (by omega) (by omega) (by omega),
   h.wei.to fun v j hv => h2 v j (by omega) (by omega) (by omega) (by omega) (by omega),
   h.wire.to fun v j hv => h2 v j (by omega) (by omega) (by omega) (by omega) (by omega),
   h.puz.to fun v j hv => h2 v j (by omega) (by omega) (by omega) (by omega) (by omega),
   h.new.to fun v j hv => h2 v j (by omega) (by omega) (by omega) (by omega) (by omega)⟩
theorem Inv.set_dist {c : Nat × Nat} {I I' : xv_I} (h : Inv c I) (g : gDist I') (h2 : ∀ v j, (v < 20 ∨ 28 < v) → v < 300 → (v < 94 ∨ 99 < v) → (v ≠ 60 ∨ (j ≠ 43 ∧ j ≠ 47 ∧ j ≠ 48)) → ¬ (v = 17 ∨ v = 64) → I' v j = I v j) : Inv c I' :=
  ⟨h.page.to fun v j hv => h2 v j (by omega) (by omega) (by omega) (by omega) (by omega),
   h.cell.to fun v j hv => h2 v j (by omega) (by omega) (by omega) (by omega) (by omega),
   h.touch.to fun v j hv => h2 v j (by omega) (by omega) (by omega) (by omega) (by omega),
   h.sign.to fun v j hv => h2 v j (by omega) (by omega) (by omega) (by omega) (by omega),
   h.hold.to fun v j hv => h2 v j (by omega) (by omega) (by omega) (by omega) (by omega),
   h.here.to fun v j hv => h2 v j (by omega) (by omega) (by omega) (by omega) (by omega),
   g,
   h.ad.to fun v j hv => h2 v j (by omega) (by omega) (by omega) (by omega) (by omega),
   h.st.to fun v j hv => h2 v j (by omega) (by omega) (by omega) (by omega) (by omega),
   h.ed.to fun v j hv => h2 v j (by omega) (by omega) (by omega) (by omega) (by omega),
   h.owe.to fun v j hv => h2 v j (by omega) (by omega) (by omega) (by omega) (by omega),
   h.min.to fun v j hv => h2 v j (by omega) (by omega) (by omega) (by omega) (by omega),
   h.tr.to fun v j hv => h2 v j (by omega) (by omega) (by omega) (by omega) (by omega),
   h.word.to fun v j hv => h2 v j (by omega) (by omega) (by omega) (by omega) (by omega),
   h.wei.to fun v j hv => h2 v j (by omega) (by omega) (by omega) (by omega) (by omega),
   h.wire.to fun v j hv => h2 v j (by omega) (by omega) (by omega) (by omega) (by omega),
   h.puz.to fun v j hv => h2 v j (by omega) (by omega) (by omega) (by omega) (by omega),
   h.new.to fun v j hv => h2 v j (by omega) (by omega) (by omega) (by omega) (by omega)⟩
theorem Inv.set_min {c : Nat × Nat} {I I' : xv_I} (h : Inv c I) (g : gMin I') (h2 : ∀ v j, (v < 20 ∨ 28 < v) → v < 300 → (v < 94 ∨ 99 < v) → (v ≠ 60 ∨ (j ≠ 43 ∧ j ≠ 47 ∧ j ≠ 48)) → ¬ ((v = 0 ∧ j = 9) ∨ (v = 60 ∧ j = 30)) → I' v j = I v j) : Inv c I' :=
  ⟨h.page.to fun v j hv => h2 v j (by omega) (by omega) (by omega) (by omega) (by omega),
   h.cell.to fun v j hv => h2 v j (by omega) (by omega) (by omega) (by omega) (by omega),
   h.touch.to fun v j hv => h2 v j (by omega) (by omega) (by omega) (by omega) (by omega),
   h.sign.to fun v j hv => h2 v j (by omega) (by omega) (by omega) (by omega) (by omega),
   h.hold.to fun v j hv => h2 v j (by omega) (by omega) (by omega) (by omega) (by omega),
   h.here.to fun v j hv => h2 v j (by omega) (by omega) (by omega) (by omega) (by omega),
   h.dist.to fun v j hv => h2 v j (by omega) (by omega) (by omega) (by omega) (by omega),
   h.ad.to fun v j hv => h2 v j (by omega) (by omega) (by omega) (by omega) (by omega),
   h.st.to fun v j hv => h2 v j (by omega) (by omega) (by omega) (by omega) (by omega),
   h.ed.to fun v j hv => h2 v j (by omega) (by omega) (by omega) (by omega) (by omega),
   h.owe.to fun v j hv => h2 v j (by omega) (by omega) (by omega) (by omega) (by omega),
   g,
   h.tr.to fun v j hv => h2 v j (by omega) (by omega) (by omega) (by omega) (by omega),
   h.word.to fun v j hv => h2 v j (by omega) (by omega) (by omega) (by omega) (by omega),
   h.wei.to fun v j hv => h2 v j (by omega) (by omega) (by omega) (by omega) (by omega),
   h.wire.to fun v j hv => h2 v j (by omega) (by omega) (by omega) (by omega) (by omega),
   h.puz.to fun v j hv => h2 v j (by omega) (by omega) (by omega) (by omega) (by omega),
   h.new.to fun v j hv => h2 v j (by omega) (by omega) (by omega) (by omega) (by omega)⟩
theorem Inv.set_tr {c : Nat × Nat} {I I' : xv_I} (h : Inv c I) (g : gTr I') (h2 : ∀ v j, (v < 20 ∨ 28 < v) → v < 300 → (v < 94 ∨ 99 < v) → (v ≠ 60 ∨ (j ≠ 43 ∧ j ≠ 47 ∧ j ≠ 48)) → ¬ ((v = 41 ∧ j = 2) ∨ (v = 60 ∧ j = 31) ∨ v = 42 ∨ v = 43 ∨ v = 86 ∨ v = 87) → I' v j = I v j) : Inv c I' :=
  ⟨h.page.to fun v j hv => h2 v j (by omega) (by omega) (by omega) (by omega) (by omega),
   h.cell.to fun v j hv => h2 v j (by omega) (by omega) (by omega) (by omega) (by omega),
   h.touch.to fun v j hv => h2 v j (by omega) (by omega) (by omega) (by omega) (by omega),
   h.sign.to fun v j hv => h2 v j (by omega) (by omega) (by omega) (by omega) (by omega),
   h.hold.to fun v j hv => h2 v j (by omega) (by omega) (by omega) (by omega) (by omega),
   h.here.to fun v j hv => h2 v j (by omega) (by omega) (by omega) (by omega) (by omega),
   h.dist.to fun v j hv => h2 v j (by omega) (by omega) (by omega) (by omega) (by omega),
   h.ad.to fun v j hv => h2 v j (by omega) (by omega) (by omega) (by omega) (by omega),
   h.st.to fun v j hv => h2 v j (by omega) (by omega) (by omega) (by omega) (by omega),
   h.ed.to fun v j hv => h2 v j (by omega) (by omega) (by omega) (by omega) (by omega),
   h.owe.to fun v j hv => h2 v j (by omega) (by omega) (by omega) (by omega) (by omega),
   h.min.to fun v j hv => h2 v j (by omega) (by omega) (by omega) (by omega) (by omega),
   g,
   h.word.to fun v j hv => h2 v j (by omega) (by omega) (by omega) (by omega) (by omega),
   h.wei.to fun v j hv => h2 v j (by omega) (by omega) (by omega) (by omega) (by omega),
   h.wire.to fun v j hv => h2 v j (by omega) (by omega) (by omega) (by omega) (by omega),
   h.puz.to fun v j hv => h2 v j (by omega) (by omega) (by omega) (by omega) (by omega),
   h.new.to fun v j hv => h2 v j (by omega) (by omega) (by omega) (by omega) (by omega)⟩
theorem Inv.set_word {c : Nat × Nat} {I I' : xv_I} (h : Inv c I) (g : gWord I') (h2 : ∀ v j, (v < 20 ∨ 28 < v) → v < 300 → (v < 94 ∨ 99 < v) → (v ≠ 60 ∨ (j ≠ 43 ∧ j ≠ 47 ∧ j ≠ 48)) → ¬ ((v = 44 ∧ j = 2) ∨ (v = 60 ∧ j = 34) ∨ v = 45 ∨ v = 46 ∨ v = 88 ∨ v = 89) → I' v j = I v j) : Inv c I' :=
  ⟨h.page.to fun v j hv => h2 v j (by omega) (by omega) (by omega) (by omega) (by omega),
   h.cell.to fun v j hv => h2 v j (by omega) (by omega) (by omega) (by omega) (by omega),
   h.touch.to fun v j hv => h2 v j (by omega) (by omega) (by omega) (by omega) (by omega),
   h.sign.to fun v j hv => h2 v j (by omega) (by omega) (by omega) (by omega) (by omega),
   h.hold.to fun v j hv => h2 v j (by omega) (by omega) (by omega) (by omega) (by omega),
   h.here.to fun v j hv => h2 v j (by omega) (by omega) (by omega) (by omega) (by omega),
   h.dist.to fun v j hv => h2 v j (by omega) (by omega) (by omega) (by omega) (by omega),
   h.ad.to fun v j hv => h2 v j (by omega) (by omega) (by omega) (by omega) (by omega),
   h.st.to fun v j hv => h2 v j (by omega) (by omega) (by omega) (by omega) (by omega),
   h.ed.to fun v j hv => h2 v j (by omega) (by omega) (by omega) (by omega) (by omega),
   h.owe.to fun v j hv => h2 v j (by omega) (by omega) (by omega) (by omega) (by omega),
   h.min.to fun v j hv => h2 v j (by omega) (by omega) (by omega) (by omega) (by omega),
   h.tr.to fun v j hv => h2 v j (by omega) (by omega) (by omega) (by omega) (by omega),
   g,
   h.wei.to fun v j hv => h2 v j (by omega) (by omega) (by omega) (by omega) (by omega),
   h.wire.to fun v j hv => h2 v j (by omega) (by omega) (by omega) (by omega) (by omega),
   h.puz.to fun v j hv => h2 v j (by omega) (by omega) (by omega) (by omega) (by omega),
   h.new.to fun v j hv => h2 v j (by omega) (by omega) (by omega) (by omega) (by omega)⟩
theorem Inv.set_wei {c : Nat × Nat} {I I' : xv_I} (h : Inv c I) (g : gWei I') (h2 : ∀ v j, (v < 20 ∨ 28 < v) → v < 300 → (v < 94 ∨ 99 < v) → (v ≠ 60 ∨ (j ≠ 43 ∧ j ≠ 47 ∧ j ≠ 48)) → ¬ (v = 47 ∨ v = 90) → I' v j = I v j) : Inv c I' :=
  ⟨h.page.to fun v j hv => h2 v j (by omega) (by omega) (by omega) (by omega) (by omega),
   h.cell.to fun v j hv => h2 v j (by omega) (by omega) (by omega) (by omega) (by omega),
   h.touch.to fun v j hv => h2 v j (by omega) (by omega) (by omega) (by omega) (by omega),
   h.sign.to fun v j hv => h2 v j (by omega) (by omega) (by omega) (by omega) (by omega),
   h.hold.to fun v j hv => h2 v j (by omega) (by omega) (by omega) (by omega) (by omega),
   h.here.to fun v j hv => h2 v j (by omega) (by omega) (by omega) (by omega) (by omega),
   h.dist.to fun v j hv => h2 v j (by omega) (by omega) (by omega) (by omega) (by omega),
   h.ad.to fun v j hv => h2 v j (by omega) (by omega) (by omega) (by omega) (by omega),
   h.st.to fun v j hv => h2 v j (by omega) (by omega) (by omega) (by omega) (by omega),
   h.ed.to fun v j hv => h2 v j (by omega) (by omega) (by omega) (by omega) (by omega),
   h.owe.to fun v j hv => h2 v j (by omega) (by omega) (by omega) (by omega) (by omega),
   h.min.to fun v j hv => h2 v j (by omega) (by omega) (by omega) (by omega) (by omega),
   h.tr.to fun v j hv => h2 v j (by omega) (by omega) (by omega) (by omega) (by omega),
   h.word.to fun v j hv => h2 v j (by omega) (by omega) (by omega) (by omega) (by omega),
   g,
   h.wire.to fun v j hv => h2 v j (by omega) (by omega) (by omega) (by omega) (by omega),
   h.puz.to fun v j hv => h2 v j (by omega) (by omega) (by omega) (by omega) (by omega),
   h.new.to fun v j hv => h2 v j (by omega) (by omega) (by omega) (by omega) (by omega)⟩
theorem Inv.set_wire {c : Nat × Nat} {I I' : xv_I} (h : Inv c I) (g : gWire I') (h2 : ∀ v j, (v < 20 ∨ 28 < v) → v < 300 → (v < 94 ∨ 99 < v) → (v ≠ 60 ∨ (j ≠ 43 ∧ j ≠ 47 ∧ j ≠ 48)) → ¬ ((v = 48 ∧ j = 2) ∨ (v = 60 ∧ j = 38) ∨ v = 49 ∨ v = 50 ∨ v = 91 ∨ v = 92) → I' v j = I v j) : Inv c I' :=
  ⟨h.page.to fun v j hv => h2 v j (by omega) (by omega) (by omega) (by omega) (by omega),
   h.cell.to fun v j hv => h2 v j (by omega) (by omega) (by omega) (by omega) (by omega),
   h.touch.to fun v j hv => h2 v j (by omega) (by omega) (by omega) (by omega) (by omega),
   h.sign.to fun v j hv => h2 v j (by omega) (by omega) (by omega) (by omega) (by omega),
   h.hold.to fun v j hv => h2 v j (by omega) (by omega) (by omega) (by omega) (by omega),
   h.here.to fun v j hv => h2 v j (by omega) (by omega) (by omega) (by omega) (by omega),
   h.dist.to fun v j hv => h2 v j (by omega) (by omega) (by omega) (by omega) (by omega),
   h.ad.to fun v j hv => h2 v j (by omega) (by omega) (by omega) (by omega) (by omega),
   h.st.to fun v j hv => h2 v j (by omega) (by omega) (by omega) (by omega) (by omega),
   h.ed.to fun v j hv => h2 v j (by omega) (by omega) (by omega) (by omega) (by omega),
   h.owe.to fun v j hv => h2 v j (by omega) (by omega) (by omega) (by omega) (by omega),
   h.min.to fun v j hv => h2 v j (by omega) (by omega) (by omega) (by omega) (by omega),
   h.tr.to fun v j hv => h2 v j (by omega) (by omega) (by omega) (by omega) (by omega),
   h.word.to fun v j hv => h2 v j (by omega) (by omega) (by omega) (by omega) (by omega),
   h.wei.to fun v j hv => h2 v j (by omega) (by omega) (by omega) (by omega) (by omega),
   g,
   h.puz.to fun v j hv => h2 v j (by omega) (by omega) (by omega) (by omega) (by omega),
   h.new.to fun v j hv => h2 v j (by omega) (by omega) (by omega) (by omega) (by omega)⟩
theorem Inv.set_puz {c : Nat × Nat} {I I' : xv_I} (h : Inv c I) (g : gPuz I') (h2 : ∀ v j, (v < 20 ∨ 28 < v) → v < 300 → (v < 94 ∨ 99 < v) → (v ≠ 60 ∨ (j ≠ 43 ∧ j ≠ 47 ∧ j ≠ 48)) → ¬ ((52 ≤ v ∧ v ≤ 55) ∨ v = 93) → I' v j = I v j) : Inv c I' :=
  ⟨h.page.to fun v j hv => h2 v j (by omega) (by omega) (by omega) (by omega) (by omega),
   h.cell.to fun v j hv => h2 v j (by omega) (by omega) (by omega) (by omega) (by omega),
   h.touch.to fun v j hv => h2 v j (by omega) (by omega) (by omega) (by omega) (by omega),
   h.sign.to fun v j hv => h2 v j (by omega) (by omega) (by omega) (by omega) (by omega),
   h.hold.to fun v j hv => h2 v j (by omega) (by omega) (by omega) (by omega) (by omega),
   h.here.to fun v j hv => h2 v j (by omega) (by omega) (by omega) (by omega) (by omega),
   h.dist.to fun v j hv => h2 v j (by omega) (by omega) (by omega) (by omega) (by omega),
   h.ad.to fun v j hv => h2 v j (by omega) (by omega) (by omega) (by omega) (by omega),
   h.st.to fun v j hv => h2 v j (by omega) (by omega) (by omega) (by omega) (by omega),
   h.ed.to fun v j hv => h2 v j (by omega) (by omega) (by omega) (by omega) (by omega),
   h.owe.to fun v j hv => h2 v j (by omega) (by omega) (by omega) (by omega) (by omega),
   h.min.to fun v j hv => h2 v j (by omega) (by omega) (by omega) (by omega) (by omega),
   h.tr.to fun v j hv => h2 v j (by omega) (by omega) (by omega) (by omega) (by omega),
   h.word.to fun v j hv => h2 v j (by omega) (by omega) (by omega) (by omega) (by omega),
   h.wei.to fun v j hv => h2 v j (by omega) (by omega) (by omega) (by omega) (by omega),
   h.wire.to fun v j hv => h2 v j (by omega) (by omega) (by omega) (by omega) (by omega),
   g,
   h.new.to fun v j hv => h2 v j (by omega) (by omega) (by omega) (by omega) (by omega)⟩
theorem Inv.set_hold {c : Nat × Nat} {I I' : xv_I} (h : Inv c I) (g : gHold I') (h2 : ∀ v j, (v < 20 ∨ 28 < v) → v < 300 → (v < 94 ∨ 99 < v) → (v ≠ 60 ∨ (j ≠ 43 ∧ j ≠ 47 ∧ j ≠ 48)) → ¬ (v = 16 ∨ v = 82) → I' v j = I v j) : Inv c I' :=
  ⟨h.page.to fun v j hv => h2 v j (by omega) (by omega) (by omega) (by omega) (by omega),
   h.cell.to fun v j hv => h2 v j (by omega) (by omega) (by omega) (by omega) (by omega),
   h.touch.to fun v j hv => h2 v j (by omega) (by omega) (by omega) (by omega) (by omega),
   h.sign.to fun v j hv => h2 v j (by omega) (by omega) (by omega) (by omega) (by omega),
   g,
   h.here.to fun v j hv => h2 v j (by omega) (by omega) (by omega) (by omega) (by omega),
   h.dist.to fun v j hv => h2 v j (by omega) (by omega) (by omega) (by omega) (by omega),
   h.ad.to fun v j hv => h2 v j (by omega) (by omega) (by omega) (by omega) (by omega),
   h.st.to fun v j hv => h2 v j (by omega) (by omega) (by omega) (by omega) (by omega),
   h.ed.to fun v j hv => h2 v j (by omega) (by omega) (by omega) (by omega) (by omega),
   h.owe.to fun v j hv => h2 v j (by omega) (by omega) (by omega) (by omega) (by omega),
   h.min.to fun v j hv => h2 v j (by omega) (by omega) (by omega) (by omega) (by omega),
   h.tr.to fun v j hv => h2 v j (by omega) (by omega) (by omega) (by omega) (by omega),
   h.word.to fun v j hv => h2 v j (by omega) (by omega) (by omega) (by omega) (by omega),
   h.wei.to fun v j hv => h2 v j (by omega) (by omega) (by omega) (by omega) (by omega),
   h.wire.to fun v j hv => h2 v j (by omega) (by omega) (by omega) (by omega) (by omega),
   h.puz.to fun v j hv => h2 v j (by omega) (by omega) (by omega) (by omega) (by omega),
   h.new.to fun v j hv => h2 v j (by omega) (by omega) (by omega) (by omega) (by omega)⟩
theorem Inv.set_sign {c : Nat × Nat} {I I' : xv_I} (h : Inv c I) (g : gSign I') (h2 : ∀ v j, (v < 20 ∨ 28 < v) → v < 300 → (v < 94 ∨ 99 < v) → (v ≠ 60 ∨ (j ≠ 43 ∧ j ≠ 47 ∧ j ≠ 48)) → ¬ (v = 15 ∨ v = 81) → I' v j = I v j) : Inv c I' :=
  ⟨h.page.to fun v j hv => h2 v j (by omega) (by omega) (by omega) (by omega) (by omega),
   h.cell.to fun v j hv => h2 v j (by omega) (by omega) (by omega) (by omega) (by omega),
   h.touch.to fun v j hv => h2 v j (by omega) (by omega) (by omega) (by omega) (by omega),
   g,
   h.hold.to fun v j hv => h2 v j (by omega) (by omega) (by omega) (by omega) (by omega),
   h.here.to fun v j hv => h2 v j (by omega) (by omega) (by omega) (by omega) (by omega),
   h.dist.to fun v j hv => h2 v j (by omega) (by omega) (by omega) (by omega) (by omega),
   h.ad.to fun v j hv => h2 v j (by omega) (by omega) (by omega) (by omega) (by omega),
   h.st.to fun v j hv => h2 v j (by omega) (by omega) (by omega) (by omega) (by omega),
   h.ed.to fun v j hv => h2 v j (by omega) (by omega) (by omega) (by omega) (by omega),
   h.owe.to fun v j hv => h2 v j (by omega) (by omega) (by omega) (by omega) (by omega),
   h.min.to fun v j hv => h2 v j (by omega) (by omega) (by omega) (by omega) (by omega),
   h.tr.to fun v j hv => h2 v j (by omega) (by omega) (by omega) (by omega) (by omega),
   h.word.to fun v j hv => h2 v j (by omega) (by omega) (by omega) (by omega) (by omega),
   h.wei.to fun v j hv => h2 v j (by omega) (by omega) (by omega) (by omega) (by omega),
   h.wire.to fun v j hv => h2 v j (by omega) (by omega) (by omega) (by omega) (by omega),
   h.puz.to fun v j hv => h2 v j (by omega) (by omega) (by omega) (by omega) (by omega),
   h.new.to fun v j hv => h2 v j (by omega) (by omega) (by omega) (by omega) (by omega)⟩
theorem Inv.set_owe {c : Nat × Nat} {I I' : xv_I} (h : Inv c I) (g : gOwe c I') (h2 : ∀ v j, (v < 20 ∨ 28 < v) → v < 300 → (v < 94 ∨ 99 < v) → (v ≠ 60 ∨ (j ≠ 43 ∧ j ≠ 47 ∧ j ≠ 48)) → ¬ ((v = 29 ∧ j = 4) ∨ (v = 60 ∧ j = 28) ∨ v = 40 ∨ v = 85) → I' v j = I v j) : Inv c I' :=
  ⟨h.page.to fun v j hv => h2 v j (by omega) (by omega) (by omega) (by omega) (by omega),
   h.cell.to fun v j hv => h2 v j (by omega) (by omega) (by omega) (by omega) (by omega),
   h.touch.to fun v j hv => h2 v j (by omega) (by omega) (by omega) (by omega) (by omega),
   h.sign.to fun v j hv => h2 v j (by omega) (by omega) (by omega) (by omega) (by omega),
   h.hold.to fun v j hv => h2 v j (by omega) (by omega) (by omega) (by omega) (by omega),
   h.here.to fun v j hv => h2 v j (by omega) (by omega) (by omega) (by omega) (by omega),
   h.dist.to fun v j hv => h2 v j (by omega) (by omega) (by omega) (by omega) (by omega),
   h.ad.to fun v j hv => h2 v j (by omega) (by omega) (by omega) (by omega) (by omega),
   h.st.to fun v j hv => h2 v j (by omega) (by omega) (by omega) (by omega) (by omega),
   h.ed.to fun v j hv => h2 v j (by omega) (by omega) (by omega) (by omega) (by omega),
   g,
   h.min.to fun v j hv => h2 v j (by omega) (by omega) (by omega) (by omega) (by omega),
   h.tr.to fun v j hv => h2 v j (by omega) (by omega) (by omega) (by omega) (by omega),
   h.word.to fun v j hv => h2 v j (by omega) (by omega) (by omega) (by omega) (by omega),
   h.wei.to fun v j hv => h2 v j (by omega) (by omega) (by omega) (by omega) (by omega),
   h.wire.to fun v j hv => h2 v j (by omega) (by omega) (by omega) (by omega) (by omega),
   h.puz.to fun v j hv => h2 v j (by omega) (by omega) (by omega) (by omega) (by omega),
   h.new.to fun v j hv => h2 v j (by omega) (by omega) (by omega) (by omega) (by omega)⟩
theorem armok_2 (n : Nat) : Arm n 2 := fun MC MS Q c I J kc ks i l5 l6 hi hn hI hkc hks hk => by
  exact arm_2 hi hn (by decide) (fun _ => rfl) (p_touched n c I J) (m_touched n c I J) hI.touch.1 hkc hks (fun l5 l6 => by exact hk c _ _ l5 l6 (hI.to (by intro v j h1 h2 h3 h4; simp only [xv_u]; repeat rw [if_neg (by omega)])))
theorem armok_22 (n : Nat) : Arm n 22 := fun MC MS Q c I J kc ks i l5 l6 hi hn hI hkc hks hk => by
  by_cases hx : okR 1 100 (I 99 (i + 1))
  · refine arm_22 (dX := 8) (I1 := (xv_u I 0 9 (I 0 9 + I 99 (i + 1)))) (I2 := (xv_u (xv_u (xv_u I 0 9 (I 0 9 + I 99 (i + 1))) 60 48 (nI 0)) 60 30 (xv_u I 0 9 (I 0 9 + I 99 (i + 1)) 60 30 + I 99 (i + 1)))) hi hn (by decide) (fun j => by simp only [xv_u]; repeat rw [if_neg (by omega)]) (w_pass_ok n c c J (p_pass_ok n c I J hx)) (m_pass_ok n c _ _ hx) (by simp [xv_u]) (fun _ => by rw [xv_u_eq, xv_u_ne _ _ _ (by decide), hI.min]) hkc hks (fun l5 l6 => ?_)
    refine @hk c _ _ l5 l6 (Inv.set_min hI ?_ ?_)
    · obtain q := hI.min
      unfold gMin at q ⊢
      simp [xv_u, q]
    · intro v j h1 h2 h3 h4 h5
      simp only [xv_u]
      repeat rw [if_neg (by omega)]
  · exact arm_22 hi hn (by decide) (fun _ => rfl) (w_pass_A n c c J (p_pass_a n c I J hx)) (m_pass_a n c _ _ (okR_x hx)) (xv_u_eq _ _ _ _) (fun q => absurd q (by decide)) hkc hks (fun l5 l6 => by exact hk c _ _ l5 l6 (hI.to (by intro v j h1 h2 h3 h4; simp only [xv_u]; repeat rw [if_neg (by omega)])))
theorem okR_nat {lo hi : Nat} {x : Int32} (h : okR lo hi x) (h2 : hi < 2 ^ 31 ∧ lo < 2 ^ 31) : ∃ k, k < hi + 1 ∧ x = nI k := by
  rcases nI_or x with g | ⟨k, g1, rfl⟩
  · exfalso
    have h1 := h.1
    rw [fa_lt] at h1 g
    have : (0 : Int32).toInt = 0 := by decide
    rw [nI_toInt h2.2] at h1
    omega
  · refine ⟨k, ?_, rfl⟩
    have h1 := h.2
    rw [fa_le, nI_toInt g1, nI_toInt h2.1] at h1
    omega
theorem armok_3 (n : Nat) : Arm n 3 := fun MC MS Q c I J kc ks i l5 l6 hi hn hI hkc hks hk => by
  by_cases hx : okR 0 3 (I 99 (i + 1))
  · by_cases hy : okR 0 9 (I 99 (i + 2))
    · obtain ⟨k, hk4, e1⟩ : ∃ k, k < 4 ∧ (I 99 (i + 1)) = nI k := okR_nat hx (by decide)
      obtain d := hI.dist k hk4
      refine arm_3 (dX := 6) (I1 := (xv_u I 17 k (I 99 (i + 2)))) (I2 := (xv_u (xv_u (xv_u I 17 k (I 99 (i + 2))) 60 48 (nI 0)) 64 k (I 99 (i + 2)))) hi hn (by decide) (fun j => by simp only [xv_u]; repeat rw [if_neg (by omega)]) (w_distance_ok n c c J (by rw [e1]; exact p_distance_ok n c I J hk4 hy)) (by rw [e1]; exact m_dist_ok n c _ _ hk4 hy) (by simp [xv_u]) (fun _ => by rw [xv_u_eq, xv_u_ne _ _ _ (by decide), d]) hkc hks (fun l5 l6 => ?_)
      refine @hk c _ _ l5 l6 (Inv.set_dist hI ?_ ?_)
      · intro q hq
        obtain d2 := hI.dist q hq
        simp only [xv_u]
        by_cases e : q = k
        · simp [e]
        · simp [e, d2]
      · intro v j h1 h2 h3 h4 h5
        simp only [xv_u]
        repeat rw [if_neg (by omega)]
    · exact arm_3 hi hn (by decide) (fun _ => rfl) (w_distance_A n c c J (p_distance_b n c I J hx hy)) (m_dist_b n c _ _ hx (okR_x hy)) (xv_u_eq _ _ _ _) (fun q => absurd q (by decide)) hkc hks (fun l5 l6 => by exact hk c _ _ l5 l6 (hI.to (by intro v j h1 h2 h3 h4; simp only [xv_u]; repeat rw [if_neg (by omega)])))
  · exact arm_3 hi hn (by decide) (fun _ => rfl) (w_distance_A n c c J (p_distance_a n c I J hx)) (m_dist_a n c _ _ (okR_x hx)) (xv_u_eq _ _ _ _) (fun q => absurd q (by decide)) hkc hks (fun l5 l6 => by exact hk c _ _ l5 l6 (hI.to (by intro v j h1 h2 h3 h4; simp only [xv_u]; repeat rw [if_neg (by omega)])))
theorem armok_28 (n : Nat) : Arm n 28 := fun MC MS Q c I J kc ks i l5 l6 hi hn hI hkc hks hk => by
  by_cases hx : okR 0 5 (I 99 (i + 1))
  · by_cases hy : okR 0 999999 (I 99 (i + 2))
    · obtain ⟨k, hk4, e1⟩ : ∃ k, k < 6 ∧ (I 99 (i + 1)) = nI k := okR_nat hx (by decide)
      obtain d := hI.wei k hk4
      refine arm_28 (dX := 8) (I1 := (xv_u I 47 k (I 99 (i + 2)))) (I2 := (xv_u (xv_u (xv_u I 47 k (I 99 (i + 2))) 60 48 (nI 0)) 90 k (I 99 (i + 2)))) hi hn (by decide) (fun j => by simp only [xv_u]; repeat rw [if_neg (by omega)]) (w_weigh_ok n c c J (by rw [e1]; exact p_weigh_ok n c I J hk4 hy)) (by rw [e1]; exact m_weigh_ok n c _ _ hk4 hy) (by simp [xv_u]) (fun _ => by rw [xv_u_eq, xv_u_ne _ _ _ (by decide), d]) hkc hks (fun l5 l6 => ?_)
      refine @hk c _ _ l5 l6 (Inv.set_wei hI ?_ ?_)
      · intro q hq
        obtain d2 := hI.wei q hq
        simp only [xv_u]
        by_cases e : q = k
        · simp [e]
        · simp [e, d2]
      · intro v j h1 h2 h3 h4 h5
        simp only [xv_u]
        repeat rw [if_neg (by omega)]
    · exact arm_28 hi hn (by decide) (fun _ => rfl) (w_weigh_A n c c J (p_weigh_b n c I J hx hy)) (m_weigh_b n c _ _ hx (okR_x hy)) (xv_u_eq _ _ _ _) (fun q => absurd q (by decide)) hkc hks (fun l5 l6 => by exact hk c _ _ l5 l6 (hI.to (by intro v j h1 h2 h3 h4; simp only [xv_u]; repeat rw [if_neg (by omega)])))
  · exact arm_28 hi hn (by decide) (fun _ => rfl) (w_weigh_A n c c J (p_weigh_a n c I J hx)) (m_weigh_a n c _ _ (okR_x hx)) (xv_u_eq _ _ _ _) (fun q => absurd q (by decide)) hkc hks (fun l5 l6 => by exact hk c _ _ l5 l6 (hI.to (by intro v j h1 h2 h3 h4; simp only [xv_u]; repeat rw [if_neg (by omega)])))
theorem armok_23 (n : Nat) : Arm n 23 := fun MC MS Q c I J kc ks i l5 l6 hi hn hI hkc hks hk => by
  obtain ⟨w, g1, g2, g3, g4⟩ := hI.tr
  by_cases hx : okR 0 1000 (I 99 (i + 1))
  · by_cases hy : okR 1 5000 (I 99 (i + 2))
    · rcases Nat.lt_or_ge w 6 with hw | hw
      · refine arm_23 (dX := 8) (I1 := (xv_u (xv_u (xv_u I 42 w (I 99 (i + 1))) 43 w (I 99 (i + 2))) 41 2 (nI (w + 1)))) (I2 := (xv_u (xv_u (xv_u (xv_u (xv_u (xv_u (xv_u I 42 w (I 99 (i + 1))) 43 w (I 99 (i + 2))) 41 2 (nI (w + 1))) 60 48 (nI 0)) 86 w (I 99 (i + 1))) 87 w (I 99 (i + 2))) 60 31 (nI (w + 1)))) hi hn (by decide) (fun j => by simp only [xv_u]; repeat rw [if_neg (by omega)]) (w_truck_ok n c c J (p_truck_ok n c I J hx hy hw g2)) (m_truck_ok n c _ _ hx hy hw (by simp [xv_u, g3])) (by simp [xv_u]) (fun _ => by rw [xv_u_eq]) hkc hks (fun l5 l6 => ?_)
        refine @hk c _ _ l5 l6 (Inv.set_tr hI ?_ ?_)
        · refine ⟨w + 1, by omega, by simp [xv_u], by simp [xv_u], fun j hj => ?_⟩
          by_cases e : j = w
          · simp [xv_u, e]
          · obtain q := g4 j (by omega)
            simp [xv_u, e, q]
        · intro v j h1 h2 h3 h4 h5
          simp only [xv_u]
          repeat rw [if_neg (by omega)]
      · obtain rfl : w = 6 := by omega
        exact arm_23 hi hn (by decide) (fun _ => rfl) (w_truck_S n c c J (p_truck_c n c I J hx hy g2)) (m_truck_c n c _ _ hx hy g3) (xv_u_eq _ _ _ _) (fun q => absurd q (by decide)) hkc hks (fun l5 l6 => by exact hk c _ _ l5 l6 (hI.to (by intro v j h1 h2 h3 h4; simp only [xv_u]; repeat rw [if_neg (by omega)])))
    · exact arm_23 hi hn (by decide) (fun _ => rfl) (w_truck_A n c c J (p_truck_b n c I J hx hy)) (m_truck_b n c _ _ hx (okR_x hy)) (xv_u_eq _ _ _ _) (fun q => absurd q (by decide)) hkc hks (fun l5 l6 => by exact hk c _ _ l5 l6 (hI.to (by intro v j h1 h2 h3 h4; simp only [xv_u]; repeat rw [if_neg (by omega)])))
  · exact arm_23 hi hn (by decide) (fun _ => rfl) (w_truck_A n c c J (p_truck_a n c I J hx)) (m_truck_a n c _ _ (okR_x hx)) (xv_u_eq _ _ _ _) (fun q => absurd q (by decide)) hkc hks (fun l5 l6 => by exact hk c _ _ l5 l6 (hI.to (by intro v j h1 h2 h3 h4; simp only [xv_u]; repeat rw [if_neg (by omega)])))
theorem armok_27 (n : Nat) : Arm n 27 := fun MC MS Q c I J kc ks i l5 l6 hi hn hI hkc hks hk => by
  obtain ⟨w, g1, g2, g3, g4⟩ := hI.word
  refine arm_27 (dX := 8) (I1 := xv_u I 44 2 (nI 0)) (I2 := xv_u (xv_u (xv_u I 44 2 (nI 0)) 60 48 (nI 0)) 60 34 (nI 0)) hi hn (by decide) (fun j => by simp only [xv_u]; repeat rw [if_neg (by omega)]) (p_drop_ok n c I J) (m_drop n c _ _) (by rw [xv_u_ne _ _ _ (by decide), g2, g3]) hkc hks (fun l5 l6 => ?_)
  refine @hk c _ _ l5 l6 (Inv.set_word hI ⟨0, by decide, by simp [xv_u], by simp [xv_u], fun j hj => absurd hj (Nat.not_lt_zero _)⟩ ?_)
  intro v j h1 h2 h3 h4 h5
  simp only [xv_u]
  repeat rw [if_neg (by omega)]