theorem xv_cstI : Cond.castable "java/lang/IndexOutOfBoundsException" "java/lang/IndexOutOfBoundsException" ∈ xv_tbl := (xv_tbl_mem 273 (by decide +kernel) rfl)
theorem xv_cstA : Cond.castable "java/lang/IllegalArgumentException" "java/lang/IllegalArgumentException" ∈ xv_tbl := (xv_tbl_mem 344 (by decide +kernel) rfl)
theorem xv_cstS : Cond.castable "java/lang/IllegalStateException" "java/lang/IllegalStateException" ∈ xv_tbl := (xv_tbl_mem 372 (by decide +kernel) rfl)
theorem hn_18_I : xv_Hn mL_does 18 "java/lang/IndexOutOfBoundsException" (-3000) := ⟨[], [(⟨0, 362, 369, 88⟩ : ExceptionTableEntry), (⟨0, 362, 375, 90⟩ : ExceptionTableEntry)], (⟨0, 362, 363, 86⟩ : ExceptionTableEntry), _, 7, 365, 368, 369, rfl, (fun _ h => nomatch h), by decide, by decide, kL_86, xv_cstI, fL_does_363, by decide, fL_does_365, fL_does_368⟩
theorem hn_18_A : xv_Hn mL_does 18 "java/lang/IllegalArgumentException" (-2000) := ⟨[(⟨0, 362, 363, 86⟩ : ExceptionTableEntry)], [(⟨0, 362, 375, 90⟩ : ExceptionTableEntry)], (⟨0, 362, 369, 88⟩ : ExceptionTableEntry), _, 7, 371, 374, 375, rfl, (List.forall_mem_cons.mpr ⟨Or.inr ⟨by decide, _, kL_86, by decide +kernel⟩, fun _ h => nomatch h⟩), by decide, by decide, kL_88, xv_cstA, fL_does_369, by decide, fL_does_371, fL_does_374⟩
theorem hn_18_S : xv_Hn mL_does 18 "java/lang/IllegalStateException" (-1000) := ⟨[(⟨0, 362, 363, 86⟩ : ExceptionTableEntry), (⟨0, 362, 369, 88⟩ : ExceptionTableEntry)], [], (⟨0, 362, 375, 90⟩ : ExceptionTableEntry), _, 7, 377, 380, 381, rfl, (List.forall_mem_cons.mpr ⟨Or.inr ⟨by decide, _, kL_86, by decide +kernel⟩, List.forall_mem_cons.mpr ⟨Or.inr ⟨by decide, _, kL_88, by decide +kernel⟩, fun _ h => nomatch h⟩⟩), by decide, by decide, kL_90, xv_cstS, fL_does_375, by decide, fL_does_377, fL_does_380⟩
theorem hn_32_I : xv_Hn mL_does 32 "java/lang/IndexOutOfBoundsException" (-3000) := ⟨[], [(⟨0, 362, 369, 88⟩ : ExceptionTableEntry), (⟨0, 362, 375, 90⟩ : ExceptionTableEntry)], (⟨0, 362, 363, 86⟩ : ExceptionTableEntry), _, 7, 365, 368, 369, rfl, (fun _ h => nomatch h), by decide, by decide, kL_86, xv_cstI, fL_does_363, by decide, fL_does_365, fL_does_368⟩
theorem hn_32_A : xv_Hn mL_does 32 "java/lang/IllegalArgumentException" (-2000) := ⟨[(⟨0, 362, 363, 86⟩ : ExceptionTableEntry)], [(⟨0, 362, 375, 90⟩ : ExceptionTableEntry)], (⟨0, 362, 369, 88⟩ : ExceptionTableEntry), _, 7, 371, 374, 375, rfl, (List.forall_mem_cons.mpr ⟨Or.inr ⟨by decide, _, kL_86, by decide +kernel⟩, fun _ h => nomatch h⟩), by decide, by decide, kL_88, xv_cstA, fL_does_369, by decide, fL_does_371, fL_does_374⟩
theorem hn_32_S : xv_Hn mL_does 32 "java/lang/IllegalStateException" (-1000) := ⟨[(⟨0, 362, 363, 86⟩ : ExceptionTableEntry), (⟨0, 362, 369, 88⟩ : ExceptionTableEntry)], [], (⟨0, 362, 375, 90⟩ : ExceptionTableEntry), _, 7, 377, 380, 381, rfl, (List.forall_mem_cons.mpr ⟨Or.inr ⟨by decide, _, kL_86, by decide +kernel⟩, List.forall_mem_cons.mpr ⟨Or.inr ⟨by decide, _, kL_88, by decide +kernel⟩, fun _ h => nomatch h⟩⟩), by decide, by decide, kL_90, xv_cstS, fL_does_375, by decide, fL_does_377, fL_does_380⟩
theorem hn_46_I : xv_Hn mL_does 46 "java/lang/IndexOutOfBoundsException" (-3000) := ⟨[], [(⟨0, 362, 369, 88⟩ : ExceptionTableEntry), (⟨0, 362, 375, 90⟩ : ExceptionTableEntry)], (⟨0, 362, 363, 86⟩ : ExceptionTableEntry), _, 7, 365, 368, 369, rfl, (fun _ h => nomatch h), by decide, by decide, kL_86, xv_cstI, fL_does_363, by decide, fL_does_365, fL_does_368⟩
theorem hn_46_A : xv_Hn mL_does 46 "java/lang/IllegalArgumentException" (-2000) := ⟨[(⟨0, 362, 363, 86⟩ : ExceptionTableEntry)], [(⟨0, 362, 375, 90⟩ : ExceptionTableEntry)], (⟨0, 362, 369, 88⟩ : ExceptionTableEntry), _, 7, 371, 374, 375, rfl, (List.forall_mem_cons.mpr ⟨Or.inr ⟨by decide, _, kL_86, by decide +kernel⟩, fun _ h => nomatch h⟩), by decide, by decide, kL_88, xv_cstA, fL_does_369, by decide, fL_does_371, fL_does_374⟩
theorem hn_46_S : xv_Hn mL_does 46 "java/lang/IllegalStateException" (-1000) := ⟨[(⟨0, 362, 363, 86⟩ : ExceptionTableEntry), (⟨0, 362, 369, 88⟩ : ExceptionTableEntry)], [], (⟨0, 362, 375, 90⟩ : ExceptionTableEntry), _, 7, 377, 380, 381, rfl, (List.forall_mem_cons.mpr ⟨Or.inr ⟨by decide, _, kL_86, by decide +kernel⟩, List.forall_mem_cons.mpr ⟨Or.inr ⟨by decide, _, kL_88, by decide +kernel⟩, fun _ h => nomatch h⟩⟩), by decide, by decide, kL_90, xv_cstS, fL_does_375, by decide, fL_does_377, fL_does_380⟩
theorem hn_82_I : xv_Hn mL_does 82 "java/lang/IndexOutOfBoundsException" (-3000) := ⟨[], [(⟨0, 362, 369, 88⟩ : ExceptionTableEntry), (⟨0, 362, 375, 90⟩ : ExceptionTableEntry)], (⟨0, 362, 363, 86⟩ : ExceptionTableEntry), _, 7, 365, 368, 369, rfl, (fun _ h => nomatch h), by decide, by decide, kL_86, xv_cstI, fL_does_363, by decide, fL_does_365, fL_does_368⟩
theorem hn_82_A : xv_Hn mL_does 82 "java/lang/IllegalArgumentException" (-2000) := ⟨[(⟨0, 362, 363, 86⟩ : ExceptionTableEntry)], [(⟨0, 362, 375, 90⟩ : ExceptionTableEntry)], (⟨0, 362, 369, 88⟩ : ExceptionTableEntry), _, 7, 371, 374, 375, rfl, (List.forall_mem_cons.mpr ⟨Or.inr ⟨by decide, _, kL_86, by decide +kernel⟩, fun _ h => nomatch h⟩), by decide, by decide, kL_88, xv_cstA, fL_does_369, by decide, fL_does_371, fL_does_374⟩
theorem hn_82_S : xv_Hn mL_does 82 "java/lang/IllegalStateException" (-1000) := ⟨[(⟨0, 362, 363, 86⟩ : ExceptionTableEntry), (⟨0, 362, 369, 88⟩ : ExceptionTableEntry)], [], (⟨0, 362, 375, 90⟩ : ExceptionTableEntry), _, 7, 377, 380, 381, rfl, (List.forall_mem_cons.mpr ⟨Or.inr ⟨by decide, _, kL_86, by decide +kernel⟩, List.forall_mem_cons.mpr ⟨Or.inr ⟨by decide, _, kL_88, by decide +kernel⟩, fun _ h => nomatch h⟩⟩), by decide, by decide, kL_90, xv_cstS, fL_does_375, by decide, fL_does_377, fL_does_380⟩
theorem hn_95_I : xv_Hn mL_does 95 "java/lang/IndexOutOfBoundsException" (-3000) := ⟨[], [(⟨0, 362, 369, 88⟩ : ExceptionTableEntry), (⟨0, 362, 375, 90⟩ : ExceptionTableEntry)], (⟨0, 362, 363, 86⟩ : ExceptionTableEntry), _, 7, 365, 368, 369, rfl, (fun _ h => nomatch h), by decide, by decide, kL_86, xv_cstI, fL_does_363, by decide, fL_does_365, fL_does_368⟩
theorem hn_95_A : xv_Hn mL_does 95 "java/lang/IllegalArgumentException" (-2000) := ⟨[(⟨0, 362, 363, 86⟩ : ExceptionTableEntry)], [(⟨0, 362, 375, 90⟩ : ExceptionTableEntry)], (⟨0, 362, 369, 88⟩ : ExceptionTableEntry), _, 7, 371, 374, 375, rfl, (List.forall_mem_cons.mpr ⟨Or.inr ⟨by decide, _, kL_86, by decide +kernel⟩, fun _ h => nomatch h⟩), by decide, by decide, kL_88, xv_cstA, fL_does_369, by decide, fL_does_371, fL_does_374⟩
theorem hn_95_S : xv_Hn mL_does 95 "java/lang/IllegalStateException" (-1000) := ⟨[(⟨0, 362, 363, 86⟩ : ExceptionTableEntry), (⟨0, 362, 369, 88⟩ : ExceptionTableEntry)], [], (⟨0, 362, 375, 90⟩ : ExceptionTableEntry), _, 7, 377, 380, 381, rfl, (List.forall_mem_cons.mpr ⟨Or.inr ⟨by decide, _, kL_86, by decide +kernel⟩, List.forall_mem_cons.mpr ⟨Or.inr ⟨by decide, _, kL_88, by decide +kernel⟩, fun _ h => nomatch h⟩⟩), by decide, by decide, kL_90, xv_cstS, fL_does_375, by decide, fL_does_377, fL_does_380⟩
theorem hn_108_I : xv_Hn mL_does 108 "java/lang/IndexOutOfBoundsException" (-3000) := ⟨[], [(⟨0, 362, 369, 88⟩ : ExceptionTableEntry), (⟨0, 362, 375, 90⟩ : ExceptionTableEntry)], (⟨0, 362, 363, 86⟩ : ExceptionTableEntry), _, 7, 365, 368, 369, rfl, (fun _ h => nomatch h), by decide, by decide, kL_86, xv_cstI, fL_does_363, by decide, fL_does_365, fL_does_368⟩
theorem hn_108_A : xv_Hn mL_does 108 "java/lang/IllegalArgumentException" (-2000) := ⟨[(⟨0, 362, 363, 86⟩ : ExceptionTableEntry)], [(⟨0, 362, 375, 90⟩ : ExceptionTableEntry)], (⟨0, 362, 369, 88⟩ : ExceptionTableEntry), _, 7, 371, 374, 375, rfl, (List.forall_mem_cons.mpr ⟨Or.inr ⟨by decide, _, kL_86, by decide +kernel⟩, fun _ h => nomatch h⟩), by decide, by decide, kL_88, xv_cstA, fL_does_369, by decide, fL_does_371, fL_does_374⟩
theorem hn_108_S : xv_Hn mL_does 108 "java/lang/IllegalStateException" (-1000) := ⟨[(⟨0, 362, 363, 86⟩ : ExceptionTableEntry), (⟨0, 362, 369, 88⟩ : ExceptionTableEntry)], [], (⟨0, 362, 375, 90⟩ : ExceptionTableEntry), _, 7, 377, 380, 381, rfl, (List.forall_mem_cons.mpr ⟨Or.inr ⟨by decide, _, kL_86, by decide +kernel⟩, List.forall_mem_cons.mpr ⟨Or.inr ⟨by decide, _, kL_88, by decide +kernel⟩, fun _ h => nomatch h⟩⟩), by decide, by decide, kL_90, xv_cstS, fL_does_375, by decide, fL_does_377, fL_does_380⟩
theorem hn_122_I : xv_Hn mL_does 122 "java/lang/IndexOutOfBoundsException" (-3000) := ⟨[], [(⟨0, 362, 369, 88⟩ : ExceptionTableEntry), (⟨0, 362, 375, 90⟩ : ExceptionTableEntry)], (⟨0, 362, 363, 86⟩ : ExceptionTableEntry), _, 7, 365, 368, 369, rfl, (fun _ h => nomatch h), by decide, by decide, kL_86, xv_cstI, fL_does_363, by decide, fL_does_365, fL_does_368⟩
theorem hn_122_A : xv_Hn mL_does 122 "java/lang/IllegalArgumentException" (-2000) := ⟨[(⟨0, 362, 363, 86⟩ : ExceptionTableEntry)], [(⟨0, 362, 375, 90⟩ : ExceptionTableEntry)], (⟨0, 362, 369, 88⟩ : ExceptionTableEntry), _, 7, 371, 374, 375, rfl, (List.forall_mem_cons.mpr ⟨Or.inr ⟨by decide, _, kL_86, by decide +kernel⟩, fun _ h => nomatch h⟩), by decide, by decide, kL_88, xv_cstA, fL_does_369, by decide, fL_does_371, fL_does_374⟩
theorem hn_122_S : xv_Hn mL_does 122 "java/lang/IllegalStateException" (-1000) := ⟨[(⟨0, 362, 363, 86⟩ : ExceptionTableEntry), (⟨0, 362, 369, 88⟩ : ExceptionTableEntry)], [], (⟨0, 362, 375, 90⟩ : ExceptionTableEntry), _, 7, 377, 380, 381, rfl, (List.forall_mem_cons.mpr ⟨Or.inr ⟨by decide, _, kL_86, by decide +kernel⟩, List.forall_mem_cons.mpr ⟨Or.inr ⟨by decide, _, kL_88, by decide +kernel⟩, fun _ h => nomatch h⟩⟩), by decide, by decide, kL_90, xv_cstS, fL_does_375, by decide, fL_does_377, fL_does_380⟩
theorem hn_139_I : xv_Hn mL_does 139 "java/lang/IndexOutOfBoundsException" (-3000) := ⟨[], [(⟨0, 362, 369, 88⟩ : ExceptionTableEntry), (⟨0, 362, 375, 90⟩ : ExceptionTableEntry)], (⟨0, 362, 363, 86⟩ : ExceptionTableEntry), _, 7, 365, 368, 369, rfl, (fun _ h => nomatch h), by decide, by decide, kL_86, xv_cstI, fL_does_363, by decide, fL_does_365, fL_does_368⟩
theorem hn_139_A : xv_Hn mL_does 139 "java/lang/IllegalArgumentException" (-2000) := ⟨[(⟨0, 362, 363, 86⟩ : ExceptionTableEntry)], [(⟨0, 362, 375, 90⟩ : ExceptionTableEntry)], (⟨0, 362, 369, 88⟩ : ExceptionTableEntry), _, 7, 371, 374, 375, rfl, (List.forall_mem_cons.mpr ⟨Or.inr ⟨by decide, _, kL_86, by decide +kernel⟩, fun _ h => nomatch h⟩), by decide, by decide, kL_88, xv_cstA, fL_does_369, by decide, fL_does_371, fL_does_374⟩
theorem hn_139_S : xv_Hn mL_does 139 "java/lang/IllegalStateException" (-1000) := ⟨[(⟨0, 362, 363, 86⟩ : ExceptionTableEntry), (⟨0, 362, 369, 88⟩ : ExceptionTableEntry)], [], (⟨0, 362, 375, 90⟩ : ExceptionTableEntry), _, 7, 377, 380, 381, rfl, (List.forall_mem_cons.mpr ⟨Or.inr ⟨by decide, _, kL_86, by decide +kernel⟩, List.forall_mem_cons.mpr ⟨Or.inr ⟨by decide, _, kL_88, by decide +kernel⟩, fun _ h => nomatch h⟩⟩), by decide, by decide, kL_90, xv_cstS, fL_does_375, by decide, fL_does_377, fL_does_380⟩
theorem hn_153_I : xv_Hn mL_does 153 "java/lang/IndexOutOfBoundsException" (-3000) := ⟨[], [(⟨0, 362, 369, 88⟩ : ExceptionTableEntry), (⟨0, 362, 375, 90⟩ : ExceptionTableEntry)], (⟨0, 362, 363, 86⟩ : ExceptionTableEntry), _, 7, 365, 368, 369, rfl, (fun _ h => nomatch h), by decide, by decide, kL_86, xv_cstI, fL_does_363, by decide, fL_does_365, fL_does_368⟩
theorem hn_153_A : xv_Hn mL_does 153 "java/lang/IllegalArgumentException" (-2000) := ⟨[(⟨0, 362, 363, 86⟩ : ExceptionTableEntry)], [(⟨0, 362, 375, 90⟩ : ExceptionTableEntry)], (⟨0, 362, 369, 88⟩ : ExceptionTableEntry), _, 7, 371, 374, 375, rfl, (List.forall_mem_cons.mpr ⟨Or.inr ⟨by decide, _, kL_86, by decide +kernel⟩, fun _ h => nomatch h⟩), by decide, by decide, kL_88, xv_cstA, fL_does_369, by decide, fL_does_371, fL_does_374⟩
theorem hn_153_S : xv_Hn mL_does 153 "java/lang/IllegalStateException" (-1000) := ⟨[(⟨0, 362, 363, 86⟩ : ExceptionTableEntry), (⟨0, 362, 369, 88⟩ : ExceptionTableEntry)], [], (⟨0, 362, 375, 90⟩ : ExceptionTableEntry), _, 7, 377, 380, 381, rfl, (List.forall_mem_cons.mpr ⟨Or.inr ⟨by decide, _, kL_86, by decide +kernel⟩, List.forall_mem_cons.mpr ⟨Or.inr ⟨by decide, _, kL_88, by decide +kernel⟩, fun _ h => nomatch h⟩⟩), by decide, by decide, kL_90, xv_cstS, fL_does_375, by decide, fL_does_377, fL_does_380⟩
theorem hn_167_I : xv_Hn mL_does 167 "java/lang/IndexOutOfBoundsException" (-3000) := ⟨[], [(⟨0, 362, 369, 88⟩ : ExceptionTableEntry), (⟨0, 362, 375, 90⟩ : ExceptionTableEntry)], (⟨0, 362, 363, 86⟩ : ExceptionTableEntry), _, 7, 365, 368, 369, rfl, (fun _ h => nomatch h), by decide, by decide, kL_86, xv_cstI, fL_does_363, by decide, fL_does_365, fL_does_368⟩
theorem hn_167_A : xv_Hn mL_does 167 "java/lang/IllegalArgumentException" (-2000) := ⟨[(⟨0, 362, 363, 86⟩ : ExceptionTableEntry)], [(⟨0, 362, 375, 90⟩ : ExceptionTableEntry)], (⟨0, 362, 369, 88⟩ : ExceptionTableEntry), _, 7, 371, 374, 375, rfl, (List.forall_mem_cons.mpr ⟨Or.inr ⟨by decide, _, kL_86, by decide +kernel⟩, fun _ h => nomatch h⟩), by decide, by decide, kL_88, xv_cstA, fL_does_369, by decide, fL_does_371, fL_does_374⟩
theorem hn_167_S : xv_Hn mL_does 167 "java/lang/IllegalStateException" (-1000) := ⟨[(⟨0, 362, 363, 86⟩ : ExceptionTableEntry), (⟨0, 362, 369, 88⟩ : ExceptionTableEntry)], [], (⟨0, 362, 375, 90⟩ : ExceptionTableEntry), _, 7, 377, 380, 381, rfl, (List.forall_mem_cons.mpr ⟨Or.inr ⟨by decide, _, kL_86, by decide +kernel⟩, List.forall_mem_cons.mpr ⟨Or.inr ⟨by decide, _, kL_88, by decide +kernel⟩, fun _ h => nomatch h⟩⟩), by decide, by decide, kL_90, xv_cstS, fL_does_375, by decide, fL_does_377, fL_does_380⟩
theorem hn_182_I : xv_Hn mL_does 182 "java/lang/IndexOutOfBoundsException" (-3000) := ⟨[], [(⟨0, 362, 369, 88⟩ : ExceptionTableEntry), (⟨0, 362, 375, 90⟩ : ExceptionTableEntry)], (⟨0, 362, 363, 86⟩ : ExceptionTableEntry), _, 7, 365, 368, 369, rfl, (fun _ h => nomatch h), by decide, by decide, kL_86, xv_cstI, fL_does_363, by decide, fL_does_365, fL_does_368⟩
theorem hn_182_A : xv_Hn mL_does 182 "java/lang/IllegalArgumentException" (-2000) := ⟨[(⟨0, 362, 363, 86⟩ : ExceptionTableEntry)], [(⟨0, 362, 375, 90⟩ : ExceptionTableEntry)], (⟨0, 362, 369, 88⟩ : ExceptionTableEntry), _, 7, 371, 374, 375, rfl, (List.forall_mem_cons.mpr ⟨Or.inr ⟨by decide, _, kL_86, by decide +kernel⟩, fun _ h => nomatch h⟩), by decide, by decide, kL_88, xv_cstA, fL_does_369, by decide, fL_does_371, fL_does_374⟩
theorem hn_182_S : xv_Hn mL_does 182 "java/lang/IllegalStateException" (-1000) := ⟨[(⟨0, 362, 363, 86⟩ : ExceptionTableEntry), (⟨0, 362, 369, 88⟩ : ExceptionTableEntry)], [], (⟨0, 362, 375, 90⟩ : ExceptionTableEntry), _, 7, 377, 380, 381, rfl, (List.forall_mem_cons.mpr ⟨Or.inr ⟨by decide, _, kL_86, by decide +kernel⟩, List.forall_mem_cons.mpr ⟨Or.inr ⟨by decide, _, kL_88, by decide +kernel⟩, fun _ h => nomatch h⟩⟩), by decide, by decide, kL_90, xv_cstS, fL_does_375, by decide, fL_does_377, fL_does_380⟩
theorem hn_197_I : xv_Hn mL_does 197 "java/lang/IndexOutOfBoundsException" (-3000) := ⟨[], [(⟨0, 362, 369, 88⟩ : ExceptionTableEntry), (⟨0, 362, 375, 90⟩ : ExceptionTableEntry)], (⟨0, 362, 363, 86⟩ : ExceptionTableEntry), _, 7, 365, 368, 369, rfl, (fun _ h => nomatch h), by decide, by decide, kL_86, xv_cstI, fL_does_363, by decide, fL_does_365, fL_does_368⟩
theorem hn_197_A : xv_Hn mL_does 197 "java/lang/IllegalArgumentException" (-2000) := ⟨[(⟨0, 362, 363, 86⟩ : ExceptionTableEntry)], [(⟨0, 362, 375, 90⟩ : ExceptionTableEntry)], (⟨0, 362, 369, 88⟩ : ExceptionTableEntry), _, 7, 371, 374, 375, rfl, (List.forall_mem_cons.mpr ⟨Or.inr ⟨by decide, _, kL_86, by decide +kernel⟩, fun _ h => nomatch h⟩), by decide, by decide, kL_88, xv_cstA, fL_does_369, by decide, fL_does_371, fL_does_374⟩
theorem hn_197_S : xv_Hn mL_does 197 "java/lang/IllegalStateException" (-1000) := ⟨[(⟨0, 362, 363, 86⟩ : ExceptionTableEntry), (⟨0, 362, 369, 88⟩ : ExceptionTableEntry)], [], (⟨0, 362, 375, 90⟩ : ExceptionTableEntry), _, 7, 377, 380, 381, rfl, (List.forall_mem_cons.mpr ⟨Or.inr ⟨by decide, _, kL_86, by decide +kernel⟩, List.forall_mem_cons.mpr ⟨Or.inr ⟨by decide, _, kL_88, by decide +kernel⟩, fun _ h => nomatch h⟩⟩), by decide, by decide, kL_90, xv_cstS, fL_does_375, by decide, fL_does_377, fL_does_380⟩
theorem hn_211_I : xv_Hn mL_does 211 "java/lang/IndexOutOfBoundsException" (-3000) := ⟨[], [(⟨0, 362, 369, 88⟩ : ExceptionTableEntry), (⟨0, 362, 375, 90⟩ : ExceptionTableEntry)], (⟨0, 362, 363, 86⟩ : ExceptionTableEntry), _, 7, 365, 368, 369, rfl, (fun _ h => nomatch h), by decide, by decide, kL_86, xv_cstI, fL_does_363, by decide, fL_does_365, fL_does_368⟩
theorem hn_211_A : xv_Hn mL_does 211 "java/lang/IllegalArgumentException" (-2000) := ⟨[(⟨0, 362, 363, 86⟩ : ExceptionTableEntry)], [(⟨0, 362, 375, 90⟩ : ExceptionTableEntry)], (⟨0, 362, 369, 88⟩ : ExceptionTableEntry), _, 7, 371, 374, 375, rfl, (List.forall_mem_cons.mpr ⟨Or.inr ⟨by decide, _, kL_86, by decide +kernel⟩, fun _ h => nomatch h⟩), by decide, by decide, kL_88, xv_cstA, fL_does_369, by decide, fL_does_371, fL_does_374⟩
theorem hn_211_S : xv_Hn mL_does 211 "java/lang/IllegalStateException" (-1000) := ⟨[(⟨0, 362, 363, 86⟩ : ExceptionTableEntry), (⟨0, 362, 369, 88⟩ : ExceptionTableEntry)], [], (⟨0, 362, 375, 90⟩ : ExceptionTableEntry), _, 7, 377, 380, 381, rfl, (List.forall_mem_cons.mpr ⟨Or.inr ⟨by decide, _, kL_86, by decide +kernel⟩, List.forall_mem_cons.mpr ⟨Or.inr ⟨by decide, _, kL_88, by decide +kernel⟩, fun _ h => nomatch h⟩⟩), by decide, by decide, kL_90, xv_cstS, fL_does_375, by decide, fL_does_377, fL_does_380⟩
theorem hn_234_I : xv_Hn mL_does 234 "java/lang/IndexOutOfBoundsException" (-3000) := ⟨[], [(⟨0, 362, 369, 88⟩ : ExceptionTableEntry), (⟨0, 362, 375, 90⟩ : ExceptionTableEntry)], (⟨0, 362, 363, 86⟩ : ExceptionTableEntry), _, 7, 365, 368, 369, rfl, (fun _ h => nomatch h), by decide, by decide, kL_86, xv_cstI, fL_does_363, by decide, fL_does_365, fL_does_368⟩
theorem hn_234_A : xv_Hn mL_does 234 "java/lang/IllegalArgumentException" (-2000) := ⟨[(⟨0, 362, 363, 86⟩ : ExceptionTableEntry)], [(⟨0, 362, 375, 90⟩ : ExceptionTableEntry)], (⟨0, 362, 369, 88⟩ : ExceptionTableEntry), _, 7, 371, 374, 375, rfl, (List.forall_mem_cons.mpr ⟨Or.inr ⟨by decide, _, kL_86, by decide +kernel⟩, fun _ h => nomatch h⟩), by decide, by decide, kL_88, xv_cstA, fL_does_369, by decide, fL_does_371, fL_does_374⟩
theorem hn_234_S : xv_Hn mL_does 234 "java/lang/IllegalStateException" (-1000) := ⟨[(⟨0, 362, 363, 86⟩ : ExceptionTableEntry), (⟨0, 362, 369, 88⟩ : ExceptionTableEntry)], [], (⟨0, 362, 375, 90⟩ : ExceptionTableEntry), _, 7, 377, 380, 381, rfl, (List.forall_mem_cons.mpr ⟨Or.inr ⟨by decide, _, kL_86, by decide +kernel⟩, List.forall_mem_cons.mpr ⟨Or.inr ⟨by decide, _, kL_88, by decide +kernel⟩, fun _ h => nomatch h⟩⟩), by decide, by decide, kL_90, xv_cstS, fL_does_375, by decide, fL_does_377, fL_does_380⟩
theorem hn_249_I : xv_Hn mL_does 249 "java/lang/IndexOutOfBoundsException" (-3000) := ⟨[], [(⟨0, 362, 369, 88⟩ : ExceptionTableEntry), (⟨0, 362, 375, 90⟩ : ExceptionTableEntry)], (⟨0, 362, 363, 86⟩ : ExceptionTableEntry), _, 7, 365, 368, 369, rfl, (fun _ h => nomatch h), by decide, by decide, kL_86, xv_cstI, fL_does_363, by decide, fL_does_365, fL_does_368⟩
theorem hn_249_A : xv_Hn mL_does 249 "java/lang/IllegalArgumentException" (-2000) := ⟨[(⟨0, 362, 363, 86⟩ : ExceptionTableEntry)], [(⟨0, 362, 375, 90⟩ : ExceptionTableEntry)], (⟨0, 362, 369, 88⟩ : ExceptionTableEntry), _, 7, 371, 374, 375, rfl, (List.forall_mem_cons.mpr ⟨Or.inr ⟨by decide, _, kL_86, by decide +kernel⟩, fun _ h => nomatch h⟩), by decide, by decide, kL_88, xv_cstA, fL_does_369, by decide, fL_does_371, fL_does_374⟩
theorem hn_249_S : xv_Hn mL_does 249 "java/lang/IllegalStateException" (-1000) := ⟨[(⟨0, 362, 363, 86⟩ : ExceptionTableEntry), (⟨0, 362, 369, 88⟩ : ExceptionTableEntry)], [], (⟨0, 362, 375, 90⟩ : ExceptionTableEntry), _, 7, 377, 380, 381, rfl, (List.forall_mem_cons.mpr ⟨Or.inr ⟨by decide, _, kL_86, by decide +kernel⟩, List.forall_mem_cons.mpr ⟨Or.inr ⟨by decide, _, kL_88, by decide +kernel⟩, fun _ h => nomatch h⟩⟩), by decide, by decide, kL_90, xv_cstS, fL_does_375, by decide, fL_does_377, fL_does_380⟩
theorem hn_271_I : xv_Hn mL_does 271 "java/lang/IndexOutOfBoundsException" (-3000) := ⟨[], [(⟨0, 362, 369, 88⟩ : ExceptionTableEntry), (⟨0, 362, 375, 90⟩ : ExceptionTableEntry)], (⟨0, 362, 363, 86⟩ : ExceptionTableEntry), _, 7, 365, 368, 369, rfl, (fun _ h => nomatch h), by decide, by decide, kL_86, xv_cstI, fL_does_363, by decide, fL_does_365, fL_does_368⟩
theorem hn_271_A : xv_Hn mL_does 271 "java/lang/IllegalArgumentException" (-2000) := ⟨[(⟨0, 362, 363, 86⟩ : ExceptionTableEntry)], [(⟨0, 362, 375, 90⟩ : ExceptionTableEntry)], (⟨0, 362, 369, 88⟩ : ExceptionTableEntry), _, 7, 371, 374, 375, rfl, (List.forall_mem_cons.mpr ⟨Or.inr ⟨by decide, _, kL_86, by decide +kernel⟩, fun _ h => nomatch h⟩), by decide, by decide, kL_88, xv_cstA, fL_does_369, by decide, fL_does_371, fL_does_374⟩
theorem hn_271_S : xv_Hn mL_does 271 "java/lang/IllegalStateException" (-1000) := ⟨[(⟨0, 362, 363, 86⟩ : ExceptionTableEntry), (⟨0, 362, 369, 88⟩ : ExceptionTableEntry)], [], (⟨0, 362, 375, 90⟩ : ExceptionTableEntry), _, 7, 377, 380, 381, rfl, (List.forall_mem_cons.mpr ⟨Or.inr ⟨by decide, _, kL_86, by decide +kernel⟩, List.forall_mem_cons.mpr ⟨Or.inr ⟨by decide, _, kL_88, by decide +kernel⟩, fun _ h => nomatch h⟩⟩), by decide, by decide, kL_90, xv_cstS, fL_does_375, by decide, fL_does_377, fL_does_380⟩
theorem hn_292_I : xv_Hn mL_does 292 "java/lang/IndexOutOfBoundsException" (-3000) := ⟨[], [(⟨0, 362, 369, 88⟩ : ExceptionTableEntry), (⟨0, 362, 375, 90⟩ : ExceptionTableEntry)], (⟨0, 362, 363, 86⟩ : ExceptionTableEntry), _, 7, 365, 368, 369, rfl, (fun _ h => nomatch h), by decide, by decide, kL_86, xv_cstI, fL_does_363, by decide, fL_does_365, fL_does_368⟩
theorem hn_292_A : xv_Hn mL_does 292 "java/lang/IllegalArgumentException" (-2000) := ⟨[(⟨0, 362, 363, 86⟩ : ExceptionTableEntry)], [(⟨0, 362, 375, 90⟩ : ExceptionTableEntry)], (⟨0, 362, 369, 88⟩ : ExceptionTableEntry), _, 7, 371, 374, 375, rfl, (List.forall_mem_cons.mpr ⟨Or.inr ⟨by decide, _, kL_86, by decide +kernel⟩, fun _ h => nomatch h⟩), by decide, by decide, kL_88, xv_cstA, fL_does_369, by decide, fL_does_371, fL_does_374⟩
theorem hn_292_S : xv_Hn mL_does 292 "java/lang/IllegalStateException" (-1000) := ⟨[(⟨0, 362, 363, 86⟩ : ExceptionTableEntry), (⟨0, 362, 369, 88⟩ : ExceptionTableEntry)], [], (⟨0, 362, 375, 90⟩ : ExceptionTableEntry), _, 7, 377, 380, 381, rfl, (List.forall_mem_cons.mpr ⟨Or.inr ⟨by decide, _, kL_86, by decide +kernel⟩, List.forall_mem_cons.mpr ⟨Or.inr ⟨by decide, _, kL_88, by decide +kernel⟩, fun _ h => nomatch h⟩⟩), by decide, by decide, kL_90, xv_cstS, fL_does_375, by decide, fL_does_377, fL_does_380⟩
theorem hn_309_I : xv_Hn mL_does 309 "java/lang/IndexOutOfBoundsException" (-3000) := ⟨[], [(⟨0, 362, 369, 88⟩ : ExceptionTableEntry), (⟨0, 362, 375, 90⟩ : ExceptionTableEntry)], (⟨0, 362, 363, 86⟩ : ExceptionTableEntry), _, 7, 365, 368, 369, rfl, (fun _ h => nomatch h), by decide, by decide, kL_86, xv_cstI, fL_does_363, by decide, fL_does_365, fL_does_368⟩
theorem hn_309_A : xv_Hn mL_does 309 "java/lang/IllegalArgumentException" (-2000) := ⟨[(⟨0, 362, 363, 86⟩ : ExceptionTableEntry)], [(⟨0, 362, 375, 90⟩ : ExceptionTableEntry)], (⟨0, 362, 369, 88⟩ : ExceptionTableEntry), _, 7, 371, 374, 375, rfl, (List.forall_mem_cons.mpr ⟨Or.inr ⟨by decide, _, kL_86, by decide +kernel⟩, fun _ h => nomatch h⟩), by decide, by decide, kL_88, xv_cstA, fL_does_369, by decide, fL_does_371, fL_does_374⟩
theorem hn_309_S : xv_Hn mL_does 309 "java/lang/IllegalStateException" (-1000) := ⟨[(⟨0, 362, 363, 86⟩ : ExceptionTableEntry), (⟨0, 362, 369, 88⟩ : ExceptionTableEntry)], [], (⟨0, 362, 375, 90⟩ : ExceptionTableEntry), _, 7, 377, 380, 381, rfl, (List.forall_mem_cons.mpr ⟨Or.inr ⟨by decide, _, kL_86, by decide +kernel⟩, List.forall_mem_cons.mpr ⟨Or.inr ⟨by decide, _, kL_88, by decide +kernel⟩, fun _ h => nomatch h⟩⟩), by decide, by decide, kL_90, xv_cstS, fL_does_375, by decide, fL_does_377, fL_does_380⟩
theorem hn_324_I : xv_Hn mL_does 324 "java/lang/IndexOutOfBoundsException" (-3000) := ⟨[], [(⟨0, 362, 369, 88⟩ : ExceptionTableEntry), (⟨0, 362, 375, 90⟩ : ExceptionTableEntry)], (⟨0, 362, 363, 86⟩ : ExceptionTableEntry), _, 7, 365, 368, 369, rfl, (fun _ h => nomatch h), by decide, by decide, kL_86, xv_cstI, fL_does_363, by decide, fL_does_365, fL_does_368⟩
theorem hn_324_A : xv_Hn mL_does 324 "java/lang/IllegalArgumentException" (-2000) := ⟨[(⟨0, 362, 363, 86⟩ : ExceptionTableEntry)], [(⟨0, 362, 375, 90⟩ : ExceptionTableEntry)], (⟨0, 362, 369, 88⟩ : ExceptionTableEntry), _, 7, 371, 374, 375, rfl, (List.forall_mem_cons.mpr ⟨Or.inr ⟨by decide, _, kL_86, by decide +kernel⟩, fun _ h => nomatch h⟩), by decide, by decide, kL_88, xv_cstA, fL_does_369, by decide, fL_does_371, fL_does_374⟩
theorem hn_324_S : xv_Hn mL_does 324 "java/lang/IllegalStateException" (-1000) := ⟨[(⟨0, 362, 363, 86⟩ : ExceptionTableEntry), (⟨0, 362, 369, 88⟩ : ExceptionTableEntry)], [], (⟨0, 362, 375, 90⟩ : ExceptionTableEntry), _, 7, 377, 380, 381, rfl, (List.forall_mem_cons.mpr ⟨Or.inr ⟨by decide, _, kL_86, by decide +kernel⟩, List.forall_mem_cons.mpr ⟨Or.inr ⟨by decide, _, kL_88, by decide +kernel⟩, fun _ h => nomatch h⟩⟩), by decide, by decide, kL_90, xv_cstS, fL_does_375, by decide, fL_does_377, fL_does_380⟩
theorem hn_337_I : xv_Hn mL_does 337 "java/lang/IndexOutOfBoundsException" (-3000) := ⟨[], [(⟨0, 362, 369, 88⟩ : ExceptionTableEntry), (⟨0, 362, 375, 90⟩ : ExceptionTableEntry)], (⟨0, 362, 363, 86⟩ : ExceptionTableEntry), _, 7, 365, 368, 369, rfl, (fun _ h => nomatch h), by decide, by decide, kL_86, xv_cstI, fL_does_363, by decide, fL_does_365, fL_does_368⟩
theorem hn_337_A : xv_Hn mL_does 337 "java/lang/IllegalArgumentException" (-2000) := ⟨[(⟨0, 362, 363, 86⟩ : ExceptionTableEntry)], [(⟨0, 362, 375, 90⟩ : ExceptionTableEntry)], (⟨0, 362, 369, 88⟩ : ExceptionTableEntry), _, 7, 371, 374, 375, rfl, (List.forall_mem_cons.mpr ⟨Or.inr ⟨by decide, _, kL_86, by decide +kernel⟩, fun _ h => nomatch h⟩), by decide, by decide, kL_88, xv_cstA, fL_does_369, by decide, fL_does_371, fL_does_374⟩
theorem hn_337_S : xv_Hn mL_does 337 "java/lang/IllegalStateException" (-1000) := ⟨[(⟨0, 362, 363, 86⟩ : ExceptionTableEntry), (⟨0, 362, 369, 88⟩ : ExceptionTableEntry)], [], (⟨0, 362, 375, 90⟩ : ExceptionTableEntry), _, 7, 377, 380, 381, rfl, (List.forall_mem_cons.mpr ⟨Or.inr ⟨by decide, _, kL_86, by decide +kernel⟩, List.forall_mem_cons.mpr ⟨Or.inr ⟨by decide, _, kL_88, by decide +kernel⟩, fun _ h => nomatch h⟩⟩), by decide, by decide, kL_90, xv_cstS, fL_does_375, by decide, fL_does_377, fL_does_380⟩
theorem hn_351_I : xv_Hn mL_does 351 "java/lang/IndexOutOfBoundsException" (-3000) := ⟨[], [(⟨0, 362, 369, 88⟩ : ExceptionTableEntry), (⟨0, 362, 375, 90⟩ : ExceptionTableEntry)], (⟨0, 362, 363, 86⟩ : ExceptionTableEntry), _, 7, 365, 368, 369, rfl, (fun _ h => nomatch h), by decide, by decide, kL_86, xv_cstI, fL_does_363, by decide, fL_does_365, fL_does_368⟩
theorem hn_351_A : xv_Hn mL_does 351 "java/lang/IllegalArgumentException" (-2000) := ⟨[(⟨0, 362, 363, 86⟩ : ExceptionTableEntry)], [(⟨0, 362, 375, 90⟩ : ExceptionTableEntry)], (⟨0, 362, 369, 88⟩ : ExceptionTableEntry), _, 7, 371, 374, 375, rfl, (List.forall_mem_cons.mpr ⟨Or.inr ⟨by decide, _, kL_86, by decide +kernel⟩, fun _ h => nomatch h⟩), by decide, by decide, kL_88, xv_cstA, fL_does_369, by decide, fL_does_371, fL_does_374⟩
theorem hn_351_S : xv_Hn mL_does 351 "java/lang/IllegalStateException" (-1000) := ⟨[(⟨0, 362, 363, 86⟩ : ExceptionTableEntry), (⟨0, 362, 369, 88⟩ : ExceptionTableEntry)], [], (⟨0, 362, 375, 90⟩ : ExceptionTableEntry), _, 7, 377, 380, 381, rfl, (List.forall_mem_cons.mpr ⟨Or.inr ⟨by decide, _, kL_86, by decide +kernel⟩, List.forall_mem_cons.mpr ⟨Or.inr ⟨by decide, _, kL_88, by decide +kernel⟩, fun _ h => nomatch h⟩⟩), by decide, by decide, kL_90, xv_cstS, fL_does_375, by decide, fL_does_377, fL_does_380⟩
theorem hn_359_I : xv_Hn mL_does 359 "java/lang/IndexOutOfBoundsException" (-3000) := ⟨[], [(⟨0, 362, 369, 88⟩ : ExceptionTableEntry), (⟨0, 362, 375, 90⟩ : ExceptionTableEntry)], (⟨0, 362, 363, 86⟩ : ExceptionTableEntry), _, 7, 365, 368, 369, rfl, (fun _ h => nomatch h), by decide, by decide, kL_86, xv_cstI, fL_does_363, by decide, fL_does_365, fL_does_368⟩
theorem hn_359_A : xv_Hn mL_does 359 "java/lang/IllegalArgumentException" (-2000) := ⟨[(⟨0, 362, 363, 86⟩ : ExceptionTableEntry)], [(⟨0, 362, 375, 90⟩ : ExceptionTableEntry)], (⟨0, 362, 369, 88⟩ : ExceptionTableEntry), _, 7, 371, 374, 375, rfl, (List.forall_mem_cons.mpr ⟨Or.inr ⟨by decide, _, kL_86, by decide +kernel⟩, fun _ h => nomatch h⟩), by decide, by decide, kL_88, xv_cstA, fL_does_369, by decide, fL_does_371, fL_does_374⟩
theorem hn_359_S : xv_Hn mL_does 359 "java/lang/IllegalStateException" (-1000) := ⟨[(⟨0, 362, 363, 86⟩ : ExceptionTableEntry), (⟨0, 362, 369, 88⟩ : ExceptionTableEntry)], [], (⟨0, 362, 375, 90⟩ : ExceptionTableEntry), _, 7, 377, 380, 381, rfl, (List.forall_mem_cons.mpr ⟨Or.inr ⟨by decide, _, kL_86, by decide +kernel⟩, List.forall_mem_cons.mpr ⟨Or.inr ⟨by decide, _, kL_88, by decide +kernel⟩, fun _ h => nomatch h⟩⟩), by decide, by decide, kL_90, xv_cstS, fL_does_375, by decide, fL_does_377, fL_does_380⟩
theorem c_paged_ok (n : Nat) (c c' : Nat × Nat) (J : xv_J) {I I' : xv_I} {x1 x2 x3 : Int32} (hM : xv_Met mX10_page 8 16 128 (sx n c) I (rx c) J [.ref 0, .int x1, .int x2, .int x3] (xv_eq (.inl none) (sx n c') I' (rx c') J)) : xv_Met mL_paged 9 16 128 (sx n c) I (rx c) J [.ref 0, .int x1, .int x2, .int x3] (xv_eq (.inl (some (.int (nI 0)))) (sx n c') I' (rx c') J) := by
  refine xv_Met.of (by decide +kernel) (Nat.le_of_ble_eq_true rfl) (List.forall_mem_cons.mpr ⟨rfl, List.forall_mem_cons.mpr ⟨rfl, List.forall_mem_cons.mpr ⟨rfl, List.forall_mem_cons.mpr ⟨rfl, fun _ h => nomatch h⟩⟩⟩⟩) ?_
  show xv_W mL_paged 9 16 128 _ 16 128 (sx n c) I (rx c) J 0 [some (.ref 0), some (.int x1), some (.int x2), some (.int x3)] []
  refine xv_al0 fL_paged_0 ?_
  refine xv_il1 fL_paged_1 ?_
  refine xv_il2 fL_paged_2 ?_
  refine xv_il3 fL_paged_3 ?_
  refine xv_callV3V (hM) fL_paged_4 YX10_page VX10_page lL_92 rfl rfl (sx_0 _ _) (Nat.le_of_ble_eq_true rfl) (by decide) (by decide) (by decide) ?_
  refine xv_k fL_paged_7 ?_
  exact xv_iret fL_paged_8 rfl rfl xv_eq_i
theorem c_paged_I (n : Nat) (c c' : Nat × Nat) (J : xv_J) {I I' : xv_I} {x1 x2 x3 : Int32} (hM : xv_Met mX10_page 8 16 128 (sx n c) I (rx c) J [.ref 0, .int x1, .int x2, .int x3] (xv_eq (.inr "java/lang/IndexOutOfBoundsException") (sx n c') I' (rx c') J)) : xv_Met mL_paged 9 16 128 (sx n c) I (rx c) J [.ref 0, .int x1, .int x2, .int x3] (xv_eq (.inr "java/lang/IndexOutOfBoundsException") (sx n c') I' (rx c') J) := by
  refine xv_Met.of (by decide +kernel) (Nat.le_of_ble_eq_true rfl) (List.forall_mem_cons.mpr ⟨rfl, List.forall_mem_cons.mpr ⟨rfl, List.forall_mem_cons.mpr ⟨rfl, List.forall_mem_cons.mpr ⟨rfl, fun _ h => nomatch h⟩⟩⟩⟩) ?_
  show xv_W mL_paged 9 16 128 _ 16 128 (sx n c) I (rx c) J 0 [some (.ref 0), some (.int x1), some (.int x2), some (.int x3)] []
  refine xv_al0 fL_paged_0 ?_
  refine xv_il1 fL_paged_1 ?_
  refine xv_il2 fL_paged_2 ?_
  refine xv_il3 fL_paged_3 ?_
  exact xv_callV3X (hM) fL_paged_4 YX10_page VX10_page lL_92 rfl rfl (sx_0 _ _) (Nat.le_of_ble_eq_true rfl) (by decide) (by decide) (by decide) xv_eq_i
theorem c_paged_A (n : Nat) (c c' : Nat × Nat) (J : xv_J) {I I' : xv_I} {x1 x2 x3 : Int32} (hM : xv_Met mX10_page 8 16 128 (sx n c) I (rx c) J [.ref 0, .int x1, .int x2, .int x3] (xv_eq (.inr "java/lang/IllegalArgumentException") (sx n c') I' (rx c') J)) : xv_Met mL_paged 9 16 128 (sx n c) I (rx c) J [.ref 0, .int x1, .int x2, .int x3] (xv_eq (.inr "java/lang/IllegalArgumentException") (sx n c') I' (rx c') J) := by
  refine xv_Met.of (by decide +kernel) (Nat.le_of_ble_eq_true rfl) (List.forall_mem_cons.mpr ⟨rfl, List.forall_mem_cons.mpr ⟨rfl, List.forall_mem_cons.mpr ⟨rfl, List.forall_mem_cons.mpr ⟨rfl, fun _ h => nomatch h⟩⟩⟩⟩) ?_
  show xv_W mL_paged 9 16 128 _ 16 128 (sx n c) I (rx c) J 0 [some (.ref 0), some (.int x1), some (.int x2), some (.int x3)] []
  refine xv_al0 fL_paged_0 ?_
  refine xv_il1 fL_paged_1 ?_
  refine xv_il2 fL_paged_2 ?_
  refine xv_il3 fL_paged_3 ?_
  exact xv_callV3X (hM) fL_paged_4 YX10_page VX10_page lL_92 rfl rfl (sx_0 _ _) (Nat.le_of_ble_eq_true rfl) (by decide) (by decide) (by decide) xv_eq_i
theorem c_paged_S (n : Nat) (c c' : Nat × Nat) (J : xv_J) {I I' : xv_I} {x1 x2 x3 : Int32} (hM : xv_Met mX10_page 8 16 128 (sx n c) I (rx c) J [.ref 0, .int x1, .int x2, .int x3] (xv_eq (.inr "java/lang/IllegalStateException") (sx n c') I' (rx c') J)) : xv_Met mL_paged 9 16 128 (sx n c) I (rx c) J [.ref 0, .int x1, .int x2, .int x3] (xv_eq (.inr "java/lang/IllegalStateException") (sx n c') I' (rx c') J) := by
  refine xv_Met.of (by decide +kernel) (Nat.le_of_ble_eq_true rfl) (List.forall_mem_cons.mpr ⟨rfl, List.forall_mem_cons.mpr ⟨rfl, List.forall_mem_cons.mpr ⟨rfl, List.forall_mem_cons.mpr ⟨rfl, fun _ h => nomatch h⟩⟩⟩⟩) ?_
  show xv_W mL_paged 9 16 128 _ 16 128 (sx n c) I (rx c) J 0 [some (.ref 0), some (.int x1), some (.int x2), some (.int x3)] []
  refine xv_al0 fL_paged_0 ?_
  refine xv_il1 fL_paged_1 ?_
  refine xv_il2 fL_paged_2 ?_
  refine xv_il3 fL_paged_3 ?_
  exact xv_callV3X (hM) fL_paged_4 YX10_page VX10_page lL_92 rfl rfl (sx_0 _ _) (Nat.le_of_ble_eq_true rfl) (by decide) (by decide) (by decide) xv_eq_i
theorem w_page_0_ok (n : Nat) (c c' : Nat × Nat) (J : xv_J) {I I' : xv_I} {x1 x2 x4 x5 : Int32} (hM : xv_Met mX10_page 8 16 128 (sx n c) I (rx c) J [.ref 0, .int x1, .int x2, .int (nI 0)] (xv_eq (.inl none) (sx n c') I' (rx c') J)) : xv_Met mL_does 10 16 128 (sx n c) I (rx c) J [.ref 0, .int (nI 0), .int x1, .int x2, .int (nI 0), .int x4, .int x5] (xv_eq (.inl (some (.int (nI 0)))) (sx n c') I' (rx c') J) := by
  refine xv_Met.of (by decide +kernel) (Nat.le_of_ble_eq_true rfl) (List.forall_mem_cons.mpr ⟨rfl, List.forall_mem_cons.mpr ⟨rfl, List.forall_mem_cons.mpr ⟨rfl, List.forall_mem_cons.mpr ⟨rfl, List.forall_mem_cons.mpr ⟨rfl, List.forall_mem_cons.mpr ⟨rfl, List.forall_mem_cons.mpr ⟨rfl, fun _ h => nomatch h⟩⟩⟩⟩⟩⟩⟩) ?_
  show xv_W mL_does 10 16 128 _ 16 128 (sx n c) I (rx c) J 0 [some (.ref 0), some (.int (nI 0)), some (.int x1), some (.int x2), some (.int (nI 0)), some (.int x4), some (.int x5), none] []
  refine xv_il1 fL_does_0 ?_
  refine xv_if_ne fL_does_1 (fun h_1 => ?_) (fun h_1 => ?_)
  · exact absurd h_1 (by decide)
  · refine xv_al0 fL_does_4 ?_
    refine xv_il2 fL_does_5 ?_
    refine xv_il3 fL_does_6 ?_
    refine xv_il4 fL_does_7 ?_
    refine xv_k fL_does_9 ?_
    refine xv_ic_ne fL_does_10 (fun h_10 => ?_) (fun h_10 => ?_)
    · refine xv_k fL_does_17 ?_
      refine xv_callSH (As := [.ref 0, .int x1, .int x2, .int (nI 0)]) (S := []) (kc' := 0) (ks' := 0) (c_paged_ok n c c' J hM) fL_does_18 YL_paged VL_paged lL_8 rfl rfl rfl (Nat.le_of_ble_eq_true rfl) (by decide) (by decide) (by decide) ?_ ?_
      · intro r s i rf j h _
        obtain ⟨h1, rfl, rfl, rfl, rfl⟩ := h
        cases h1
        refine xv_goto fL_does_21 ?_
        exact xv_iret fL_does_362 rfl rfl xv_eq_i
      · intro E s i rf j h
        obtain ⟨h1, -⟩ := h
        cases h1
    · exact absurd h_10 (by decide)
theorem w_page_0_I (n : Nat) (c c' : Nat × Nat) (J : xv_J) {I I' : xv_I} {x1 x2 x4 x5 : Int32} (hM : xv_Met mX10_page 8 16 128 (sx n c) I (rx c) J [.ref 0, .int x1, .int x2, .int (nI 0)] (xv_eq (.inr "java/lang/IndexOutOfBoundsException") (sx n c') I' (rx c') J)) : xv_Met mL_does 10 16 128 (sx n c) I (rx c) J [.ref 0, .int (nI 0), .int x1, .int x2, .int (nI 0), .int x4, .int x5] (xv_eq (.inl (some (.int (-3000)))) (sx n c') I' (rx c') J) := by
  refine xv_Met.of (by decide +kernel) (Nat.le_of_ble_eq_true rfl) (List.forall_mem_cons.mpr ⟨rfl, List.forall_mem_cons.mpr ⟨rfl, List.forall_mem_cons.mpr ⟨rfl, List.forall_mem_cons.mpr ⟨rfl, List.forall_mem_cons.mpr ⟨rfl, List.forall_mem_cons.mpr ⟨rfl, List.forall_mem_cons.mpr ⟨rfl, fun _ h => nomatch h⟩⟩⟩⟩⟩⟩⟩) ?_
  show xv_W mL_does 10 16 128 _ 16 128 (sx n c) I (rx c) J 0 [some (.ref 0), some (.int (nI 0)), some (.int x1), some (.int x2), some (.int (nI 0)), some (.int x4), some (.int x5), none] []
  refine xv_il1 fL_does_0 ?_
  refine xv_if_ne fL_does_1 (fun h_1 => ?_) (fun h_1 => ?_)
  · exact absurd h_1 (by decide)
  · refine xv_al0 fL_does_4 ?_
    refine xv_il2 fL_does_5 ?_
    refine xv_il3 fL_does_6 ?_
    refine xv_il4 fL_does_7 ?_
    refine xv_k fL_does_9 ?_
    refine xv_ic_ne fL_does_10 (fun h_10 => ?_) (fun h_10 => ?_)
    · refine xv_k fL_does_17 ?_
      refine xv_callSH (As := [.ref 0, .int x1, .int x2, .int (nI 0)]) (S := []) (kc' := 0) (ks' := 0) (c_paged_I n c c' J hM) fL_does_18 YL_paged VL_paged lL_8 rfl rfl rfl (Nat.le_of_ble_eq_true rfl) (by decide) (by decide) (by decide) ?_ ?_
      · intro r s i rf j h _
        obtain ⟨h1, -⟩ := h
        cases h1
      · intro E s i rf j h
        obtain ⟨h1, rfl, rfl, rfl, rfl⟩ := h
        cases h1
        exact ⟨_, hn_18_I, xv_eq_i⟩
    · exact absurd h_10 (by decide)
theorem w_page_0_A (n : Nat) (c c' : Nat × Nat) (J : xv_J) {I I' : xv_I} {x1 x2 x4 x5 : Int32} (hM : xv_Met mX10_page 8 16 128 (sx n c) I (rx c) J [.ref 0, .int x1, .int x2, .int (nI 0)] (xv_eq (.inr "java/lang/IllegalArgumentException") (sx n c') I' (rx c') J)) : xv_Met mL_does 10 16 128 (sx n c) I (rx c) J [.ref 0, .int (nI 0), .int x1, .int x2, .int (nI 0), .int x4, .int x5] (xv_eq (.inl (some (.int (-2000)))) (sx n c') I' (rx c') J) := by
  refine xv_Met.of (by decide +kernel) (Nat.le_of_ble_eq_true rfl) (List.forall_mem_cons.mpr ⟨rfl, List.forall_mem_cons.mpr ⟨rfl, List.forall_mem_cons.mpr ⟨rfl, List.forall_mem_cons.mpr ⟨rfl, List.forall_mem_cons.mpr ⟨rfl, List.forall_mem_cons.mpr ⟨rfl, List.forall_mem_cons.mpr ⟨rfl, fun _ h => nomatch h⟩⟩⟩⟩⟩⟩⟩) ?_
  show xv_W mL_does 10 16 128 _ 16 128 (sx n c) I (rx c) J 0 [some (.ref 0), some (.int (nI 0)), some (.int x1), some (.int x2), some (.int (nI 0)), some (.int x4), some (.int x5), none] []
  refine xv_il1 fL_does_0 ?_
  refine xv_if_ne fL_does_1 (fun h_1 => ?_) (fun h_1 => ?_)
  · exact absurd h_1 (by decide)
  · refine xv_al0 fL_does_4 ?_
    refine xv_il2 fL_does_5 ?_
    refine xv_il3 fL_does_6 ?_
    refine xv_il4 fL_does_7 ?_
    refine xv_k fL_does_9 ?_
    refine xv_ic_ne fL_does_10 (fun h_10 => ?_) (fun h_10 => ?_)
    · refine xv_k fL_does_17 ?_
      refine xv_callSH (As := [.ref 0, .int x1, .int x2, .int (nI 0)]) (S := []) (kc' := 0) (ks' := 0) (c_paged_A n c c' J hM) fL_does_18 YL_paged VL_paged lL_8 rfl rfl rfl (Nat.le_of_ble_eq_true rfl) (by decide) (by decide) (by decide) ?_ ?_
      · intro r s i rf j h _
        obtain ⟨h1, -⟩ := h
        cases h1
      · intro E s i rf j h
        obtain ⟨h1, rfl, rfl, rfl, rfl⟩ := h
        cases h1
        exact ⟨_, hn_18_A, xv_eq_i⟩
    · exact absurd h_10 (by decide)
theorem w_page_0_S (n : Nat) (c c' : Nat × Nat) (J : xv_J) {I I' : xv_I} {x1 x2 x4 x5 : Int32} (hM : xv_Met mX10_page 8 16 128 (sx n c) I (rx c) J [.ref 0, .int x1, .int x2, .int (nI 0)] (xv_eq (.inr "java/lang/IllegalStateException") (sx n c') I' (rx c') J)) : xv_Met mL_does 10 16 128 (sx n c) I (rx c) J [.ref 0, .int (nI 0), .int x1, .int x2, .int (nI 0), .int x4, .int x5] (xv_eq (.inl (some (.int (-1000)))) (sx n c') I' (rx c') J) := by
  refine xv_Met.of (by decide +kernel) (Nat.le_of_ble_eq_true rfl) (List.forall_mem_cons.mpr ⟨rfl, List.forall_mem_cons.mpr ⟨rfl, List.forall_mem_cons.mpr ⟨rfl, List.forall_mem_cons.mpr ⟨rfl, List.forall_mem_cons.mpr ⟨rfl, List.forall_mem_cons.mpr ⟨rfl, List.forall_mem_cons.mpr ⟨rfl, fun _ h => nomatch h⟩⟩⟩⟩⟩⟩⟩) ?_
  show xv_W mL_does 10 16 128 _ 16 128 (sx n c) I (rx c) J 0 [some (.ref 0), some (.int (nI 0)), some (.int x1), some (.int x2), some (.int (nI 0)), some (.int x4), some (.int x5), none] []
  refine xv_il1 fL_does_0 ?_
  refine xv_if_ne fL_does_1 (fun h_1 => ?_) (fun h_1 => ?_)
  · exact absurd h_1 (by decide)
  · refine xv_al0 fL_does_4 ?_
    refine xv_il2 fL_does_5 ?_
    refine xv_il3 fL_does_6 ?_
    refine xv_il4 fL_does_7 ?_
    refine xv_k fL_does_9 ?_
    refine xv_ic_ne fL_does_10 (fun h_10 => ?_) (fun h_10 => ?_)
    · refine xv_k fL_does_17 ?_
      refine xv_callSH (As := [.ref 0, .int x1, .int x2, .int (nI 0)]) (S := []) (kc' := 0) (ks' := 0) (c_paged_S n c c' J hM) fL_does_18 YL_paged VL_paged lL_8 rfl rfl rfl (Nat.le_of_ble_eq_true rfl) (by decide) (by decide) (by decide) ?_ ?_
      · intro r s i rf j h _
        obtain ⟨h1, -⟩ := h
        cases h1
      · intro E s i rf j h
        obtain ⟨h1, rfl, rfl, rfl, rfl⟩ := h
        cases h1
        exact ⟨_, hn_18_S, xv_eq_i⟩
    · exact absurd h_10 (by decide)
theorem w_page_1_ok (n : Nat) (c c' : Nat × Nat) (J : xv_J) {I I' : xv_I} {x1 x2 x4 x5 : Int32} (hM : xv_Met mX10_page 8 16 128 (sx n c) I (rx c) J [.ref 0, .int x1, .int x2, .int (nI 1)] (xv_eq (.inl none) (sx n c') I' (rx c') J)) : xv_Met mL_does 10 16 128 (sx n c) I (rx c) J [.ref 0, .int (nI 0), .int x1, .int x2, .int (nI 1), .int x4, .int x5] (xv_eq (.inl (some (.int (nI 0)))) (sx n c') I' (rx c') J) := by
  refine xv_Met.of (by decide +kernel) (Nat.le_of_ble_eq_true rfl) (List.forall_mem_cons.mpr ⟨rfl, List.forall_mem_cons.mpr ⟨rfl, List.forall_mem_cons.mpr ⟨rfl, List.forall_mem_cons.mpr ⟨rfl, List.forall_mem_cons.mpr ⟨rfl, List.forall_mem_cons.mpr ⟨rfl, List.forall_mem_cons.mpr ⟨rfl, fun _ h => nomatch h⟩⟩⟩⟩⟩⟩⟩) ?_
  show xv_W mL_does 10 16 128 _ 16 128 (sx n c) I (rx c) J 0 [some (.ref 0), some (.int (nI 0)), some (.int x1), some (.int x2), some (.int (nI 1)), some (.int x4), some (.int x5), none] []
  refine xv_il1 fL_does_0 ?_
  refine xv_if_ne fL_does_1 (fun h_1 => ?_) (fun h_1 => ?_)
  · exact absurd h_1 (by decide)
  · refine xv_al0 fL_does_4 ?_
    refine xv_il2 fL_does_5 ?_
    refine xv_il3 fL_does_6 ?_
    refine xv_il4 fL_does_7 ?_
    refine xv_k fL_does_9 ?_
    refine xv_ic_ne fL_does_10 (fun h_10 => ?_) (fun h_10 => ?_)
    · exact absurd h_10 (by decide)
    · refine xv_k fL_does_13 ?_
      refine xv_goto fL_does_14 ?_
      refine xv_callSH (As := [.ref 0, .int x1, .int x2, .int (nI 1)]) (S := []) (kc' := 0) (ks' := 0) (c_paged_ok n c c' J hM) fL_does_18 YL_paged VL_paged lL_8 rfl rfl rfl (Nat.le_of_ble_eq_true rfl) (by decide) (by decide) (by decide) ?_ ?_
      · intro r s i rf j h _
        obtain ⟨h1, rfl, rfl, rfl, rfl⟩ := h
        cases h1
        refine xv_goto fL_does_21 ?_
        exact xv_iret fL_does_362 rfl rfl xv_eq_i
      · intro E s i rf j h
        obtain ⟨h1, -⟩ := h
        cases h1
theorem w_page_1_I (n : Nat) (c c' : Nat × Nat) (J : xv_J) {I I' : xv_I} {x1 x2 x4 x5 : Int32} (hM : xv_Met mX10_page 8 16 128 (sx n c) I (rx c) J [.ref 0, .int x1, .int x2, .int (nI 1)] (xv_eq (.inr "java/lang/IndexOutOfBoundsException") (sx n c') I' (rx c') J)) : xv_Met mL_does 10 16 128 (sx n c) I (rx c) J [.ref 0, .int (nI 0), .int x1, .int x2, .int (nI 1), .int x4, .int x5] (xv_eq (.inl (some (.int (-3000)))) (sx n c') I' (rx c') J) := by
  refine xv_Met.of (by decide +kernel) (Nat.le_of_ble_eq_true rfl) (List.forall_mem_cons.mpr ⟨rfl, List.forall_mem_cons.mpr ⟨rfl, List.forall_mem_cons.mpr ⟨rfl, List.forall_mem_cons.mpr ⟨rfl, List.forall_mem_cons.mpr ⟨rfl, List.forall_mem_cons.mpr ⟨rfl, List.forall_mem_cons.mpr ⟨rfl, fun _ h => nomatch h⟩⟩⟩⟩⟩⟩⟩) ?_
  show xv_W mL_does 10 16 128 _ 16 128 (sx n c) I (rx c) J 0 [some (.ref 0), some (.int (nI 0)), some (.int x1), some (.int x2), some (.int (nI 1)), some (.int x4), some (.int x5), none] []
  refine xv_il1 fL_does_0 ?_
  refine xv_if_ne fL_does_1 (fun h_1 => ?_) (fun h_1 => ?_)
  · exact absurd h_1 (by decide)
  · refine xv_al0 fL_does_4 ?_
    refine xv_il2 fL_does_5 ?_
    refine xv_il3 fL_does_6 ?_
    refine xv_il4 fL_does_7 ?_
    refine xv_k fL_does_9 ?_
    refine xv_ic_ne fL_does_10 (fun h_10 => ?_) (fun h_10 => ?_)
    · exact absurd h_10 (by decide)
    · refine xv_k fL_does_13 ?_
      refine xv_goto fL_does_14 ?_
      refine xv_callSH (As := [.ref 0, .int x1, .int x2, .int (nI 1)]) (S := []) (kc' := 0) (ks' := 0) (c_paged_I n c c' J hM) fL_does_18 YL_paged VL_paged lL_8 rfl rfl rfl (Nat.le_of_ble_eq_true rfl) (by decide) (by decide) (by decide) ?_ ?_
      · intro r s i rf j h _
        obtain ⟨h1, -⟩ := h
        cases h1
      · intro E s i rf j h
        obtain ⟨h1, rfl, rfl, rfl, rfl⟩ := h
        cases h1
        exact ⟨_, hn_18_I, xv_eq_i⟩
theorem w_page_1_A (n : Nat) (c c' : Nat × Nat) (J : xv_J) {I I' : xv_I} {x1 x2 x4 x5 : Int32} (hM : xv_Met mX10_page 8 16 128 (sx n c) I (rx c) J [.ref 0, .int x1, .int x2, .int (nI 1)] (xv_eq (.inr "java/lang/IllegalArgumentException") (sx n c') I' (rx c') J)) : xv_Met mL_does 10 16 128 (sx n c) I (rx c) J [.ref 0, .int (nI 0), .int x1, .int x2, .int (nI 1), .int x4, .int x5] (xv_eq (.inl (some (.int (-2000)))) (sx n c') I' (rx c') J) := by
  refine xv_Met.of (by decide +kernel) (Nat.le_of_ble_eq_true rfl) (List.forall_mem_cons.mpr ⟨rfl, List.forall_mem_cons.mpr ⟨rfl, List.forall_mem_cons.mpr ⟨rfl, List.forall_mem_cons.mpr ⟨rfl, List.forall_mem_cons.mpr ⟨rfl, List.forall_mem_cons.mpr ⟨rfl, List.forall_mem_cons.mpr ⟨rfl, fun _ h => nomatch h⟩⟩⟩⟩⟩⟩⟩) ?_
  show xv_W mL_does 10 16 128 _ 16 128 (sx n c) I (rx c) J 0 [some (.ref 0), some (.int (nI 0)), some (.int x1), some (.int x2), some (.int (nI 1)), some (.int x4), some (.int x5), none] []
  refine xv_il1 fL_does_0 ?_
  refine xv_if_ne fL_does_1 (fun h_1 => ?_) (fun h_1 => ?_)
  · exact absurd h_1 (by decide)
  · refine xv_al0 fL_does_4 ?_
    refine xv_il2 fL_does_5 ?_
    refine xv_il3 fL_does_6 ?_
    refine xv_il4 fL_does_7 ?_
    refine xv_k fL_does_9 ?_
    refine xv_ic_ne fL_does_10 (fun h_10 => ?_) (fun h_10 => ?_)
    · exact absurd h_10 (by decide)
    · refine xv_k fL_does_13 ?_
      refine xv_goto fL_does_14 ?_
      refine xv_callSH (As := [.ref 0, .int x1, .int x2, .int (nI 1)]) (S := []) (kc' := 0) (ks' := 0) (c_paged_A n c c' J hM) fL_does_18 YL_paged VL_paged lL_8 rfl rfl rfl (Nat.le_of_ble_eq_true rfl) (by decide) (by decide) (by decide) ?_ ?_
      · intro r s i rf j h _
        obtain ⟨h1, -⟩ := h
        cases h1
      · intro E s i rf j h
        obtain ⟨h1, rfl, rfl, rfl, rfl⟩ := h
        cases h1
        exact ⟨_, hn_18_A, xv_eq_i⟩
theorem w_page_1_S (n : Nat) (c c' : Nat × Nat) (J : xv_J) {I I' : xv_I} {x1 x2 x4 x5 : Int32} (hM : xv_Met mX10_page 8 16 128 (sx n c) I (rx c) J [.ref 0, .int x1, .int x2, .int (nI 1)] (xv_eq (.inr "java/lang/IllegalStateException") (sx n c') I' (rx c') J)) : xv_Met mL_does 10 16 128 (sx n c) I (rx c) J [.ref 0, .int (nI 0), .int x1, .int x2, .int (nI 1), .int x4, .int x5] (xv_eq (.inl (some (.int (-1000)))) (sx n c') I' (rx c') J) := by
  refine xv_Met.of (by decide +kernel) (Nat.le_of_ble_eq_true rfl) (List.forall_mem_cons.mpr ⟨rfl, List.forall_mem_cons.mpr ⟨rfl, List.forall_mem_cons.mpr ⟨rfl, List.forall_mem_cons.mpr ⟨rfl, List.forall_mem_cons.mpr ⟨rfl, List.forall_mem_cons.mpr ⟨rfl, List.forall_mem_cons.mpr ⟨rfl, fun _ h => nomatch h⟩⟩⟩⟩⟩⟩⟩) ?_
  show xv_W mL_does 10 16 128 _ 16 128 (sx n c) I (rx c) J 0 [some (.ref 0), some (.int (nI 0)), some (.int x1), some (.int x2), some (.int (nI 1)), some (.int x4), some (.int x5), none] []
  refine xv_il1 fL_does_0 ?_
  refine xv_if_ne fL_does_1 (fun h_1 => ?_) (fun h_1 => ?_)
  · exact absurd h_1 (by decide)
  · refine xv_al0 fL_does_4 ?_
    refine xv_il2 fL_does_5 ?_
    refine xv_il3 fL_does_6 ?_
    refine xv_il4 fL_does_7 ?_
    refine xv_k fL_does_9 ?_
    refine xv_ic_ne fL_does_10 (fun h_10 => ?_) (fun h_10 => ?_)
    · exact absurd h_10 (by decide)
    · refine xv_k fL_does_13 ?_
      refine xv_goto fL_does_14 ?_
      refine xv_callSH (As := [.ref 0, .int x1, .int x2, .int (nI 1)]) (S := []) (kc' := 0) (ks' := 0) (c_paged_S n c c' J hM) fL_does_18 YL_paged VL_paged lL_8 rfl rfl rfl (Nat.le_of_ble_eq_true rfl) (by decide) (by decide) (by decide) ?_ ?_
      · intro r s i rf j h _
        obtain ⟨h1, -⟩ := h
        cases h1
      · intro E s i rf j h
        obtain ⟨h1, rfl, rfl, rfl, rfl⟩ := h
        cases h1
        exact ⟨_, hn_18_S, xv_eq_i⟩
theorem w_cell_ok (n : Nat) (c c' : Nat × Nat) (J : xv_J) {I I' : xv_I} {x1 x2 x3 x4 x5 : Int32} {v : Int32} (hM : xv_Met mX10_cell 8 16 128 (sx n c) I (rx c) J [.ref 0, .int x1, .int x2] (xv_eq (.inl (some (.int (v)))) (sx n c') I' (rx c') J)) : xv_Met mL_does 10 16 128 (sx n c) I (rx c) J [.ref 0, .int (nI 1), .int x1, .int x2, .int x3, .int x4, .int x5] (xv_eq (.inl (some (.int (v)))) (sx n c') I' (rx c') J) := by
  refine xv_Met.of (by decide +kernel) (Nat.le_of_ble_eq_true rfl) (List.forall_mem_cons.mpr ⟨rfl, List.forall_mem_cons.mpr ⟨rfl, List.forall_mem_cons.mpr ⟨rfl, List.forall_mem_cons.mpr ⟨rfl, List.forall_mem_cons.mpr ⟨rfl, List.forall_mem_cons.mpr ⟨rfl, List.forall_mem_cons.mpr ⟨rfl, fun _ h => nomatch h⟩⟩⟩⟩⟩⟩⟩) ?_
  show xv_W mL_does 10 16 128 _ 16 128 (sx n c) I (rx c) J 0 [some (.ref 0), some (.int (nI 1)), some (.int x1), some (.int x2), some (.int x3), some (.int x4), some (.int x5), none] []
  refine xv_il1 fL_does_0 ?_
  refine xv_if_ne fL_does_1 (fun h_1 => ?_) (fun h_1 => ?_)
  · refine xv_il1 fL_does_24 ?_
    refine xv_k fL_does_25 ?_
    refine xv_ic_ne fL_does_26 (fun h_26 => ?_) (fun h_26 => ?_)
    · exact absurd h_26 (by decide)
    · refine xv_al0 fL_does_29 ?_
      refine xv_il2 fL_does_30 ?_
      refine xv_il3 fL_does_31 ?_
      refine xv_callVH (As := [.int x1, .int x2]) (S := []) (kc' := 0) (ks' := 0) hM fL_does_32 YX10_cell VX10_cell lL_14 rfl rfl (sx_0 _ _) rfl rfl (Nat.le_of_ble_eq_true rfl) (by decide) (by decide) (by decide) ?_ ?_
      · intro r s i rf j h _
        obtain ⟨h1, rfl, rfl, rfl, rfl⟩ := h
        cases h1
        refine xv_goto fL_does_35 ?_
        exact xv_iret fL_does_362 rfl rfl xv_eq_i
      · intro E s i rf j h
        obtain ⟨h1, -⟩ := h
        cases h1
  · exact absurd h_1 (by decide)
theorem w_cell_I (n : Nat) (c c' : Nat × Nat) (J : xv_J) {I I' : xv_I} {x1 x2 x3 x4 x5 : Int32} (hM : xv_Met mX10_cell 8 16 128 (sx n c) I (rx c) J [.ref 0, .int x1, .int x2] (xv_eq (.inr "java/lang/IndexOutOfBoundsException") (sx n c') I' (rx c') J)) : xv_Met mL_does 10 16 128 (sx n c) I (rx c) J [.ref 0, .int (nI 1), .int x1, .int x2, .int x3, .int x4, .int x5] (xv_eq (.inl (some (.int (-3000)))) (sx n c') I' (rx c') J) := by
  refine xv_Met.of (by decide +kernel) (Nat.le_of_ble_eq_true rfl) (List.forall_mem_cons.mpr ⟨rfl, List.forall_mem_cons.mpr ⟨rfl, List.forall_mem_cons.mpr ⟨rfl, List.forall_mem_cons.mpr ⟨rfl, List.forall_mem_cons.mpr ⟨rfl, List.forall_mem_cons.mpr ⟨rfl, List.forall_mem_cons.mpr ⟨rfl, fun _ h => nomatch h⟩⟩⟩⟩⟩⟩⟩) ?_
  show xv_W mL_does 10 16 128 _ 16 128 (sx n c) I (rx c) J 0 [some (.ref 0), some (.int (nI 1)), some (.int x1), some (.int x2), some (.int x3), some (.int x4), some (.int x5), none] []
  refine xv_il1 fL_does_0 ?_
  refine xv_if_ne fL_does_1 (fun h_1 => ?_) (fun h_1 => ?_)
  · refine xv_il1 fL_does_24 ?_
    refine xv_k fL_does_25 ?_
    refine xv_ic_ne fL_does_26 (fun h_26 => ?_) (fun h_26 => ?_)
    · exact absurd h_26 (by decide)
    · refine xv_al0 fL_does_29 ?_
      refine xv_il2 fL_does_30 ?_
      refine xv_il3 fL_does_31 ?_
      refine xv_callVH (As := [.int x1, .int x2]) (S := []) (kc' := 0) (ks' := 0) hM fL_does_32 YX10_cell VX10_cell lL_14 rfl rfl (sx_0 _ _) rfl rfl (Nat.le_of_ble_eq_true rfl) (by decide) (by decide) (by decide) ?_ ?_
      · intro r s i rf j h _
        obtain ⟨h1, -⟩ := h
        cases h1
      · intro E s i rf j h
        obtain ⟨h1, rfl, rfl, rfl, rfl⟩ := h
        cases h1
        exact ⟨_, hn_32_I, xv_eq_i⟩
  · exact absurd h_1 (by decide)
theorem w_cell_A (n : Nat) (c c' : Nat × Nat) (J : xv_J) {I I' : xv_I} {x1 x2 x3 x4 x5 : Int32} (hM : xv_Met mX10_cell 8 16 128 (sx n c) I (rx c) J [.ref 0, .int x1, .int x2] (xv_eq (.inr "java/lang/IllegalArgumentException") (sx n c') I' (rx c') J)) : xv_Met mL_does 10 16 128 (sx n c) I (rx c) J [.ref 0, .int (nI 1), .int x1, .int x2, .int x3, .int x4, .int x5] (xv_eq (.inl (some (.int (-2000)))) (sx n c') I' (rx c') J) := by
  refine xv_Met.of (by decide +kernel) (Nat.le_of_ble_eq_true rfl) (List.forall_mem_cons.mpr ⟨rfl, List.forall_mem_cons.mpr ⟨rfl, List.forall_mem_cons.mpr ⟨rfl, List.forall_mem_cons.mpr ⟨rfl, List.forall_mem_cons.mpr ⟨rfl, List.forall_mem_cons.mpr ⟨rfl, List.forall_mem_cons.mpr ⟨rfl, fun _ h => nomatch h⟩⟩⟩⟩⟩⟩⟩) ?_
  show xv_W mL_does 10 16 128 _ 16 128 (sx n c) I (rx c) J 0 [some (.ref 0), some (.int (nI 1)), some (.int x1), some (.int x2), some (.int x3), some (.int x4), some (.int x5), none] []
  refine xv_il1 fL_does_0 ?_
  refine xv_if_ne fL_does_1 (fun h_1 => ?_) (fun h_1 => ?_)
  · refine xv_il1 fL_does_24 ?_
    refine xv_k fL_does_25 ?_
    refine xv_ic_ne fL_does_26 (fun h_26 => ?_) (fun h_26 => ?_)
    · exact absurd h_26 (by decide)
    · refine xv_al0 fL_does_29 ?_
      refine xv_il2 fL_does_30 ?_
      refine xv_il3 fL_does_31 ?_
      refine xv_callVH (As := [.int x1, .int x2]) (S := []) (kc' := 0) (ks' := 0) hM fL_does_32 YX10_cell VX10_cell lL_14 rfl rfl (sx_0 _ _) rfl rfl (Nat.le_of_ble_eq_true rfl) (by decide) (by decide) (by decide) ?_ ?_
      · intro r s i rf j h _
        obtain ⟨h1, -⟩ := h
        cases h1
      · intro E s i rf j h
        obtain ⟨h1, rfl, rfl, rfl, rfl⟩ := h
        cases h1
        exact ⟨_, hn_32_A, xv_eq_i⟩
  · exact absurd h_1 (by decide)
theorem w_cell_S (n : Nat) (c c' : Nat × Nat) (J : xv_J) {I I' : xv_I} {x1 x2 x3 x4 x5 : Int32} (hM : xv_Met mX10_cell 8 16 128 (sx n c) I (rx c) J [.ref 0, .int x1, .int x2] (xv_eq (.inr "java/lang/IllegalStateException") (sx n c') I' (rx c') J)) : xv_Met mL_does 10 16 128 (sx n c) I (rx c) J [.ref 0, .int (nI 1), .int x1, .int x2, .int x3, .int x4, .int x5] (xv_eq (.inl (some (.int (-1000)))) (sx n c') I' (rx c') J) := by
  refine xv_Met.of (by decide +kernel) (Nat.le_of_ble_eq_true rfl) (List.forall_mem_cons.mpr ⟨rfl, List.forall_mem_cons.mpr ⟨rfl, List.forall_mem_cons.mpr ⟨rfl, List.forall_mem_cons.mpr ⟨rfl, List.forall_mem_cons.mpr ⟨rfl, List.forall_mem_cons.mpr ⟨rfl, List.forall_mem_cons.mpr ⟨rfl, fun _ h => nomatch h⟩⟩⟩⟩⟩⟩⟩) ?_
  show xv_W mL_does 10 16 128 _ 16 128 (sx n c) I (rx c) J 0 [some (.ref 0), some (.int (nI 1)), some (.int x1), some (.int x2), some (.int x3), some (.int x4), some (.int x5), none] []
  refine xv_il1 fL_does_0 ?_
  refine xv_if_ne fL_does_1 (fun h_1 => ?_) (fun h_1 => ?_)
  · refine xv_il1 fL_does_24 ?_
    refine xv_k fL_does_25 ?_
    refine xv_ic_ne fL_does_26 (fun h_26 => ?_) (fun h_26 => ?_)
    · exact absurd h_26 (by decide)
    · refine xv_al0 fL_does_29 ?_
      refine xv_il2 fL_does_30 ?_
      refine xv_il3 fL_does_31 ?_
      refine xv_callVH (As := [.int x1, .int x2]) (S := []) (kc' := 0) (ks' := 0) hM fL_does_32 YX10_cell VX10_cell lL_14 rfl rfl (sx_0 _ _) rfl rfl (Nat.le_of_ble_eq_true rfl) (by decide) (by decide) (by decide) ?_ ?_
      · intro r s i rf j h _
        obtain ⟨h1, -⟩ := h
        cases h1
      · intro E s i rf j h
        obtain ⟨h1, rfl, rfl, rfl, rfl⟩ := h
        cases h1
        exact ⟨_, hn_32_S, xv_eq_i⟩
  · exact absurd h_1 (by decide)
theorem w_distance_ok (n : Nat) (c c' : Nat × Nat) (J : xv_J) {I I' : xv_I} {x1 x2 x3 x4 x5 : Int32} {v : Int32} (hM : xv_Met mX10_distance 8 16 128 (sx n c) I (rx c) J [.ref 0, .int x1, .int x2] (xv_eq (.inl (some (.int (v)))) (sx n c') I' (rx c') J)) : xv_Met mL_does 10 16 128 (sx n c) I (rx c) J [.ref 0, .int (nI 2), .int x1, .int x2, .int x3, .int x4, .int x5] (xv_eq (.inl (some (.int (v)))) (sx n c') I' (rx c') J) := by
  refine xv_Met.of (by decide +kernel) (Nat.le_of_ble_eq_true rfl) (List.forall_mem_cons.mpr ⟨rfl, List.forall_mem_cons.mpr ⟨rfl, List.forall_mem_cons.mpr ⟨rfl, List.forall_mem_cons.mpr ⟨rfl, List.forall_mem_cons.mpr ⟨rfl, List.forall_mem_cons.mpr ⟨rfl, List.forall_mem_cons.mpr ⟨rfl, fun _ h => nomatch h⟩⟩⟩⟩⟩⟩⟩) ?_
  show xv_W mL_does 10 16 128 _ 16 128 (sx n c) I (rx c) J 0 [some (.ref 0), some (.int (nI 2)), some (.int x1), some (.int x2), some (.int x3), some (.int x4), some (.int x5), none] []
  refine xv_il1 fL_does_0 ?_
  refine xv_if_ne fL_does_1 (fun h_1 => ?_) (fun h_1 => ?_)
  · refine xv_il1 fL_does_24 ?_
    refine xv_k fL_does_25 ?_
    refine xv_ic_ne fL_does_26 (fun h_26 => ?_) (fun h_26 => ?_)
    · refine xv_il1 fL_does_38 ?_
      refine xv_k fL_does_39 ?_
      refine xv_ic_ne fL_does_40 (fun h_40 => ?_) (fun h_40 => ?_)
      · exact absurd h_40 (by decide)
      · refine xv_al0 fL_does_43 ?_
        refine xv_il2 fL_does_44 ?_
        refine xv_il3 fL_does_45 ?_
        refine xv_callVH (As := [.int x1, .int x2]) (S := []) (kc' := 0) (ks' := 0) hM fL_does_46 YX10_distance VX10_distance lL_20 rfl rfl (sx_0 _ _) rfl rfl (Nat.le_of_ble_eq_true rfl) (by decide) (by decide) (by decide) ?_ ?_
        · intro r s i rf j h _
          obtain ⟨h1, rfl, rfl, rfl, rfl⟩ := h
          cases h1
          refine xv_goto fL_does_49 ?_
          exact xv_iret fL_does_362 rfl rfl xv_eq_i
        · intro E s i rf j h
          obtain ⟨h1, -⟩ := h
          cases h1
    · exact absurd h_26 (by decide)
  · exact absurd h_1 (by decide)
theorem w_distance_I (n : Nat) (c c' : Nat × Nat) (J : xv_J) {I I' : xv_I} {x1 x2 x3 x4 x5 : Int32} (hM : xv_Met mX10_distance 8 16 128 (sx n c) I (rx c) J [.ref 0, .int x1, .int x2] (xv_eq (.inr "java/lang/IndexOutOfBoundsException") (sx n c') I' (rx c') J)) : xv_Met mL_does 10 16 128 (sx n c) I (rx c) J [.ref 0, .int (nI 2), .int x1, .int x2, .int x3, .int x4, .int x5] (xv_eq (.inl (some (.int (-3000)))) (sx n c') I' (rx c') J) := by
  refine xv_Met.of (by decide +kernel) (Nat.le_of_ble_eq_true rfl) (List.forall_mem_cons.mpr ⟨rfl, List.forall_mem_cons.mpr ⟨rfl, List.forall_mem_cons.mpr ⟨rfl, List.forall_mem_cons.mpr ⟨rfl, List.forall_mem_cons.mpr ⟨rfl, List.forall_mem_cons.mpr ⟨rfl, List.forall_mem_cons.mpr ⟨rfl, fun _ h => nomatch h⟩⟩⟩⟩⟩⟩⟩) ?_
  show xv_W mL_does 10 16 128 _ 16 128 (sx n c) I (rx c) J 0 [some (.ref 0), some (.int (nI 2)), some (.int x1), some (.int x2), some (.int x3), some (.int x4), some (.int x5), none] []
  refine xv_il1 fL_does_0 ?_
  refine xv_if_ne fL_does_1 (fun h_1 => ?_) (fun h_1 => ?_)
  · refine xv_il1 fL_does_24 ?_
    refine xv_k fL_does_25 ?_
    refine xv_ic_ne fL_does_26 (fun h_26 => ?_) (fun h_26 => ?_)
    · refine xv_il1 fL_does_38 ?_
      refine xv_k fL_does_39 ?_
      refine xv_ic_ne fL_does_40 (fun h_40 => ?_) (fun h_40 => ?_)
      · exact absurd h_40 (by decide)
      · refine xv_al0 fL_does_43 ?_
        refine xv_il2 fL_does_44 ?_
        refine xv_il3 fL_does_45 ?_
        refine xv_callVH (As := [.int x1, .int x2]) (S := []) (kc' := 0) (ks' := 0) hM fL_does_46 YX10_distance VX10_distance lL_20 rfl rfl (sx_0 _ _) rfl rfl (Nat.le_of_ble_eq_true rfl) (by decide) (by decide) (by decide) ?_ ?_
        · intro r s i rf j h _
          obtain ⟨h1, -⟩ := h
          cases h1
        · intro E s i rf j h
          obtain ⟨h1, rfl, rfl, rfl, rfl⟩ := h
          cases h1
          exact ⟨_, hn_46_I, xv_eq_i⟩
    · exact absurd h_26 (by decide)
  · exact absurd h_1 (by decide)
theorem w_distance_A (n : Nat) (c c' : Nat × Nat) (J : xv_J) {I I' : xv_I} {x1 x2 x3 x4 x5 : Int32} (hM : xv_Met mX10_distance 8 16 128 (sx n c) I (rx c) J [.ref 0, .int x1, .int x2] (xv_eq (.inr "java/lang/IllegalArgumentException") (sx n c') I' (rx c') J)) : xv_Met mL_does 10 16 128 (sx n c) I (rx c) J [.ref 0, .int (nI 2), .int x1, .int x2, .int x3, .int x4, .int x5] (xv_eq (.inl (some (.int (-2000)))) (sx n c') I' (rx c') J) := by
  refine xv_Met.of (by decide +kernel) (Nat.le_of_ble_eq_true rfl) (List.forall_mem_cons.mpr ⟨rfl, List.forall_mem_cons.mpr ⟨rfl, List.forall_mem_cons.mpr ⟨rfl, List.forall_mem_cons.mpr ⟨rfl, List.forall_mem_cons.mpr ⟨rfl, List.forall_mem_cons.mpr ⟨rfl, List.forall_mem_cons.mpr ⟨rfl, fun _ h => nomatch h⟩⟩⟩⟩⟩⟩⟩) ?_
  show xv_W mL_does 10 16 128 _ 16 128 (sx n c) I (rx c) J 0 [some (.ref 0), some (.int (nI 2)), some (.int x1), some (.int x2), some (.int x3), some (.int x4), some (.int x5), none] []
  refine xv_il1 fL_does_0 ?_
  refine xv_if_ne fL_does_1 (fun h_1 => ?_) (fun h_1 => ?_)
  · refine xv_il1 fL_does_24 ?_
    refine xv_k fL_does_25 ?_
    refine xv_ic_ne fL_does_26 (fun h_26 => ?_) (fun h_26 => ?_)
    · refine xv_il1 fL_does_38 ?_
      refine xv_k fL_does_39 ?_
      refine xv_ic_ne fL_does_40 (fun h_40 => ?_) (fun h_40 => ?_)
      · exact absurd h_40 (by decide)
      · refine xv_al0 fL_does_43 ?_
        refine xv_il2 fL_does_44 ?_
        refine xv_il3 fL_does_45 ?_
        refine xv_callVH (As := [.int x1, .int x2]) (S := []) (kc' := 0) (ks' := 0) hM fL_does_46 YX10_distance VX10_distance lL_20 rfl rfl (sx_0 _ _) rfl rfl (Nat.le_of_ble_eq_true rfl) (by decide) (by decide) (by decide) ?_ ?_
        · intro r s i rf j h _
          obtain ⟨h1, -⟩ := h
          cases h1
        · intro E s i rf j h
          obtain ⟨h1, rfl, rfl, rfl, rfl⟩ := h
          cases h1
          exact ⟨_, hn_46_A, xv_eq_i⟩
    · exact absurd h_26 (by decide)
  · exact absurd h_1 (by decide)
theorem w_distance_S (n : Nat) (c c' : Nat × Nat) (J : xv_J) {I I' : xv_I} {x1 x2 x3 x4 x5 : Int32} (hM : xv_Met mX10_distance 8 16 128 (sx n c) I (rx c) J [.ref 0, .int x1, .int x2] (xv_eq (.inr "java/lang/IllegalStateException") (sx n c') I' (rx c') J)) : xv_Met mL_does 10 16 128 (sx n c) I (rx c) J [.ref 0, .int (nI 2), .int x1, .int x2, .int x3, .int x4, .int x5] (xv_eq (.inl (some (.int (-1000)))) (sx n c') I' (rx c') J) := by
  refine xv_Met.of (by decide +kernel) (Nat.le_of_ble_eq_true rfl) (List.forall_mem_cons.mpr ⟨rfl, List.forall_mem_cons.mpr ⟨rfl, List.forall_mem_cons.mpr ⟨rfl, List.forall_mem_cons.mpr ⟨rfl, List.forall_mem_cons.mpr ⟨rfl, List.forall_mem_cons.mpr ⟨rfl, List.forall_mem_cons.mpr ⟨rfl, fun _ h => nomatch h⟩⟩⟩⟩⟩⟩⟩) ?_
  show xv_W mL_does 10 16 128 _ 16 128 (sx n c) I (rx c) J 0 [some (.ref 0), some (.int (nI 2)), some (.int x1), some (.int x2), some (.int x3), some (.int x4), some (.int x5), none] []
  refine xv_il1 fL_does_0 ?_
  refine xv_if_ne fL_does_1 (fun h_1 => ?_) (fun h_1 => ?_)
  · refine xv_il1 fL_does_24 ?_
    refine xv_k fL_does_25 ?_
    refine xv_ic_ne fL_does_26 (fun h_26 => ?_) (fun h_26 => ?_)
    · refine xv_il1 fL_does_38 ?_
      refine xv_k fL_does_39 ?_
      refine xv_ic_ne fL_does_40 (fun h_40 => ?_) (fun h_40 => ?_)
      · exact absurd h_40 (by decide)
      · refine xv_al0 fL_does_43 ?_
        refine xv_il2 fL_does_44 ?_
        refine xv_il3 fL_does_45 ?_
        refine xv_callVH (As := [.int x1, .int x2]) (S := []) (kc' := 0) (ks' := 0) hM fL_does_46 YX10_distance VX10_distance lL_20 rfl rfl (sx_0 _ _) rfl rfl (Nat.le_of_ble_eq_true rfl) (by decide) (by decide) (by decide) ?_ ?_
        · intro r s i rf j h _
          obtain ⟨h1, -⟩ := h
          cases h1
        · intro E s i rf j h
          obtain ⟨h1, rfl, rfl, rfl, rfl⟩ := h
          cases h1
          exact ⟨_, hn_46_S, xv_eq_i⟩
    · exact absurd h_26 (by decide)
  · exact absurd h_1 (by decide)
theorem w_advert_0_ok (n : Nat) (c c' : Nat × Nat) (J : xv_J) {I I' : xv_I} {x1 x4 x5 : Int32} {w h : Nat} (hw : w < 10) (hh9 : h < 100) {v : Int32} (hM : xv_Met mX10_advert 8 16 128 (sx n c) I (rx c) J [.ref 0, .int x1, .int (nI w), .int (nI h), .int (nI 0), .int x4, .int x5] (xv_eq (.inl (some (.int (v)))) (sx n c') I' (rx c') J)) : xv_Met mL_does 10 16 128 (sx n c) I (rx c) J [.ref 0, .int (nI 3), .int x1, .int (nI (w + 10 * h)), .int (nI 0), .int x4, .int x5] (xv_eq (.inl (some (.int (v)))) (sx n c') I' (rx c') J) := by
  refine xv_Met.of (by decide +kernel) (Nat.le_of_ble_eq_true rfl) (List.forall_mem_cons.mpr ⟨rfl, List.forall_mem_cons.mpr ⟨rfl, List.forall_mem_cons.mpr ⟨rfl, List.forall_mem_cons.mpr ⟨rfl, List.forall_mem_cons.mpr ⟨rfl, List.forall_mem_cons.mpr ⟨rfl, List.forall_mem_cons.mpr ⟨rfl, fun _ h => nomatch h⟩⟩⟩⟩⟩⟩⟩) ?_
  show xv_W mL_does 10 16 128 _ 16 128 (sx n c) I (rx c) J 0 [some (.ref 0), some (.int (nI 3)), some (.int x1), some (.int (nI (w + 10 * h))), some (.int (nI 0)), some (.int x4), some (.int x5), none] []
  refine xv_il1 fL_does_0 ?_
  refine xv_if_ne fL_does_1 (fun h_1 => ?_) (fun h_1 => ?_)
  · refine xv_il1 fL_does_24 ?_
    refine xv_k fL_does_25 ?_
    refine xv_ic_ne fL_does_26 (fun h_26 => ?_) (fun h_26 => ?_)
    · refine xv_il1 fL_does_38 ?_
      refine xv_k fL_does_39 ?_
      refine xv_ic_ne fL_does_40 (fun h_40 => ?_) (fun h_40 => ?_)
      · refine xv_il1 fL_does_52 ?_
        refine xv_k fL_does_53 ?_
        refine xv_ic_ne fL_does_54 (fun h_54 => ?_) (fun h_54 => ?_)
        · exact absurd h_54 (by decide)
        · refine xv_al0 fL_does_57 ?_
          refine xv_il2 fL_does_58 ?_
          refine xv_il3 fL_does_59 ?_
          refine xv_k fL_does_60 ?_
          refine xv_irem fL_does_62 (by decide) ?_
          refine xv_eqi (y := nI w) (by rw [nI_rem (by omega) (by decide)]; congr 1; omega) ?_
          refine xv_il3 fL_does_63 ?_
          refine xv_k fL_does_64 ?_
          refine xv_idiv fL_does_66 (by decide) ?_
          refine xv_eqi (y := nI h) (by rw [nI_div (by omega) (by decide)]; congr 1; omega) ?_
          refine xv_il4 fL_does_67 ?_
          refine xv_k fL_does_69 ?_
          refine xv_ic_ne fL_does_70 (fun h_70 => ?_) (fun h_70 => ?_)
          · refine xv_k fL_does_77 ?_
            refine xv_il5 fL_does_78 ?_
            refine xv_il6 fL_does_80 ?_
            refine xv_callVH (As := [.int x1, .int (nI w), .int (nI h), .int (nI 0), .int x4, .int x5]) (S := []) (kc' := 0) (ks' := 0) hM fL_does_82 YX10_advert VX10_advert lL_23 rfl rfl (sx_0 _ _) rfl rfl (Nat.le_of_ble_eq_true rfl) (by decide) (by decide) (by decide) ?_ ?_
            · intro r s i rf j h _
              obtain ⟨h1, rfl, rfl, rfl, rfl⟩ := h
              cases h1
              refine xv_goto fL_does_85 ?_
              exact xv_iret fL_does_362 rfl rfl xv_eq_i
            · intro E s i rf j h
              obtain ⟨h1, -⟩ := h
              cases h1
          · exact absurd h_70 (by decide)
      · exact absurd h_40 (by decide)
    · exact absurd h_26 (by decide)
  · exact absurd h_1 (by decide)
theorem w_advert_0_I (n : Nat) (c c' : Nat × Nat) (J : xv_J) {I I' : xv_I} {x1 x4 x5 : Int32} {w h : Nat} (hw : w < 10) (hh9 : h < 100) (hM : xv_Met mX10_advert 8 16 128 (sx n c) I (rx c) J [.ref 0, .int x1, .int (nI w), .int (nI h), .int (nI 0), .int x4, .int x5] (xv_eq (.inr "java/lang/IndexOutOfBoundsException") (sx n c') I' (rx c') J)) : xv_Met mL_does 10 16 128 (sx n c) I (rx c) J [.ref 0, .int (nI 3), .int x1, .int (nI (w + 10 * h)), .int (nI 0), .int x4, .int x5] (xv_eq (.inl (some (.int (-3000)))) (sx n c') I' (rx c') J) := by
  refine xv_Met.of (by decide +kernel) (Nat.le_of_ble_eq_true rfl) (List.forall_mem_cons.mpr ⟨rfl, List.forall_mem_cons.mpr ⟨rfl, List.forall_mem_cons.mpr ⟨rfl, List.forall_mem_cons.mpr ⟨rfl, List.forall_mem_cons.mpr ⟨rfl, List.forall_mem_cons.mpr ⟨rfl, List.forall_mem_cons.mpr ⟨rfl, fun _ h => nomatch h⟩⟩⟩⟩⟩⟩⟩) ?_
  show xv_W mL_does 10 16 128 _ 16 128 (sx n c) I (rx c) J 0 [some (.ref 0), some (.int (nI 3)), some (.int x1), some (.int (nI (w + 10 * h))), some (.int (nI 0)), some (.int x4), some (.int x5), none] []
  refine xv_il1 fL_does_0 ?_
  refine xv_if_ne fL_does_1 (fun h_1 => ?_) (fun h_1 => ?_)
  · refine xv_il1 fL_does_24 ?_
    refine xv_k fL_does_25 ?_
    refine xv_ic_ne fL_does_26 (fun h_26 => ?_) (fun h_26 => ?_)
    · refine xv_il1 fL_does_38 ?_
      refine xv_k fL_does_39 ?_
      refine xv_ic_ne fL_does_40 (fun h_40 => ?_) (fun h_40 => ?_)
      · refine xv_il1 fL_does_52 ?_
        refine xv_k fL_does_53 ?_
        refine xv_ic_ne fL_does_54 (fun h_54 => ?_) (fun h_54 => ?_)
        · exact absurd h_54 (by decide)
        · refine xv_al0 fL_does_57 ?_
          refine xv_il2 fL_does_58 ?_
          refine xv_il3 fL_does_59 ?_
          refine xv_k fL_does_60 ?_
          refine xv_irem fL_does_62 (by decide) ?_
          refine xv_eqi (y := nI w) (by rw [nI_rem (by omega) (by decide)]; congr 1; omega) ?_
          refine xv_il3 fL_does_63 ?_
          refine xv_k fL_does_64 ?_
          refine xv_idiv fL_does_66 (by decide) ?_
          refine xv_eqi (y := nI h) (by rw [nI_div (by omega) (by decide)]; congr 1; omega) ?_
          refine xv_il4 fL_does_67 ?_
          refine xv_k fL_does_69 ?_
          refine xv_ic_ne fL_does_70 (fun h_70 => ?_) (fun h_70 => ?_)
          · refine xv_k fL_does_77 ?_
            refine xv_il5 fL_does_78 ?_
            refine xv_il6 fL_does_80 ?_
            refine xv_callVH (As := [.int x1, .int (nI w), .int (nI h), .int (nI 0), .int x4, .int x5]) (S := []) (kc' := 0) (ks' := 0) hM fL_does_82 YX10_advert VX10_advert lL_23 rfl rfl (sx_0 _ _) rfl rfl (Nat.le_of_ble_eq_true rfl) (by decide) (by decide) (by decide) ?_ ?_
            · intro r s i rf j h _
              obtain ⟨h1, -⟩ := h
              cases h1
            · intro E s i rf j h
              obtain ⟨h1, rfl, rfl, rfl, rfl⟩ := h
              cases h1
              exact ⟨_, hn_82_I, xv_eq_i⟩
          · exact absurd h_70 (by decide)
      · exact absurd h_40 (by decide)
    · exact absurd h_26 (by decide)
  · exact absurd h_1 (by decide)
theorem w_advert_0_A (n : Nat) (c c' : Nat × Nat) (J : xv_J) {I I' : xv_I} {x1 x4 x5 : Int32} {w h : Nat} (hw : w < 10) (hh9 : h < 100) (hM : xv_Met mX10_advert 8 16 128 (sx n c) I (rx c) J [.ref 0, .int x1, .int (nI w), .int (nI h), .int (nI 0), .int x4, .int x5] (xv_eq (.inr "java/lang/IllegalArgumentException") (sx n c') I' (rx c') J)) : xv_Met mL_does 10 16 128 (sx n c) I (rx c) J [.ref 0, .int (nI 3), .int x1, .int (nI (w + 10 * h)), .int (nI 0), .int x4, .int x5] (xv_eq (.inl (some (.int (-2000)))) (sx n c') I' (rx c') J) := by
  refine xv_Met.of (by decide +kernel) (Nat.le_of_ble_eq_true rfl) (List.forall_mem_cons.mpr ⟨rfl, List.forall_mem_cons.mpr ⟨rfl, List.forall_mem_cons.mpr ⟨rfl, List.forall_mem_cons.mpr ⟨rfl, List.forall_mem_cons.mpr ⟨rfl, List.forall_mem_cons.mpr ⟨rfl, List.forall_mem_cons.mpr ⟨rfl, fun _ h => nomatch h⟩⟩⟩⟩⟩⟩⟩) ?_
  show xv_W mL_does 10 16 128 _ 16 128 (sx n c) I (rx c) J 0 [some (.ref 0), some (.int (nI 3)), some (.int x1), some (.int (nI (w + 10 * h))), some (.int (nI 0)), some (.int x4), some (.int x5), none] []
  refine xv_il1 fL_does_0 ?_
  refine xv_if_ne fL_does_1 (fun h_1 => ?_) (fun h_1 => ?_)
  · refine xv_il1 fL_does_24 ?_
    refine xv_k fL_does_25 ?_
    refine xv_ic_ne fL_does_26 (fun h_26 => ?_) (fun h_26 => ?_)
    · refine xv_il1 fL_does_38 ?_
      refine xv_k fL_does_39 ?_
      refine xv_ic_ne fL_does_40 (fun h_40 => ?_) (fun h_40 => ?_)
      · refine xv_il1 fL_does_52 ?_
        refine xv_k fL_does_53 ?_
        refine xv_ic_ne fL_does_54 (fun h_54 => ?_) (fun h_54 => ?_)
        · exact absurd h_54 (by decide)
        · refine xv_al0 fL_does_57 ?_
          refine xv_il2 fL_does_58 ?_
          refine xv_il3 fL_does_59 ?_
          refine xv_k fL_does_60 ?_
          refine xv_irem fL_does_62 (by decide) ?_
          refine xv_eqi (y := nI w) (by rw [nI_rem (by omega) (by decide)]; congr 1; omega) ?_
          refine xv_il3 fL_does_63 ?_
          refine xv_k fL_does_64 ?_
          refine xv_idiv fL_does_66 (by decide) ?_
          refine xv_eqi (y := nI h) (by rw [nI_div (by omega) (by decide)]; congr 1; omega) ?_
          refine xv_il4 fL_does_67 ?_
          refine xv_k fL_does_69 ?_
          refine xv_ic_ne fL_does_70 (fun h_70 => ?_) (fun h_70 => ?_)
          · refine xv_k fL_does_77 ?_
            refine xv_il5 fL_does_78 ?_
            refine xv_il6 fL_does_80 ?_
            refine xv_callVH (As := [.int x1, .int (nI w), .int (nI h), .int (nI 0), .int x4, .int x5]) (S := []) (kc' := 0) (ks' := 0) hM fL_does_82 YX10_advert VX10_advert lL_23 rfl rfl (sx_0 _ _) rfl rfl (Nat.le_of_ble_eq_true rfl) (by decide) (by decide) (by decide) ?_ ?_
            · intro r s i rf j h _
              obtain ⟨h1, -⟩ := h
              cases h1
            · intro E s i rf j h
              obtain ⟨h1, rfl, rfl, rfl, rfl⟩ := h
              cases h1
              exact ⟨_, hn_82_A, xv_eq_i⟩
          · exact absurd h_70 (by decide)
      · exact absurd h_40 (by decide)
    · exact absurd h_26 (by decide)
  · exact absurd h_1 (by decide)
theorem w_advert_0_S (n : Nat) (c c' : Nat × Nat) (J : xv_J) {I I' : xv_I} {x1 x4 x5 : Int32} {w h : Nat} (hw : w < 10) (hh9 : h < 100) (hM : xv_Met mX10_advert 8 16 128 (sx n c) I (rx c) J [.ref 0, .int x1, .int (nI w), .int (nI h), .int (nI 0), .int x4, .int x5] (xv_eq (.inr "java/lang/IllegalStateException") (sx n c') I' (rx c') J)) : xv_Met mL_does 10 16 128 (sx n c) I (rx c) J [.ref 0, .int (nI 3), .int x1, .int (nI (w + 10 * h)), .int (nI 0), .int x4, .int x5] (xv_eq (.inl (some (.int (-1000)))) (sx n c') I' (rx c') J) := by
  refine xv_Met.of (by decide +kernel) (Nat.le_of_ble_eq_true rfl) (List.forall_mem_cons.mpr ⟨rfl, List.forall_mem_cons.mpr ⟨rfl, List.forall_mem_cons.mpr ⟨rfl, List.forall_mem_cons.mpr ⟨rfl, List.forall_mem_cons.mpr ⟨rfl, List.forall_mem_cons.mpr ⟨rfl, List.forall_mem_cons.mpr ⟨rfl, fun _ h => nomatch h⟩⟩⟩⟩⟩⟩⟩) ?_
  show xv_W mL_does 10 16 128 _ 16 128 (sx n c) I (rx c) J 0 [some (.ref 0), some (.int (nI 3)), some (.int x1), some (.int (nI (w + 10 * h))), some (.int (nI 0)), some (.int x4), some (.int x5), none] []
  refine xv_il1 fL_does_0 ?_
  refine xv_if_ne fL_does_1 (fun h_1 => ?_) (fun h_1 => ?_)
  · refine xv_il1 fL_does_24 ?_
    refine xv_k fL_does_25 ?_
    refine xv_ic_ne fL_does_26 (fun h_26 => ?_) (fun h_26 => ?_)
    · refine xv_il1 fL_does_38 ?_
      refine xv_k fL_does_39 ?_
      refine xv_ic_ne fL_does_40 (fun h_40 => ?_) (fun h_40 => ?_)
      · refine xv_il1 fL_does_52 ?_
        refine xv_k fL_does_53 ?_
        refine xv_ic_ne fL_does_54 (fun h_54 => ?_) (fun h_54 => ?_)
        · exact absurd h_54 (by decide)
        · refine xv_al0 fL_does_57 ?_
          refine xv_il2 fL_does_58 ?_
          refine xv_il3 fL_does_59 ?_
          refine xv_k fL_does_60 ?_
          refine xv_irem fL_does_62 (by decide) ?_
          refine xv_eqi (y := nI w) (by rw [nI_rem (by omega) (by decide)]; congr 1; omega) ?_
          refine xv_il3 fL_does_63 ?_
          refine xv_k fL_does_64 ?_
          refine xv_idiv fL_does_66 (by decide) ?_
          refine xv_eqi (y := nI h) (by rw [nI_div (by omega) (by decide)]; congr 1; omega) ?_
          refine xv_il4 fL_does_67 ?_
          refine xv_k fL_does_69 ?_
          refine xv_ic_ne fL_does_70 (fun h_70 => ?_) (fun h_70 => ?_)
          · refine xv_k fL_does_77 ?_
            refine xv_il5 fL_does_78 ?_
            refine xv_il6 fL_does_80 ?_
            refine xv_callVH (As := [.int x1, .int (nI w), .int (nI h), .int (nI 0), .int x4, .int x5]) (S := []) (kc' := 0) (ks' := 0) hM fL_does_82 YX10_advert VX10_advert lL_23 rfl rfl (sx_0 _ _) rfl rfl (Nat.le_of_ble_eq_true rfl) (by decide) (by decide) (by decide) ?_ ?_
            · intro r s i rf j h _
              obtain ⟨h1, -⟩ := h
              cases h1
            · intro E s i rf j h
              obtain ⟨h1, rfl, rfl, rfl, rfl⟩ := h
              cases h1
              exact ⟨_, hn_82_S, xv_eq_i⟩
          · exact absurd h_70 (by decide)
      · exact absurd h_40 (by decide)
    · exact absurd h_26 (by decide)
  · exact absurd h_1 (by decide)
theorem w_advert_1_ok (n : Nat) (c c' : Nat × Nat) (J : xv_J) {I I' : xv_I} {x1 x4 x5 : Int32} {w h : Nat} (hw : w < 10) (hh9 : h < 100) {v : Int32} (hM : xv_Met mX10_advert 8 16 128 (sx n c) I (rx c) J [.ref 0, .int x1, .int (nI w), .int (nI h), .int (nI 1), .int x4, .int x5] (xv_eq (.inl (some (.int (v)))) (sx n c') I' (rx c') J)) : xv_Met mL_does 10 16 128 (sx n c) I (rx c) J [.ref 0, .int (nI 3), .int x1, .int (nI (w + 10 * h)), .int (nI 1), .int x4, .int x5] (xv_eq (.inl (some (.int (v)))) (sx n c') I' (rx c') J) := by
  refine xv_Met.of (by decide +kernel) (Nat.le_of_ble_eq_true rfl) (List.forall_mem_cons.mpr ⟨rfl, List.forall_mem_cons.mpr ⟨rfl, List.forall_mem_cons.mpr ⟨rfl, List.forall_mem_cons.mpr ⟨rfl, List.forall_mem_cons.mpr ⟨rfl, List.forall_mem_cons.mpr ⟨rfl, List.forall_mem_cons.mpr ⟨rfl, fun _ h => nomatch h⟩⟩⟩⟩⟩⟩⟩) ?_
  show xv_W mL_does 10 16 128 _ 16 128 (sx n c) I (rx c) J 0 [some (.ref 0), some (.int (nI 3)), some (.int x1), some (.int (nI (w + 10 * h))), some (.int (nI 1)), some (.int x4), some (.int x5), none] []
  refine xv_il1 fL_does_0 ?_
  refine xv_if_ne fL_does_1 (fun h_1 => ?_) (fun h_1 => ?_)
  · refine xv_il1 fL_does_24 ?_
    refine xv_k fL_does_25 ?_
    refine xv_ic_ne fL_does_26 (fun h_26 => ?_) (fun h_26 => ?_)
    · refine xv_il1 fL_does_38 ?_
      refine xv_k fL_does_39 ?_
      refine xv_ic_ne fL_does_40 (fun h_40 => ?_) (fun h_40 => ?_)
      · refine xv_il1 fL_does_52 ?_
        refine xv_k fL_does_53 ?_
        refine xv_ic_ne fL_does_54 (fun h_54 => ?_) (fun h_54 => ?_)
        · exact absurd h_54 (by decide)
        · refine xv_al0 fL_does_57 ?_
          refine xv_il2 fL_does_58 ?_
          refine xv_il3 fL_does_59 ?_
          refine xv_k fL_does_60 ?_
          refine xv_irem fL_does_62 (by decide) ?_
          refine xv_eqi (y := nI w) (by rw [nI_rem (by omega) (by decide)]; congr 1; omega) ?_
          refine xv_il3 fL_does_63 ?_
          refine xv_k fL_does_64 ?_
          refine xv_idiv fL_does_66 (by decide) ?_
          refine xv_eqi (y := nI h) (by rw [nI_div (by omega) (by decide)]; congr 1; omega) ?_
          refine xv_il4 fL_does_67 ?_
          refine xv_k fL_does_69 ?_
          refine xv_ic_ne fL_does_70 (fun h_70 => ?_) (fun h_70 => ?_)
          · exact absurd h_70 (by decide)
          · refine xv_k fL_does_73 ?_
            refine xv_goto fL_does_74 ?_
            refine xv_il5 fL_does_78 ?_
            refine xv_il6 fL_does_80 ?_
            refine xv_callVH (As := [.int x1, .int (nI w), .int (nI h), .int (nI 1), .int x4, .int x5]) (S := []) (kc' := 0) (ks' := 0) hM fL_does_82 YX10_advert VX10_advert lL_23 rfl rfl (sx_0 _ _) rfl rfl (Nat.le_of_ble_eq_true rfl) (by decide) (by decide) (by decide) ?_ ?_
            · intro r s i rf j h _
              obtain ⟨h1, rfl, rfl, rfl, rfl⟩ := h
              cases h1
              refine xv_goto fL_does_85 ?_
              exact xv_iret fL_does_362 rfl rfl xv_eq_i
            · intro E s i rf j h
              obtain ⟨h1, -⟩ := h
              cases h1
      · exact absurd h_40 (by decide)
    · exact absurd h_26 (by decide)
  · exact absurd h_1 (by decide)
theorem w_advert_1_I (n : Nat) (c c' : Nat × Nat) (J : xv_J) {I I' : xv_I} {x1 x4 x5 : Int32} {w h : Nat} (hw : w < 10) (hh9 : h < 100) (hM : xv_Met mX10_advert 8 16 128 (sx n c) I (rx c) J [.ref 0, .int x1, .int (nI w), .int (nI h), .int (nI 1), .int x4, .int x5] (xv_eq (.inr "java/lang/IndexOutOfBoundsException") (sx n c') I' (rx c') J)) : xv_Met mL_does 10 16 128 (sx n c) I (rx c) J [.ref 0, .int (nI 3), .int x1, .int (nI (w + 10 * h)), .int (nI 1), .int x4, .int x5] (xv_eq (.inl (some (.int (-3000)))) (sx n c') I' (rx c') J) := by
  refine xv_Met.of (by decide +kernel) (Nat.le_of_ble_eq_true rfl) (List.forall_mem_cons.mpr ⟨rfl, List.forall_mem_cons.mpr ⟨rfl, List.forall_mem_cons.mpr ⟨rfl, List.forall_mem_cons.mpr ⟨rfl, List.forall_mem_cons.mpr ⟨rfl, List.forall_mem_cons.mpr ⟨rfl, List.forall_mem_cons.mpr ⟨rfl, fun _ h => nomatch h⟩⟩⟩⟩⟩⟩⟩) ?_
  show xv_W mL_does 10 16 128 _ 16 128 (sx n c) I (rx c) J 0 [some (.ref 0), some (.int (nI 3)), some (.int x1), some (.int (nI (w + 10 * h))), some (.int (nI 1)), some (.int x4), some (.int x5), none] []
  refine xv_il1 fL_does_0 ?_
  refine xv_if_ne fL_does_1 (fun h_1 => ?_) (fun h_1 => ?_)
  · refine xv_il1 fL_does_24 ?_
    refine xv_k fL_does_25 ?_
    refine xv_ic_ne fL_does_26 (fun h_26 => ?_) (fun h_26 => ?_)
    · refine xv_il1 fL_does_38 ?_
      refine xv_k fL_does_39 ?_
      refine xv_ic_ne fL_does_40 (fun h_40 => ?_) (fun h_40 => ?_)
      · refine xv_il1 fL_does_52 ?_
        refine xv_k fL_does_53 ?_
        refine xv_ic_ne fL_does_54 (fun h_54 => ?_) (fun h_54 => ?_)
        · exact absurd h_54 (by decide)
        · refine xv_al0 fL_does_57 ?_
          refine xv_il2 fL_does_58 ?_
          refine xv_il3 fL_does_59 ?_
          refine xv_k fL_does_60 ?_
          refine xv_irem fL_does_62 (by decide) ?_
          refine xv_eqi (y := nI w) (by rw [nI_rem (by omega) (by decide)]; congr 1; omega) ?_
          refine xv_il3 fL_does_63 ?_
          refine xv_k fL_does_64 ?_
          refine xv_idiv fL_does_66 (by decide) ?_
          refine xv_eqi (y := nI h) (by rw [nI_div (by omega) (by decide)]; congr 1; omega) ?_
          refine xv_il4 fL_does_67 ?_
          refine xv_k fL_does_69 ?_
          refine xv_ic_ne fL_does_70 (fun h_70 => ?_) (fun h_70 => ?_)
          · exact absurd h_70 (by decide)
          · refine xv_k fL_does_73 ?_
            refine xv_goto fL_does_74 ?_
            refine xv_il5 fL_does_78 ?_
            refine xv_il6 fL_does_80 ?_
            refine xv_callVH (As := [.int x1, .int (nI w), .int (nI h), .int (nI 1), .int x4, .int x5]) (S := []) (kc' := 0) (ks' := 0) hM fL_does_82 YX10_advert VX10_advert lL_23 rfl rfl (sx_0 _ _) rfl rfl (Nat.le_of_ble_eq_true rfl) (by decide) (by decide) (by decide) ?_ ?_
            · intro r s i rf j h _
              obtain ⟨h1, -⟩ := h
              cases h1
            · intro E s i rf j h
              obtain ⟨h1, rfl, rfl, rfl, rfl⟩ := h
              cases h1
              exact ⟨_, hn_82_I, xv_eq_i⟩
      · exact absurd h_40 (by decide)
    · exact absurd h_26 (by decide)
  · exact absurd h_1 (by decide)
theorem w_advert_1_A (n : Nat) (c c' : Nat × Nat) (J : xv_J) {I I' : xv_I} {x1 x4 x5 : Int32} {w h : Nat} (hw : w < 10) (hh9 : h < 100) (hM : xv_Met mX10_advert 8 16 128 (sx n c) I (rx c) J [.ref 0, .int x1, .int (nI w), .int (nI h), .int (nI 1), .int x4, .int x5] (xv_eq (.inr "java/lang/IllegalArgumentException") (sx n c') I' (rx c') J)) : xv_Met mL_does 10 16 128 (sx n c) I (rx c) J [.ref 0, .int (nI 3), .int x1, .int (nI (w + 10 * h)), .int (nI 1), .int x4, .int x5] (xv_eq (.inl (some (.int (-2000)))) (sx n c') I' (rx c') J) := by
  refine xv_Met.of (by decide +kernel) (Nat.le_of_ble_eq_true rfl) (List.forall_mem_cons.mpr ⟨rfl, List.forall_mem_cons.mpr ⟨rfl, List.forall_mem_cons.mpr ⟨rfl, List.forall_mem_cons.mpr ⟨rfl, List.forall_mem_cons.mpr ⟨rfl, List.forall_mem_cons.mpr ⟨rfl, List.forall_mem_cons.mpr ⟨rfl, fun _ h => nomatch h⟩⟩⟩⟩⟩⟩⟩) ?_
  show xv_W mL_does 10 16 128 _ 16 128 (sx n c) I (rx c) J 0 [some (.ref 0), some (.int (nI 3)), some (.int x1), some (.int (nI (w + 10 * h))), some (.int (nI 1)), some (.int x4), some (.int x5), none] []
  refine xv_il1 fL_does_0 ?_
  refine xv_if_ne fL_does_1 (fun h_1 => ?_) (fun h_1 => ?_)
  · refine xv_il1 fL_does_24 ?_
    refine xv_k fL_does_25 ?_
    refine xv_ic_ne fL_does_26 (fun h_26 => ?_) (fun h_26 => ?_)
    · refine xv_il1 fL_does_38 ?_
      refine xv_k fL_does_39 ?_
      refine xv_ic_ne fL_does_40 (fun h_40 => ?_) (fun h_40 => ?_)
      · refine xv_il1 fL_does_52 ?_
        refine xv_k fL_does_53 ?_
        refine xv_ic_ne fL_does_54 (fun h_54 => ?_) (fun h_54 => ?_)
        · exact absurd h_54 (by decide)
        · refine xv_al0 fL_does_57 ?_
          refine xv_il2 fL_does_58 ?_
          refine xv_il3 fL_does_59 ?_
          refine xv_k fL_does_60 ?_
          refine xv_irem fL_does_62 (by decide) ?_
          refine xv_eqi (y := nI w) (by rw [nI_rem (by omega) (by decide)]; congr 1; omega) ?_
          refine xv_il3 fL_does_63 ?_
          refine xv_k fL_does_64 ?_
          refine xv_idiv fL_does_66 (by decide) ?_
          refine xv_eqi (y := nI h) (by rw [nI_div (by omega) (by decide)]; congr 1; omega) ?_
          refine xv_il4 fL_does_67 ?_
          refine xv_k fL_does_69 ?_
          refine xv_ic_ne fL_does_70 (fun h_70 => ?_) (fun h_70 => ?_)
          · exact absurd h_70 (by decide)
          · refine xv_k fL_does_73 ?_
            refine xv_goto fL_does_74 ?_
            refine xv_il5 fL_does_78 ?_
            refine xv_il6 fL_does_80 ?_
            refine xv_callVH (As := [.int x1, .int (nI w), .int (nI h), .int (nI 1), .int x4, .int x5]) (S := []) (kc' := 0) (ks' := 0) hM fL_does_82 YX10_advert VX10_advert lL_23 rfl rfl (sx_0 _ _) rfl rfl (Nat.le_of_ble_eq_true rfl) (by decide) (by decide) (by decide) ?_ ?_
            · intro r s i rf j h _
              obtain ⟨h1, -⟩ := h
              cases h1
            · intro E s i rf j h
              obtain ⟨h1, rfl, rfl, rfl, rfl⟩ := h
              cases h1
              exact ⟨_, hn_82_A, xv_eq_i⟩
      · exact absurd h_40 (by decide)
    · exact absurd h_26 (by decide)
  · exact absurd h_1 (by decide)
theorem w_advert_1_S (n : Nat) (c c' : Nat × Nat) (J : xv_J) {I I' : xv_I} {x1 x4 x5 : Int32} {w h : Nat} (hw : w < 10) (hh9 : h < 100) (hM : xv_Met mX10_advert 8 16 128 (sx n c) I (rx c) J [.ref 0, .int x1, .int (nI w), .int (nI h), .int (nI 1), .int x4, .int x5] (xv_eq (.inr "java/lang/IllegalStateException") (sx n c') I' (rx c') J)) : xv_Met mL_does 10 16 128 (sx n c) I (rx c) J [.ref 0, .int (nI 3), .int x1, .int (nI (w + 10 * h)), .int (nI 1), .int x4, .int x5] (xv_eq (.inl (some (.int (-1000)))) (sx n c') I' (rx c') J) := by
  refine xv_Met.of (by decide +kernel) (Nat.le_of_ble_eq_true rfl) (List.forall_mem_cons.mpr ⟨rfl, List.forall_mem_cons.mpr ⟨rfl, List.forall_mem_cons.mpr ⟨rfl, List.forall_mem_cons.mpr ⟨rfl, List.forall_mem_cons.mpr ⟨rfl, List.forall_mem_cons.mpr ⟨rfl, List.forall_mem_cons.mpr ⟨rfl, fun _ h => nomatch h⟩⟩⟩⟩⟩⟩⟩) ?_
  show xv_W mL_does 10 16 128 _ 16 128 (sx n c) I (rx c) J 0 [some (.ref 0), some (.int (nI 3)), some (.int x1), some (.int (nI (w + 10 * h))), some (.int (nI 1)), some (.int x4), some (.int x5), none] []
  refine xv_il1 fL_does_0 ?_
  refine xv_if_ne fL_does_1 (fun h_1 => ?_) (fun h_1 => ?_)
  · refine xv_il1 fL_does_24 ?_
    refine xv_k fL_does_25 ?_
    refine xv_ic_ne fL_does_26 (fun h_26 => ?_) (fun h_26 => ?_)
    · refine xv_il1 fL_does_38 ?_
      refine xv_k fL_does_39 ?_
      refine xv_ic_ne fL_does_40 (fun h_40 => ?_) (fun h_40 => ?_)
      · refine xv_il1 fL_does_52 ?_
        refine xv_k fL_does_53 ?_
        refine xv_ic_ne fL_does_54 (fun h_54 => ?_) (fun h_54 => ?_)
        · exact absurd h_54 (by decide)
        · refine xv_al0 fL_does_57 ?_
          refine xv_il2 fL_does_58 ?_
          refine xv_il3 fL_does_59 ?_
          refine xv_k fL_does_60 ?_
          refine xv_irem fL_does_62 (by decide) ?_
          refine xv_eqi (y := nI w) (by rw [nI_rem (by omega) (by decide)]; congr 1; omega) ?_
          refine xv_il3 fL_does_63 ?_
          refine xv_k fL_does_64 ?_
          refine xv_idiv fL_does_66 (by decide) ?_
          refine xv_eqi (y := nI h) (by rw [nI_div (by omega) (by decide)]; congr 1; omega) ?_
          refine xv_il4 fL_does_67 ?_
          refine xv_k fL_does_69 ?_
          refine xv_ic_ne fL_does_70 (fun h_70 => ?_) (fun h_70 => ?_)
          · exact absurd h_70 (by decide)
          · refine xv_k fL_does_73 ?_
            refine xv_goto fL_does_74 ?_
            refine xv_il5 fL_does_78 ?_
            refine xv_il6 fL_does_80 ?_
            refine xv_callVH (As := [.int x1, .int (nI w), .int (nI h), .int (nI 1), .int x4, .int x5]) (S := []) (kc' := 0) (ks' := 0) hM fL_does_82 YX10_advert VX10_advert lL_23 rfl rfl (sx_0 _ _) rfl rfl (Nat.le_of_ble_eq_true rfl) (by decide) (by decide) (by decide) ?_ ?_
            · intro r s i rf j h _
              obtain ⟨h1, -⟩ := h
              cases h1
            · intro E s i rf j h
              obtain ⟨h1, rfl, rfl, rfl, rfl⟩ := h
              cases h1
              exact ⟨_, hn_82_S, xv_eq_i⟩
      · exact absurd h_40 (by decide)
    · exact absurd h_26 (by decide)
  · exact absurd h_1 (by decide)
theorem w_place_ok (n : Nat) (c c' : Nat × Nat) (J : xv_J) {I I' : xv_I} {x1 x2 x3 x4 x5 : Int32} {v : Int32} (hM : xv_Met mX10_place 8 16 128 (sx n c) I (rx c) J [.ref 0, .int x1] (xv_eq (.inl (some (.int (v)))) (sx n c') I' (rx c') J)) : xv_Met mL_does 10 16 128 (sx n c) I (rx c) J [.ref 0, .int (nI 4), .int x1, .int x2, .int x3, .int x4, .int x5] (xv_eq (.inl (some (.int (v)))) (sx n c') I' (rx c') J) := by
  refine xv_Met.of (by decide +kernel) (Nat.le_of_ble_eq_true rfl) (List.forall_mem_cons.mpr ⟨rfl, List.forall_mem_cons.mpr ⟨rfl, List.forall_mem_cons.mpr ⟨rfl, List.forall_mem_cons.mpr ⟨rfl, List.forall_mem_cons.mpr ⟨rfl, List.forall_mem_cons.mpr ⟨rfl, List.forall_mem_cons.mpr ⟨rfl, fun _ h => nomatch h⟩⟩⟩⟩⟩⟩⟩) ?_
  show xv_W mL_does 10 16 128 _ 16 128 (sx n c) I (rx c) J 0 [some (.ref 0), some (.int (nI 4)), some (.int x1), some (.int x2), some (.int x3), some (.int x4), some (.int x5), none] []
  refine xv_il1 fL_does_0 ?_
  refine xv_if_ne fL_does_1 (fun h_1 => ?_) (fun h_1 => ?_)
  · refine xv_il1 fL_does_24 ?_
    refine xv_k fL_does_25 ?_
    refine xv_ic_ne fL_does_26 (fun h_26 => ?_) (fun h_26 => ?_)
    · refine xv_il1 fL_does_38 ?_
      refine xv_k fL_does_39 ?_
      refine xv_ic_ne fL_does_40 (fun h_40 => ?_) (fun h_40 => ?_)
      · refine xv_il1 fL_does_52 ?_
        refine xv_k fL_does_53 ?_
        refine xv_ic_ne fL_does_54 (fun h_54 => ?_) (fun h_54 => ?_)
        · refine xv_il1 fL_does_88 ?_
          refine xv_k fL_does_89 ?_
          refine xv_ic_ne fL_does_90 (fun h_90 => ?_) (fun h_90 => ?_)
          · exact absurd h_90 (by decide)
          · refine xv_al0 fL_does_93 ?_
            refine xv_il2 fL_does_94 ?_
            refine xv_callVH (As := [.int x1]) (S := []) (kc' := 0) (ks' := 0) hM fL_does_95 YX10_place VX10_place lL_27 rfl rfl (sx_0 _ _) rfl rfl (Nat.le_of_ble_eq_true rfl) (by decide) (by decide) (by decide) ?_ ?_
            · intro r s i rf j h _
              obtain ⟨h1, rfl, rfl, rfl, rfl⟩ := h
              cases h1
              refine xv_goto fL_does_98 ?_
              exact xv_iret fL_does_362 rfl rfl xv_eq_i
            · intro E s i rf j h
              obtain ⟨h1, -⟩ := h
              cases h1
        · exact absurd h_54 (by decide)
      · exact absurd h_40 (by decide)
    · exact absurd h_26 (by decide)
  · exact absurd h_1 (by decide)
theorem w_place_I (n : Nat) (c c' : Nat × Nat) (J : xv_J) {I I' : xv_I} {x1 x2 x3 x4 x5 : Int32} (hM : xv_Met mX10_place 8 16 128 (sx n c) I (rx c) J [.ref 0, .int x1] (xv_eq (.inr "java/lang/IndexOutOfBoundsException") (sx n c') I' (rx c') J)) : xv_Met mL_does 10 16 128 (sx n c) I (rx c) J [.ref 0, .int (nI 4), .int x1, .int x2, .int x3, .int x4, .int x5] (xv_eq (.inl (some (.int (-3000)))) (sx n c') I' (rx c') J) := by
  refine xv_Met.of (by decide +kernel) (Nat.le_of_ble_eq_true rfl) (List.forall_mem_cons.mpr ⟨rfl, List.forall_mem_cons.mpr ⟨rfl, List.forall_mem_cons.mpr ⟨rfl, List.forall_mem_cons.mpr ⟨rfl, List.forall_mem_cons.mpr ⟨rfl, List.forall_mem_cons.mpr ⟨rfl, List.forall_mem_cons.mpr ⟨rfl, fun _ h => nomatch h⟩⟩⟩⟩⟩⟩⟩) ?_
  show xv_W mL_does 10 16 128 _ 16 128 (sx n c) I (rx c) J 0 [some (.ref 0), some (.int (nI 4)), some (.int x1), some (.int x2), some (.int x3), some (.int x4), some (.int x5), none] []
  refine xv_il1 fL_does_0 ?_
  refine xv_if_ne fL_does_1 (fun h_1 => ?_) (fun h_1 => ?_)
  · refine xv_il1 fL_does_24 ?_
    refine xv_k fL_does_25 ?_
    refine xv_ic_ne fL_does_26 (fun h_26 => ?_) (fun h_26 => ?_)
    · refine xv_il1 fL_does_38 ?_
      refine xv_k fL_does_39 ?_
      refine xv_ic_ne fL_does_40 (fun h_40 => ?_) (fun h_40 => ?_)
      · refine xv_il1 fL_does_52 ?_
        refine xv_k fL_does_53 ?_
        refine xv_ic_ne fL_does_54 (fun h_54 => ?_) (fun h_54 => ?_)
        · refine xv_il1 fL_does_88 ?_
          refine xv_k fL_does_89 ?_
          refine xv_ic_ne fL_does_90 (fun h_90 => ?_) (fun h_90 => ?_)
          · exact absurd h_90 (by decide)
          · refine xv_al0 fL_does_93 ?_
            refine xv_il2 fL_does_94 ?_
            refine xv_callVH (As := [.int x1]) (S := []) (kc' := 0) (ks' := 0) hM fL_does_95 YX10_place VX10_place lL_27 rfl rfl (sx_0 _ _) rfl rfl (Nat.le_of_ble_eq_true rfl) (by decide) (by decide) (by decide) ?_ ?_
            · intro r s i rf j h _
              obtain ⟨h1, -⟩ := h
              cases h1
            · intro E s i rf j h
              obtain ⟨h1, rfl, rfl, rfl, rfl⟩ := h
              cases h1
              exact ⟨_, hn_95_I, xv_eq_i⟩
        · exact absurd h_54 (by decide)
      · exact absurd h_40 (by decide)
    · exact absurd h_26 (by decide)
  · exact absurd h_1 (by decide)
theorem w_place_A (n : Nat) (c c' : Nat × Nat) (J : xv_J) {I I' : xv_I} {x1 x2 x3 x4 x5 : Int32} (hM : xv_Met mX10_place 8 16 128 (sx n c) I (rx c) J [.ref 0, .int x1] (xv_eq (.inr "java/lang/IllegalArgumentException") (sx n c') I' (rx c') J)) : xv_Met mL_does 10 16 128 (sx n c) I (rx c) J [.ref 0, .int (nI 4), .int x1, .int x2, .int x3, .int x4, .int x5] (xv_eq (.inl (some (.int (-2000)))) (sx n c') I' (rx c') J) := by
  refine xv_Met.of (by decide +kernel) (Nat.le_of_ble_eq_true rfl) (List.forall_mem_cons.mpr ⟨rfl, List.forall_mem_cons.mpr ⟨rfl, List.forall_mem_cons.mpr ⟨rfl, List.forall_mem_cons.mpr ⟨rfl, List.forall_mem_cons.mpr ⟨rfl, List.forall_mem_cons.mpr ⟨rfl, List.forall_mem_cons.mpr ⟨rfl, fun _ h => nomatch h⟩⟩⟩⟩⟩⟩⟩) ?_
  show xv_W mL_does 10 16 128 _ 16 128 (sx n c) I (rx c) J 0 [some (.ref 0), some (.int (nI 4)), some (.int x1), some (.int x2), some (.int x3), some (.int x4), some (.int x5), none] []
  refine xv_il1 fL_does_0 ?_
  refine xv_if_ne fL_does_1 (fun h_1 => ?_) (fun h_1 => ?_)
  · refine xv_il1 fL_does_24 ?_
    refine xv_k fL_does_25 ?_
    refine xv_ic_ne fL_does_26 (fun h_26 => ?_) (fun h_26 => ?_)
    · refine xv_il1 fL_does_38 ?_
      refine xv_k fL_does_39 ?_
      refine xv_ic_ne fL_does_40 (fun h_40 => ?_) (fun h_40 => ?_)
      · refine xv_il1 fL_does_52 ?_
        refine xv_k fL_does_53 ?_
        refine xv_ic_ne fL_does_54 (fun h_54 => ?_) (fun h_54 => ?_)
        · refine xv_il1 fL_does_88 ?_
          refine xv_k fL_does_89 ?_
          refine xv_ic_ne fL_does_90 (fun h_90 => ?_) (fun h_90 => ?_)
          · exact absurd h_90 (by decide)
          · refine xv_al0 fL_does_93 ?_
            refine xv_il2 fL_does_94 ?_
            refine xv_callVH (As := [.int x1]) (S := []) (kc' := 0) (ks' := 0) hM fL_does_95 YX10_place VX10_place lL_27 rfl rfl (sx_0 _ _) rfl rfl (Nat.le_of_ble_eq_true rfl) (by decide) (by decide) (by decide) ?_ ?_
            · intro r s i rf j h _
              obtain ⟨h1, -⟩ := h
              cases h1
            · intro E s i rf j h
              obtain ⟨h1, rfl, rfl, rfl, rfl⟩ := h
              cases h1
              exact ⟨_, hn_95_A, xv_eq_i⟩
        · exact absurd h_54 (by decide)
      · exact absurd h_40 (by decide)
    · exact absurd h_26 (by decide)
  · exact absurd h_1 (by decide)
theorem w_place_S (n : Nat) (c c' : Nat × Nat) (J : xv_J) {I I' : xv_I} {x1 x2 x3 x4 x5 : Int32} (hM : xv_Met mX10_place 8 16 128 (sx n c) I (rx c) J [.ref 0, .int x1] (xv_eq (.inr "java/lang/IllegalStateException") (sx n c') I' (rx c') J)) : xv_Met mL_does 10 16 128 (sx n c) I (rx c) J [.ref 0, .int (nI 4), .int x1, .int x2, .int x3, .int x4, .int x5] (xv_eq (.inl (some (.int (-1000)))) (sx n c') I' (rx c') J) := by
  refine xv_Met.of (by decide +kernel) (Nat.le_of_ble_eq_true rfl) (List.forall_mem_cons.mpr ⟨rfl, List.forall_mem_cons.mpr ⟨rfl, List.forall_mem_cons.mpr ⟨rfl, List.forall_mem_cons.mpr ⟨rfl, List.forall_mem_cons.mpr ⟨rfl, List.forall_mem_cons.mpr ⟨rfl, List.forall_mem_cons.mpr ⟨rfl, fun _ h => nomatch h⟩⟩⟩⟩⟩⟩⟩) ?_
  show xv_W mL_does 10 16 128 _ 16 128 (sx n c) I (rx c) J 0 [some (.ref 0), some (.int (nI 4)), some (.int x1), some (.int x2), some (.int x3), some (.int x4), some (.int x5), none] []
  refine xv_il1 fL_does_0 ?_
  refine xv_if_ne fL_does_1 (fun h_1 => ?_) (fun h_1 => ?_)
  · refine xv_il1 fL_does_24 ?_
    refine xv_k fL_does_25 ?_
    refine xv_ic_ne fL_does_26 (fun h_26 => ?_) (fun h_26 => ?_)
    · refine xv_il1 fL_does_38 ?_
      refine xv_k fL_does_39 ?_
      refine xv_ic_ne fL_does_40 (fun h_40 => ?_) (fun h_40 => ?_)
      · refine xv_il1 fL_does_52 ?_
        refine xv_k fL_does_53 ?_
        refine xv_ic_ne fL_does_54 (fun h_54 => ?_) (fun h_54 => ?_)
        · refine xv_il1 fL_does_88 ?_
          refine xv_k fL_does_89 ?_
          refine xv_ic_ne fL_does_90 (fun h_90 => ?_) (fun h_90 => ?_)
          · exact absurd h_90 (by decide)
          · refine xv_al0 fL_does_93 ?_
            refine xv_il2 fL_does_94 ?_
            refine xv_callVH (As := [.int x1]) (S := []) (kc' := 0) (ks' := 0) hM fL_does_95 YX10_place VX10_place lL_27 rfl rfl (sx_0 _ _) rfl rfl (Nat.le_of_ble_eq_true rfl) (by decide) (by decide) (by decide) ?_ ?_
            · intro r s i rf j h _
              obtain ⟨h1, -⟩ := h
              cases h1
            · intro E s i rf j h
              obtain ⟨h1, rfl, rfl, rfl, rfl⟩ := h
              cases h1
              exact ⟨_, hn_95_S, xv_eq_i⟩
        · exact absurd h_54 (by decide)
      · exact absurd h_40 (by decide)
    · exact absurd h_26 (by decide)
  · exact absurd h_1 (by decide)
theorem w_place_g (n : Nat) (c c' : Nat × Nat) (J : xv_J) {I I' : xv_I} {x1 x2 x3 x4 x5 : Int32} {Q9 : xv_Q} (hM : xv_Met mX10_place 8 16 128 (sx n c) I (rx c) J [.ref 0, .int x1] Q9) (h1 : ∀ r s i rf j, Q9 (.inl r) s i rf j → ∃ v, r = some (.int v)) (h2 : ∀ E s i rf j, ¬ Q9 (.inr E) s i rf j) : xv_Met mL_does 10 16 128 (sx n c) I (rx c) J [.ref 0, .int (nI 4), .int x1, .int x2, .int x3, .int x4, .int x5] Q9 := by
  refine xv_Met.of (by decide +kernel) (Nat.le_of_ble_eq_true rfl) (List.forall_mem_cons.mpr ⟨rfl, List.forall_mem_cons.mpr ⟨rfl, List.forall_mem_cons.mpr ⟨rfl, List.forall_mem_cons.mpr ⟨rfl, List.forall_mem_cons.mpr ⟨rfl, List.forall_mem_cons.mpr ⟨rfl, List.forall_mem_cons.mpr ⟨rfl, fun _ h => nomatch h⟩⟩⟩⟩⟩⟩⟩) ?_
  show xv_W mL_does 10 16 128 _ 16 128 (sx n c) I (rx c) J 0 [some (.ref 0), some (.int (nI 4)), some (.int x1), some (.int x2), some (.int x3), some (.int x4), some (.int x5), none] []
  refine xv_il1 fL_does_0 ?_
  refine xv_if_ne fL_does_1 (fun h_1 => ?_) (fun h_1 => ?_)
  · refine xv_il1 fL_does_24 ?_
    refine xv_k fL_does_25 ?_
    refine xv_ic_ne fL_does_26 (fun h_26 => ?_) (fun h_26 => ?_)
    · refine xv_il1 fL_does_38 ?_
      refine xv_k fL_does_39 ?_
      refine xv_ic_ne fL_does_40 (fun h_40 => ?_) (fun h_40 => ?_)
      · refine xv_il1 fL_does_52 ?_
        refine xv_k fL_does_53 ?_
        refine xv_ic_ne fL_does_54 (fun h_54 => ?_) (fun h_54 => ?_)
        · refine xv_il1 fL_does_88 ?_
          refine xv_k fL_does_89 ?_
          refine xv_ic_ne fL_does_90 (fun h_90 => ?_) (fun h_90 => ?_)
          · exact absurd h_90 (by decide)
          · refine xv_al0 fL_does_93 ?_
            refine xv_il2 fL_does_94 ?_
            refine xv_callVH (As := [.int x1]) (S := []) (kc' := 0) (ks' := 0) hM fL_does_95 YX10_place VX10_place lL_27 rfl rfl (sx_0 _ _) rfl rfl (Nat.le_of_ble_eq_true rfl) (by decide) (by decide) (by decide) ?_ ?_
            · intro r s i rf j h _
              obtain ⟨v, rfl⟩ := h1 _ _ _ _ _ h
              refine xv_goto fL_does_98 ?_
              exact xv_iret fL_does_362 rfl rfl h
            · intro E s i rf j h
              exact absurd h (h2 _ _ _ _ _)
        · exact absurd h_54 (by decide)
      · exact absurd h_40 (by decide)
    · exact absurd h_26 (by decide)
  · exact absurd h_1 (by decide)
theorem w_takeOff_ok (n : Nat) (c c' : Nat × Nat) (J : xv_J) {I I' : xv_I} {x1 x2 x3 x4 x5 : Int32} {v : Int32} (hM : xv_Met mX10_takeOff 8 16 128 (sx n c) I (rx c) J [.ref 0, .int x1] (xv_eq (.inl (some (.int (v)))) (sx n c') I' (rx c') J)) : xv_Met mL_does 10 16 128 (sx n c) I (rx c) J [.ref 0, .int (nI 5), .int x1, .int x2, .int x3, .int x4, .int x5] (xv_eq (.inl (some (.int (v)))) (sx n c') I' (rx c') J) := by
  refine xv_Met.of (by decide +kernel) (Nat.le_of_ble_eq_true rfl) (List.forall_mem_cons.mpr ⟨rfl, List.forall_mem_cons.mpr ⟨rfl, List.forall_mem_cons.mpr ⟨rfl, List.forall_mem_cons.mpr ⟨rfl, List.forall_mem_cons.mpr ⟨rfl, List.forall_mem_cons.mpr ⟨rfl, List.forall_mem_cons.mpr ⟨rfl, fun _ h => nomatch h⟩⟩⟩⟩⟩⟩⟩) ?_
  show xv_W mL_does 10 16 128 _ 16 128 (sx n c) I (rx c) J 0 [some (.ref 0), some (.int (nI 5)), some (.int x1), some (.int x2), some (.int x3), some (.int x4), some (.int x5), none] []
  refine xv_il1 fL_does_0 ?_
  refine xv_if_ne fL_does_1 (fun h_1 => ?_) (fun h_1 => ?_)
  · refine xv_il1 fL_does_24 ?_
    refine xv_k fL_does_25 ?_
    refine xv_ic_ne fL_does_26 (fun h_26 => ?_) (fun h_26 => ?_)
    · refine xv_il1 fL_does_38 ?_
      refine xv_k fL_does_39 ?_
      refine xv_ic_ne fL_does_40 (fun h_40 => ?_) (fun h_40 => ?_)
      · refine xv_il1 fL_does_52 ?_
        refine xv_k fL_does_53 ?_
        refine xv_ic_ne fL_does_54 (fun h_54 => ?_) (fun h_54 => ?_)
        · refine xv_il1 fL_does_88 ?_
          refine xv_k fL_does_89 ?_
          refine xv_ic_ne fL_does_90 (fun h_90 => ?_) (fun h_90 => ?_)
          · refine xv_il1 fL_does_101 ?_
            refine xv_k fL_does_102 ?_
            refine xv_ic_ne fL_does_103 (fun h_103 => ?_) (fun h_103 => ?_)
            · exact absurd h_103 (by decide)
            · refine xv_al0 fL_does_106 ?_
              refine xv_il2 fL_does_107 ?_
              refine xv_callVH (As := [.int x1]) (S := []) (kc' := 0) (ks' := 0) hM fL_does_108 YX10_takeOff VX10_takeOff lL_31 rfl rfl (sx_0 _ _) rfl rfl (Nat.le_of_ble_eq_true rfl) (by decide) (by decide) (by decide) ?_ ?_
              · intro r s i rf j h _
                obtain ⟨h1, rfl, rfl, rfl, rfl⟩ := h
                cases h1
                refine xv_goto fL_does_111 ?_
                exact xv_iret fL_does_362 rfl rfl xv_eq_i
              · intro E s i rf j h
                obtain ⟨h1, -⟩ := h
                cases h1
          · exact absurd h_90 (by decide)
        · exact absurd h_54 (by decide)
      · exact absurd h_40 (by decide)
    · exact absurd h_26 (by decide)
  · exact absurd h_1 (by decide)
theorem w_takeOff_I (n : Nat) (c c' : Nat × Nat) (J : xv_J) {I I' : xv_I} {x1 x2 x3 x4 x5 : Int32} (hM : xv_Met mX10_takeOff 8 16 128 (sx n c) I (rx c) J [.ref 0, .int x1] (xv_eq (.inr "java/lang/IndexOutOfBoundsException") (sx n c') I' (rx c') J)) : xv_Met mL_does 10 16 128 (sx n c) I (rx c) J [.ref 0, .int (nI 5), .int x1, .int x2, .int x3, .int x4, .int x5] (xv_eq (.inl (some (.int (-3000)))) (sx n c') I' (rx c') J) := by
  refine xv_Met.of (by decide +kernel) (Nat.le_of_ble_eq_true rfl) (List.forall_mem_cons.mpr ⟨rfl, List.forall_mem_cons.mpr ⟨rfl, List.forall_mem_cons.mpr ⟨rfl, List.forall_mem_cons.mpr ⟨rfl, List.forall_mem_cons.mpr ⟨rfl, List.forall_mem_cons.mpr ⟨rfl, List.forall_mem_cons.mpr ⟨rfl, fun _ h => nomatch h⟩⟩⟩⟩⟩⟩⟩) ?_
  show xv_W mL_does 10 16 128 _ 16 128 (sx n c) I (rx c) J 0 [some (.ref 0), some (.int (nI 5)), some (.int x1), some (.int x2), some (.int x3), some (.int x4), some (.int x5), none] []
  refine xv_il1 fL_does_0 ?_
  refine xv_if_ne fL_does_1 (fun h_1 => ?_) (fun h_1 => ?_)
  · refine xv_il1 fL_does_24 ?_
    refine xv_k fL_does_25 ?_
    refine xv_ic_ne fL_does_26 (fun h_26 => ?_) (fun h_26 => ?_)
    · refine xv_il1 fL_does_38 ?_
      refine xv_k fL_does_39 ?_
      refine xv_ic_ne fL_does_40 (fun h_40 => ?_) (fun h_40 => ?_)
      · refine xv_il1 fL_does_52 ?_
        refine xv_k fL_does_53 ?_
        refine xv_ic_ne fL_does_54 (fun h_54 => ?_) (fun h_54 => ?_)
        · refine xv_il1 fL_does_88 ?_
          refine xv_k fL_does_89 ?_
          refine xv_ic_ne fL_does_90 (fun h_90 => ?_) (fun h_90 => ?_)
          · refine xv_il1 fL_does_101 ?_
            refine xv_k fL_does_102 ?_
            refine xv_ic_ne fL_does_103 (fun h_103 => ?_) (fun h_103 => ?_)
            · exact absurd h_103 (by decide)
            · refine xv_al0 fL_does_106 ?_
              refine xv_il2 fL_does_107 ?_
              refine xv_callVH (As := [.int x1]) (S := []) (kc' := 0) (ks' := 0) hM fL_does_108 YX10_takeOff VX10_takeOff lL_31 rfl rfl (sx_0 _ _) rfl rfl (Nat.le_of_ble_eq_true rfl) (by decide) (by decide) (by decide) ?_ ?_
              · intro r s i rf j h _
                obtain ⟨h1, -⟩ := h
                cases h1
              · intro E s i rf j h
                obtain ⟨h1, rfl, rfl, rfl, rfl⟩ := h
                cases h1
                exact ⟨_, hn_108_I, xv_eq_i⟩
          · exact absurd h_90 (by decide)
        · exact absurd h_54 (by decide)
      · exact absurd h_40 (by decide)
    · exact absurd h_26 (by decide)
  · exact absurd h_1 (by decide)
theorem w_takeOff_A (n : Nat) (c c' : Nat × Nat) (J : xv_J) {I I' : xv_I} {x1 x2 x3 x4 x5 : Int32} (hM : xv_Met mX10_takeOff 8 16 128 (sx n c) I (rx c) J [.ref 0, .int x1] (xv_eq (.inr "java/lang/IllegalArgumentException") (sx n c') I' (rx c') J)) : xv_Met mL_does 10 16 128 (sx n c) I (rx c) J [.ref 0, .int (nI 5), .int x1, .int x2, .int x3, .int x4, .int x5] (xv_eq (.inl (some (.int (-2000)))) (sx n c') I' (rx c') J) := by
  refine xv_Met.of (by decide +kernel) (Nat.le_of_ble_eq_true rfl) (List.forall_mem_cons.mpr ⟨rfl, List.forall_mem_cons.mpr ⟨rfl, List.forall_mem_cons.mpr ⟨rfl, List.forall_mem_cons.mpr ⟨rfl, List.forall_mem_cons.mpr ⟨rfl, List.forall_mem_cons.mpr ⟨rfl, List.forall_mem_cons.mpr ⟨rfl, fun _ h => nomatch h⟩⟩⟩⟩⟩⟩⟩) ?_
  show xv_W mL_does 10 16 128 _ 16 128 (sx n c) I (rx c) J 0 [some (.ref 0), some (.int (nI 5)), some (.int x1), some (.int x2), some (.int x3), some (.int x4), some (.int x5), none] []
  refine xv_il1 fL_does_0 ?_
  refine xv_if_ne fL_does_1 (fun h_1 => ?_) (fun h_1 => ?_)
  · refine xv_il1 fL_does_24 ?_
    refine xv_k fL_does_25 ?_
    refine xv_ic_ne fL_does_26 (fun h_26 => ?_) (fun h_26 => ?_)
    · refine xv_il1 fL_does_38 ?_
      refine xv_k fL_does_39 ?_
      refine xv_ic_ne fL_does_40 (fun h_40 => ?_) (fun h_40 => ?_)
      · refine xv_il1 fL_does_52 ?_
        refine xv_k fL_does_53 ?_
        refine xv_ic_ne fL_does_54 (fun h_54 => ?_) (fun h_54 => ?_)
        · refine xv_il1 fL_does_88 ?_
          refine xv_k fL_does_89 ?_
          refine xv_ic_ne fL_does_90 (fun h_90 => ?_) (fun h_90 => ?_)
          · refine xv_il1 fL_does_101 ?_
            refine xv_k fL_does_102 ?_
            refine xv_ic_ne fL_does_103 (fun h_103 => ?_) (fun h_103 => ?_)
            · exact absurd h_103 (by decide)
            · refine xv_al0 fL_does_106 ?_
              refine xv_il2 fL_does_107 ?_
              refine xv_callVH (As := [.int x1]) (S := []) (kc' := 0) (ks' := 0) hM fL_does_108 YX10_takeOff VX10_takeOff lL_31 rfl rfl (sx_0 _ _) rfl rfl (Nat.le_of_ble_eq_true rfl) (by decide) (by decide) (by decide) ?_ ?_
              · intro r s i rf j h _
                obtain ⟨h1, -⟩ := h
                cases h1
              · intro E s i rf j h
                obtain ⟨h1, rfl, rfl, rfl, rfl⟩ := h
                cases h1
                exact ⟨_, hn_108_A, xv_eq_i⟩
          · exact absurd h_90 (by decide)
        · exact absurd h_54 (by decide)
      · exact absurd h_40 (by decide)
    · exact absurd h_26 (by decide)
  · exact absurd h_1 (by decide)
theorem w_takeOff_S (n : Nat) (c c' : Nat × Nat) (J : xv_J) {I I' : xv_I} {x1 x2 x3 x4 x5 : Int32} (hM : xv_Met mX10_takeOff 8 16 128 (sx n c) I (rx c) J [.ref 0, .int x1] (xv_eq (.inr "java/lang/IllegalStateException") (sx n c') I' (rx c') J)) : xv_Met mL_does 10 16 128 (sx n c) I (rx c) J [.ref 0, .int (nI 5), .int x1, .int x2, .int x3, .int x4, .int x5] (xv_eq (.inl (some (.int (-1000)))) (sx n c') I' (rx c') J) := by
  refine xv_Met.of (by decide +kernel) (Nat.le_of_ble_eq_true rfl) (List.forall_mem_cons.mpr ⟨rfl, List.forall_mem_cons.mpr ⟨rfl, List.forall_mem_cons.mpr ⟨rfl, List.forall_mem_cons.mpr ⟨rfl, List.forall_mem_cons.mpr ⟨rfl, List.forall_mem_cons.mpr ⟨rfl, List.forall_mem_cons.mpr ⟨rfl, fun _ h => nomatch h⟩⟩⟩⟩⟩⟩⟩) ?_
  show xv_W mL_does 10 16 128 _ 16 128 (sx n c) I (rx c) J 0 [some (.ref 0), some (.int (nI 5)), some (.int x1), some (.int x2), some (.int x3), some (.int x4), some (.int x5), none] []
  refine xv_il1 fL_does_0 ?_
  refine xv_if_ne fL_does_1 (fun h_1 => ?_) (fun h_1 => ?_)
  · refine xv_il1 fL_does_24 ?_
    refine xv_k fL_does_25 ?_
    refine xv_ic_ne fL_does_26 (fun h_26 => ?_) (fun h_26 => ?_)
    · refine xv_il1 fL_does_38 ?_
      refine xv_k fL_does_39 ?_
      refine xv_ic_ne fL_does_40 (fun h_40 => ?_) (fun h_40 => ?_)
      · refine xv_il1 fL_does_52 ?_
        refine xv_k fL_does_53 ?_
        refine xv_ic_ne fL_does_54 (fun h_54 => ?_) (fun h_54 => ?_)
        · refine xv_il1 fL_does_88 ?_
          refine xv_k fL_does_89 ?_
          refine xv_ic_ne fL_does_90 (fun h_90 => ?_) (fun h_90 => ?_)
          · refine xv_il1 fL_does_101 ?_
            refine xv_k fL_does_102 ?_
            refine xv_ic_ne fL_does_103 (fun h_103 => ?_) (fun h_103 => ?_)
            · exact absurd h_103 (by decide)
            · refine xv_al0 fL_does_106 ?_
              refine xv_il2 fL_does_107 ?_
              refine xv_callVH (As := [.int x1]) (S := []) (kc' := 0) (ks' := 0) hM fL_does_108 YX10_takeOff VX10_takeOff lL_31 rfl rfl (sx_0 _ _) rfl rfl (Nat.le_of_ble_eq_true rfl) (by decide) (by decide) (by decide) ?_ ?_
              · intro r s i rf j h _
                obtain ⟨h1, -⟩ := h
                cases h1
              · intro E s i rf j h
                obtain ⟨h1, rfl, rfl, rfl, rfl⟩ := h
                cases h1
                exact ⟨_, hn_108_S, xv_eq_i⟩
          · exact absurd h_90 (by decide)
        · exact absurd h_54 (by decide)
      · exact absurd h_40 (by decide)
    · exact absurd h_26 (by decide)
  · exact absurd h_1 (by decide)
theorem w_advertsIn_ok (n : Nat) (c c' : Nat × Nat) (J : xv_J) {I I' : xv_I} {x1 x2 x3 x4 x5 : Int32} {v : Int32} (hM : xv_Met mX10_advertsIn 8 16 128 (sx n c) I (rx c) J [.ref 0, .int x1] (xv_eq (.inl (some (.int (v)))) (sx n c') I' (rx c') J)) : xv_Met mL_does 10 16 128 (sx n c) I (rx c) J [.ref 0, .int (nI 6), .int x1, .int x2, .int x3, .int x4, .int x5] (xv_eq (.inl (some (.int (v)))) (sx n c') I' (rx c') J) := by
  refine xv_Met.of (by decide +kernel) (Nat.le_of_ble_eq_true rfl) (List.forall_mem_cons.mpr ⟨rfl, List.forall_mem_cons.mpr ⟨rfl, List.forall_mem_cons.mpr ⟨rfl, List.forall_mem_cons.mpr ⟨rfl, List.forall_mem_cons.mpr ⟨rfl, List.forall_mem_cons.mpr ⟨rfl, List.forall_mem_cons.mpr ⟨rfl, fun _ h => nomatch h⟩⟩⟩⟩⟩⟩⟩) ?_
  show xv_W mL_does 10 16 128 _ 16 128 (sx n c) I (rx c) J 0 [some (.ref 0), some (.int (nI 6)), some (.int x1), some (.int x2), some (.int x3), some (.int x4), some (.int x5), none] []
  refine xv_il1 fL_does_0 ?_
  refine xv_if_ne fL_does_1 (fun h_1 => ?_) (fun h_1 => ?_)
  · refine xv_il1 fL_does_24 ?_
    refine xv_k fL_does_25 ?_
    refine xv_ic_ne fL_does_26 (fun h_26 => ?_) (fun h_26 => ?_)
    · refine xv_il1 fL_does_38 ?_
      refine xv_k fL_does_39 ?_
      refine xv_ic_ne fL_does_40 (fun h_40 => ?_) (fun h_40 => ?_)
      · refine xv_il1 fL_does_52 ?_
        refine xv_k fL_does_53 ?_
        refine xv_ic_ne fL_does_54 (fun h_54 => ?_) (fun h_54 => ?_)
        · refine xv_il1 fL_does_88 ?_
          refine xv_k fL_does_89 ?_
          refine xv_ic_ne fL_does_90 (fun h_90 => ?_) (fun h_90 => ?_)
          · refine xv_il1 fL_does_101 ?_
            refine xv_k fL_does_102 ?_
            refine xv_ic_ne fL_does_103 (fun h_103 => ?_) (fun h_103 => ?_)
            · refine xv_il1 fL_does_114 ?_
              refine xv_k fL_does_115 ?_
              refine xv_ic_ne fL_does_117 (fun h_117 => ?_) (fun h_117 => ?_)
              · exact absurd h_117 (by decide)
              · refine xv_al0 fL_does_120 ?_
                refine xv_il2 fL_does_121 ?_
                refine xv_callVH (As := [.int x1]) (S := []) (kc' := 0) (ks' := 0) hM fL_does_122 YX10_advertsIn VX10_advertsIn lL_34 rfl rfl (sx_0 _ _) rfl rfl (Nat.le_of_ble_eq_true rfl) (by decide) (by decide) (by decide) ?_ ?_
                · intro r s i rf j h _
                  obtain ⟨h1, rfl, rfl, rfl, rfl⟩ := h
                  cases h1
                  refine xv_goto fL_does_125 ?_
                  exact xv_iret fL_does_362 rfl rfl xv_eq_i
                · intro E s i rf j h
                  obtain ⟨h1, -⟩ := h
                  cases h1
            · exact absurd h_103 (by decide)
          · exact absurd h_90 (by decide)
        · exact absurd h_54 (by decide)
      · exact absurd h_40 (by decide)
    · exact absurd h_26 (by decide)
  · exact absurd h_1 (by decide)
theorem w_advertsIn_I (n : Nat) (c c' : Nat × Nat) (J : xv_J) {I I' : xv_I} {x1 x2 x3 x4 x5 : Int32} (hM : xv_Met mX10_advertsIn 8 16 128 (sx n c) I (rx c) J [.ref 0, .int x1] (xv_eq (.inr "java/lang/IndexOutOfBoundsException") (sx n c') I' (rx c') J)) : xv_Met mL_does 10 16 128 (sx n c) I (rx c) J [.ref 0, .int (nI 6), .int x1, .int x2, .int x3, .int x4, .int x5] (xv_eq (.inl (some (.int (-3000)))) (sx n c') I' (rx c') J) := by
  refine xv_Met.of (by decide +kernel) (Nat.le_of_ble_eq_true rfl) (List.forall_mem_cons.mpr ⟨rfl, List.forall_mem_cons.mpr ⟨rfl, List.forall_mem_cons.mpr ⟨rfl, List.forall_mem_cons.mpr ⟨rfl, List.forall_mem_cons.mpr ⟨rfl, List.forall_mem_cons.mpr ⟨rfl, List.forall_mem_cons.mpr ⟨rfl, fun _ h => nomatch h⟩⟩⟩⟩⟩⟩⟩) ?_
  show xv_W mL_does 10 16 128 _ 16 128 (sx n c) I (rx c) J 0 [some (.ref 0), some (.int (nI 6)), some (.int x1), some (.int x2), some (.int x3), some (.int x4), some (.int x5), none] []
  refine xv_il1 fL_does_0 ?_
  refine xv_if_ne fL_does_1 (fun h_1 => ?_) (fun h_1 => ?_)
  · refine xv_il1 fL_does_24 ?_
    refine xv_k fL_does_25 ?_
    refine xv_ic_ne fL_does_26 (fun h_26 => ?_) (fun h_26 => ?_)
    · refine xv_il1 fL_does_38 ?_
      refine xv_k fL_does_39 ?_
      refine xv_ic_ne fL_does_40 (fun h_40 => ?_) (fun h_40 => ?_)
      · refine xv_il1 fL_does_52 ?_
        refine xv_k fL_does_53 ?_
        refine xv_ic_ne fL_does_54 (fun h_54 => ?_) (fun h_54 => ?_)
        · refine xv_il1 fL_does_88 ?_
          refine xv_k fL_does_89 ?_
          refine xv_ic_ne fL_does_90 (fun h_90 => ?_) (fun h_90 => ?_)
          · refine xv_il1 fL_does_101 ?_
            refine xv_k fL_does_102 ?_
            refine xv_ic_ne fL_does_103 (fun h_103 => ?_) (fun h_103 => ?_)
            · refine xv_il1 fL_does_114 ?_
              refine xv_k fL_does_115 ?_
              refine xv_ic_ne fL_does_117 (fun h_117 => ?_) (fun h_117 => ?_)
              · exact absurd h_117 (by decide)
              · refine xv_al0 fL_does_120 ?_
                refine xv_il2 fL_does_121 ?_
                refine xv_callVH (As := [.int x1]) (S := []) (kc' := 0) (ks' := 0) hM fL_does_122 YX10_advertsIn VX10_advertsIn lL_34 rfl rfl (sx_0 _ _) rfl rfl (Nat.le_of_ble_eq_true rfl) (by decide) (by decide) (by decide) ?_ ?_
                · intro r s i rf j h _
                  obtain ⟨h1, -⟩ := h
                  cases h1
                · intro E s i rf j h
                  obtain ⟨h1, rfl, rfl, rfl, rfl⟩ := h
                  cases h1
                  exact ⟨_, hn_122_I, xv_eq_i⟩
            · exact absurd h_103 (by decide)
          · exact absurd h_90 (by decide)
        · exact absurd h_54 (by decide)
      · exact absurd h_40 (by decide)
    · exact absurd h_26 (by decide)
  · exact absurd h_1 (by decide)
theorem w_advertsIn_A (n : Nat) (c c' : Nat × Nat) (J : xv_J) {I I' : xv_I} {x1 x2 x3 x4 x5 : Int32} (hM : xv_Met mX10_advertsIn 8 16 128 (sx n c) I (rx c) J [.ref 0, .int x1] (xv_eq (.inr "java/lang/IllegalArgumentException") (sx n c') I' (rx c') J)) : xv_Met mL_does 10 16 128 (sx n c) I (rx c) J [.ref 0, .int (nI 6), .int x1, .int x2, .int x3, .int x4, .int x5] (xv_eq (.inl (some (.int (-2000)))) (sx n c') I' (rx c') J) := by
  refine xv_Met.of (by decide +kernel) (Nat.le_of_ble_eq_true rfl) (List.forall_mem_cons.mpr ⟨rfl, List.forall_mem_cons.mpr ⟨rfl, List.forall_mem_cons.mpr ⟨rfl, List.forall_mem_cons.mpr ⟨rfl, List.forall_mem_cons.mpr ⟨rfl, List.forall_mem_cons.mpr ⟨rfl, List.forall_mem_cons.mpr ⟨rfl, fun _ h => nomatch h⟩⟩⟩⟩⟩⟩⟩) ?_
  show xv_W mL_does 10 16 128 _ 16 128 (sx n c) I (rx c) J 0 [some (.ref 0), some (.int (nI 6)), some (.int x1), some (.int x2), some (.int x3), some (.int x4), some (.int x5), none] []
  refine xv_il1 fL_does_0 ?_
  refine xv_if_ne fL_does_1 (fun h_1 => ?_) (fun h_1 => ?_)
  · refine xv_il1 fL_does_24 ?_
    refine xv_k fL_does_25 ?_
    refine xv_ic_ne fL_does_26 (fun h_26 => ?_) (fun h_26 => ?_)
    · refine xv_il1 fL_does_38 ?_
      refine xv_k fL_does_39 ?_
      refine xv_ic_ne fL_does_40 (fun h_40 => ?_) (fun h_40 => ?_)
      · refine xv_il1 fL_does_52 ?_
        refine xv_k fL_does_53 ?_
        refine xv_ic_ne fL_does_54 (fun h_54 => ?_) (fun h_54 => ?_)
        · refine xv_il1 fL_does_88 ?_
          refine xv_k fL_does_89 ?_
          refine xv_ic_ne fL_does_90 (fun h_90 => ?_) (fun h_90 => ?_)
          · refine xv_il1 fL_does_101 ?_
            refine xv_k fL_does_102 ?_
            refine xv_ic_ne fL_does_103 (fun h_103 => ?_) (fun h_103 => ?_)
            · refine xv_il1 fL_does_114 ?_
              refine xv_k fL_does_115 ?_
              refine xv_ic_ne fL_does_117 (fun h_117 => ?_) (fun h_117 => ?_)
              · exact absurd h_117 (by decide)
              · refine xv_al0 fL_does_120 ?_
                refine xv_il2 fL_does_121 ?_
                refine xv_callVH (As := [.int x1]) (S := []) (kc' := 0) (ks' := 0) hM fL_does_122 YX10_advertsIn VX10_advertsIn lL_34 rfl rfl (sx_0 _ _) rfl rfl (Nat.le_of_ble_eq_true rfl) (by decide) (by decide) (by decide) ?_ ?_
                · intro r s i rf j h _
                  obtain ⟨h1, -⟩ := h
                  cases h1
                · intro E s i rf j h
                  obtain ⟨h1, rfl, rfl, rfl, rfl⟩ := h
                  cases h1
                  exact ⟨_, hn_122_A, xv_eq_i⟩
            · exact absurd h_103 (by decide)
          · exact absurd h_90 (by decide)
        · exact absurd h_54 (by decide)
      · exact absurd h_40 (by decide)
    · exact absurd h_26 (by decide)
  · exact absurd h_1 (by decide)
theorem w_advertsIn_S (n : Nat) (c c' : Nat × Nat) (J : xv_J) {I I' : xv_I} {x1 x2 x3 x4 x5 : Int32} (hM : xv_Met mX10_advertsIn 8 16 128 (sx n c) I (rx c) J [.ref 0, .int x1] (xv_eq (.inr "java/lang/IllegalStateException") (sx n c') I' (rx c') J)) : xv_Met mL_does 10 16 128 (sx n c) I (rx c) J [.ref 0, .int (nI 6), .int x1, .int x2, .int x3, .int x4, .int x5] (xv_eq (.inl (some (.int (-1000)))) (sx n c') I' (rx c') J) := by
  refine xv_Met.of (by decide +kernel) (Nat.le_of_ble_eq_true rfl) (List.forall_mem_cons.mpr ⟨rfl, List.forall_mem_cons.mpr ⟨rfl, List.forall_mem_cons.mpr ⟨rfl, List.forall_mem_cons.mpr ⟨rfl, List.forall_mem_cons.mpr ⟨rfl, List.forall_mem_cons.mpr ⟨rfl, List.forall_mem_cons.mpr ⟨rfl, fun _ h => nomatch h⟩⟩⟩⟩⟩⟩⟩) ?_
  show xv_W mL_does 10 16 128 _ 16 128 (sx n c) I (rx c) J 0 [some (.ref 0), some (.int (nI 6)), some (.int x1), some (.int x2), some (.int x3), some (.int x4), some (.int x5), none] []
  refine xv_il1 fL_does_0 ?_
  refine xv_if_ne fL_does_1 (fun h_1 => ?_) (fun h_1 => ?_)
  · refine xv_il1 fL_does_24 ?_
    refine xv_k fL_does_25 ?_
    refine xv_ic_ne fL_does_26 (fun h_26 => ?_) (fun h_26 => ?_)
    · refine xv_il1 fL_does_38 ?_
      refine xv_k fL_does_39 ?_
      refine xv_ic_ne fL_does_40 (fun h_40 => ?_) (fun h_40 => ?_)
      · refine xv_il1 fL_does_52 ?_
        refine xv_k fL_does_53 ?_
        refine xv_ic_ne fL_does_54 (fun h_54 => ?_) (fun h_54 => ?_)
        · refine xv_il1 fL_does_88 ?_
          refine xv_k fL_does_89 ?_
          refine xv_ic_ne fL_does_90 (fun h_90 => ?_) (fun h_90 => ?_)
          · refine xv_il1 fL_does_101 ?_
            refine xv_k fL_does_102 ?_
            refine xv_ic_ne fL_does_103 (fun h_103 => ?_) (fun h_103 => ?_)
            · refine xv_il1 fL_does_114 ?_
              refine xv_k fL_does_115 ?_
              refine xv_ic_ne fL_does_117 (fun h_117 => ?_) (fun h_117 => ?_)
              · exact absurd h_117 (by decide)
              · refine xv_al0 fL_does_120 ?_
                refine xv_il2 fL_does_121 ?_
                refine xv_callVH (As := [.int x1]) (S := []) (kc' := 0) (ks' := 0) hM fL_does_122 YX10_advertsIn VX10_advertsIn lL_34 rfl rfl (sx_0 _ _) rfl rfl (Nat.le_of_ble_eq_true rfl) (by decide) (by decide) (by decide) ?_ ?_
                · intro r s i rf j h _
                  obtain ⟨h1, -⟩ := h
                  cases h1
                · intro E s i rf j h
                  obtain ⟨h1, rfl, rfl, rfl, rfl⟩ := h
                  cases h1
                  exact ⟨_, hn_122_S, xv_eq_i⟩
            · exact absurd h_103 (by decide)
          · exact absurd h_90 (by decide)
        · exact absurd h_54 (by decide)
      · exact absurd h_40 (by decide)
    · exact absurd h_26 (by decide)
  · exact absurd h_1 (by decide)
theorem w_story_ok (n : Nat) (c c' : Nat × Nat) (J : xv_J) {I I' : xv_I} {x1 x2 x3 x4 x5 : Int32} {v : Int32} (hM : xv_Met mX10_story 8 16 128 (sx n c) I (rx c) J [.ref 0, .int x1, .int x2, .int x3] (xv_eq (.inl (some (.int (v)))) (sx n c') I' (rx c') J)) : xv_Met mL_does 10 16 128 (sx n c) I (rx c) J [.ref 0, .int (nI 7), .int x1, .int x2, .int x3, .int x4, .int x5] (xv_eq (.inl (some (.int (v)))) (sx n c') I' (rx c') J) := by
  refine xv_Met.of (by decide +kernel) (Nat.le_of_ble_eq_true rfl) (List.forall_mem_cons.mpr ⟨rfl, List.forall_mem_cons.mpr ⟨rfl, List.forall_mem_cons.mpr ⟨rfl, List.forall_mem_cons.mpr ⟨rfl, List.forall_mem_cons.mpr ⟨rfl, List.forall_mem_cons.mpr ⟨rfl, List.forall_mem_cons.mpr ⟨rfl, fun _ h => nomatch h⟩⟩⟩⟩⟩⟩⟩) ?_
  show xv_W mL_does 10 16 128 _ 16 128 (sx n c) I (rx c) J 0 [some (.ref 0), some (.int (nI 7)), some (.int x1), some (.int x2), some (.int x3), some (.int x4), some (.int x5), none] []
  refine xv_il1 fL_does_0 ?_
  refine xv_if_ne fL_does_1 (fun h_1 => ?_) (fun h_1 => ?_)
  · refine xv_il1 fL_does_24 ?_
    refine xv_k fL_does_25 ?_
    refine xv_ic_ne fL_does_26 (fun h_26 => ?_) (fun h_26 => ?_)
    · refine xv_il1 fL_does_38 ?_
      refine xv_k fL_does_39 ?_
      refine xv_ic_ne fL_does_40 (fun h_40 => ?_) (fun h_40 => ?_)
      · refine xv_il1 fL_does_52 ?_
        refine xv_k fL_does_53 ?_
        refine xv_ic_ne fL_does_54 (fun h_54 => ?_) (fun h_54 => ?_)
        · refine xv_il1 fL_does_88 ?_
          refine xv_k fL_does_89 ?_
          refine xv_ic_ne fL_does_90 (fun h_90 => ?_) (fun h_90 => ?_)
          · refine xv_il1 fL_does_101 ?_
            refine xv_k fL_does_102 ?_
            refine xv_ic_ne fL_does_103 (fun h_103 => ?_) (fun h_103 => ?_)
            · refine xv_il1 fL_does_114 ?_
              refine xv_k fL_does_115 ?_
              refine xv_ic_ne fL_does_117 (fun h_117 => ?_) (fun h_117 => ?_)
              · refine xv_il1 fL_does_128 ?_
                refine xv_k fL_does_129 ?_
                refine xv_ic_ne fL_does_131 (fun h_131 => ?_) (fun h_131 => ?_)
                · exact absurd h_131 (by decide)
                · refine xv_al0 fL_does_134 ?_
                  refine xv_il2 fL_does_135 ?_
                  refine xv_il3 fL_does_136 ?_
                  refine xv_il4 fL_does_137 ?_
                  refine xv_callVH (As := [.int x1, .int x2, .int x3]) (S := []) (kc' := 0) (ks' := 0) hM fL_does_139 YX10_story VX10_story lL_37 rfl rfl (sx_0 _ _) rfl rfl (Nat.le_of_ble_eq_true rfl) (by decide) (by decide) (by decide) ?_ ?_
                  · intro r s i rf j h _
                    obtain ⟨h1, rfl, rfl, rfl, rfl⟩ := h
                    cases h1
                    refine xv_goto fL_does_142 ?_
                    exact xv_iret fL_does_362 rfl rfl xv_eq_i
                  · intro E s i rf j h
                    obtain ⟨h1, -⟩ := h
                    cases h1
              · exact absurd h_117 (by decide)
            · exact absurd h_103 (by decide)
          · exact absurd h_90 (by decide)
        · exact absurd h_54 (by decide)
      · exact absurd h_40 (by decide)
    · exact absurd h_26 (by decide)
  · exact absurd h_1 (by decide)
theorem w_story_I (n : Nat) (c c' : Nat × Nat) (J : xv_J) {I I' : xv_I} {x1 x2 x3 x4 x5 : Int32} (hM : xv_Met mX10_story 8 16 128 (sx n c) I (rx c) J [.ref 0, .int x1, .int x2, .int x3] (xv_eq (.inr "java/lang/IndexOutOfBoundsException") (sx n c') I' (rx c') J)) : xv_Met mL_does 10 16 128 (sx n c) I (rx c) J [.ref 0, .int (nI 7), .int x1, .int x2, .int x3, .int x4, .int x5] (xv_eq (.inl (some (.int (-3000)))) (sx n c') I' (rx c') J) := by
  refine xv_Met.of (by decide +kernel) (Nat.le_of_ble_eq_true rfl) (List.forall_mem_cons.mpr ⟨rfl, List.forall_mem_cons.mpr ⟨rfl, List.forall_mem_cons.mpr ⟨rfl, List.forall_mem_cons.mpr ⟨rfl, List.forall_mem_cons.mpr ⟨rfl, List.forall_mem_cons.mpr ⟨rfl, List.forall_mem_cons.mpr ⟨rfl, fun _ h => nomatch h⟩⟩⟩⟩⟩⟩⟩) ?_
  show xv_W mL_does 10 16 128 _ 16 128 (sx n c) I (rx c) J 0 [some (.ref 0), some (.int (nI 7)), some (.int x1), some (.int x2), some (.int x3), some (.int x4), some (.int x5), none] []
  refine xv_il1 fL_does_0 ?_
  refine xv_if_ne fL_does_1 (fun h_1 => ?_) (fun h_1 => ?_)
  · refine xv_il1 fL_does_24 ?_
    refine xv_k fL_does_25 ?_
    refine xv_ic_ne fL_does_26 (fun h_26 => ?_) (fun h_26 => ?_)
    · refine xv_il1 fL_does_38 ?_
      refine xv_k fL_does_39 ?_
      refine xv_ic_ne fL_does_40 (fun h_40 => ?_) (fun h_40 => ?_)
      · refine xv_il1 fL_does_52 ?_
        refine xv_k fL_does_53 ?_
        refine xv_ic_ne fL_does_54 (fun h_54 => ?_) (fun h_54 => ?_)
        · refine xv_il1 fL_does_88 ?_
          refine xv_k fL_does_89 ?_
          refine xv_ic_ne fL_does_90 (fun h_90 => ?_) (fun h_90 => ?_)
          · refine xv_il1 fL_does_101 ?_
            refine xv_k fL_does_102 ?_
            refine xv_ic_ne fL_does_103 (fun h_103 => ?_) (fun h_103 => ?_)
            · refine xv_il1 fL_does_114 ?_
              refine xv_k fL_does_115 ?_
              refine xv_ic_ne fL_does_117 (fun h_117 => ?_) (fun h_117 => ?_)
              · refine xv_il1 fL_does_128 ?_
                refine xv_k fL_does_129 ?_
                refine xv_ic_ne fL_does_131 (fun h_131 => ?_) (fun h_131 => ?_)
                · exact absurd h_131 (by decide)
                · refine xv_al0 fL_does_134 ?_
                  refine xv_il2 fL_does_135 ?_
                  refine xv_il3 fL_does_136 ?_
                  refine xv_il4 fL_does_137 ?_
                  refine xv_callVH (As := [.int x1, .int x2, .int x3]) (S := []) (kc' := 0) (ks' := 0) hM fL_does_139 YX10_story VX10_story lL_37 rfl rfl (sx_0 _ _) rfl rfl (Nat.le_of_ble_eq_true rfl) (by decide) (by decide) (by decide) ?_ ?_
                  · intro r s i rf j h _
                    obtain ⟨h1, -⟩ := h
                    cases h1
                  · intro E s i rf j h
                    obtain ⟨h1, rfl, rfl, rfl, rfl⟩ := h
                    cases h1
                    exact ⟨_, hn_139_I, xv_eq_i⟩
              · exact absurd h_117 (by decide)
            · exact absurd h_103 (by decide)
          · exact absurd h_90 (by decide)
        · exact absurd h_54 (by decide)
      · exact absurd h_40 (by decide)
    · exact absurd h_26 (by decide)
  · exact absurd h_1 (by decide)
theorem w_story_A (n : Nat) (c c' : Nat × Nat) (J : xv_J) {I I' : xv_I} {x1 x2 x3 x4 x5 : Int32} (hM : xv_Met mX10_story 8 16 128 (sx n c) I (rx c) J [.ref 0, .int x1, .int x2, .int x3] (xv_eq (.inr "java/lang/IllegalArgumentException") (sx n c') I' (rx c') J)) : xv_Met mL_does 10 16 128 (sx n c) I (rx c) J [.ref 0, .int (nI 7), .int x1, .int x2, .int x3, .int x4, .int x5] (xv_eq (.inl (some (.int (-2000)))) (sx n c') I' (rx c') J) := by
  refine xv_Met.of (by decide +kernel) (Nat.le_of_ble_eq_true rfl) (List.forall_mem_cons.mpr ⟨rfl, List.forall_mem_cons.mpr ⟨rfl, List.forall_mem_cons.mpr ⟨rfl, List.forall_mem_cons.mpr ⟨rfl, List.forall_mem_cons.mpr ⟨rfl, List.forall_mem_cons.mpr ⟨rfl, List.forall_mem_cons.mpr ⟨rfl, fun _ h => nomatch h⟩⟩⟩⟩⟩⟩⟩) ?_
  show xv_W mL_does 10 16 128 _ 16 128 (sx n c) I (rx c) J 0 [some (.ref 0), some (.int (nI 7)), some (.int x1), some (.int x2), some (.int x3), some (.int x4), some (.int x5), none] []
  refine xv_il1 fL_does_0 ?_
  refine xv_if_ne fL_does_1 (fun h_1 => ?_) (fun h_1 => ?_)
  · refine xv_il1 fL_does_24 ?_
    refine xv_k fL_does_25 ?_
    refine xv_ic_ne fL_does_26 (fun h_26 => ?_) (fun h_26 => ?_)
    · refine xv_il1 fL_does_38 ?_
      refine xv_k fL_does_39 ?_
      refine xv_ic_ne fL_does_40 (fun h_40 => ?_) (fun h_40 => ?_)
      · refine xv_il1 fL_does_52 ?_
        refine xv_k fL_does_53 ?_
        refine xv_ic_ne fL_does_54 (fun h_54 => ?_) (fun h_54 => ?_)
        · refine xv_il1 fL_does_88 ?_
          refine xv_k fL_does_89 ?_
          refine xv_ic_ne fL_does_90 (fun h_90 => ?_) (fun h_90 => ?_)
          · refine xv_il1 fL_does_101 ?_
            refine xv_k fL_does_102 ?_
            refine xv_ic_ne fL_does_103 (fun h_103 => ?_) (fun h_103 => ?_)
            · refine xv_il1 fL_does_114 ?_
              refine xv_k fL_does_115 ?_
              refine xv_ic_ne fL_does_117 (fun h_117 => ?_) (fun h_117 => ?_)
              · refine xv_il1 fL_does_128 ?_
                refine xv_k fL_does_129 ?_
                refine xv_ic_ne fL_does_131 (fun h_131 => ?_) (fun h_131 => ?_)
                · exact absurd h_131 (by decide)
                · refine xv_al0 fL_does_134 ?_
                  refine xv_il2 fL_does_135 ?_
                  refine xv_il3 fL_does_136 ?_
                  refine xv_il4 fL_does_137 ?_
                  refine xv_callVH (As := [.int x1, .int x2, .int x3]) (S := []) (kc' := 0) (ks' := 0) hM fL_does_139 YX10_story VX10_story lL_37 rfl rfl (sx_0 _ _) rfl rfl (Nat.le_of_ble_eq_true rfl) (by decide) (by decide) (by decide) ?_ ?_
                  · intro r s i rf j h _
                    obtain ⟨h1, -⟩ := h
                    cases h1
                  · intro E s i rf j h
                    obtain ⟨h1, rfl, rfl, rfl, rfl⟩ := h
                    cases h1
                    exact ⟨_, hn_139_A, xv_eq_i⟩
              · exact absurd h_117 (by decide)
            · exact absurd h_103 (by decide)
          · exact absurd h_90 (by decide)
        · exact absurd h_54 (by decide)
      · exact absurd h_40 (by decide)
    · exact absurd h_26 (by decide)
  · exact absurd h_1 (by decide)
theorem w_story_S (n : Nat) (c c' : Nat × Nat) (J : xv_J) {I I' : xv_I} {x1 x2 x3 x4 x5 : Int32} (hM : xv_Met mX10_story 8 16 128 (sx n c) I (rx c) J [.ref 0, .int x1, .int x2, .int x3] (xv_eq (.inr "java/lang/IllegalStateException") (sx n c') I' (rx c') J)) : xv_Met mL_does 10 16 128 (sx n c) I (rx c) J [.ref 0, .int (nI 7), .int x1, .int x2, .int x3, .int x4, .int x5] (xv_eq (.inl (some (.int (-1000)))) (sx n c') I' (rx c') J) := by
  refine xv_Met.of (by decide +kernel) (Nat.le_of_ble_eq_true rfl) (List.forall_mem_cons.mpr ⟨rfl, List.forall_mem_cons.mpr ⟨rfl, List.forall_mem_cons.mpr ⟨rfl, List.forall_mem_cons.mpr ⟨rfl, List.forall_mem_cons.mpr ⟨rfl, List.forall_mem_cons.mpr ⟨rfl, List.forall_mem_cons.mpr ⟨rfl, fun _ h => nomatch h⟩⟩⟩⟩⟩⟩⟩) ?_
  show xv_W mL_does 10 16 128 _ 16 128 (sx n c) I (rx c) J 0 [some (.ref 0), some (.int (nI 7)), some (.int x1), some (.int x2), some (.int x3), some (.int x4), some (.int x5), none] []
  refine xv_il1 fL_does_0 ?_
  refine xv_if_ne fL_does_1 (fun h_1 => ?_) (fun h_1 => ?_)
  · refine xv_il1 fL_does_24 ?_
    refine xv_k fL_does_25 ?_
    refine xv_ic_ne fL_does_26 (fun h_26 => ?_) (fun h_26 => ?_)
    · refine xv_il1 fL_does_38 ?_
      refine xv_k fL_does_39 ?_
      refine xv_ic_ne fL_does_40 (fun h_40 => ?_) (fun h_40 => ?_)
      · refine xv_il1 fL_does_52 ?_
        refine xv_k fL_does_53 ?_
        refine xv_ic_ne fL_does_54 (fun h_54 => ?_) (fun h_54 => ?_)
        · refine xv_il1 fL_does_88 ?_
          refine xv_k fL_does_89 ?_
          refine xv_ic_ne fL_does_90 (fun h_90 => ?_) (fun h_90 => ?_)
          · refine xv_il1 fL_does_101 ?_
            refine xv_k fL_does_102 ?_
            refine xv_ic_ne fL_does_103 (fun h_103 => ?_) (fun h_103 => ?_)
            · refine xv_il1 fL_does_114 ?_
              refine xv_k fL_does_115 ?_
              refine xv_ic_ne fL_does_117 (fun h_117 => ?_) (fun h_117 => ?_)
              · refine xv_il1 fL_does_128 ?_
                refine xv_k fL_does_129 ?_
                refine xv_ic_ne fL_does_131 (fun h_131 => ?_) (fun h_131 => ?_)
                · exact absurd h_131 (by decide)
                · refine xv_al0 fL_does_134 ?_
                  refine xv_il2 fL_does_135 ?_
                  refine xv_il3 fL_does_136 ?_
                  refine xv_il4 fL_does_137 ?_
                  refine xv_callVH (As := [.int x1, .int x2, .int x3]) (S := []) (kc' := 0) (ks' := 0) hM fL_does_139 YX10_story VX10_story lL_37 rfl rfl (sx_0 _ _) rfl rfl (Nat.le_of_ble_eq_true rfl) (by decide) (by decide) (by decide) ?_ ?_
                  · intro r s i rf j h _
                    obtain ⟨h1, -⟩ := h
                    cases h1
                  · intro E s i rf j h
                    obtain ⟨h1, rfl, rfl, rfl, rfl⟩ := h
                    cases h1
                    exact ⟨_, hn_139_S, xv_eq_i⟩
              · exact absurd h_117 (by decide)
            · exact absurd h_103 (by decide)
          · exact absurd h_90 (by decide)
        · exact absurd h_54 (by decide)
      · exact absurd h_40 (by decide)
    · exact absurd h_26 (by decide)
  · exact absurd h_1 (by decide)
theorem w_lay_ok (n : Nat) (c c' : Nat × Nat) (J : xv_J) {I I' : xv_I} {x1 x2 x3 x4 x5 : Int32} {v : Int32} (hM : xv_Met mX10_lay 8 16 128 (sx n c) I (rx c) J [.ref 0, .int x1] (xv_eq (.inl (some (.int (v)))) (sx n c') I' (rx c') J)) : xv_Met mL_does 10 16 128 (sx n c) I (rx c) J [.ref 0, .int (nI 8), .int x1, .int x2, .int x3, .int x4, .int x5] (xv_eq (.inl (some (.int (v)))) (sx n c') I' (rx c') J) := by
  refine xv_Met.of (by decide +kernel) (Nat.le_of_ble_eq_true rfl) (List.forall_mem_cons.mpr ⟨rfl, List.forall_mem_cons.mpr ⟨rfl, List.forall_mem_cons.mpr ⟨rfl, List.forall_mem_cons.mpr ⟨rfl, List.forall_mem_cons.mpr ⟨rfl, List.forall_mem_cons.mpr ⟨rfl, List.forall_mem_cons.mpr ⟨rfl, fun _ h => nomatch h⟩⟩⟩⟩⟩⟩⟩) ?_
  show xv_W mL_does 10 16 128 _ 16 128 (sx n c) I (rx c) J 0 [some (.ref 0), some (.int (nI 8)), some (.int x1), some (.int x2), some (.int x3), some (.int x4), some (.int x5), none] []
  refine xv_il1 fL_does_0 ?_
  refine xv_if_ne fL_does_1 (fun h_1 => ?_) (fun h_1 => ?_)
  · refine xv_il1 fL_does_24 ?_
    refine xv_k fL_does_25 ?_
    refine xv_ic_ne fL_does_26 (fun h_26 => ?_) (fun h_26 => ?_)
    · refine xv_il1 fL_does_38 ?_
      refine xv_k fL_does_39 ?_
      refine xv_ic_ne fL_does_40 (fun h_40 => ?_) (fun h_40 => ?_)
      · refine xv_il1 fL_does_52 ?_
        refine xv_k fL_does_53 ?_
        refine xv_ic_ne fL_does_54 (fun h_54 => ?_) (fun h_54 => ?_)
        · refine xv_il1 fL_does_88 ?_
          refine xv_k fL_does_89 ?_
          refine xv_ic_ne fL_does_90 (fun h_90 => ?_) (fun h_90 => ?_)
          · refine xv_il1 fL_does_101 ?_
            refine xv_k fL_does_102 ?_
            refine xv_ic_ne fL_does_103 (fun h_103 => ?_) (fun h_103 => ?_)
            · refine xv_il1 fL_does_114 ?_
              refine xv_k fL_does_115 ?_
              refine xv_ic_ne fL_does_117 (fun h_117 => ?_) (fun h_117 => ?_)
              · refine xv_il1 fL_does_128 ?_
                refine xv_k fL_does_129 ?_
                refine xv_ic_ne fL_does_131 (fun h_131 => ?_) (fun h_131 => ?_)
                · refine xv_il1 fL_does_145 ?_
                  refine xv_k fL_does_146 ?_
                  refine xv_ic_ne fL_does_148 (fun h_148 => ?_) (fun h_148 => ?_)
                  · exact absurd h_148 (by decide)
                  · refine xv_al0 fL_does_151 ?_
                    refine xv_il2 fL_does_152 ?_
                    refine xv_callVH (As := [.int x1]) (S := []) (kc' := 0) (ks' := 0) hM fL_does_153 YX10_lay VX10_lay lL_41 rfl rfl (sx_0 _ _) rfl rfl (Nat.le_of_ble_eq_true rfl) (by decide) (by decide) (by decide) ?_ ?_
                    · intro r s i rf j h _
                      obtain ⟨h1, rfl, rfl, rfl, rfl⟩ := h
                      cases h1
                      refine xv_goto fL_does_156 ?_
                      exact xv_iret fL_does_362 rfl rfl xv_eq_i
                    · intro E s i rf j h
                      obtain ⟨h1, -⟩ := h
                      cases h1
                · exact absurd h_131 (by decide)
              · exact absurd h_117 (by decide)
            · exact absurd h_103 (by decide)
          · exact absurd h_90 (by decide)
        · exact absurd h_54 (by decide)
      · exact absurd h_40 (by decide)
    · exact absurd h_26 (by decide)
  · exact absurd h_1 (by decide)
theorem w_lay_I (n : Nat) (c c' : Nat × Nat) (J : xv_J) {I I' : xv_I} {x1 x2 x3 x4 x5 : Int32} (hM : xv_Met mX10_lay 8 16 128 (sx n c) I (rx c) J [.ref 0, .int x1] (xv_eq (.inr "java/lang/IndexOutOfBoundsException") (sx n c') I' (rx c') J)) : xv_Met mL_does 10 16 128 (sx n c) I (rx c) J [.ref 0, .int (nI 8), .int x1, .int x2, .int x3, .int x4, .int x5] (xv_eq (.inl (some (.int (-3000)))) (sx n c') I' (rx c') J) := by
  refine xv_Met.of (by decide +kernel) (Nat.le_of_ble_eq_true rfl) (List.forall_mem_cons.mpr ⟨rfl, List.forall_mem_cons.mpr ⟨rfl, List.forall_mem_cons.mpr ⟨rfl, List.forall_mem_cons.mpr ⟨rfl, List.forall_mem_cons.mpr ⟨rfl, List.forall_mem_cons.mpr ⟨rfl, List.forall_mem_cons.mpr ⟨rfl, fun _ h => nomatch h⟩⟩⟩⟩⟩⟩⟩) ?_
  show xv_W mL_does 10 16 128 _ 16 128 (sx n c) I (rx c) J 0 [some (.ref 0), some (.int (nI 8)), some (.int x1), some (.int x2), some (.int x3), some (.int x4), some (.int x5), none] []
  refine xv_il1 fL_does_0 ?_
  refine xv_if_ne fL_does_1 (fun h_1 => ?_) (fun h_1 => ?_)
  · refine xv_il1 fL_does_24 ?_
    refine xv_k fL_does_25 ?_
    refine xv_ic_ne fL_does_26 (fun h_26 => ?_) (fun h_26 => ?_)
    · refine xv_il1 fL_does_38 ?_
      refine xv_k fL_does_39 ?_
      refine xv_ic_ne fL_does_40 (fun h_40 => ?_) (fun h_40 => ?_)
      · refine xv_il1 fL_does_52 ?_
        refine xv_k fL_does_53 ?_
        refine xv_ic_ne fL_does_54 (fun h_54 => ?_) (fun h_54 => ?_)
        · refine xv_il1 fL_does_88 ?_
          refine xv_k fL_does_89 ?_
          refine xv_ic_ne fL_does_90 (fun h_90 => ?_) (fun h_90 => ?_)
          · refine xv_il1 fL_does_101 ?_
            refine xv_k fL_does_102 ?_
            refine xv_ic_ne fL_does_103 (fun h_103 => ?_) (fun h_103 => ?_)
            · refine xv_il1 fL_does_114 ?_
              refine xv_k fL_does_115 ?_
              refine xv_ic_ne fL_does_117 (fun h_117 => ?_) (fun h_117 => ?_)
              · refine xv_il1 fL_does_128 ?_
                refine xv_k fL_does_129 ?_
                refine xv_ic_ne fL_does_131 (fun h_131 => ?_) (fun h_131 => ?_)
                · refine xv_il1 fL_does_145 ?_
                  refine xv_k fL_does_146 ?_
                  refine xv_ic_ne fL_does_148 (fun h_148 => ?_) (fun h_148 => ?_)
                  · exact absurd h_148 (by decide)
                  · refine xv_al0 fL_does_151 ?_
                    refine xv_il2 fL_does_152 ?_
                    refine xv_callVH (As := [.int x1]) (S := []) (kc' := 0) (ks' := 0) hM fL_does_153 YX10_lay VX10_lay lL_41 rfl rfl (sx_0 _ _) rfl rfl (Nat.le_of_ble_eq_true rfl) (by decide) (by decide) (by decide) ?_ ?_
                    · intro r s i rf j h _
                      obtain ⟨h1, -⟩ := h
                      cases h1
                    · intro E s i rf j h
                      obtain ⟨h1, rfl, rfl, rfl, rfl⟩ := h
                      cases h1
                      exact ⟨_, hn_153_I, xv_eq_i⟩
                · exact absurd h_131 (by decide)
              · exact absurd h_117 (by decide)
            · exact absurd h_103 (by decide)
          · exact absurd h_90 (by decide)
        · exact absurd h_54 (by decide)
      · exact absurd h_40 (by decide)
    · exact absurd h_26 (by decide)
  · exact absurd h_1 (by decide)
theorem w_lay_A (n : Nat) (c c' : Nat × Nat) (J : xv_J) {I I' : xv_I} {x1 x2 x3 x4 x5 : Int32} (hM : xv_Met mX10_lay 8 16 128 (sx n c) I (rx c) J [.ref 0, .int x1] (xv_eq (.inr "java/lang/IllegalArgumentException") (sx n c') I' (rx c') J)) : xv_Met mL_does 10 16 128 (sx n c) I (rx c) J [.ref 0, .int (nI 8), .int x1, .int x2, .int x3, .int x4, .int x5] (xv_eq (.inl (some (.int (-2000)))) (sx n c') I' (rx c') J) := by
  refine xv_Met.of (by decide +kernel) (Nat.le_of_ble_eq_true rfl) (List.forall_mem_cons.mpr ⟨rfl, List.forall_mem_cons.mpr ⟨rfl, List.forall_mem_cons.mpr ⟨rfl, List.forall_mem_cons.mpr ⟨rfl, List.forall_mem_cons.mpr ⟨rfl, List.forall_mem_cons.mpr ⟨rfl, List.forall_mem_cons.mpr ⟨rfl, fun _ h => nomatch h⟩⟩⟩⟩⟩⟩⟩) ?_
  show xv_W mL_does 10 16 128 _ 16 128 (sx n c) I (rx c) J 0 [some (.ref 0), some (.int (nI 8)), some (.int x1), some (.int x2), some (.int x3), some (.int x4), some (.int x5), none] []
  refine xv_il1 fL_does_0 ?_
  refine xv_if_ne fL_does_1 (fun h_1 => ?_) (fun h_1 => ?_)
  · refine xv_il1 fL_does_24 ?_
    refine xv_k fL_does_25 ?_
    refine xv_ic_ne fL_does_26 (fun h_26 => ?_) (fun h_26 => ?_)
    · refine xv_il1 fL_does_38 ?_
      refine xv_k fL_does_39 ?_
      refine xv_ic_ne fL_does_40 (fun h_40 => ?_) (fun h_40 => ?_)
      · refine xv_il1 fL_does_52 ?_
        refine xv_k fL_does_53 ?_
        refine xv_ic_ne fL_does_54 (fun h_54 => ?_) (fun h_54 => ?_)
        · refine xv_il1 fL_does_88 ?_
          refine xv_k fL_does_89 ?_
          refine xv_ic_ne fL_does_90 (fun h_90 => ?_) (fun h_90 => ?_)
          · refine xv_il1 fL_does_101 ?_
            refine xv_k fL_does_102 ?_
            refine xv_ic_ne fL_does_103 (fun h_103 => ?_) (fun h_103 => ?_)
            · refine xv_il1 fL_does_114 ?_
              refine xv_k fL_does_115 ?_
              refine xv_ic_ne fL_does_117 (fun h_117 => ?_) (fun h_117 => ?_)
              · refine xv_il1 fL_does_128 ?_
                refine xv_k fL_does_129 ?_
                refine xv_ic_ne fL_does_131 (fun h_131 => ?_) (fun h_131 => ?_)
                · refine xv_il1 fL_does_145 ?_
                  refine xv_k fL_does_146 ?_
                  refine xv_ic_ne fL_does_148 (fun h_148 => ?_) (fun h_148 => ?_)
                  · exact absurd h_148 (by decide)
                  · refine xv_al0 fL_does_151 ?_
                    refine xv_il2 fL_does_152 ?_
                    refine xv_callVH (As := [.int x1]) (S := []) (kc' := 0) (ks' := 0) hM fL_does_153 YX10_lay VX10_lay lL_41 rfl rfl (sx_0 _ _) rfl rfl (Nat.le_of_ble_eq_true rfl) (by decide) (by decide) (by decide) ?_ ?_
                    · intro r s i rf j h _
                      obtain ⟨h1, -⟩ := h
                      cases h1
                    · intro E s i rf j h
                      obtain ⟨h1, rfl, rfl, rfl, rfl⟩ := h
                      cases h1
                      exact ⟨_, hn_153_A, xv_eq_i⟩
                · exact absurd h_131 (by decide)
              · exact absurd h_117 (by decide)
            · exact absurd h_103 (by decide)
          · exact absurd h_90 (by decide)
        · exact absurd h_54 (by decide)
      · exact absurd h_40 (by decide)
    · exact absurd h_26 (by decide)
  · exact absurd h_1 (by decide)
theorem w_lay_S (n : Nat) (c c' : Nat × Nat) (J : xv_J) {I I' : xv_I} {x1 x2 x3 x4 x5 : Int32} (hM : xv_Met mX10_lay 8 16 128 (sx n c) I (rx c) J [.ref 0, .int x1] (xv_eq (.inr "java/lang/IllegalStateException") (sx n c') I' (rx c') J)) : xv_Met mL_does 10 16 128 (sx n c) I (rx c) J [.ref 0, .int (nI 8), .int x1, .int x2, .int x3, .int x4, .int x5] (xv_eq (.inl (some (.int (-1000)))) (sx n c') I' (rx c') J) := by
  refine xv_Met.of (by decide +kernel) (Nat.le_of_ble_eq_true rfl) (List.forall_mem_cons.mpr ⟨rfl, List.forall_mem_cons.mpr ⟨rfl, List.forall_mem_cons.mpr ⟨rfl, List.forall_mem_cons.mpr ⟨rfl, List.forall_mem_cons.mpr ⟨rfl, List.forall_mem_cons.mpr ⟨rfl, List.forall_mem_cons.mpr ⟨rfl, fun _ h => nomatch h⟩⟩⟩⟩⟩⟩⟩) ?_
  show xv_W mL_does 10 16 128 _ 16 128 (sx n c) I (rx c) J 0 [some (.ref 0), some (.int (nI 8)), some (.int x1), some (.int x2), some (.int x3), some (.int x4), some (.int x5), none] []
  refine xv_il1 fL_does_0 ?_
  refine xv_if_ne fL_does_1 (fun h_1 => ?_) (fun h_1 => ?_)
  · refine xv_il1 fL_does_24 ?_
    refine xv_k fL_does_25 ?_
    refine xv_ic_ne fL_does_26 (fun h_26 => ?_) (fun h_26 => ?_)
    · refine xv_il1 fL_does_38 ?_
      refine xv_k fL_does_39 ?_
      refine xv_ic_ne fL_does_40 (fun h_40 => ?_) (fun h_40 => ?_)
      · refine xv_il1 fL_does_52 ?_
        refine xv_k fL_does_53 ?_
        refine xv_ic_ne fL_does_54 (fun h_54 => ?_) (fun h_54 => ?_)
        · refine xv_il1 fL_does_88 ?_
          refine xv_k fL_does_89 ?_
          refine xv_ic_ne fL_does_90 (fun h_90 => ?_) (fun h_90 => ?_)
          · refine xv_il1 fL_does_101 ?_
            refine xv_k fL_does_102 ?_
            refine xv_ic_ne fL_does_103 (fun h_103 => ?_) (fun h_103 => ?_)
            · refine xv_il1 fL_does_114 ?_
              refine xv_k fL_does_115 ?_
              refine xv_ic_ne fL_does_117 (fun h_117 => ?_) (fun h_117 => ?_)
              · refine xv_il1 fL_does_128 ?_
                refine xv_k fL_does_129 ?_
                refine xv_ic_ne fL_does_131 (fun h_131 => ?_) (fun h_131 => ?_)
                · refine xv_il1 fL_does_145 ?_
                  refine xv_k fL_does_146 ?_
                  refine xv_ic_ne fL_does_148 (fun h_148 => ?_) (fun h_148 => ?_)
                  · exact absurd h_148 (by decide)
                  · refine xv_al0 fL_does_151 ?_
                    refine xv_il2 fL_does_152 ?_
                    refine xv_callVH (As := [.int x1]) (S := []) (kc' := 0) (ks' := 0) hM fL_does_153 YX10_lay VX10_lay lL_41 rfl rfl (sx_0 _ _) rfl rfl (Nat.le_of_ble_eq_true rfl) (by decide) (by decide) (by decide) ?_ ?_
                    · intro r s i rf j h _
                      obtain ⟨h1, -⟩ := h
                      cases h1
                    · intro E s i rf j h
                      obtain ⟨h1, rfl, rfl, rfl, rfl⟩ := h
                      cases h1
                      exact ⟨_, hn_153_S, xv_eq_i⟩
                · exact absurd h_131 (by decide)
              · exact absurd h_117 (by decide)
            · exact absurd h_103 (by decide)
          · exact absurd h_90 (by decide)
        · exact absurd h_54 (by decide)
      · exact absurd h_40 (by decide)
    · exact absurd h_26 (by decide)
  · exact absurd h_1 (by decide)
theorem w_lift_ok (n : Nat) (c c' : Nat × Nat) (J : xv_J) {I I' : xv_I} {x1 x2 x3 x4 x5 : Int32} {v : Int32} (hM : xv_Met mX10_lift 8 16 128 (sx n c) I (rx c) J [.ref 0, .int x1] (xv_eq (.inl (some (.int (v)))) (sx n c') I' (rx c') J)) : xv_Met mL_does 10 16 128 (sx n c) I (rx c) J [.ref 0, .int (nI 9), .int x1, .int x2, .int x3, .int x4, .int x5] (xv_eq (.inl (some (.int (v)))) (sx n c') I' (rx c') J) := by
  refine xv_Met.of (by decide +kernel) (Nat.le_of_ble_eq_true rfl) (List.forall_mem_cons.mpr ⟨rfl, List.forall_mem_cons.mpr ⟨rfl, List.forall_mem_cons.mpr ⟨rfl, List.forall_mem_cons.mpr ⟨rfl, List.forall_mem_cons.mpr ⟨rfl, List.forall_mem_cons.mpr ⟨rfl, List.forall_mem_cons.mpr ⟨rfl, fun _ h => nomatch h⟩⟩⟩⟩⟩⟩⟩) ?_
  show xv_W mL_does 10 16 128 _ 16 128 (sx n c) I (rx c) J 0 [some (.ref 0), some (.int (nI 9)), some (.int x1), some (.int x2), some (.int x3), some (.int x4), some (.int x5), none] []
  refine xv_il1 fL_does_0 ?_
  refine xv_if_ne fL_does_1 (fun h_1 => ?_) (fun h_1 => ?_)
  · refine xv_il1 fL_does_24 ?_
    refine xv_k fL_does_25 ?_
    refine xv_ic_ne fL_does_26 (fun h_26 => ?_) (fun h_26 => ?_)
    · refine xv_il1 fL_does_38 ?_
      refine xv_k fL_does_39 ?_
      refine xv_ic_ne fL_does_40 (fun h_40 => ?_) (fun h_40 => ?_)
      · refine xv_il1 fL_does_52 ?_
        refine xv_k fL_does_53 ?_
        refine xv_ic_ne fL_does_54 (fun h_54 => ?_) (fun h_54 => ?_)
        · refine xv_il1 fL_does_88 ?_
          refine xv_k fL_does_89 ?_
          refine xv_ic_ne fL_does_90 (fun h_90 => ?_) (fun h_90 => ?_)
          · refine xv_il1 fL_does_101 ?_
            refine xv_k fL_does_102 ?_
            refine xv_ic_ne fL_does_103 (fun h_103 => ?_) (fun h_103 => ?_)
            · refine xv_il1 fL_does_114 ?_
              refine xv_k fL_does_115 ?_
              refine xv_ic_ne fL_does_117 (fun h_117 => ?_) (fun h_117 => ?_)
              · refine xv_il1 fL_does_128 ?_
                refine xv_k fL_does_129 ?_
                refine xv_ic_ne fL_does_131 (fun h_131 => ?_) (fun h_131 => ?_)
                · refine xv_il1 fL_does_145 ?_
                  refine xv_k fL_does_146 ?_
                  refine xv_ic_ne fL_does_148 (fun h_148 => ?_) (fun h_148 => ?_)
                  · refine xv_il1 fL_does_159 ?_
                    refine xv_k fL_does_160 ?_
                    refine xv_ic_ne fL_does_162 (fun h_162 => ?_) (fun h_162 => ?_)
                    · exact absurd h_162 (by decide)
                    · refine xv_al0 fL_does_165 ?_
                      refine xv_il2 fL_does_166 ?_
                      refine xv_callVH (As := [.int x1]) (S := []) (kc' := 0) (ks' := 0) hM fL_does_167 YX10_lift VX10_lift lL_44 rfl rfl (sx_0 _ _) rfl rfl (Nat.le_of_ble_eq_true rfl) (by decide) (by decide) (by decide) ?_ ?_
                      · intro r s i rf j h _
                        obtain ⟨h1, rfl, rfl, rfl, rfl⟩ := h
                        cases h1
                        refine xv_goto fL_does_170 ?_
                        exact xv_iret fL_does_362 rfl rfl xv_eq_i
                      · intro E s i rf j h
                        obtain ⟨h1, -⟩ := h
                        cases h1
                  · exact absurd h_148 (by decide)
                · exact absurd h_131 (by decide)
              · exact absurd h_117 (by decide)
            · exact absurd h_103 (by decide)
          · exact absurd h_90 (by decide)
        · exact absurd h_54 (by decide)
      · exact absurd h_40 (by decide)
    · exact absurd h_26 (by decide)
  · exact absurd h_1 (by decide)
theorem w_lift_I (n : Nat) (c c' : Nat × Nat) (J : xv_J) {I I' : xv_I} {x1 x2 x3 x4 x5 : Int32} (hM : xv_Met mX10_lift 8 16 128 (sx n c) I (rx c) J [.ref 0, .int x1] (xv_eq (.inr "java/lang/IndexOutOfBoundsException") (sx n c') I' (rx c') J)) : xv_Met mL_does 10 16 128 (sx n c) I (rx c) J [.ref 0, .int (nI 9), .int x1, .int x2, .int x3, .int x4, .int x5] (xv_eq (.inl (some (.int (-3000)))) (sx n c') I' (rx c') J) := by
  refine xv_Met.of (by decide +kernel) (Nat.le_of_ble_eq_true rfl) (List.forall_mem_cons.mpr ⟨rfl, List.forall_mem_cons.mpr ⟨rfl, List.forall_mem_cons.mpr ⟨rfl, List.forall_mem_cons.mpr ⟨rfl, List.forall_mem_cons.mpr ⟨rfl, List.forall_mem_cons.mpr ⟨rfl, List.forall_mem_cons.mpr ⟨rfl, fun _ h => nomatch h⟩⟩⟩⟩⟩⟩⟩) ?_
  show xv_W mL_does 10 16 128 _ 16 128 (sx n c) I (rx c) J 0 [some (.ref 0), some (.int (nI 9)), some (.int x1), some (.int x2), some (.int x3), some (.int x4), some (.int x5), none] []
  refine xv_il1 fL_does_0 ?_
  refine xv_if_ne fL_does_1 (fun h_1 => ?_) (fun h_1 => ?_)
  · refine xv_il1 fL_does_24 ?_
    refine xv_k fL_does_25 ?_
    refine xv_ic_ne fL_does_26 (fun h_26 => ?_) (fun h_26 => ?_)
    · refine xv_il1 fL_does_38 ?_
      refine xv_k fL_does_39 ?_
      refine xv_ic_ne fL_does_40 (fun h_40 => ?_) (fun h_40 => ?_)
      · refine xv_il1 fL_does_52 ?_
        refine xv_k fL_does_53 ?_
        refine xv_ic_ne fL_does_54 (fun h_54 => ?_) (fun h_54 => ?_)
        · refine xv_il1 fL_does_88 ?_
          refine xv_k fL_does_89 ?_
          refine xv_ic_ne fL_does_90 (fun h_90 => ?_) (fun h_90 => ?_)
          · refine xv_il1 fL_does_101 ?_
            refine xv_k fL_does_102 ?_
            refine xv_ic_ne fL_does_103 (fun h_103 => ?_) (fun h_103 => ?_)
            · refine xv_il1 fL_does_114 ?_
              refine xv_k fL_does_115 ?_
              refine xv_ic_ne fL_does_117 (fun h_117 => ?_) (fun h_117 => ?_)
              · refine xv_il1 fL_does_128 ?_
                refine xv_k fL_does_129 ?_
                refine xv_ic_ne fL_does_131 (fun h_131 => ?_) (fun h_131 => ?_)
                · refine xv_il1 fL_does_145 ?_
                  refine xv_k fL_does_146 ?_
                  refine xv_ic_ne fL_does_148 (fun h_148 => ?_) (fun h_148 => ?_)
                  · refine xv_il1 fL_does_159 ?_
                    refine xv_k fL_does_160 ?_
                    refine xv_ic_ne fL_does_162 (fun h_162 => ?_) (fun h_162 => ?_)
                    · exact absurd h_162 (by decide)
                    · refine xv_al0 fL_does_165 ?_
                      refine xv_il2 fL_does_166 ?_
                      refine xv_callVH (As := [.int x1]) (S := []) (kc' := 0) (ks' := 0) hM fL_does_167 YX10_lift VX10_lift lL_44 rfl rfl (sx_0 _ _) rfl rfl (Nat.le_of_ble_eq_true rfl) (by decide) (by decide) (by decide) ?_ ?_
                      · intro r s i rf j h _
                        obtain ⟨h1, -⟩ := h
                        cases h1
                      · intro E s i rf j h
                        obtain ⟨h1, rfl, rfl, rfl, rfl⟩ := h
                        cases h1
                        exact ⟨_, hn_167_I, xv_eq_i⟩
                  · exact absurd h_148 (by decide)
                · exact absurd h_131 (by decide)
              · exact absurd h_117 (by decide)
            · exact absurd h_103 (by decide)
          · exact absurd h_90 (by decide)
        · exact absurd h_54 (by decide)
      · exact absurd h_40 (by decide)
    · exact absurd h_26 (by decide)
  · exact absurd h_1 (by decide)
theorem w_lift_A (n : Nat) (c c' : Nat × Nat) (J : xv_J) {I I' : xv_I} {x1 x2 x3 x4 x5 : Int32} (hM : xv_Met mX10_lift 8 16 128 (sx n c) I (rx c) J [.ref 0, .int x1] (xv_eq (.inr "java/lang/IllegalArgumentException") (sx n c') I' (rx c') J)) : xv_Met mL_does 10 16 128 (sx n c) I (rx c) J [.ref 0, .int (nI 9), .int x1, .int x2, .int x3, .int x4, .int x5] (xv_eq (.inl (some (.int (-2000)))) (sx n c') I' (rx c') J) := by
  refine xv_Met.of (by decide +kernel) (Nat.le_of_ble_eq_true rfl) (List.forall_mem_cons.mpr ⟨rfl, List.forall_mem_cons.mpr ⟨rfl, List.forall_mem_cons.mpr ⟨rfl, List.forall_mem_cons.mpr ⟨rfl, List.forall_mem_cons.mpr ⟨rfl, List.forall_mem_cons.mpr ⟨rfl, List.forall_mem_cons.mpr ⟨rfl, fun _ h => nomatch h⟩⟩⟩⟩⟩⟩⟩) ?_
  show xv_W mL_does 10 16 128 _ 16 128 (sx n c) I (rx c) J 0 [some (.ref 0), some (.int (nI 9)), some (.int x1), some (.int x2), some (.int x3), some (.int x4), some (.int x5), none] []
  refine xv_il1 fL_does_0 ?_
  refine xv_if_ne fL_does_1 (fun h_1 => ?_) (fun h_1 => ?_)
  · refine xv_il1 fL_does_24 ?_
    refine xv_k fL_does_25 ?_
    refine xv_ic_ne fL_does_26 (fun h_26 => ?_) (fun h_26 => ?_)
    · refine xv_il1 fL_does_38 ?_
      refine xv_k fL_does_39 ?_
      refine xv_ic_ne fL_does_40 (fun h_40 => ?_) (fun h_40 => ?_)
      · refine xv_il1 fL_does_52 ?_
        refine xv_k fL_does_53 ?_
        refine xv_ic_ne fL_does_54 (fun h_54 => ?_) (fun h_54 => ?_)
        · refine xv_il1 fL_does_88 ?_
          refine xv_k fL_does_89 ?_
          refine xv_ic_ne fL_does_90 (fun h_90 => ?_) (fun h_90 => ?_)
          · refine xv_il1 fL_does_101 ?_
            refine xv_k fL_does_102 ?_
            refine xv_ic_ne fL_does_103 (fun h_103 => ?_) (fun h_103 => ?_)
            · refine xv_il1 fL_does_114 ?_
              refine xv_k fL_does_115 ?_
              refine xv_ic_ne fL_does_117 (fun h_117 => ?_) (fun h_117 => ?_)
              · refine xv_il1 fL_does_128 ?_
                refine xv_k fL_does_129 ?_
                refine xv_ic_ne fL_does_131 (fun h_131 => ?_) (fun h_131 => ?_)
                · refine xv_il1 fL_does_145 ?_
                  refine xv_k fL_does_146 ?_
                  refine xv_ic_ne fL_does_148 (fun h_148 => ?_) (fun h_148 => ?_)
                  · refine xv_il1 fL_does_159 ?_
                    refine xv_k fL_does_160 ?_
                    refine xv_ic_ne fL_does_162 (fun h_162 => ?_) (fun h_162 => ?_)
                    · exact absurd h_162 (by decide)
                    · refine xv_al0 fL_does_165 ?_
                      refine xv_il2 fL_does_166 ?_
                      refine xv_callVH (As := [.int x1]) (S := []) (kc' := 0) (ks' := 0) hM fL_does_167 YX10_lift VX10_lift lL_44 rfl rfl (sx_0 _ _) rfl rfl (Nat.le_of_ble_eq_true rfl) (by decide) (by decide) (by decide) ?_ ?_
                      · intro r s i rf j h _
                        obtain ⟨h1, -⟩ := h
                        cases h1
                      · intro E s i rf j h
                        obtain ⟨h1, rfl, rfl, rfl, rfl⟩ := h
                        cases h1
                        exact ⟨_, hn_167_A, xv_eq_i⟩
                  · exact absurd h_148 (by decide)
                · exact absurd h_131 (by decide)
              · exact absurd h_117 (by decide)
            · exact absurd h_103 (by decide)
          · exact absurd h_90 (by decide)
        · exact absurd h_54 (by decide)
      · exact absurd h_40 (by decide)
    · exact absurd h_26 (by decide)
  · exact absurd h_1 (by decide)
theorem w_lift_S (n : Nat) (c c' : Nat × Nat) (J : xv_J) {I I' : xv_I} {x1 x2 x3 x4 x5 : Int32} (hM : xv_Met mX10_lift 8 16 128 (sx n c) I (rx c) J [.ref 0, .int x1] (xv_eq (.inr "java/lang/IllegalStateException") (sx n c') I' (rx c') J)) : xv_Met mL_does 10 16 128 (sx n c) I (rx c) J [.ref 0, .int (nI 9), .int x1, .int x2, .int x3, .int x4, .int x5] (xv_eq (.inl (some (.int (-1000)))) (sx n c') I' (rx c') J) := by
  refine xv_Met.of (by decide +kernel) (Nat.le_of_ble_eq_true rfl) (List.forall_mem_cons.mpr ⟨rfl, List.forall_mem_cons.mpr ⟨rfl, List.forall_mem_cons.mpr ⟨rfl, List.forall_mem_cons.mpr ⟨rfl, List.forall_mem_cons.mpr ⟨rfl, List.forall_mem_cons.mpr ⟨rfl, List.forall_mem_cons.mpr ⟨rfl, fun _ h => nomatch h⟩⟩⟩⟩⟩⟩⟩) ?_
  show xv_W mL_does 10 16 128 _ 16 128 (sx n c) I (rx c) J 0 [some (.ref 0), some (.int (nI 9)), some (.int x1), some (.int x2), some (.int x3), some (.int x4), some (.int x5), none] []
  refine xv_il1 fL_does_0 ?_
  refine xv_if_ne fL_does_1 (fun h_1 => ?_) (fun h_1 => ?_)
  · refine xv_il1 fL_does_24 ?_
    refine xv_k fL_does_25 ?_
    refine xv_ic_ne fL_does_26 (fun h_26 => ?_) (fun h_26 => ?_)
    · refine xv_il1 fL_does_38 ?_
      refine xv_k fL_does_39 ?_
      refine xv_ic_ne fL_does_40 (fun h_40 => ?_) (fun h_40 => ?_)
      · refine xv_il1 fL_does_52 ?_
        refine xv_k fL_does_53 ?_
        refine xv_ic_ne fL_does_54 (fun h_54 => ?_) (fun h_54 => ?_)
        · refine xv_il1 fL_does_88 ?_
          refine xv_k fL_does_89 ?_
          refine xv_ic_ne fL_does_90 (fun h_90 => ?_) (fun h_90 => ?_)
          · refine xv_il1 fL_does_101 ?_
            refine xv_k fL_does_102 ?_
            refine xv_ic_ne fL_does_103 (fun h_103 => ?_) (fun h_103 => ?_)
            · refine xv_il1 fL_does_114 ?_
              refine xv_k fL_does_115 ?_
              refine xv_ic_ne fL_does_117 (fun h_117 => ?_) (fun h_117 => ?_)
              · refine xv_il1 fL_does_128 ?_
                refine xv_k fL_does_129 ?_
                refine xv_ic_ne fL_does_131 (fun h_131 => ?_) (fun h_131 => ?_)
                · refine xv_il1 fL_does_145 ?_
                  refine xv_k fL_does_146 ?_
                  refine xv_ic_ne fL_does_148 (fun h_148 => ?_) (fun h_148 => ?_)
                  · refine xv_il1 fL_does_159 ?_
                    refine xv_k fL_does_160 ?_
                    refine xv_ic_ne fL_does_162 (fun h_162 => ?_) (fun h_162 => ?_)
                    · exact absurd h_162 (by decide)
                    · refine xv_al0 fL_does_165 ?_
                      refine xv_il2 fL_does_166 ?_
                      refine xv_callVH (As := [.int x1]) (S := []) (kc' := 0) (ks' := 0) hM fL_does_167 YX10_lift VX10_lift lL_44 rfl rfl (sx_0 _ _) rfl rfl (Nat.le_of_ble_eq_true rfl) (by decide) (by decide) (by decide) ?_ ?_
                      · intro r s i rf j h _
                        obtain ⟨h1, -⟩ := h
                        cases h1
                      · intro E s i rf j h
                        obtain ⟨h1, rfl, rfl, rfl, rfl⟩ := h
                        cases h1
                        exact ⟨_, hn_167_S, xv_eq_i⟩
                  · exact absurd h_148 (by decide)
                · exact absurd h_131 (by decide)
              · exact absurd h_117 (by decide)
            · exact absurd h_103 (by decide)
          · exact absurd h_90 (by decide)
        · exact absurd h_54 (by decide)
      · exact absurd h_40 (by decide)
    · exact absurd h_26 (by decide)
  · exact absurd h_1 (by decide)
theorem w_change_ok (n : Nat) (c c' : Nat × Nat) (J : xv_J) {I I' : xv_I} {x1 x2 x3 x4 x5 : Int32} {v : Int32} (hM : xv_Met mX10_change 8 16 128 (sx n c) I (rx c) J [.ref 0, .int x1, .int x2] (xv_eq (.inl (some (.int (v)))) (sx n c') I' (rx c') J)) : xv_Met mL_does 10 16 128 (sx n c) I (rx c) J [.ref 0, .int (nI 10), .int x1, .int x2, .int x3, .int x4, .int x5] (xv_eq (.inl (some (.int (v)))) (sx n c') I' (rx c') J) := by
  refine xv_Met.of (by decide +kernel) (Nat.le_of_ble_eq_true rfl) (List.forall_mem_cons.mpr ⟨rfl, List.forall_mem_cons.mpr ⟨rfl, List.forall_mem_cons.mpr ⟨rfl, List.forall_mem_cons.mpr ⟨rfl, List.forall_mem_cons.mpr ⟨rfl, List.forall_mem_cons.mpr ⟨rfl, List.forall_mem_cons.mpr ⟨rfl, fun _ h => nomatch h⟩⟩⟩⟩⟩⟩⟩) ?_
  show xv_W mL_does 10 16 128 _ 16 128 (sx n c) I (rx c) J 0 [some (.ref 0), some (.int (nI 10)), some (.int x1), some (.int x2), some (.int x3), some (.int x4), some (.int x5), none] []
  refine xv_il1 fL_does_0 ?_
  refine xv_if_ne fL_does_1 (fun h_1 => ?_) (fun h_1 => ?_)
  · refine xv_il1 fL_does_24 ?_
    refine xv_k fL_does_25 ?_
    refine xv_ic_ne fL_does_26 (fun h_26 => ?_) (fun h_26 => ?_)
    · refine xv_il1 fL_does_38 ?_
      refine xv_k fL_does_39 ?_
      refine xv_ic_ne fL_does_40 (fun h_40 => ?_) (fun h_40 => ?_)
      · refine xv_il1 fL_does_52 ?_
        refine xv_k fL_does_53 ?_
        refine xv_ic_ne fL_does_54 (fun h_54 => ?_) (fun h_54 => ?_)
        · refine xv_il1 fL_does_88 ?_
          refine xv_k fL_does_89 ?_
          refine xv_ic_ne fL_does_90 (fun h_90 => ?_) (fun h_90 => ?_)
          · refine xv_il1 fL_does_101 ?_
            refine xv_k fL_does_102 ?_
            refine xv_ic_ne fL_does_103 (fun h_103 => ?_) (fun h_103 => ?_)
            · refine xv_il1 fL_does_114 ?_
              refine xv_k fL_does_115 ?_
              refine xv_ic_ne fL_does_117 (fun h_117 => ?_) (fun h_117 => ?_)
              · refine xv_il1 fL_does_128 ?_
                refine xv_k fL_does_129 ?_
                refine xv_ic_ne fL_does_131 (fun h_131 => ?_) (fun h_131 => ?_)
                · refine xv_il1 fL_does_145 ?_
                  refine xv_k fL_does_146 ?_
                  refine xv_ic_ne fL_does_148 (fun h_148 => ?_) (fun h_148 => ?_)
                  · refine xv_il1 fL_does_159 ?_
                    refine xv_k fL_does_160 ?_
                    refine xv_ic_ne fL_does_162 (fun h_162 => ?_) (fun h_162 => ?_)
                    · refine xv_il1 fL_does_173 ?_
                      refine xv_k fL_does_174 ?_
                      refine xv_ic_ne fL_does_176 (fun h_176 => ?_) (fun h_176 => ?_)
                      · exact absurd h_176 (by decide)
                      · refine xv_al0 fL_does_179 ?_
                        refine xv_il2 fL_does_180 ?_
                        refine xv_il3 fL_does_181 ?_
                        refine xv_callVH (As := [.int x1, .int x2]) (S := []) (kc' := 0) (ks' := 0) hM fL_does_182 YX10_change VX10_change lL_47 rfl rfl (sx_0 _ _) rfl rfl (Nat.le_of_ble_eq_true rfl) (by decide) (by decide) (by decide) ?_ ?_
                        · intro r s i rf j h _
                          obtain ⟨h1, rfl, rfl, rfl, rfl⟩ := h
                          cases h1
                          refine xv_goto fL_does_185 ?_
                          exact xv_iret fL_does_362 rfl rfl xv_eq_i
                        · intro E s i rf j h
                          obtain ⟨h1, -⟩ := h
                          cases h1
                    · exact absurd h_162 (by decide)
                  · exact absurd h_148 (by decide)
                · exact absurd h_131 (by decide)
              · exact absurd h_117 (by decide)
            · exact absurd h_103 (by decide)
          · exact absurd h_90 (by decide)
        · exact absurd h_54 (by decide)
      · exact absurd h_40 (by decide)
    · exact absurd h_26 (by decide)
  · exact absurd h_1 (by decide)
theorem w_change_I (n : Nat) (c c' : Nat × Nat) (J : xv_J) {I I' : xv_I} {x1 x2 x3 x4 x5 : Int32} (hM : xv_Met mX10_change 8 16 128 (sx n c) I (rx c) J [.ref 0, .int x1, .int x2] (xv_eq (.inr "java/lang/IndexOutOfBoundsException") (sx n c') I' (rx c') J)) : xv_Met mL_does 10 16 128 (sx n c) I (rx c) J [.ref 0, .int (nI 10), .int x1, .int x2, .int x3, .int x4, .int x5] (xv_eq (.inl (some (.int (-3000)))) (sx n c') I' (rx c') J) := by
  refine xv_Met.of (by decide +kernel) (Nat.le_of_ble_eq_true rfl) (List.forall_mem_cons.mpr ⟨rfl, List.forall_mem_cons.mpr ⟨rfl, List.forall_mem_cons.mpr ⟨rfl, List.forall_mem_cons.mpr ⟨rfl, List.forall_mem_cons.mpr ⟨rfl, List.forall_mem_cons.mpr ⟨rfl, List.forall_mem_cons.mpr ⟨rfl, fun _ h => nomatch h⟩⟩⟩⟩⟩⟩⟩) ?_
  show xv_W mL_does 10 16 128 _ 16 128 (sx n c) I (rx c) J 0 [some (.ref 0), some (.int (nI 10)), some (.int x1), some (.int x2), some (.int x3), some (.int x4), some (.int x5), none] []
  refine xv_il1 fL_does_0 ?_
  refine xv_if_ne fL_does_1 (fun h_1 => ?_) (fun h_1 => ?_)
  · refine xv_il1 fL_does_24 ?_
    refine xv_k fL_does_25 ?_
    refine xv_ic_ne fL_does_26 (fun h_26 => ?_) (fun h_26 => ?_)
    · refine xv_il1 fL_does_38 ?_
      refine xv_k fL_does_39 ?_
      refine xv_ic_ne fL_does_40 (fun h_40 => ?_) (fun h_40 => ?_)
      · refine xv_il1 fL_does_52 ?_
        refine xv_k fL_does_53 ?_
        refine xv_ic_ne fL_does_54 (fun h_54 => ?_) (fun h_54 => ?_)
        · refine xv_il1 fL_does_88 ?_
          refine xv_k fL_does_89 ?_
          refine xv_ic_ne fL_does_90 (fun h_90 => ?_) (fun h_90 => ?_)
          · refine xv_il1 fL_does_101 ?_
            refine xv_k fL_does_102 ?_
            refine xv_ic_ne fL_does_103 (fun h_103 => ?_) (fun h_103 => ?_)
            · refine xv_il1 fL_does_114 ?_
              refine xv_k fL_does_115 ?_
              refine xv_ic_ne fL_does_117 (fun h_117 => ?_) (fun h_117 => ?_)
              · refine xv_il1 fL_does_128 ?_
                refine xv_k fL_does_129 ?_
                refine xv_ic_ne fL_does_131 (fun h_131 => ?_) (fun h_131 => ?_)
                · refine xv_il1 fL_does_145 ?_
                  refine xv_k fL_does_146 ?_
                  refine xv_ic_ne fL_does_148 (fun h_148 => ?_) (fun h_148 => ?_)
                  · refine xv_il1 fL_does_159 ?_
                    refine xv_k fL_does_160 ?_
                    refine xv_ic_ne fL_does_162 (fun h_162 => ?_) (fun h_162 => ?_)
                    · refine xv_il1 fL_does_173 ?_
                      refine xv_k fL_does_174 ?_
                      refine xv_ic_ne fL_does_176 (fun h_176 => ?_) (fun h_176 => ?_)
                      · exact absurd h_176 (by decide)
                      · refine xv_al0 fL_does_179 ?_
                        refine xv_il2 fL_does_180 ?_
                        refine xv_il3 fL_does_181 ?_
                        refine xv_callVH (As := [.int x1, .int x2]) (S := []) (kc' := 0) (ks' := 0) hM fL_does_182 YX10_change VX10_change lL_47 rfl rfl (sx_0 _ _) rfl rfl (Nat.le_of_ble_eq_true rfl) (by decide) (by decide) (by decide) ?_ ?_
                        · intro r s i rf j h _
                          obtain ⟨h1, -⟩ := h
                          cases h1
                        · intro E s i rf j h
                          obtain ⟨h1, rfl, rfl, rfl, rfl⟩ := h
                          cases h1
                          exact ⟨_, hn_182_I, xv_eq_i⟩
                    · exact absurd h_162 (by decide)
                  · exact absurd h_148 (by decide)
                · exact absurd h_131 (by decide)
              · exact absurd h_117 (by decide)
            · exact absurd h_103 (by decide)
          · exact absurd h_90 (by decide)
        · exact absurd h_54 (by decide)
      · exact absurd h_40 (by decide)
    · exact absurd h_26 (by decide)
  · exact absurd h_1 (by decide)
theorem w_change_A (n : Nat) (c c' : Nat × Nat) (J : xv_J) {I I' : xv_I} {x1 x2 x3 x4 x5 : Int32} (hM : xv_Met mX10_change 8 16 128 (sx n c) I (rx c) J [.ref 0, .int x1, .int x2] (xv_eq (.inr "java/lang/IllegalArgumentException") (sx n c') I' (rx c') J)) : xv_Met mL_does 10 16 128 (sx n c) I (rx c) J [.ref 0, .int (nI 10), .int x1, .int x2, .int x3, .int x4, .int x5] (xv_eq (.inl (some (.int (-2000)))) (sx n c') I' (rx c') J) := by
  refine xv_Met.of (by decide +kernel) (Nat.le_of_ble_eq_true rfl) (List.forall_mem_cons.mpr ⟨rfl, List.forall_mem_cons.mpr ⟨rfl, List.forall_mem_cons.mpr ⟨rfl, List.forall_mem_cons.mpr ⟨rfl, List.forall_mem_cons.mpr ⟨rfl, List.forall_mem_cons.mpr ⟨rfl, List.forall_mem_cons.mpr ⟨rfl, fun _ h => nomatch h⟩⟩⟩⟩⟩⟩⟩) ?_
  show xv_W mL_does 10 16 128 _ 16 128 (sx n c) I (rx c) J 0 [some (.ref 0), some (.int (nI 10)), some (.int x1), some (.int x2), some (.int x3), some (.int x4), some (.int x5), none] []
  refine xv_il1 fL_does_0 ?_
  refine xv_if_ne fL_does_1 (fun h_1 => ?_) (fun h_1 => ?_)
  · refine xv_il1 fL_does_24 ?_
    refine xv_k fL_does_25 ?_
    refine xv_ic_ne fL_does_26 (fun h_26 => ?_) (fun h_26 => ?_)
    · refine xv_il1 fL_does_38 ?_
      refine xv_k fL_does_39 ?_
      refine xv_ic_ne fL_does_40 (fun h_40 => ?_) (fun h_40 => ?_)
      · refine xv_il1 fL_does_52 ?_
        refine xv_k fL_does_53 ?_
        refine xv_ic_ne fL_does_54 (fun h_54 => ?_) (fun h_54 => ?_)
        · refine xv_il1 fL_does_88 ?_
          refine xv_k fL_does_89 ?_
          refine xv_ic_ne fL_does_90 (fun h_90 => ?_) (fun h_90 => ?_)
          · refine xv_il1 fL_does_101 ?_
            refine xv_k fL_does_102 ?_
            refine xv_ic_ne fL_does_103 (fun h_103 => ?_) (fun h_103 => ?_)
            · refine xv_il1 fL_does_114 ?_
              refine xv_k fL_does_115 ?_
              refine xv_ic_ne fL_does_117 (fun h_117 => ?_) (fun h_117 => ?_)
              · refine xv_il1 fL_does_128 ?_
                refine xv_k fL_does_129 ?_
                refine xv_ic_ne fL_does_131 (fun h_131 => ?_) (fun h_131 => ?_)
                · refine xv_il1 fL_does_145 ?_
                  refine xv_k fL_does_146 ?_
                  refine xv_ic_ne fL_does_148 (fun h_148 => ?_) (fun h_148 => ?_)
                  · refine xv_il1 fL_does_159 ?_
                    refine xv_k fL_does_160 ?_
                    refine xv_ic_ne fL_does_162 (fun h_162 => ?_) (fun h_162 => ?_)
                    · refine xv_il1 fL_does_173 ?_
                      refine xv_k fL_does_174 ?_
                      refine xv_ic_ne fL_does_176 (fun h_176 => ?_) (fun h_176 => ?_)
                      · exact absurd h_176 (by decide)
                      · refine xv_al0 fL_does_179 ?_
                        refine xv_il2 fL_does_180 ?_
                        refine xv_il3 fL_does_181 ?_
                        refine xv_callVH (As := [.int x1, .int x2]) (S := []) (kc' := 0) (ks' := 0) hM fL_does_182 YX10_change VX10_change lL_47 rfl rfl (sx_0 _ _) rfl rfl (Nat.le_of_ble_eq_true rfl) (by decide) (by decide) (by decide) ?_ ?_
                        · intro r s i rf j h _
                          obtain ⟨h1, -⟩ := h
                          cases h1
                        · intro E s i rf j h
                          obtain ⟨h1, rfl, rfl, rfl, rfl⟩ := h
                          cases h1
                          exact ⟨_, hn_182_A, xv_eq_i⟩
                    · exact absurd h_162 (by decide)
                  · exact absurd h_148 (by decide)
                · exact absurd h_131 (by decide)
              · exact absurd h_117 (by decide)
            · exact absurd h_103 (by decide)
          · exact absurd h_90 (by decide)
        · exact absurd h_54 (by decide)
      · exact absurd h_40 (by decide)
    · exact absurd h_26 (by decide)
  · exact absurd h_1 (by decide)
theorem w_change_S (n : Nat) (c c' : Nat × Nat) (J : xv_J) {I I' : xv_I} {x1 x2 x3 x4 x5 : Int32} (hM : xv_Met mX10_change 8 16 128 (sx n c) I (rx c) J [.ref 0, .int x1, .int x2] (xv_eq (.inr "java/lang/IllegalStateException") (sx n c') I' (rx c') J)) : xv_Met mL_does 10 16 128 (sx n c) I (rx c) J [.ref 0, .int (nI 10), .int x1, .int x2, .int x3, .int x4, .int x5] (xv_eq (.inl (some (.int (-1000)))) (sx n c') I' (rx c') J) := by
  refine xv_Met.of (by decide +kernel) (Nat.le_of_ble_eq_true rfl) (List.forall_mem_cons.mpr ⟨rfl, List.forall_mem_cons.mpr ⟨rfl, List.forall_mem_cons.mpr ⟨rfl, List.forall_mem_cons.mpr ⟨rfl, List.forall_mem_cons.mpr ⟨rfl, List.forall_mem_cons.mpr ⟨rfl, List.forall_mem_cons.mpr ⟨rfl, fun _ h => nomatch h⟩⟩⟩⟩⟩⟩⟩) ?_
  show xv_W mL_does 10 16 128 _ 16 128 (sx n c) I (rx c) J 0 [some (.ref 0), some (.int (nI 10)), some (.int x1), some (.int x2), some (.int x3), some (.int x4), some (.int x5), none] []
  refine xv_il1 fL_does_0 ?_
  refine xv_if_ne fL_does_1 (fun h_1 => ?_) (fun h_1 => ?_)
  · refine xv_il1 fL_does_24 ?_
    refine xv_k fL_does_25 ?_
    refine xv_ic_ne fL_does_26 (fun h_26 => ?_) (fun h_26 => ?_)
    · refine xv_il1 fL_does_38 ?_
      refine xv_k fL_does_39 ?_
      refine xv_ic_ne fL_does_40 (fun h_40 => ?_) (fun h_40 => ?_)
      · refine xv_il1 fL_does_52 ?_
        refine xv_k fL_does_53 ?_
        refine xv_ic_ne fL_does_54 (fun h_54 => ?_) (fun h_54 => ?_)
        · refine xv_il1 fL_does_88 ?_
          refine xv_k fL_does_89 ?_
          refine xv_ic_ne fL_does_90 (fun h_90 => ?_) (fun h_90 => ?_)
          · refine xv_il1 fL_does_101 ?_
            refine xv_k fL_does_102 ?_
            refine xv_ic_ne fL_does_103 (fun h_103 => ?_) (fun h_103 => ?_)
            · refine xv_il1 fL_does_114 ?_
              refine xv_k fL_does_115 ?_
              refine xv_ic_ne fL_does_117 (fun h_117 => ?_) (fun h_117 => ?_)
              · refine xv_il1 fL_does_128 ?_
                refine xv_k fL_does_129 ?_
                refine xv_ic_ne fL_does_131 (fun h_131 => ?_) (fun h_131 => ?_)
                · refine xv_il1 fL_does_145 ?_
                  refine xv_k fL_does_146 ?_
                  refine xv_ic_ne fL_does_148 (fun h_148 => ?_) (fun h_148 => ?_)
                  · refine xv_il1 fL_does_159 ?_
                    refine xv_k fL_does_160 ?_
                    refine xv_ic_ne fL_does_162 (fun h_162 => ?_) (fun h_162 => ?_)
                    · refine xv_il1 fL_does_173 ?_
                      refine xv_k fL_does_174 ?_
                      refine xv_ic_ne fL_does_176 (fun h_176 => ?_) (fun h_176 => ?_)
                      · exact absurd h_176 (by decide)
                      · refine xv_al0 fL_does_179 ?_
                        refine xv_il2 fL_does_180 ?_
                        refine xv_il3 fL_does_181 ?_
                        refine xv_callVH (As := [.int x1, .int x2]) (S := []) (kc' := 0) (ks' := 0) hM fL_does_182 YX10_change VX10_change lL_47 rfl rfl (sx_0 _ _) rfl rfl (Nat.le_of_ble_eq_true rfl) (by decide) (by decide) (by decide) ?_ ?_
                        · intro r s i rf j h _
                          obtain ⟨h1, -⟩ := h
                          cases h1
                        · intro E s i rf j h
                          obtain ⟨h1, rfl, rfl, rfl, rfl⟩ := h
                          cases h1
                          exact ⟨_, hn_182_S, xv_eq_i⟩
                    · exact absurd h_162 (by decide)
                  · exact absurd h_148 (by decide)
                · exact absurd h_131 (by decide)
              · exact absurd h_117 (by decide)
            · exact absurd h_103 (by decide)
          · exact absurd h_90 (by decide)
        · exact absurd h_54 (by decide)
      · exact absurd h_40 (by decide)
    · exact absurd h_26 (by decide)
  · exact absurd h_1 (by decide)
theorem w_part_ok (n : Nat) (c c' : Nat × Nat) (J : xv_J) {I I' : xv_I} {x1 x2 x3 x4 x5 : Int32} {v : Int32} (hM : xv_Met mX10_part 8 16 128 (sx n c) I (rx c) J [.ref 0, .int x1, .int x2] (xv_eq (.inl (some (.int (v)))) (sx n c') I' (rx c') J)) : xv_Met mL_does 10 16 128 (sx n c) I (rx c) J [.ref 0, .int (nI 11), .int x1, .int x2, .int x3, .int x4, .int x5] (xv_eq (.inl (some (.int (v)))) (sx n c') I' (rx c') J) := by
  refine xv_Met.of (by decide +kernel) (Nat.le_of_ble_eq_true rfl) (List.forall_mem_cons.mpr ⟨rfl, List.forall_mem_cons.mpr ⟨rfl, List.forall_mem_cons.mpr ⟨rfl, List.forall_mem_cons.mpr ⟨rfl, List.forall_mem_cons.mpr ⟨rfl, List.forall_mem_cons.mpr ⟨rfl, List.forall_mem_cons.mpr ⟨rfl, fun _ h => nomatch h⟩⟩⟩⟩⟩⟩⟩) ?_
  show xv_W mL_does 10 16 128 _ 16 128 (sx n c) I (rx c) J 0 [some (.ref 0), some (.int (nI 11)), some (.int x1), some (.int x2), some (.int x3), some (.int x4), some (.int x5), none] []
  refine xv_il1 fL_does_0 ?_
  refine xv_if_ne fL_does_1 (fun h_1 => ?_) (fun h_1 => ?_)
  · refine xv_il1 fL_does_24 ?_
    refine xv_k fL_does_25 ?_
    refine xv_ic_ne fL_does_26 (fun h_26 => ?_) (fun h_26 => ?_)
    · refine xv_il1 fL_does_38 ?_
      refine xv_k fL_does_39 ?_
      refine xv_ic_ne fL_does_40 (fun h_40 => ?_) (fun h_40 => ?_)
      · refine xv_il1 fL_does_52 ?_
        refine xv_k fL_does_53 ?_
        refine xv_ic_ne fL_does_54 (fun h_54 => ?_) (fun h_54 => ?_)
        · refine xv_il1 fL_does_88 ?_
          refine xv_k fL_does_89 ?_
          refine xv_ic_ne fL_does_90 (fun h_90 => ?_) (fun h_90 => ?_)
          · refine xv_il1 fL_does_101 ?_
            refine xv_k fL_does_102 ?_
            refine xv_ic_ne fL_does_103 (fun h_103 => ?_) (fun h_103 => ?_)
            · refine xv_il1 fL_does_114 ?_
              refine xv_k fL_does_115 ?_
              refine xv_ic_ne fL_does_117 (fun h_117 => ?_) (fun h_117 => ?_)
              · refine xv_il1 fL_does_128 ?_
                refine xv_k fL_does_129 ?_
                refine xv_ic_ne fL_does_131 (fun h_131 => ?_) (fun h_131 => ?_)
                · refine xv_il1 fL_does_145 ?_
                  refine xv_k fL_does_146 ?_
                  refine xv_ic_ne fL_does_148 (fun h_148 => ?_) (fun h_148 => ?_)
                  · refine xv_il1 fL_does_159 ?_
                    refine xv_k fL_does_160 ?_
                    refine xv_ic_ne fL_does_162 (fun h_162 => ?_) (fun h_162 => ?_)
                    · refine xv_il1 fL_does_173 ?_
                      refine xv_k fL_does_174 ?_
                      refine xv_ic_ne fL_does_176 (fun h_176 => ?_) (fun h_176 => ?_)
                      · refine xv_il1 fL_does_188 ?_
                        refine xv_k fL_does_189 ?_
                        refine xv_ic_ne fL_does_191 (fun h_191 => ?_) (fun h_191 => ?_)
                        · exact absurd h_191 (by decide)
                        · refine xv_al0 fL_does_194 ?_
                          refine xv_il2 fL_does_195 ?_
                          refine xv_il3 fL_does_196 ?_
                          refine xv_callVH (As := [.int x1, .int x2]) (S := []) (kc' := 0) (ks' := 0) hM fL_does_197 YX10_part VX10_part lL_50 rfl rfl (sx_0 _ _) rfl rfl (Nat.le_of_ble_eq_true rfl) (by decide) (by decide) (by decide) ?_ ?_
                          · intro r s i rf j h _
                            obtain ⟨h1, rfl, rfl, rfl, rfl⟩ := h
                            cases h1
                            refine xv_goto fL_does_200 ?_
                            exact xv_iret fL_does_362 rfl rfl xv_eq_i
                          · intro E s i rf j h
                            obtain ⟨h1, -⟩ := h
                            cases h1
                      · exact absurd h_176 (by decide)
                    · exact absurd h_162 (by decide)
                  · exact absurd h_148 (by decide)
                · exact absurd h_131 (by decide)
              · exact absurd h_117 (by decide)
            · exact absurd h_103 (by decide)
          · exact absurd h_90 (by decide)
        · exact absurd h_54 (by decide)
      · exact absurd h_40 (by decide)
    · exact absurd h_26 (by decide)
  · exact absurd h_1 (by decide)
theorem w_part_I (n : Nat) (c c' : Nat × Nat) (J : xv_J) {I I' : xv_I} {x1 x2 x3 x4 x5 : Int32} (hM : xv_Met mX10_part 8 16 128 (sx n c) I (rx c) J [.ref 0, .int x1, .int x2] (xv_eq (.inr "java/lang/IndexOutOfBoundsException") (sx n c') I' (rx c') J)) : xv_Met mL_does 10 16 128 (sx n c) I (rx c) J [.ref 0, .int (nI 11), .int x1, .int x2, .int x3, .int x4, .int x5] (xv_eq (.inl (some (.int (-3000)))) (sx n c') I' (rx c') J) := by
  refine xv_Met.of (by decide +kernel) (Nat.le_of_ble_eq_true rfl) (List.forall_mem_cons.mpr ⟨rfl, List.forall_mem_cons.mpr ⟨rfl, List.forall_mem_cons.mpr ⟨rfl, List.forall_mem_cons.mpr ⟨rfl, List.forall_mem_cons.mpr ⟨rfl, List.forall_mem_cons.mpr ⟨rfl, List.forall_mem_cons.mpr ⟨rfl, fun _ h => nomatch h⟩⟩⟩⟩⟩⟩⟩) ?_
  show xv_W mL_does 10 16 128 _ 16 128 (sx n c) I (rx c) J 0 [some (.ref 0), some (.int (nI 11)), some (.int x1), some (.int x2), some (.int x3), some (.int x4), some (.int x5), none] []
  refine xv_il1 fL_does_0 ?_
  refine xv_if_ne fL_does_1 (fun h_1 => ?_) (fun h_1 => ?_)
  · refine xv_il1 fL_does_24 ?_
    refine xv_k fL_does_25 ?_
    refine xv_ic_ne fL_does_26 (fun h_26 => ?_) (fun h_26 => ?_)
    · refine xv_il1 fL_does_38 ?_
      refine xv_k fL_does_39 ?_
      refine xv_ic_ne fL_does_40 (fun h_40 => ?_) (fun h_40 => ?_)
      · refine xv_il1 fL_does_52 ?_
        refine xv_k fL_does_53 ?_
        refine xv_ic_ne fL_does_54 (fun h_54 => ?_) (fun h_54 => ?_)
        · refine xv_il1 fL_does_88 ?_
          refine xv_k fL_does_89 ?_
          refine xv_ic_ne fL_does_90 (fun h_90 => ?_) (fun h_90 => ?_)
          · refine xv_il1 fL_does_101 ?_
            refine xv_k fL_does_102 ?_
            refine xv_ic_ne fL_does_103 (fun h_103 => ?_) (fun h_103 => ?_)
            · refine xv_il1 fL_does_114 ?_
              refine xv_k fL_does_115 ?_
              refine xv_ic_ne fL_does_117 (fun h_117 => ?_) (fun h_117 => ?_)
              · refine xv_il1 fL_does_128 ?_
                refine xv_k fL_does_129 ?_
                refine xv_ic_ne fL_does_131 (fun h_131 => ?_) (fun h_131 => ?_)
                · refine xv_il1 fL_does_145 ?_
                  refine xv_k fL_does_146 ?_
                  refine xv_ic_ne fL_does_148 (fun h_148 => ?_) (fun h_148 => ?_)
                  · refine xv_il1 fL_does_159 ?_
                    refine xv_k fL_does_160 ?_
                    refine xv_ic_ne fL_does_162 (fun h_162 => ?_) (fun h_162 => ?_)
                    · refine xv_il1 fL_does_173 ?_
                      refine xv_k fL_does_174 ?_
                      refine xv_ic_ne fL_does_176 (fun h_176 => ?_) (fun h_176 => ?_)
                      · refine xv_il1 fL_does_188 ?_
                        refine xv_k fL_does_189 ?_
                        refine xv_ic_ne fL_does_191 (fun h_191 => ?_) (fun h_191 => ?_)
                        · exact absurd h_191 (by decide)
                        · refine xv_al0 fL_does_194 ?_
                          refine xv_il2 fL_does_195 ?_
                          refine xv_il3 fL_does_196 ?_
                          refine xv_callVH (As := [.int x1, .int x2]) (S := []) (kc' := 0) (ks' := 0) hM fL_does_197 YX10_part VX10_part lL_50 rfl rfl (sx_0 _ _) rfl rfl (Nat.le_of_ble_eq_true rfl) (by decide) (by decide) (by decide) ?_ ?_
                          · intro r s i rf j h _
                            obtain ⟨h1, -⟩ := h
                            cases h1
                          · intro E s i rf j h
                            obtain ⟨h1, rfl, rfl, rfl, rfl⟩ := h
                            cases h1
                            exact ⟨_, hn_197_I, xv_eq_i⟩
                      · exact absurd h_176 (by decide)
                    · exact absurd h_162 (by decide)
                  · exact absurd h_148 (by decide)
                · exact absurd h_131 (by decide)
              · exact absurd h_117 (by decide)
            · exact absurd h_103 (by decide)
          · exact absurd h_90 (by decide)
        · exact absurd h_54 (by decide)
      · exact absurd h_40 (by decide)
    · exact absurd h_26 (by decide)
  · exact absurd h_1 (by decide)
theorem w_part_A (n : Nat) (c c' : Nat × Nat) (J : xv_J) {I I' : xv_I} {x1 x2 x3 x4 x5 : Int32} (hM : xv_Met mX10_part 8 16 128 (sx n c) I (rx c) J [.ref 0, .int x1, .int x2] (xv_eq (.inr "java/lang/IllegalArgumentException") (sx n c') I' (rx c') J)) : xv_Met mL_does 10 16 128 (sx n c) I (rx c) J [.ref 0, .int (nI 11), .int x1, .int x2, .int x3, .int x4, .int x5] (xv_eq (.inl (some (.int (-2000)))) (sx n c') I' (rx c') J) := by
  refine xv_Met.of (by decide +kernel) (Nat.le_of_ble_eq_true rfl) (List.forall_mem_cons.mpr ⟨rfl, List.forall_mem_cons.mpr ⟨rfl, List.forall_mem_cons.mpr ⟨rfl, List.forall_mem_cons.mpr ⟨rfl, List.forall_mem_cons.mpr ⟨rfl, List.forall_mem_cons.mpr ⟨rfl, List.forall_mem_cons.mpr ⟨rfl, fun _ h => nomatch h⟩⟩⟩⟩⟩⟩⟩) ?_
  show xv_W mL_does 10 16 128 _ 16 128 (sx n c) I (rx c) J 0 [some (.ref 0), some (.int (nI 11)), some (.int x1), some (.int x2), some (.int x3), some (.int x4), some (.int x5), none] []
  refine xv_il1 fL_does_0 ?_
  refine xv_if_ne fL_does_1 (fun h_1 => ?_) (fun h_1 => ?_)
  · refine xv_il1 fL_does_24 ?_
    refine xv_k fL_does_25 ?_
    refine xv_ic_ne fL_does_26 (fun h_26 => ?_) (fun h_26 => ?_)
    · refine xv_il1 fL_does_38 ?_
      refine xv_k fL_does_39 ?_
      refine xv_ic_ne fL_does_40 (fun h_40 => ?_) (fun h_40 => ?_)
      · refine xv_il1 fL_does_52 ?_
        refine xv_k fL_does_53 ?_
        refine xv_ic_ne fL_does_54 (fun h_54 => ?_) (fun h_54 => ?_)
        · refine xv_il1 fL_does_88 ?_
          refine xv_k fL_does_89 ?_
          refine xv_ic_ne fL_does_90 (fun h_90 => ?_) (fun h_90 => ?_)
          · refine xv_il1 fL_does_101 ?_
            refine xv_k fL_does_102 ?_
            refine xv_ic_ne fL_does_103 (fun h_103 => ?_) (fun h_103 => ?_)
            · refine xv_il1 fL_does_114 ?_
              refine xv_k fL_does_115 ?_
              refine xv_ic_ne fL_does_117 (fun h_117 => ?_) (fun h_117 => ?_)
              · refine xv_il1 fL_does_128 ?_
                refine xv_k fL_does_129 ?_
                refine xv_ic_ne fL_does_131 (fun h_131 => ?_) (fun h_131 => ?_)
                · refine xv_il1 fL_does_145 ?_
                  refine xv_k fL_does_146 ?_
                  refine xv_ic_ne fL_does_148 (fun h_148 => ?_) (fun h_148 => ?_)
                  · refine xv_il1 fL_does_159 ?_
                    refine xv_k fL_does_160 ?_
                    refine xv_ic_ne fL_does_162 (fun h_162 => ?_) (fun h_162 => ?_)
                    · refine xv_il1 fL_does_173 ?_
                      refine xv_k fL_does_174 ?_
                      refine xv_ic_ne fL_does_176 (fun h_176 => ?_) (fun h_176 => ?_)
                      · refine xv_il1 fL_does_188 ?_
                        refine xv_k fL_does_189 ?_
                        refine xv_ic_ne fL_does_191 (fun h_191 => ?_) (fun h_191 => ?_)
                        · exact absurd h_191 (by decide)
                        · refine xv_al0 fL_does_194 ?_
                          refine xv_il2 fL_does_195 ?_
                          refine xv_il3 fL_does_196 ?_
                          refine xv_callVH (As := [.int x1, .int x2]) (S := []) (kc' := 0) (ks' := 0) hM fL_does_197 YX10_part VX10_part lL_50 rfl rfl (sx_0 _ _) rfl rfl (Nat.le_of_ble_eq_true rfl) (by decide) (by decide) (by decide) ?_ ?_
                          · intro r s i rf j h _
                            obtain ⟨h1, -⟩ := h
                            cases h1
                          · intro E s i rf j h
                            obtain ⟨h1, rfl, rfl, rfl, rfl⟩ := h
                            cases h1
                            exact ⟨_, hn_197_A, xv_eq_i⟩
                      · exact absurd h_176 (by decide)
                    · exact absurd h_162 (by decide)
                  · exact absurd h_148 (by decide)
                · exact absurd h_131 (by decide)
              · exact absurd h_117 (by decide)
            · exact absurd h_103 (by decide)
          · exact absurd h_90 (by decide)
        · exact absurd h_54 (by decide)
      · exact absurd h_40 (by decide)
    · exact absurd h_26 (by decide)
  · exact absurd h_1 (by decide)
theorem w_part_S (n : Nat) (c c' : Nat × Nat) (J : xv_J) {I I' : xv_I} {x1 x2 x3 x4 x5 : Int32} (hM : xv_Met mX10_part 8 16 128 (sx n c) I (rx c) J [.ref 0, .int x1, .int x2] (xv_eq (.inr "java/lang/IllegalStateException") (sx n c') I' (rx c') J)) : xv_Met mL_does 10 16 128 (sx n c) I (rx c) J [.ref 0, .int (nI 11), .int x1, .int x2, .int x3, .int x4, .int x5] (xv_eq (.inl (some (.int (-1000)))) (sx n c') I' (rx c') J) := by
  refine xv_Met.of (by decide +kernel) (Nat.le_of_ble_eq_true rfl) (List.forall_mem_cons.mpr ⟨rfl, List.forall_mem_cons.mpr ⟨rfl, List.forall_mem_cons.mpr ⟨rfl, List.forall_mem_cons.mpr ⟨rfl, List.forall_mem_cons.mpr ⟨rfl, List.forall_mem_cons.mpr ⟨rfl, List.forall_mem_cons.mpr ⟨rfl, fun _ h => nomatch h⟩⟩⟩⟩⟩⟩⟩) ?_
  show xv_W mL_does 10 16 128 _ 16 128 (sx n c) I (rx c) J 0 [some (.ref 0), some (.int (nI 11)), some (.int x1), some (.int x2), some (.int x3), some (.int x4), some (.int x5), none] []
  refine xv_il1 fL_does_0 ?_
  refine xv_if_ne fL_does_1 (fun h_1 => ?_) (fun h_1 => ?_)
  · refine xv_il1 fL_does_24 ?_
    refine xv_k fL_does_25 ?_
    refine xv_ic_ne fL_does_26 (fun h_26 => ?_) (fun h_26 => ?_)
    · refine xv_il1 fL_does_38 ?_
      refine xv_k fL_does_39 ?_
      refine xv_ic_ne fL_does_40 (fun h_40 => ?_) (fun h_40 => ?_)
      · refine xv_il1 fL_does_52 ?_
        refine xv_k fL_does_53 ?_
        refine xv_ic_ne fL_does_54 (fun h_54 => ?_) (fun h_54 => ?_)
        · refine xv_il1 fL_does_88 ?_
          refine xv_k fL_does_89 ?_
          refine xv_ic_ne fL_does_90 (fun h_90 => ?_) (fun h_90 => ?_)
          · refine xv_il1 fL_does_101 ?_
            refine xv_k fL_does_102 ?_
            refine xv_ic_ne fL_does_103 (fun h_103 => ?_) (fun h_103 => ?_)
            · refine xv_il1 fL_does_114 ?_
              refine xv_k fL_does_115 ?_
              refine xv_ic_ne fL_does_117 (fun h_117 => ?_) (fun h_117 => ?_)
              · refine xv_il1 fL_does_128 ?_
                refine xv_k fL_does_129 ?_
                refine xv_ic_ne fL_does_131 (fun h_131 => ?_) (fun h_131 => ?_)
                · refine xv_il1 fL_does_145 ?_
                  refine xv_k fL_does_146 ?_
                  refine xv_ic_ne fL_does_148 (fun h_148 => ?_) (fun h_148 => ?_)
                  · refine xv_il1 fL_does_159 ?_
                    refine xv_k fL_does_160 ?_
                    refine xv_ic_ne fL_does_162 (fun h_162 => ?_) (fun h_162 => ?_)
                    · refine xv_il1 fL_does_173 ?_
                      refine xv_k fL_does_174 ?_
                      refine xv_ic_ne fL_does_176 (fun h_176 => ?_) (fun h_176 => ?_)
                      · refine xv_il1 fL_does_188 ?_
                        refine xv_k fL_does_189 ?_
                        refine xv_ic_ne fL_does_191 (fun h_191 => ?_) (fun h_191 => ?_)
                        · exact absurd h_191 (by decide)
                        · refine xv_al0 fL_does_194 ?_
                          refine xv_il2 fL_does_195 ?_
                          refine xv_il3 fL_does_196 ?_
                          refine xv_callVH (As := [.int x1, .int x2]) (S := []) (kc' := 0) (ks' := 0) hM fL_does_197 YX10_part VX10_part lL_50 rfl rfl (sx_0 _ _) rfl rfl (Nat.le_of_ble_eq_true rfl) (by decide) (by decide) (by decide) ?_ ?_
                          · intro r s i rf j h _
                            obtain ⟨h1, -⟩ := h
                            cases h1
                          · intro E s i rf j h
                            obtain ⟨h1, rfl, rfl, rfl, rfl⟩ := h
                            cases h1
                            exact ⟨_, hn_197_S, xv_eq_i⟩
                      · exact absurd h_176 (by decide)
                    · exact absurd h_162 (by decide)
                  · exact absurd h_148 (by decide)
                · exact absurd h_131 (by decide)
              · exact absurd h_117 (by decide)
            · exact absurd h_103 (by decide)
          · exact absurd h_90 (by decide)
        · exact absurd h_54 (by decide)
      · exact absurd h_40 (by decide)
    · exact absurd h_26 (by decide)
  · exact absurd h_1 (by decide)
theorem w_person_ok (n : Nat) (c c' : Nat × Nat) (J : xv_J) {I I' : xv_I} {x1 x2 x3 x4 x5 : Int32} {v : Int32} (hM : xv_Met mX10_person 8 16 128 (sx n c) I (rx c) J [.ref 0, .int x1] (xv_eq (.inl (some (.int (v)))) (sx n c') I' (rx c') J)) : xv_Met mL_does 10 16 128 (sx n c) I (rx c) J [.ref 0, .int (nI 12), .int x1, .int x2, .int x3, .int x4, .int x5] (xv_eq (.inl (some (.int (if v = 0 then nI 0 else nI 1)))) (sx n c') I' (rx c') J) := by
  refine xv_Met.of (by decide +kernel) (Nat.le_of_ble_eq_true rfl) (List.forall_mem_cons.mpr ⟨rfl, List.forall_mem_cons.mpr ⟨rfl, List.forall_mem_cons.mpr ⟨rfl, List.forall_mem_cons.mpr ⟨rfl, List.forall_mem_cons.mpr ⟨rfl, List.forall_mem_cons.mpr ⟨rfl, List.forall_mem_cons.mpr ⟨rfl, fun _ h => nomatch h⟩⟩⟩⟩⟩⟩⟩) ?_
  show xv_W mL_does 10 16 128 _ 16 128 (sx n c) I (rx c) J 0 [some (.ref 0), some (.int (nI 12)), some (.int x1), some (.int x2), some (.int x3), some (.int x4), some (.int x5), none] []
  refine xv_il1 fL_does_0 ?_
  refine xv_if_ne fL_does_1 (fun h_1 => ?_) (fun h_1 => ?_)
  · refine xv_il1 fL_does_24 ?_
    refine xv_k fL_does_25 ?_
    refine xv_ic_ne fL_does_26 (fun h_26 => ?_) (fun h_26 => ?_)
    · refine xv_il1 fL_does_38 ?_
      refine xv_k fL_does_39 ?_
      refine xv_ic_ne fL_does_40 (fun h_40 => ?_) (fun h_40 => ?_)
      · refine xv_il1 fL_does_52 ?_
        refine xv_k fL_does_53 ?_
        refine xv_ic_ne fL_does_54 (fun h_54 => ?_) (fun h_54 => ?_)
        · refine xv_il1 fL_does_88 ?_
          refine xv_k fL_does_89 ?_
          refine xv_ic_ne fL_does_90 (fun h_90 => ?_) (fun h_90 => ?_)
          · refine xv_il1 fL_does_101 ?_
            refine xv_k fL_does_102 ?_
            refine xv_ic_ne fL_does_103 (fun h_103 => ?_) (fun h_103 => ?_)
            · refine xv_il1 fL_does_114 ?_
              refine xv_k fL_does_115 ?_
              refine xv_ic_ne fL_does_117 (fun h_117 => ?_) (fun h_117 => ?_)
              · refine xv_il1 fL_does_128 ?_
                refine xv_k fL_does_129 ?_
                refine xv_ic_ne fL_does_131 (fun h_131 => ?_) (fun h_131 => ?_)
                · refine xv_il1 fL_does_145 ?_
                  refine xv_k fL_does_146 ?_
                  refine xv_ic_ne fL_does_148 (fun h_148 => ?_) (fun h_148 => ?_)
                  · refine xv_il1 fL_does_159 ?_
                    refine xv_k fL_does_160 ?_
                    refine xv_ic_ne fL_does_162 (fun h_162 => ?_) (fun h_162 => ?_)
                    · refine xv_il1 fL_does_173 ?_
                      refine xv_k fL_does_174 ?_
                      refine xv_ic_ne fL_does_176 (fun h_176 => ?_) (fun h_176 => ?_)
                      · refine xv_il1 fL_does_188 ?_
                        refine xv_k fL_does_189 ?_
                        refine xv_ic_ne fL_does_191 (fun h_191 => ?_) (fun h_191 => ?_)
                        · refine xv_il1 fL_does_203 ?_
                          refine xv_k fL_does_204 ?_
                          refine xv_ic_ne fL_does_206 (fun h_206 => ?_) (fun h_206 => ?_)
                          · exact absurd h_206 (by decide)
                          · refine xv_al0 fL_does_209 ?_
                            refine xv_il2 fL_does_210 ?_
                            refine xv_callVH (As := [.int x1]) (S := []) (kc' := 0) (ks' := 0) hM fL_does_211 YX10_person VX10_person lL_53 rfl rfl (sx_0 _ _) rfl rfl (Nat.le_of_ble_eq_true rfl) (by decide) (by decide) (by decide) ?_ ?_
                            · intro r s i rf j h _
                              obtain ⟨h1, rfl, rfl, rfl, rfl⟩ := h
                              cases h1
                              refine xv_if_eq fL_does_214 (fun h_214 => ?_) (fun h_214 => ?_)
                              · refine xv_k fL_does_221 ?_
                                refine xv_goto fL_does_222 ?_
                                exact xv_iret fL_does_362 rfl rfl ⟨by rw [if_pos h_214], rfl, rfl, rfl, rfl⟩
                              · refine xv_k fL_does_217 ?_
                                refine xv_goto fL_does_218 ?_
                                exact xv_iret fL_does_362 rfl rfl ⟨by rw [if_neg h_214], rfl, rfl, rfl, rfl⟩
                            · intro E s i rf j h
                              obtain ⟨h1, -⟩ := h
                              cases h1
                        · exact absurd h_191 (by decide)
                      · exact absurd h_176 (by decide)
                    · exact absurd h_162 (by decide)
                  · exact absurd h_148 (by decide)
                · exact absurd h_131 (by decide)
              · exact absurd h_117 (by decide)
            · exact absurd h_103 (by decide)
          · exact absurd h_90 (by decide)
        · exact absurd h_54 (by decide)
      · exact absurd h_40 (by decide)
    · exact absurd h_26 (by decide)
  · exact absurd h_1 (by decide)
theorem w_person_I (n : Nat) (c c' : Nat × Nat) (J : xv_J) {I I' : xv_I} {x1 x2 x3 x4 x5 : Int32} (hM : xv_Met mX10_person 8 16 128 (sx n c) I (rx c) J [.ref 0, .int x1] (xv_eq (.inr "java/lang/IndexOutOfBoundsException") (sx n c') I' (rx c') J)) : xv_Met mL_does 10 16 128 (sx n c) I (rx c) J [.ref 0, .int (nI 12), .int x1, .int x2, .int x3, .int x4, .int x5] (xv_eq (.inl (some (.int (-3000)))) (sx n c') I' (rx c') J) := by
  refine xv_Met.of (by decide +kernel) (Nat.le_of_ble_eq_true rfl) (List.forall_mem_cons.mpr ⟨rfl, List.forall_mem_cons.mpr ⟨rfl, List.forall_mem_cons.mpr ⟨rfl, List.forall_mem_cons.mpr ⟨rfl, List.forall_mem_cons.mpr ⟨rfl, List.forall_mem_cons.mpr ⟨rfl, List.forall_mem_cons.mpr ⟨rfl, fun _ h => nomatch h⟩⟩⟩⟩⟩⟩⟩) ?_
  show xv_W mL_does 10 16 128 _ 16 128 (sx n c) I (rx c) J 0 [some (.ref 0), some (.int (nI 12)), some (.int x1), some (.int x2), some (.int x3), some (.int x4), some (.int x5), none] []
  refine xv_il1 fL_does_0 ?_
  refine xv_if_ne fL_does_1 (fun h_1 => ?_) (fun h_1 => ?_)
  · refine xv_il1 fL_does_24 ?_
    refine xv_k fL_does_25 ?_
    refine xv_ic_ne fL_does_26 (fun h_26 => ?_) (fun h_26 => ?_)
    · refine xv_il1 fL_does_38 ?_
      refine xv_k fL_does_39 ?_
      refine xv_ic_ne fL_does_40 (fun h_40 => ?_) (fun h_40 => ?_)
      · refine xv_il1 fL_does_52 ?_
        refine xv_k fL_does_53 ?_
        refine xv_ic_ne fL_does_54 (fun h_54 => ?_) (fun h_54 => ?_)
        · refine xv_il1 fL_does_88 ?_
          refine xv_k fL_does_89 ?_
          refine xv_ic_ne fL_does_90 (fun h_90 => ?_) (fun h_90 => ?_)
          · refine xv_il1 fL_does_101 ?_
            refine xv_k fL_does_102 ?_
            refine xv_ic_ne fL_does_103 (fun h_103 => ?_) (fun h_103 => ?_)
            · refine xv_il1 fL_does_114 ?_
              refine xv_k fL_does_115 ?_
              refine xv_ic_ne fL_does_117 (fun h_117 => ?_) (fun h_117 => ?_)
              · refine xv_il1 fL_does_128 ?_
                refine xv_k fL_does_129 ?_
                refine xv_ic_ne fL_does_131 (fun h_131 => ?_) (fun h_131 => ?_)
                · refine xv_il1 fL_does_145 ?_
                  refine xv_k fL_does_146 ?_
                  refine xv_ic_ne fL_does_148 (fun h_148 => ?_) (fun h_148 => ?_)
                  · refine xv_il1 fL_does_159 ?_
                    refine xv_k fL_does_160 ?_
                    refine xv_ic_ne fL_does_162 (fun h_162 => ?_) (fun h_162 => ?_)
                    · refine xv_il1 fL_does_173 ?_
                      refine xv_k fL_does_174 ?_
                      refine xv_ic_ne fL_does_176 (fun h_176 => ?_) (fun h_176 => ?_)
                      · refine xv_il1 fL_does_188 ?_
                        refine xv_k fL_does_189 ?_
                        refine xv_ic_ne fL_does_191 (fun h_191 => ?_) (fun h_191 => ?_)
                        · refine xv_il1 fL_does_203 ?_
                          refine xv_k fL_does_204 ?_
                          refine xv_ic_ne fL_does_206 (fun h_206 => ?_) (fun h_206 => ?_)
                          · exact absurd h_206 (by decide)
                          · refine xv_al0 fL_does_209 ?_
                            refine xv_il2 fL_does_210 ?_
                            refine xv_callVH (As := [.int x1]) (S := []) (kc' := 0) (ks' := 0) hM fL_does_211 YX10_person VX10_person lL_53 rfl rfl (sx_0 _ _) rfl rfl (Nat.le_of_ble_eq_true rfl) (by decide) (by decide) (by decide) ?_ ?_
                            · intro r s i rf j h _
                              obtain ⟨h1, -⟩ := h
                              cases h1
                            · intro E s i rf j h
                              obtain ⟨h1, rfl, rfl, rfl, rfl⟩ := h
                              cases h1
                              exact ⟨_, hn_211_I, xv_eq_i⟩
                        · exact absurd h_191 (by decide)
                      · exact absurd h_176 (by decide)
                    · exact absurd h_162 (by decide)
                  · exact absurd h_148 (by decide)
                · exact absurd h_131 (by decide)
              · exact absurd h_117 (by decide)
            · exact absurd h_103 (by decide)
          · exact absurd h_90 (by decide)
        · exact absurd h_54 (by decide)
      · exact absurd h_40 (by decide)
    · exact absurd h_26 (by decide)
  · exact absurd h_1 (by decide)
theorem w_person_A (n : Nat) (c c' : Nat × Nat) (J : xv_J) {I I' : xv_I} {x1 x2 x3 x4 x5 : Int32} (hM : xv_Met mX10_person 8 16 128 (sx n c) I (rx c) J [.ref 0, .int x1] (xv_eq (.inr "java/lang/IllegalArgumentException") (sx n c') I' (rx c') J)) : xv_Met mL_does 10 16 128 (sx n c) I (rx c) J [.ref 0, .int (nI 12), .int x1, .int x2, .int x3, .int x4, .int x5] (xv_eq (.inl (some (.int (-2000)))) (sx n c') I' (rx c') J) := by
  refine xv_Met.of (by decide +kernel) (Nat.le_of_ble_eq_true rfl) (List.forall_mem_cons.mpr ⟨rfl, List.forall_mem_cons.mpr ⟨rfl, List.forall_mem_cons.mpr ⟨rfl, List.forall_mem_cons.mpr ⟨rfl, List.forall_mem_cons.mpr ⟨rfl, List.forall_mem_cons.mpr ⟨rfl, List.forall_mem_cons.mpr ⟨rfl, fun _ h => nomatch h⟩⟩⟩⟩⟩⟩⟩) ?_
  show xv_W mL_does 10 16 128 _ 16 128 (sx n c) I (rx c) J 0 [some (.ref 0), some (.int (nI 12)), some (.int x1), some (.int x2), some (.int x3), some (.int x4), some (.int x5), none] []
  refine xv_il1 fL_does_0 ?_
  refine xv_if_ne fL_does_1 (fun h_1 => ?_) (fun h_1 => ?_)
  · refine xv_il1 fL_does_24 ?_
    refine xv_k fL_does_25 ?_
    refine xv_ic_ne fL_does_26 (fun h_26 => ?_) (fun h_26 => ?_)
    · refine xv_il1 fL_does_38 ?_
      refine xv_k fL_does_39 ?_
      refine xv_ic_ne fL_does_40 (fun h_40 => ?_) (fun h_40 => ?_)
      · refine xv_il1 fL_does_52 ?_
        refine xv_k fL_does_53 ?_
        refine xv_ic_ne fL_does_54 (fun h_54 => ?_) (fun h_54 => ?_)
        · refine xv_il1 fL_does_88 ?_
          refine xv_k fL_does_89 ?_
          refine xv_ic_ne fL_does_90 (fun h_90 => ?_) (fun h_90 => ?_)
          · refine xv_il1 fL_does_101 ?_
            refine xv_k fL_does_102 ?_
            refine xv_ic_ne fL_does_103 (fun h_103 => ?_) (fun h_103 => ?_)
            · refine xv_il1 fL_does_114 ?_
              refine xv_k fL_does_115 ?_
              refine xv_ic_ne fL_does_117 (fun h_117 => ?_) (fun h_117 => ?_)
              · refine xv_il1 fL_does_128 ?_
                refine xv_k fL_does_129 ?_
                refine xv_ic_ne fL_does_131 (fun h_131 => ?_) (fun h_131 => ?_)
                · refine xv_il1 fL_does_145 ?_
                  refine xv_k fL_does_146 ?_
                  refine xv_ic_ne fL_does_148 (fun h_148 => ?_) (fun h_148 => ?_)
                  · refine xv_il1 fL_does_159 ?_
                    refine xv_k fL_does_160 ?_
                    refine xv_ic_ne fL_does_162 (fun h_162 => ?_) (fun h_162 => ?_)
                    · refine xv_il1 fL_does_173 ?_
                      refine xv_k fL_does_174 ?_
                      refine xv_ic_ne fL_does_176 (fun h_176 => ?_) (fun h_176 => ?_)
                      · refine xv_il1 fL_does_188 ?_
                        refine xv_k fL_does_189 ?_
                        refine xv_ic_ne fL_does_191 (fun h_191 => ?_) (fun h_191 => ?_)
                        · refine xv_il1 fL_does_203 ?_
                          refine xv_k fL_does_204 ?_
                          refine xv_ic_ne fL_does_206 (fun h_206 => ?_) (fun h_206 => ?_)
                          · exact absurd h_206 (by decide)
                          · refine xv_al0 fL_does_209 ?_
                            refine xv_il2 fL_does_210 ?_
                            refine xv_callVH (As := [.int x1]) (S := []) (kc' := 0) (ks' := 0) hM fL_does_211 YX10_person VX10_person lL_53 rfl rfl (sx_0 _ _) rfl rfl (Nat.le_of_ble_eq_true rfl) (by decide) (by decide) (by decide) ?_ ?_
                            · intro r s i rf j h _
                              obtain ⟨h1, -⟩ := h
                              cases h1
                            · intro E s i rf j h
                              obtain ⟨h1, rfl, rfl, rfl, rfl⟩ := h
                              cases h1
                              exact ⟨_, hn_211_A, xv_eq_i⟩
                        · exact absurd h_191 (by decide)
                      · exact absurd h_176 (by decide)
                    · exact absurd h_162 (by decide)
                  · exact absurd h_148 (by decide)
                · exact absurd h_131 (by decide)
              · exact absurd h_117 (by decide)
            · exact absurd h_103 (by decide)
          · exact absurd h_90 (by decide)
        · exact absurd h_54 (by decide)
      · exact absurd h_40 (by decide)
    · exact absurd h_26 (by decide)
  · exact absurd h_1 (by decide)
theorem w_person_S (n : Nat) (c c' : Nat × Nat) (J : xv_J) {I I' : xv_I} {x1 x2 x3 x4 x5 : Int32} (hM : xv_Met mX10_person 8 16 128 (sx n c) I (rx c) J [.ref 0, .int x1] (xv_eq (.inr "java/lang/IllegalStateException") (sx n c') I' (rx c') J)) : xv_Met mL_does 10 16 128 (sx n c) I (rx c) J [.ref 0, .int (nI 12), .int x1, .int x2, .int x3, .int x4, .int x5] (xv_eq (.inl (some (.int (-1000)))) (sx n c') I' (rx c') J) := by
  refine xv_Met.of (by decide +kernel) (Nat.le_of_ble_eq_true rfl) (List.forall_mem_cons.mpr ⟨rfl, List.forall_mem_cons.mpr ⟨rfl, List.forall_mem_cons.mpr ⟨rfl, List.forall_mem_cons.mpr ⟨rfl, List.forall_mem_cons.mpr ⟨rfl, List.forall_mem_cons.mpr ⟨rfl, List.forall_mem_cons.mpr ⟨rfl, fun _ h => nomatch h⟩⟩⟩⟩⟩⟩⟩) ?_
  show xv_W mL_does 10 16 128 _ 16 128 (sx n c) I (rx c) J 0 [some (.ref 0), some (.int (nI 12)), some (.int x1), some (.int x2), some (.int x3), some (.int x4), some (.int x5), none] []
  refine xv_il1 fL_does_0 ?_
  refine xv_if_ne fL_does_1 (fun h_1 => ?_) (fun h_1 => ?_)
  · refine xv_il1 fL_does_24 ?_
    refine xv_k fL_does_25 ?_
    refine xv_ic_ne fL_does_26 (fun h_26 => ?_) (fun h_26 => ?_)
    · refine xv_il1 fL_does_38 ?_
      refine xv_k fL_does_39 ?_
      refine xv_ic_ne fL_does_40 (fun h_40 => ?_) (fun h_40 => ?_)
      · refine xv_il1 fL_does_52 ?_
        refine xv_k fL_does_53 ?_
        refine xv_ic_ne fL_does_54 (fun h_54 => ?_) (fun h_54 => ?_)
        · refine xv_il1 fL_does_88 ?_
          refine xv_k fL_does_89 ?_
          refine xv_ic_ne fL_does_90 (fun h_90 => ?_) (fun h_90 => ?_)
          · refine xv_il1 fL_does_101 ?_
            refine xv_k fL_does_102 ?_
            refine xv_ic_ne fL_does_103 (fun h_103 => ?_) (fun h_103 => ?_)
            · refine xv_il1 fL_does_114 ?_
              refine xv_k fL_does_115 ?_
              refine xv_ic_ne fL_does_117 (fun h_117 => ?_) (fun h_117 => ?_)
              · refine xv_il1 fL_does_128 ?_
                refine xv_k fL_does_129 ?_
                refine xv_ic_ne fL_does_131 (fun h_131 => ?_) (fun h_131 => ?_)
                · refine xv_il1 fL_does_145 ?_
                  refine xv_k fL_does_146 ?_
                  refine xv_ic_ne fL_does_148 (fun h_148 => ?_) (fun h_148 => ?_)
                  · refine xv_il1 fL_does_159 ?_
                    refine xv_k fL_does_160 ?_
                    refine xv_ic_ne fL_does_162 (fun h_162 => ?_) (fun h_162 => ?_)
                    · refine xv_il1 fL_does_173 ?_
                      refine xv_k fL_does_174 ?_
                      refine xv_ic_ne fL_does_176 (fun h_176 => ?_) (fun h_176 => ?_)
                      · refine xv_il1 fL_does_188 ?_
                        refine xv_k fL_does_189 ?_
                        refine xv_ic_ne fL_does_191 (fun h_191 => ?_) (fun h_191 => ?_)
                        · refine xv_il1 fL_does_203 ?_
                          refine xv_k fL_does_204 ?_
                          refine xv_ic_ne fL_does_206 (fun h_206 => ?_) (fun h_206 => ?_)
                          · exact absurd h_206 (by decide)
                          · refine xv_al0 fL_does_209 ?_
                            refine xv_il2 fL_does_210 ?_
                            refine xv_callVH (As := [.int x1]) (S := []) (kc' := 0) (ks' := 0) hM fL_does_211 YX10_person VX10_person lL_53 rfl rfl (sx_0 _ _) rfl rfl (Nat.le_of_ble_eq_true rfl) (by decide) (by decide) (by decide) ?_ ?_
                            · intro r s i rf j h _
                              obtain ⟨h1, -⟩ := h
                              cases h1
                            · intro E s i rf j h
                              obtain ⟨h1, rfl, rfl, rfl, rfl⟩ := h
                              cases h1
                              exact ⟨_, hn_211_S, xv_eq_i⟩
                        · exact absurd h_191 (by decide)
                      · exact absurd h_176 (by decide)
                    · exact absurd h_162 (by decide)
                  · exact absurd h_148 (by decide)
                · exact absurd h_131 (by decide)
              · exact absurd h_117 (by decide)
            · exact absurd h_103 (by decide)
          · exact absurd h_90 (by decide)
        · exact absurd h_54 (by decide)
      · exact absurd h_40 (by decide)
    · exact absurd h_26 (by decide)
  · exact absurd h_1 (by decide)
theorem w_sign_ok (n : Nat) (c c' : Nat × Nat) (J : xv_J) {I I' : xv_I} {x1 x2 x3 x4 x5 : Int32} {v : Int32} (hM : xv_Met mX10_sign 8 16 128 (sx n c) I (rx c) J [.ref 0, .int x1, .int x2] (xv_eq (.inl (some (.int (v)))) (sx n c') I' (rx c') J)) : xv_Met mL_does 10 16 128 (sx n c) I (rx c) J [.ref 0, .int (nI 13), .int x1, .int x2, .int x3, .int x4, .int x5] (xv_eq (.inl (some (.int (v)))) (sx n c') I' (rx c') J) := by
  refine xv_Met.of (by decide +kernel) (Nat.le_of_ble_eq_true rfl) (List.forall_mem_cons.mpr ⟨rfl, List.forall_mem_cons.mpr ⟨rfl, List.forall_mem_cons.mpr ⟨rfl, List.forall_mem_cons.mpr ⟨rfl, List.forall_mem_cons.mpr ⟨rfl, List.forall_mem_cons.mpr ⟨rfl, List.forall_mem_cons.mpr ⟨rfl, fun _ h => nomatch h⟩⟩⟩⟩⟩⟩⟩) ?_
  show xv_W mL_does 10 16 128 _ 16 128 (sx n c) I (rx c) J 0 [some (.ref 0), some (.int (nI 13)), some (.int x1), some (.int x2), some (.int x3), some (.int x4), some (.int x5), none] []
  refine xv_il1 fL_does_0 ?_
  refine xv_if_ne fL_does_1 (fun h_1 => ?_) (fun h_1 => ?_)
  · refine xv_il1 fL_does_24 ?_
    refine xv_k fL_does_25 ?_
    refine xv_ic_ne fL_does_26 (fun h_26 => ?_) (fun h_26 => ?_)
    · refine xv_il1 fL_does_38 ?_
      refine xv_k fL_does_39 ?_
      refine xv_ic_ne fL_does_40 (fun h_40 => ?_) (fun h_40 => ?_)
      · refine xv_il1 fL_does_52 ?_
        refine xv_k fL_does_53 ?_
        refine xv_ic_ne fL_does_54 (fun h_54 => ?_) (fun h_54 => ?_)
        · refine xv_il1 fL_does_88 ?_
          refine xv_k fL_does_89 ?_
          refine xv_ic_ne fL_does_90 (fun h_90 => ?_) (fun h_90 => ?_)
          · refine xv_il1 fL_does_101 ?_
            refine xv_k fL_does_102 ?_
            refine xv_ic_ne fL_does_103 (fun h_103 => ?_) (fun h_103 => ?_)
            · refine xv_il1 fL_does_114 ?_
              refine xv_k fL_does_115 ?_
              refine xv_ic_ne fL_does_117 (fun h_117 => ?_) (fun h_117 => ?_)
              · refine xv_il1 fL_does_128 ?_
                refine xv_k fL_does_129 ?_
                refine xv_ic_ne fL_does_131 (fun h_131 => ?_) (fun h_131 => ?_)
                · refine xv_il1 fL_does_145 ?_
                  refine xv_k fL_does_146 ?_
                  refine xv_ic_ne fL_does_148 (fun h_148 => ?_) (fun h_148 => ?_)
                  · refine xv_il1 fL_does_159 ?_
                    refine xv_k fL_does_160 ?_
                    refine xv_ic_ne fL_does_162 (fun h_162 => ?_) (fun h_162 => ?_)
                    · refine xv_il1 fL_does_173 ?_
                      refine xv_k fL_does_174 ?_
                      refine xv_ic_ne fL_does_176 (fun h_176 => ?_) (fun h_176 => ?_)
                      · refine xv_il1 fL_does_188 ?_
                        refine xv_k fL_does_189 ?_
                        refine xv_ic_ne fL_does_191 (fun h_191 => ?_) (fun h_191 => ?_)
                        · refine xv_il1 fL_does_203 ?_
                          refine xv_k fL_does_204 ?_
                          refine xv_ic_ne fL_does_206 (fun h_206 => ?_) (fun h_206 => ?_)
                          · refine xv_il1 fL_does_225 ?_
                            refine xv_k fL_does_226 ?_
                            refine xv_ic_ne fL_does_228 (fun h_228 => ?_) (fun h_228 => ?_)
                            · exact absurd h_228 (by decide)
                            · refine xv_al0 fL_does_231 ?_
                              refine xv_il2 fL_does_232 ?_
                              refine xv_il3 fL_does_233 ?_
                              refine xv_callVH (As := [.int x1, .int x2]) (S := []) (kc' := 0) (ks' := 0) hM fL_does_234 YX10_sign VX10_sign lL_57 rfl rfl (sx_0 _ _) rfl rfl (Nat.le_of_ble_eq_true rfl) (by decide) (by decide) (by decide) ?_ ?_
                              · intro r s i rf j h _
                                obtain ⟨h1, rfl, rfl, rfl, rfl⟩ := h
                                cases h1
                                refine xv_goto fL_does_237 ?_
                                exact xv_iret fL_does_362 rfl rfl xv_eq_i
                              · intro E s i rf j h
                                obtain ⟨h1, -⟩ := h
                                cases h1
                          · exact absurd h_206 (by decide)
                        · exact absurd h_191 (by decide)
                      · exact absurd h_176 (by decide)
                    · exact absurd h_162 (by decide)
                  · exact absurd h_148 (by decide)
                · exact absurd h_131 (by decide)
              · exact absurd h_117 (by decide)
            · exact absurd h_103 (by decide)
          · exact absurd h_90 (by decide)
        · exact absurd h_54 (by decide)
      · exact absurd h_40 (by decide)
    · exact absurd h_26 (by decide)
  · exact absurd h_1 (by decide)
theorem w_sign_I (n : Nat) (c c' : Nat × Nat) (J : xv_J) {I I' : xv_I} {x1 x2 x3 x4 x5 : Int32} (hM : xv_Met mX10_sign 8 16 128 (sx n c) I (rx c) J [.ref 0, .int x1, .int x2] (xv_eq (.inr "java/lang/IndexOutOfBoundsException") (sx n c') I' (rx c') J)) : xv_Met mL_does 10 16 128 (sx n c) I (rx c) J [.ref 0, .int (nI 13), .int x1, .int x2, .int x3, .int x4, .int x5] (xv_eq (.inl (some (.int (-3000)))) (sx n c') I' (rx c') J) := by
  refine xv_Met.of (by decide +kernel) (Nat.le_of_ble_eq_true rfl) (List.forall_mem_cons.mpr ⟨rfl, List.forall_mem_cons.mpr ⟨rfl, List.forall_mem_cons.mpr ⟨rfl, List.forall_mem_cons.mpr ⟨rfl, List.forall_mem_cons.mpr ⟨rfl, List.forall_mem_cons.mpr ⟨rfl, List.forall_mem_cons.mpr ⟨rfl, fun _ h => nomatch h⟩⟩⟩⟩⟩⟩⟩) ?_
  show xv_W mL_does 10 16 128 _ 16 128 (sx n c) I (rx c) J 0 [some (.ref 0), some (.int (nI 13)), some (.int x1), some (.int x2), some (.int x3), some (.int x4), some (.int x5), none] []
  refine xv_il1 fL_does_0 ?_
  refine xv_if_ne fL_does_1 (fun h_1 => ?_) (fun h_1 => ?_)
  · refine xv_il1 fL_does_24 ?_
    refine xv_k fL_does_25 ?_
    refine xv_ic_ne fL_does_26 (fun h_26 => ?_) (fun h_26 => ?_)
    · refine xv_il1 fL_does_38 ?_
      refine xv_k fL_does_39 ?_
      refine xv_ic_ne fL_does_40 (fun h_40 => ?_) (fun h_40 => ?_)
      · refine xv_il1 fL_does_52 ?_
        refine xv_k fL_does_53 ?_
        refine xv_ic_ne fL_does_54 (fun h_54 => ?_) (fun h_54 => ?_)
        · refine xv_il1 fL_does_88 ?_
          refine xv_k fL_does_89 ?_
          refine xv_ic_ne fL_does_90 (fun h_90 => ?_) (fun h_90 => ?_)
          · refine xv_il1 fL_does_101 ?_
            refine xv_k fL_does_102 ?_
            refine xv_ic_ne fL_does_103 (fun h_103 => ?_) (fun h_103 => ?_)
            · refine xv_il1 fL_does_114 ?_
              refine xv_k fL_does_115 ?_
              refine xv_ic_ne fL_does_117 (fun h_117 => ?_) (fun h_117 => ?_)
              · refine xv_il1 fL_does_128 ?_
                refine xv_k fL_does_129 ?_
                refine xv_ic_ne fL_does_131 (fun h_131 => ?_) (fun h_131 => ?_)
                · refine xv_il1 fL_does_145 ?_
                  refine xv_k fL_does_146 ?_
                  refine xv_ic_ne fL_does_148 (fun h_148 => ?_) (fun h_148 => ?_)
                  · refine xv_il1 fL_does_159 ?_
                    refine xv_k fL_does_160 ?_
                    refine xv_ic_ne fL_does_162 (fun h_162 => ?_) (fun h_162 => ?_)
                    · refine xv_il1 fL_does_173 ?_
                      refine xv_k fL_does_174 ?_
                      refine xv_ic_ne fL_does_176 (fun h_176 => ?_) (fun h_176 => ?_)
                      · refine xv_il1 fL_does_188 ?_
                        refine xv_k fL_does_189 ?_
                        refine xv_ic_ne fL_does_191 (fun h_191 => ?_) (fun h_191 => ?_)
                        · refine xv_il1 fL_does_203 ?_
                          refine xv_k fL_does_204 ?_
                          refine xv_ic_ne fL_does_206 (fun h_206 => ?_) (fun h_206 => ?_)
                          · refine xv_il1 fL_does_225 ?_
                            refine xv_k fL_does_226 ?_
                            refine xv_ic_ne fL_does_228 (fun h_228 => ?_) (fun h_228 => ?_)
                            · exact absurd h_228 (by decide)
                            · refine xv_al0 fL_does_231 ?_
                              refine xv_il2 fL_does_232 ?_
                              refine xv_il3 fL_does_233 ?_
                              refine xv_callVH (As := [.int x1, .int x2]) (S := []) (kc' := 0) (ks' := 0) hM fL_does_234 YX10_sign VX10_sign lL_57 rfl rfl (sx_0 _ _) rfl rfl (Nat.le_of_ble_eq_true rfl) (by decide) (by decide) (by decide) ?_ ?_
                              · intro r s i rf j h _
                                obtain ⟨h1, -⟩ := h
                                cases h1
                              · intro E s i rf j h
                                obtain ⟨h1, rfl, rfl, rfl, rfl⟩ := h
                                cases h1
                                exact ⟨_, hn_234_I, xv_eq_i⟩
                          · exact absurd h_206 (by decide)
                        · exact absurd h_191 (by decide)
                      · exact absurd h_176 (by decide)
                    · exact absurd h_162 (by decide)
                  · exact absurd h_148 (by decide)
                · exact absurd h_131 (by decide)
              · exact absurd h_117 (by decide)
            · exact absurd h_103 (by decide)
          · exact absurd h_90 (by decide)
        · exact absurd h_54 (by decide)
      · exact absurd h_40 (by decide)
    · exact absurd h_26 (by decide)
  · exact absurd h_1 (by decide)
theorem w_sign_A (n : Nat) (c c' : Nat × Nat) (J : xv_J) {I I' : xv_I} {x1 x2 x3 x4 x5 : Int32} (hM : xv_Met mX10_sign 8 16 128 (sx n c) I (rx c) J [.ref 0, .int x1, .int x2] (xv_eq (.inr "java/lang/IllegalArgumentException") (sx n c') I' (rx c') J)) : xv_Met mL_does 10 16 128 (sx n c) I (rx c) J [.ref 0, .int (nI 13), .int x1, .int x2, .int x3, .int x4, .int x5] (xv_eq (.inl (some (.int (-2000)))) (sx n c') I' (rx c') J) := by
  refine xv_Met.of (by decide +kernel) (Nat.le_of_ble_eq_true rfl) (List.forall_mem_cons.mpr ⟨rfl, List.forall_mem_cons.mpr ⟨rfl, List.forall_mem_cons.mpr ⟨rfl, List.forall_mem_cons.mpr ⟨rfl, List.forall_mem_cons.mpr ⟨rfl, List.forall_mem_cons.mpr ⟨rfl, List.forall_mem_cons.mpr ⟨rfl, fun _ h => nomatch h⟩⟩⟩⟩⟩⟩⟩) ?_
  show xv_W mL_does 10 16 128 _ 16 128 (sx n c) I (rx c) J 0 [some (.ref 0), some (.int (nI 13)), some (.int x1), some (.int x2), some (.int x3), some (.int x4), some (.int x5), none] []
  refine xv_il1 fL_does_0 ?_
  refine xv_if_ne fL_does_1 (fun h_1 => ?_) (fun h_1 => ?_)
  · refine xv_il1 fL_does_24 ?_
    refine xv_k fL_does_25 ?_
    refine xv_ic_ne fL_does_26 (fun h_26 => ?_) (fun h_26 => ?_)
    · refine xv_il1 fL_does_38 ?_
      refine xv_k fL_does_39 ?_
      refine xv_ic_ne fL_does_40 (fun h_40 => ?_) (fun h_40 => ?_)
      · refine xv_il1 fL_does_52 ?_
        refine xv_k fL_does_53 ?_
        refine xv_ic_ne fL_does_54 (fun h_54 => ?_) (fun h_54 => ?_)
        · refine xv_il1 fL_does_88 ?_
          refine xv_k fL_does_89 ?_
          refine xv_ic_ne fL_does_90 (fun h_90 => ?_) (fun h_90 => ?_)
          · refine xv_il1 fL_does_101 ?_
            refine xv_k fL_does_102 ?_
            refine xv_ic_ne fL_does_103 (fun h_103 => ?_) (fun h_103 => ?_)
            · refine xv_il1 fL_does_114 ?_
              refine xv_k fL_does_115 ?_
              refine xv_ic_ne fL_does_117 (fun h_117 => ?_) (fun h_117 => ?_)
              · refine xv_il1 fL_does_128 ?_
                refine xv_k fL_does_129 ?_
                refine xv_ic_ne fL_does_131 (fun h_131 => ?_) (fun h_131 => ?_)
                · refine xv_il1 fL_does_145 ?_
                  refine xv_k fL_does_146 ?_
                  refine xv_ic_ne fL_does_148 (fun h_148 => ?_) (fun h_148 => ?_)
                  · refine xv_il1 fL_does_159 ?_
                    refine xv_k fL_does_160 ?_
                    refine xv_ic_ne fL_does_162 (fun h_162 => ?_) (fun h_162 => ?_)
                    · refine xv_il1 fL_does_173 ?_
                      refine xv_k fL_does_174 ?_
                      refine xv_ic_ne fL_does_176 (fun h_176 => ?_) (fun h_176 => ?_)
                      · refine xv_il1 fL_does_188 ?_
                        refine xv_k fL_does_189 ?_
                        refine xv_ic_ne fL_does_191 (fun h_191 => ?_) (fun h_191 => ?_)
                        · refine xv_il1 fL_does_203 ?_
                          refine xv_k fL_does_204 ?_
                          refine xv_ic_ne fL_does_206 (fun h_206 => ?_) (fun h_206 => ?_)
                          · refine xv_il1 fL_does_225 ?_
                            refine xv_k fL_does_226 ?_
                            refine xv_ic_ne fL_does_228 (fun h_228 => ?_) (fun h_228 => ?_)
                            · exact absurd h_228 (by decide)
                            · refine xv_al0 fL_does_231 ?_
                              refine xv_il2 fL_does_232 ?_
                              refine xv_il3 fL_does_233 ?_
                              refine xv_callVH (As := [.int x1, .int x2]) (S := []) (kc' := 0) (ks' := 0) hM fL_does_234 YX10_sign VX10_sign lL_57 rfl rfl (sx_0 _ _) rfl rfl (Nat.le_of_ble_eq_true rfl) (by decide) (by decide) (by decide) ?_ ?_
                              · intro r s i rf j h _
                                obtain ⟨h1, -⟩ := h
                                cases h1
                              · intro E s i rf j h
                                obtain ⟨h1, rfl, rfl, rfl, rfl⟩ := h
                                cases h1
                                exact ⟨_, hn_234_A, xv_eq_i⟩
                          · exact absurd h_206 (by decide)
                        · exact absurd h_191 (by decide)
                      · exact absurd h_176 (by decide)
                    · exact absurd h_162 (by decide)
                  · exact absurd h_148 (by decide)
                · exact absurd h_131 (by decide)
              · exact absurd h_117 (by decide)
            · exact absurd h_103 (by decide)
          · exact absurd h_90 (by decide)
        · exact absurd h_54 (by decide)
      · exact absurd h_40 (by decide)
    · exact absurd h_26 (by decide)
  · exact absurd h_1 (by decide)
theorem w_sign_S (n : Nat) (c c' : Nat × Nat) (J : xv_J) {I I' : xv_I} {x1 x2 x3 x4 x5 : Int32} (hM : xv_Met mX10_sign 8 16 128 (sx n c) I (rx c) J [.ref 0, .int x1, .int x2] (xv_eq (.inr "java/lang/IllegalStateException") (sx n c') I' (rx c') J)) : xv_Met mL_does 10 16 128 (sx n c) I (rx c) J [.ref 0, .int (nI 13), .int x1, .int x2, .int x3, .int x4, .int x5] (xv_eq (.inl (some (.int (-1000)))) (sx n c') I' (rx c') J) := by
  refine xv_Met.of (by decide +kernel) (Nat.le_of_ble_eq_true rfl) (List.forall_mem_cons.mpr ⟨rfl, List.forall_mem_cons.mpr ⟨rfl, List.forall_mem_cons.mpr ⟨rfl, List.forall_mem_cons.mpr ⟨rfl, List.forall_mem_cons.mpr ⟨rfl, List.forall_mem_cons.mpr ⟨rfl, List.forall_mem_cons.mpr ⟨rfl, fun _ h => nomatch h⟩⟩⟩⟩⟩⟩⟩) ?_
  show xv_W mL_does 10 16 128 _ 16 128 (sx n c) I (rx c) J 0 [some (.ref 0), some (.int (nI 13)), some (.int x1), some (.int x2), some (.int x3), some (.int x4), some (.int x5), none] []
  refine xv_il1 fL_does_0 ?_
  refine xv_if_ne fL_does_1 (fun h_1 => ?_) (fun h_1 => ?_)
  · refine xv_il1 fL_does_24 ?_
    refine xv_k fL_does_25 ?_
    refine xv_ic_ne fL_does_26 (fun h_26 => ?_) (fun h_26 => ?_)
    · refine xv_il1 fL_does_38 ?_
      refine xv_k fL_does_39 ?_
      refine xv_ic_ne fL_does_40 (fun h_40 => ?_) (fun h_40 => ?_)
      · refine xv_il1 fL_does_52 ?_
        refine xv_k fL_does_53 ?_
        refine xv_ic_ne fL_does_54 (fun h_54 => ?_) (fun h_54 => ?_)
        · refine xv_il1 fL_does_88 ?_
          refine xv_k fL_does_89 ?_
          refine xv_ic_ne fL_does_90 (fun h_90 => ?_) (fun h_90 => ?_)
          · refine xv_il1 fL_does_101 ?_
            refine xv_k fL_does_102 ?_
            refine xv_ic_ne fL_does_103 (fun h_103 => ?_) (fun h_103 => ?_)
            · refine xv_il1 fL_does_114 ?_
              refine xv_k fL_does_115 ?_
              refine xv_ic_ne fL_does_117 (fun h_117 => ?_) (fun h_117 => ?_)
              · refine xv_il1 fL_does_128 ?_
                refine xv_k fL_does_129 ?_
                refine xv_ic_ne fL_does_131 (fun h_131 => ?_) (fun h_131 => ?_)
                · refine xv_il1 fL_does_145 ?_
                  refine xv_k fL_does_146 ?_
                  refine xv_ic_ne fL_does_148 (fun h_148 => ?_) (fun h_148 => ?_)
                  · refine xv_il1 fL_does_159 ?_
                    refine xv_k fL_does_160 ?_
                    refine xv_ic_ne fL_does_162 (fun h_162 => ?_) (fun h_162 => ?_)
                    · refine xv_il1 fL_does_173 ?_
                      refine xv_k fL_does_174 ?_
                      refine xv_ic_ne fL_does_176 (fun h_176 => ?_) (fun h_176 => ?_)
                      · refine xv_il1 fL_does_188 ?_
                        refine xv_k fL_does_189 ?_
                        refine xv_ic_ne fL_does_191 (fun h_191 => ?_) (fun h_191 => ?_)
                        · refine xv_il1 fL_does_203 ?_
                          refine xv_k fL_does_204 ?_
                          refine xv_ic_ne fL_does_206 (fun h_206 => ?_) (fun h_206 => ?_)
                          · refine xv_il1 fL_does_225 ?_
                            refine xv_k fL_does_226 ?_
                            refine xv_ic_ne fL_does_228 (fun h_228 => ?_) (fun h_228 => ?_)
                            · exact absurd h_228 (by decide)
                            · refine xv_al0 fL_does_231 ?_
                              refine xv_il2 fL_does_232 ?_
                              refine xv_il3 fL_does_233 ?_
                              refine xv_callVH (As := [.int x1, .int x2]) (S := []) (kc' := 0) (ks' := 0) hM fL_does_234 YX10_sign VX10_sign lL_57 rfl rfl (sx_0 _ _) rfl rfl (Nat.le_of_ble_eq_true rfl) (by decide) (by decide) (by decide) ?_ ?_
                              · intro r s i rf j h _
                                obtain ⟨h1, -⟩ := h
                                cases h1
                              · intro E s i rf j h
                                obtain ⟨h1, rfl, rfl, rfl, rfl⟩ := h
                                cases h1
                                exact ⟨_, hn_234_S, xv_eq_i⟩
                          · exact absurd h_206 (by decide)
                        · exact absurd h_191 (by decide)
                      · exact absurd h_176 (by decide)
                    · exact absurd h_162 (by decide)
                  · exact absurd h_148 (by decide)
                · exact absurd h_131 (by decide)
              · exact absurd h_117 (by decide)
            · exact absurd h_103 (by decide)
          · exact absurd h_90 (by decide)
        · exact absurd h_54 (by decide)
      · exact absurd h_40 (by decide)
    · exact absurd h_26 (by decide)
  · exact absurd h_1 (by decide)
theorem w_hold_ok (n : Nat) (c c' : Nat × Nat) (J : xv_J) {I I' : xv_I} {x1 x2 x3 x4 x5 : Int32} {v : Int32} (hM : xv_Met mX10_hold 8 16 128 (sx n c) I (rx c) J [.ref 0, .int x1, .int x2] (xv_eq (.inl (some (.int (v)))) (sx n c') I' (rx c') J)) : xv_Met mL_does 10 16 128 (sx n c) I (rx c) J [.ref 0, .int (nI 14), .int x1, .int x2, .int x3, .int x4, .int x5] (xv_eq (.inl (some (.int (if v = 0 then nI 0 else nI 1)))) (sx n c') I' (rx c') J) := by
  refine xv_Met.of (by decide +kernel) (Nat.le_of_ble_eq_true rfl) (List.forall_mem_cons.mpr ⟨rfl, List.forall_mem_cons.mpr ⟨rfl, List.forall_mem_cons.mpr ⟨rfl, List.forall_mem_cons.mpr ⟨rfl, List.forall_mem_cons.mpr ⟨rfl, List.forall_mem_cons.mpr ⟨rfl, List.forall_mem_cons.mpr ⟨rfl, fun _ h => nomatch h⟩⟩⟩⟩⟩⟩⟩) ?_
  show xv_W mL_does 10 16 128 _ 16 128 (sx n c) I (rx c) J 0 [some (.ref 0), some (.int (nI 14)), some (.int x1), some (.int x2), some (.int x3), some (.int x4), some (.int x5), none] []
  refine xv_il1 fL_does_0 ?_
  refine xv_if_ne fL_does_1 (fun h_1 => ?_) (fun h_1 => ?_)
  · refine xv_il1 fL_does_24 ?_
    refine xv_k fL_does_25 ?_
    refine xv_ic_ne fL_does_26 (fun h_26 => ?_) (fun h_26 => ?_)
    · refine xv_il1 fL_does_38 ?_
      refine xv_k fL_does_39 ?_
      refine xv_ic_ne fL_does_40 (fun h_40 => ?_) (fun h_40 => ?_)
      · refine xv_il1 fL_does_52 ?_
        refine xv_k fL_does_53 ?_
        refine xv_ic_ne fL_does_54 (fun h_54 => ?_) (fun h_54 => ?_)
        · refine xv_il1 fL_does_88 ?_
          refine xv_k fL_does_89 ?_
          refine xv_ic_ne fL_does_90 (fun h_90 => ?_) (fun h_90 => ?_)
          · refine xv_il1 fL_does_101 ?_
            refine xv_k fL_does_102 ?_
            refine xv_ic_ne fL_does_103 (fun h_103 => ?_) (fun h_103 => ?_)
            · refine xv_il1 fL_does_114 ?_
              refine xv_k fL_does_115 ?_
              refine xv_ic_ne fL_does_117 (fun h_117 => ?_) (fun h_117 => ?_)
              · refine xv_il1 fL_does_128 ?_
                refine xv_k fL_does_129 ?_
                refine xv_ic_ne fL_does_131 (fun h_131 => ?_) (fun h_131 => ?_)
                · refine xv_il1 fL_does_145 ?_
                  refine xv_k fL_does_146 ?_
                  refine xv_ic_ne fL_does_148 (fun h_148 => ?_) (fun h_148 => ?_)
                  · refine xv_il1 fL_does_159 ?_
                    refine xv_k fL_does_160 ?_
                    refine xv_ic_ne fL_does_162 (fun h_162 => ?_) (fun h_162 => ?_)
                    · refine xv_il1 fL_does_173 ?_
                      refine xv_k fL_does_174 ?_
                      refine xv_ic_ne fL_does_176 (fun h_176 => ?_) (fun h_176 => ?_)
                      · refine xv_il1 fL_does_188 ?_
                        refine xv_k fL_does_189 ?_
                        refine xv_ic_ne fL_does_191 (fun h_191 => ?_) (fun h_191 => ?_)
                        · refine xv_il1 fL_does_203 ?_
                          refine xv_k fL_does_204 ?_
                          refine xv_ic_ne fL_does_206 (fun h_206 => ?_) (fun h_206 => ?_)
                          · refine xv_il1 fL_does_225 ?_
                            refine xv_k fL_does_226 ?_
                            refine xv_ic_ne fL_does_228 (fun h_228 => ?_) (fun h_228 => ?_)
                            · refine xv_il1 fL_does_240 ?_
                              refine xv_k fL_does_241 ?_
                              refine xv_ic_ne fL_does_243 (fun h_243 => ?_) (fun h_243 => ?_)
                              · exact absurd h_243 (by decide)
                              · refine xv_al0 fL_does_246 ?_
                                refine xv_il2 fL_does_247 ?_
                                refine xv_il3 fL_does_248 ?_
                                refine xv_callVH (As := [.int x1, .int x2]) (S := []) (kc' := 0) (ks' := 0) hM fL_does_249 YX10_hold VX10_hold lL_60 rfl rfl (sx_0 _ _) rfl rfl (Nat.le_of_ble_eq_true rfl) (by decide) (by decide) (by decide) ?_ ?_
                                · intro r s i rf j h _
                                  obtain ⟨h1, rfl, rfl, rfl, rfl⟩ := h
                                  cases h1
                                  refine xv_if_eq fL_does_252 (fun h_252 => ?_) (fun h_252 => ?_)
                                  · refine xv_k fL_does_259 ?_
                                    refine xv_goto fL_does_260 ?_
                                    exact xv_iret fL_does_362 rfl rfl ⟨by rw [if_pos h_252], rfl, rfl, rfl, rfl⟩
                                  · refine xv_k fL_does_255 ?_
                                    refine xv_goto fL_does_256 ?_
                                    exact xv_iret fL_does_362 rfl rfl ⟨by rw [if_neg h_252], rfl, rfl, rfl, rfl⟩
                                · intro E s i rf j h
                                  obtain ⟨h1, -⟩ := h
                                  cases h1
                            · exact absurd h_228 (by decide)
                          · exact absurd h_206 (by decide)
                        · exact absurd h_191 (by decide)
                      · exact absurd h_176 (by decide)
                    · exact absurd h_162 (by decide)
                  · exact absurd h_148 (by decide)
                · exact absurd h_131 (by decide)
              · exact absurd h_117 (by decide)
            · exact absurd h_103 (by decide)
          · exact absurd h_90 (by decide)
        · exact absurd h_54 (by decide)
      · exact absurd h_40 (by decide)
    · exact absurd h_26 (by decide)
  · exact absurd h_1 (by decide)
theorem w_hold_I (n : Nat) (c c' : Nat × Nat) (J : xv_J) {I I' : xv_I} {x1 x2 x3 x4 x5 : Int32} (hM : xv_Met mX10_hold 8 16 128 (sx n c) I (rx c) J [.ref 0, .int x1, .int x2] (xv_eq (.inr "java/lang/IndexOutOfBoundsException") (sx n c') I' (rx c') J)) : xv_Met mL_does 10 16 128 (sx n c) I (rx c) J [.ref 0, .int (nI 14), .int x1, .int x2, .int x3, .int x4, .int x5] (xv_eq (.inl (some (.int (-3000)))) (sx n c') I' (rx c') J) := by
  refine xv_Met.of (by decide +kernel) (Nat.le_of_ble_eq_true rfl) (List.forall_mem_cons.mpr ⟨rfl, List.forall_mem_cons.mpr ⟨rfl, List.forall_mem_cons.mpr ⟨rfl, List.forall_mem_cons.mpr ⟨rfl, List.forall_mem_cons.mpr ⟨rfl, List.forall_mem_cons.mpr ⟨rfl, List.forall_mem_cons.mpr ⟨rfl, fun _ h => nomatch h⟩⟩⟩⟩⟩⟩⟩) ?_
  show xv_W mL_does 10 16 128 _ 16 128 (sx n c) I (rx c) J 0 [some (.ref 0), some (.int (nI 14)), some (.int x1), some (.int x2), some (.int x3), some (.int x4), some (.int x5), none] []
  refine xv_il1 fL_does_0 ?_
  refine xv_if_ne fL_does_1 (fun h_1 => ?_) (fun h_1 => ?_)
  · refine xv_il1 fL_does_24 ?_
    refine xv_k fL_does_25 ?_
    refine xv_ic_ne fL_does_26 (fun h_26 => ?_) (fun h_26 => ?_)
    · refine xv_il1 fL_does_38 ?_
      refine xv_k fL_does_39 ?_
      refine xv_ic_ne fL_does_40 (fun h_40 => ?_) (fun h_40 => ?_)
      · refine xv_il1 fL_does_52 ?_
        refine xv_k fL_does_53 ?_
        refine xv_ic_ne fL_does_54 (fun h_54 => ?_) (fun h_54 => ?_)
        · refine xv_il1 fL_does_88 ?_
          refine xv_k fL_does_89 ?_
          refine xv_ic_ne fL_does_90 (fun h_90 => ?_) (fun h_90 => ?_)
          · refine xv_il1 fL_does_101 ?_
            refine xv_k fL_does_102 ?_
            refine xv_ic_ne fL_does_103 (fun h_103 => ?_) (fun h_103 => ?_)
            · refine xv_il1 fL_does_114 ?_
              refine xv_k fL_does_115 ?_
              refine xv_ic_ne fL_does_117 (fun h_117 => ?_) (fun h_117 => ?_)
              · refine xv_il1 fL_does_128 ?_
                refine xv_k fL_does_129 ?_
                refine xv_ic_ne fL_does_131 (fun h_131 => ?_) (fun h_131 => ?_)
                · refine xv_il1 fL_does_145 ?_
                  refine xv_k fL_does_146 ?_
                  refine xv_ic_ne fL_does_148 (fun h_148 => ?_) (fun h_148 => ?_)
                  · refine xv_il1 fL_does_159 ?_
                    refine xv_k fL_does_160 ?_
                    refine xv_ic_ne fL_does_162 (fun h_162 => ?_) (fun h_162 => ?_)
                    · refine xv_il1 fL_does_173 ?_
                      refine xv_k fL_does_174 ?_
                      refine xv_ic_ne fL_does_176 (fun h_176 => ?_) (fun h_176 => ?_)
                      · refine xv_il1 fL_does_188 ?_
                        refine xv_k fL_does_189 ?_
                        refine xv_ic_ne fL_does_191 (fun h_191 => ?_) (fun h_191 => ?_)
                        · refine xv_il1 fL_does_203 ?_
                          refine xv_k fL_does_204 ?_
                          refine xv_ic_ne fL_does_206 (fun h_206 => ?_) (fun h_206 => ?_)
                          · refine xv_il1 fL_does_225 ?_
                            refine xv_k fL_does_226 ?_
                            refine xv_ic_ne fL_does_228 (fun h_228 => ?_) (fun h_228 => ?_)
                            · refine xv_il1 fL_does_240 ?_
                              refine xv_k fL_does_241 ?_
                              refine xv_ic_ne fL_does_243 (fun h_243 => ?_) (fun h_243 => ?_)
                              · exact absurd h_243 (by decide)
                              · refine xv_al0 fL_does_246 ?_
                                refine xv_il2 fL_does_247 ?_
                                refine xv_il3 fL_does_248 ?_
                                refine xv_callVH (As := [.int x1, .int x2]) (S := []) (kc' := 0) (ks' := 0) hM fL_does_249 YX10_hold VX10_hold lL_60 rfl rfl (sx_0 _ _) rfl rfl (Nat.le_of_ble_eq_true rfl) (by decide) (by decide) (by decide) ?_ ?_
                                · intro r s i rf j h _
                                  obtain ⟨h1, -⟩ := h
                                  cases h1
                                · intro E s i rf j h
                                  obtain ⟨h1, rfl, rfl, rfl, rfl⟩ := h
                                  cases h1
                                  exact ⟨_, hn_249_I, xv_eq_i⟩
                            · exact absurd h_228 (by decide)
                          · exact absurd h_206 (by decide)
                        · exact absurd h_191 (by decide)
                      · exact absurd h_176 (by decide)
                    · exact absurd h_162 (by decide)
                  · exact absurd h_148 (by decide)
                · exact absurd h_131 (by decide)
              · exact absurd h_117 (by decide)
            · exact absurd h_103 (by decide)
          · exact absurd h_90 (by decide)
        · exact absurd h_54 (by decide)
      · exact absurd h_40 (by decide)
    · exact absurd h_26 (by decide)
  · exact absurd h_1 (by decide)
theorem w_hold_A (n : Nat) (c c' : Nat × Nat) (J : xv_J) {I I' : xv_I} {x1 x2 x3 x4 x5 : Int32} (hM : xv_Met mX10_hold 8 16 128 (sx n c) I (rx c) J [.ref 0, .int x1, .int x2] (xv_eq (.inr "java/lang/IllegalArgumentException") (sx n c') I' (rx c') J)) : xv_Met mL_does 10 16 128 (sx n c) I (rx c) J [.ref 0, .int (nI 14), .int x1, .int x2, .int x3, .int x4, .int x5] (xv_eq (.inl (some (.int (-2000)))) (sx n c') I' (rx c') J) := by
  refine xv_Met.of (by decide +kernel) (Nat.le_of_ble_eq_true rfl) (List.forall_mem_cons.mpr ⟨rfl, List.forall_mem_cons.mpr ⟨rfl, List.forall_mem_cons.mpr ⟨rfl, List.forall_mem_cons.mpr ⟨rfl, List.forall_mem_cons.mpr ⟨rfl, List.forall_mem_cons.mpr ⟨rfl, List.forall_mem_cons.mpr ⟨rfl, fun _ h => nomatch h⟩⟩⟩⟩⟩⟩⟩) ?_
  show xv_W mL_does 10 16 128 _ 16 128 (sx n c) I (rx c) J 0 [some (.ref 0), some (.int (nI 14)), some (.int x1), some (.int x2), some (.int x3), some (.int x4), some (.int x5), none] []
  refine xv_il1 fL_does_0 ?_
  refine xv_if_ne fL_does_1 (fun h_1 => ?_) (fun h_1 => ?_)
  · refine xv_il1 fL_does_24 ?_
    refine xv_k fL_does_25 ?_
    refine xv_ic_ne fL_does_26 (fun h_26 => ?_) (fun h_26 => ?_)
    · refine xv_il1 fL_does_38 ?_
      refine xv_k fL_does_39 ?_
      refine xv_ic_ne fL_does_40 (fun h_40 => ?_) (fun h_40 => ?_)
      · refine xv_il1 fL_does_52 ?_
        refine xv_k fL_does_53 ?_
        refine xv_ic_ne fL_does_54 (fun h_54 => ?_) (fun h_54 => ?_)
        · refine xv_il1 fL_does_88 ?_
          refine xv_k fL_does_89 ?_
          refine xv_ic_ne fL_does_90 (fun h_90 => ?_) (fun h_90 => ?_)
          · refine xv_il1 fL_does_101 ?_
            refine xv_k fL_does_102 ?_
            refine xv_ic_ne fL_does_103 (fun h_103 => ?_) (fun h_103 => ?_)
            · refine xv_il1 fL_does_114 ?_
              refine xv_k fL_does_115 ?_
              refine xv_ic_ne fL_does_117 (fun h_117 => ?_) (fun h_117 => ?_)
              · refine xv_il1 fL_does_128 ?_
                refine xv_k fL_does_129 ?_
                refine xv_ic_ne fL_does_131 (fun h_131 => ?_) (fun h_131 => ?_)
                · refine xv_il1 fL_does_145 ?_
                  refine xv_k fL_does_146 ?_
                  refine xv_ic_ne fL_does_148 (fun h_148 => ?_) (fun h_148 => ?_)
                  · refine xv_il1 fL_does_159 ?_
                    refine xv_k fL_does_160 ?_
                    refine xv_ic_ne fL_does_162 (fun h_162 => ?_) (fun h_162 => ?_)
                    · refine xv_il1 fL_does_173 ?_
                      refine xv_k fL_does_174 ?_
                      refine xv_ic_ne fL_does_176 (fun h_176 => ?_) (fun h_176 => ?_)
                      · refine xv_il1 fL_does_188 ?_
                        refine xv_k fL_does_189 ?_
                        refine xv_ic_ne fL_does_191 (fun h_191 => ?_) (fun h_191 => ?_)
                        · refine xv_il1 fL_does_203 ?_
                          refine xv_k fL_does_204 ?_
                          refine xv_ic_ne fL_does_206 (fun h_206 => ?_) (fun h_206 => ?_)
                          · refine xv_il1 fL_does_225 ?_
                            refine xv_k fL_does_226 ?_
                            refine xv_ic_ne fL_does_228 (fun h_228 => ?_) (fun h_228 => ?_)
                            · refine xv_il1 fL_does_240 ?_
                              refine xv_k fL_does_241 ?_
                              refine xv_ic_ne fL_does_243 (fun h_243 => ?_) (fun h_243 => ?_)
                              · exact absurd h_243 (by decide)
                              · refine xv_al0 fL_does_246 ?_
                                refine xv_il2 fL_does_247 ?_
                                refine xv_il3 fL_does_248 ?_
                                refine xv_callVH (As := [.int x1, .int x2]) (S := []) (kc' := 0) (ks' := 0) hM fL_does_249 YX10_hold VX10_hold lL_60 rfl rfl (sx_0 _ _) rfl rfl (Nat.le_of_ble_eq_true rfl) (by decide) (by decide) (by decide) ?_ ?_
                                · intro r s i rf j h _
                                  obtain ⟨h1, -⟩ := h
                                  cases h1
                                · intro E s i rf j h
                                  obtain ⟨h1, rfl, rfl, rfl, rfl⟩ := h
                                  cases h1
                                  exact ⟨_, hn_249_A, xv_eq_i⟩
                            · exact absurd h_228 (by decide)
                          · exact absurd h_206 (by decide)
                        · exact absurd h_191 (by decide)
                      · exact absurd h_176 (by decide)
                    · exact absurd h_162 (by decide)
                  · exact absurd h_148 (by decide)
                · exact absurd h_131 (by decide)
              · exact absurd h_117 (by decide)
            · exact absurd h_103 (by decide)
          · exact absurd h_90 (by decide)
        · exact absurd h_54 (by decide)
      · exact absurd h_40 (by decide)
    · exact absurd h_26 (by decide)
  · exact absurd h_1 (by decide)
theorem w_hold_S (n : Nat) (c c' : Nat × Nat) (J : xv_J) {I I' : xv_I} {x1 x2 x3 x4 x5 : Int32} (hM : xv_Met mX10_hold 8 16 128 (sx n c) I (rx c) J [.ref 0, .int x1, .int x2] (xv_eq (.inr "java/lang/IllegalStateException") (sx n c') I' (rx c') J)) : xv_Met mL_does 10 16 128 (sx n c) I (rx c) J [.ref 0, .int (nI 14), .int x1, .int x2, .int x3, .int x4, .int x5] (xv_eq (.inl (some (.int (-1000)))) (sx n c') I' (rx c') J) := by
  refine xv_Met.of (by decide +kernel) (Nat.le_of_ble_eq_true rfl) (List.forall_mem_cons.mpr ⟨rfl, List.forall_mem_cons.mpr ⟨rfl, List.forall_mem_cons.mpr ⟨rfl, List.forall_mem_cons.mpr ⟨rfl, List.forall_mem_cons.mpr ⟨rfl, List.forall_mem_cons.mpr ⟨rfl, List.forall_mem_cons.mpr ⟨rfl, fun _ h => nomatch h⟩⟩⟩⟩⟩⟩⟩) ?_
  show xv_W mL_does 10 16 128 _ 16 128 (sx n c) I (rx c) J 0 [some (.ref 0), some (.int (nI 14)), some (.int x1), some (.int x2), some (.int x3), some (.int x4), some (.int x5), none] []
  refine xv_il1 fL_does_0 ?_
  refine xv_if_ne fL_does_1 (fun h_1 => ?_) (fun h_1 => ?_)
  · refine xv_il1 fL_does_24 ?_
    refine xv_k fL_does_25 ?_
    refine xv_ic_ne fL_does_26 (fun h_26 => ?_) (fun h_26 => ?_)
    · refine xv_il1 fL_does_38 ?_
      refine xv_k fL_does_39 ?_
      refine xv_ic_ne fL_does_40 (fun h_40 => ?_) (fun h_40 => ?_)
      · refine xv_il1 fL_does_52 ?_
        refine xv_k fL_does_53 ?_
        refine xv_ic_ne fL_does_54 (fun h_54 => ?_) (fun h_54 => ?_)
        · refine xv_il1 fL_does_88 ?_
          refine xv_k fL_does_89 ?_
          refine xv_ic_ne fL_does_90 (fun h_90 => ?_) (fun h_90 => ?_)
          · refine xv_il1 fL_does_101 ?_
            refine xv_k fL_does_102 ?_
            refine xv_ic_ne fL_does_103 (fun h_103 => ?_) (fun h_103 => ?_)
            · refine xv_il1 fL_does_114 ?_
              refine xv_k fL_does_115 ?_
              refine xv_ic_ne fL_does_117 (fun h_117 => ?_) (fun h_117 => ?_)
              · refine xv_il1 fL_does_128 ?_
                refine xv_k fL_does_129 ?_
                refine xv_ic_ne fL_does_131 (fun h_131 => ?_) (fun h_131 => ?_)
                · refine xv_il1 fL_does_145 ?_
                  refine xv_k fL_does_146 ?_
                  refine xv_ic_ne fL_does_148 (fun h_148 => ?_) (fun h_148 => ?_)
                  · refine xv_il1 fL_does_159 ?_
                    refine xv_k fL_does_160 ?_
                    refine xv_ic_ne fL_does_162 (fun h_162 => ?_) (fun h_162 => ?_)
                    · refine xv_il1 fL_does_173 ?_
                      refine xv_k fL_does_174 ?_
                      refine xv_ic_ne fL_does_176 (fun h_176 => ?_) (fun h_176 => ?_)
                      · refine xv_il1 fL_does_188 ?_
                        refine xv_k fL_does_189 ?_
                        refine xv_ic_ne fL_does_191 (fun h_191 => ?_) (fun h_191 => ?_)
                        · refine xv_il1 fL_does_203 ?_
                          refine xv_k fL_does_204 ?_
                          refine xv_ic_ne fL_does_206 (fun h_206 => ?_) (fun h_206 => ?_)
                          · refine xv_il1 fL_does_225 ?_
                            refine xv_k fL_does_226 ?_
                            refine xv_ic_ne fL_does_228 (fun h_228 => ?_) (fun h_228 => ?_)
                            · refine xv_il1 fL_does_240 ?_
                              refine xv_k fL_does_241 ?_
                              refine xv_ic_ne fL_does_243 (fun h_243 => ?_) (fun h_243 => ?_)
                              · exact absurd h_243 (by decide)
                              · refine xv_al0 fL_does_246 ?_
                                refine xv_il2 fL_does_247 ?_
                                refine xv_il3 fL_does_248 ?_
                                refine xv_callVH (As := [.int x1, .int x2]) (S := []) (kc' := 0) (ks' := 0) hM fL_does_249 YX10_hold VX10_hold lL_60 rfl rfl (sx_0 _ _) rfl rfl (Nat.le_of_ble_eq_true rfl) (by decide) (by decide) (by decide) ?_ ?_
                                · intro r s i rf j h _
                                  obtain ⟨h1, -⟩ := h
                                  cases h1
                                · intro E s i rf j h
                                  obtain ⟨h1, rfl, rfl, rfl, rfl⟩ := h
                                  cases h1
                                  exact ⟨_, hn_249_S, xv_eq_i⟩
                            · exact absurd h_228 (by decide)
                          · exact absurd h_206 (by decide)
                        · exact absurd h_191 (by decide)
                      · exact absurd h_176 (by decide)
                    · exact absurd h_162 (by decide)
                  · exact absurd h_148 (by decide)
                · exact absurd h_131 (by decide)
              · exact absurd h_117 (by decide)
            · exact absurd h_103 (by decide)
          · exact absurd h_90 (by decide)
        · exact absurd h_54 (by decide)
      · exact absurd h_40 (by decide)
    · exact absurd h_26 (by decide)
  · exact absurd h_1 (by decide)
theorem w_isReady_ok (n : Nat) (c c' : Nat × Nat) (J : xv_J) {I I' : xv_I} {x1 x2 x3 x4 x5 : Int32} {v : Int32} (hM : xv_Met mX10_isReady 8 16 128 (sx n c) I (rx c) J [.ref 0, .int x1] (xv_eq (.inl (some (.int (v)))) (sx n c') I' (rx c') J)) : xv_Met mL_does 10 16 128 (sx n c) I (rx c) J [.ref 0, .int (nI 15), .int x1, .int x2, .int x3, .int x4, .int x5] (xv_eq (.inl (some (.int (if v = 0 then nI 0 else nI 1)))) (sx n c') I' (rx c') J) := by
  refine xv_Met.of (by decide +kernel) (Nat.le_of_ble_eq_true rfl) (List.forall_mem_cons.mpr ⟨rfl, List.forall_mem_cons.mpr ⟨rfl, List.forall_mem_cons.mpr ⟨rfl, List.forall_mem_cons.mpr ⟨rfl, List.forall_mem_cons.mpr ⟨rfl, List.forall_mem_cons.mpr ⟨rfl, List.forall_mem_cons.mpr ⟨rfl, fun _ h => nomatch h⟩⟩⟩⟩⟩⟩⟩) ?_
  show xv_W mL_does 10 16 128 _ 16 128 (sx n c) I (rx c) J 0 [some (.ref 0), some (.int (nI 15)), some (.int x1), some (.int x2), some (.int x3), some (.int x4), some (.int x5), none] []
  refine xv_il1 fL_does_0 ?_
  refine xv_if_ne fL_does_1 (fun h_1 => ?_) (fun h_1 => ?_)
  · refine xv_il1 fL_does_24 ?_
    refine xv_k fL_does_25 ?_
    refine xv_ic_ne fL_does_26 (fun h_26 => ?_) (fun h_26 => ?_)
    · refine xv_il1 fL_does_38 ?_
      refine xv_k fL_does_39 ?_
      refine xv_ic_ne fL_does_40 (fun h_40 => ?_) (fun h_40 => ?_)
      · refine xv_il1 fL_does_52 ?_
        refine xv_k fL_does_53 ?_
        refine xv_ic_ne fL_does_54 (fun h_54 => ?_) (fun h_54 => ?_)
        · refine xv_il1 fL_does_88 ?_
          refine xv_k fL_does_89 ?_
          refine xv_ic_ne fL_does_90 (fun h_90 => ?_) (fun h_90 => ?_)
          · refine xv_il1 fL_does_101 ?_
            refine xv_k fL_does_102 ?_
            refine xv_ic_ne fL_does_103 (fun h_103 => ?_) (fun h_103 => ?_)
            · refine xv_il1 fL_does_114 ?_
              refine xv_k fL_does_115 ?_
              refine xv_ic_ne fL_does_117 (fun h_117 => ?_) (fun h_117 => ?_)
              · refine xv_il1 fL_does_128 ?_
                refine xv_k fL_does_129 ?_
                refine xv_ic_ne fL_does_131 (fun h_131 => ?_) (fun h_131 => ?_)
                · refine xv_il1 fL_does_145 ?_
                  refine xv_k fL_does_146 ?_
                  refine xv_ic_ne fL_does_148 (fun h_148 => ?_) (fun h_148 => ?_)
                  · refine xv_il1 fL_does_159 ?_
                    refine xv_k fL_does_160 ?_
                    refine xv_ic_ne fL_does_162 (fun h_162 => ?_) (fun h_162 => ?_)
                    · refine xv_il1 fL_does_173 ?_
                      refine xv_k fL_does_174 ?_
                      refine xv_ic_ne fL_does_176 (fun h_176 => ?_) (fun h_176 => ?_)
                      · refine xv_il1 fL_does_188 ?_
                        refine xv_k fL_does_189 ?_
                        refine xv_ic_ne fL_does_191 (fun h_191 => ?_) (fun h_191 => ?_)
                        · refine xv_il1 fL_does_203 ?_
                          refine xv_k fL_does_204 ?_
                          refine xv_ic_ne fL_does_206 (fun h_206 => ?_) (fun h_206 => ?_)
                          · refine xv_il1 fL_does_225 ?_
                            refine xv_k fL_does_226 ?_
                            refine xv_ic_ne fL_does_228 (fun h_228 => ?_) (fun h_228 => ?_)
                            · refine xv_il1 fL_does_240 ?_
                              refine xv_k fL_does_241 ?_
                              refine xv_ic_ne fL_does_243 (fun h_243 => ?_) (fun h_243 => ?_)
                              · refine xv_il1 fL_does_263 ?_
                                refine xv_k fL_does_264 ?_
                                refine xv_ic_ne fL_does_266 (fun h_266 => ?_) (fun h_266 => ?_)
                                · exact absurd h_266 (by decide)
                                · refine xv_al0 fL_does_269 ?_
                                  refine xv_il2 fL_does_270 ?_
                                  refine xv_callVH (As := [.int x1]) (S := []) (kc' := 0) (ks' := 0) hM fL_does_271 YX10_isReady VX10_isReady lL_64 rfl rfl (sx_0 _ _) rfl rfl (Nat.le_of_ble_eq_true rfl) (by decide) (by decide) (by decide) ?_ ?_
                                  · intro r s i rf j h _
                                    obtain ⟨h1, rfl, rfl, rfl, rfl⟩ := h
                                    cases h1
                                    refine xv_if_eq fL_does_274 (fun h_274 => ?_) (fun h_274 => ?_)
                                    · refine xv_k fL_does_281 ?_
                                      refine xv_goto fL_does_282 ?_
                                      exact xv_iret fL_does_362 rfl rfl ⟨by rw [if_pos h_274], rfl, rfl, rfl, rfl⟩
                                    · refine xv_k fL_does_277 ?_
                                      refine xv_goto fL_does_278 ?_
                                      exact xv_iret fL_does_362 rfl rfl ⟨by rw [if_neg h_274], rfl, rfl, rfl, rfl⟩
                                  · intro E s i rf j h
                                    obtain ⟨h1, -⟩ := h
                                    cases h1
                              · exact absurd h_243 (by decide)
                            · exact absurd h_228 (by decide)
                          · exact absurd h_206 (by decide)
                        · exact absurd h_191 (by decide)
                      · exact absurd h_176 (by decide)
                    · exact absurd h_162 (by decide)
                  · exact absurd h_148 (by decide)
                · exact absurd h_131 (by decide)
              · exact absurd h_117 (by decide)
            · exact absurd h_103 (by decide)
          · exact absurd h_90 (by decide)
        · exact absurd h_54 (by decide)
      · exact absurd h_40 (by decide)
    · exact absurd h_26 (by decide)
  · exact absurd h_1 (by decide)
theorem w_isReady_I (n : Nat) (c c' : Nat × Nat) (J : xv_J) {I I' : xv_I} {x1 x2 x3 x4 x5 : Int32} (hM : xv_Met mX10_isReady 8 16 128 (sx n c) I (rx c) J [.ref 0, .int x1] (xv_eq (.inr "java/lang/IndexOutOfBoundsException") (sx n c') I' (rx c') J)) : xv_Met mL_does 10 16 128 (sx n c) I (rx c) J [.ref 0, .int (nI 15), .int x1, .int x2, .int x3, .int x4, .int x5] (xv_eq (.inl (some (.int (-3000)))) (sx n c') I' (rx c') J) := by
  refine xv_Met.of (by decide +kernel) (Nat.le_of_ble_eq_true rfl) (List.forall_mem_cons.mpr ⟨rfl, List.forall_mem_cons.mpr ⟨rfl, List.forall_mem_cons.mpr ⟨rfl, List.forall_mem_cons.mpr ⟨rfl, List.forall_mem_cons.mpr ⟨rfl, List.forall_mem_cons.mpr ⟨rfl, List.forall_mem_cons.mpr ⟨rfl, fun _ h => nomatch h⟩⟩⟩⟩⟩⟩⟩) ?_
  show xv_W mL_does 10 16 128 _ 16 128 (sx n c) I (rx c) J 0 [some (.ref 0), some (.int (nI 15)), some (.int x1), some (.int x2), some (.int x3), some (.int x4), some (.int x5), none] []
  refine xv_il1 fL_does_0 ?_
  refine xv_if_ne fL_does_1 (fun h_1 => ?_) (fun h_1 => ?_)
  · refine xv_il1 fL_does_24 ?_
    refine xv_k fL_does_25 ?_
    refine xv_ic_ne fL_does_26 (fun h_26 => ?_) (fun h_26 => ?_)
    · refine xv_il1 fL_does_38 ?_
      refine xv_k fL_does_39 ?_
      refine xv_ic_ne fL_does_40 (fun h_40 => ?_) (fun h_40 => ?_)
      · refine xv_il1 fL_does_52 ?_
        refine xv_k fL_does_53 ?_
        refine xv_ic_ne fL_does_54 (fun h_54 => ?_) (fun h_54 => ?_)
        · refine xv_il1 fL_does_88 ?_
          refine xv_k fL_does_89 ?_
          refine xv_ic_ne fL_does_90 (fun h_90 => ?_) (fun h_90 => ?_)
          · refine xv_il1 fL_does_101 ?_
            refine xv_k fL_does_102 ?_
            refine xv_ic_ne fL_does_103 (fun h_103 => ?_) (fun h_103 => ?_)
            · refine xv_il1 fL_does_114 ?_
              refine xv_k fL_does_115 ?_
              refine xv_ic_ne fL_does_117 (fun h_117 => ?_) (fun h_117 => ?_)
              · refine xv_il1 fL_does_128 ?_
                refine xv_k fL_does_129 ?_
                refine xv_ic_ne fL_does_131 (fun h_131 => ?_) (fun h_131 => ?_)
                · refine xv_il1 fL_does_145 ?_
                  refine xv_k fL_does_146 ?_
                  refine xv_ic_ne fL_does_148 (fun h_148 => ?_) (fun h_148 => ?_)
                  · refine xv_il1 fL_does_159 ?_
                    refine xv_k fL_does_160 ?_
                    refine xv_ic_ne fL_does_162 (fun h_162 => ?_) (fun h_162 => ?_)
                    · refine xv_il1 fL_does_173 ?_
                      refine xv_k fL_does_174 ?_
                      refine xv_ic_ne fL_does_176 (fun h_176 => ?_) (fun h_176 => ?_)
                      · refine xv_il1 fL_does_188 ?_
                        refine xv_k fL_does_189 ?_
                        refine xv_ic_ne fL_does_191 (fun h_191 => ?_) (fun h_191 => ?_)
                        · refine xv_il1 fL_does_203 ?_
                          refine xv_k fL_does_204 ?_
                          refine xv_ic_ne fL_does_206 (fun h_206 => ?_) (fun h_206 => ?_)
                          · refine xv_il1 fL_does_225 ?_
                            refine xv_k fL_does_226 ?_
                            refine xv_ic_ne fL_does_228 (fun h_228 => ?_) (fun h_228 => ?_)
                            · refine xv_il1 fL_does_240 ?_
                              refine xv_k fL_does_241 ?_
                              refine xv_ic_ne fL_does_243 (fun h_243 => ?_) (fun h_243 => ?_)
                              · refine xv_il1 fL_does_263 ?_
                                refine xv_k fL_does_264 ?_
                                refine xv_ic_ne fL_does_266 (fun h_266 => ?_) (fun h_266 => ?_)
                                · exact absurd h_266 (by decide)
                                · refine xv_al0 fL_does_269 ?_
                                  refine xv_il2 fL_does_270 ?_
                                  refine xv_callVH (As := [.int x1]) (S := []) (kc' := 0) (ks' := 0) hM fL_does_271 YX10_isReady VX10_isReady lL_64 rfl rfl (sx_0 _ _) rfl rfl (Nat.le_of_ble_eq_true rfl) (by decide) (by decide) (by decide) ?_ ?_
                                  · intro r s i rf j h _
                                    obtain ⟨h1, -⟩ := h
                                    cases h1
                                  · intro E s i rf j h
                                    obtain ⟨h1, rfl, rfl, rfl, rfl⟩ := h
                                    cases h1
                                    exact ⟨_, hn_271_I, xv_eq_i⟩
                              · exact absurd h_243 (by decide)
                            · exact absurd h_228 (by decide)
                          · exact absurd h_206 (by decide)
                        · exact absurd h_191 (by decide)
                      · exact absurd h_176 (by decide)
                    · exact absurd h_162 (by decide)
                  · exact absurd h_148 (by decide)
                · exact absurd h_131 (by decide)
              · exact absurd h_117 (by decide)
            · exact absurd h_103 (by decide)
          · exact absurd h_90 (by decide)
        · exact absurd h_54 (by decide)
      · exact absurd h_40 (by decide)
    · exact absurd h_26 (by decide)
  · exact absurd h_1 (by decide)
theorem w_isReady_A (n : Nat) (c c' : Nat × Nat) (J : xv_J) {I I' : xv_I} {x1 x2 x3 x4 x5 : Int32} (hM : xv_Met mX10_isReady 8 16 128 (sx n c) I (rx c) J [.ref 0, .int x1] (xv_eq (.inr "java/lang/IllegalArgumentException") (sx n c') I' (rx c') J)) : xv_Met mL_does 10 16 128 (sx n c) I (rx c) J [.ref 0, .int (nI 15), .int x1, .int x2, .int x3, .int x4, .int x5] (xv_eq (.inl (some (.int (-2000)))) (sx n c') I' (rx c') J) := by
  refine xv_Met.of (by decide +kernel) (Nat.le_of_ble_eq_true rfl) (List.forall_mem_cons.mpr ⟨rfl, List.forall_mem_cons.mpr ⟨rfl, List.forall_mem_cons.mpr ⟨rfl, List.forall_mem_cons.mpr ⟨rfl, List.forall_mem_cons.mpr ⟨rfl, List.forall_mem_cons.mpr ⟨rfl, List.forall_mem_cons.mpr ⟨rfl, fun _ h => nomatch h⟩⟩⟩⟩⟩⟩⟩) ?_
  show xv_W mL_does 10 16 128 _ 16 128 (sx n c) I (rx c) J 0 [some (.ref 0), some (.int (nI 15)), some (.int x1), some (.int x2), some (.int x3), some (.int x4), some (.int x5), none] []
  refine xv_il1 fL_does_0 ?_
  refine xv_if_ne fL_does_1 (fun h_1 => ?_) (fun h_1 => ?_)
  · refine xv_il1 fL_does_24 ?_
    refine xv_k fL_does_25 ?_
    refine xv_ic_ne fL_does_26 (fun h_26 => ?_) (fun h_26 => ?_)
    · refine xv_il1 fL_does_38 ?_
      refine xv_k fL_does_39 ?_
      refine xv_ic_ne fL_does_40 (fun h_40 => ?_) (fun h_40 => ?_)
      · refine xv_il1 fL_does_52 ?_
        refine xv_k fL_does_53 ?_
        refine xv_ic_ne fL_does_54 (fun h_54 => ?_) (fun h_54 => ?_)
        · refine xv_il1 fL_does_88 ?_
          refine xv_k fL_does_89 ?_
          refine xv_ic_ne fL_does_90 (fun h_90 => ?_) (fun h_90 => ?_)
          · refine xv_il1 fL_does_101 ?_
            refine xv_k fL_does_102 ?_
            refine xv_ic_ne fL_does_103 (fun h_103 => ?_) (fun h_103 => ?_)
            · refine xv_il1 fL_does_114 ?_
              refine xv_k fL_does_115 ?_
              refine xv_ic_ne fL_does_117 (fun h_117 => ?_) (fun h_117 => ?_)
              · refine xv_il1 fL_does_128 ?_
                refine xv_k fL_does_129 ?_
                refine xv_ic_ne fL_does_131 (fun h_131 => ?_) (fun h_131 => ?_)
                · refine xv_il1 fL_does_145 ?_
                  refine xv_k fL_does_146 ?_
                  refine xv_ic_ne fL_does_148 (fun h_148 => ?_) (fun h_148 => ?_)
                  · refine xv_il1 fL_does_159 ?_
                    refine xv_k fL_does_160 ?_
                    refine xv_ic_ne fL_does_162 (fun h_162 => ?_) (fun h_162 => ?_)
                    · refine xv_il1 fL_does_173 ?_
                      refine xv_k fL_does_174 ?_
                      refine xv_ic_ne fL_does_176 (fun h_176 => ?_) (fun h_176 => ?_)
                      · refine xv_il1 fL_does_188 ?_
                        refine xv_k fL_does_189 ?_
                        refine xv_ic_ne fL_does_191 (fun h_191 => ?_) (fun h_191 => ?_)
                        · refine xv_il1 fL_does_203 ?_
                          refine xv_k fL_does_204 ?_
                          refine xv_ic_ne fL_does_206 (fun h_206 => ?_) (fun h_206 => ?_)
                          · refine xv_il1 fL_does_225 ?_
                            refine xv_k fL_does_226 ?_
                            refine xv_ic_ne fL_does_228 (fun h_228 => ?_) (fun h_228 => ?_)
                            · refine xv_il1 fL_does_240 ?_
                              refine xv_k fL_does_241 ?_
                              refine xv_ic_ne fL_does_243 (fun h_243 => ?_) (fun h_243 => ?_)
                              · refine xv_il1 fL_does_263 ?_
                                refine xv_k fL_does_264 ?_
                                refine xv_ic_ne fL_does_266 (fun h_266 => ?_) (fun h_266 => ?_)
                                · exact absurd h_266 (by decide)
                                · refine xv_al0 fL_does_269 ?_
                                  refine xv_il2 fL_does_270 ?_
                                  refine xv_callVH (As := [.int x1]) (S := []) (kc' := 0) (ks' := 0) hM fL_does_271 YX10_isReady VX10_isReady lL_64 rfl rfl (sx_0 _ _) rfl rfl (Nat.le_of_ble_eq_true rfl) (by decide) (by decide) (by decide) ?_ ?_
                                  · intro r s i rf j h _
                                    obtain ⟨h1, -⟩ := h
                                    cases h1
                                  · intro E s i rf j h
                                    obtain ⟨h1, rfl, rfl, rfl, rfl⟩ := h
                                    cases h1
                                    exact ⟨_, hn_271_A, xv_eq_i⟩
                              · exact absurd h_243 (by decide)
                            · exact absurd h_228 (by decide)
                          · exact absurd h_206 (by decide)
                        · exact absurd h_191 (by decide)
                      · exact absurd h_176 (by decide)
                    · exact absurd h_162 (by decide)
                  · exact absurd h_148 (by decide)
                · exact absurd h_131 (by decide)
              · exact absurd h_117 (by decide)
            · exact absurd h_103 (by decide)
          · exact absurd h_90 (by decide)
        · exact absurd h_54 (by decide)
      · exact absurd h_40 (by decide)
    · exact absurd h_26 (by decide)
  · exact absurd h_1 (by decide)
theorem w_isReady_S (n : Nat) (c c' : Nat × Nat) (J : xv_J) {I I' : xv_I} {x1 x2 x3 x4 x5 : Int32} (hM : xv_Met mX10_isReady 8 16 128 (sx n c) I (rx c) J [.ref 0, .int x1] (xv_eq (.inr "java/lang/IllegalStateException") (sx n c') I' (rx c') J)) : xv_Met mL_does 10 16 128 (sx n c) I (rx c) J [.ref 0, .int (nI 15), .int x1, .int x2, .int x3, .int x4, .int x5] (xv_eq (.inl (some (.int (-1000)))) (sx n c') I' (rx c') J) := by
  refine xv_Met.of (by decide +kernel) (Nat.le_of_ble_eq_true rfl) (List.forall_mem_cons.mpr ⟨rfl, List.forall_mem_cons.mpr ⟨rfl, List.forall_mem_cons.mpr ⟨rfl, List.forall_mem_cons.mpr ⟨rfl, List.forall_mem_cons.mpr ⟨rfl, List.forall_mem_cons.mpr ⟨rfl, List.forall_mem_cons.mpr ⟨rfl, fun _ h => nomatch h⟩⟩⟩⟩⟩⟩⟩) ?_
  show xv_W mL_does 10 16 128 _ 16 128 (sx n c) I (rx c) J 0 [some (.ref 0), some (.int (nI 15)), some (.int x1), some (.int x2), some (.int x3), some (.int x4), some (.int x5), none] []
  refine xv_il1 fL_does_0 ?_
  refine xv_if_ne fL_does_1 (fun h_1 => ?_) (fun h_1 => ?_)
  · refine xv_il1 fL_does_24 ?_
    refine xv_k fL_does_25 ?_
    refine xv_ic_ne fL_does_26 (fun h_26 => ?_) (fun h_26 => ?_)
    · refine xv_il1 fL_does_38 ?_
      refine xv_k fL_does_39 ?_
      refine xv_ic_ne fL_does_40 (fun h_40 => ?_) (fun h_40 => ?_)
      · refine xv_il1 fL_does_52 ?_
        refine xv_k fL_does_53 ?_
        refine xv_ic_ne fL_does_54 (fun h_54 => ?_) (fun h_54 => ?_)
        · refine xv_il1 fL_does_88 ?_
          refine xv_k fL_does_89 ?_
          refine xv_ic_ne fL_does_90 (fun h_90 => ?_) (fun h_90 => ?_)
          · refine xv_il1 fL_does_101 ?_
            refine xv_k fL_does_102 ?_
            refine xv_ic_ne fL_does_103 (fun h_103 => ?_) (fun h_103 => ?_)
            · refine xv_il1 fL_does_114 ?_
              refine xv_k fL_does_115 ?_
              refine xv_ic_ne fL_does_117 (fun h_117 => ?_) (fun h_117 => ?_)
              · refine xv_il1 fL_does_128 ?_
                refine xv_k fL_does_129 ?_
                refine xv_ic_ne fL_does_131 (fun h_131 => ?_) (fun h_131 => ?_)
                · refine xv_il1 fL_does_145 ?_
                  refine xv_k fL_does_146 ?_
                  refine xv_ic_ne fL_does_148 (fun h_148 => ?_) (fun h_148 => ?_)
                  · refine xv_il1 fL_does_159 ?_
                    refine xv_k fL_does_160 ?_
                    refine xv_ic_ne fL_does_162 (fun h_162 => ?_) (fun h_162 => ?_)
                    · refine xv_il1 fL_does_173 ?_
                      refine xv_k fL_does_174 ?_
                      refine xv_ic_ne fL_does_176 (fun h_176 => ?_) (fun h_176 => ?_)
                      · refine xv_il1 fL_does_188 ?_
                        refine xv_k fL_does_189 ?_
                        refine xv_ic_ne fL_does_191 (fun h_191 => ?_) (fun h_191 => ?_)
                        · refine xv_il1 fL_does_203 ?_
                          refine xv_k fL_does_204 ?_
                          refine xv_ic_ne fL_does_206 (fun h_206 => ?_) (fun h_206 => ?_)
                          · refine xv_il1 fL_does_225 ?_
                            refine xv_k fL_does_226 ?_
                            refine xv_ic_ne fL_does_228 (fun h_228 => ?_) (fun h_228 => ?_)
                            · refine xv_il1 fL_does_240 ?_
                              refine xv_k fL_does_241 ?_
                              refine xv_ic_ne fL_does_243 (fun h_243 => ?_) (fun h_243 => ?_)
                              · refine xv_il1 fL_does_263 ?_
                                refine xv_k fL_does_264 ?_
                                refine xv_ic_ne fL_does_266 (fun h_266 => ?_) (fun h_266 => ?_)
                                · exact absurd h_266 (by decide)
                                · refine xv_al0 fL_does_269 ?_
                                  refine xv_il2 fL_does_270 ?_
                                  refine xv_callVH (As := [.int x1]) (S := []) (kc' := 0) (ks' := 0) hM fL_does_271 YX10_isReady VX10_isReady lL_64 rfl rfl (sx_0 _ _) rfl rfl (Nat.le_of_ble_eq_true rfl) (by decide) (by decide) (by decide) ?_ ?_
                                  · intro r s i rf j h _
                                    obtain ⟨h1, -⟩ := h
                                    cases h1
                                  · intro E s i rf j h
                                    obtain ⟨h1, rfl, rfl, rfl, rfl⟩ := h
                                    cases h1
                                    exact ⟨_, hn_271_S, xv_eq_i⟩
                              · exact absurd h_243 (by decide)
                            · exact absurd h_228 (by decide)
                          · exact absurd h_206 (by decide)
                        · exact absurd h_191 (by decide)
                      · exact absurd h_176 (by decide)
                    · exact absurd h_162 (by decide)
                  · exact absurd h_148 (by decide)
                · exact absurd h_131 (by decide)
              · exact absurd h_117 (by decide)
            · exact absurd h_103 (by decide)
          · exact absurd h_90 (by decide)
        · exact absurd h_54 (by decide)
      · exact absurd h_40 (by decide)
    · exact absurd h_26 (by decide)
  · exact absurd h_1 (by decide)
theorem w_close_ok (n : Nat) (c c' : Nat × Nat) (J : xv_J) {I I' : xv_I} {x1 x2 x3 x4 x5 : Int32} {v : Int32} (hM : xv_Met mX10_close 8 16 128 (sx n c) I (rx c) J [.ref 0] (xv_eq (.inl (some (.int (v)))) (sx n c') I' (rx c') J)) : xv_Met mL_does 10 16 128 (sx n c) I (rx c) J [.ref 0, .int (nI 16), .int x1, .int x2, .int x3, .int x4, .int x5] (xv_eq (.inl (some (.int (v)))) (sx n c') I' (rx c') J) := by
  refine xv_Met.of (by decide +kernel) (Nat.le_of_ble_eq_true rfl) (List.forall_mem_cons.mpr ⟨rfl, List.forall_mem_cons.mpr ⟨rfl, List.forall_mem_cons.mpr ⟨rfl, List.forall_mem_cons.mpr ⟨rfl, List.forall_mem_cons.mpr ⟨rfl, List.forall_mem_cons.mpr ⟨rfl, List.forall_mem_cons.mpr ⟨rfl, fun _ h => nomatch h⟩⟩⟩⟩⟩⟩⟩) ?_
  show xv_W mL_does 10 16 128 _ 16 128 (sx n c) I (rx c) J 0 [some (.ref 0), some (.int (nI 16)), some (.int x1), some (.int x2), some (.int x3), some (.int x4), some (.int x5), none] []
  refine xv_il1 fL_does_0 ?_
  refine xv_if_ne fL_does_1 (fun h_1 => ?_) (fun h_1 => ?_)
  · refine xv_il1 fL_does_24 ?_
    refine xv_k fL_does_25 ?_
    refine xv_ic_ne fL_does_26 (fun h_26 => ?_) (fun h_26 => ?_)
    · refine xv_il1 fL_does_38 ?_
      refine xv_k fL_does_39 ?_
      refine xv_ic_ne fL_does_40 (fun h_40 => ?_) (fun h_40 => ?_)
      · refine xv_il1 fL_does_52 ?_
        refine xv_k fL_does_53 ?_
        refine xv_ic_ne fL_does_54 (fun h_54 => ?_) (fun h_54 => ?_)
        · refine xv_il1 fL_does_88 ?_
          refine xv_k fL_does_89 ?_
          refine xv_ic_ne fL_does_90 (fun h_90 => ?_) (fun h_90 => ?_)
          · refine xv_il1 fL_does_101 ?_
            refine xv_k fL_does_102 ?_
            refine xv_ic_ne fL_does_103 (fun h_103 => ?_) (fun h_103 => ?_)
            · refine xv_il1 fL_does_114 ?_
              refine xv_k fL_does_115 ?_
              refine xv_ic_ne fL_does_117 (fun h_117 => ?_) (fun h_117 => ?_)
              · refine xv_il1 fL_does_128 ?_
                refine xv_k fL_does_129 ?_
                refine xv_ic_ne fL_does_131 (fun h_131 => ?_) (fun h_131 => ?_)
                · refine xv_il1 fL_does_145 ?_
                  refine xv_k fL_does_146 ?_
                  refine xv_ic_ne fL_does_148 (fun h_148 => ?_) (fun h_148 => ?_)
                  · refine xv_il1 fL_does_159 ?_
                    refine xv_k fL_does_160 ?_
                    refine xv_ic_ne fL_does_162 (fun h_162 => ?_) (fun h_162 => ?_)
                    · refine xv_il1 fL_does_173 ?_
                      refine xv_k fL_does_174 ?_
                      refine xv_ic_ne fL_does_176 (fun h_176 => ?_) (fun h_176 => ?_)
                      · refine xv_il1 fL_does_188 ?_
                        refine xv_k fL_does_189 ?_
                        refine xv_ic_ne fL_does_191 (fun h_191 => ?_) (fun h_191 => ?_)
                        · refine xv_il1 fL_does_203 ?_
                          refine xv_k fL_does_204 ?_
                          refine xv_ic_ne fL_does_206 (fun h_206 => ?_) (fun h_206 => ?_)
                          · refine xv_il1 fL_does_225 ?_
                            refine xv_k fL_does_226 ?_
                            refine xv_ic_ne fL_does_228 (fun h_228 => ?_) (fun h_228 => ?_)
                            · refine xv_il1 fL_does_240 ?_
                              refine xv_k fL_does_241 ?_
                              refine xv_ic_ne fL_does_243 (fun h_243 => ?_) (fun h_243 => ?_)
                              · refine xv_il1 fL_does_263 ?_
                                refine xv_k fL_does_264 ?_
                                refine xv_ic_ne fL_does_266 (fun h_266 => ?_) (fun h_266 => ?_)
                                · refine xv_il1 fL_does_285 ?_
                                  refine xv_k fL_does_286 ?_
                                  refine xv_ic_ne fL_does_288 (fun h_288 => ?_) (fun h_288 => ?_)
                                  · exact absurd h_288 (by decide)
                                  · refine xv_al0 fL_does_291 ?_
                                    refine xv_callVH (As := []) (S := []) (kc' := 0) (ks' := 0) hM fL_does_292 YX10_close VX10_close lL_67 rfl rfl (sx_0 _ _) rfl rfl (Nat.le_of_ble_eq_true rfl) (by decide) (by decide) (by decide) ?_ ?_
                                    · intro r s i rf j h _
                                      obtain ⟨h1, rfl, rfl, rfl, rfl⟩ := h
                                      cases h1
                                      refine xv_goto fL_does_295 ?_
                                      exact xv_iret fL_does_362 rfl rfl xv_eq_i
                                    · intro E s i rf j h
                                      obtain ⟨h1, -⟩ := h
                                      cases h1
                                · exact absurd h_266 (by decide)
                              · exact absurd h_243 (by decide)
                            · exact absurd h_228 (by decide)
                          · exact absurd h_206 (by decide)
                        · exact absurd h_191 (by decide)
                      · exact absurd h_176 (by decide)
                    · exact absurd h_162 (by decide)
                  · exact absurd h_148 (by decide)
                · exact absurd h_131 (by decide)
              · exact absurd h_117 (by decide)
            · exact absurd h_103 (by decide)
          · exact absurd h_90 (by decide)
        · exact absurd h_54 (by decide)
      · exact absurd h_40 (by decide)
    · exact absurd h_26 (by decide)
  · exact absurd h_1 (by decide)
theorem w_close_I (n : Nat) (c c' : Nat × Nat) (J : xv_J) {I I' : xv_I} {x1 x2 x3 x4 x5 : Int32} (hM : xv_Met mX10_close 8 16 128 (sx n c) I (rx c) J [.ref 0] (xv_eq (.inr "java/lang/IndexOutOfBoundsException") (sx n c') I' (rx c') J)) : xv_Met mL_does 10 16 128 (sx n c) I (rx c) J [.ref 0, .int (nI 16), .int x1, .int x2, .int x3, .int x4, .int x5] (xv_eq (.inl (some (.int (-3000)))) (sx n c') I' (rx c') J) := by
  refine xv_Met.of (by decide +kernel) (Nat.le_of_ble_eq_true rfl) (List.forall_mem_cons.mpr ⟨rfl, List.forall_mem_cons.mpr ⟨rfl, List.forall_mem_cons.mpr ⟨rfl, List.forall_mem_cons.mpr ⟨rfl, List.forall_mem_cons.mpr ⟨rfl, List.forall_mem_cons.mpr ⟨rfl, List.forall_mem_cons.mpr ⟨rfl, fun _ h => nomatch h⟩⟩⟩⟩⟩⟩⟩) ?_
  show xv_W mL_does 10 16 128 _ 16 128 (sx n c) I (rx c) J 0 [some (.ref 0), some (.int (nI 16)), some (.int x1), some (.int x2), some (.int x3), some (.int x4), some (.int x5), none] []
  refine xv_il1 fL_does_0 ?_
  refine xv_if_ne fL_does_1 (fun h_1 => ?_) (fun h_1 => ?_)
  · refine xv_il1 fL_does_24 ?_
    refine xv_k fL_does_25 ?_
    refine xv_ic_ne fL_does_26 (fun h_26 => ?_) (fun h_26 => ?_)
    · refine xv_il1 fL_does_38 ?_
      refine xv_k fL_does_39 ?_
      refine xv_ic_ne fL_does_40 (fun h_40 => ?_) (fun h_40 => ?_)
      · refine xv_il1 fL_does_52 ?_
        refine xv_k fL_does_53 ?_
        refine xv_ic_ne fL_does_54 (fun h_54 => ?_) (fun h_54 => ?_)
        · refine xv_il1 fL_does_88 ?_
          refine xv_k fL_does_89 ?_
          refine xv_ic_ne fL_does_90 (fun h_90 => ?_) (fun h_90 => ?_)
          · refine xv_il1 fL_does_101 ?_
            refine xv_k fL_does_102 ?_
            refine xv_ic_ne fL_does_103 (fun h_103 => ?_) (fun h_103 => ?_)
            · refine xv_il1 fL_does_114 ?_
              refine xv_k fL_does_115 ?_
              refine xv_ic_ne fL_does_117 (fun h_117 => ?_) (fun h_117 => ?_)
              · refine xv_il1 fL_does_128 ?_
                refine xv_k fL_does_129 ?_
                refine xv_ic_ne fL_does_131 (fun h_131 => ?_) (fun h_131 => ?_)
                · refine xv_il1 fL_does_145 ?_
                  refine xv_k fL_does_146 ?_
                  refine xv_ic_ne fL_does_148 (fun h_148 => ?_) (fun h_148 => ?_)
                  · refine xv_il1 fL_does_159 ?_
                    refine xv_k fL_does_160 ?_
                    refine xv_ic_ne fL_does_162 (fun h_162 => ?_) (fun h_162 => ?_)
                    · refine xv_il1 fL_does_173 ?_
                      refine xv_k fL_does_174 ?_
                      refine xv_ic_ne fL_does_176 (fun h_176 => ?_) (fun h_176 => ?_)
                      · refine xv_il1 fL_does_188 ?_
                        refine xv_k fL_does_189 ?_
                        refine xv_ic_ne fL_does_191 (fun h_191 => ?_) (fun h_191 => ?_)
                        · refine xv_il1 fL_does_203 ?_
                          refine xv_k fL_does_204 ?_
                          refine xv_ic_ne fL_does_206 (fun h_206 => ?_) (fun h_206 => ?_)
                          · refine xv_il1 fL_does_225 ?_
                            refine xv_k fL_does_226 ?_
                            refine xv_ic_ne fL_does_228 (fun h_228 => ?_) (fun h_228 => ?_)
                            · refine xv_il1 fL_does_240 ?_
                              refine xv_k fL_does_241 ?_
                              refine xv_ic_ne fL_does_243 (fun h_243 => ?_) (fun h_243 => ?_)
                              · refine xv_il1 fL_does_263 ?_
                                refine xv_k fL_does_264 ?_
                                refine xv_ic_ne fL_does_266 (fun h_266 => ?_) (fun h_266 => ?_)
                                · refine xv_il1 fL_does_285 ?_
                                  refine xv_k fL_does_286 ?_
                                  refine xv_ic_ne fL_does_288 (fun h_288 => ?_) (fun h_288 => ?_)
                                  · exact absurd h_288 (by decide)
                                  · refine xv_al0 fL_does_291 ?_
                                    refine xv_callVH (As := []) (S := []) (kc' := 0) (ks' := 0) hM fL_does_292 YX10_close VX10_close lL_67 rfl rfl (sx_0 _ _) rfl rfl (Nat.le_of_ble_eq_true rfl) (by decide) (by decide) (by decide) ?_ ?_
                                    · intro r s i rf j h _
                                      obtain ⟨h1, -⟩ := h
                                      cases h1
                                    · intro E s i rf j h
                                      obtain ⟨h1, rfl, rfl, rfl, rfl⟩ := h
                                      cases h1
                                      exact ⟨_, hn_292_I, xv_eq_i⟩
                                · exact absurd h_266 (by decide)
                              · exact absurd h_243 (by decide)
                            · exact absurd h_228 (by decide)
                          · exact absurd h_206 (by decide)
                        · exact absurd h_191 (by decide)
                      · exact absurd h_176 (by decide)
                    · exact absurd h_162 (by decide)
                  · exact absurd h_148 (by decide)
                · exact absurd h_131 (by decide)
              · exact absurd h_117 (by decide)
            · exact absurd h_103 (by decide)
          · exact absurd h_90 (by decide)
        · exact absurd h_54 (by decide)
      · exact absurd h_40 (by decide)
    · exact absurd h_26 (by decide)
  · exact absurd h_1 (by decide)
theorem w_close_A (n : Nat) (c c' : Nat × Nat) (J : xv_J) {I I' : xv_I} {x1 x2 x3 x4 x5 : Int32} (hM : xv_Met mX10_close 8 16 128 (sx n c) I (rx c) J [.ref 0] (xv_eq (.inr "java/lang/IllegalArgumentException") (sx n c') I' (rx c') J)) : xv_Met mL_does 10 16 128 (sx n c) I (rx c) J [.ref 0, .int (nI 16), .int x1, .int x2, .int x3, .int x4, .int x5] (xv_eq (.inl (some (.int (-2000)))) (sx n c') I' (rx c') J) := by
  refine xv_Met.of (by decide +kernel) (Nat.le_of_ble_eq_true rfl) (List.forall_mem_cons.mpr ⟨rfl, List.forall_mem_cons.mpr ⟨rfl, List.forall_mem_cons.mpr ⟨rfl, List.forall_mem_cons.mpr ⟨rfl, List.forall_mem_cons.mpr ⟨rfl, List.forall_mem_cons.mpr ⟨rfl, List.forall_mem_cons.mpr ⟨rfl, fun _ h => nomatch h⟩⟩⟩⟩⟩⟩⟩) ?_
  show xv_W mL_does 10 16 128 _ 16 128 (sx n c) I (rx c) J 0 [some (.ref 0), some (.int (nI 16)), some (.int x1), some (.int x2), some (.int x3), some (.int x4), some (.int x5), none] []
  refine xv_il1 fL_does_0 ?_
  refine xv_if_ne fL_does_1 (fun h_1 => ?_) (fun h_1 => ?_)
  · refine xv_il1 fL_does_24 ?_
    refine xv_k fL_does_25 ?_
    refine xv_ic_ne fL_does_26 (fun h_26 => ?_) (fun h_26 => ?_)
    · refine xv_il1 fL_does_38 ?_
      refine xv_k fL_does_39 ?_
      refine xv_ic_ne fL_does_40 (fun h_40 => ?_) (fun h_40 => ?_)
      · refine xv_il1 fL_does_52 ?_
        refine xv_k fL_does_53 ?_
        refine xv_ic_ne fL_does_54 (fun h_54 => ?_) (fun h_54 => ?_)
        · refine xv_il1 fL_does_88 ?_
          refine xv_k fL_does_89 ?_
          refine xv_ic_ne fL_does_90 (fun h_90 => ?_) (fun h_90 => ?_)
          · refine xv_il1 fL_does_101 ?_
            refine xv_k fL_does_102 ?_
            refine xv_ic_ne fL_does_103 (fun h_103 => ?_) (fun h_103 => ?_)
            · refine xv_il1 fL_does_114 ?_
              refine xv_k fL_does_115 ?_
              refine xv_ic_ne fL_does_117 (fun h_117 => ?_) (fun h_117 => ?_)
              · refine xv_il1 fL_does_128 ?_
                refine xv_k fL_does_129 ?_
                refine xv_ic_ne fL_does_131 (fun h_131 => ?_) (fun h_131 => ?_)
                · refine xv_il1 fL_does_145 ?_
                  refine xv_k fL_does_146 ?_
                  refine xv_ic_ne fL_does_148 (fun h_148 => ?_) (fun h_148 => ?_)
                  · refine xv_il1 fL_does_159 ?_
                    refine xv_k fL_does_160 ?_
                    refine xv_ic_ne fL_does_162 (fun h_162 => ?_) (fun h_162 => ?_)
                    · refine xv_il1 fL_does_173 ?_
                      refine xv_k fL_does_174 ?_
                      refine xv_ic_ne fL_does_176 (fun h_176 => ?_) (fun h_176 => ?_)
                      · refine xv_il1 fL_does_188 ?_
                        refine xv_k fL_does_189 ?_
                        refine xv_ic_ne fL_does_191 (fun h_191 => ?_) (fun h_191 => ?_)
                        · refine xv_il1 fL_does_203 ?_
                          refine xv_k fL_does_204 ?_
                          refine xv_ic_ne fL_does_206 (fun h_206 => ?_) (fun h_206 => ?_)
                          · refine xv_il1 fL_does_225 ?_
                            refine xv_k fL_does_226 ?_
                            refine xv_ic_ne fL_does_228 (fun h_228 => ?_) (fun h_228 => ?_)
                            · refine xv_il1 fL_does_240 ?_
                              refine xv_k fL_does_241 ?_
                              refine xv_ic_ne fL_does_243 (fun h_243 => ?_) (fun h_243 => ?_)
                              · refine xv_il1 fL_does_263 ?_
                                refine xv_k fL_does_264 ?_
                                refine xv_ic_ne fL_does_266 (fun h_266 => ?_) (fun h_266 => ?_)
                                · refine xv_il1 fL_does_285 ?_
                                  refine xv_k fL_does_286 ?_
                                  refine xv_ic_ne fL_does_288 (fun h_288 => ?_) (fun h_288 => ?_)
                                  · exact absurd h_288 (by decide)
                                  · refine xv_al0 fL_does_291 ?_
                                    refine xv_callVH (As := []) (S := []) (kc' := 0) (ks' := 0) hM fL_does_292 YX10_close VX10_close lL_67 rfl rfl (sx_0 _ _) rfl rfl (Nat.le_of_ble_eq_true rfl) (by decide) (by decide) (by decide) ?_ ?_
                                    · intro r s i rf j h _
                                      obtain ⟨h1, -⟩ := h
                                      cases h1
                                    · intro E s i rf j h
                                      obtain ⟨h1, rfl, rfl, rfl, rfl⟩ := h
                                      cases h1
                                      exact ⟨_, hn_292_A, xv_eq_i⟩
                                · exact absurd h_266 (by decide)
                              · exact absurd h_243 (by decide)
                            · exact absurd h_228 (by decide)
                          · exact absurd h_206 (by decide)
                        · exact absurd h_191 (by decide)
                      · exact absurd h_176 (by decide)
                    · exact absurd h_162 (by decide)
                  · exact absurd h_148 (by decide)
                · exact absurd h_131 (by decide)
              · exact absurd h_117 (by decide)
            · exact absurd h_103 (by decide)
          · exact absurd h_90 (by decide)
        · exact absurd h_54 (by decide)
      · exact absurd h_40 (by decide)
    · exact absurd h_26 (by decide)
  · exact absurd h_1 (by decide)
theorem w_close_S (n : Nat) (c c' : Nat × Nat) (J : xv_J) {I I' : xv_I} {x1 x2 x3 x4 x5 : Int32} (hM : xv_Met mX10_close 8 16 128 (sx n c) I (rx c) J [.ref 0] (xv_eq (.inr "java/lang/IllegalStateException") (sx n c') I' (rx c') J)) : xv_Met mL_does 10 16 128 (sx n c) I (rx c) J [.ref 0, .int (nI 16), .int x1, .int x2, .int x3, .int x4, .int x5] (xv_eq (.inl (some (.int (-1000)))) (sx n c') I' (rx c') J) := by
  refine xv_Met.of (by decide +kernel) (Nat.le_of_ble_eq_true rfl) (List.forall_mem_cons.mpr ⟨rfl, List.forall_mem_cons.mpr ⟨rfl, List.forall_mem_cons.mpr ⟨rfl, List.forall_mem_cons.mpr ⟨rfl, List.forall_mem_cons.mpr ⟨rfl, List.forall_mem_cons.mpr ⟨rfl, List.forall_mem_cons.mpr ⟨rfl, fun _ h => nomatch h⟩⟩⟩⟩⟩⟩⟩) ?_
  show xv_W mL_does 10 16 128 _ 16 128 (sx n c) I (rx c) J 0 [some (.ref 0), some (.int (nI 16)), some (.int x1), some (.int x2), some (.int x3), some (.int x4), some (.int x5), none] []
  refine xv_il1 fL_does_0 ?_
  refine xv_if_ne fL_does_1 (fun h_1 => ?_) (fun h_1 => ?_)
  · refine xv_il1 fL_does_24 ?_
    refine xv_k fL_does_25 ?_
    refine xv_ic_ne fL_does_26 (fun h_26 => ?_) (fun h_26 => ?_)
    · refine xv_il1 fL_does_38 ?_
      refine xv_k fL_does_39 ?_
      refine xv_ic_ne fL_does_40 (fun h_40 => ?_) (fun h_40 => ?_)
      · refine xv_il1 fL_does_52 ?_
        refine xv_k fL_does_53 ?_
        refine xv_ic_ne fL_does_54 (fun h_54 => ?_) (fun h_54 => ?_)
        · refine xv_il1 fL_does_88 ?_
          refine xv_k fL_does_89 ?_
          refine xv_ic_ne fL_does_90 (fun h_90 => ?_) (fun h_90 => ?_)
          · refine xv_il1 fL_does_101 ?_
            refine xv_k fL_does_102 ?_
            refine xv_ic_ne fL_does_103 (fun h_103 => ?_) (fun h_103 => ?_)
            · refine xv_il1 fL_does_114 ?_
              refine xv_k fL_does_115 ?_
              refine xv_ic_ne fL_does_117 (fun h_117 => ?_) (fun h_117 => ?_)
              · refine xv_il1 fL_does_128 ?_
                refine xv_k fL_does_129 ?_
                refine xv_ic_ne fL_does_131 (fun h_131 => ?_) (fun h_131 => ?_)
                · refine xv_il1 fL_does_145 ?_
                  refine xv_k fL_does_146 ?_
                  refine xv_ic_ne fL_does_148 (fun h_148 => ?_) (fun h_148 => ?_)
                  · refine xv_il1 fL_does_159 ?_
                    refine xv_k fL_does_160 ?_
                    refine xv_ic_ne fL_does_162 (fun h_162 => ?_) (fun h_162 => ?_)
                    · refine xv_il1 fL_does_173 ?_
                      refine xv_k fL_does_174 ?_
                      refine xv_ic_ne fL_does_176 (fun h_176 => ?_) (fun h_176 => ?_)
                      · refine xv_il1 fL_does_188 ?_
                        refine xv_k fL_does_189 ?_
                        refine xv_ic_ne fL_does_191 (fun h_191 => ?_) (fun h_191 => ?_)
                        · refine xv_il1 fL_does_203 ?_
                          refine xv_k fL_does_204 ?_
                          refine xv_ic_ne fL_does_206 (fun h_206 => ?_) (fun h_206 => ?_)
                          · refine xv_il1 fL_does_225 ?_
                            refine xv_k fL_does_226 ?_
                            refine xv_ic_ne fL_does_228 (fun h_228 => ?_) (fun h_228 => ?_)
                            · refine xv_il1 fL_does_240 ?_
                              refine xv_k fL_does_241 ?_
                              refine xv_ic_ne fL_does_243 (fun h_243 => ?_) (fun h_243 => ?_)
                              · refine xv_il1 fL_does_263 ?_
                                refine xv_k fL_does_264 ?_
                                refine xv_ic_ne fL_does_266 (fun h_266 => ?_) (fun h_266 => ?_)
                                · refine xv_il1 fL_does_285 ?_
                                  refine xv_k fL_does_286 ?_
                                  refine xv_ic_ne fL_does_288 (fun h_288 => ?_) (fun h_288 => ?_)
                                  · exact absurd h_288 (by decide)
                                  · refine xv_al0 fL_does_291 ?_
                                    refine xv_callVH (As := []) (S := []) (kc' := 0) (ks' := 0) hM fL_does_292 YX10_close VX10_close lL_67 rfl rfl (sx_0 _ _) rfl rfl (Nat.le_of_ble_eq_true rfl) (by decide) (by decide) (by decide) ?_ ?_
                                    · intro r s i rf j h _
                                      obtain ⟨h1, -⟩ := h
                                      cases h1
                                    · intro E s i rf j h
                                      obtain ⟨h1, rfl, rfl, rfl, rfl⟩ := h
                                      cases h1
                                      exact ⟨_, hn_292_S, xv_eq_i⟩
                                · exact absurd h_266 (by decide)
                              · exact absurd h_243 (by decide)
                            · exact absurd h_228 (by decide)
                          · exact absurd h_206 (by decide)
                        · exact absurd h_191 (by decide)
                      · exact absurd h_176 (by decide)
                    · exact absurd h_162 (by decide)
                  · exact absurd h_148 (by decide)
                · exact absurd h_131 (by decide)
              · exact absurd h_117 (by decide)
            · exact absurd h_103 (by decide)
          · exact absurd h_90 (by decide)
        · exact absurd h_54 (by decide)
      · exact absurd h_40 (by decide)
    · exact absurd h_26 (by decide)
  · exact absurd h_1 (by decide)
theorem w_printed_ok (n : Nat) (c c' : Nat × Nat) (J : xv_J) {I I' : xv_I} {x1 x2 x3 x4 x5 : Int32} {v : Int32} (hM : xv_Met mX10_printed 8 16 128 (sx n c) I (rx c) J [.ref 0, .int x1, .int x2, .int x3] (xv_eq (.inl (some (.int (v)))) (sx n c') I' (rx c') J)) : xv_Met mL_does 10 16 128 (sx n c) I (rx c) J [.ref 0, .int (nI 17), .int x1, .int x2, .int x3, .int x4, .int x5] (xv_eq (.inl (some (.int (v)))) (sx n c') I' (rx c') J) := by
  refine xv_Met.of (by decide +kernel) (Nat.le_of_ble_eq_true rfl) (List.forall_mem_cons.mpr ⟨rfl, List.forall_mem_cons.mpr ⟨rfl, List.forall_mem_cons.mpr ⟨rfl, List.forall_mem_cons.mpr ⟨rfl, List.forall_mem_cons.mpr ⟨rfl, List.forall_mem_cons.mpr ⟨rfl, List.forall_mem_cons.mpr ⟨rfl, fun _ h => nomatch h⟩⟩⟩⟩⟩⟩⟩) ?_
  show xv_W mL_does 10 16 128 _ 16 128 (sx n c) I (rx c) J 0 [some (.ref 0), some (.int (nI 17)), some (.int x1), some (.int x2), some (.int x3), some (.int x4), some (.int x5), none] []
  refine xv_il1 fL_does_0 ?_
  refine xv_if_ne fL_does_1 (fun h_1 => ?_) (fun h_1 => ?_)
  · refine xv_il1 fL_does_24 ?_
    refine xv_k fL_does_25 ?_
    refine xv_ic_ne fL_does_26 (fun h_26 => ?_) (fun h_26 => ?_)
    · refine xv_il1 fL_does_38 ?_
      refine xv_k fL_does_39 ?_
      refine xv_ic_ne fL_does_40 (fun h_40 => ?_) (fun h_40 => ?_)
      · refine xv_il1 fL_does_52 ?_
        refine xv_k fL_does_53 ?_
        refine xv_ic_ne fL_does_54 (fun h_54 => ?_) (fun h_54 => ?_)
        · refine xv_il1 fL_does_88 ?_
          refine xv_k fL_does_89 ?_
          refine xv_ic_ne fL_does_90 (fun h_90 => ?_) (fun h_90 => ?_)
          · refine xv_il1 fL_does_101 ?_
            refine xv_k fL_does_102 ?_
            refine xv_ic_ne fL_does_103 (fun h_103 => ?_) (fun h_103 => ?_)
            · refine xv_il1 fL_does_114 ?_
              refine xv_k fL_does_115 ?_
              refine xv_ic_ne fL_does_117 (fun h_117 => ?_) (fun h_117 => ?_)
              · refine xv_il1 fL_does_128 ?_
                refine xv_k fL_does_129 ?_
                refine xv_ic_ne fL_does_131 (fun h_131 => ?_) (fun h_131 => ?_)
                · refine xv_il1 fL_does_145 ?_
                  refine xv_k fL_does_146 ?_
                  refine xv_ic_ne fL_does_148 (fun h_148 => ?_) (fun h_148 => ?_)
                  · refine xv_il1 fL_does_159 ?_
                    refine xv_k fL_does_160 ?_
                    refine xv_ic_ne fL_does_162 (fun h_162 => ?_) (fun h_162 => ?_)
                    · refine xv_il1 fL_does_173 ?_
                      refine xv_k fL_does_174 ?_
                      refine xv_ic_ne fL_does_176 (fun h_176 => ?_) (fun h_176 => ?_)
                      · refine xv_il1 fL_does_188 ?_
                        refine xv_k fL_does_189 ?_
                        refine xv_ic_ne fL_does_191 (fun h_191 => ?_) (fun h_191 => ?_)
                        · refine xv_il1 fL_does_203 ?_
                          refine xv_k fL_does_204 ?_
                          refine xv_ic_ne fL_does_206 (fun h_206 => ?_) (fun h_206 => ?_)
                          · refine xv_il1 fL_does_225 ?_
                            refine xv_k fL_does_226 ?_
                            refine xv_ic_ne fL_does_228 (fun h_228 => ?_) (fun h_228 => ?_)
                            · refine xv_il1 fL_does_240 ?_
                              refine xv_k fL_does_241 ?_
                              refine xv_ic_ne fL_does_243 (fun h_243 => ?_) (fun h_243 => ?_)
                              · refine xv_il1 fL_does_263 ?_
                                refine xv_k fL_does_264 ?_
                                refine xv_ic_ne fL_does_266 (fun h_266 => ?_) (fun h_266 => ?_)
                                · refine xv_il1 fL_does_285 ?_
                                  refine xv_k fL_does_286 ?_
                                  refine xv_ic_ne fL_does_288 (fun h_288 => ?_) (fun h_288 => ?_)
                                  · refine xv_il1 fL_does_298 ?_
                                    refine xv_k fL_does_299 ?_
                                    refine xv_ic_ne fL_does_301 (fun h_301 => ?_) (fun h_301 => ?_)
                                    · exact absurd h_301 (by decide)
                                    · refine xv_al0 fL_does_304 ?_
                                      refine xv_il2 fL_does_305 ?_
                                      refine xv_il3 fL_does_306 ?_
                                      refine xv_il4 fL_does_307 ?_
                                      refine xv_callVH (As := [.int x1, .int x2, .int x3]) (S := []) (kc' := 0) (ks' := 0) hM fL_does_309 YX10_printed VX10_printed lL_71 rfl rfl (sx_0 _ _) rfl rfl (Nat.le_of_ble_eq_true rfl) (by decide) (by decide) (by decide) ?_ ?_
                                      · intro r s i rf j h _
                                        obtain ⟨h1, rfl, rfl, rfl, rfl⟩ := h
                                        cases h1
                                        refine xv_goto fL_does_312 ?_
                                        exact xv_iret fL_does_362 rfl rfl xv_eq_i
                                      · intro E s i rf j h
                                        obtain ⟨h1, -⟩ := h
                                        cases h1
                                  · exact absurd h_288 (by decide)
                                · exact absurd h_266 (by decide)
                              · exact absurd h_243 (by decide)
                            · exact absurd h_228 (by decide)
                          · exact absurd h_206 (by decide)
                        · exact absurd h_191 (by decide)
                      · exact absurd h_176 (by decide)
                    · exact absurd h_162 (by decide)
                  · exact absurd h_148 (by decide)
                · exact absurd h_131 (by decide)
              · exact absurd h_117 (by decide)
            · exact absurd h_103 (by decide)
          · exact absurd h_90 (by decide)
        · exact absurd h_54 (by decide)
      · exact absurd h_40 (by decide)
    · exact absurd h_26 (by decide)
  · exact absurd h_1 (by decide)
theorem w_printed_I (n : Nat) (c c' : Nat × Nat) (J : xv_J) {I I' : xv_I} {x1 x2 x3 x4 x5 : Int32} (hM : xv_Met mX10_printed 8 16 128 (sx n c) I (rx c) J [.ref 0, .int x1, .int x2, .int x3] (xv_eq (.inr "java/lang/IndexOutOfBoundsException") (sx n c') I' (rx c') J)) : xv_Met mL_does 10 16 128 (sx n c) I (rx c) J [.ref 0, .int (nI 17), .int x1, .int x2, .int x3, .int x4, .int x5] (xv_eq (.inl (some (.int (-3000)))) (sx n c') I' (rx c') J) := by
  refine xv_Met.of (by decide +kernel) (Nat.le_of_ble_eq_true rfl) (List.forall_mem_cons.mpr ⟨rfl, List.forall_mem_cons.mpr ⟨rfl, List.forall_mem_cons.mpr ⟨rfl, List.forall_mem_cons.mpr ⟨rfl, List.forall_mem_cons.mpr ⟨rfl, List.forall_mem_cons.mpr ⟨rfl, List.forall_mem_cons.mpr ⟨rfl, fun _ h => nomatch h⟩⟩⟩⟩⟩⟩⟩) ?_
  show xv_W mL_does 10 16 128 _ 16 128 (sx n c) I (rx c) J 0 [some (.ref 0), some (.int (nI 17)), some (.int x1), some (.int x2), some (.int x3), some (.int x4), some (.int x5), none] []
  refine xv_il1 fL_does_0 ?_
  refine xv_if_ne fL_does_1 (fun h_1 => ?_) (fun h_1 => ?_)
  · refine xv_il1 fL_does_24 ?_
    refine xv_k fL_does_25 ?_
    refine xv_ic_ne fL_does_26 (fun h_26 => ?_) (fun h_26 => ?_)
    · refine xv_il1 fL_does_38 ?_
      refine xv_k fL_does_39 ?_
      refine xv_ic_ne fL_does_40 (fun h_40 => ?_) (fun h_40 => ?_)
      · refine xv_il1 fL_does_52 ?_
        refine xv_k fL_does_53 ?_
        refine xv_ic_ne fL_does_54 (fun h_54 => ?_) (fun h_54 => ?_)
        · refine xv_il1 fL_does_88 ?_
          refine xv_k fL_does_89 ?_
          refine xv_ic_ne fL_does_90 (fun h_90 => ?_) (fun h_90 => ?_)
          · refine xv_il1 fL_does_101 ?_
            refine xv_k fL_does_102 ?_
            refine xv_ic_ne fL_does_103 (fun h_103 => ?_) (fun h_103 => ?_)
            · refine xv_il1 fL_does_114 ?_
              refine xv_k fL_does_115 ?_
              refine xv_ic_ne fL_does_117 (fun h_117 => ?_) (fun h_117 => ?_)
              · refine xv_il1 fL_does_128 ?_
                refine xv_k fL_does_129 ?_
                refine xv_ic_ne fL_does_131 (fun h_131 => ?_) (fun h_131 => ?_)
                · refine xv_il1 fL_does_145 ?_
                  refine xv_k fL_does_146 ?_
                  refine xv_ic_ne fL_does_148 (fun h_148 => ?_) (fun h_148 => ?_)
                  · refine xv_il1 fL_does_159 ?_
                    refine xv_k fL_does_160 ?_
                    refine xv_ic_ne fL_does_162 (fun h_162 => ?_) (fun h_162 => ?_)
                    · refine xv_il1 fL_does_173 ?_
                      refine xv_k fL_does_174 ?_
                      refine xv_ic_ne fL_does_176 (fun h_176 => ?_) (fun h_176 => ?_)
                      · refine xv_il1 fL_does_188 ?_
                        refine xv_k fL_does_189 ?_
                        refine xv_ic_ne fL_does_191 (fun h_191 => ?_) (fun h_191 => ?_)
                        · refine xv_il1 fL_does_203 ?_
                          refine xv_k fL_does_204 ?_
                          refine xv_ic_ne fL_does_206 (fun h_206 => ?_) (fun h_206 => ?_)
                          · refine xv_il1 fL_does_225 ?_
                            refine xv_k fL_does_226 ?_
                            refine xv_ic_ne fL_does_228 (fun h_228 => ?_) (fun h_228 => ?_)
                            · refine xv_il1 fL_does_240 ?_
                              refine xv_k fL_does_241 ?_
                              refine xv_ic_ne fL_does_243 (fun h_243 => ?_) (fun h_243 => ?_)
                              · refine xv_il1 fL_does_263 ?_
                                refine xv_k fL_does_264 ?_
                                refine xv_ic_ne fL_does_266 (fun h_266 => ?_) (fun h_266 => ?_)
                                · refine xv_il1 fL_does_285 ?_
                                  refine xv_k fL_does_286 ?_
                                  refine xv_ic_ne fL_does_288 (fun h_288 => ?_) (fun h_288 => ?_)
                                  · refine xv_il1 fL_does_298 ?_
                                    refine xv_k fL_does_299 ?_
                                    refine xv_ic_ne fL_does_301 (fun h_301 => ?_) (fun h_301 => ?_)
                                    · exact absurd h_301 (by decide)
                                    · refine xv_al0 fL_does_304 ?_
                                      refine xv_il2 fL_does_305 ?_
                                      refine xv_il3 fL_does_306 ?_
                                      refine xv_il4 fL_does_307 ?_
                                      refine xv_callVH (As := [.int x1, .int x2, .int x3]) (S := []) (kc' := 0) (ks' := 0) hM fL_does_309 YX10_printed VX10_printed lL_71 rfl rfl (sx_0 _ _) rfl rfl (Nat.le_of_ble_eq_true rfl) (by decide) (by decide) (by decide) ?_ ?_
                                      · intro r s i rf j h _
                                        obtain ⟨h1, -⟩ := h
                                        cases h1
                                      · intro E s i rf j h
                                        obtain ⟨h1, rfl, rfl, rfl, rfl⟩ := h
                                        cases h1
                                        exact ⟨_, hn_309_I, xv_eq_i⟩
                                  · exact absurd h_288 (by decide)
                                · exact absurd h_266 (by decide)
                              · exact absurd h_243 (by decide)
                            · exact absurd h_228 (by decide)
                          · exact absurd h_206 (by decide)
                        · exact absurd h_191 (by decide)
                      · exact absurd h_176 (by decide)
                    · exact absurd h_162 (by decide)
                  · exact absurd h_148 (by decide)
                · exact absurd h_131 (by decide)
              · exact absurd h_117 (by decide)
            · exact absurd h_103 (by decide)
          · exact absurd h_90 (by decide)
        · exact absurd h_54 (by decide)
      · exact absurd h_40 (by decide)
    · exact absurd h_26 (by decide)
  · exact absurd h_1 (by decide)
theorem w_printed_A (n : Nat) (c c' : Nat × Nat) (J : xv_J) {I I' : xv_I} {x1 x2 x3 x4 x5 : Int32} (hM : xv_Met mX10_printed 8 16 128 (sx n c) I (rx c) J [.ref 0, .int x1, .int x2, .int x3] (xv_eq (.inr "java/lang/IllegalArgumentException") (sx n c') I' (rx c') J)) : xv_Met mL_does 10 16 128 (sx n c) I (rx c) J [.ref 0, .int (nI 17), .int x1, .int x2, .int x3, .int x4, .int x5] (xv_eq (.inl (some (.int (-2000)))) (sx n c') I' (rx c') J) := by
  refine xv_Met.of (by decide +kernel) (Nat.le_of_ble_eq_true rfl) (List.forall_mem_cons.mpr ⟨rfl, List.forall_mem_cons.mpr ⟨rfl, List.forall_mem_cons.mpr ⟨rfl, List.forall_mem_cons.mpr ⟨rfl, List.forall_mem_cons.mpr ⟨rfl, List.forall_mem_cons.mpr ⟨rfl, List.forall_mem_cons.mpr ⟨rfl, fun _ h => nomatch h⟩⟩⟩⟩⟩⟩⟩) ?_
  show xv_W mL_does 10 16 128 _ 16 128 (sx n c) I (rx c) J 0 [some (.ref 0), some (.int (nI 17)), some (.int x1), some (.int x2), some (.int x3), some (.int x4), some (.int x5), none] []
  refine xv_il1 fL_does_0 ?_
  refine xv_if_ne fL_does_1 (fun h_1 => ?_) (fun h_1 => ?_)
  · refine xv_il1 fL_does_24 ?_
    refine xv_k fL_does_25 ?_
    refine xv_ic_ne fL_does_26 (fun h_26 => ?_) (fun h_26 => ?_)
    · refine xv_il1 fL_does_38 ?_
      refine xv_k fL_does_39 ?_
      refine xv_ic_ne fL_does_40 (fun h_40 => ?_) (fun h_40 => ?_)
      · refine xv_il1 fL_does_52 ?_
        refine xv_k fL_does_53 ?_
        refine xv_ic_ne fL_does_54 (fun h_54 => ?_) (fun h_54 => ?_)
        · refine xv_il1 fL_does_88 ?_
          refine xv_k fL_does_89 ?_
          refine xv_ic_ne fL_does_90 (fun h_90 => ?_) (fun h_90 => ?_)
          · refine xv_il1 fL_does_101 ?_
            refine xv_k fL_does_102 ?_
            refine xv_ic_ne fL_does_103 (fun h_103 => ?_) (fun h_103 => ?_)
            · refine xv_il1 fL_does_114 ?_
              refine xv_k fL_does_115 ?_
              refine xv_ic_ne fL_does_117 (fun h_117 => ?_) (fun h_117 => ?_)
              · refine xv_il1 fL_does_128 ?_
                refine xv_k fL_does_129 ?_
                refine xv_ic_ne fL_does_131 (fun h_131 => ?_) (fun h_131 => ?_)
                · refine xv_il1 fL_does_145 ?_
                  refine xv_k fL_does_146 ?_
                  refine xv_ic_ne fL_does_148 (fun h_148 => ?_) (fun h_148 => ?_)
                  · refine xv_il1 fL_does_159 ?_
                    refine xv_k fL_does_160 ?_
                    refine xv_ic_ne fL_does_162 (fun h_162 => ?_) (fun h_162 => ?_)
                    · refine xv_il1 fL_does_173 ?_
                      refine xv_k fL_does_174 ?_
                      refine xv_ic_ne fL_does_176 (fun h_176 => ?_) (fun h_176 => ?_)
                      · refine xv_il1 fL_does_188 ?_
                        refine xv_k fL_does_189 ?_
                        refine xv_ic_ne fL_does_191 (fun h_191 => ?_) (fun h_191 => ?_)
                        · refine xv_il1 fL_does_203 ?_
                          refine xv_k fL_does_204 ?_
                          refine xv_ic_ne fL_does_206 (fun h_206 => ?_) (fun h_206 => ?_)
                          · refine xv_il1 fL_does_225 ?_
                            refine xv_k fL_does_226 ?_
                            refine xv_ic_ne fL_does_228 (fun h_228 => ?_) (fun h_228 => ?_)
                            · refine xv_il1 fL_does_240 ?_
                              refine xv_k fL_does_241 ?_
                              refine xv_ic_ne fL_does_243 (fun h_243 => ?_) (fun h_243 => ?_)
                              · refine xv_il1 fL_does_263 ?_
                                refine xv_k fL_does_264 ?_
                                refine xv_ic_ne fL_does_266 (fun h_266 => ?_) (fun h_266 => ?_)
                                · refine xv_il1 fL_does_285 ?_
                                  refine xv_k fL_does_286 ?_
                                  refine xv_ic_ne fL_does_288 (fun h_288 => ?_) (fun h_288 => ?_)
                                  · refine xv_il1 fL_does_298 ?_
                                    refine xv_k fL_does_299 ?_
                                    refine xv_ic_ne fL_does_301 (fun h_301 => ?_) (fun h_301 => ?_)
                                    · exact absurd h_301 (by decide)
                                    · refine xv_al0 fL_does_304 ?_
                                      refine xv_il2 fL_does_305 ?_
                                      refine xv_il3 fL_does_306 ?_
                                      refine xv_il4 fL_does_307 ?_
                                      refine xv_callVH (As := [.int x1, .int x2, .int x3]) (S := []) (kc' := 0) (ks' := 0) hM fL_does_309 YX10_printed VX10_printed lL_71 rfl rfl (sx_0 _ _) rfl rfl (Nat.le_of_ble_eq_true rfl) (by decide) (by decide) (by decide) ?_ ?_
                                      · intro r s i rf j h _
                                        obtain ⟨h1, -⟩ := h
                                        cases h1
                                      · intro E s i rf j h
                                        obtain ⟨h1, rfl, rfl, rfl, rfl⟩ := h
                                        cases h1
                                        exact ⟨_, hn_309_A, xv_eq_i⟩
                                  · exact absurd h_288 (by decide)
                                · exact absurd h_266 (by decide)
                              · exact absurd h_243 (by decide)
                            · exact absurd h_228 (by decide)
                          · exact absurd h_206 (by decide)
                        · exact absurd h_191 (by decide)
                      · exact absurd h_176 (by decide)
                    · exact absurd h_162 (by decide)
                  · exact absurd h_148 (by decide)
                · exact absurd h_131 (by decide)
              · exact absurd h_117 (by decide)
            · exact absurd h_103 (by decide)
          · exact absurd h_90 (by decide)
        · exact absurd h_54 (by decide)
      · exact absurd h_40 (by decide)
    · exact absurd h_26 (by decide)
  · exact absurd h_1 (by decide)
theorem w_printed_S (n : Nat) (c c' : Nat × Nat) (J : xv_J) {I I' : xv_I} {x1 x2 x3 x4 x5 : Int32} (hM : xv_Met mX10_printed 8 16 128 (sx n c) I (rx c) J [.ref 0, .int x1, .int x2, .int x3] (xv_eq (.inr "java/lang/IllegalStateException") (sx n c') I' (rx c') J)) : xv_Met mL_does 10 16 128 (sx n c) I (rx c) J [.ref 0, .int (nI 17), .int x1, .int x2, .int x3, .int x4, .int x5] (xv_eq (.inl (some (.int (-1000)))) (sx n c') I' (rx c') J) := by
  refine xv_Met.of (by decide +kernel) (Nat.le_of_ble_eq_true rfl) (List.forall_mem_cons.mpr ⟨rfl, List.forall_mem_cons.mpr ⟨rfl, List.forall_mem_cons.mpr ⟨rfl, List.forall_mem_cons.mpr ⟨rfl, List.forall_mem_cons.mpr ⟨rfl, List.forall_mem_cons.mpr ⟨rfl, List.forall_mem_cons.mpr ⟨rfl, fun _ h => nomatch h⟩⟩⟩⟩⟩⟩⟩) ?_
  show xv_W mL_does 10 16 128 _ 16 128 (sx n c) I (rx c) J 0 [some (.ref 0), some (.int (nI 17)), some (.int x1), some (.int x2), some (.int x3), some (.int x4), some (.int x5), none] []
  refine xv_il1 fL_does_0 ?_
  refine xv_if_ne fL_does_1 (fun h_1 => ?_) (fun h_1 => ?_)
  · refine xv_il1 fL_does_24 ?_
    refine xv_k fL_does_25 ?_
    refine xv_ic_ne fL_does_26 (fun h_26 => ?_) (fun h_26 => ?_)
    · refine xv_il1 fL_does_38 ?_
      refine xv_k fL_does_39 ?_
      refine xv_ic_ne fL_does_40 (fun h_40 => ?_) (fun h_40 => ?_)
      · refine xv_il1 fL_does_52 ?_
        refine xv_k fL_does_53 ?_
        refine xv_ic_ne fL_does_54 (fun h_54 => ?_) (fun h_54 => ?_)
        · refine xv_il1 fL_does_88 ?_
          refine xv_k fL_does_89 ?_
          refine xv_ic_ne fL_does_90 (fun h_90 => ?_) (fun h_90 => ?_)
          · refine xv_il1 fL_does_101 ?_
            refine xv_k fL_does_102 ?_
            refine xv_ic_ne fL_does_103 (fun h_103 => ?_) (fun h_103 => ?_)
            · refine xv_il1 fL_does_114 ?_
              refine xv_k fL_does_115 ?_
              refine xv_ic_ne fL_does_117 (fun h_117 => ?_) (fun h_117 => ?_)
              · refine xv_il1 fL_does_128 ?_
                refine xv_k fL_does_129 ?_
                refine xv_ic_ne fL_does_131 (fun h_131 => ?_) (fun h_131 => ?_)
                · refine xv_il1 fL_does_145 ?_
                  refine xv_k fL_does_146 ?_
                  refine xv_ic_ne fL_does_148 (fun h_148 => ?_) (fun h_148 => ?_)
                  · refine xv_il1 fL_does_159 ?_
                    refine xv_k fL_does_160 ?_
                    refine xv_ic_ne fL_does_162 (fun h_162 => ?_) (fun h_162 => ?_)
                    · refine xv_il1 fL_does_173 ?_
                      refine xv_k fL_does_174 ?_
                      refine xv_ic_ne fL_does_176 (fun h_176 => ?_) (fun h_176 => ?_)
                      · refine xv_il1 fL_does_188 ?_
                        refine xv_k fL_does_189 ?_
                        refine xv_ic_ne fL_does_191 (fun h_191 => ?_) (fun h_191 => ?_)
                        · refine xv_il1 fL_does_203 ?_
                          refine xv_k fL_does_204 ?_
                          refine xv_ic_ne fL_does_206 (fun h_206 => ?_) (fun h_206 => ?_)
                          · refine xv_il1 fL_does_225 ?_
                            refine xv_k fL_does_226 ?_
                            refine xv_ic_ne fL_does_228 (fun h_228 => ?_) (fun h_228 => ?_)
                            · refine xv_il1 fL_does_240 ?_
                              refine xv_k fL_does_241 ?_
                              refine xv_ic_ne fL_does_243 (fun h_243 => ?_) (fun h_243 => ?_)
                              · refine xv_il1 fL_does_263 ?_
                                refine xv_k fL_does_264 ?_
                                refine xv_ic_ne fL_does_266 (fun h_266 => ?_) (fun h_266 => ?_)
                                · refine xv_il1 fL_does_285 ?_
                                  refine xv_k fL_does_286 ?_
                                  refine xv_ic_ne fL_does_288 (fun h_288 => ?_) (fun h_288 => ?_)
                                  · refine xv_il1 fL_does_298 ?_
                                    refine xv_k fL_does_299 ?_
                                    refine xv_ic_ne fL_does_301 (fun h_301 => ?_) (fun h_301 => ?_)
                                    · exact absurd h_301 (by decide)
                                    · refine xv_al0 fL_does_304 ?_
                                      refine xv_il2 fL_does_305 ?_
                                      refine xv_il3 fL_does_306 ?_
                                      refine xv_il4 fL_does_307 ?_
                                      refine xv_callVH (As := [.int x1, .int x2, .int x3]) (S := []) (kc' := 0) (ks' := 0) hM fL_does_309 YX10_printed VX10_printed lL_71 rfl rfl (sx_0 _ _) rfl rfl (Nat.le_of_ble_eq_true rfl) (by decide) (by decide) (by decide) ?_ ?_
                                      · intro r s i rf j h _
                                        obtain ⟨h1, -⟩ := h
                                        cases h1
                                      · intro E s i rf j h
                                        obtain ⟨h1, rfl, rfl, rfl, rfl⟩ := h
                                        cases h1
                                        exact ⟨_, hn_309_S, xv_eq_i⟩
                                  · exact absurd h_288 (by decide)
                                · exact absurd h_266 (by decide)
                              · exact absurd h_243 (by decide)
                            · exact absurd h_228 (by decide)
                          · exact absurd h_206 (by decide)
                        · exact absurd h_191 (by decide)
                      · exact absurd h_176 (by decide)
                    · exact absurd h_162 (by decide)
                  · exact absurd h_148 (by decide)
                · exact absurd h_131 (by decide)
              · exact absurd h_117 (by decide)
            · exact absurd h_103 (by decide)
          · exact absurd h_90 (by decide)
        · exact absurd h_54 (by decide)
      · exact absurd h_40 (by decide)
    · exact absurd h_26 (by decide)
  · exact absurd h_1 (by decide)
theorem w_correct_ok (n : Nat) (c c' : Nat × Nat) (J : xv_J) {I I' : xv_I} {x1 x2 x3 x4 x5 : Int32} {v : Int32} (hM : xv_Met mX10_correct 8 16 128 (sx n c) I (rx c) J [.ref 0, .int x1, .int x2] (xv_eq (.inl (some (.int (v)))) (sx n c') I' (rx c') J)) : xv_Met mL_does 10 16 128 (sx n c) I (rx c) J [.ref 0, .int (nI 18), .int x1, .int x2, .int x3, .int x4, .int x5] (xv_eq (.inl (some (.int (v)))) (sx n c') I' (rx c') J) := by
  refine xv_Met.of (by decide +kernel) (Nat.le_of_ble_eq_true rfl) (List.forall_mem_cons.mpr ⟨rfl, List.forall_mem_cons.mpr ⟨rfl, List.forall_mem_cons.mpr ⟨rfl, List.forall_mem_cons.mpr ⟨rfl, List.forall_mem_cons.mpr ⟨rfl, List.forall_mem_cons.mpr ⟨rfl, List.forall_mem_cons.mpr ⟨rfl, fun _ h => nomatch h⟩⟩⟩⟩⟩⟩⟩) ?_
  show xv_W mL_does 10 16 128 _ 16 128 (sx n c) I (rx c) J 0 [some (.ref 0), some (.int (nI 18)), some (.int x1), some (.int x2), some (.int x3), some (.int x4), some (.int x5), none] []
  refine xv_il1 fL_does_0 ?_
  refine xv_if_ne fL_does_1 (fun h_1 => ?_) (fun h_1 => ?_)
  · refine xv_il1 fL_does_24 ?_
    refine xv_k fL_does_25 ?_
    refine xv_ic_ne fL_does_26 (fun h_26 => ?_) (fun h_26 => ?_)
    · refine xv_il1 fL_does_38 ?_
      refine xv_k fL_does_39 ?_
      refine xv_ic_ne fL_does_40 (fun h_40 => ?_) (fun h_40 => ?_)
      · refine xv_il1 fL_does_52 ?_
        refine xv_k fL_does_53 ?_
        refine xv_ic_ne fL_does_54 (fun h_54 => ?_) (fun h_54 => ?_)
        · refine xv_il1 fL_does_88 ?_
          refine xv_k fL_does_89 ?_
          refine xv_ic_ne fL_does_90 (fun h_90 => ?_) (fun h_90 => ?_)
          · refine xv_il1 fL_does_101 ?_
            refine xv_k fL_does_102 ?_
            refine xv_ic_ne fL_does_103 (fun h_103 => ?_) (fun h_103 => ?_)
            · refine xv_il1 fL_does_114 ?_
              refine xv_k fL_does_115 ?_
              refine xv_ic_ne fL_does_117 (fun h_117 => ?_) (fun h_117 => ?_)
              · refine xv_il1 fL_does_128 ?_
                refine xv_k fL_does_129 ?_
                refine xv_ic_ne fL_does_131 (fun h_131 => ?_) (fun h_131 => ?_)
                · refine xv_il1 fL_does_145 ?_
                  refine xv_k fL_does_146 ?_
                  refine xv_ic_ne fL_does_148 (fun h_148 => ?_) (fun h_148 => ?_)
                  · refine xv_il1 fL_does_159 ?_
                    refine xv_k fL_does_160 ?_
                    refine xv_ic_ne fL_does_162 (fun h_162 => ?_) (fun h_162 => ?_)
                    · refine xv_il1 fL_does_173 ?_
                      refine xv_k fL_does_174 ?_
                      refine xv_ic_ne fL_does_176 (fun h_176 => ?_) (fun h_176 => ?_)
                      · refine xv_il1 fL_does_188 ?_
                        refine xv_k fL_does_189 ?_
                        refine xv_ic_ne fL_does_191 (fun h_191 => ?_) (fun h_191 => ?_)
                        · refine xv_il1 fL_does_203 ?_
                          refine xv_k fL_does_204 ?_
                          refine xv_ic_ne fL_does_206 (fun h_206 => ?_) (fun h_206 => ?_)
                          · refine xv_il1 fL_does_225 ?_
                            refine xv_k fL_does_226 ?_
                            refine xv_ic_ne fL_does_228 (fun h_228 => ?_) (fun h_228 => ?_)
                            · refine xv_il1 fL_does_240 ?_
                              refine xv_k fL_does_241 ?_
                              refine xv_ic_ne fL_does_243 (fun h_243 => ?_) (fun h_243 => ?_)
                              · refine xv_il1 fL_does_263 ?_
                                refine xv_k fL_does_264 ?_
                                refine xv_ic_ne fL_does_266 (fun h_266 => ?_) (fun h_266 => ?_)
                                · refine xv_il1 fL_does_285 ?_
                                  refine xv_k fL_does_286 ?_
                                  refine xv_ic_ne fL_does_288 (fun h_288 => ?_) (fun h_288 => ?_)
                                  · refine xv_il1 fL_does_298 ?_
                                    refine xv_k fL_does_299 ?_
                                    refine xv_ic_ne fL_does_301 (fun h_301 => ?_) (fun h_301 => ?_)
                                    · refine xv_il1 fL_does_315 ?_
                                      refine xv_k fL_does_316 ?_
                                      refine xv_ic_ne fL_does_318 (fun h_318 => ?_) (fun h_318 => ?_)
                                      · exact absurd h_318 (by decide)
                                      · refine xv_al0 fL_does_321 ?_
                                        refine xv_il2 fL_does_322 ?_
                                        refine xv_il3 fL_does_323 ?_
                                        refine xv_callVH (As := [.int x1, .int x2]) (S := []) (kc' := 0) (ks' := 0) hM fL_does_324 YX10_correct VX10_correct lL_74 rfl rfl (sx_0 _ _) rfl rfl (Nat.le_of_ble_eq_true rfl) (by decide) (by decide) (by decide) ?_ ?_
                                        · intro r s i rf j h _
                                          obtain ⟨h1, rfl, rfl, rfl, rfl⟩ := h
                                          cases h1
                                          refine xv_goto fL_does_327 ?_
                                          exact xv_iret fL_does_362 rfl rfl xv_eq_i
                                        · intro E s i rf j h
                                          obtain ⟨h1, -⟩ := h
                                          cases h1
                                    · exact absurd h_301 (by decide)
                                  · exact absurd h_288 (by decide)
                                · exact absurd h_266 (by decide)
                              · exact absurd h_243 (by decide)
                            · exact absurd h_228 (by decide)
                          · exact absurd h_206 (by decide)
                        · exact absurd h_191 (by decide)
                      · exact absurd h_176 (by decide)
                    · exact absurd h_162 (by decide)
                  · exact absurd h_148 (by decide)
                · exact absurd h_131 (by decide)
              · exact absurd h_117 (by decide)
            · exact absurd h_103 (by decide)
          · exact absurd h_90 (by decide)
        · exact absurd h_54 (by decide)
      · exact absurd h_40 (by decide)
    · exact absurd h_26 (by decide)
  · exact absurd h_1 (by decide)
theorem w_correct_I (n : Nat) (c c' : Nat × Nat) (J : xv_J) {I I' : xv_I} {x1 x2 x3 x4 x5 : Int32} (hM : xv_Met mX10_correct 8 16 128 (sx n c) I (rx c) J [.ref 0, .int x1, .int x2] (xv_eq (.inr "java/lang/IndexOutOfBoundsException") (sx n c') I' (rx c') J)) : xv_Met mL_does 10 16 128 (sx n c) I (rx c) J [.ref 0, .int (nI 18), .int x1, .int x2, .int x3, .int x4, .int x5] (xv_eq (.inl (some (.int (-3000)))) (sx n c') I' (rx c') J) := by
  refine xv_Met.of (by decide +kernel) (Nat.le_of_ble_eq_true rfl) (List.forall_mem_cons.mpr ⟨rfl, List.forall_mem_cons.mpr ⟨rfl, List.forall_mem_cons.mpr ⟨rfl, List.forall_mem_cons.mpr ⟨rfl, List.forall_mem_cons.mpr ⟨rfl, List.forall_mem_cons.mpr ⟨rfl, List.forall_mem_cons.mpr ⟨rfl, fun _ h => nomatch h⟩⟩⟩⟩⟩⟩⟩) ?_
  show xv_W mL_does 10 16 128 _ 16 128 (sx n c) I (rx c) J 0 [some (.ref 0), some (.int (nI 18)), some (.int x1), some (.int x2), some (.int x3), some (.int x4), some (.int x5), none] []
  refine xv_il1 fL_does_0 ?_
  refine xv_if_ne fL_does_1 (fun h_1 => ?_) (fun h_1 => ?_)
  · refine xv_il1 fL_does_24 ?_
    refine xv_k fL_does_25 ?_
    refine xv_ic_ne fL_does_26 (fun h_26 => ?_) (fun h_26 => ?_)
    · refine xv_il1 fL_does_38 ?_
      refine xv_k fL_does_39 ?_
      refine xv_ic_ne fL_does_40 (fun h_40 => ?_) (fun h_40 => ?_)
      · refine xv_il1 fL_does_52 ?_
        refine xv_k fL_does_53 ?_
        refine xv_ic_ne fL_does_54 (fun h_54 => ?_) (fun h_54 => ?_)
        · refine xv_il1 fL_does_88 ?_
          refine xv_k fL_does_89 ?_
          refine xv_ic_ne fL_does_90 (fun h_90 => ?_) (fun h_90 => ?_)
          · refine xv_il1 fL_does_101 ?_
            refine xv_k fL_does_102 ?_
            refine xv_ic_ne fL_does_103 (fun h_103 => ?_) (fun h_103 => ?_)
            · refine xv_il1 fL_does_114 ?_
              refine xv_k fL_does_115 ?_
              refine xv_ic_ne fL_does_117 (fun h_117 => ?_) (fun h_117 => ?_)
              · refine xv_il1 fL_does_128 ?_
                refine xv_k fL_does_129 ?_
                refine xv_ic_ne fL_does_131 (fun h_131 => ?_) (fun h_131 => ?_)
                · refine xv_il1 fL_does_145 ?_
                  refine xv_k fL_does_146 ?_
                  refine xv_ic_ne fL_does_148 (fun h_148 => ?_) (fun h_148 => ?_)
                  · refine xv_il1 fL_does_159 ?_
                    refine xv_k fL_does_160 ?_
                    refine xv_ic_ne fL_does_162 (fun h_162 => ?_) (fun h_162 => ?_)
                    · refine xv_il1 fL_does_173 ?_
                      refine xv_k fL_does_174 ?_
                      refine xv_ic_ne fL_does_176 (fun h_176 => ?_) (fun h_176 => ?_)
                      · refine xv_il1 fL_does_188 ?_
                        refine xv_k fL_does_189 ?_
                        refine xv_ic_ne fL_does_191 (fun h_191 => ?_) (fun h_191 => ?_)
                        · refine xv_il1 fL_does_203 ?_
                          refine xv_k fL_does_204 ?_
                          refine xv_ic_ne fL_does_206 (fun h_206 => ?_) (fun h_206 => ?_)
                          · refine xv_il1 fL_does_225 ?_
                            refine xv_k fL_does_226 ?_
                            refine xv_ic_ne fL_does_228 (fun h_228 => ?_) (fun h_228 => ?_)
                            · refine xv_il1 fL_does_240 ?_
                              refine xv_k fL_does_241 ?_
                              refine xv_ic_ne fL_does_243 (fun h_243 => ?_) (fun h_243 => ?_)
                              · refine xv_il1 fL_does_263 ?_
                                refine xv_k fL_does_264 ?_
                                refine xv_ic_ne fL_does_266 (fun h_266 => ?_) (fun h_266 => ?_)
                                · refine xv_il1 fL_does_285 ?_
                                  refine xv_k fL_does_286 ?_
                                  refine xv_ic_ne fL_does_288 (fun h_288 => ?_) (fun h_288 => ?_)
                                  · refine xv_il1 fL_does_298 ?_
                                    refine xv_k fL_does_299 ?_
                                    refine xv_ic_ne fL_does_301 (fun h_301 => ?_) (fun h_301 => ?_)
                                    · refine xv_il1 fL_does_315 ?_
                                      refine xv_k fL_does_316 ?_
                                      refine xv_ic_ne fL_does_318 (fun h_318 => ?_) (fun h_318 => ?_)
                                      · exact absurd h_318 (by decide)
                                      · refine xv_al0 fL_does_321 ?_
                                        refine xv_il2 fL_does_322 ?_
                                        refine xv_il3 fL_does_323 ?_
                                        refine xv_callVH (As := [.int x1, .int x2]) (S := []) (kc' := 0) (ks' := 0) hM fL_does_324 YX10_correct VX10_correct lL_74 rfl rfl (sx_0 _ _) rfl rfl (Nat.le_of_ble_eq_true rfl) (by decide) (by decide) (by decide) ?_ ?_
                                        · intro r s i rf j h _
                                          obtain ⟨h1, -⟩ := h
                                          cases h1
                                        · intro E s i rf j h
                                          obtain ⟨h1, rfl, rfl, rfl, rfl⟩ := h
                                          cases h1
                                          exact ⟨_, hn_324_I, xv_eq_i⟩
                                    · exact absurd h_301 (by decide)
                                  · exact absurd h_288 (by decide)
                                · exact absurd h_266 (by decide)
                              · exact absurd h_243 (by decide)
                            · exact absurd h_228 (by decide)
                          · exact absurd h_206 (by decide)
                        · exact absurd h_191 (by decide)
                      · exact absurd h_176 (by decide)
                    · exact absurd h_162 (by decide)
                  · exact absurd h_148 (by decide)
                · exact absurd h_131 (by decide)
              · exact absurd h_117 (by decide)
            · exact absurd h_103 (by decide)
          · exact absurd h_90 (by decide)
        · exact absurd h_54 (by decide)
      · exact absurd h_40 (by decide)
    · exact absurd h_26 (by decide)
  · exact absurd h_1 (by decide)
theorem w_correct_A (n : Nat) (c c' : Nat × Nat) (J : xv_J) {I I' : xv_I} {x1 x2 x3 x4 x5 : Int32} (hM : xv_Met mX10_correct 8 16 128 (sx n c) I (rx c) J [.ref 0, .int x1, .int x2] (xv_eq (.inr "java/lang/IllegalArgumentException") (sx n c') I' (rx c') J)) : xv_Met mL_does 10 16 128 (sx n c) I (rx c) J [.ref 0, .int (nI 18), .int x1, .int x2, .int x3, .int x4, .int x5] (xv_eq (.inl (some (.int (-2000)))) (sx n c') I' (rx c') J) := by
  refine xv_Met.of (by decide +kernel) (Nat.le_of_ble_eq_true rfl) (List.forall_mem_cons.mpr ⟨rfl, List.forall_mem_cons.mpr ⟨rfl, List.forall_mem_cons.mpr ⟨rfl, List.forall_mem_cons.mpr ⟨rfl, List.forall_mem_cons.mpr ⟨rfl, List.forall_mem_cons.mpr ⟨rfl, List.forall_mem_cons.mpr ⟨rfl, fun _ h => nomatch h⟩⟩⟩⟩⟩⟩⟩) ?_
  show xv_W mL_does 10 16 128 _ 16 128 (sx n c) I (rx c) J 0 [some (.ref 0), some (.int (nI 18)), some (.int x1), some (.int x2), some (.int x3), some (.int x4), some (.int x5), none] []
  refine xv_il1 fL_does_0 ?_
  refine xv_if_ne fL_does_1 (fun h_1 => ?_) (fun h_1 => ?_)
  · refine xv_il1 fL_does_24 ?_
    refine xv_k fL_does_25 ?_
    refine xv_ic_ne fL_does_26 (fun h_26 => ?_) (fun h_26 => ?_)
    · refine xv_il1 fL_does_38 ?_
      refine xv_k fL_does_39 ?_
      refine xv_ic_ne fL_does_40 (fun h_40 => ?_) (fun h_40 => ?_)
      · refine xv_il1 fL_does_52 ?_
        refine xv_k fL_does_53 ?_
        refine xv_ic_ne fL_does_54 (fun h_54 => ?_) (fun h_54 => ?_)
        · refine xv_il1 fL_does_88 ?_
          refine xv_k fL_does_89 ?_
          refine xv_ic_ne fL_does_90 (fun h_90 => ?_) (fun h_90 => ?_)
          · refine xv_il1 fL_does_101 ?_
            refine xv_k fL_does_102 ?_
            refine xv_ic_ne fL_does_103 (fun h_103 => ?_) (fun h_103 => ?_)
            · refine xv_il1 fL_does_114 ?_
              refine xv_k fL_does_115 ?_
              refine xv_ic_ne fL_does_117 (fun h_117 => ?_) (fun h_117 => ?_)
              · refine xv_il1 fL_does_128 ?_
                refine xv_k fL_does_129 ?_
                refine xv_ic_ne fL_does_131 (fun h_131 => ?_) (fun h_131 => ?_)
                · refine xv_il1 fL_does_145 ?_
                  refine xv_k fL_does_146 ?_
                  refine xv_ic_ne fL_does_148 (fun h_148 => ?_) (fun h_148 => ?_)
                  · refine xv_il1 fL_does_159 ?_
                    refine xv_k fL_does_160 ?_
                    refine xv_ic_ne fL_does_162 (fun h_162 => ?_) (fun h_162 => ?_)
                    · refine xv_il1 fL_does_173 ?_
                      refine xv_k fL_does_174 ?_
                      refine xv_ic_ne fL_does_176 (fun h_176 => ?_) (fun h_176 => ?_)
                      · refine xv_il1 fL_does_188 ?_
                        refine xv_k fL_does_189 ?_
                        refine xv_ic_ne fL_does_191 (fun h_191 => ?_) (fun h_191 => ?_)
                        · refine xv_il1 fL_does_203 ?_
                          refine xv_k fL_does_204 ?_
                          refine xv_ic_ne fL_does_206 (fun h_206 => ?_) (fun h_206 => ?_)
                          · refine xv_il1 fL_does_225 ?_
                            refine xv_k fL_does_226 ?_
                            refine xv_ic_ne fL_does_228 (fun h_228 => ?_) (fun h_228 => ?_)
                            · refine xv_il1 fL_does_240 ?_
                              refine xv_k fL_does_241 ?_
                              refine xv_ic_ne fL_does_243 (fun h_243 => ?_) (fun h_243 => ?_)
                              · refine xv_il1 fL_does_263 ?_
                                refine xv_k fL_does_264 ?_
                                refine xv_ic_ne fL_does_266 (fun h_266 => ?_) (fun h_266 => ?_)
                                · refine xv_il1 fL_does_285 ?_
                                  refine xv_k fL_does_286 ?_
                                  refine xv_ic_ne fL_does_288 (fun h_288 => ?_) (fun h_288 => ?_)
                                  · refine xv_il1 fL_does_298 ?_
                                    refine xv_k fL_does_299 ?_
                                    refine xv_ic_ne fL_does_301 (fun h_301 => ?_) (fun h_301 => ?_)
                                    · refine xv_il1 fL_does_315 ?_
                                      refine xv_k fL_does_316 ?_
                                      refine xv_ic_ne fL_does_318 (fun h_318 => ?_) (fun h_318 => ?_)
                                      · exact absurd h_318 (by decide)
                                      · refine xv_al0 fL_does_321 ?_
                                        refine xv_il2 fL_does_322 ?_
                                        refine xv_il3 fL_does_323 ?_
                                        refine xv_callVH (As := [.int x1, .int x2]) (S := []) (kc' := 0) (ks' := 0) hM fL_does_324 YX10_correct VX10_correct lL_74 rfl rfl (sx_0 _ _) rfl rfl (Nat.le_of_ble_eq_true rfl) (by decide) (by decide) (by decide) ?_ ?_
                                        · intro r s i rf j h _
                                          obtain ⟨h1, -⟩ := h
                                          cases h1
                                        · intro E s i rf j h
                                          obtain ⟨h1, rfl, rfl, rfl, rfl⟩ := h
                                          cases h1
                                          exact ⟨_, hn_324_A, xv_eq_i⟩
                                    · exact absurd h_301 (by decide)
                                  · exact absurd h_288 (by decide)
                                · exact absurd h_266 (by decide)
                              · exact absurd h_243 (by decide)
                            · exact absurd h_228 (by decide)
                          · exact absurd h_206 (by decide)
                        · exact absurd h_191 (by decide)
                      · exact absurd h_176 (by decide)
                    · exact absurd h_162 (by decide)
                  · exact absurd h_148 (by decide)
                · exact absurd h_131 (by decide)
              · exact absurd h_117 (by decide)
            · exact absurd h_103 (by decide)
          · exact absurd h_90 (by decide)
        · exact absurd h_54 (by decide)
      · exact absurd h_40 (by decide)
    · exact absurd h_26 (by decide)
  · exact absurd h_1 (by decide)
theorem w_correct_S (n : Nat) (c c' : Nat × Nat) (J : xv_J) {I I' : xv_I} {x1 x2 x3 x4 x5 : Int32} (hM : xv_Met mX10_correct 8 16 128 (sx n c) I (rx c) J [.ref 0, .int x1, .int x2] (xv_eq (.inr "java/lang/IllegalStateException") (sx n c') I' (rx c') J)) : xv_Met mL_does 10 16 128 (sx n c) I (rx c) J [.ref 0, .int (nI 18), .int x1, .int x2, .int x3, .int x4, .int x5] (xv_eq (.inl (some (.int (-1000)))) (sx n c') I' (rx c') J) := by
  refine xv_Met.of (by decide +kernel) (Nat.le_of_ble_eq_true rfl) (List.forall_mem_cons.mpr ⟨rfl, List.forall_mem_cons.mpr ⟨rfl, List.forall_mem_cons.mpr ⟨rfl, List.forall_mem_cons.mpr ⟨rfl, List.forall_mem_cons.mpr ⟨rfl, List.forall_mem_cons.mpr ⟨rfl, List.forall_mem_cons.mpr ⟨rfl, fun _ h => nomatch h⟩⟩⟩⟩⟩⟩⟩) ?_
  show xv_W mL_does 10 16 128 _ 16 128 (sx n c) I (rx c) J 0 [some (.ref 0), some (.int (nI 18)), some (.int x1), some (.int x2), some (.int x3), some (.int x4), some (.int x5), none] []
  refine xv_il1 fL_does_0 ?_
  refine xv_if_ne fL_does_1 (fun h_1 => ?_) (fun h_1 => ?_)
  · refine xv_il1 fL_does_24 ?_
    refine xv_k fL_does_25 ?_
    refine xv_ic_ne fL_does_26 (fun h_26 => ?_) (fun h_26 => ?_)
    · refine xv_il1 fL_does_38 ?_
      refine xv_k fL_does_39 ?_
      refine xv_ic_ne fL_does_40 (fun h_40 => ?_) (fun h_40 => ?_)
      · refine xv_il1 fL_does_52 ?_
        refine xv_k fL_does_53 ?_
        refine xv_ic_ne fL_does_54 (fun h_54 => ?_) (fun h_54 => ?_)
        · refine xv_il1 fL_does_88 ?_
          refine xv_k fL_does_89 ?_
          refine xv_ic_ne fL_does_90 (fun h_90 => ?_) (fun h_90 => ?_)
          · refine xv_il1 fL_does_101 ?_
            refine xv_k fL_does_102 ?_
            refine xv_ic_ne fL_does_103 (fun h_103 => ?_) (fun h_103 => ?_)
            · refine xv_il1 fL_does_114 ?_
              refine xv_k fL_does_115 ?_
              refine xv_ic_ne fL_does_117 (fun h_117 => ?_) (fun h_117 => ?_)
              · refine xv_il1 fL_does_128 ?_
                refine xv_k fL_does_129 ?_
                refine xv_ic_ne fL_does_131 (fun h_131 => ?_) (fun h_131 => ?_)
                · refine xv_il1 fL_does_145 ?_
                  refine xv_k fL_does_146 ?_
                  refine xv_ic_ne fL_does_148 (fun h_148 => ?_) (fun h_148 => ?_)
                  · refine xv_il1 fL_does_159 ?_
                    refine xv_k fL_does_160 ?_
                    refine xv_ic_ne fL_does_162 (fun h_162 => ?_) (fun h_162 => ?_)
                    · refine xv_il1 fL_does_173 ?_
                      refine xv_k fL_does_174 ?_
                      refine xv_ic_ne fL_does_176 (fun h_176 => ?_) (fun h_176 => ?_)
                      · refine xv_il1 fL_does_188 ?_
                        refine xv_k fL_does_189 ?_
                        refine xv_ic_ne fL_does_191 (fun h_191 => ?_) (fun h_191 => ?_)
                        · refine xv_il1 fL_does_203 ?_
                          refine xv_k fL_does_204 ?_
                          refine xv_ic_ne fL_does_206 (fun h_206 => ?_) (fun h_206 => ?_)
                          · refine xv_il1 fL_does_225 ?_
                            refine xv_k fL_does_226 ?_
                            refine xv_ic_ne fL_does_228 (fun h_228 => ?_) (fun h_228 => ?_)
                            · refine xv_il1 fL_does_240 ?_
                              refine xv_k fL_does_241 ?_
                              refine xv_ic_ne fL_does_243 (fun h_243 => ?_) (fun h_243 => ?_)
                              · refine xv_il1 fL_does_263 ?_
                                refine xv_k fL_does_264 ?_
                                refine xv_ic_ne fL_does_266 (fun h_266 => ?_) (fun h_266 => ?_)
                                · refine xv_il1 fL_does_285 ?_
                                  refine xv_k fL_does_286 ?_
                                  refine xv_ic_ne fL_does_288 (fun h_288 => ?_) (fun h_288 => ?_)
                                  · refine xv_il1 fL_does_298 ?_
                                    refine xv_k fL_does_299 ?_
                                    refine xv_ic_ne fL_does_301 (fun h_301 => ?_) (fun h_301 => ?_)
                                    · refine xv_il1 fL_does_315 ?_
                                      refine xv_k fL_does_316 ?_
                                      refine xv_ic_ne fL_does_318 (fun h_318 => ?_) (fun h_318 => ?_)
                                      · exact absurd h_318 (by decide)
                                      · refine xv_al0 fL_does_321 ?_
                                        refine xv_il2 fL_does_322 ?_
                                        refine xv_il3 fL_does_323 ?_
                                        refine xv_callVH (As := [.int x1, .int x2]) (S := []) (kc' := 0) (ks' := 0) hM fL_does_324 YX10_correct VX10_correct lL_74 rfl rfl (sx_0 _ _) rfl rfl (Nat.le_of_ble_eq_true rfl) (by decide) (by decide) (by decide) ?_ ?_
                                        · intro r s i rf j h _
                                          obtain ⟨h1, -⟩ := h
                                          cases h1
                                        · intro E s i rf j h
                                          obtain ⟨h1, rfl, rfl, rfl, rfl⟩ := h
                                          cases h1
                                          exact ⟨_, hn_324_S, xv_eq_i⟩
                                    · exact absurd h_301 (by decide)
                                  · exact absurd h_288 (by decide)
                                · exact absurd h_266 (by decide)
                              · exact absurd h_243 (by decide)
                            · exact absurd h_228 (by decide)
                          · exact absurd h_206 (by decide)
                        · exact absurd h_191 (by decide)
                      · exact absurd h_176 (by decide)
                    · exact absurd h_162 (by decide)
                  · exact absurd h_148 (by decide)
                · exact absurd h_131 (by decide)
              · exact absurd h_117 (by decide)
            · exact absurd h_103 (by decide)
          · exact absurd h_90 (by decide)
        · exact absurd h_54 (by decide)
      · exact absurd h_40 (by decide)
    · exact absurd h_26 (by decide)
  · exact absurd h_1 (by decide)
theorem w_placeCorrection_ok (n : Nat) (c c' : Nat × Nat) (J : xv_J) {I I' : xv_I} {x1 x2 x3 x4 x5 : Int32} {v : Int32} (hM : xv_Met mX10_placeCorrection 8 16 128 (sx n c) I (rx c) J [.ref 0] (xv_eq (.inl (some (.int (v)))) (sx n c') I' (rx c') J)) : xv_Met mL_does 10 16 128 (sx n c) I (rx c) J [.ref 0, .int (nI 19), .int x1, .int x2, .int x3, .int x4, .int x5] (xv_eq (.inl (some (.int (v)))) (sx n c') I' (rx c') J) := by
  refine xv_Met.of (by decide +kernel) (Nat.le_of_ble_eq_true rfl) (List.forall_mem_cons.mpr ⟨rfl, List.forall_mem_cons.mpr ⟨rfl, List.forall_mem_cons.mpr ⟨rfl, List.forall_mem_cons.mpr ⟨rfl, List.forall_mem_cons.mpr ⟨rfl, List.forall_mem_cons.mpr ⟨rfl, List.forall_mem_cons.mpr ⟨rfl, fun _ h => nomatch h⟩⟩⟩⟩⟩⟩⟩) ?_
  show xv_W mL_does 10 16 128 _ 16 128 (sx n c) I (rx c) J 0 [some (.ref 0), some (.int (nI 19)), some (.int x1), some (.int x2), some (.int x3), some (.int x4), some (.int x5), none] []
  refine xv_il1 fL_does_0 ?_
  refine xv_if_ne fL_does_1 (fun h_1 => ?_) (fun h_1 => ?_)
  · refine xv_il1 fL_does_24 ?_
    refine xv_k fL_does_25 ?_
    refine xv_ic_ne fL_does_26 (fun h_26 => ?_) (fun h_26 => ?_)
    · refine xv_il1 fL_does_38 ?_
      refine xv_k fL_does_39 ?_
      refine xv_ic_ne fL_does_40 (fun h_40 => ?_) (fun h_40 => ?_)
      · refine xv_il1 fL_does_52 ?_
        refine xv_k fL_does_53 ?_
        refine xv_ic_ne fL_does_54 (fun h_54 => ?_) (fun h_54 => ?_)
        · refine xv_il1 fL_does_88 ?_
          refine xv_k fL_does_89 ?_
          refine xv_ic_ne fL_does_90 (fun h_90 => ?_) (fun h_90 => ?_)
          · refine xv_il1 fL_does_101 ?_
            refine xv_k fL_does_102 ?_
            refine xv_ic_ne fL_does_103 (fun h_103 => ?_) (fun h_103 => ?_)
            · refine xv_il1 fL_does_114 ?_
              refine xv_k fL_does_115 ?_
              refine xv_ic_ne fL_does_117 (fun h_117 => ?_) (fun h_117 => ?_)
              · refine xv_il1 fL_does_128 ?_
                refine xv_k fL_does_129 ?_
                refine xv_ic_ne fL_does_131 (fun h_131 => ?_) (fun h_131 => ?_)
                · refine xv_il1 fL_does_145 ?_
                  refine xv_k fL_does_146 ?_
                  refine xv_ic_ne fL_does_148 (fun h_148 => ?_) (fun h_148 => ?_)
                  · refine xv_il1 fL_does_159 ?_
                    refine xv_k fL_does_160 ?_
                    refine xv_ic_ne fL_does_162 (fun h_162 => ?_) (fun h_162 => ?_)
                    · refine xv_il1 fL_does_173 ?_
                      refine xv_k fL_does_174 ?_
                      refine xv_ic_ne fL_does_176 (fun h_176 => ?_) (fun h_176 => ?_)
                      · refine xv_il1 fL_does_188 ?_
                        refine xv_k fL_does_189 ?_
                        refine xv_ic_ne fL_does_191 (fun h_191 => ?_) (fun h_191 => ?_)
                        · refine xv_il1 fL_does_203 ?_
                          refine xv_k fL_does_204 ?_
                          refine xv_ic_ne fL_does_206 (fun h_206 => ?_) (fun h_206 => ?_)
                          · refine xv_il1 fL_does_225 ?_
                            refine xv_k fL_does_226 ?_
                            refine xv_ic_ne fL_does_228 (fun h_228 => ?_) (fun h_228 => ?_)
                            · refine xv_il1 fL_does_240 ?_
                              refine xv_k fL_does_241 ?_
                              refine xv_ic_ne fL_does_243 (fun h_243 => ?_) (fun h_243 => ?_)
                              · refine xv_il1 fL_does_263 ?_
                                refine xv_k fL_does_264 ?_
                                refine xv_ic_ne fL_does_266 (fun h_266 => ?_) (fun h_266 => ?_)
                                · refine xv_il1 fL_does_285 ?_
                                  refine xv_k fL_does_286 ?_
                                  refine xv_ic_ne fL_does_288 (fun h_288 => ?_) (fun h_288 => ?_)
                                  · refine xv_il1 fL_does_298 ?_
                                    refine xv_k fL_does_299 ?_
                                    refine xv_ic_ne fL_does_301 (fun h_301 => ?_) (fun h_301 => ?_)
                                    · refine xv_il1 fL_does_315 ?_
                                      refine xv_k fL_does_316 ?_
                                      refine xv_ic_ne fL_does_318 (fun h_318 => ?_) (fun h_318 => ?_)
                                      · refine xv_il1 fL_does_330 ?_
                                        refine xv_k fL_does_331 ?_
                                        refine xv_ic_ne fL_does_333 (fun h_333 => ?_) (fun h_333 => ?_)
                                        · exact absurd h_333 (by decide)
                                        · refine xv_al0 fL_does_336 ?_
                                          refine xv_callVH (As := []) (S := []) (kc' := 0) (ks' := 0) hM fL_does_337 YX10_placeCorrection VX10_placeCorrection lL_77 rfl rfl (sx_0 _ _) rfl rfl (Nat.le_of_ble_eq_true rfl) (by decide) (by decide) (by decide) ?_ ?_
                                          · intro r s i rf j h _
                                            obtain ⟨h1, rfl, rfl, rfl, rfl⟩ := h
                                            cases h1
                                            refine xv_goto fL_does_340 ?_
                                            exact xv_iret fL_does_362 rfl rfl xv_eq_i
                                          · intro E s i rf j h
                                            obtain ⟨h1, -⟩ := h
                                            cases h1
                                      · exact absurd h_318 (by decide)
                                    · exact absurd h_301 (by decide)
                                  · exact absurd h_288 (by decide)
                                · exact absurd h_266 (by decide)
                              · exact absurd h_243 (by decide)
                            · exact absurd h_228 (by decide)
                          · exact absurd h_206 (by decide)
                        · exact absurd h_191 (by decide)
                      · exact absurd h_176 (by decide)
                    · exact absurd h_162 (by decide)
                  · exact absurd h_148 (by decide)
                · exact absurd h_131 (by decide)
              · exact absurd h_117 (by decide)
            · exact absurd h_103 (by decide)
          · exact absurd h_90 (by decide)
        · exact absurd h_54 (by decide)
      · exact absurd h_40 (by decide)
    · exact absurd h_26 (by decide)
  · exact absurd h_1 (by decide)
theorem w_placeCorrection_I (n : Nat) (c c' : Nat × Nat) (J : xv_J) {I I' : xv_I} {x1 x2 x3 x4 x5 : Int32} (hM : xv_Met mX10_placeCorrection 8 16 128 (sx n c) I (rx c) J [.ref 0] (xv_eq (.inr "java/lang/IndexOutOfBoundsException") (sx n c') I' (rx c') J)) : xv_Met mL_does 10 16 128 (sx n c) I (rx c) J [.ref 0, .int (nI 19), .int x1, .int x2, .int x3, .int x4, .int x5] (xv_eq (.inl (some (.int (-3000)))) (sx n c') I' (rx c') J) := by
  refine xv_Met.of (by decide +kernel) (Nat.le_of_ble_eq_true rfl) (List.forall_mem_cons.mpr ⟨rfl, List.forall_mem_cons.mpr ⟨rfl, List.forall_mem_cons.mpr ⟨rfl, List.forall_mem_cons.mpr ⟨rfl, List.forall_mem_cons.mpr ⟨rfl, List.forall_mem_cons.mpr ⟨rfl, List.forall_mem_cons.mpr ⟨rfl, fun _ h => nomatch h⟩⟩⟩⟩⟩⟩⟩) ?_
  show xv_W mL_does 10 16 128 _ 16 128 (sx n c) I (rx c) J 0 [some (.ref 0), some (.int (nI 19)), some (.int x1), some (.int x2), some (.int x3), some (.int x4), some (.int x5), none] []
  refine xv_il1 fL_does_0 ?_
  refine xv_if_ne fL_does_1 (fun h_1 => ?_) (fun h_1 => ?_)
  · refine xv_il1 fL_does_24 ?_
    refine xv_k fL_does_25 ?_
    refine xv_ic_ne fL_does_26 (fun h_26 => ?_) (fun h_26 => ?_)
    · refine xv_il1 fL_does_38 ?_
      refine xv_k fL_does_39 ?_
      refine xv_ic_ne fL_does_40 (fun h_40 => ?_) (fun h_40 => ?_)
      · refine xv_il1 fL_does_52 ?_
        refine xv_k fL_does_53 ?_
        refine xv_ic_ne fL_does_54 (fun h_54 => ?_) (fun h_54 => ?_)
        · refine xv_il1 fL_does_88 ?_
          refine xv_k fL_does_89 ?_
          refine xv_ic_ne fL_does_90 (fun h_90 => ?_) (fun h_90 => ?_)
          · refine xv_il1 fL_does_101 ?_
            refine xv_k fL_does_102 ?_
            refine xv_ic_ne fL_does_103 (fun h_103 => ?_) (fun h_103 => ?_)
            · refine xv_il1 fL_does_114 ?_
              refine xv_k fL_does_115 ?_
              refine xv_ic_ne fL_does_117 (fun h_117 => ?_) (fun h_117 => ?_)
              · refine xv_il1 fL_does_128 ?_
                refine xv_k fL_does_129 ?_
                refine xv_ic_ne fL_does_131 (fun h_131 => ?_) (fun h_131 => ?_)
                · refine xv_il1 fL_does_145 ?_
                  refine xv_k fL_does_146 ?_
                  refine xv_ic_ne fL_does_148 (fun h_148 => ?_) (fun h_148 => ?_)
                  · refine xv_il1 fL_does_159 ?_
                    refine xv_k fL_does_160 ?_
                    refine xv_ic_ne fL_does_162 (fun h_162 => ?_) (fun h_162 => ?_)
                    · refine xv_il1 fL_does_173 ?_
                      refine xv_k fL_does_174 ?_
                      refine xv_ic_ne fL_does_176 (fun h_176 => ?_) (fun h_176 => ?_)
                      · refine xv_il1 fL_does_188 ?_
                        refine xv_k fL_does_189 ?_
                        refine xv_ic_ne fL_does_191 (fun h_191 => ?_) (fun h_191 => ?_)
                        · refine xv_il1 fL_does_203 ?_
                          refine xv_k fL_does_204 ?_
                          refine xv_ic_ne fL_does_206 (fun h_206 => ?_) (fun h_206 => ?_)
                          · refine xv_il1 fL_does_225 ?_
                            refine xv_k fL_does_226 ?_
                            refine xv_ic_ne fL_does_228 (fun h_228 => ?_) (fun h_228 => ?_)
                            · refine xv_il1 fL_does_240 ?_
                              refine xv_k fL_does_241 ?_
                              refine xv_ic_ne fL_does_243 (fun h_243 => ?_) (fun h_243 => ?_)
                              · refine xv_il1 fL_does_263 ?_
                                refine xv_k fL_does_264 ?_
                                refine xv_ic_ne fL_does_266 (fun h_266 => ?_) (fun h_266 => ?_)
                                · refine xv_il1 fL_does_285 ?_
                                  refine xv_k fL_does_286 ?_
                                  refine xv_ic_ne fL_does_288 (fun h_288 => ?_) (fun h_288 => ?_)
                                  · refine xv_il1 fL_does_298 ?_
                                    refine xv_k fL_does_299 ?_
                                    refine xv_ic_ne fL_does_301 (fun h_301 => ?_) (fun h_301 => ?_)
                                    · refine xv_il1 fL_does_315 ?_
                                      refine xv_k fL_does_316 ?_
                                      refine xv_ic_ne fL_does_318 (fun h_318 => ?_) (fun h_318 => ?_)
                                      · refine xv_il1 fL_does_330 ?_
                                        refine xv_k fL_does_331 ?_
                                        refine xv_ic_ne fL_does_333 (fun h_333 => ?_) (fun h_333 => ?_)
                                        · exact absurd h_333 (by decide)
                                        · refine xv_al0 fL_does_336 ?_
                                          refine xv_callVH (As := []) (S := []) (kc' := 0) (ks' := 0) hM fL_does_337 YX10_placeCorrection VX10_placeCorrection lL_77 rfl rfl (sx_0 _ _) rfl rfl (Nat.le_of_ble_eq_true rfl) (by decide) (by decide) (by decide) ?_ ?_
                                          · intro r s i rf j h _
                                            obtain ⟨h1, -⟩ := h
                                            cases h1
                                          · intro E s i rf j h
                                            obtain ⟨h1, rfl, rfl, rfl, rfl⟩ := h
                                            cases h1
                                            exact ⟨_, hn_337_I, xv_eq_i⟩
                                      · exact absurd h_318 (by decide)
                                    · exact absurd h_301 (by decide)
                                  · exact absurd h_288 (by decide)
                                · exact absurd h_266 (by decide)
                              · exact absurd h_243 (by decide)
                            · exact absurd h_228 (by decide)
                          · exact absurd h_206 (by decide)
                        · exact absurd h_191 (by decide)
                      · exact absurd h_176 (by decide)
                    · exact absurd h_162 (by decide)
                  · exact absurd h_148 (by decide)
                · exact absurd h_131 (by decide)
              · exact absurd h_117 (by decide)
            · exact absurd h_103 (by decide)
          · exact absurd h_90 (by decide)
        · exact absurd h_54 (by decide)
      · exact absurd h_40 (by decide)
    · exact absurd h_26 (by decide)
  · exact absurd h_1 (by decide)
theorem w_placeCorrection_A (n : Nat) (c c' : Nat × Nat) (J : xv_J) {I I' : xv_I} {x1 x2 x3 x4 x5 : Int32} (hM : xv_Met mX10_placeCorrection 8 16 128 (sx n c) I (rx c) J [.ref 0] (xv_eq (.inr "java/lang/IllegalArgumentException") (sx n c') I' (rx c') J)) : xv_Met mL_does 10 16 128 (sx n c) I (rx c) J [.ref 0, .int (nI 19), .int x1, .int x2, .int x3, .int x4, .int x5] (xv_eq (.inl (some (.int (-2000)))) (sx n c') I' (rx c') J) := by
  refine xv_Met.of (by decide +kernel) (Nat.le_of_ble_eq_true rfl) (List.forall_mem_cons.mpr ⟨rfl, List.forall_mem_cons.mpr ⟨rfl, List.forall_mem_cons.mpr ⟨rfl, List.forall_mem_cons.mpr ⟨rfl, List.forall_mem_cons.mpr ⟨rfl, List.forall_mem_cons.mpr ⟨rfl, List.forall_mem_cons.mpr ⟨rfl, fun _ h => nomatch h⟩⟩⟩⟩⟩⟩⟩) ?_
  show xv_W mL_does 10 16 128 _ 16 128 (sx n c) I (rx c) J 0 [some (.ref 0), some (.int (nI 19)), some (.int x1), some (.int x2), some (.int x3), some (.int x4), some (.int x5), none] []
  refine xv_il1 fL_does_0 ?_
  refine xv_if_ne fL_does_1 (fun h_1 => ?_) (fun h_1 => ?_)
  · refine xv_il1 fL_does_24 ?_
    refine xv_k fL_does_25 ?_
    refine xv_ic_ne fL_does_26 (fun h_26 => ?_) (fun h_26 => ?_)
    · refine xv_il1 fL_does_38 ?_
      refine xv_k fL_does_39 ?_
      refine xv_ic_ne fL_does_40 (fun h_40 => ?_) (fun h_40 => ?_)
      · refine xv_il1 fL_does_52 ?_
        refine xv_k fL_does_53 ?_
        refine xv_ic_ne fL_does_54 (fun h_54 => ?_) (fun h_54 => ?_)
        · refine xv_il1 fL_does_88 ?_
          refine xv_k fL_does_89 ?_
          refine xv_ic_ne fL_does_90 (fun h_90 => ?_) (fun h_90 => ?_)
          · refine xv_il1 fL_does_101 ?_
            refine xv_k fL_does_102 ?_
            refine xv_ic_ne fL_does_103 (fun h_103 => ?_) (fun h_103 => ?_)
            · refine xv_il1 fL_does_114 ?_
              refine xv_k fL_does_115 ?_
              refine xv_ic_ne fL_does_117 (fun h_117 => ?_) (fun h_117 => ?_)
              · refine xv_il1 fL_does_128 ?_
                refine xv_k fL_does_129 ?_
                refine xv_ic_ne fL_does_131 (fun h_131 => ?_) (fun h_131 => ?_)
                · refine xv_il1 fL_does_145 ?_
                  refine xv_k fL_does_146 ?_
                  refine xv_ic_ne fL_does_148 (fun h_148 => ?_) (fun h_148 => ?_)
                  · refine xv_il1 fL_does_159 ?_
                    refine xv_k fL_does_160 ?_
                    refine xv_ic_ne fL_does_162 (fun h_162 => ?_) (fun h_162 => ?_)
                    · refine xv_il1 fL_does_173 ?_
                      refine xv_k fL_does_174 ?_
                      refine xv_ic_ne fL_does_176 (fun h_176 => ?_) (fun h_176 => ?_)
                      · refine xv_il1 fL_does_188 ?_
                        refine xv_k fL_does_189 ?_
                        refine xv_ic_ne fL_does_191 (fun h_191 => ?_) (fun h_191 => ?_)
                        · refine xv_il1 fL_does_203 ?_
                          refine xv_k fL_does_204 ?_
                          refine xv_ic_ne fL_does_206 (fun h_206 => ?_) (fun h_206 => ?_)
                          · refine xv_il1 fL_does_225 ?_
                            refine xv_k fL_does_226 ?_
                            refine xv_ic_ne fL_does_228 (fun h_228 => ?_) (fun h_228 => ?_)
                            · refine xv_il1 fL_does_240 ?_
                              refine xv_k fL_does_241 ?_
                              refine xv_ic_ne fL_does_243 (fun h_243 => ?_) (fun h_243 => ?_)
                              · refine xv_il1 fL_does_263 ?_
                                refine xv_k fL_does_264 ?_
                                refine xv_ic_ne fL_does_266 (fun h_266 => ?_) (fun h_266 => ?_)
                                · refine xv_il1 fL_does_285 ?_
                                  refine xv_k fL_does_286 ?_
                                  refine xv_ic_ne fL_does_288 (fun h_288 => ?_) (fun h_288 => ?_)
                                  · refine xv_il1 fL_does_298 ?_
                                    refine xv_k fL_does_299 ?_
                                    refine xv_ic_ne fL_does_301 (fun h_301 => ?_) (fun h_301 => ?_)
                                    · refine xv_il1 fL_does_315 ?_
                                      refine xv_k fL_does_316 ?_
                                      refine xv_ic_ne fL_does_318 (fun h_318 => ?_) (fun h_318 => ?_)
                                      · refine xv_il1 fL_does_330 ?_
                                        refine xv_k fL_does_331 ?_
                                        refine xv_ic_ne fL_does_333 (fun h_333 => ?_) (fun h_333 => ?_)
                                        · exact absurd h_333 (by decide)
                                        · refine xv_al0 fL_does_336 ?_
                                          refine xv_callVH (As := []) (S := []) (kc' := 0) (ks' := 0) hM fL_does_337 YX10_placeCorrection VX10_placeCorrection lL_77 rfl rfl (sx_0 _ _) rfl rfl (Nat.le_of_ble_eq_true rfl) (by decide) (by decide) (by decide) ?_ ?_
                                          · intro r s i rf j h _
                                            obtain ⟨h1, -⟩ := h
                                            cases h1
                                          · intro E s i rf j h
                                            obtain ⟨h1, rfl, rfl, rfl, rfl⟩ := h
                                            cases h1
                                            exact ⟨_, hn_337_A, xv_eq_i⟩
                                      · exact absurd h_318 (by decide)
                                    · exact absurd h_301 (by decide)
                                  · exact absurd h_288 (by decide)
                                · exact absurd h_266 (by decide)
                              · exact absurd h_243 (by decide)
                            · exact absurd h_228 (by decide)
                          · exact absurd h_206 (by decide)
                        · exact absurd h_191 (by decide)
                      · exact absurd h_176 (by decide)
                    · exact absurd h_162 (by decide)
                  · exact absurd h_148 (by decide)
                · exact absurd h_131 (by decide)
              · exact absurd h_117 (by decide)
            · exact absurd h_103 (by decide)
          · exact absurd h_90 (by decide)
        · exact absurd h_54 (by decide)
      · exact absurd h_40 (by decide)
    · exact absurd h_26 (by decide)
  · exact absurd h_1 (by decide)
theorem w_placeCorrection_S (n : Nat) (c c' : Nat × Nat) (J : xv_J) {I I' : xv_I} {x1 x2 x3 x4 x5 : Int32} (hM : xv_Met mX10_placeCorrection 8 16 128 (sx n c) I (rx c) J [.ref 0] (xv_eq (.inr "java/lang/IllegalStateException") (sx n c') I' (rx c') J)) : xv_Met mL_does 10 16 128 (sx n c) I (rx c) J [.ref 0, .int (nI 19), .int x1, .int x2, .int x3, .int x4, .int x5] (xv_eq (.inl (some (.int (-1000)))) (sx n c') I' (rx c') J) := by
  refine xv_Met.of (by decide +kernel) (Nat.le_of_ble_eq_true rfl) (List.forall_mem_cons.mpr ⟨rfl, List.forall_mem_cons.mpr ⟨rfl, List.forall_mem_cons.mpr ⟨rfl, List.forall_mem_cons.mpr ⟨rfl, List.forall_mem_cons.mpr ⟨rfl, List.forall_mem_cons.mpr ⟨rfl, List.forall_mem_cons.mpr ⟨rfl, fun _ h => nomatch h⟩⟩⟩⟩⟩⟩⟩) ?_
  show xv_W mL_does 10 16 128 _ 16 128 (sx n c) I (rx c) J 0 [some (.ref 0), some (.int (nI 19)), some (.int x1), some (.int x2), some (.int x3), some (.int x4), some (.int x5), none] []
  refine xv_il1 fL_does_0 ?_
  refine xv_if_ne fL_does_1 (fun h_1 => ?_) (fun h_1 => ?_)
  · refine xv_il1 fL_does_24 ?_
    refine xv_k fL_does_25 ?_
    refine xv_ic_ne fL_does_26 (fun h_26 => ?_) (fun h_26 => ?_)
    · refine xv_il1 fL_does_38 ?_
      refine xv_k fL_does_39 ?_
      refine xv_ic_ne fL_does_40 (fun h_40 => ?_) (fun h_40 => ?_)
      · refine xv_il1 fL_does_52 ?_
        refine xv_k fL_does_53 ?_
        refine xv_ic_ne fL_does_54 (fun h_54 => ?_) (fun h_54 => ?_)
        · refine xv_il1 fL_does_88 ?_
          refine xv_k fL_does_89 ?_
          refine xv_ic_ne fL_does_90 (fun h_90 => ?_) (fun h_90 => ?_)
          · refine xv_il1 fL_does_101 ?_
            refine xv_k fL_does_102 ?_
            refine xv_ic_ne fL_does_103 (fun h_103 => ?_) (fun h_103 => ?_)
            · refine xv_il1 fL_does_114 ?_
              refine xv_k fL_does_115 ?_
              refine xv_ic_ne fL_does_117 (fun h_117 => ?_) (fun h_117 => ?_)
              · refine xv_il1 fL_does_128 ?_
                refine xv_k fL_does_129 ?_
                refine xv_ic_ne fL_does_131 (fun h_131 => ?_) (fun h_131 => ?_)
                · refine xv_il1 fL_does_145 ?_
                  refine xv_k fL_does_146 ?_
                  refine xv_ic_ne fL_does_148 (fun h_148 => ?_) (fun h_148 => ?_)
                  · refine xv_il1 fL_does_159 ?_
                    refine xv_k fL_does_160 ?_
                    refine xv_ic_ne fL_does_162 (fun h_162 => ?_) (fun h_162 => ?_)
                    · refine xv_il1 fL_does_173 ?_
                      refine xv_k fL_does_174 ?_
                      refine xv_ic_ne fL_does_176 (fun h_176 => ?_) (fun h_176 => ?_)
                      · refine xv_il1 fL_does_188 ?_
                        refine xv_k fL_does_189 ?_
                        refine xv_ic_ne fL_does_191 (fun h_191 => ?_) (fun h_191 => ?_)
                        · refine xv_il1 fL_does_203 ?_
                          refine xv_k fL_does_204 ?_
                          refine xv_ic_ne fL_does_206 (fun h_206 => ?_) (fun h_206 => ?_)
                          · refine xv_il1 fL_does_225 ?_
                            refine xv_k fL_does_226 ?_
                            refine xv_ic_ne fL_does_228 (fun h_228 => ?_) (fun h_228 => ?_)
                            · refine xv_il1 fL_does_240 ?_
                              refine xv_k fL_does_241 ?_
                              refine xv_ic_ne fL_does_243 (fun h_243 => ?_) (fun h_243 => ?_)
                              · refine xv_il1 fL_does_263 ?_
                                refine xv_k fL_does_264 ?_
                                refine xv_ic_ne fL_does_266 (fun h_266 => ?_) (fun h_266 => ?_)
                                · refine xv_il1 fL_does_285 ?_
                                  refine xv_k fL_does_286 ?_
                                  refine xv_ic_ne fL_does_288 (fun h_288 => ?_) (fun h_288 => ?_)
                                  · refine xv_il1 fL_does_298 ?_
                                    refine xv_k fL_does_299 ?_
                                    refine xv_ic_ne fL_does_301 (fun h_301 => ?_) (fun h_301 => ?_)
                                    · refine xv_il1 fL_does_315 ?_
                                      refine xv_k fL_does_316 ?_
                                      refine xv_ic_ne fL_does_318 (fun h_318 => ?_) (fun h_318 => ?_)
                                      · refine xv_il1 fL_does_330 ?_
                                        refine xv_k fL_does_331 ?_
                                        refine xv_ic_ne fL_does_333 (fun h_333 => ?_) (fun h_333 => ?_)
                                        · exact absurd h_333 (by decide)
                                        · refine xv_al0 fL_does_336 ?_
                                          refine xv_callVH (As := []) (S := []) (kc' := 0) (ks' := 0) hM fL_does_337 YX10_placeCorrection VX10_placeCorrection lL_77 rfl rfl (sx_0 _ _) rfl rfl (Nat.le_of_ble_eq_true rfl) (by decide) (by decide) (by decide) ?_ ?_
                                          · intro r s i rf j h _
                                            obtain ⟨h1, -⟩ := h
                                            cases h1
                                          · intro E s i rf j h
                                            obtain ⟨h1, rfl, rfl, rfl, rfl⟩ := h
                                            cases h1
                                            exact ⟨_, hn_337_S, xv_eq_i⟩
                                      · exact absurd h_318 (by decide)
                                    · exact absurd h_301 (by decide)
                                  · exact absurd h_288 (by decide)
                                · exact absurd h_266 (by decide)
                              · exact absurd h_243 (by decide)
                            · exact absurd h_228 (by decide)
                          · exact absurd h_206 (by decide)
                        · exact absurd h_191 (by decide)
                      · exact absurd h_176 (by decide)
                    · exact absurd h_162 (by decide)
                  · exact absurd h_148 (by decide)
                · exact absurd h_131 (by decide)
              · exact absurd h_117 (by decide)
            · exact absurd h_103 (by decide)
          · exact absurd h_90 (by decide)
        · exact absurd h_54 (by decide)
      · exact absurd h_40 (by decide)
    · exact absurd h_26 (by decide)
  · exact absurd h_1 (by decide)
theorem w_placeCorrection_g (n : Nat) (c c' : Nat × Nat) (J : xv_J) {I I' : xv_I} {x1 x2 x3 x4 x5 : Int32} {Q9 : xv_Q} (hM : xv_Met mX10_placeCorrection 8 16 128 (sx n c) I (rx c) J [.ref 0] Q9) (h1 : ∀ r s i rf j, Q9 (.inl r) s i rf j → ∃ v, r = some (.int v)) (h2 : ∀ E s i rf j, ¬ Q9 (.inr E) s i rf j) : xv_Met mL_does 10 16 128 (sx n c) I (rx c) J [.ref 0, .int (nI 19), .int x1, .int x2, .int x3, .int x4, .int x5] Q9 := by
  refine xv_Met.of (by decide +kernel) (Nat.le_of_ble_eq_true rfl) (List.forall_mem_cons.mpr ⟨rfl, List.forall_mem_cons.mpr ⟨rfl, List.forall_mem_cons.mpr ⟨rfl, List.forall_mem_cons.mpr ⟨rfl, List.forall_mem_cons.mpr ⟨rfl, List.forall_mem_cons.mpr ⟨rfl, List.forall_mem_cons.mpr ⟨rfl, fun _ h => nomatch h⟩⟩⟩⟩⟩⟩⟩) ?_
  show xv_W mL_does 10 16 128 _ 16 128 (sx n c) I (rx c) J 0 [some (.ref 0), some (.int (nI 19)), some (.int x1), some (.int x2), some (.int x3), some (.int x4), some (.int x5), none] []
  refine xv_il1 fL_does_0 ?_
  refine xv_if_ne fL_does_1 (fun h_1 => ?_) (fun h_1 => ?_)
  · refine xv_il1 fL_does_24 ?_
    refine xv_k fL_does_25 ?_
    refine xv_ic_ne fL_does_26 (fun h_26 => ?_) (fun h_26 => ?_)
    · refine xv_il1 fL_does_38 ?_
      refine xv_k fL_does_39 ?_
      refine xv_ic_ne fL_does_40 (fun h_40 => ?_) (fun h_40 => ?_)
      · refine xv_il1 fL_does_52 ?_
        refine xv_k fL_does_53 ?_
        refine xv_ic_ne fL_does_54 (fun h_54 => ?_) (fun h_54 => ?_)
        · refine xv_il1 fL_does_88 ?_
          refine xv_k fL_does_89 ?_
          refine xv_ic_ne fL_does_90 (fun h_90 => ?_) (fun h_90 => ?_)
          · refine xv_il1 fL_does_101 ?_
            refine xv_k fL_does_102 ?_
            refine xv_ic_ne fL_does_103 (fun h_103 => ?_) (fun h_103 => ?_)
            · refine xv_il1 fL_does_114 ?_
              refine xv_k fL_does_115 ?_
              refine xv_ic_ne fL_does_117 (fun h_117 => ?_) (fun h_117 => ?_)
              · refine xv_il1 fL_does_128 ?_
                refine xv_k fL_does_129 ?_
                refine xv_ic_ne fL_does_131 (fun h_131 => ?_) (fun h_131 => ?_)
                · refine xv_il1 fL_does_145 ?_
                  refine xv_k fL_does_146 ?_
                  refine xv_ic_ne fL_does_148 (fun h_148 => ?_) (fun h_148 => ?_)
                  · refine xv_il1 fL_does_159 ?_
                    refine xv_k fL_does_160 ?_
                    refine xv_ic_ne fL_does_162 (fun h_162 => ?_) (fun h_162 => ?_)
                    · refine xv_il1 fL_does_173 ?_
                      refine xv_k fL_does_174 ?_
                      refine xv_ic_ne fL_does_176 (fun h_176 => ?_) (fun h_176 => ?_)
                      · refine xv_il1 fL_does_188 ?_
                        refine xv_k fL_does_189 ?_
                        refine xv_ic_ne fL_does_191 (fun h_191 => ?_) (fun h_191 => ?_)
                        · refine xv_il1 fL_does_203 ?_
                          refine xv_k fL_does_204 ?_
                          refine xv_ic_ne fL_does_206 (fun h_206 => ?_) (fun h_206 => ?_)
                          · refine xv_il1 fL_does_225 ?_
                            refine xv_k fL_does_226 ?_
                            refine xv_ic_ne fL_does_228 (fun h_228 => ?_) (fun h_228 => ?_)
                            · refine xv_il1 fL_does_240 ?_
                              refine xv_k fL_does_241 ?_
                              refine xv_ic_ne fL_does_243 (fun h_243 => ?_) (fun h_243 => ?_)
                              · refine xv_il1 fL_does_263 ?_
                                refine xv_k fL_does_264 ?_
                                refine xv_ic_ne fL_does_266 (fun h_266 => ?_) (fun h_266 => ?_)
                                · refine xv_il1 fL_does_285 ?_
                                  refine xv_k fL_does_286 ?_
                                  refine xv_ic_ne fL_does_288 (fun h_288 => ?_) (fun h_288 => ?_)
                                  · refine xv_il1 fL_does_298 ?_
                                    refine xv_k fL_does_299 ?_
                                    refine xv_ic_ne fL_does_301 (fun h_301 => ?_) (fun h_301 => ?_)
                                    · refine xv_il1 fL_does_315 ?_
                                      refine xv_k fL_does_316 ?_
                                      refine xv_ic_ne fL_does_318 (fun h_318 => ?_) (fun h_318 => ?_)
                                      · refine xv_il1 fL_does_330 ?_
                                        refine xv_k fL_does_331 ?_
                                        refine xv_ic_ne fL_does_333 (fun h_333 => ?_) (fun h_333 => ?_)
                                        · exact absurd h_333 (by decide)
                                        · refine xv_al0 fL_does_336 ?_
                                          refine xv_callVH (As := []) (S := []) (kc' := 0) (ks' := 0) hM fL_does_337 YX10_placeCorrection VX10_placeCorrection lL_77 rfl rfl (sx_0 _ _) rfl rfl (Nat.le_of_ble_eq_true rfl) (by decide) (by decide) (by decide) ?_ ?_
                                          · intro r s i rf j h _
                                            obtain ⟨v, rfl⟩ := h1 _ _ _ _ _ h
                                            refine xv_goto fL_does_340 ?_
                                            exact xv_iret fL_does_362 rfl rfl h
                                          · intro E s i rf j h
                                            exact absurd h (h2 _ _ _ _ _)
                                      · exact absurd h_318 (by decide)
                                    · exact absurd h_301 (by decide)
                                  · exact absurd h_288 (by decide)
                                · exact absurd h_266 (by decide)
                              · exact absurd h_243 (by decide)
                            · exact absurd h_228 (by decide)
                          · exact absurd h_206 (by decide)
                        · exact absurd h_191 (by decide)
                      · exact absurd h_176 (by decide)
                    · exact absurd h_162 (by decide)
                  · exact absurd h_148 (by decide)
                · exact absurd h_131 (by decide)
              · exact absurd h_117 (by decide)
            · exact absurd h_103 (by decide)
          · exact absurd h_90 (by decide)
        · exact absurd h_54 (by decide)
      · exact absurd h_40 (by decide)
    · exact absurd h_26 (by decide)
  · exact absurd h_1 (by decide)
theorem w_clean_ok (n : Nat) (c c' : Nat × Nat) (J : xv_J) {I I' : xv_I} {x1 x2 x3 x4 x5 : Int32} {v : Int32} (hM : xv_Met mX10_clean 8 16 128 (sx n c) I (rx c) J [.ref 0, .int x1] (xv_eq (.inl (some (.int (v)))) (sx n c') I' (rx c') J)) : xv_Met mL_does 10 16 128 (sx n c) I (rx c) J [.ref 0, .int (nI 20), .int x1, .int x2, .int x3, .int x4, .int x5] (xv_eq (.inl (some (.int (v)))) (sx n c') I' (rx c') J) := by
  refine xv_Met.of (by decide +kernel) (Nat.le_of_ble_eq_true rfl) (List.forall_mem_cons.mpr ⟨rfl, List.forall_mem_cons.mpr ⟨rfl, List.forall_mem_cons.mpr ⟨rfl, List.forall_mem_cons.mpr ⟨rfl, List.forall_mem_cons.mpr ⟨rfl, List.forall_mem_cons.mpr ⟨rfl, List.forall_mem_cons.mpr ⟨rfl, fun _ h => nomatch h⟩⟩⟩⟩⟩⟩⟩) ?_
  show xv_W mL_does 10 16 128 _ 16 128 (sx n c) I (rx c) J 0 [some (.ref 0), some (.int (nI 20)), some (.int x1), some (.int x2), some (.int x3), some (.int x4), some (.int x5), none] []
  refine xv_il1 fL_does_0 ?_
  refine xv_if_ne fL_does_1 (fun h_1 => ?_) (fun h_1 => ?_)
  · refine xv_il1 fL_does_24 ?_
    refine xv_k fL_does_25 ?_
    refine xv_ic_ne fL_does_26 (fun h_26 => ?_) (fun h_26 => ?_)
    · refine xv_il1 fL_does_38 ?_
      refine xv_k fL_does_39 ?_
      refine xv_ic_ne fL_does_40 (fun h_40 => ?_) (fun h_40 => ?_)
      · refine xv_il1 fL_does_52 ?_
        refine xv_k fL_does_53 ?_
        refine xv_ic_ne fL_does_54 (fun h_54 => ?_) (fun h_54 => ?_)
        · refine xv_il1 fL_does_88 ?_
          refine xv_k fL_does_89 ?_
          refine xv_ic_ne fL_does_90 (fun h_90 => ?_) (fun h_90 => ?_)
          · refine xv_il1 fL_does_101 ?_
            refine xv_k fL_does_102 ?_
            refine xv_ic_ne fL_does_103 (fun h_103 => ?_) (fun h_103 => ?_)
            · refine xv_il1 fL_does_114 ?_
              refine xv_k fL_does_115 ?_
              refine xv_ic_ne fL_does_117 (fun h_117 => ?_) (fun h_117 => ?_)
              · refine xv_il1 fL_does_128 ?_
                refine xv_k fL_does_129 ?_
                refine xv_ic_ne fL_does_131 (fun h_131 => ?_) (fun h_131 => ?_)
                · refine xv_il1 fL_does_145 ?_
                  refine xv_k fL_does_146 ?_
                  refine xv_ic_ne fL_does_148 (fun h_148 => ?_) (fun h_148 => ?_)
                  · refine xv_il1 fL_does_159 ?_
                    refine xv_k fL_does_160 ?_
                    refine xv_ic_ne fL_does_162 (fun h_162 => ?_) (fun h_162 => ?_)
                    · refine xv_il1 fL_does_173 ?_
                      refine xv_k fL_does_174 ?_
                      refine xv_ic_ne fL_does_176 (fun h_176 => ?_) (fun h_176 => ?_)
                      · refine xv_il1 fL_does_188 ?_
                        refine xv_k fL_does_189 ?_
                        refine xv_ic_ne fL_does_191 (fun h_191 => ?_) (fun h_191 => ?_)
                        · refine xv_il1 fL_does_203 ?_
                          refine xv_k fL_does_204 ?_
                          refine xv_ic_ne fL_does_206 (fun h_206 => ?_) (fun h_206 => ?_)
                          · refine xv_il1 fL_does_225 ?_
                            refine xv_k fL_does_226 ?_
                            refine xv_ic_ne fL_does_228 (fun h_228 => ?_) (fun h_228 => ?_)
                            · refine xv_il1 fL_does_240 ?_
                              refine xv_k fL_does_241 ?_
                              refine xv_ic_ne fL_does_243 (fun h_243 => ?_) (fun h_243 => ?_)
                              · refine xv_il1 fL_does_263 ?_
                                refine xv_k fL_does_264 ?_
                                refine xv_ic_ne fL_does_266 (fun h_266 => ?_) (fun h_266 => ?_)
                                · refine xv_il1 fL_does_285 ?_
                                  refine xv_k fL_does_286 ?_
                                  refine xv_ic_ne fL_does_288 (fun h_288 => ?_) (fun h_288 => ?_)
                                  · refine xv_il1 fL_does_298 ?_
                                    refine xv_k fL_does_299 ?_
                                    refine xv_ic_ne fL_does_301 (fun h_301 => ?_) (fun h_301 => ?_)
                                    · refine xv_il1 fL_does_315 ?_
                                      refine xv_k fL_does_316 ?_
                                      refine xv_ic_ne fL_does_318 (fun h_318 => ?_) (fun h_318 => ?_)
                                      · refine xv_il1 fL_does_330 ?_
                                        refine xv_k fL_does_331 ?_
                                        refine xv_ic_ne fL_does_333 (fun h_333 => ?_) (fun h_333 => ?_)
                                        · refine xv_il1 fL_does_343 ?_
                                          refine xv_k fL_does_344 ?_
                                          refine xv_ic_ne fL_does_346 (fun h_346 => ?_) (fun h_346 => ?_)
                                          · exact absurd h_346 (by decide)
                                          · refine xv_al0 fL_does_349 ?_
                                            refine xv_il2 fL_does_350 ?_
                                            refine xv_callVH (As := [.int x1]) (S := []) (kc' := 0) (ks' := 0) hM fL_does_351 YX10_clean VX10_clean lL_80 rfl rfl (sx_0 _ _) rfl rfl (Nat.le_of_ble_eq_true rfl) (by decide) (by decide) (by decide) ?_ ?_
                                            · intro r s i rf j h _
                                              obtain ⟨h1, rfl, rfl, rfl, rfl⟩ := h
                                              cases h1
                                              refine xv_goto fL_does_354 ?_
                                              exact xv_iret fL_does_362 rfl rfl xv_eq_i
                                            · intro E s i rf j h
                                              obtain ⟨h1, -⟩ := h
                                              cases h1
                                        · exact absurd h_333 (by decide)
                                      · exact absurd h_318 (by decide)
                                    · exact absurd h_301 (by decide)
                                  · exact absurd h_288 (by decide)
                                · exact absurd h_266 (by decide)
                              · exact absurd h_243 (by decide)
                            · exact absurd h_228 (by decide)
                          · exact absurd h_206 (by decide)
                        · exact absurd h_191 (by decide)
                      · exact absurd h_176 (by decide)
                    · exact absurd h_162 (by decide)
                  · exact absurd h_148 (by decide)
                · exact absurd h_131 (by decide)
              · exact absurd h_117 (by decide)
            · exact absurd h_103 (by decide)
          · exact absurd h_90 (by decide)
        · exact absurd h_54 (by decide)
      · exact absurd h_40 (by decide)
    · exact absurd h_26 (by decide)
  · exact absurd h_1 (by decide)
theorem w_clean_I (n : Nat) (c c' : Nat × Nat) (J : xv_J) {I I' : xv_I} {x1 x2 x3 x4 x5 : Int32} (hM : xv_Met mX10_clean 8 16 128 (sx n c) I (rx c) J [.ref 0, .int x1] (xv_eq (.inr "java/lang/IndexOutOfBoundsException") (sx n c') I' (rx c') J)) : xv_Met mL_does 10 16 128 (sx n c) I (rx c) J [.ref 0, .int (nI 20), .int x1, .int x2, .int x3, .int x4, .int x5] (xv_eq (.inl (some (.int (-3000)))) (sx n c') I' (rx c') J) := by
  refine xv_Met.of (by decide +kernel) (Nat.le_of_ble_eq_true rfl) (List.forall_mem_cons.mpr ⟨rfl, List.forall_mem_cons.mpr ⟨rfl, List.forall_mem_cons.mpr ⟨rfl, List.forall_mem_cons.mpr ⟨rfl, List.forall_mem_cons.mpr ⟨rfl, List.forall_mem_cons.mpr ⟨rfl, List.forall_mem_cons.mpr ⟨rfl, fun _ h => nomatch h⟩⟩⟩⟩⟩⟩⟩) ?_
  show xv_W mL_does 10 16 128 _ 16 128 (sx n c) I (rx c) J 0 [some (.ref 0), some (.int (nI 20)), some (.int x1), some (.int x2), some (.int x3), some (.int x4), some (.int x5), none] []
  refine xv_il1 fL_does_0 ?_
  refine xv_if_ne fL_does_1 (fun h_1 => ?_) (fun h_1 => ?_)
  · refine xv_il1 fL_does_24 ?_
    refine xv_k fL_does_25 ?_
    refine xv_ic_ne fL_does_26 (fun h_26 => ?_) (fun h_26 => ?_)
    · refine xv_il1 fL_does_38 ?_
      refine xv_k fL_does_39 ?_
      refine xv_ic_ne fL_does_40 (fun h_40 => ?_) (fun h_40 => ?_)
      · refine xv_il1 fL_does_52 ?_
        refine xv_k fL_does_53 ?_
        refine xv_ic_ne fL_does_54 (fun h_54 => ?_) (fun h_54 => ?_)
        · refine xv_il1 fL_does_88 ?_
          refine xv_k fL_does_89 ?_
          refine xv_ic_ne fL_does_90 (fun h_90 => ?_) (fun h_90 => ?_)
          · refine xv_il1 fL_does_101 ?_
            refine xv_k fL_does_102 ?_
            refine xv_ic_ne fL_does_103 (fun h_103 => ?_) (fun h_103 => ?_)
            · refine xv_il1 fL_does_114 ?_
              refine xv_k fL_does_115 ?_
              refine xv_ic_ne fL_does_117 (fun h_117 => ?_) (fun h_117 => ?_)
              · refine xv_il1 fL_does_128 ?_
                refine xv_k fL_does_129 ?_
                refine xv_ic_ne fL_does_131 (fun h_131 => ?_) (fun h_131 => ?_)
                · refine xv_il1 fL_does_145 ?_
                  refine xv_k fL_does_146 ?_
                  refine xv_ic_ne fL_does_148 (fun h_148 => ?_) (fun h_148 => ?_)
                  · refine xv_il1 fL_does_159 ?_
                    refine xv_k fL_does_160 ?_
                    refine xv_ic_ne fL_does_162 (fun h_162 => ?_) (fun h_162 => ?_)
                    · refine xv_il1 fL_does_173 ?_
                      refine xv_k fL_does_174 ?_
                      refine xv_ic_ne fL_does_176 (fun h_176 => ?_) (fun h_176 => ?_)
                      · refine xv_il1 fL_does_188 ?_
                        refine xv_k fL_does_189 ?_
                        refine xv_ic_ne fL_does_191 (fun h_191 => ?_) (fun h_191 => ?_)
                        · refine xv_il1 fL_does_203 ?_
                          refine xv_k fL_does_204 ?_
                          refine xv_ic_ne fL_does_206 (fun h_206 => ?_) (fun h_206 => ?_)
                          · refine xv_il1 fL_does_225 ?_
                            refine xv_k fL_does_226 ?_
                            refine xv_ic_ne fL_does_228 (fun h_228 => ?_) (fun h_228 => ?_)
                            · refine xv_il1 fL_does_240 ?_
                              refine xv_k fL_does_241 ?_
                              refine xv_ic_ne fL_does_243 (fun h_243 => ?_) (fun h_243 => ?_)
                              · refine xv_il1 fL_does_263 ?_
                                refine xv_k fL_does_264 ?_
                                refine xv_ic_ne fL_does_266 (fun h_266 => ?_) (fun h_266 => ?_)
                                · refine xv_il1 fL_does_285 ?_
                                  refine xv_k fL_does_286 ?_
                                  refine xv_ic_ne fL_does_288 (fun h_288 => ?_) (fun h_288 => ?_)
                                  · refine xv_il1 fL_does_298 ?_
                                    refine xv_k fL_does_299 ?_
                                    refine xv_ic_ne fL_does_301 (fun h_301 => ?_) (fun h_301 => ?_)
                                    · refine xv_il1 fL_does_315 ?_
                                      refine xv_k fL_does_316 ?_
                                      refine xv_ic_ne fL_does_318 (fun h_318 => ?_) (fun h_318 => ?_)
                                      · refine xv_il1 fL_does_330 ?_
                                        refine xv_k fL_does_331 ?_
                                        refine xv_ic_ne fL_does_333 (fun h_333 => ?_) (fun h_333 => ?_)
                                        · refine xv_il1 fL_does_343 ?_
                                          refine xv_k fL_does_344 ?_
                                          refine xv_ic_ne fL_does_346 (fun h_346 => ?_) (fun h_346 => ?_)
                                          · exact absurd h_346 (by decide)
                                          · refine xv_al0 fL_does_349 ?_
                                            refine xv_il2 fL_does_350 ?_
                                            refine xv_callVH (As := [.int x1]) (S := []) (kc' := 0) (ks' := 0) hM fL_does_351 YX10_clean VX10_clean lL_80 rfl rfl (sx_0 _ _) rfl rfl (Nat.le_of_ble_eq_true rfl) (by decide) (by decide) (by decide) ?_ ?_
                                            · intro r s i rf j h _
                                              obtain ⟨h1, -⟩ := h
                                              cases h1
                                            · intro E s i rf j h
                                              obtain ⟨h1, rfl, rfl, rfl, rfl⟩ := h
                                              cases h1
                                              exact ⟨_, hn_351_I, xv_eq_i⟩
                                        · exact absurd h_333 (by decide)
                                      · exact absurd h_318 (by decide)
                                    · exact absurd h_301 (by decide)
                                  · exact absurd h_288 (by decide)
                                · exact absurd h_266 (by decide)
                              · exact absurd h_243 (by decide)
                            · exact absurd h_228 (by decide)
                          · exact absurd h_206 (by decide)
                        · exact absurd h_191 (by decide)
                      · exact absurd h_176 (by decide)
                    · exact absurd h_162 (by decide)
                  · exact absurd h_148 (by decide)
                · exact absurd h_131 (by decide)
              · exact absurd h_117 (by decide)
            · exact absurd h_103 (by decide)
          · exact absurd h_90 (by decide)
        · exact absurd h_54 (by decide)
      · exact absurd h_40 (by decide)
    · exact absurd h_26 (by decide)
  · exact absurd h_1 (by decide)
theorem w_clean_A (n : Nat) (c c' : Nat × Nat) (J : xv_J) {I I' : xv_I} {x1 x2 x3 x4 x5 : Int32} (hM : xv_Met mX10_clean 8 16 128 (sx n c) I (rx c) J [.ref 0, .int x1] (xv_eq (.inr "java/lang/IllegalArgumentException") (sx n c') I' (rx c') J)) : xv_Met mL_does 10 16 128 (sx n c) I (rx c) J [.ref 0, .int (nI 20), .int x1, .int x2, .int x3, .int x4, .int x5] (xv_eq (.inl (some (.int (-2000)))) (sx n c') I' (rx c') J) := by
  refine xv_Met.of (by decide +kernel) (Nat.le_of_ble_eq_true rfl) (List.forall_mem_cons.mpr ⟨rfl, List.forall_mem_cons.mpr ⟨rfl, List.forall_mem_cons.mpr ⟨rfl, List.forall_mem_cons.mpr ⟨rfl, List.forall_mem_cons.mpr ⟨rfl, List.forall_mem_cons.mpr ⟨rfl, List.forall_mem_cons.mpr ⟨rfl, fun _ h => nomatch h⟩⟩⟩⟩⟩⟩⟩) ?_
  show xv_W mL_does 10 16 128 _ 16 128 (sx n c) I (rx c) J 0 [some (.ref 0), some (.int (nI 20)), some (.int x1), some (.int x2), some (.int x3), some (.int x4), some (.int x5), none] []
  refine xv_il1 fL_does_0 ?_
  refine xv_if_ne fL_does_1 (fun h_1 => ?_) (fun h_1 => ?_)
  · refine xv_il1 fL_does_24 ?_
    refine xv_k fL_does_25 ?_
    refine xv_ic_ne fL_does_26 (fun h_26 => ?_) (fun h_26 => ?_)
    · refine xv_il1 fL_does_38 ?_
      refine xv_k fL_does_39 ?_
      refine xv_ic_ne fL_does_40 (fun h_40 => ?_) (fun h_40 => ?_)
      · refine xv_il1 fL_does_52 ?_
        refine xv_k fL_does_53 ?_
        refine xv_ic_ne fL_does_54 (fun h_54 => ?_) (fun h_54 => ?_)
        · refine xv_il1 fL_does_88 ?_
          refine xv_k fL_does_89 ?_
          refine xv_ic_ne fL_does_90 (fun h_90 => ?_) (fun h_90 => ?_)
          · refine xv_il1 fL_does_101 ?_
            refine xv_k fL_does_102 ?_
            refine xv_ic_ne fL_does_103 (fun h_103 => ?_) (fun h_103 => ?_)
            · refine xv_il1 fL_does_114 ?_
              refine xv_k fL_does_115 ?_
              refine xv_ic_ne fL_does_117 (fun h_117 => ?_) (fun h_117 => ?_)
              · refine xv_il1 fL_does_128 ?_
                refine xv_k fL_does_129 ?_
                refine xv_ic_ne fL_does_131 (fun h_131 => ?_) (fun h_131 => ?_)
                · refine xv_il1 fL_does_145 ?_
                  refine xv_k fL_does_146 ?_
                  refine xv_ic_ne fL_does_148 (fun h_148 => ?_) (fun h_148 => ?_)
                  · refine xv_il1 fL_does_159 ?_
                    refine xv_k fL_does_160 ?_
                    refine xv_ic_ne fL_does_162 (fun h_162 => ?_) (fun h_162 => ?_)
                    · refine xv_il1 fL_does_173 ?_
                      refine xv_k fL_does_174 ?_
                      refine xv_ic_ne fL_does_176 (fun h_176 => ?_) (fun h_176 => ?_)
                      · refine xv_il1 fL_does_188 ?_
                        refine xv_k fL_does_189 ?_
                        refine xv_ic_ne fL_does_191 (fun h_191 => ?_) (fun h_191 => ?_)
                        · refine xv_il1 fL_does_203 ?_
                          refine xv_k fL_does_204 ?_
                          refine xv_ic_ne fL_does_206 (fun h_206 => ?_) (fun h_206 => ?_)
                          · refine xv_il1 fL_does_225 ?_
                            refine xv_k fL_does_226 ?_
                            refine xv_ic_ne fL_does_228 (fun h_228 => ?_) (fun h_228 => ?_)
                            · refine xv_il1 fL_does_240 ?_
                              refine xv_k fL_does_241 ?_
                              refine xv_ic_ne fL_does_243 (fun h_243 => ?_) (fun h_243 => ?_)
                              · refine xv_il1 fL_does_263 ?_
                                refine xv_k fL_does_264 ?_
                                refine xv_ic_ne fL_does_266 (fun h_266 => ?_) (fun h_266 => ?_)
                                · refine xv_il1 fL_does_285 ?_
                                  refine xv_k fL_does_286 ?_
                                  refine xv_ic_ne fL_does_288 (fun h_288 => ?_) (fun h_288 => ?_)
                                  · refine xv_il1 fL_does_298 ?_
                                    refine xv_k fL_does_299 ?_
                                    refine xv_ic_ne fL_does_301 (fun h_301 => ?_) (fun h_301 => ?_)
                                    · refine xv_il1 fL_does_315 ?_
                                      refine xv_k fL_does_316 ?_
                                      refine xv_ic_ne fL_does_318 (fun h_318 => ?_) (fun h_318 => ?_)
                                      · refine xv_il1 fL_does_330 ?_
                                        refine xv_k fL_does_331 ?_
                                        refine xv_ic_ne fL_does_333 (fun h_333 => ?_) (fun h_333 => ?_)
                                        · refine xv_il1 fL_does_343 ?_
                                          refine xv_k fL_does_344 ?_
                                          refine xv_ic_ne fL_does_346 (fun h_346 => ?_) (fun h_346 => ?_)
                                          · exact absurd h_346 (by decide)
                                          · refine xv_al0 fL_does_349 ?_
                                            refine xv_il2 fL_does_350 ?_
                                            refine xv_callVH (As := [.int x1]) (S := []) (kc' := 0) (ks' := 0) hM fL_does_351 YX10_clean VX10_clean lL_80 rfl rfl (sx_0 _ _) rfl rfl (Nat.le_of_ble_eq_true rfl) (by decide) (by decide) (by decide) ?_ ?_
                                            · intro r s i rf j h _
                                              obtain ⟨h1, -⟩ := h
                                              cases h1
                                            · intro E s i rf j h
                                              obtain ⟨h1, rfl, rfl, rfl, rfl⟩ := h
                                              cases h1
                                              exact ⟨_, hn_351_A, xv_eq_i⟩
                                        · exact absurd h_333 (by decide)
                                      · exact absurd h_318 (by decide)
                                    · exact absurd h_301 (by decide)
                                  · exact absurd h_288 (by decide)
                                · exact absurd h_266 (by decide)
                              · exact absurd h_243 (by decide)
                            · exact absurd h_228 (by decide)
                          · exact absurd h_206 (by decide)
                        · exact absurd h_191 (by decide)
                      · exact absurd h_176 (by decide)
                    · exact absurd h_162 (by decide)
                  · exact absurd h_148 (by decide)
                · exact absurd h_131 (by decide)
              · exact absurd h_117 (by decide)
            · exact absurd h_103 (by decide)
          · exact absurd h_90 (by decide)
        · exact absurd h_54 (by decide)
      · exact absurd h_40 (by decide)
    · exact absurd h_26 (by decide)
  · exact absurd h_1 (by decide)
theorem w_clean_S (n : Nat) (c c' : Nat × Nat) (J : xv_J) {I I' : xv_I} {x1 x2 x3 x4 x5 : Int32} (hM : xv_Met mX10_clean 8 16 128 (sx n c) I (rx c) J [.ref 0, .int x1] (xv_eq (.inr "java/lang/IllegalStateException") (sx n c') I' (rx c') J)) : xv_Met mL_does 10 16 128 (sx n c) I (rx c) J [.ref 0, .int (nI 20), .int x1, .int x2, .int x3, .int x4, .int x5] (xv_eq (.inl (some (.int (-1000)))) (sx n c') I' (rx c') J) := by
  refine xv_Met.of (by decide +kernel) (Nat.le_of_ble_eq_true rfl) (List.forall_mem_cons.mpr ⟨rfl, List.forall_mem_cons.mpr ⟨rfl, List.forall_mem_cons.mpr ⟨rfl, List.forall_mem_cons.mpr ⟨rfl, List.forall_mem_cons.mpr ⟨rfl, List.forall_mem_cons.mpr ⟨rfl, List.forall_mem_cons.mpr ⟨rfl, fun _ h => nomatch h⟩⟩⟩⟩⟩⟩⟩) ?_
  show xv_W mL_does 10 16 128 _ 16 128 (sx n c) I (rx c) J 0 [some (.ref 0), some (.int (nI 20)), some (.int x1), some (.int x2), some (.int x3), some (.int x4), some (.int x5), none] []
  refine xv_il1 fL_does_0 ?_
  refine xv_if_ne fL_does_1 (fun h_1 => ?_) (fun h_1 => ?_)
  · refine xv_il1 fL_does_24 ?_
    refine xv_k fL_does_25 ?_
    refine xv_ic_ne fL_does_26 (fun h_26 => ?_) (fun h_26 => ?_)
    · refine xv_il1 fL_does_38 ?_
      refine xv_k fL_does_39 ?_
      refine xv_ic_ne fL_does_40 (fun h_40 => ?_) (fun h_40 => ?_)
      · refine xv_il1 fL_does_52 ?_
        refine xv_k fL_does_53 ?_
        refine xv_ic_ne fL_does_54 (fun h_54 => ?_) (fun h_54 => ?_)
        · refine xv_il1 fL_does_88 ?_
          refine xv_k fL_does_89 ?_
          refine xv_ic_ne fL_does_90 (fun h_90 => ?_) (fun h_90 => ?_)
          · refine xv_il1 fL_does_101 ?_
            refine xv_k fL_does_102 ?_
            refine xv_ic_ne fL_does_103 (fun h_103 => ?_) (fun h_103 => ?_)
            · refine xv_il1 fL_does_114 ?_
              refine xv_k fL_does_115 ?_
              refine xv_ic_ne fL_does_117 (fun h_117 => ?_) (fun h_117 => ?_)
              · refine xv_il1 fL_does_128 ?_
                refine xv_k fL_does_129 ?_
                refine xv_ic_ne fL_does_131 (fun h_131 => ?_) (fun h_131 => ?_)
                · refine xv_il1 fL_does_145 ?_
                  refine xv_k fL_does_146 ?_
                  refine xv_ic_ne fL_does_148 (fun h_148 => ?_) (fun h_148 => ?_)
                  · refine xv_il1 fL_does_159 ?_
                    refine xv_k fL_does_160 ?_
                    refine xv_ic_ne fL_does_162 (fun h_162 => ?_) (fun h_162 => ?_)
                    · refine xv_il1 fL_does_173 ?_
                      refine xv_k fL_does_174 ?_
                      refine xv_ic_ne fL_does_176 (fun h_176 => ?_) (fun h_176 => ?_)
                      · refine xv_il1 fL_does_188 ?_
                        refine xv_k fL_does_189 ?_
                        refine xv_ic_ne fL_does_191 (fun h_191 => ?_) (fun h_191 => ?_)
                        · refine xv_il1 fL_does_203 ?_
                          refine xv_k fL_does_204 ?_
                          refine xv_ic_ne fL_does_206 (fun h_206 => ?_) (fun h_206 => ?_)
                          · refine xv_il1 fL_does_225 ?_
                            refine xv_k fL_does_226 ?_
                            refine xv_ic_ne fL_does_228 (fun h_228 => ?_) (fun h_228 => ?_)
                            · refine xv_il1 fL_does_240 ?_
                              refine xv_k fL_does_241 ?_
                              refine xv_ic_ne fL_does_243 (fun h_243 => ?_) (fun h_243 => ?_)
                              · refine xv_il1 fL_does_263 ?_
                                refine xv_k fL_does_264 ?_
                                refine xv_ic_ne fL_does_266 (fun h_266 => ?_) (fun h_266 => ?_)
                                · refine xv_il1 fL_does_285 ?_
                                  refine xv_k fL_does_286 ?_
                                  refine xv_ic_ne fL_does_288 (fun h_288 => ?_) (fun h_288 => ?_)
                                  · refine xv_il1 fL_does_298 ?_
                                    refine xv_k fL_does_299 ?_
                                    refine xv_ic_ne fL_does_301 (fun h_301 => ?_) (fun h_301 => ?_)
                                    · refine xv_il1 fL_does_315 ?_
                                      refine xv_k fL_does_316 ?_
                                      refine xv_ic_ne fL_does_318 (fun h_318 => ?_) (fun h_318 => ?_)
                                      · refine xv_il1 fL_does_330 ?_
                                        refine xv_k fL_does_331 ?_
                                        refine xv_ic_ne fL_does_333 (fun h_333 => ?_) (fun h_333 => ?_)
                                        · refine xv_il1 fL_does_343 ?_
                                          refine xv_k fL_does_344 ?_
                                          refine xv_ic_ne fL_does_346 (fun h_346 => ?_) (fun h_346 => ?_)
                                          · exact absurd h_346 (by decide)
                                          · refine xv_al0 fL_does_349 ?_
                                            refine xv_il2 fL_does_350 ?_
                                            refine xv_callVH (As := [.int x1]) (S := []) (kc' := 0) (ks' := 0) hM fL_does_351 YX10_clean VX10_clean lL_80 rfl rfl (sx_0 _ _) rfl rfl (Nat.le_of_ble_eq_true rfl) (by decide) (by decide) (by decide) ?_ ?_
                                            · intro r s i rf j h _
                                              obtain ⟨h1, -⟩ := h
                                              cases h1
                                            · intro E s i rf j h
                                              obtain ⟨h1, rfl, rfl, rfl, rfl⟩ := h
                                              cases h1
                                              exact ⟨_, hn_351_S, xv_eq_i⟩
                                        · exact absurd h_333 (by decide)
                                      · exact absurd h_318 (by decide)
                                    · exact absurd h_301 (by decide)
                                  · exact absurd h_288 (by decide)
                                · exact absurd h_266 (by decide)
                              · exact absurd h_243 (by decide)
                            · exact absurd h_228 (by decide)
                          · exact absurd h_206 (by decide)
                        · exact absurd h_191 (by decide)
                      · exact absurd h_176 (by decide)
                    · exact absurd h_162 (by decide)
                  · exact absurd h_148 (by decide)
                · exact absurd h_131 (by decide)
              · exact absurd h_117 (by decide)
            · exact absurd h_103 (by decide)
          · exact absurd h_90 (by decide)
        · exact absurd h_54 (by decide)
      · exact absurd h_40 (by decide)
    · exact absurd h_26 (by decide)
  · exact absurd h_1 (by decide)
theorem w_pass_ok (n : Nat) (c c' : Nat × Nat) (J : xv_J) {I I' : xv_I} {x1 x2 x3 x4 x5 : Int32} {v : Int32} (hM : xv_Met mX10_pass 8 16 128 (sx n c) I (rx c) J [.ref 0, .int x1] (xv_eq (.inl (some (.int (v)))) (sx n c') I' (rx c') J)) : xv_Met mL_does 10 16 128 (sx n c) I (rx c) J [.ref 0, .int (nI 21), .int x1, .int x2, .int x3, .int x4, .int x5] (xv_eq (.inl (some (.int (v)))) (sx n c') I' (rx c') J) := by
  refine xv_Met.of (by decide +kernel) (Nat.le_of_ble_eq_true rfl) (List.forall_mem_cons.mpr ⟨rfl, List.forall_mem_cons.mpr ⟨rfl, List.forall_mem_cons.mpr ⟨rfl, List.forall_mem_cons.mpr ⟨rfl, List.forall_mem_cons.mpr ⟨rfl, List.forall_mem_cons.mpr ⟨rfl, List.forall_mem_cons.mpr ⟨rfl, fun _ h => nomatch h⟩⟩⟩⟩⟩⟩⟩) ?_
  show xv_W mL_does 10 16 128 _ 16 128 (sx n c) I (rx c) J 0 [some (.ref 0), some (.int (nI 21)), some (.int x1), some (.int x2), some (.int x3), some (.int x4), some (.int x5), none] []
  refine xv_il1 fL_does_0 ?_
  refine xv_if_ne fL_does_1 (fun h_1 => ?_) (fun h_1 => ?_)
  · refine xv_il1 fL_does_24 ?_
    refine xv_k fL_does_25 ?_
    refine xv_ic_ne fL_does_26 (fun h_26 => ?_) (fun h_26 => ?_)
    · refine xv_il1 fL_does_38 ?_
      refine xv_k fL_does_39 ?_
      refine xv_ic_ne fL_does_40 (fun h_40 => ?_) (fun h_40 => ?_)
      · refine xv_il1 fL_does_52 ?_
        refine xv_k fL_does_53 ?_
        refine xv_ic_ne fL_does_54 (fun h_54 => ?_) (fun h_54 => ?_)
        · refine xv_il1 fL_does_88 ?_
          refine xv_k fL_does_89 ?_
          refine xv_ic_ne fL_does_90 (fun h_90 => ?_) (fun h_90 => ?_)
          · refine xv_il1 fL_does_101 ?_
            refine xv_k fL_does_102 ?_
            refine xv_ic_ne fL_does_103 (fun h_103 => ?_) (fun h_103 => ?_)
            · refine xv_il1 fL_does_114 ?_
              refine xv_k fL_does_115 ?_
              refine xv_ic_ne fL_does_117 (fun h_117 => ?_) (fun h_117 => ?_)
              · refine xv_il1 fL_does_128 ?_
                refine xv_k fL_does_129 ?_
                refine xv_ic_ne fL_does_131 (fun h_131 => ?_) (fun h_131 => ?_)
                · refine xv_il1 fL_does_145 ?_
                  refine xv_k fL_does_146 ?_
                  refine xv_ic_ne fL_does_148 (fun h_148 => ?_) (fun h_148 => ?_)
                  · refine xv_il1 fL_does_159 ?_
                    refine xv_k fL_does_160 ?_
                    refine xv_ic_ne fL_does_162 (fun h_162 => ?_) (fun h_162 => ?_)
                    · refine xv_il1 fL_does_173 ?_
                      refine xv_k fL_does_174 ?_
                      refine xv_ic_ne fL_does_176 (fun h_176 => ?_) (fun h_176 => ?_)
                      · refine xv_il1 fL_does_188 ?_
                        refine xv_k fL_does_189 ?_
                        refine xv_ic_ne fL_does_191 (fun h_191 => ?_) (fun h_191 => ?_)
                        · refine xv_il1 fL_does_203 ?_
                          refine xv_k fL_does_204 ?_
                          refine xv_ic_ne fL_does_206 (fun h_206 => ?_) (fun h_206 => ?_)
                          · refine xv_il1 fL_does_225 ?_
                            refine xv_k fL_does_226 ?_
                            refine xv_ic_ne fL_does_228 (fun h_228 => ?_) (fun h_228 => ?_)
                            · refine xv_il1 fL_does_240 ?_
                              refine xv_k fL_does_241 ?_
                              refine xv_ic_ne fL_does_243 (fun h_243 => ?_) (fun h_243 => ?_)
                              · refine xv_il1 fL_does_263 ?_
                                refine xv_k fL_does_264 ?_
                                refine xv_ic_ne fL_does_266 (fun h_266 => ?_) (fun h_266 => ?_)
                                · refine xv_il1 fL_does_285 ?_
                                  refine xv_k fL_does_286 ?_
                                  refine xv_ic_ne fL_does_288 (fun h_288 => ?_) (fun h_288 => ?_)
                                  · refine xv_il1 fL_does_298 ?_
                                    refine xv_k fL_does_299 ?_
                                    refine xv_ic_ne fL_does_301 (fun h_301 => ?_) (fun h_301 => ?_)
                                    · refine xv_il1 fL_does_315 ?_
                                      refine xv_k fL_does_316 ?_
                                      refine xv_ic_ne fL_does_318 (fun h_318 => ?_) (fun h_318 => ?_)
                                      · refine xv_il1 fL_does_330 ?_
                                        refine xv_k fL_does_331 ?_
                                        refine xv_ic_ne fL_does_333 (fun h_333 => ?_) (fun h_333 => ?_)
                                        · refine xv_il1 fL_does_343 ?_
                                          refine xv_k fL_does_344 ?_
                                          refine xv_ic_ne fL_does_346 (fun h_346 => ?_) (fun h_346 => ?_)
                                          · refine xv_al0 fL_does_357 ?_
                                            refine xv_il2 fL_does_358 ?_
                                            refine xv_callVH (As := [.int x1]) (S := []) (kc' := 0) (ks' := 0) hM fL_does_359 YX10_pass VX10_pass lL_83 rfl rfl (sx_0 _ _) rfl rfl (Nat.le_of_ble_eq_true rfl) (by decide) (by decide) (by decide) ?_ ?_
                                            · intro r s i rf j h _
                                              obtain ⟨h1, rfl, rfl, rfl, rfl⟩ := h
                                              cases h1
                                              exact xv_iret fL_does_362 rfl rfl xv_eq_i
                                            · intro E s i rf j h
                                              obtain ⟨h1, -⟩ := h
                                              cases h1
                                          · exact absurd h_346 (by decide)
                                        · exact absurd h_333 (by decide)
                                      · exact absurd h_318 (by decide)
                                    · exact absurd h_301 (by decide)
                                  · exact absurd h_288 (by decide)
                                · exact absurd h_266 (by decide)
                              · exact absurd h_243 (by decide)
                            · exact absurd h_228 (by decide)
                          · exact absurd h_206 (by decide)
                        · exact absurd h_191 (by decide)
                      · exact absurd h_176 (by decide)
                    · exact absurd h_162 (by decide)
                  · exact absurd h_148 (by decide)
                · exact absurd h_131 (by decide)
              · exact absurd h_117 (by decide)
            · exact absurd h_103 (by decide)
          · exact absurd h_90 (by decide)
        · exact absurd h_54 (by decide)
      · exact absurd h_40 (by decide)
    · exact absurd h_26 (by decide)
  · exact absurd h_1 (by decide)
theorem w_pass_I (n : Nat) (c c' : Nat × Nat) (J : xv_J) {I I' : xv_I} {x1 x2 x3 x4 x5 : Int32} (hM : xv_Met mX10_pass 8 16 128 (sx n c) I (rx c) J [.ref 0, .int x1] (xv_eq (.inr "java/lang/IndexOutOfBoundsException") (sx n c') I' (rx c') J)) : xv_Met mL_does 10 16 128 (sx n c) I (rx c) J [.ref 0, .int (nI 21), .int x1, .int x2, .int x3, .int x4, .int x5] (xv_eq (.inl (some (.int (-3000)))) (sx n c') I' (rx c') J) := by
  refine xv_Met.of (by decide +kernel) (Nat.le_of_ble_eq_true rfl) (List.forall_mem_cons.mpr ⟨rfl, List.forall_mem_cons.mpr ⟨rfl, List.forall_mem_cons.mpr ⟨rfl, List.forall_mem_cons.mpr ⟨rfl, List.forall_mem_cons.mpr ⟨rfl, List.forall_mem_cons.mpr ⟨rfl, List.forall_mem_cons.mpr ⟨rfl, fun _ h => nomatch h⟩⟩⟩⟩⟩⟩⟩) ?_
  show xv_W mL_does 10 16 128 _ 16 128 (sx n c) I (rx c) J 0 [some (.ref 0), some (.int (nI 21)), some (.int x1), some (.int x2), some (.int x3), some (.int x4), some (.int x5), none] []
  refine xv_il1 fL_does_0 ?_
  refine xv_if_ne fL_does_1 (fun h_1 => ?_) (fun h_1 => ?_)
  · refine xv_il1 fL_does_24 ?_
    refine xv_k fL_does_25 ?_
    refine xv_ic_ne fL_does_26 (fun h_26 => ?_) (fun h_26 => ?_)
    · refine xv_il1 fL_does_38 ?_
      refine xv_k fL_does_39 ?_
      refine xv_ic_ne fL_does_40 (fun h_40 => ?_) (fun h_40 => ?_)
      · refine xv_il1 fL_does_52 ?_
        refine xv_k fL_does_53 ?_
        refine xv_ic_ne fL_does_54 (fun h_54 => ?_) (fun h_54 => ?_)
        · refine xv_il1 fL_does_88 ?_
          refine xv_k fL_does_89 ?_
          refine xv_ic_ne fL_does_90 (fun h_90 => ?_) (fun h_90 => ?_)
          · refine xv_il1 fL_does_101 ?_
            refine xv_k fL_does_102 ?_
            refine xv_ic_ne fL_does_103 (fun h_103 => ?_) (fun h_103 => ?_)
            · refine xv_il1 fL_does_114 ?_
              refine xv_k fL_does_115 ?_
              refine xv_ic_ne fL_does_117 (fun h_117 => ?_) (fun h_117 => ?_)
              · refine xv_il1 fL_does_128 ?_
                refine xv_k fL_does_129 ?_
                refine xv_ic_ne fL_does_131 (fun h_131 => ?_) (fun h_131 => ?_)
                · refine xv_il1 fL_does_145 ?_
                  refine xv_k fL_does_146 ?_
                  refine xv_ic_ne fL_does_148 (fun h_148 => ?_) (fun h_148 => ?_)
                  · refine xv_il1 fL_does_159 ?_
                    refine xv_k fL_does_160 ?_
                    refine xv_ic_ne fL_does_162 (fun h_162 => ?_) (fun h_162 => ?_)
                    · refine xv_il1 fL_does_173 ?_
                      refine xv_k fL_does_174 ?_
                      refine xv_ic_ne fL_does_176 (fun h_176 => ?_) (fun h_176 => ?_)
                      · refine xv_il1 fL_does_188 ?_
                        refine xv_k fL_does_189 ?_
                        refine xv_ic_ne fL_does_191 (fun h_191 => ?_) (fun h_191 => ?_)
                        · refine xv_il1 fL_does_203 ?_
                          refine xv_k fL_does_204 ?_
                          refine xv_ic_ne fL_does_206 (fun h_206 => ?_) (fun h_206 => ?_)
                          · refine xv_il1 fL_does_225 ?_
                            refine xv_k fL_does_226 ?_
                            refine xv_ic_ne fL_does_228 (fun h_228 => ?_) (fun h_228 => ?_)
                            · refine xv_il1 fL_does_240 ?_
                              refine xv_k fL_does_241 ?_
                              refine xv_ic_ne fL_does_243 (fun h_243 => ?_) (fun h_243 => ?_)
                              · refine xv_il1 fL_does_263 ?_
                                refine xv_k fL_does_264 ?_
                                refine xv_ic_ne fL_does_266 (fun h_266 => ?_) (fun h_266 => ?_)
                                · refine xv_il1 fL_does_285 ?_
                                  refine xv_k fL_does_286 ?_
                                  refine xv_ic_ne fL_does_288 (fun h_288 => ?_) (fun h_288 => ?_)
                                  · refine xv_il1 fL_does_298 ?_
                                    refine xv_k fL_does_299 ?_
                                    refine xv_ic_ne fL_does_301 (fun h_301 => ?_) (fun h_301 => ?_)
                                    · refine xv_il1 fL_does_315 ?_
                                      refine xv_k fL_does_316 ?_
                                      refine xv_ic_ne fL_does_318 (fun h_318 => ?_) (fun h_318 => ?_)
                                      · refine xv_il1 fL_does_330 ?_
                                        refine xv_k fL_does_331 ?_
                                        refine xv_ic_ne fL_does_333 (fun h_333 => ?_) (fun h_333 => ?_)
                                        · refine xv_il1 fL_does_343 ?_
                                          refine xv_k fL_does_344 ?_
                                          refine xv_ic_ne fL_does_346 (fun h_346 => ?_) (fun h_346 => ?_)
                                          · refine xv_al0 fL_does_357 ?_
                                            refine xv_il2 fL_does_358 ?_
                                            refine xv_callVH (As := [.int x1]) (S := []) (kc' := 0) (ks' := 0) hM fL_does_359 YX10_pass VX10_pass lL_83 rfl rfl (sx_0 _ _) rfl rfl (Nat.le_of_ble_eq_true rfl) (by decide) (by decide) (by decide) ?_ ?_
                                            · intro r s i rf j h _
                                              obtain ⟨h1, -⟩ := h
                                              cases h1
                                            · intro E s i rf j h
                                              obtain ⟨h1, rfl, rfl, rfl, rfl⟩ := h
                                              cases h1
                                              exact ⟨_, hn_359_I, xv_eq_i⟩
                                          · exact absurd h_346 (by decide)
                                        · exact absurd h_333 (by decide)
                                      · exact absurd h_318 (by decide)
                                    · exact absurd h_301 (by decide)
                                  · exact absurd h_288 (by decide)
                                · exact absurd h_266 (by decide)
                              · exact absurd h_243 (by decide)
                            · exact absurd h_228 (by decide)
                          · exact absurd h_206 (by decide)
                        · exact absurd h_191 (by decide)
                      · exact absurd h_176 (by decide)
                    · exact absurd h_162 (by decide)
                  · exact absurd h_148 (by decide)
                · exact absurd h_131 (by decide)
              · exact absurd h_117 (by decide)
            · exact absurd h_103 (by decide)
          · exact absurd h_90 (by decide)
        · exact absurd h_54 (by decide)
      · exact absurd h_40 (by decide)
    · exact absurd h_26 (by decide)
  · exact absurd h_1 (by decide)
theorem w_pass_A (n : Nat) (c c' : Nat × Nat) (J : xv_J) {I I' : xv_I} {x1 x2 x3 x4 x5 : Int32} (hM : xv_Met mX10_pass 8 16 128 (sx n c) I (rx c) J [.ref 0, .int x1] (xv_eq (.inr "java/lang/IllegalArgumentException") (sx n c') I' (rx c') J)) : xv_Met mL_does 10 16 128 (sx n c) I (rx c) J [.ref 0, .int (nI 21), .int x1, .int x2, .int x3, .int x4, .int x5] (xv_eq (.inl (some (.int (-2000)))) (sx n c') I' (rx c') J) := by
  refine xv_Met.of (by decide +kernel) (Nat.le_of_ble_eq_true rfl) (List.forall_mem_cons.mpr ⟨rfl, List.forall_mem_cons.mpr ⟨rfl, List.forall_mem_cons.mpr ⟨rfl, List.forall_mem_cons.mpr ⟨rfl, List.forall_mem_cons.mpr ⟨rfl, List.forall_mem_cons.mpr ⟨rfl, List.forall_mem_cons.mpr ⟨rfl, fun _ h => nomatch h⟩⟩⟩⟩⟩⟩⟩) ?_
  show xv_W mL_does 10 16 128 _ 16 128 (sx n c) I (rx c) J 0 [some (.ref 0), some (.int (nI 21)), some (.int x1), some (.int x2), some (.int x3), some (.int x4), some (.int x5), none] []
  refine xv_il1 fL_does_0 ?_
  refine xv_if_ne fL_does_1 (fun h_1 => ?_) (fun h_1 => ?_)
  · refine xv_il1 fL_does_24 ?_
    refine xv_k fL_does_25 ?_
    refine xv_ic_ne fL_does_26 (fun h_26 => ?_) (fun h_26 => ?_)
    · refine xv_il1 fL_does_38 ?_
      refine xv_k fL_does_39 ?_
      refine xv_ic_ne fL_does_40 (fun h_40 => ?_) (fun h_40 => ?_)
      · refine xv_il1 fL_does_52 ?_
        refine xv_k fL_does_53 ?_
        refine xv_ic_ne fL_does_54 (fun h_54 => ?_) (fun h_54 => ?_)
        · refine xv_il1 fL_does_88 ?_
          refine xv_k fL_does_89 ?_
          refine xv_ic_ne fL_does_90 (fun h_90 => ?_) (fun h_90 => ?_)
          · refine xv_il1 fL_does_101 ?_
            refine xv_k fL_does_102 ?_
            refine xv_ic_ne fL_does_103 (fun h_103 => ?_) (fun h_103 => ?_)
            · refine xv_il1 fL_does_114 ?_
              refine xv_k fL_does_115 ?_
              refine xv_ic_ne fL_does_117 (fun h_117 => ?_) (fun h_117 => ?_)
              · refine xv_il1 fL_does_128 ?_
                refine xv_k fL_does_129 ?_
                refine xv_ic_ne fL_does_131 (fun h_131 => ?_) (fun h_131 => ?_)
                · refine xv_il1 fL_does_145 ?_
                  refine xv_k fL_does_146 ?_
                  refine xv_ic_ne fL_does_148 (fun h_148 => ?_) (fun h_148 => ?_)
                  · refine xv_il1 fL_does_159 ?_
                    refine xv_k fL_does_160 ?_
                    refine xv_ic_ne fL_does_162 (fun h_162 => ?_) (fun h_162 => ?_)
                    · refine xv_il1 fL_does_173 ?_
                      refine xv_k fL_does_174 ?_
                      refine xv_ic_ne fL_does_176 (fun h_176 => ?_) (fun h_176 => ?_)
                      · refine xv_il1 fL_does_188 ?_
                        refine xv_k fL_does_189 ?_
                        refine xv_ic_ne fL_does_191 (fun h_191 => ?_) (fun h_191 => ?_)
                        · refine xv_il1 fL_does_203 ?_
                          refine xv_k fL_does_204 ?_
                          refine xv_ic_ne fL_does_206 (fun h_206 => ?_) (fun h_206 => ?_)
                          · refine xv_il1 fL_does_225 ?_
                            refine xv_k fL_does_226 ?_
                            refine xv_ic_ne fL_does_228 (fun h_228 => ?_) (fun h_228 => ?_)
                            · refine xv_il1 fL_does_240 ?_
                              refine xv_k fL_does_241 ?_
                              refine xv_ic_ne fL_does_243 (fun h_243 => ?_) (fun h_243 => ?_)
                              · refine xv_il1 fL_does_263 ?_
                                refine xv_k fL_does_264 ?_
                                refine xv_ic_ne fL_does_266 (fun h_266 => ?_) (fun h_266 => ?_)
                                · refine xv_il1 fL_does_285 ?_
                                  refine xv_k fL_does_286 ?_
                                  refine xv_ic_ne fL_does_288 (fun h_288 => ?_) (fun h_288 => ?_)
                                  · refine xv_il1 fL_does_298 ?_
                                    refine xv_k fL_does_299 ?_
                                    refine xv_ic_ne fL_does_301 (fun h_301 => ?_) (fun h_301 => ?_)
                                    · refine xv_il1 fL_does_315 ?_
                                      refine xv_k fL_does_316 ?_
                                      refine xv_ic_ne fL_does_318 (fun h_318 => ?_) (fun h_318 => ?_)
                                      · refine xv_il1 fL_does_330 ?_
                                        refine xv_k fL_does_331 ?_
                                        refine xv_ic_ne fL_does_333 (fun h_333 => ?_) (fun h_333 => ?_)
                                        · refine xv_il1 fL_does_343 ?_
                                          refine xv_k fL_does_344 ?_
                                          refine xv_ic_ne fL_does_346 (fun h_346 => ?_) (fun h_346 => ?_)
                                          · refine xv_al0 fL_does_357 ?_
                                            refine xv_il2 fL_does_358 ?_
                                            refine xv_callVH (As := [.int x1]) (S := []) (kc' := 0) (ks' := 0) hM fL_does_359 YX10_pass VX10_pass lL_83 rfl rfl (sx_0 _ _) rfl rfl (Nat.le_of_ble_eq_true rfl) (by decide) (by decide) (by decide) ?_ ?_
                                            · intro r s i rf j h _
                                              obtain ⟨h1, -⟩ := h
                                              cases h1
                                            · intro E s i rf j h
                                              obtain ⟨h1, rfl, rfl, rfl, rfl⟩ := h
                                              cases h1
                                              exact ⟨_, hn_359_A, xv_eq_i⟩
                                          · exact absurd h_346 (by decide)
                                        · exact absurd h_333 (by decide)
                                      · exact absurd h_318 (by decide)
                                    · exact absurd h_301 (by decide)
                                  · exact absurd h_288 (by decide)
                                · exact absurd h_266 (by decide)
                              · exact absurd h_243 (by decide)
                            · exact absurd h_228 (by decide)
                          · exact absurd h_206 (by decide)
                        · exact absurd h_191 (by decide)
                      · exact absurd h_176 (by decide)
                    · exact absurd h_162 (by decide)
                  · exact absurd h_148 (by decide)
                · exact absurd h_131 (by decide)
              · exact absurd h_117 (by decide)
            · exact absurd h_103 (by decide)
          · exact absurd h_90 (by decide)
        · exact absurd h_54 (by decide)
      · exact absurd h_40 (by decide)
    · exact absurd h_26 (by decide)
  · exact absurd h_1 (by decide)
theorem w_pass_S (n : Nat) (c c' : Nat × Nat) (J : xv_J) {I I' : xv_I} {x1 x2 x3 x4 x5 : Int32} (hM : xv_Met mX10_pass 8 16 128 (sx n c) I (rx c) J [.ref 0, .int x1] (xv_eq (.inr "java/lang/IllegalStateException") (sx n c') I' (rx c') J)) : xv_Met mL_does 10 16 128 (sx n c) I (rx c) J [.ref 0, .int (nI 21), .int x1, .int x2, .int x3, .int x4, .int x5] (xv_eq (.inl (some (.int (-1000)))) (sx n c') I' (rx c') J) := by
  refine xv_Met.of (by decide +kernel) (Nat.le_of_ble_eq_true rfl) (List.forall_mem_cons.mpr ⟨rfl, List.forall_mem_cons.mpr ⟨rfl, List.forall_mem_cons.mpr ⟨rfl, List.forall_mem_cons.mpr ⟨rfl, List.forall_mem_cons.mpr ⟨rfl, List.forall_mem_cons.mpr ⟨rfl, List.forall_mem_cons.mpr ⟨rfl, fun _ h => nomatch h⟩⟩⟩⟩⟩⟩⟩) ?_
  show xv_W mL_does 10 16 128 _ 16 128 (sx n c) I (rx c) J 0 [some (.ref 0), some (.int (nI 21)), some (.int x1), some (.int x2), some (.int x3), some (.int x4), some (.int x5), none] []
  refine xv_il1 fL_does_0 ?_
  refine xv_if_ne fL_does_1 (fun h_1 => ?_) (fun h_1 => ?_)
  · refine xv_il1 fL_does_24 ?_
    refine xv_k fL_does_25 ?_
    refine xv_ic_ne fL_does_26 (fun h_26 => ?_) (fun h_26 => ?_)
    · refine xv_il1 fL_does_38 ?_
      refine xv_k fL_does_39 ?_
      refine xv_ic_ne fL_does_40 (fun h_40 => ?_) (fun h_40 => ?_)
      · refine xv_il1 fL_does_52 ?_
        refine xv_k fL_does_53 ?_
        refine xv_ic_ne fL_does_54 (fun h_54 => ?_) (fun h_54 => ?_)
        · refine xv_il1 fL_does_88 ?_
          refine xv_k fL_does_89 ?_
          refine xv_ic_ne fL_does_90 (fun h_90 => ?_) (fun h_90 => ?_)
          · refine xv_il1 fL_does_101 ?_
            refine xv_k fL_does_102 ?_
            refine xv_ic_ne fL_does_103 (fun h_103 => ?_) (fun h_103 => ?_)
            · refine xv_il1 fL_does_114 ?_
              refine xv_k fL_does_115 ?_
              refine xv_ic_ne fL_does_117 (fun h_117 => ?_) (fun h_117 => ?_)
              · refine xv_il1 fL_does_128 ?_
                refine xv_k fL_does_129 ?_
                refine xv_ic_ne fL_does_131 (fun h_131 => ?_) (fun h_131 => ?_)
                · refine xv_il1 fL_does_145 ?_
                  refine xv_k fL_does_146 ?_
                  refine xv_ic_ne fL_does_148 (fun h_148 => ?_) (fun h_148 => ?_)
                  · refine xv_il1 fL_does_159 ?_
                    refine xv_k fL_does_160 ?_
                    refine xv_ic_ne fL_does_162 (fun h_162 => ?_) (fun h_162 => ?_)
                    · refine xv_il1 fL_does_173 ?_
                      refine xv_k fL_does_174 ?_
                      refine xv_ic_ne fL_does_176 (fun h_176 => ?_) (fun h_176 => ?_)
                      · refine xv_il1 fL_does_188 ?_
                        refine xv_k fL_does_189 ?_
                        refine xv_ic_ne fL_does_191 (fun h_191 => ?_) (fun h_191 => ?_)
                        · refine xv_il1 fL_does_203 ?_
                          refine xv_k fL_does_204 ?_
                          refine xv_ic_ne fL_does_206 (fun h_206 => ?_) (fun h_206 => ?_)
                          · refine xv_il1 fL_does_225 ?_
                            refine xv_k fL_does_226 ?_
                            refine xv_ic_ne fL_does_228 (fun h_228 => ?_) (fun h_228 => ?_)
                            · refine xv_il1 fL_does_240 ?_
                              refine xv_k fL_does_241 ?_
                              refine xv_ic_ne fL_does_243 (fun h_243 => ?_) (fun h_243 => ?_)
                              · refine xv_il1 fL_does_263 ?_
                                refine xv_k fL_does_264 ?_
                                refine xv_ic_ne fL_does_266 (fun h_266 => ?_) (fun h_266 => ?_)
                                · refine xv_il1 fL_does_285 ?_
                                  refine xv_k fL_does_286 ?_
                                  refine xv_ic_ne fL_does_288 (fun h_288 => ?_) (fun h_288 => ?_)
                                  · refine xv_il1 fL_does_298 ?_
                                    refine xv_k fL_does_299 ?_
                                    refine xv_ic_ne fL_does_301 (fun h_301 => ?_) (fun h_301 => ?_)
                                    · refine xv_il1 fL_does_315 ?_
                                      refine xv_k fL_does_316 ?_
                                      refine xv_ic_ne fL_does_318 (fun h_318 => ?_) (fun h_318 => ?_)
                                      · refine xv_il1 fL_does_330 ?_
                                        refine xv_k fL_does_331 ?_
                                        refine xv_ic_ne fL_does_333 (fun h_333 => ?_) (fun h_333 => ?_)
                                        · refine xv_il1 fL_does_343 ?_
                                          refine xv_k fL_does_344 ?_
                                          refine xv_ic_ne fL_does_346 (fun h_346 => ?_) (fun h_346 => ?_)
                                          · refine xv_al0 fL_does_357 ?_
                                            refine xv_il2 fL_does_358 ?_
                                            refine xv_callVH (As := [.int x1]) (S := []) (kc' := 0) (ks' := 0) hM fL_does_359 YX10_pass VX10_pass lL_83 rfl rfl (sx_0 _ _) rfl rfl (Nat.le_of_ble_eq_true rfl) (by decide) (by decide) (by decide) ?_ ?_
                                            · intro r s i rf j h _
                                              obtain ⟨h1, -⟩ := h
                                              cases h1
                                            · intro E s i rf j h
                                              obtain ⟨h1, rfl, rfl, rfl, rfl⟩ := h
                                              cases h1
                                              exact ⟨_, hn_359_S, xv_eq_i⟩
                                          · exact absurd h_346 (by decide)
                                        · exact absurd h_333 (by decide)
                                      · exact absurd h_318 (by decide)
                                    · exact absurd h_301 (by decide)
                                  · exact absurd h_288 (by decide)
                                · exact absurd h_266 (by decide)
                              · exact absurd h_243 (by decide)
                            · exact absurd h_228 (by decide)
                          · exact absurd h_206 (by decide)
                        · exact absurd h_191 (by decide)
                      · exact absurd h_176 (by decide)
                    · exact absurd h_162 (by decide)
                  · exact absurd h_148 (by decide)
                · exact absurd h_131 (by decide)
              · exact absurd h_117 (by decide)
            · exact absurd h_103 (by decide)
          · exact absurd h_90 (by decide)
        · exact absurd h_54 (by decide)
      · exact absurd h_40 (by decide)
    · exact absurd h_26 (by decide)
  · exact absurd h_1 (by decide)
