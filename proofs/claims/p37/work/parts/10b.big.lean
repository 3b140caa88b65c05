set_option maxRecDepth 1000000 in
theorem YL_areCells : xv_Y mL_areCells 9 := ⟨(xv_tbl_mem 831 (by rfl) rfl), (xv_tbl_mem 0 (by decide +kernel) rfl), by decide +kernel, by decide +kernel, by decide +kernel, by decide⟩
set_option maxRecDepth 1000000 in
theorem YL_isAdvert : xv_Y mL_isAdvert 11 := ⟨(xv_tbl_mem 843 (by rfl) rfl), (xv_tbl_mem 0 (by decide +kernel) rfl), by decide +kernel, by decide +kernel, by decide +kernel, by decide⟩
set_option maxRecDepth 1000000 in
theorem YL_isStory : xv_Y mL_isStory 6 := ⟨(xv_tbl_mem 853 (by rfl) rfl), (xv_tbl_mem 0 (by decide +kernel) rfl), by decide +kernel, by decide +kernel, by decide +kernel, by decide⟩
set_option maxRecDepth 1000000 in
theorem YL_isClosed : xv_Y mL_isClosed 11 := ⟨(xv_tbl_mem 868 (by rfl) rfl), (xv_tbl_mem 0 (by decide +kernel) rfl), by decide +kernel, by decide +kernel, by decide +kernel, by decide⟩
