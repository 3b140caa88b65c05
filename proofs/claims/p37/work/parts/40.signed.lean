theorem g_sign_a (n : Nat) (c : Nat × Nat) (I : xv_I) (J : xv_J) {one two p q : Nat} (h1 : one < 2 ^ 31) (h2 : two < 2 ^ 31) (ep : one % 11 = p) (eq : two % 7 = q) (hn : n < 1000) (hI : Inv c I) (hp : 10 ≤ p) : xv_Met mL_isSigned 11 32 256 (sx n c) I (rx c) J [.ref 0, .ref 64, .ref 69, .int (nI 0), .int (nI one), .int (nI two)] (qI n J) := by
  have hp11 : p < 11 := by omega
  have hq7 : q < 7 := by omega
  obtain ⟨B, hB, g5, hg5⟩ := hI.here
  refine xv_Met.of (by decide +kernel) (Nat.le_of_ble_eq_true rfl) (List.forall_mem_cons.mpr ⟨rfl, List.forall_mem_cons.mpr ⟨rfl, List.forall_mem_cons.mpr ⟨rfl, List.forall_mem_cons.mpr ⟨rfl, List.forall_mem_cons.mpr ⟨rfl, List.forall_mem_cons.mpr ⟨rfl, fun _ h => nomatch h⟩⟩⟩⟩⟩⟩) ?_
  show xv_W mL_isSigned 11 32 256 _ 32 256 (sx n c) I (rx c) J 0 [some (.ref 0), some (.ref 64), some (.ref 69), some (.int (nI 0)), some (.int (nI one)), some (.int (nI two)), none, none, none, none, none, none] []
  refine xv_il4 fL_isSigned_0 ?_
  refine xv_k fL_isSigned_2 ?_
  refine xv_irem fL_isSigned_4 (by decide) ?_
  refine xv_eqi (y := nI p) (by rw [nI_rem h1 (by decide), ep]) ?_
  refine xv_is6 fL_isSigned_5 ?_
  refine xv_il5 fL_isSigned_7 ?_
  refine xv_k fL_isSigned_9 ?_
  refine xv_irem fL_isSigned_11 (by decide) ?_
  refine xv_eqi (y := nI q) (by rw [nI_rem h2 (by decide), eq]) ?_
  refine xv_is7 fL_isSigned_12 ?_
  refine xv_il6 fL_isSigned_14 ?_
  refine xv_k fL_isSigned_16 ?_
  refine xv_ic_ge fL_isSigned_18 (fun h_18 => ?_) (fun h_18 => ?_)
  · refine xv_k fL_isSigned_32 ?_
    refine xv_is8 fL_isSigned_33 ?_
    refine xv_il7 fL_isSigned_35 ?_
    refine xv_k fL_isSigned_37 ?_
    refine xv_ic_ge fL_isSigned_39 (fun h_39 => ?_) (fun h_39 => ?_)
    · refine xv_k fL_isSigned_58 ?_
      refine xv_is9 fL_isSigned_59 ?_
      refine xv_il3 fL_isSigned_61 ?_
      refine xv_if_ne fL_isSigned_62 (fun h_62 => ?_) (fun h_62 => ?_)
      · exact absurd h_62 (by decide)
      · refine xv_al0 fL_isSigned_65 ?_
        refine xv_k fL_isSigned_66 ?_
        refine xv_il6 fL_isSigned_68 ?_
        refine xv_il7 fL_isSigned_70 ?_
        refine xv_k fL_isSigned_72 ?_
        refine xv_k fL_isSigned_73 ?_
        refine xv_k fL_isSigned_74 ?_
        refine xv_callS7R (w_sign_I n c c J (p_sign_a n c I J (x := nI p) (fun z => z.2 (nI_le (by omega) (by omega))) (y := nI q))) fL_isSigned_75 YL_does VL_does lL_113 rfl (Nat.le_of_ble_eq_true rfl) (by decide) (by decide) (by decide) ?_
        refine xv_is10 fL_isSigned_78 ?_
        refine xv_il8 fL_isSigned_80 ?_
        refine xv_if_eq fL_isSigned_82 (fun h_82 => ?_) (fun h_82 => ?_)
        · refine xv_il10 fL_isSigned_103 ?_
          refine xv_il8 fL_isSigned_105 ?_
          refine xv_if_eq fL_isSigned_107 (fun h_107 => ?_) (fun h_107 => ?_)
          · refine xv_k fL_isSigned_116 ?_
            refine xv_ic_ne fL_isSigned_119 (fun h_119 => ?_) (fun h_119 => ?_)
            · exact absurd rfl h_119
            · refine xv_k fL_isSigned_122 ?_
              refine xv_goto fL_isSigned_123 ?_
              exact xv_iret fL_isSigned_127 rfl rfl ⟨rfl, c, rfl, rfl, rfl, hI⟩
          · exact absurd h_107 (by decide)
        · exact absurd h_82 (by decide)
    · refine xv_al2 fL_isSigned_42 ?_
      refine xv_k fL_isSigned_43 ?_
      refine xv_ialdN fL_isSigned_44 (sx_69 _ _) (⟨by decide, by decide⟩) ?_
      rw [hg5]
      refine xv_il7 fL_isSigned_45 ?_
      refine xv_ishr fL_isSigned_47 ?_
      refine xv_k fL_isSigned_48 ?_
      refine xv_iand fL_isSigned_49 ?_
      refine xv_eqi (y := if (B ^^^ 63).testBit q = true then nI 1 else nI 0) (shL _ (t63 B hB).1 q (len_of (by decide) (by omega) h_39)) ?_
      refine xv_k fL_isSigned_50 ?_
      refine xv_ic_ne fL_isSigned_51 (fun h_51 => ?_) (fun h_51 => ?_)
      · refine xv_k fL_isSigned_58 ?_
        refine xv_is9 fL_isSigned_59 ?_
        refine xv_il3 fL_isSigned_61 ?_
        refine xv_if_ne fL_isSigned_62 (fun h_62 => ?_) (fun h_62 => ?_)
        · exact absurd h_62 (by decide)
        · refine xv_al0 fL_isSigned_65 ?_
          refine xv_k fL_isSigned_66 ?_
          refine xv_il6 fL_isSigned_68 ?_
          refine xv_il7 fL_isSigned_70 ?_
          refine xv_k fL_isSigned_72 ?_
          refine xv_k fL_isSigned_73 ?_
          refine xv_k fL_isSigned_74 ?_
          refine xv_callS7R (w_sign_I n c c J (p_sign_a n c I J (x := nI p) (fun z => z.2 (nI_le (by omega) (by omega))) (y := nI q))) fL_isSigned_75 YL_does VL_does lL_113 rfl (Nat.le_of_ble_eq_true rfl) (by decide) (by decide) (by decide) ?_
          refine xv_is10 fL_isSigned_78 ?_
          refine xv_il8 fL_isSigned_80 ?_
          refine xv_if_eq fL_isSigned_82 (fun h_82 => ?_) (fun h_82 => ?_)
          · refine xv_il10 fL_isSigned_103 ?_
            refine xv_il8 fL_isSigned_105 ?_
            refine xv_if_eq fL_isSigned_107 (fun h_107 => ?_) (fun h_107 => ?_)
            · refine xv_k fL_isSigned_116 ?_
              refine xv_ic_ne fL_isSigned_119 (fun h_119 => ?_) (fun h_119 => ?_)
              · exact absurd rfl h_119
              · refine xv_k fL_isSigned_122 ?_
                refine xv_goto fL_isSigned_123 ?_
                exact xv_iret fL_isSigned_127 rfl rfl ⟨rfl, c, rfl, rfl, rfl, hI⟩
            · exact absurd h_107 (by decide)
          · exact absurd h_82 (by decide)
      · refine xv_k fL_isSigned_54 ?_
        refine xv_goto fL_isSigned_55 ?_
        refine xv_is9 fL_isSigned_59 ?_
        refine xv_il3 fL_isSigned_61 ?_
        refine xv_if_ne fL_isSigned_62 (fun h_62 => ?_) (fun h_62 => ?_)
        · exact absurd h_62 (by decide)
        · refine xv_al0 fL_isSigned_65 ?_
          refine xv_k fL_isSigned_66 ?_
          refine xv_il6 fL_isSigned_68 ?_
          refine xv_il7 fL_isSigned_70 ?_
          refine xv_k fL_isSigned_72 ?_
          refine xv_k fL_isSigned_73 ?_
          refine xv_k fL_isSigned_74 ?_
          refine xv_callS7R (w_sign_I n c c J (p_sign_a n c I J (x := nI p) (fun z => z.2 (nI_le (by omega) (by omega))) (y := nI q))) fL_isSigned_75 YL_does VL_does lL_113 rfl (Nat.le_of_ble_eq_true rfl) (by decide) (by decide) (by decide) ?_
          refine xv_is10 fL_isSigned_78 ?_
          refine xv_il8 fL_isSigned_80 ?_
          refine xv_if_eq fL_isSigned_82 (fun h_82 => ?_) (fun h_82 => ?_)
          · refine xv_il10 fL_isSigned_103 ?_
            refine xv_il8 fL_isSigned_105 ?_
            refine xv_if_eq fL_isSigned_107 (fun h_107 => ?_) (fun h_107 => ?_)
            · refine xv_k fL_isSigned_116 ?_
              refine xv_ic_ne fL_isSigned_119 (fun h_119 => ?_) (fun h_119 => ?_)
              · exact absurd rfl h_119
              · refine xv_k fL_isSigned_122 ?_
                refine xv_goto fL_isSigned_123 ?_
                exact xv_iret fL_isSigned_127 rfl rfl ⟨rfl, c, rfl, rfl, rfl, hI⟩
            · exact absurd h_107 (by decide)
          · exact absurd h_82 (by decide)
  · exact absurd ((nI_leI (by omega) (by omega)).mpr (by omega)) h_18
theorem g_sign_b (n : Nat) (c : Nat × Nat) (I : xv_I) (J : xv_J) {one two p q : Nat} (h1 : one < 2 ^ 31) (h2 : two < 2 ^ 31) (ep : one % 11 = p) (eq : two % 7 = q) (hn : n < 1000) (hI : Inv c I) (hp : p < 10) (hq : 6 ≤ q) : xv_Met mL_isSigned 11 32 256 (sx n c) I (rx c) J [.ref 0, .ref 64, .ref 69, .int (nI 0), .int (nI one), .int (nI two)] (qI n J) := by
  have hp11 : p < 11 := by omega
  have hq7 : q < 7 := by omega
  obtain ⟨B, hB, g5, hg5⟩ := hI.here
  refine xv_Met.of (by decide +kernel) (Nat.le_of_ble_eq_true rfl) (List.forall_mem_cons.mpr ⟨rfl, List.forall_mem_cons.mpr ⟨rfl, List.forall_mem_cons.mpr ⟨rfl, List.forall_mem_cons.mpr ⟨rfl, List.forall_mem_cons.mpr ⟨rfl, List.forall_mem_cons.mpr ⟨rfl, fun _ h => nomatch h⟩⟩⟩⟩⟩⟩) ?_
  show xv_W mL_isSigned 11 32 256 _ 32 256 (sx n c) I (rx c) J 0 [some (.ref 0), some (.ref 64), some (.ref 69), some (.int (nI 0)), some (.int (nI one)), some (.int (nI two)), none, none, none, none, none, none] []
  refine xv_il4 fL_isSigned_0 ?_
  refine xv_k fL_isSigned_2 ?_
  refine xv_irem fL_isSigned_4 (by decide) ?_
  refine xv_eqi (y := nI p) (by rw [nI_rem h1 (by decide), ep]) ?_
  refine xv_is6 fL_isSigned_5 ?_
  refine xv_il5 fL_isSigned_7 ?_
  refine xv_k fL_isSigned_9 ?_
  refine xv_irem fL_isSigned_11 (by decide) ?_
  refine xv_eqi (y := nI q) (by rw [nI_rem h2 (by decide), eq]) ?_
  refine xv_is7 fL_isSigned_12 ?_
  refine xv_il6 fL_isSigned_14 ?_
  refine xv_k fL_isSigned_16 ?_
  refine xv_ic_ge fL_isSigned_18 (fun h_18 => ?_) (fun h_18 => ?_)
  · exact absurd ((nI_leI (by omega) (by omega)).mp h_18) (by omega)
  · refine xv_il7 fL_isSigned_21 ?_
    refine xv_k fL_isSigned_23 ?_
    refine xv_ic_ge fL_isSigned_25 (fun h_25 => ?_) (fun h_25 => ?_)
    · refine xv_k fL_isSigned_32 ?_
      refine xv_is8 fL_isSigned_33 ?_
      refine xv_il7 fL_isSigned_35 ?_
      refine xv_k fL_isSigned_37 ?_
      refine xv_ic_ge fL_isSigned_39 (fun h_39 => ?_) (fun h_39 => ?_)
      · refine xv_k fL_isSigned_58 ?_
        refine xv_is9 fL_isSigned_59 ?_
        refine xv_il3 fL_isSigned_61 ?_
        refine xv_if_ne fL_isSigned_62 (fun h_62 => ?_) (fun h_62 => ?_)
        · exact absurd h_62 (by decide)
        · refine xv_al0 fL_isSigned_65 ?_
          refine xv_k fL_isSigned_66 ?_
          refine xv_il6 fL_isSigned_68 ?_
          refine xv_il7 fL_isSigned_70 ?_
          refine xv_k fL_isSigned_72 ?_
          refine xv_k fL_isSigned_73 ?_
          refine xv_k fL_isSigned_74 ?_
          refine xv_callS7R (w_sign_I n c c J (p_sign_b n c I J hp (x := nI q) (Or.inr (nI_nlt (by omega) (by omega))))) fL_isSigned_75 YL_does VL_does lL_113 rfl (Nat.le_of_ble_eq_true rfl) (by decide) (by decide) (by decide) ?_
          refine xv_is10 fL_isSigned_78 ?_
          refine xv_il8 fL_isSigned_80 ?_
          refine xv_if_eq fL_isSigned_82 (fun h_82 => ?_) (fun h_82 => ?_)
          · refine xv_il10 fL_isSigned_103 ?_
            refine xv_il8 fL_isSigned_105 ?_
            refine xv_if_eq fL_isSigned_107 (fun h_107 => ?_) (fun h_107 => ?_)
            · refine xv_k fL_isSigned_116 ?_
              refine xv_ic_ne fL_isSigned_119 (fun h_119 => ?_) (fun h_119 => ?_)
              · exact absurd rfl h_119
              · refine xv_k fL_isSigned_122 ?_
                refine xv_goto fL_isSigned_123 ?_
                exact xv_iret fL_isSigned_127 rfl rfl ⟨rfl, c, rfl, rfl, rfl, hI⟩
            · exact absurd h_107 (by decide)
          · exact absurd h_82 (by decide)
      · exact absurd ((nI_leI (by omega) (by omega)).mpr (by omega)) h_39
    · exact absurd ((nI_leI (by omega) (by omega)).mpr (by omega)) h_25
theorem g_sign_c (n : Nat) (c : Nat × Nat) (I : xv_I) (J : xv_J) {one two p q : Nat} (h1 : one < 2 ^ 31) (h2 : two < 2 ^ 31) (ep : one % 11 = p) (eq : two % 7 = q) (hn : n < 1000) (hI : Inv c I) (hp : p < 10) (hq : q < 6) (hT : ∀ B, B < 64 → I 1 5 = nI B → B.testBit q = false) : xv_Met mL_isSigned 11 32 256 (sx n c) I (rx c) J [.ref 0, .ref 64, .ref 69, .int (nI 0), .int (nI one), .int (nI two)] (qI n J) := by
  have hp11 : p < 11 := by omega
  have hq7 : q < 7 := by omega
  obtain ⟨B, hB, g5, hg5⟩ := hI.here
  have hq6 : q < 6 := by omega
  have t6 := (t63 B hB).2 q hq6
  have hT := hT B hB g5
  refine xv_Met.of (by decide +kernel) (Nat.le_of_ble_eq_true rfl) (List.forall_mem_cons.mpr ⟨rfl, List.forall_mem_cons.mpr ⟨rfl, List.forall_mem_cons.mpr ⟨rfl, List.forall_mem_cons.mpr ⟨rfl, List.forall_mem_cons.mpr ⟨rfl, List.forall_mem_cons.mpr ⟨rfl, fun _ h => nomatch h⟩⟩⟩⟩⟩⟩) ?_
  show xv_W mL_isSigned 11 32 256 _ 32 256 (sx n c) I (rx c) J 0 [some (.ref 0), some (.ref 64), some (.ref 69), some (.int (nI 0)), some (.int (nI one)), some (.int (nI two)), none, none, none, none, none, none] []
  refine xv_il4 fL_isSigned_0 ?_
  refine xv_k fL_isSigned_2 ?_
  refine xv_irem fL_isSigned_4 (by decide) ?_
  refine xv_eqi (y := nI p) (by rw [nI_rem h1 (by decide), ep]) ?_
  refine xv_is6 fL_isSigned_5 ?_
  refine xv_il5 fL_isSigned_7 ?_
  refine xv_k fL_isSigned_9 ?_
  refine xv_irem fL_isSigned_11 (by decide) ?_
  refine xv_eqi (y := nI q) (by rw [nI_rem h2 (by decide), eq]) ?_
  refine xv_is7 fL_isSigned_12 ?_
  refine xv_il6 fL_isSigned_14 ?_
  refine xv_k fL_isSigned_16 ?_
  refine xv_ic_ge fL_isSigned_18 (fun h_18 => ?_) (fun h_18 => ?_)
  · exact absurd ((nI_leI (by omega) (by omega)).mp h_18) (by omega)
  · refine xv_il7 fL_isSigned_21 ?_
    refine xv_k fL_isSigned_23 ?_
    refine xv_ic_ge fL_isSigned_25 (fun h_25 => ?_) (fun h_25 => ?_)
    · exact absurd ((nI_leI (by omega) (by omega)).mp h_25) (by omega)
    · refine xv_k fL_isSigned_28 ?_
      refine xv_goto fL_isSigned_29 ?_
      refine xv_is8 fL_isSigned_33 ?_
      refine xv_il7 fL_isSigned_35 ?_
      refine xv_k fL_isSigned_37 ?_
      refine xv_ic_ge fL_isSigned_39 (fun h_39 => ?_) (fun h_39 => ?_)
      · exact absurd ((nI_leI (by omega) (by omega)).mp h_39) (by omega)
      · refine xv_al2 fL_isSigned_42 ?_
        refine xv_k fL_isSigned_43 ?_
        refine xv_ialdN fL_isSigned_44 (sx_69 _ _) (⟨by decide, by decide⟩) ?_
        rw [hg5]
        refine xv_il7 fL_isSigned_45 ?_
        refine xv_ishr fL_isSigned_47 ?_
        refine xv_k fL_isSigned_48 ?_
        refine xv_iand fL_isSigned_49 ?_
        refine xv_eqi (y := if (B ^^^ 63).testBit q = true then nI 1 else nI 0) (shL _ (t63 B hB).1 q (len_of (by decide) (by omega) h_39)) ?_
        refine xv_k fL_isSigned_50 ?_
        refine xv_ic_ne fL_isSigned_51 (fun h_51 => ?_) (fun h_51 => ?_)
        · exact absurd (by rw [t6, hT]; rfl) h_51
        · refine xv_k fL_isSigned_54 ?_
          refine xv_goto fL_isSigned_55 ?_
          refine xv_is9 fL_isSigned_59 ?_
          refine xv_il3 fL_isSigned_61 ?_
          refine xv_if_ne fL_isSigned_62 (fun h_62 => ?_) (fun h_62 => ?_)
          · exact absurd h_62 (by decide)
          · refine xv_al0 fL_isSigned_65 ?_
            refine xv_k fL_isSigned_66 ?_
            refine xv_il6 fL_isSigned_68 ?_
            refine xv_il7 fL_isSigned_70 ?_
            refine xv_k fL_isSigned_72 ?_
            refine xv_k fL_isSigned_73 ?_
            refine xv_k fL_isSigned_74 ?_
            refine xv_callS7R (w_sign_S n c c J (p_sign_c n c I J hp hq6 (fun z => z.1 (by rw [g5]; exact (pb_and hq6).mpr hT)))) fL_isSigned_75 YL_does VL_does lL_113 rfl (Nat.le_of_ble_eq_true rfl) (by decide) (by decide) (by decide) ?_
            refine xv_is10 fL_isSigned_78 ?_
            refine xv_il8 fL_isSigned_80 ?_
            refine xv_if_eq fL_isSigned_82 (fun h_82 => ?_) (fun h_82 => ?_)
            · exact absurd h_82 (by decide)
            · refine xv_il9 fL_isSigned_85 ?_
              refine xv_if_ne fL_isSigned_87 (fun h_87 => ?_) (fun h_87 => ?_)
              · refine xv_il10 fL_isSigned_103 ?_
                refine xv_il8 fL_isSigned_105 ?_
                refine xv_if_eq fL_isSigned_107 (fun h_107 => ?_) (fun h_107 => ?_)
                · exact absurd h_107 (by decide)
                · refine xv_k fL_isSigned_110 ?_
                  refine xv_goto fL_isSigned_113 ?_
                  refine xv_ic_ne fL_isSigned_119 (fun h_119 => ?_) (fun h_119 => ?_)
                  · exact absurd rfl h_119
                  · refine xv_k fL_isSigned_122 ?_
                    refine xv_goto fL_isSigned_123 ?_
                    exact xv_iret fL_isSigned_127 rfl rfl ⟨rfl, c, rfl, rfl, rfl, hI⟩
              · exact absurd h_87 (by decide)
theorem g_hold_a (n : Nat) (c : Nat × Nat) (I : xv_I) (J : xv_J) {one two p q : Nat} (h1 : one < 2 ^ 31) (h2 : two < 2 ^ 31) (ep : one % 11 = p) (eq : two % 7 = q) (hn : n < 1000) (hI : Inv c I) (hp : 10 ≤ p) : xv_Met mL_isSigned 11 32 256 (sx n c) I (rx c) J [.ref 0, .ref 64, .ref 69, .int (nI 1), .int (nI one), .int (nI two)] (qI n J) := by
  have hp11 : p < 11 := by omega
  have hq7 : q < 7 := by omega
  obtain ⟨B, hB, g5, hg5⟩ := hI.here
  refine xv_Met.of (by decide +kernel) (Nat.le_of_ble_eq_true rfl) (List.forall_mem_cons.mpr ⟨rfl, List.forall_mem_cons.mpr ⟨rfl, List.forall_mem_cons.mpr ⟨rfl, List.forall_mem_cons.mpr ⟨rfl, List.forall_mem_cons.mpr ⟨rfl, List.forall_mem_cons.mpr ⟨rfl, fun _ h => nomatch h⟩⟩⟩⟩⟩⟩) ?_
  show xv_W mL_isSigned 11 32 256 _ 32 256 (sx n c) I (rx c) J 0 [some (.ref 0), some (.ref 64), some (.ref 69), some (.int (nI 1)), some (.int (nI one)), some (.int (nI two)), none, none, none, none, none, none] []
  refine xv_il4 fL_isSigned_0 ?_
  refine xv_k fL_isSigned_2 ?_
  refine xv_irem fL_isSigned_4 (by decide) ?_
  refine xv_eqi (y := nI p) (by rw [nI_rem h1 (by decide), ep]) ?_
  refine xv_is6 fL_isSigned_5 ?_
  refine xv_il5 fL_isSigned_7 ?_
  refine xv_k fL_isSigned_9 ?_
  refine xv_irem fL_isSigned_11 (by decide) ?_
  refine xv_eqi (y := nI q) (by rw [nI_rem h2 (by decide), eq]) ?_
  refine xv_is7 fL_isSigned_12 ?_
  refine xv_il6 fL_isSigned_14 ?_
  refine xv_k fL_isSigned_16 ?_
  refine xv_ic_ge fL_isSigned_18 (fun h_18 => ?_) (fun h_18 => ?_)
  · refine xv_k fL_isSigned_32 ?_
    refine xv_is8 fL_isSigned_33 ?_
    refine xv_il7 fL_isSigned_35 ?_
    refine xv_k fL_isSigned_37 ?_
    refine xv_ic_ge fL_isSigned_39 (fun h_39 => ?_) (fun h_39 => ?_)
    · refine xv_k fL_isSigned_58 ?_
      refine xv_is9 fL_isSigned_59 ?_
      refine xv_il3 fL_isSigned_61 ?_
      refine xv_if_ne fL_isSigned_62 (fun h_62 => ?_) (fun h_62 => ?_)
      · refine xv_il3 fL_isSigned_157 ?_
        refine xv_k fL_isSigned_158 ?_
        refine xv_ic_ne fL_isSigned_159 (fun h_159 => ?_) (fun h_159 => ?_)
        · exact absurd h_159 (by decide)
        · refine xv_al0 fL_isSigned_162 ?_
          refine xv_k fL_isSigned_163 ?_
          refine xv_il6 fL_isSigned_165 ?_
          refine xv_il7 fL_isSigned_167 ?_
          refine xv_k fL_isSigned_169 ?_
          refine xv_k fL_isSigned_170 ?_
          refine xv_k fL_isSigned_171 ?_
          refine xv_callS7R (w_hold_I n c c J (p_hold_a n c I J (x := nI p) (fun z => z.2 (nI_le (by omega) (by omega))) (y := nI q))) fL_isSigned_172 YL_does VL_does lL_113 rfl (Nat.le_of_ble_eq_true rfl) (by decide) (by decide) (by decide) ?_
          refine xv_is10 fL_isSigned_175 ?_
          refine xv_il8 fL_isSigned_177 ?_
          refine xv_if_eq fL_isSigned_179 (fun h_179 => ?_) (fun h_179 => ?_)
          · refine xv_il10 fL_isSigned_187 ?_
            refine xv_il8 fL_isSigned_189 ?_
            refine xv_if_eq fL_isSigned_191 (fun h_191 => ?_) (fun h_191 => ?_)
            · refine xv_k fL_isSigned_200 ?_
              refine xv_ic_ne fL_isSigned_203 (fun h_203 => ?_) (fun h_203 => ?_)
              · exact absurd rfl h_203
              · refine xv_k fL_isSigned_206 ?_
                refine xv_goto fL_isSigned_207 ?_
                exact xv_iret fL_isSigned_211 rfl rfl ⟨rfl, c, rfl, rfl, rfl, hI⟩
            · exact absurd h_191 (by decide)
          · exact absurd h_179 (by decide)
      · exact absurd h_62 (by decide)
    · refine xv_al2 fL_isSigned_42 ?_
      refine xv_k fL_isSigned_43 ?_
      refine xv_ialdN fL_isSigned_44 (sx_69 _ _) (⟨by decide, by decide⟩) ?_
      rw [hg5]
      refine xv_il7 fL_isSigned_45 ?_
      refine xv_ishr fL_isSigned_47 ?_
      refine xv_k fL_isSigned_48 ?_
      refine xv_iand fL_isSigned_49 ?_
      refine xv_eqi (y := if (B ^^^ 63).testBit q = true then nI 1 else nI 0) (shL _ (t63 B hB).1 q (len_of (by decide) (by omega) h_39)) ?_
      refine xv_k fL_isSigned_50 ?_
      refine xv_ic_ne fL_isSigned_51 (fun h_51 => ?_) (fun h_51 => ?_)
      · refine xv_k fL_isSigned_58 ?_
        refine xv_is9 fL_isSigned_59 ?_
        refine xv_il3 fL_isSigned_61 ?_
        refine xv_if_ne fL_isSigned_62 (fun h_62 => ?_) (fun h_62 => ?_)
        · refine xv_il3 fL_isSigned_157 ?_
          refine xv_k fL_isSigned_158 ?_
          refine xv_ic_ne fL_isSigned_159 (fun h_159 => ?_) (fun h_159 => ?_)
          · exact absurd h_159 (by decide)
          · refine xv_al0 fL_isSigned_162 ?_
            refine xv_k fL_isSigned_163 ?_
            refine xv_il6 fL_isSigned_165 ?_
            refine xv_il7 fL_isSigned_167 ?_
            refine xv_k fL_isSigned_169 ?_
            refine xv_k fL_isSigned_170 ?_
            refine xv_k fL_isSigned_171 ?_
            refine xv_callS7R (w_hold_I n c c J (p_hold_a n c I J (x := nI p) (fun z => z.2 (nI_le (by omega) (by omega))) (y := nI q))) fL_isSigned_172 YL_does VL_does lL_113 rfl (Nat.le_of_ble_eq_true rfl) (by decide) (by decide) (by decide) ?_
            refine xv_is10 fL_isSigned_175 ?_
            refine xv_il8 fL_isSigned_177 ?_
            refine xv_if_eq fL_isSigned_179 (fun h_179 => ?_) (fun h_179 => ?_)
            · refine xv_il10 fL_isSigned_187 ?_
              refine xv_il8 fL_isSigned_189 ?_
              refine xv_if_eq fL_isSigned_191 (fun h_191 => ?_) (fun h_191 => ?_)
              · refine xv_k fL_isSigned_200 ?_
                refine xv_ic_ne fL_isSigned_203 (fun h_203 => ?_) (fun h_203 => ?_)
                · exact absurd rfl h_203
                · refine xv_k fL_isSigned_206 ?_
                  refine xv_goto fL_isSigned_207 ?_
                  exact xv_iret fL_isSigned_211 rfl rfl ⟨rfl, c, rfl, rfl, rfl, hI⟩
              · exact absurd h_191 (by decide)
            · exact absurd h_179 (by decide)
        · exact absurd h_62 (by decide)
      · refine xv_k fL_isSigned_54 ?_
        refine xv_goto fL_isSigned_55 ?_
        refine xv_is9 fL_isSigned_59 ?_
        refine xv_il3 fL_isSigned_61 ?_
        refine xv_if_ne fL_isSigned_62 (fun h_62 => ?_) (fun h_62 => ?_)
        · refine xv_il3 fL_isSigned_157 ?_
          refine xv_k fL_isSigned_158 ?_
          refine xv_ic_ne fL_isSigned_159 (fun h_159 => ?_) (fun h_159 => ?_)
          · exact absurd h_159 (by decide)
          · refine xv_al0 fL_isSigned_162 ?_
            refine xv_k fL_isSigned_163 ?_
            refine xv_il6 fL_isSigned_165 ?_
            refine xv_il7 fL_isSigned_167 ?_
            refine xv_k fL_isSigned_169 ?_
            refine xv_k fL_isSigned_170 ?_
            refine xv_k fL_isSigned_171 ?_
            refine xv_callS7R (w_hold_I n c c J (p_hold_a n c I J (x := nI p) (fun z => z.2 (nI_le (by omega) (by omega))) (y := nI q))) fL_isSigned_172 YL_does VL_does lL_113 rfl (Nat.le_of_ble_eq_true rfl) (by decide) (by decide) (by decide) ?_
            refine xv_is10 fL_isSigned_175 ?_
            refine xv_il8 fL_isSigned_177 ?_
            refine xv_if_eq fL_isSigned_179 (fun h_179 => ?_) (fun h_179 => ?_)
            · refine xv_il10 fL_isSigned_187 ?_
              refine xv_il8 fL_isSigned_189 ?_
              refine xv_if_eq fL_isSigned_191 (fun h_191 => ?_) (fun h_191 => ?_)
              · refine xv_k fL_isSigned_200 ?_
                refine xv_ic_ne fL_isSigned_203 (fun h_203 => ?_) (fun h_203 => ?_)
                · exact absurd rfl h_203
                · refine xv_k fL_isSigned_206 ?_
                  refine xv_goto fL_isSigned_207 ?_
                  exact xv_iret fL_isSigned_211 rfl rfl ⟨rfl, c, rfl, rfl, rfl, hI⟩
              · exact absurd h_191 (by decide)
            · exact absurd h_179 (by decide)
        · exact absurd h_62 (by decide)
  · exact absurd ((nI_leI (by omega) (by omega)).mpr (by omega)) h_18
theorem g_hold_b (n : Nat) (c : Nat × Nat) (I : xv_I) (J : xv_J) {one two p q : Nat} (h1 : one < 2 ^ 31) (h2 : two < 2 ^ 31) (ep : one % 11 = p) (eq : two % 7 = q) (hn : n < 1000) (hI : Inv c I) (hp : p < 10) (hq : 6 ≤ q) : xv_Met mL_isSigned 11 32 256 (sx n c) I (rx c) J [.ref 0, .ref 64, .ref 69, .int (nI 1), .int (nI one), .int (nI two)] (qI n J) := by
  have hp11 : p < 11 := by omega
  have hq7 : q < 7 := by omega
  obtain ⟨B, hB, g5, hg5⟩ := hI.here
  refine xv_Met.of (by decide +kernel) (Nat.le_of_ble_eq_true rfl) (List.forall_mem_cons.mpr ⟨rfl, List.forall_mem_cons.mpr ⟨rfl, List.forall_mem_cons.mpr ⟨rfl, List.forall_mem_cons.mpr ⟨rfl, List.forall_mem_cons.mpr ⟨rfl, List.forall_mem_cons.mpr ⟨rfl, fun _ h => nomatch h⟩⟩⟩⟩⟩⟩) ?_
  show xv_W mL_isSigned 11 32 256 _ 32 256 (sx n c) I (rx c) J 0 [some (.ref 0), some (.ref 64), some (.ref 69), some (.int (nI 1)), some (.int (nI one)), some (.int (nI two)), none, none, none, none, none, none] []
  refine xv_il4 fL_isSigned_0 ?_
  refine xv_k fL_isSigned_2 ?_
  refine xv_irem fL_isSigned_4 (by decide) ?_
  refine xv_eqi (y := nI p) (by rw [nI_rem h1 (by decide), ep]) ?_
  refine xv_is6 fL_isSigned_5 ?_
  refine xv_il5 fL_isSigned_7 ?_
  refine xv_k fL_isSigned_9 ?_
  refine xv_irem fL_isSigned_11 (by decide) ?_
  refine xv_eqi (y := nI q) (by rw [nI_rem h2 (by decide), eq]) ?_
  refine xv_is7 fL_isSigned_12 ?_
  refine xv_il6 fL_isSigned_14 ?_
  refine xv_k fL_isSigned_16 ?_
  refine xv_ic_ge fL_isSigned_18 (fun h_18 => ?_) (fun h_18 => ?_)
  · exact absurd ((nI_leI (by omega) (by omega)).mp h_18) (by omega)
  · refine xv_il7 fL_isSigned_21 ?_
    refine xv_k fL_isSigned_23 ?_
    refine xv_ic_ge fL_isSigned_25 (fun h_25 => ?_) (fun h_25 => ?_)
    · refine xv_k fL_isSigned_32 ?_
      refine xv_is8 fL_isSigned_33 ?_
      refine xv_il7 fL_isSigned_35 ?_
      refine xv_k fL_isSigned_37 ?_
      refine xv_ic_ge fL_isSigned_39 (fun h_39 => ?_) (fun h_39 => ?_)
      · refine xv_k fL_isSigned_58 ?_
        refine xv_is9 fL_isSigned_59 ?_
        refine xv_il3 fL_isSigned_61 ?_
        refine xv_if_ne fL_isSigned_62 (fun h_62 => ?_) (fun h_62 => ?_)
        · refine xv_il3 fL_isSigned_157 ?_
          refine xv_k fL_isSigned_158 ?_
          refine xv_ic_ne fL_isSigned_159 (fun h_159 => ?_) (fun h_159 => ?_)
          · exact absurd h_159 (by decide)
          · refine xv_al0 fL_isSigned_162 ?_
            refine xv_k fL_isSigned_163 ?_
            refine xv_il6 fL_isSigned_165 ?_
            refine xv_il7 fL_isSigned_167 ?_
            refine xv_k fL_isSigned_169 ?_
            refine xv_k fL_isSigned_170 ?_
            refine xv_k fL_isSigned_171 ?_
            refine xv_callS7R (w_hold_I n c c J (p_hold_b n c I J hp (x := nI q) (Or.inr (nI_nlt (by omega) (by omega))))) fL_isSigned_172 YL_does VL_does lL_113 rfl (Nat.le_of_ble_eq_true rfl) (by decide) (by decide) (by decide) ?_
            refine xv_is10 fL_isSigned_175 ?_
            refine xv_il8 fL_isSigned_177 ?_
            refine xv_if_eq fL_isSigned_179 (fun h_179 => ?_) (fun h_179 => ?_)
            · refine xv_il10 fL_isSigned_187 ?_
              refine xv_il8 fL_isSigned_189 ?_
              refine xv_if_eq fL_isSigned_191 (fun h_191 => ?_) (fun h_191 => ?_)
              · refine xv_k fL_isSigned_200 ?_
                refine xv_ic_ne fL_isSigned_203 (fun h_203 => ?_) (fun h_203 => ?_)
                · exact absurd rfl h_203
                · refine xv_k fL_isSigned_206 ?_
                  refine xv_goto fL_isSigned_207 ?_
                  exact xv_iret fL_isSigned_211 rfl rfl ⟨rfl, c, rfl, rfl, rfl, hI⟩
              · exact absurd h_191 (by decide)
            · exact absurd h_179 (by decide)
        · exact absurd h_62 (by decide)
      · exact absurd ((nI_leI (by omega) (by omega)).mpr (by omega)) h_39
    · exact absurd ((nI_leI (by omega) (by omega)).mpr (by omega)) h_25
theorem g_hold_c (n : Nat) (c : Nat × Nat) (I : xv_I) (J : xv_J) {one two p q : Nat} (h1 : one < 2 ^ 31) (h2 : two < 2 ^ 31) (ep : one % 11 = p) (eq : two % 7 = q) (hn : n < 1000) (hI : Inv c I) (hp : p < 10) (hq : q < 6) (hT : ∀ B, B < 64 → I 1 5 = nI B → B.testBit q = false) : xv_Met mL_isSigned 11 32 256 (sx n c) I (rx c) J [.ref 0, .ref 64, .ref 69, .int (nI 1), .int (nI one), .int (nI two)] (qI n J) := by
  have hp11 : p < 11 := by omega
  have hq7 : q < 7 := by omega
  obtain ⟨B, hB, g5, hg5⟩ := hI.here
  have hq6 : q < 6 := by omega
  have t6 := (t63 B hB).2 q hq6
  have hT := hT B hB g5
  refine xv_Met.of (by decide +kernel) (Nat.le_of_ble_eq_true rfl) (List.forall_mem_cons.mpr ⟨rfl, List.forall_mem_cons.mpr ⟨rfl, List.forall_mem_cons.mpr ⟨rfl, List.forall_mem_cons.mpr ⟨rfl, List.forall_mem_cons.mpr ⟨rfl, List.forall_mem_cons.mpr ⟨rfl, fun _ h => nomatch h⟩⟩⟩⟩⟩⟩) ?_
  show xv_W mL_isSigned 11 32 256 _ 32 256 (sx n c) I (rx c) J 0 [some (.ref 0), some (.ref 64), some (.ref 69), some (.int (nI 1)), some (.int (nI one)), some (.int (nI two)), none, none, none, none, none, none] []
  refine xv_il4 fL_isSigned_0 ?_
  refine xv_k fL_isSigned_2 ?_
  refine xv_irem fL_isSigned_4 (by decide) ?_
  refine xv_eqi (y := nI p) (by rw [nI_rem h1 (by decide), ep]) ?_
  refine xv_is6 fL_isSigned_5 ?_
  refine xv_il5 fL_isSigned_7 ?_
  refine xv_k fL_isSigned_9 ?_
  refine xv_irem fL_isSigned_11 (by decide) ?_
  refine xv_eqi (y := nI q) (by rw [nI_rem h2 (by decide), eq]) ?_
  refine xv_is7 fL_isSigned_12 ?_
  refine xv_il6 fL_isSigned_14 ?_
  refine xv_k fL_isSigned_16 ?_
  refine xv_ic_ge fL_isSigned_18 (fun h_18 => ?_) (fun h_18 => ?_)
  · exact absurd ((nI_leI (by omega) (by omega)).mp h_18) (by omega)
  · refine xv_il7 fL_isSigned_21 ?_
    refine xv_k fL_isSigned_23 ?_
    refine xv_ic_ge fL_isSigned_25 (fun h_25 => ?_) (fun h_25 => ?_)
    · exact absurd ((nI_leI (by omega) (by omega)).mp h_25) (by omega)
    · refine xv_k fL_isSigned_28 ?_
      refine xv_goto fL_isSigned_29 ?_
      refine xv_is8 fL_isSigned_33 ?_
      refine xv_il7 fL_isSigned_35 ?_
      refine xv_k fL_isSigned_37 ?_
      refine xv_ic_ge fL_isSigned_39 (fun h_39 => ?_) (fun h_39 => ?_)
      · exact absurd ((nI_leI (by omega) (by omega)).mp h_39) (by omega)
      · refine xv_al2 fL_isSigned_42 ?_
        refine xv_k fL_isSigned_43 ?_
        refine xv_ialdN fL_isSigned_44 (sx_69 _ _) (⟨by decide, by decide⟩) ?_
        rw [hg5]
        refine xv_il7 fL_isSigned_45 ?_
        refine xv_ishr fL_isSigned_47 ?_
        refine xv_k fL_isSigned_48 ?_
        refine xv_iand fL_isSigned_49 ?_
        refine xv_eqi (y := if (B ^^^ 63).testBit q = true then nI 1 else nI 0) (shL _ (t63 B hB).1 q (len_of (by decide) (by omega) h_39)) ?_
        refine xv_k fL_isSigned_50 ?_
        refine xv_ic_ne fL_isSigned_51 (fun h_51 => ?_) (fun h_51 => ?_)
        · exact absurd (by rw [t6, hT]; rfl) h_51
        · refine xv_k fL_isSigned_54 ?_
          refine xv_goto fL_isSigned_55 ?_
          refine xv_is9 fL_isSigned_59 ?_
          refine xv_il3 fL_isSigned_61 ?_
          refine xv_if_ne fL_isSigned_62 (fun h_62 => ?_) (fun h_62 => ?_)
          · refine xv_il3 fL_isSigned_157 ?_
            refine xv_k fL_isSigned_158 ?_
            refine xv_ic_ne fL_isSigned_159 (fun h_159 => ?_) (fun h_159 => ?_)
            · exact absurd h_159 (by decide)
            · refine xv_al0 fL_isSigned_162 ?_
              refine xv_k fL_isSigned_163 ?_
              refine xv_il6 fL_isSigned_165 ?_
              refine xv_il7 fL_isSigned_167 ?_
              refine xv_k fL_isSigned_169 ?_
              refine xv_k fL_isSigned_170 ?_
              refine xv_k fL_isSigned_171 ?_
              refine xv_callS7R (w_hold_S n c c J (p_hold_c n c I J hp hq6 (fun z => z (by rw [g5]; exact (pb_and hq6).mpr hT)))) fL_isSigned_172 YL_does VL_does lL_113 rfl (Nat.le_of_ble_eq_true rfl) (by decide) (by decide) (by decide) ?_
              refine xv_is10 fL_isSigned_175 ?_
              refine xv_il8 fL_isSigned_177 ?_
              refine xv_if_eq fL_isSigned_179 (fun h_179 => ?_) (fun h_179 => ?_)
              · exact absurd h_179 (by decide)
              · refine xv_il9 fL_isSigned_182 ?_
                refine xv_if_eq fL_isSigned_184 (fun h_184 => ?_) (fun h_184 => ?_)
                · exact absurd h_184 (by decide)
                · refine xv_il10 fL_isSigned_187 ?_
                  refine xv_il8 fL_isSigned_189 ?_
                  refine xv_if_eq fL_isSigned_191 (fun h_191 => ?_) (fun h_191 => ?_)
                  · exact absurd h_191 (by decide)
                  · refine xv_k fL_isSigned_194 ?_
                    refine xv_goto fL_isSigned_197 ?_
                    refine xv_ic_ne fL_isSigned_203 (fun h_203 => ?_) (fun h_203 => ?_)
                    · exact absurd rfl h_203
                    · refine xv_k fL_isSigned_206 ?_
                      refine xv_goto fL_isSigned_207 ?_
                      exact xv_iret fL_isSigned_211 rfl rfl ⟨rfl, c, rfl, rfl, rfl, hI⟩
          · exact absurd h_62 (by decide)
theorem g_sign_d (n : Nat) (c : Nat × Nat) (I : xv_I) (J : xv_J) {one two p q : Nat} (h1 : one < 2 ^ 31) (h2 : two < 2 ^ 31) (ep : one % 11 = p) (eq : two % 7 = q) (hn : n < 1000) (hI : Inv c I) (hp : p < 10) (hq : q < 6) (hT : ∀ B, B < 64 → I 1 5 = nI B → B.testBit q = true) (hbt : ∀ b, b < 64 → I 64 p = nI b → b.testBit q = true) : xv_Met mL_isSigned 11 32 256 (sx n c) I (rx c) J [.ref 0, .ref 64, .ref 69, .int (nI 0), .int (nI one), .int (nI two)] (qI n J) := by
  have hp11 : p < 11 := by omega
  have hq7 : q < 7 := by omega
  obtain ⟨B, hB, g5, hg5⟩ := hI.here
  have hq6 : q < 6 := by omega
  have t6 := (t63 B hB).2 q hq6
  have hT := hT B hB g5
  obtain ⟨b, hb, g15, g64, hsub⟩ := hI.2.2.2 p hp
  have hbt := hbt b hb g64
  refine xv_Met.of (by decide +kernel) (Nat.le_of_ble_eq_true rfl) (List.forall_mem_cons.mpr ⟨rfl, List.forall_mem_cons.mpr ⟨rfl, List.forall_mem_cons.mpr ⟨rfl, List.forall_mem_cons.mpr ⟨rfl, List.forall_mem_cons.mpr ⟨rfl, List.forall_mem_cons.mpr ⟨rfl, fun _ h => nomatch h⟩⟩⟩⟩⟩⟩) ?_
  show xv_W mL_isSigned 11 32 256 _ 32 256 (sx n c) I (rx c) J 0 [some (.ref 0), some (.ref 64), some (.ref 69), some (.int (nI 0)), some (.int (nI one)), some (.int (nI two)), none, none, none, none, none, none] []
  refine xv_il4 fL_isSigned_0 ?_
  refine xv_k fL_isSigned_2 ?_
  refine xv_irem fL_isSigned_4 (by decide) ?_
  refine xv_eqi (y := nI p) (by rw [nI_rem h1 (by decide), ep]) ?_
  refine xv_is6 fL_isSigned_5 ?_
  refine xv_il5 fL_isSigned_7 ?_
  refine xv_k fL_isSigned_9 ?_
  refine xv_irem fL_isSigned_11 (by decide) ?_
  refine xv_eqi (y := nI q) (by rw [nI_rem h2 (by decide), eq]) ?_
  refine xv_is7 fL_isSigned_12 ?_
  refine xv_il6 fL_isSigned_14 ?_
  refine xv_k fL_isSigned_16 ?_
  refine xv_ic_ge fL_isSigned_18 (fun h_18 => ?_) (fun h_18 => ?_)
  · exact absurd ((nI_leI (by omega) (by omega)).mp h_18) (by omega)
  · refine xv_il7 fL_isSigned_21 ?_
    refine xv_k fL_isSigned_23 ?_
    refine xv_ic_ge fL_isSigned_25 (fun h_25 => ?_) (fun h_25 => ?_)
    · exact absurd ((nI_leI (by omega) (by omega)).mp h_25) (by omega)
    · refine xv_k fL_isSigned_28 ?_
      refine xv_goto fL_isSigned_29 ?_
      refine xv_is8 fL_isSigned_33 ?_
      refine xv_il7 fL_isSigned_35 ?_
      refine xv_k fL_isSigned_37 ?_
      refine xv_ic_ge fL_isSigned_39 (fun h_39 => ?_) (fun h_39 => ?_)
      · exact absurd ((nI_leI (by omega) (by omega)).mp h_39) (by omega)
      · refine xv_al2 fL_isSigned_42 ?_
        refine xv_k fL_isSigned_43 ?_
        refine xv_ialdN fL_isSigned_44 (sx_69 _ _) (⟨by decide, by decide⟩) ?_
        rw [hg5]
        refine xv_il7 fL_isSigned_45 ?_
        refine xv_ishr fL_isSigned_47 ?_
        refine xv_k fL_isSigned_48 ?_
        refine xv_iand fL_isSigned_49 ?_
        refine xv_eqi (y := if (B ^^^ 63).testBit q = true then nI 1 else nI 0) (shL _ (t63 B hB).1 q (len_of (by decide) (by omega) h_39)) ?_
        refine xv_k fL_isSigned_50 ?_
        refine xv_ic_ne fL_isSigned_51 (fun h_51 => ?_) (fun h_51 => ?_)
        · refine xv_k fL_isSigned_58 ?_
          refine xv_is9 fL_isSigned_59 ?_
          refine xv_il3 fL_isSigned_61 ?_
          refine xv_if_ne fL_isSigned_62 (fun h_62 => ?_) (fun h_62 => ?_)
          · exact absurd h_62 (by decide)
          · refine xv_al0 fL_isSigned_65 ?_
            refine xv_k fL_isSigned_66 ?_
            refine xv_il6 fL_isSigned_68 ?_
            refine xv_il7 fL_isSigned_70 ?_
            refine xv_k fL_isSigned_72 ?_
            refine xv_k fL_isSigned_73 ?_
            refine xv_k fL_isSigned_74 ?_
            refine xv_callS7R (w_sign_S n c c J (p_sign_c n c I J hp hq6 (fun z => z.2 (by rw [g15]; exact fun w => by rw [(pb_and hq6).mp w] at hbt; cases hbt)))) fL_isSigned_75 YL_does VL_does lL_113 rfl (Nat.le_of_ble_eq_true rfl) (by decide) (by decide) (by decide) ?_
            refine xv_is10 fL_isSigned_78 ?_
            refine xv_il8 fL_isSigned_80 ?_
            refine xv_if_eq fL_isSigned_82 (fun h_82 => ?_) (fun h_82 => ?_)
            · exact absurd h_82 (by decide)
            · refine xv_il9 fL_isSigned_85 ?_
              refine xv_if_ne fL_isSigned_87 (fun h_87 => ?_) (fun h_87 => ?_)
              · exact absurd h_87 (by decide)
              · refine xv_al1 fL_isSigned_90 ?_
                refine xv_il6 fL_isSigned_91 ?_
                refine xv_ialdN fL_isSigned_93 (sx_64 _ _) (⟨by omega, by decide⟩) ?_
                rw [g64]
                refine xv_il7 fL_isSigned_94 ?_
                refine xv_ishr fL_isSigned_96 ?_
                refine xv_k fL_isSigned_97 ?_
                refine xv_iand fL_isSigned_98 ?_
                refine xv_eqi (y := if b.testBit q = true then nI 1 else nI 0) (shL b hb q hq6) ?_
                refine xv_k fL_isSigned_99 ?_
                refine xv_ic_ne fL_isSigned_100 (fun h_100 => ?_) (fun h_100 => ?_)
                · exact absurd (by rw [hbt]; rfl) h_100
                · refine xv_il10 fL_isSigned_103 ?_
                  refine xv_il8 fL_isSigned_105 ?_
                  refine xv_if_eq fL_isSigned_107 (fun h_107 => ?_) (fun h_107 => ?_)
                  · exact absurd h_107 (by decide)
                  · refine xv_k fL_isSigned_110 ?_
                    refine xv_goto fL_isSigned_113 ?_
                    refine xv_ic_ne fL_isSigned_119 (fun h_119 => ?_) (fun h_119 => ?_)
                    · exact absurd rfl h_119
                    · refine xv_k fL_isSigned_122 ?_
                      refine xv_goto fL_isSigned_123 ?_
                      exact xv_iret fL_isSigned_127 rfl rfl ⟨rfl, c, rfl, rfl, rfl, hI⟩
        · exact absurd h_51 (by rw [t6, hT]; decide)
theorem g_sign_ok (n : Nat) (c : Nat × Nat) (I : xv_I) (J : xv_J) {one two p q : Nat} (h1 : one < 2 ^ 31) (h2 : two < 2 ^ 31) (ep : one % 11 = p) (eq : two % 7 = q) (hn : n < 1000) (hI : Inv c I) (hp : p < 10) (hq : q < 6) (hT : ∀ B, B < 64 → I 1 5 = nI B → B.testBit q = true) (hbt : ∀ b, b < 64 → I 64 p = nI b → b.testBit q = false) : xv_Met mL_isSigned 11 32 256 (sx n c) I (rx c) J [.ref 0, .ref 64, .ref 69, .int (nI 0), .int (nI one), .int (nI two)] (qI n J) := by
  have hp11 : p < 11 := by omega
  have hq7 : q < 7 := by omega
  obtain ⟨B, hB, g5, hg5⟩ := hI.here
  have hq6 : q < 6 := by omega
  have t6 := (t63 B hB).2 q hq6
  have hT := hT B hB g5
  obtain ⟨b, hb, g15, g64, hsub⟩ := hI.2.2.2 p hp
  have hbt := hbt b hb g64
  refine xv_Met.of (by decide +kernel) (Nat.le_of_ble_eq_true rfl) (List.forall_mem_cons.mpr ⟨rfl, List.forall_mem_cons.mpr ⟨rfl, List.forall_mem_cons.mpr ⟨rfl, List.forall_mem_cons.mpr ⟨rfl, List.forall_mem_cons.mpr ⟨rfl, List.forall_mem_cons.mpr ⟨rfl, fun _ h => nomatch h⟩⟩⟩⟩⟩⟩) ?_
  show xv_W mL_isSigned 11 32 256 _ 32 256 (sx n c) I (rx c) J 0 [some (.ref 0), some (.ref 64), some (.ref 69), some (.int (nI 0)), some (.int (nI one)), some (.int (nI two)), none, none, none, none, none, none] []
  refine xv_il4 fL_isSigned_0 ?_
  refine xv_k fL_isSigned_2 ?_
  refine xv_irem fL_isSigned_4 (by decide) ?_
  refine xv_eqi (y := nI p) (by rw [nI_rem h1 (by decide), ep]) ?_
  refine xv_is6 fL_isSigned_5 ?_
  refine xv_il5 fL_isSigned_7 ?_
  refine xv_k fL_isSigned_9 ?_
  refine xv_irem fL_isSigned_11 (by decide) ?_
  refine xv_eqi (y := nI q) (by rw [nI_rem h2 (by decide), eq]) ?_
  refine xv_is7 fL_isSigned_12 ?_
  refine xv_il6 fL_isSigned_14 ?_
  refine xv_k fL_isSigned_16 ?_
  refine xv_ic_ge fL_isSigned_18 (fun h_18 => ?_) (fun h_18 => ?_)
  · exact absurd ((nI_leI (by omega) (by omega)).mp h_18) (by omega)
  · refine xv_il7 fL_isSigned_21 ?_
    refine xv_k fL_isSigned_23 ?_
    refine xv_ic_ge fL_isSigned_25 (fun h_25 => ?_) (fun h_25 => ?_)
    · exact absurd ((nI_leI (by omega) (by omega)).mp h_25) (by omega)
    · refine xv_k fL_isSigned_28 ?_
      refine xv_goto fL_isSigned_29 ?_
      refine xv_is8 fL_isSigned_33 ?_
      refine xv_il7 fL_isSigned_35 ?_
      refine xv_k fL_isSigned_37 ?_
      refine xv_ic_ge fL_isSigned_39 (fun h_39 => ?_) (fun h_39 => ?_)
      · exact absurd ((nI_leI (by omega) (by omega)).mp h_39) (by omega)
      · refine xv_al2 fL_isSigned_42 ?_
        refine xv_k fL_isSigned_43 ?_
        refine xv_ialdN fL_isSigned_44 (sx_69 _ _) (⟨by decide, by decide⟩) ?_
        rw [hg5]
        refine xv_il7 fL_isSigned_45 ?_
        refine xv_ishr fL_isSigned_47 ?_
        refine xv_k fL_isSigned_48 ?_
        refine xv_iand fL_isSigned_49 ?_
        refine xv_eqi (y := if (B ^^^ 63).testBit q = true then nI 1 else nI 0) (shL _ (t63 B hB).1 q (len_of (by decide) (by omega) h_39)) ?_
        refine xv_k fL_isSigned_50 ?_
        refine xv_ic_ne fL_isSigned_51 (fun h_51 => ?_) (fun h_51 => ?_)
        · refine xv_k fL_isSigned_58 ?_
          refine xv_is9 fL_isSigned_59 ?_
          refine xv_il3 fL_isSigned_61 ?_
          refine xv_if_ne fL_isSigned_62 (fun h_62 => ?_) (fun h_62 => ?_)
          · exact absurd h_62 (by decide)
          · refine xv_al0 fL_isSigned_65 ?_
            refine xv_k fL_isSigned_66 ?_
            refine xv_il6 fL_isSigned_68 ?_
            refine xv_il7 fL_isSigned_70 ?_
            refine xv_k fL_isSigned_72 ?_
            refine xv_k fL_isSigned_73 ?_
            refine xv_k fL_isSigned_74 ?_
            refine xv_callS7R (w_sign_ok n c c J (p_sign_ok n c I J hp hq6 ⟨(by rw [g5]; exact fun z => by rw [(pb_and hq6).mp z] at hT; cases hT), fun z => z (by rw [g15]; exact (pb_and hq6).mpr hbt)⟩)) fL_isSigned_75 YL_does VL_does lL_113 rfl (Nat.le_of_ble_eq_true rfl) (by decide) (by decide) (by decide) ?_
            rw [g15, (pb_or b hb q hq6).1, xBC_n _ (pb_or b hb q hq6).2]
            refine xv_is10 fL_isSigned_78 ?_
            refine xv_il8 fL_isSigned_80 ?_
            refine xv_if_eq fL_isSigned_82 (fun h_82 => ?_) (fun h_82 => ?_)
            · exact absurd h_82 (by decide)
            · refine xv_il9 fL_isSigned_85 ?_
              refine xv_if_ne fL_isSigned_87 (fun h_87 => ?_) (fun h_87 => ?_)
              · exact absurd h_87 (by decide)
              · refine xv_al1 fL_isSigned_90 ?_
                refine xv_il6 fL_isSigned_91 ?_
                refine xv_ialdN fL_isSigned_93 (sx_64 _ _) (⟨by omega, by decide⟩) ?_
                rw [xv_u_ne _ _ _ (by decide), g64]
                refine xv_il7 fL_isSigned_94 ?_
                refine xv_ishr fL_isSigned_96 ?_
                refine xv_k fL_isSigned_97 ?_
                refine xv_iand fL_isSigned_98 ?_
                refine xv_eqi (y := if b.testBit q = true then nI 1 else nI 0) (shL b hb q hq6) ?_
                refine xv_k fL_isSigned_99 ?_
                refine xv_ic_ne fL_isSigned_100 (fun h_100 => ?_) (fun h_100 => ?_)
                · refine xv_al1 fL_isSigned_128 ?_
                  refine xv_il6 fL_isSigned_129 ?_
                  refine xv_dup2 fL_isSigned_131 ?_
                  refine xv_ialdN fL_isSigned_132 (sx_64 _ _) (⟨by omega, by decide⟩) ?_
                  rw [xv_u_ne _ _ _ (by decide), g64]
                  refine xv_k fL_isSigned_133 ?_
                  refine xv_il7 fL_isSigned_134 ?_
                  refine xv_ishl fL_isSigned_136 ?_
                  refine xv_eqi (y := nI (2 ^ q)) (sh1 _ (by omega)) ?_
                  refine xv_ior fL_isSigned_137 ?_
                  refine xv_eqi (y := nI (b ||| 2 ^ q)) ((pb_or b hb q hq6).1) ?_
                  refine xv_iastN fL_isSigned_138 (sx_64 _ _) (⟨by omega, by decide⟩) ?_
                  refine xv_il10 fL_isSigned_139 ?_
                  refine xv_al1 fL_isSigned_141 ?_
                  refine xv_il6 fL_isSigned_142 ?_
                  refine xv_ialdN fL_isSigned_144 (sx_64 _ _) (⟨by omega, by decide⟩) ?_
                  rw [xv_u_eq]
                  refine xv_callS1R (c_count n c _ J) fL_isSigned_145 YL_count VL_count lL_103 rfl (Nat.le_of_ble_eq_true rfl) (by decide) (by decide) (by decide) ?_
                  rw [xCn_n _ (pb_or b hb q hq6).2]
                  refine xv_ic_ne fL_isSigned_148 (fun h_148 => ?_) (fun h_148 => ?_)
                  · exact absurd rfl h_148
                  · refine xv_k fL_isSigned_151 ?_
                    refine xv_goto fL_isSigned_152 ?_
                    exact xv_iret fL_isSigned_156 rfl rfl ⟨rfl, c, rfl, rfl, rfl, hI.sign hp hq6 hb g15 g64 hsub hB g5 hT⟩
                · exact absurd h_100 (by rw [hbt]; decide)
        · exact absurd h_51 (by rw [t6, hT]; decide)
theorem g_hold_ok (n : Nat) (c : Nat × Nat) (I : xv_I) (J : xv_J) {one two p q : Nat} (h1 : one < 2 ^ 31) (h2 : two < 2 ^ 31) (ep : one % 11 = p) (eq : two % 7 = q) (hn : n < 1000) (hI : Inv c I) (hp : p < 10) (hq : q < 6) (hT : ∀ B, B < 64 → I 1 5 = nI B → B.testBit q = true) : xv_Met mL_isSigned 11 32 256 (sx n c) I (rx c) J [.ref 0, .ref 64, .ref 69, .int (nI 1), .int (nI one), .int (nI two)] (qI n J) := by
  have hp11 : p < 11 := by omega
  have hq7 : q < 7 := by omega
  obtain ⟨B, hB, g5, hg5⟩ := hI.here
  have hq6 : q < 6 := by omega
  have t6 := (t63 B hB).2 q hq6
  have hT := hT B hB g5
  obtain ⟨b, hb, g16, g64, hsub⟩ := hI.hold p hp
  refine xv_Met.of (by decide +kernel) (Nat.le_of_ble_eq_true rfl) (List.forall_mem_cons.mpr ⟨rfl, List.forall_mem_cons.mpr ⟨rfl, List.forall_mem_cons.mpr ⟨rfl, List.forall_mem_cons.mpr ⟨rfl, List.forall_mem_cons.mpr ⟨rfl, List.forall_mem_cons.mpr ⟨rfl, fun _ h => nomatch h⟩⟩⟩⟩⟩⟩) ?_
  show xv_W mL_isSigned 11 32 256 _ 32 256 (sx n c) I (rx c) J 0 [some (.ref 0), some (.ref 64), some (.ref 69), some (.int (nI 1)), some (.int (nI one)), some (.int (nI two)), none, none, none, none, none, none] []
  refine xv_il4 fL_isSigned_0 ?_
  refine xv_k fL_isSigned_2 ?_
  refine xv_irem fL_isSigned_4 (by decide) ?_
  refine xv_eqi (y := nI p) (by rw [nI_rem h1 (by decide), ep]) ?_
  refine xv_is6 fL_isSigned_5 ?_
  refine xv_il5 fL_isSigned_7 ?_
  refine xv_k fL_isSigned_9 ?_
  refine xv_irem fL_isSigned_11 (by decide) ?_
  refine xv_eqi (y := nI q) (by rw [nI_rem h2 (by decide), eq]) ?_
  refine xv_is7 fL_isSigned_12 ?_
  refine xv_il6 fL_isSigned_14 ?_
  refine xv_k fL_isSigned_16 ?_
  refine xv_ic_ge fL_isSigned_18 (fun h_18 => ?_) (fun h_18 => ?_)
  · exact absurd ((nI_leI (by omega) (by omega)).mp h_18) (by omega)
  · refine xv_il7 fL_isSigned_21 ?_
    refine xv_k fL_isSigned_23 ?_
    refine xv_ic_ge fL_isSigned_25 (fun h_25 => ?_) (fun h_25 => ?_)
    · exact absurd ((nI_leI (by omega) (by omega)).mp h_25) (by omega)
    · refine xv_k fL_isSigned_28 ?_
      refine xv_goto fL_isSigned_29 ?_
      refine xv_is8 fL_isSigned_33 ?_
      refine xv_il7 fL_isSigned_35 ?_
      refine xv_k fL_isSigned_37 ?_
      refine xv_ic_ge fL_isSigned_39 (fun h_39 => ?_) (fun h_39 => ?_)
      · exact absurd ((nI_leI (by omega) (by omega)).mp h_39) (by omega)
      · refine xv_al2 fL_isSigned_42 ?_
        refine xv_k fL_isSigned_43 ?_
        refine xv_ialdN fL_isSigned_44 (sx_69 _ _) (⟨by decide, by decide⟩) ?_
        rw [hg5]
        refine xv_il7 fL_isSigned_45 ?_
        refine xv_ishr fL_isSigned_47 ?_
        refine xv_k fL_isSigned_48 ?_
        refine xv_iand fL_isSigned_49 ?_
        refine xv_eqi (y := if (B ^^^ 63).testBit q = true then nI 1 else nI 0) (shL _ (t63 B hB).1 q (len_of (by decide) (by omega) h_39)) ?_
        refine xv_k fL_isSigned_50 ?_
        refine xv_ic_ne fL_isSigned_51 (fun h_51 => ?_) (fun h_51 => ?_)
        · refine xv_k fL_isSigned_58 ?_
          refine xv_is9 fL_isSigned_59 ?_
          refine xv_il3 fL_isSigned_61 ?_
          refine xv_if_ne fL_isSigned_62 (fun h_62 => ?_) (fun h_62 => ?_)
          · refine xv_il3 fL_isSigned_157 ?_
            refine xv_k fL_isSigned_158 ?_
            refine xv_ic_ne fL_isSigned_159 (fun h_159 => ?_) (fun h_159 => ?_)
            · exact absurd h_159 (by decide)
            · refine xv_al0 fL_isSigned_162 ?_
              refine xv_k fL_isSigned_163 ?_
              refine xv_il6 fL_isSigned_165 ?_
              refine xv_il7 fL_isSigned_167 ?_
              refine xv_k fL_isSigned_169 ?_
              refine xv_k fL_isSigned_170 ?_
              refine xv_k fL_isSigned_171 ?_
              refine xv_callS7R (w_hold_ok n c c J (p_hold_ok n c I J hp hq6 (by rw [g5]; exact fun z => by rw [(pb_and hq6).mp z] at hT; cases hT))) fL_isSigned_172 YL_does VL_does lL_113 rfl (Nat.le_of_ble_eq_true rfl) (by decide) (by decide) (by decide) ?_
              rw [bi_if, g16, (pb_xor b hb q hq6).1, bi_bit hq6]
              refine xv_is10 fL_isSigned_175 ?_
              refine xv_il8 fL_isSigned_177 ?_
              refine xv_if_eq fL_isSigned_179 (fun h_179 => ?_) (fun h_179 => ?_)
              · exact absurd h_179 (by decide)
              · refine xv_il9 fL_isSigned_182 ?_
                refine xv_if_eq fL_isSigned_184 (fun h_184 => ?_) (fun h_184 => ?_)
                · refine xv_al1 fL_isSigned_212 ?_
                  refine xv_k fL_isSigned_213 ?_
                  refine xv_il6 fL_isSigned_215 ?_
                  refine xv_iadd fL_isSigned_217 ?_
                  refine xv_eqi (y := nI (10 + p)) (nI_add _ _) ?_
                  refine xv_dup2 fL_isSigned_218 ?_
                  refine xv_ialdN fL_isSigned_219 (sx_64 _ _) (⟨by omega, by decide⟩) ?_
                  rw [xv_u_ne _ _ _ (by decide), g64]
                  refine xv_k fL_isSigned_220 ?_
                  refine xv_il7 fL_isSigned_221 ?_
                  refine xv_ishl fL_isSigned_223 ?_
                  refine xv_eqi (y := nI (2 ^ q)) (sh1 _ (by omega)) ?_
                  refine xv_ixor fL_isSigned_224 ?_
                  refine xv_eqi (y := nI (b ^^^ 2 ^ q)) ((pb_xor b hb q hq6).1) ?_
                  refine xv_iastN fL_isSigned_225 (sx_64 _ _) (⟨by omega, by decide⟩) ?_
                  refine xv_il10 fL_isSigned_226 ?_
                  refine xv_al1 fL_isSigned_228 ?_
                  refine xv_k fL_isSigned_229 ?_
                  refine xv_il6 fL_isSigned_231 ?_
                  refine xv_iadd fL_isSigned_233 ?_
                  refine xv_eqi (y := nI (10 + p)) (nI_add _ _) ?_
                  refine xv_ialdN fL_isSigned_234 (sx_64 _ _) (⟨by omega, by decide⟩) ?_
                  rw [xv_u_eq]
                  refine xv_il7 fL_isSigned_235 ?_
                  refine xv_ishr fL_isSigned_237 ?_
                  refine xv_k fL_isSigned_238 ?_
                  refine xv_iand fL_isSigned_239 ?_
                  refine xv_eqi (y := if (b ^^^ 2 ^ q).testBit q = true then nI 1 else nI 0) (shL _ (pb_xor b hb q hq6).2 q hq6) ?_
                  refine xv_ic_ne fL_isSigned_240 (fun h_240 => ?_) (fun h_240 => ?_)
                  · exact absurd rfl h_240
                  · refine xv_k fL_isSigned_243 ?_
                    refine xv_goto fL_isSigned_244 ?_
                    exact xv_iret fL_isSigned_248 rfl rfl ⟨rfl, c, rfl, rfl, rfl, hI.holds hp hq6 hb g16 g64 hsub hB g5 hT⟩
                · exact absurd h_184 (by decide)
          · exact absurd h_62 (by decide)
        · exact absurd h_51 (by rw [t6, hT]; decide)
theorem g_pers_a (n : Nat) (c : Nat × Nat) (I : xv_I) (J : xv_J) {one two p q : Nat} (h1 : one < 2 ^ 31) (h2 : two < 2 ^ 31) (ep : one % 11 = p) (eq : two % 7 = q) (hn : n < 1000) (hI : Inv c I) (hq : 6 ≤ q) : xv_Met mL_isSigned 11 32 256 (sx n c) I (rx c) J [.ref 0, .ref 64, .ref 69, .int (nI 2), .int (nI one), .int (nI two)] (qI n J) := by
  have hp11 : p < 11 := by omega
  have hq7 : q < 7 := by omega
  obtain ⟨B, hB, g5, hg5⟩ := hI.here
  refine xv_Met.of (by decide +kernel) (Nat.le_of_ble_eq_true rfl) (List.forall_mem_cons.mpr ⟨rfl, List.forall_mem_cons.mpr ⟨rfl, List.forall_mem_cons.mpr ⟨rfl, List.forall_mem_cons.mpr ⟨rfl, List.forall_mem_cons.mpr ⟨rfl, List.forall_mem_cons.mpr ⟨rfl, fun _ h => nomatch h⟩⟩⟩⟩⟩⟩) ?_
  show xv_W mL_isSigned 11 32 256 _ 32 256 (sx n c) I (rx c) J 0 [some (.ref 0), some (.ref 64), some (.ref 69), some (.int (nI 2)), some (.int (nI one)), some (.int (nI two)), none, none, none, none, none, none] []
  refine xv_il4 fL_isSigned_0 ?_
  refine xv_k fL_isSigned_2 ?_
  refine xv_irem fL_isSigned_4 (by decide) ?_
  refine xv_eqi (y := nI p) (by rw [nI_rem h1 (by decide), ep]) ?_
  refine xv_is6 fL_isSigned_5 ?_
  refine xv_il5 fL_isSigned_7 ?_
  refine xv_k fL_isSigned_9 ?_
  refine xv_irem fL_isSigned_11 (by decide) ?_
  refine xv_eqi (y := nI q) (by rw [nI_rem h2 (by decide), eq]) ?_
  refine xv_is7 fL_isSigned_12 ?_
  refine xv_il6 fL_isSigned_14 ?_
  refine xv_k fL_isSigned_16 ?_
  refine xv_ic_ge fL_isSigned_18 (fun h_18 => ?_) (fun h_18 => ?_)
  · refine xv_k fL_isSigned_32 ?_
    refine xv_is8 fL_isSigned_33 ?_
    refine xv_il7 fL_isSigned_35 ?_
    refine xv_k fL_isSigned_37 ?_
    refine xv_ic_ge fL_isSigned_39 (fun h_39 => ?_) (fun h_39 => ?_)
    · refine xv_k fL_isSigned_58 ?_
      refine xv_is9 fL_isSigned_59 ?_
      refine xv_il3 fL_isSigned_61 ?_
      refine xv_if_ne fL_isSigned_62 (fun h_62 => ?_) (fun h_62 => ?_)
      · refine xv_il3 fL_isSigned_157 ?_
        refine xv_k fL_isSigned_158 ?_
        refine xv_ic_ne fL_isSigned_159 (fun h_159 => ?_) (fun h_159 => ?_)
        · refine xv_al0 fL_isSigned_249 ?_
          refine xv_k fL_isSigned_250 ?_
          refine xv_il7 fL_isSigned_252 ?_
          refine xv_k fL_isSigned_254 ?_
          refine xv_k fL_isSigned_255 ?_
          refine xv_k fL_isSigned_256 ?_
          refine xv_k fL_isSigned_257 ?_
          refine xv_callS7R (w_person_I n c c J (p_person_a n c I J (x := nI q) (Or.inr (nI_nlt (by omega) (by omega))))) fL_isSigned_258 YL_does VL_does lL_113 rfl (Nat.le_of_ble_eq_true rfl) (by decide) (by decide) (by decide) ?_
          refine xv_is10 fL_isSigned_261 ?_
          refine xv_il7 fL_isSigned_263 ?_
          refine xv_k fL_isSigned_265 ?_
          refine xv_ic_ne fL_isSigned_267 (fun h_267 => ?_) (fun h_267 => ?_)
          · exact absurd ((nI_eq (by omega) (by omega)).mpr (by omega)) h_267
          · refine xv_il10 fL_isSigned_270 ?_
            refine xv_k fL_isSigned_272 ?_
            refine xv_ic_ne fL_isSigned_275 (fun h_275 => ?_) (fun h_275 => ?_)
            · exact absurd rfl h_275
            · refine xv_k fL_isSigned_278 ?_
              refine xv_goto fL_isSigned_279 ?_
              exact xv_iret fL_isSigned_283 rfl rfl ⟨rfl, c, rfl, rfl, rfl, hI⟩
        · exact absurd h_159 (by decide)
      · exact absurd h_62 (by decide)
    · exact absurd ((nI_leI (by omega) (by omega)).mpr (by omega)) h_39
  · refine xv_il7 fL_isSigned_21 ?_
    refine xv_k fL_isSigned_23 ?_
    refine xv_ic_ge fL_isSigned_25 (fun h_25 => ?_) (fun h_25 => ?_)
    · refine xv_k fL_isSigned_32 ?_
      refine xv_is8 fL_isSigned_33 ?_
      refine xv_il7 fL_isSigned_35 ?_
      refine xv_k fL_isSigned_37 ?_
      refine xv_ic_ge fL_isSigned_39 (fun h_39 => ?_) (fun h_39 => ?_)
      · refine xv_k fL_isSigned_58 ?_
        refine xv_is9 fL_isSigned_59 ?_
        refine xv_il3 fL_isSigned_61 ?_
        refine xv_if_ne fL_isSigned_62 (fun h_62 => ?_) (fun h_62 => ?_)
        · refine xv_il3 fL_isSigned_157 ?_
          refine xv_k fL_isSigned_158 ?_
          refine xv_ic_ne fL_isSigned_159 (fun h_159 => ?_) (fun h_159 => ?_)
          · refine xv_al0 fL_isSigned_249 ?_
            refine xv_k fL_isSigned_250 ?_
            refine xv_il7 fL_isSigned_252 ?_
            refine xv_k fL_isSigned_254 ?_
            refine xv_k fL_isSigned_255 ?_
            refine xv_k fL_isSigned_256 ?_
            refine xv_k fL_isSigned_257 ?_
            refine xv_callS7R (w_person_I n c c J (p_person_a n c I J (x := nI q) (Or.inr (nI_nlt (by omega) (by omega))))) fL_isSigned_258 YL_does VL_does lL_113 rfl (Nat.le_of_ble_eq_true rfl) (by decide) (by decide) (by decide) ?_
            refine xv_is10 fL_isSigned_261 ?_
            refine xv_il7 fL_isSigned_263 ?_
            refine xv_k fL_isSigned_265 ?_
            refine xv_ic_ne fL_isSigned_267 (fun h_267 => ?_) (fun h_267 => ?_)
            · exact absurd ((nI_eq (by omega) (by omega)).mpr (by omega)) h_267
            · refine xv_il10 fL_isSigned_270 ?_
              refine xv_k fL_isSigned_272 ?_
              refine xv_ic_ne fL_isSigned_275 (fun h_275 => ?_) (fun h_275 => ?_)
              · exact absurd rfl h_275
              · refine xv_k fL_isSigned_278 ?_
                refine xv_goto fL_isSigned_279 ?_
                exact xv_iret fL_isSigned_283 rfl rfl ⟨rfl, c, rfl, rfl, rfl, hI⟩
          · exact absurd h_159 (by decide)
        · exact absurd h_62 (by decide)
      · exact absurd ((nI_leI (by omega) (by omega)).mpr (by omega)) h_39
    · exact absurd ((nI_leI (by omega) (by omega)).mpr (by omega)) h_25
theorem l_go (n : Nat) (c : Nat × Nat) (J : xv_J) {Q : xv_Q} {kc ks q : Nat} {l3 l4 l5 l6 l8 l9 l10 : Option Value} : ∀ (m k : Nat) (I : xv_I) (y : Int32), k + m = 20 → I 69 5 = y → (∀ l11, xv_W mL_isSigned 11 32 256 Q kc ks (sx n c) (it (lGo1 (y ^^^ (-1))) m k I) (rx c) J 322 (some (.ref 0) :: some (.ref 64) :: some (.ref 69) :: l3 :: l4 :: l5 :: l6 :: some (.int (nI q)) :: l8 :: l9 :: l10 :: l11 :: []) []) → xv_W mL_isSigned 11 32 256 Q kc ks (sx n c) I (rx c) J 297 (some (.ref 0) :: some (.ref 64) :: some (.ref 69) :: l3 :: l4 :: l5 :: l6 :: some (.int (nI q)) :: l8 :: l9 :: l10 :: some (.int (nI k)) :: []) [] := by
  intro m
  induction m with
  | zero =>
    intro k I y hm hy kk
    obtain rfl : k = 20 := by omega
    show xv_W mL_isSigned 11 32 256 _ kc ks (sx n c) I (rx c) J 297 (some (.ref 0) :: some (.ref 64) :: some (.ref 69) :: l3 :: l4 :: l5 :: l6 :: some (.int (nI q)) :: l8 :: l9 :: l10 :: some (.int (nI 20)) :: []) []
    refine xv_il11 fL_isSigned_297 ?_
    refine xv_k fL_isSigned_299 ?_
    refine xv_ic_ge fL_isSigned_301 (fun h_301 => ?_) (fun h_301 => ?_)
    · exact kk _
    · exact absurd (by decide) h_301
  | succ m ih =>
    intro k I y hm hy kk
    have hk : k < 20 := by omega
    show xv_W mL_isSigned 11 32 256 _ kc ks (sx n c) I (rx c) J 297 (some (.ref 0) :: some (.ref 64) :: some (.ref 69) :: l3 :: l4 :: l5 :: l6 :: some (.int (nI q)) :: l8 :: l9 :: l10 :: some (.int (nI k)) :: []) []
    refine xv_il11 fL_isSigned_297 ?_
    refine xv_k fL_isSigned_299 ?_
    refine xv_ic_ge fL_isSigned_301 (fun h_301 => ?_) (fun h_301 => ?_)
    · exact absurd h_301 (nI_ge hk (by decide))
    · refine xv_al1 fL_isSigned_304 ?_
      refine xv_il11 fL_isSigned_305 ?_
      refine xv_dup2 fL_isSigned_307 ?_
      refine xv_ialdN fL_isSigned_308 (sx_64 _ _) (⟨hk, by decide⟩) ?_
      refine xv_al2 fL_isSigned_309 ?_
      refine xv_k fL_isSigned_310 ?_
      refine xv_ialdN fL_isSigned_311 (sx_69 _ _) (⟨by decide, by decide⟩) ?_
      rw [hy]
      refine xv_k fL_isSigned_312 ?_
      refine xv_ixor fL_isSigned_313 ?_
      refine xv_iand fL_isSigned_314 ?_
      refine xv_iastN fL_isSigned_315 (sx_64 _ _) (⟨hk, by decide⟩) ?_
      refine xv_iincN11 (a := 1) fL_isSigned_316 (by decide) ?_
      refine xv_goto fL_isSigned_319 ?_
      exact ih (k + 1) (lGo1 (y ^^^ (-1)) k I) y (by omega) ((xv_u_ne _ _ _ (by decide)).trans hy) kk

theorem g_pers_out (n : Nat) (c : Nat × Nat) (I : xv_I) (J : xv_J) {one two p q : Nat} (h1 : one < 2 ^ 31) (h2 : two < 2 ^ 31) (ep : one % 11 = p) (eq : two % 7 = q) (hn : n < 1000) (hI : Inv c I) (hq : q < 6) (hT : ∀ B, B < 64 → I 1 5 = nI B → B.testBit q = true) : xv_Met mL_isSigned 11 32 256 (sx n c) I (rx c) J [.ref 0, .ref 64, .ref 69, .int (nI 2), .int (nI one), .int (nI two)] (qI n J) := by
  have hp11 : p < 11 := by omega
  have hq7 : q < 7 := by omega
  obtain ⟨B, hB, g5, hg5⟩ := hI.here
  have hq6 : q < 6 := by omega
  have t6 := (t63 B hB).2 q hq6
  have hT := hT B hB g5
  obtain ⟨o1, o2, o3, o4⟩ := out_1 q hq6 B hB hT
  have k5 : xLeave q I 1 5 = nI (B ^^^ 2 ^ q) := by rw [xLeave_at, if_neg (by omega), if_neg (by omega), if_pos ⟨rfl, rfl⟩, g5, o1]
  have k69 : xLeave q I 69 5 = nI (B ^^^ 63) := by rw [xLeave_at, if_neg (by omega), if_neg (by omega), if_neg (by omega), hg5]
  refine xv_Met.of (by decide +kernel) (Nat.le_of_ble_eq_true rfl) (List.forall_mem_cons.mpr ⟨rfl, List.forall_mem_cons.mpr ⟨rfl, List.forall_mem_cons.mpr ⟨rfl, List.forall_mem_cons.mpr ⟨rfl, List.forall_mem_cons.mpr ⟨rfl, List.forall_mem_cons.mpr ⟨rfl, fun _ h => nomatch h⟩⟩⟩⟩⟩⟩) ?_
  show xv_W mL_isSigned 11 32 256 _ 32 256 (sx n c) I (rx c) J 0 [some (.ref 0), some (.ref 64), some (.ref 69), some (.int (nI 2)), some (.int (nI one)), some (.int (nI two)), none, none, none, none, none, none] []
  refine xv_il4 fL_isSigned_0 ?_
  refine xv_k fL_isSigned_2 ?_
  refine xv_irem fL_isSigned_4 (by decide) ?_
  refine xv_eqi (y := nI p) (by rw [nI_rem h1 (by decide), ep]) ?_
  refine xv_is6 fL_isSigned_5 ?_
  refine xv_il5 fL_isSigned_7 ?_
  refine xv_k fL_isSigned_9 ?_
  refine xv_irem fL_isSigned_11 (by decide) ?_
  refine xv_eqi (y := nI q) (by rw [nI_rem h2 (by decide), eq]) ?_
  refine xv_is7 fL_isSigned_12 ?_
  refine xv_il6 fL_isSigned_14 ?_
  refine xv_k fL_isSigned_16 ?_
  refine xv_ic_ge fL_isSigned_18 (fun h_18 => ?_) (fun h_18 => ?_)
  · refine xv_k fL_isSigned_32 ?_
    refine xv_is8 fL_isSigned_33 ?_
    refine xv_il7 fL_isSigned_35 ?_
    refine xv_k fL_isSigned_37 ?_
    refine xv_ic_ge fL_isSigned_39 (fun h_39 => ?_) (fun h_39 => ?_)
    · exact absurd ((nI_leI (by omega) (by omega)).mp h_39) (by omega)
    · refine xv_al2 fL_isSigned_42 ?_
      refine xv_k fL_isSigned_43 ?_
      refine xv_ialdN fL_isSigned_44 (sx_69 _ _) (⟨by decide, by decide⟩) ?_
      rw [hg5]
      refine xv_il7 fL_isSigned_45 ?_
      refine xv_ishr fL_isSigned_47 ?_
      refine xv_k fL_isSigned_48 ?_
      refine xv_iand fL_isSigned_49 ?_
      refine xv_eqi (y := if (B ^^^ 63).testBit q = true then nI 1 else nI 0) (shL _ (t63 B hB).1 q (len_of (by decide) (by omega) h_39)) ?_
      refine xv_k fL_isSigned_50 ?_
      refine xv_ic_ne fL_isSigned_51 (fun h_51 => ?_) (fun h_51 => ?_)
      · refine xv_k fL_isSigned_58 ?_
        refine xv_is9 fL_isSigned_59 ?_
        refine xv_il3 fL_isSigned_61 ?_
        refine xv_if_ne fL_isSigned_62 (fun h_62 => ?_) (fun h_62 => ?_)
        · refine xv_il3 fL_isSigned_157 ?_
          refine xv_k fL_isSigned_158 ?_
          refine xv_ic_ne fL_isSigned_159 (fun h_159 => ?_) (fun h_159 => ?_)
          · refine xv_al0 fL_isSigned_249 ?_
            refine xv_k fL_isSigned_250 ?_
            refine xv_il7 fL_isSigned_252 ?_
            refine xv_k fL_isSigned_254 ?_
            refine xv_k fL_isSigned_255 ?_
            refine xv_k fL_isSigned_256 ?_
            refine xv_k fL_isSigned_257 ?_
            refine xv_callS7R (w_person_ok n c c J (p_person_out n c I J hq6 (by rw [g5]; exact fun z => by rw [(pb_and hq6).mp z] at hT; cases hT))) fL_isSigned_258 YL_does VL_does lL_113 rfl (Nat.le_of_ble_eq_true rfl) (by decide) (by decide) (by decide) ?_
            rw [bi_if, k5, bi_bit hq6, o4, if_neg (by decide)]
            refine xv_is10 fL_isSigned_261 ?_
            refine xv_il7 fL_isSigned_263 ?_
            refine xv_k fL_isSigned_265 ?_
            refine xv_ic_ne fL_isSigned_267 (fun h_267 => ?_) (fun h_267 => ?_)
            · refine xv_al2 fL_isSigned_284 ?_
              refine xv_k fL_isSigned_285 ?_
              refine xv_dup2 fL_isSigned_286 ?_
              refine xv_ialdN fL_isSigned_287 (sx_69 _ _) (⟨by decide, by decide⟩) ?_
              rw [k69]
              refine xv_k fL_isSigned_288 ?_
              refine xv_il7 fL_isSigned_289 ?_
              refine xv_ishl fL_isSigned_291 ?_
              refine xv_eqi (y := nI (2 ^ q)) (sh1 _ (by omega)) ?_
              refine xv_ixor fL_isSigned_292 ?_
              refine xv_eqi (y := nI ((B ^^^ 2 ^ q) ^^^ 63)) (o2) ?_
              refine xv_iastN fL_isSigned_293 (sx_69 _ _) (⟨by decide, by decide⟩) ?_
              refine xv_k fL_isSigned_294 ?_
              refine xv_is11 fL_isSigned_295 ?_
              refine l_go n c J 20 0 _ _ rfl (xv_u_eq _ _ _ _) (fun l11 => ?_)
              refine xv_il10 fL_isSigned_322 ?_
              refine xv_k fL_isSigned_324 ?_
              refine xv_al2 fL_isSigned_325 ?_
              refine xv_k fL_isSigned_326 ?_
              refine xv_ialdN fL_isSigned_327 (sx_69 _ _) (⟨by decide, by decide⟩) ?_
              rw [lGo_at, if_neg (by omega), xv_u_eq]
              refine xv_il7 fL_isSigned_328 ?_
              refine xv_ishr fL_isSigned_330 ?_
              refine xv_k fL_isSigned_331 ?_
              refine xv_iand fL_isSigned_332 ?_
              refine xv_eqi (y := if ((B ^^^ 2 ^ q) ^^^ 63).testBit q = true then nI 1 else nI 0) (shL _ (t63 _ o3).1 q hq6) ?_
              refine xv_isub fL_isSigned_333 ?_
              refine xv_eqi (y := nI 0) (by rw [(t63 _ o3).2 q hq6, o4]; decide) ?_
              refine xv_ic_ne fL_isSigned_334 (fun h_334 => ?_) (fun h_334 => ?_)
              · exact absurd rfl h_334
              · refine xv_k fL_isSigned_337 ?_
                refine xv_goto fL_isSigned_338 ?_
                exact xv_iret fL_isSigned_342 rfl rfl ⟨rfl, c, rfl, rfl, rfl, hI.leave hq6 hB g5 hT⟩
            · exact absurd ((nI_eq (by omega) (by omega)).mp h_267) (by omega)
          · exact absurd h_159 (by decide)
        · exact absurd h_62 (by decide)
      · exact absurd h_51 (by rw [t6, hT]; decide)
  · refine xv_il7 fL_isSigned_21 ?_
    refine xv_k fL_isSigned_23 ?_
    refine xv_ic_ge fL_isSigned_25 (fun h_25 => ?_) (fun h_25 => ?_)
    · exact absurd ((nI_leI (by omega) (by omega)).mp h_25) (by omega)
    · refine xv_k fL_isSigned_28 ?_
      refine xv_goto fL_isSigned_29 ?_
      refine xv_is8 fL_isSigned_33 ?_
      refine xv_il7 fL_isSigned_35 ?_
      refine xv_k fL_isSigned_37 ?_
      refine xv_ic_ge fL_isSigned_39 (fun h_39 => ?_) (fun h_39 => ?_)
      · exact absurd ((nI_leI (by omega) (by omega)).mp h_39) (by omega)
      · refine xv_al2 fL_isSigned_42 ?_
        refine xv_k fL_isSigned_43 ?_
        refine xv_ialdN fL_isSigned_44 (sx_69 _ _) (⟨by decide, by decide⟩) ?_
        rw [hg5]
        refine xv_il7 fL_isSigned_45 ?_
        refine xv_ishr fL_isSigned_47 ?_
        refine xv_k fL_isSigned_48 ?_
        refine xv_iand fL_isSigned_49 ?_
        refine xv_eqi (y := if (B ^^^ 63).testBit q = true then nI 1 else nI 0) (shL _ (t63 B hB).1 q (len_of (by decide) (by omega) h_39)) ?_
        refine xv_k fL_isSigned_50 ?_
        refine xv_ic_ne fL_isSigned_51 (fun h_51 => ?_) (fun h_51 => ?_)
        · refine xv_k fL_isSigned_58 ?_
          refine xv_is9 fL_isSigned_59 ?_
          refine xv_il3 fL_isSigned_61 ?_
          refine xv_if_ne fL_isSigned_62 (fun h_62 => ?_) (fun h_62 => ?_)
          · refine xv_il3 fL_isSigned_157 ?_
            refine xv_k fL_isSigned_158 ?_
            refine xv_ic_ne fL_isSigned_159 (fun h_159 => ?_) (fun h_159 => ?_)
            · refine xv_al0 fL_isSigned_249 ?_
              refine xv_k fL_isSigned_250 ?_
              refine xv_il7 fL_isSigned_252 ?_
              refine xv_k fL_isSigned_254 ?_
              refine xv_k fL_isSigned_255 ?_
              refine xv_k fL_isSigned_256 ?_
              refine xv_k fL_isSigned_257 ?_
              refine xv_callS7R (w_person_ok n c c J (p_person_out n c I J hq6 (by rw [g5]; exact fun z => by rw [(pb_and hq6).mp z] at hT; cases hT))) fL_isSigned_258 YL_does VL_does lL_113 rfl (Nat.le_of_ble_eq_true rfl) (by decide) (by decide) (by decide) ?_
              rw [bi_if, k5, bi_bit hq6, o4, if_neg (by decide)]
              refine xv_is10 fL_isSigned_261 ?_
              refine xv_il7 fL_isSigned_263 ?_
              refine xv_k fL_isSigned_265 ?_
              refine xv_ic_ne fL_isSigned_267 (fun h_267 => ?_) (fun h_267 => ?_)
              · refine xv_al2 fL_isSigned_284 ?_
                refine xv_k fL_isSigned_285 ?_
                refine xv_dup2 fL_isSigned_286 ?_
                refine xv_ialdN fL_isSigned_287 (sx_69 _ _) (⟨by decide, by decide⟩) ?_
                rw [k69]
                refine xv_k fL_isSigned_288 ?_
                refine xv_il7 fL_isSigned_289 ?_
                refine xv_ishl fL_isSigned_291 ?_
                refine xv_eqi (y := nI (2 ^ q)) (sh1 _ (by omega)) ?_
                refine xv_ixor fL_isSigned_292 ?_
                refine xv_eqi (y := nI ((B ^^^ 2 ^ q) ^^^ 63)) (o2) ?_
                refine xv_iastN fL_isSigned_293 (sx_69 _ _) (⟨by decide, by decide⟩) ?_
                refine xv_k fL_isSigned_294 ?_
                refine xv_is11 fL_isSigned_295 ?_
                refine l_go n c J 20 0 _ _ rfl (xv_u_eq _ _ _ _) (fun l11 => ?_)
                refine xv_il10 fL_isSigned_322 ?_
                refine xv_k fL_isSigned_324 ?_
                refine xv_al2 fL_isSigned_325 ?_
                refine xv_k fL_isSigned_326 ?_
                refine xv_ialdN fL_isSigned_327 (sx_69 _ _) (⟨by decide, by decide⟩) ?_
                rw [lGo_at, if_neg (by omega), xv_u_eq]
                refine xv_il7 fL_isSigned_328 ?_
                refine xv_ishr fL_isSigned_330 ?_
                refine xv_k fL_isSigned_331 ?_
                refine xv_iand fL_isSigned_332 ?_
                refine xv_eqi (y := if ((B ^^^ 2 ^ q) ^^^ 63).testBit q = true then nI 1 else nI 0) (shL _ (t63 _ o3).1 q hq6) ?_
                refine xv_isub fL_isSigned_333 ?_
                refine xv_eqi (y := nI 0) (by rw [(t63 _ o3).2 q hq6, o4]; decide) ?_
                refine xv_ic_ne fL_isSigned_334 (fun h_334 => ?_) (fun h_334 => ?_)
                · exact absurd rfl h_334
                · refine xv_k fL_isSigned_337 ?_
                  refine xv_goto fL_isSigned_338 ?_
                  exact xv_iret fL_isSigned_342 rfl rfl ⟨rfl, c, rfl, rfl, rfl, hI.leave hq6 hB g5 hT⟩
              · exact absurd ((nI_eq (by omega) (by omega)).mp h_267) (by omega)
            · exact absurd h_159 (by decide)
          · exact absurd h_62 (by decide)
        · exact absurd h_51 (by rw [t6, hT]; decide)
theorem g_pers_in (n : Nat) (c : Nat × Nat) (I : xv_I) (J : xv_J) {one two p q : Nat} (h1 : one < 2 ^ 31) (h2 : two < 2 ^ 31) (ep : one % 11 = p) (eq : two % 7 = q) (hn : n < 1000) (hI : Inv c I) (hq : q < 6) (hT : ∀ B, B < 64 → I 1 5 = nI B → B.testBit q = false) : xv_Met mL_isSigned 11 32 256 (sx n c) I (rx c) J [.ref 0, .ref 64, .ref 69, .int (nI 2), .int (nI one), .int (nI two)] (qI n J) := by
  have hp11 : p < 11 := by omega
  have hq7 : q < 7 := by omega
  obtain ⟨B, hB, g5, hg5⟩ := hI.here
  have hq6 : q < 6 := by omega
  have t6 := (t63 B hB).2 q hq6
  have hT := hT B hB g5
  obtain ⟨o1, o2, o3, o4⟩ := in_1 q hq6 B hB hT
  refine xv_Met.of (by decide +kernel) (Nat.le_of_ble_eq_true rfl) (List.forall_mem_cons.mpr ⟨rfl, List.forall_mem_cons.mpr ⟨rfl, List.forall_mem_cons.mpr ⟨rfl, List.forall_mem_cons.mpr ⟨rfl, List.forall_mem_cons.mpr ⟨rfl, List.forall_mem_cons.mpr ⟨rfl, fun _ h => nomatch h⟩⟩⟩⟩⟩⟩) ?_
  show xv_W mL_isSigned 11 32 256 _ 32 256 (sx n c) I (rx c) J 0 [some (.ref 0), some (.ref 64), some (.ref 69), some (.int (nI 2)), some (.int (nI one)), some (.int (nI two)), none, none, none, none, none, none] []
  refine xv_il4 fL_isSigned_0 ?_
  refine xv_k fL_isSigned_2 ?_
  refine xv_irem fL_isSigned_4 (by decide) ?_
  refine xv_eqi (y := nI p) (by rw [nI_rem h1 (by decide), ep]) ?_
  refine xv_is6 fL_isSigned_5 ?_
  refine xv_il5 fL_isSigned_7 ?_
  refine xv_k fL_isSigned_9 ?_
  refine xv_irem fL_isSigned_11 (by decide) ?_
  refine xv_eqi (y := nI q) (by rw [nI_rem h2 (by decide), eq]) ?_
  refine xv_is7 fL_isSigned_12 ?_
  refine xv_il6 fL_isSigned_14 ?_
  refine xv_k fL_isSigned_16 ?_
  refine xv_ic_ge fL_isSigned_18 (fun h_18 => ?_) (fun h_18 => ?_)
  · refine xv_k fL_isSigned_32 ?_
    refine xv_is8 fL_isSigned_33 ?_
    refine xv_il7 fL_isSigned_35 ?_
    refine xv_k fL_isSigned_37 ?_
    refine xv_ic_ge fL_isSigned_39 (fun h_39 => ?_) (fun h_39 => ?_)
    · exact absurd ((nI_leI (by omega) (by omega)).mp h_39) (by omega)
    · refine xv_al2 fL_isSigned_42 ?_
      refine xv_k fL_isSigned_43 ?_
      refine xv_ialdN fL_isSigned_44 (sx_69 _ _) (⟨by decide, by decide⟩) ?_
      rw [hg5]
      refine xv_il7 fL_isSigned_45 ?_
      refine xv_ishr fL_isSigned_47 ?_
      refine xv_k fL_isSigned_48 ?_
      refine xv_iand fL_isSigned_49 ?_
      refine xv_eqi (y := if (B ^^^ 63).testBit q = true then nI 1 else nI 0) (shL _ (t63 B hB).1 q (len_of (by decide) (by omega) h_39)) ?_
      refine xv_k fL_isSigned_50 ?_
      refine xv_ic_ne fL_isSigned_51 (fun h_51 => ?_) (fun h_51 => ?_)
      · exact absurd (by rw [t6, hT]; rfl) h_51
      · refine xv_k fL_isSigned_54 ?_
        refine xv_goto fL_isSigned_55 ?_
        refine xv_is9 fL_isSigned_59 ?_
        refine xv_il3 fL_isSigned_61 ?_
        refine xv_if_ne fL_isSigned_62 (fun h_62 => ?_) (fun h_62 => ?_)
        · refine xv_il3 fL_isSigned_157 ?_
          refine xv_k fL_isSigned_158 ?_
          refine xv_ic_ne fL_isSigned_159 (fun h_159 => ?_) (fun h_159 => ?_)
          · refine xv_al0 fL_isSigned_249 ?_
            refine xv_k fL_isSigned_250 ?_
            refine xv_il7 fL_isSigned_252 ?_
            refine xv_k fL_isSigned_254 ?_
            refine xv_k fL_isSigned_255 ?_
            refine xv_k fL_isSigned_256 ?_
            refine xv_k fL_isSigned_257 ?_
            refine xv_callS7R (w_person_ok n c c J (p_person_in n c I J hq6 (fun z => z (by rw [g5]; exact (pb_and hq6).mpr hT)))) fL_isSigned_258 YL_does VL_does lL_113 rfl (Nat.le_of_ble_eq_true rfl) (by decide) (by decide) (by decide) ?_
            rw [bi_if, xv_u_eq, g5, o1, bi_bit hq6, o4, if_pos rfl]
            refine xv_is10 fL_isSigned_261 ?_
            refine xv_il7 fL_isSigned_263 ?_
            refine xv_k fL_isSigned_265 ?_
            refine xv_ic_ne fL_isSigned_267 (fun h_267 => ?_) (fun h_267 => ?_)
            · refine xv_al2 fL_isSigned_284 ?_
              refine xv_k fL_isSigned_285 ?_
              refine xv_dup2 fL_isSigned_286 ?_
              refine xv_ialdN fL_isSigned_287 (sx_69 _ _) (⟨by decide, by decide⟩) ?_
              rw [xv_u_ne _ _ _ (by decide), hg5]
              refine xv_k fL_isSigned_288 ?_
              refine xv_il7 fL_isSigned_289 ?_
              refine xv_ishl fL_isSigned_291 ?_
              refine xv_eqi (y := nI (2 ^ q)) (sh1 _ (by omega)) ?_
              refine xv_ixor fL_isSigned_292 ?_
              refine xv_eqi (y := nI ((B ^^^ 2 ^ q) ^^^ 63)) (o2) ?_
              refine xv_iastN fL_isSigned_293 (sx_69 _ _) (⟨by decide, by decide⟩) ?_
              refine xv_k fL_isSigned_294 ?_
              refine xv_is11 fL_isSigned_295 ?_
              refine l_go n c J 20 0 _ _ rfl (xv_u_eq _ _ _ _) (fun l11 => ?_)
              refine xv_il10 fL_isSigned_322 ?_
              refine xv_k fL_isSigned_324 ?_
              refine xv_al2 fL_isSigned_325 ?_
              refine xv_k fL_isSigned_326 ?_
              refine xv_ialdN fL_isSigned_327 (sx_69 _ _) (⟨by decide, by decide⟩) ?_
              rw [lGo_at, if_neg (by omega), xv_u_eq]
              refine xv_il7 fL_isSigned_328 ?_
              refine xv_ishr fL_isSigned_330 ?_
              refine xv_k fL_isSigned_331 ?_
              refine xv_iand fL_isSigned_332 ?_
              refine xv_eqi (y := if ((B ^^^ 2 ^ q) ^^^ 63).testBit q = true then nI 1 else nI 0) (shL _ (t63 _ o3).1 q hq6) ?_
              refine xv_isub fL_isSigned_333 ?_
              refine xv_eqi (y := nI 1) (by rw [(t63 _ o3).2 q hq6, o4]; decide) ?_
              refine xv_ic_ne fL_isSigned_334 (fun h_334 => ?_) (fun h_334 => ?_)
              · exact absurd rfl h_334
              · refine xv_k fL_isSigned_337 ?_
                refine xv_goto fL_isSigned_338 ?_
                exact xv_iret fL_isSigned_342 rfl rfl ⟨rfl, c, rfl, rfl, rfl, hI.come hq6 hB g5 hT⟩
            · exact absurd ((nI_eq (by omega) (by omega)).mp h_267) (by omega)
          · exact absurd h_159 (by decide)
        · exact absurd h_62 (by decide)
  · refine xv_il7 fL_isSigned_21 ?_
    refine xv_k fL_isSigned_23 ?_
    refine xv_ic_ge fL_isSigned_25 (fun h_25 => ?_) (fun h_25 => ?_)
    · exact absurd ((nI_leI (by omega) (by omega)).mp h_25) (by omega)
    · refine xv_k fL_isSigned_28 ?_
      refine xv_goto fL_isSigned_29 ?_
      refine xv_is8 fL_isSigned_33 ?_
      refine xv_il7 fL_isSigned_35 ?_
      refine xv_k fL_isSigned_37 ?_
      refine xv_ic_ge fL_isSigned_39 (fun h_39 => ?_) (fun h_39 => ?_)
      · exact absurd ((nI_leI (by omega) (by omega)).mp h_39) (by omega)
      · refine xv_al2 fL_isSigned_42 ?_
        refine xv_k fL_isSigned_43 ?_
        refine xv_ialdN fL_isSigned_44 (sx_69 _ _) (⟨by decide, by decide⟩) ?_
        rw [hg5]
        refine xv_il7 fL_isSigned_45 ?_
        refine xv_ishr fL_isSigned_47 ?_
        refine xv_k fL_isSigned_48 ?_
        refine xv_iand fL_isSigned_49 ?_
        refine xv_eqi (y := if (B ^^^ 63).testBit q = true then nI 1 else nI 0) (shL _ (t63 B hB).1 q (len_of (by decide) (by omega) h_39)) ?_
        refine xv_k fL_isSigned_50 ?_
        refine xv_ic_ne fL_isSigned_51 (fun h_51 => ?_) (fun h_51 => ?_)
        · exact absurd (by rw [t6, hT]; rfl) h_51
        · refine xv_k fL_isSigned_54 ?_
          refine xv_goto fL_isSigned_55 ?_
          refine xv_is9 fL_isSigned_59 ?_
          refine xv_il3 fL_isSigned_61 ?_
          refine xv_if_ne fL_isSigned_62 (fun h_62 => ?_) (fun h_62 => ?_)
          · refine xv_il3 fL_isSigned_157 ?_
            refine xv_k fL_isSigned_158 ?_
            refine xv_ic_ne fL_isSigned_159 (fun h_159 => ?_) (fun h_159 => ?_)
            · refine xv_al0 fL_isSigned_249 ?_
              refine xv_k fL_isSigned_250 ?_
              refine xv_il7 fL_isSigned_252 ?_
              refine xv_k fL_isSigned_254 ?_
              refine xv_k fL_isSigned_255 ?_
              refine xv_k fL_isSigned_256 ?_
              refine xv_k fL_isSigned_257 ?_
              refine xv_callS7R (w_person_ok n c c J (p_person_in n c I J hq6 (fun z => z (by rw [g5]; exact (pb_and hq6).mpr hT)))) fL_isSigned_258 YL_does VL_does lL_113 rfl (Nat.le_of_ble_eq_true rfl) (by decide) (by decide) (by decide) ?_
              rw [bi_if, xv_u_eq, g5, o1, bi_bit hq6, o4, if_pos rfl]
              refine xv_is10 fL_isSigned_261 ?_
              refine xv_il7 fL_isSigned_263 ?_
              refine xv_k fL_isSigned_265 ?_
              refine xv_ic_ne fL_isSigned_267 (fun h_267 => ?_) (fun h_267 => ?_)
              · refine xv_al2 fL_isSigned_284 ?_
                refine xv_k fL_isSigned_285 ?_
                refine xv_dup2 fL_isSigned_286 ?_
                refine xv_ialdN fL_isSigned_287 (sx_69 _ _) (⟨by decide, by decide⟩) ?_
                rw [xv_u_ne _ _ _ (by decide), hg5]
                refine xv_k fL_isSigned_288 ?_
                refine xv_il7 fL_isSigned_289 ?_
                refine xv_ishl fL_isSigned_291 ?_
                refine xv_eqi (y := nI (2 ^ q)) (sh1 _ (by omega)) ?_
                refine xv_ixor fL_isSigned_292 ?_
                refine xv_eqi (y := nI ((B ^^^ 2 ^ q) ^^^ 63)) (o2) ?_
                refine xv_iastN fL_isSigned_293 (sx_69 _ _) (⟨by decide, by decide⟩) ?_
                refine xv_k fL_isSigned_294 ?_
                refine xv_is11 fL_isSigned_295 ?_
                refine l_go n c J 20 0 _ _ rfl (xv_u_eq _ _ _ _) (fun l11 => ?_)
                refine xv_il10 fL_isSigned_322 ?_
                refine xv_k fL_isSigned_324 ?_
                refine xv_al2 fL_isSigned_325 ?_
                refine xv_k fL_isSigned_326 ?_
                refine xv_ialdN fL_isSigned_327 (sx_69 _ _) (⟨by decide, by decide⟩) ?_
                rw [lGo_at, if_neg (by omega), xv_u_eq]
                refine xv_il7 fL_isSigned_328 ?_
                refine xv_ishr fL_isSigned_330 ?_
                refine xv_k fL_isSigned_331 ?_
                refine xv_iand fL_isSigned_332 ?_
                refine xv_eqi (y := if ((B ^^^ 2 ^ q) ^^^ 63).testBit q = true then nI 1 else nI 0) (shL _ (t63 _ o3).1 q hq6) ?_
                refine xv_isub fL_isSigned_333 ?_
                refine xv_eqi (y := nI 1) (by rw [(t63 _ o3).2 q hq6, o4]; decide) ?_
                refine xv_ic_ne fL_isSigned_334 (fun h_334 => ?_) (fun h_334 => ?_)
                · exact absurd rfl h_334
                · refine xv_k fL_isSigned_337 ?_
                  refine xv_goto fL_isSigned_338 ?_
                  exact xv_iret fL_isSigned_342 rfl rfl ⟨rfl, c, rfl, rfl, rfl, hI.come hq6 hB g5 hT⟩
              · exact absurd ((nI_eq (by omega) (by omega)).mp h_267) (by omega)
            · exact absurd h_159 (by decide)
          · exact absurd h_62 (by decide)
theorem c_isSigned (n : Nat) (c : Nat × Nat) (I : xv_I) (J : xv_J) {what one two : Nat} (hw : what < 3) (h1 : one < 2 ^ 31) (h2 : two < 2 ^ 31) (hn : n < 1000) (hI : Inv c I) : xv_Met mL_isSigned 11 32 256 (sx n c) I (rx c) J [.ref 0, .ref 64, .ref 69, .int (nI what), .int (nI one), .int (nI two)] (qI n J) := by
  obtain ⟨B, hB, g5, hg5⟩ := hI.here
  have un : ∀ x, (∀ B', B' < 64 → I 1 5 = nI B' → B'.testBit (two % 7) = x) ∨ B.testBit (two % 7) = !x := fun x => by
    cases hx : B.testBit (two % 7) <;> cases x
    · exact Or.inl fun B' hB' g => by rw [← (nI_eq (by omega) (by omega)).mp (g5.symm.trans g)]; exact hx
    · exact Or.inr rfl
    · exact Or.inr rfl
    · exact Or.inl fun B' hB' g => by rw [← (nI_eq (by omega) (by omega)).mp (g5.symm.trans g)]; exact hx
  rcases (by omega : what = 0 ∨ what = 1 ∨ what = 2) with rfl | rfl | rfl
  · by_cases hp : one % 11 < 10
    · by_cases hq : two % 7 < 6
      · rcases un true with hT | hF
        · obtain ⟨b, hb, g15, g64, hsub⟩ := hI.2.2.2 _ hp
          have ub : ∀ x, b.testBit (two % 7) = x → ∀ b', b' < 64 → I 64 (one % 11) = nI b' → b'.testBit (two % 7) = x := fun x hx b' hb' g => by rw [← (nI_eq (by omega) (by omega)).mp (g64.symm.trans g)]; exact hx
          cases hx : b.testBit (two % 7) with
          | true => exact g_sign_d n c I J h1 h2 rfl rfl hn hI hp hq hT (ub true hx)
          | false => exact g_sign_ok n c I J h1 h2 rfl rfl hn hI hp hq hT (ub false hx)
        · exact g_sign_c n c I J h1 h2 rfl rfl hn hI hp hq ((un false).resolve_right (by rw [hF]; decide))
      · exact g_sign_b n c I J h1 h2 rfl rfl hn hI hp (by omega)
    · exact g_sign_a n c I J h1 h2 rfl rfl hn hI (by omega)
  · by_cases hp : one % 11 < 10
    · by_cases hq : two % 7 < 6
      · rcases un true with hT | hF
        · exact g_hold_ok n c I J h1 h2 rfl rfl hn hI hp hq hT
        · exact g_hold_c n c I J h1 h2 rfl rfl hn hI hp hq ((un false).resolve_right (by rw [hF]; decide))
      · exact g_hold_b n c I J h1 h2 rfl rfl hn hI hp (by omega)
    · exact g_hold_a n c I J h1 h2 rfl rfl hn hI (by omega)
  · by_cases hq : two % 7 < 6
    · rcases un true with hT | hF
      · exact g_pers_out n c I J h1 h2 rfl rfl hn hI hq hT
      · exact g_pers_in n c I J h1 h2 rfl rfl hn hI hq ((un false).resolve_right (by rw [hF]; decide))
    · exact g_pers_a n c I J h1 h2 rfl rfl hn hI (by omega)
