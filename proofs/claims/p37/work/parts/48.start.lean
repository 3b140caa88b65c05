/-! THE START: what lies there when the hall and the law's rows are made -/
def s00 (n : Nat) : xv_Sh := fun v => if v = 99 then some (.inr (.inr (n % 1000))) else none
def r00 : xv_Rf := fun _ _ => none
def i00 (s : Nat → Int32) : xv_I := fun v k => if v = 99 then s k else 0
def shA (n : Nat) : xv_Sh := kX10_initSh (xv_us (s00 n) 0 (.inl 10))
def rfA : xv_Rf := kX10_initRf (xv_z r00 0 none)
def iA (s : Nat → Int32) : xv_I := kX10_initI (xv_z (i00 s) 0 0)
def shF (n : Nat) : xv_Sh := xv_us (xv_us (xv_us (xv_us (xv_us (xv_us (xv_us (xv_us (xv_us (xv_us (shA n) 60 (.inr (.inl (.int, 10)))) 61 (.inr (.inl (.int, 20)))) 62 (.inr (.inl (.int, 20)))) 63 (.inr (.inl (.int, 20)))) 64 (.inr (.inl (.int, 20)))) 65 (.inr (.inl (.int, 4)))) 66 (.inr (.inl (.int, 60)))) 67 (.inr (.inl (.int, 60)))) 68 (.inr (.inl (.int, 6)))) 69 (.inr (.inl (.int, 6)))
def rfF : xv_Rf := xv_z (xv_z (xv_z (xv_z (xv_z (xv_z (xv_z (xv_z (xv_z (xv_z (rfA) 60 none) 61 none) 62 none) 63 none) 64 none) 65 none) 66 none) 67 none) 68 none) 69 none
def iF (s : Nat → Int32) : xv_I := xv_z (xv_z (xv_z (xv_z (xv_z (xv_z (xv_z (xv_z (xv_z (xv_z (iA s) 60 0) 61 0) 62 0) 63 0) 64 0) 65 0) 66 0) 67 0) 68 0) 69 0
theorem s00_o (n : Nat) {v : Nat} (h : v ≠ 99) : s00 n v = none := if_neg h
theorem shF_lt (n : Nat) (hn : n < 1000) : ∀ v, v < 100 → shF n v = sx n (0, 0) v
  | 0, _ => rfl
  | 1, _ => rfl
  | 2, _ => rfl
  | 3, _ => rfl
  | 4, _ => rfl
  | 5, _ => rfl
  | 6, _ => rfl
  | 7, _ => rfl
  | 8, _ => rfl
  | 9, _ => rfl
  | 10, _ => rfl
  | 11, _ => rfl
  | 12, _ => rfl
  | 13, _ => rfl
  | 14, _ => rfl
  | 15, _ => rfl
  | 16, _ => rfl
  | 17, _ => rfl
  | 18, _ => rfl
  | 19, _ => rfl
  | 20, _ => rfl
  | 21, _ => rfl
  | 22, _ => rfl
  | 23, _ => rfl
  | 24, _ => rfl
  | 25, _ => rfl
  | 26, _ => rfl
  | 27, _ => rfl
  | 28, _ => rfl
  | 29, _ => rfl
  | 30, _ => rfl
  | 31, _ => rfl
  | 32, _ => rfl
  | 33, _ => rfl
  | 34, _ => rfl
  | 35, _ => rfl
  | 36, _ => rfl
  | 37, _ => rfl
  | 38, _ => rfl
  | 39, _ => rfl
  | 40, _ => rfl
  | 41, _ => rfl
  | 42, _ => rfl
  | 43, _ => rfl
  | 44, _ => rfl
  | 45, _ => rfl
  | 46, _ => rfl
  | 47, _ => rfl
  | 48, _ => rfl
  | 49, _ => rfl
  | 50, _ => rfl
  | 51, _ => rfl
  | 52, _ => rfl
  | 53, _ => rfl
  | 54, _ => rfl
  | 55, _ => rfl
  | 56, _ => rfl
  | 57, _ => rfl
  | 58, _ => rfl
  | 59, _ => rfl
  | 60, _ => rfl
  | 61, _ => rfl
  | 62, _ => rfl
  | 63, _ => rfl
  | 64, _ => rfl
  | 65, _ => rfl
  | 66, _ => rfl
  | 67, _ => rfl
  | 68, _ => rfl
  | 69, _ => rfl
  | 70, _ => (by
    show none = (if n < 1000 then none else _)
    rw [if_pos hn])
  | 71, _ => rfl
  | 72, _ => rfl
  | 73, _ => rfl
  | 74, _ => rfl
  | 75, _ => rfl
  | 76, _ => rfl
  | 77, _ => rfl
  | 78, _ => rfl
  | 79, _ => rfl
  | 80, _ => rfl
  | 81, _ => rfl
  | 82, _ => rfl
  | 83, _ => rfl
  | 84, _ => rfl
  | 85, _ => rfl
  | 86, _ => rfl
  | 87, _ => rfl
  | 88, _ => rfl
  | 89, _ => rfl
  | 90, _ => rfl
  | 91, _ => rfl
  | 92, _ => rfl
  | 93, _ => rfl
  | 94, _ => rfl
  | 95, _ => rfl
  | 96, _ => rfl
  | 97, _ => rfl
  | 98, _ => rfl
  | 99, _ => rfl
  | v + 100, h => absurd h (by omega)
theorem shA_o (n : Nat) {v : Nat} (h : 55 < v) (h2 : v ≠ 99) : shA n v = none := (kX10_initSh_o (by omega)).trans ((xv_us_ne _ _ (by omega)).trans (s00_o n (by omega)))
theorem shF_eq (n : Nat) (hn : n < 1000) : shF n = sx n (0, 0) := by
  funext v
  by_cases h : v < 100
  · exact shF_lt n hn v h
  · have e1 : sx n (0, 0) v = none := by
      unfold sx
      rw [if_neg (by omega), if_neg (by omega), if_neg (by omega)]
      by_cases g : 100 ≤ v ∧ v < 120
      · rw [if_pos g, if_neg (by omega)]
      · rw [if_neg g]
        by_cases g2 : 200 ≤ v ∧ v < 300
        · rw [if_pos g2, if_neg (by omega)]
        · rw [if_neg g2]
    rw [e1]
    unfold shF
    rw [xv_us_ne _ _ (by omega), xv_us_ne _ _ (by omega), xv_us_ne _ _ (by omega), xv_us_ne _ _ (by omega), xv_us_ne _ _ (by omega), xv_us_ne _ _ (by omega), xv_us_ne _ _ (by omega), xv_us_ne _ _ (by omega), xv_us_ne _ _ (by omega), xv_us_ne _ _ (by omega)]
    exact shA_o n (by omega) (by omega)
theorem rfF_0 : ∀ j, rfF 0 j = rx (0, 0) 0 j
  | 0 => rfl
  | 1 => rfl
  | 2 => rfl
  | 3 => rfl
  | 4 => rfl
  | 5 => rfl
  | 6 => rfl
  | 7 => rfl
  | 8 => rfl
  | 9 => rfl
  | 10 => rfl
  | 11 => rfl
  | 12 => rfl
  | 13 => rfl
  | j + 14 => rfl
theorem rfF_1 : ∀ j, rfF 1 j = rx (0, 0) 1 j
  | 0 => rfl
  | 1 => rfl
  | 2 => rfl
  | 3 => rfl
  | 4 => rfl
  | j + 5 => rfl
theorem rfF_2 : ∀ j, rfF 2 j = rx (0, 0) 2 j
  | 0 => rfl
  | 1 => rfl
  | 2 => rfl
  | 3 => rfl
  | 4 => rfl
  | 5 => rfl
  | 6 => rfl
  | 7 => rfl
  | 8 => rfl
  | 9 => rfl
  | j + 10 => rfl
set_option maxRecDepth 4000 in
theorem rfF_3 (j : Nat) : rfF 3 j = rx (0, 0) 3 j := rfl
set_option maxRecDepth 4000 in
theorem rfF_4 (j : Nat) : rfF 4 j = rx (0, 0) 4 j := rfl
set_option maxRecDepth 4000 in
theorem rfF_5 (j : Nat) : rfF 5 j = rx (0, 0) 5 j := rfl
set_option maxRecDepth 4000 in
theorem rfF_6 (j : Nat) : rfF 6 j = rx (0, 0) 6 j := rfl
set_option maxRecDepth 4000 in
theorem rfF_7 (j : Nat) : rfF 7 j = rx (0, 0) 7 j := rfl
set_option maxRecDepth 4000 in
theorem rfF_8 (j : Nat) : rfF 8 j = rx (0, 0) 8 j := rfl
set_option maxRecDepth 4000 in
theorem rfF_9 (j : Nat) : rfF 9 j = rx (0, 0) 9 j := rfl
set_option maxRecDepth 4000 in
theorem rfF_10 (j : Nat) : rfF 10 j = rx (0, 0) 10 j := rfl
set_option maxRecDepth 4000 in
theorem rfF_11 (j : Nat) : rfF 11 j = rx (0, 0) 11 j := rfl
set_option maxRecDepth 4000 in
theorem rfF_12 (j : Nat) : rfF 12 j = rx (0, 0) 12 j := rfl
set_option maxRecDepth 4000 in
theorem rfF_13 (j : Nat) : rfF 13 j = rx (0, 0) 13 j := rfl
set_option maxRecDepth 4000 in
theorem rfF_14 (j : Nat) : rfF 14 j = rx (0, 0) 14 j := rfl
set_option maxRecDepth 4000 in
theorem rfF_15 (j : Nat) : rfF 15 j = rx (0, 0) 15 j := rfl
set_option maxRecDepth 4000 in
theorem rfF_16 (j : Nat) : rfF 16 j = rx (0, 0) 16 j := rfl
set_option maxRecDepth 4000 in
theorem rfF_17 (j : Nat) : rfF 17 j = rx (0, 0) 17 j := rfl
set_option maxRecDepth 4000 in
theorem rfF_18 (j : Nat) : rfF 18 j = rx (0, 0) 18 j := rfl
set_option maxRecDepth 4000 in
theorem rfF_19 (j : Nat) : rfF 19 j = rx (0, 0) 19 j := rfl
theorem rfF_20 : ∀ j, rfF 20 j = rx (0, 0) 20 j
  | 0 => rfl
  | 1 => rfl
  | 2 => rfl
  | j + 3 => rfl
theorem rfF_21 : ∀ j, rfF 21 j = rx (0, 0) 21 j
  | 0 => rfl
  | 1 => rfl
  | 2 => rfl
  | 3 => rfl
  | j + 4 => rfl
set_option maxRecDepth 4000 in
theorem rfF_22 (j : Nat) : rfF 22 j = rx (0, 0) 22 j := rfl
set_option maxRecDepth 4000 in
theorem rfF_23 (j : Nat) : rfF 23 j = rx (0, 0) 23 j := rfl
set_option maxRecDepth 4000 in
theorem rfF_24 (j : Nat) : rfF 24 j = rx (0, 0) 24 j := rfl
theorem rfF_25 : ∀ j, rfF 25 j = rx (0, 0) 25 j
  | 0 => rfl
  | 1 => rfl
  | 2 => rfl
  | 3 => rfl
  | j + 4 => rfl
set_option maxRecDepth 4000 in
theorem rfF_26 (j : Nat) : rfF 26 j = rx (0, 0) 26 j := rfl
set_option maxRecDepth 4000 in
theorem rfF_27 (j : Nat) : rfF 27 j = rx (0, 0) 27 j := rfl
set_option maxRecDepth 4000 in
theorem rfF_28 (j : Nat) : rfF 28 j = rx (0, 0) 28 j := rfl
theorem rfF_29 : ∀ j, rfF 29 j = rx (0, 0) 29 j
  | 0 => rfl
  | 1 => rfl
  | 2 => rfl
  | 3 => rfl
  | j + 4 => rfl
theorem rfF_30 : ∀ j, rfF 30 j = rx (0, 0) 30 j
  | 0 => rfl
  | 1 => rfl
  | 2 => rfl
  | 3 => rfl
  | 4 => rfl
  | 5 => rfl
  | 6 => rfl
  | 7 => rfl
  | j + 8 => rfl
set_option maxRecDepth 4000 in
theorem rfF_31 (j : Nat) : rfF 31 j = rx (0, 0) 31 j := rfl
set_option maxRecDepth 4000 in
theorem rfF_32 (j : Nat) : rfF 32 j = rx (0, 0) 32 j := rfl
set_option maxRecDepth 4000 in
theorem rfF_33 (j : Nat) : rfF 33 j = rx (0, 0) 33 j := rfl
set_option maxRecDepth 4000 in
theorem rfF_34 (j : Nat) : rfF 34 j = rx (0, 0) 34 j := rfl
set_option maxRecDepth 4000 in
theorem rfF_35 (j : Nat) : rfF 35 j = rx (0, 0) 35 j := rfl
set_option maxRecDepth 4000 in
theorem rfF_36 (j : Nat) : rfF 36 j = rx (0, 0) 36 j := rfl
set_option maxRecDepth 4000 in
theorem rfF_37 (j : Nat) : rfF 37 j = rx (0, 0) 37 j := rfl
set_option maxRecDepth 4000 in
theorem rfF_38 (j : Nat) : rfF 38 j = rx (0, 0) 38 j := rfl
set_option maxRecDepth 4000 in
theorem rfF_39 (j : Nat) : rfF 39 j = rx (0, 0) 39 j := rfl
set_option maxRecDepth 4000 in
theorem rfF_40 (j : Nat) : rfF 40 j = rx (0, 0) 40 j := rfl
theorem rfF_41 : ∀ j, rfF 41 j = rx (0, 0) 41 j
  | 0 => rfl
  | 1 => rfl
  | j + 2 => rfl
set_option maxRecDepth 4000 in
theorem rfF_42 (j : Nat) : rfF 42 j = rx (0, 0) 42 j := rfl
set_option maxRecDepth 4000 in
theorem rfF_43 (j : Nat) : rfF 43 j = rx (0, 0) 43 j := rfl
theorem rfF_44 : ∀ j, rfF 44 j = rx (0, 0) 44 j
  | 0 => rfl
  | 1 => rfl
  | j + 2 => rfl
set_option maxRecDepth 4000 in
theorem rfF_45 (j : Nat) : rfF 45 j = rx (0, 0) 45 j := rfl
set_option maxRecDepth 4000 in
theorem rfF_46 (j : Nat) : rfF 46 j = rx (0, 0) 46 j := rfl
set_option maxRecDepth 4000 in
theorem rfF_47 (j : Nat) : rfF 47 j = rx (0, 0) 47 j := rfl
theorem rfF_48 : ∀ j, rfF 48 j = rx (0, 0) 48 j
  | 0 => rfl
  | 1 => rfl
  | j + 2 => rfl
set_option maxRecDepth 4000 in
theorem rfF_49 (j : Nat) : rfF 49 j = rx (0, 0) 49 j := rfl
set_option maxRecDepth 4000 in
theorem rfF_50 (j : Nat) : rfF 50 j = rx (0, 0) 50 j := rfl
theorem rfF_51 : ∀ j, rfF 51 j = rx (0, 0) 51 j
  | 0 => rfl
  | 1 => rfl
  | 2 => rfl
  | 3 => rfl
  | j + 4 => rfl
set_option maxRecDepth 4000 in
theorem rfF_52 (j : Nat) : rfF 52 j = rx (0, 0) 52 j := rfl
set_option maxRecDepth 4000 in
theorem rfF_53 (j : Nat) : rfF 53 j = rx (0, 0) 53 j := rfl
set_option maxRecDepth 4000 in
theorem rfF_54 (j : Nat) : rfF 54 j = rx (0, 0) 54 j := rfl
set_option maxRecDepth 4000 in
theorem rfF_55 (j : Nat) : rfF 55 j = rx (0, 0) 55 j := rfl
set_option maxRecDepth 4000 in
theorem rfF_56 (j : Nat) : rfF 56 j = rx (0, 0) 56 j := rfl
set_option maxRecDepth 4000 in
theorem rfF_57 (j : Nat) : rfF 57 j = rx (0, 0) 57 j := rfl
set_option maxRecDepth 4000 in
theorem rfF_58 (j : Nat) : rfF 58 j = rx (0, 0) 58 j := rfl
set_option maxRecDepth 4000 in
theorem rfF_59 (j : Nat) : rfF 59 j = rx (0, 0) 59 j := rfl
set_option maxRecDepth 4000 in
theorem rfF_60 (j : Nat) : rfF 60 j = rx (0, 0) 60 j := rfl
set_option maxRecDepth 4000 in
theorem rfF_61 (j : Nat) : rfF 61 j = rx (0, 0) 61 j := rfl
set_option maxRecDepth 4000 in
theorem rfF_62 (j : Nat) : rfF 62 j = rx (0, 0) 62 j := rfl
set_option maxRecDepth 4000 in
theorem rfF_63 (j : Nat) : rfF 63 j = rx (0, 0) 63 j := rfl
set_option maxRecDepth 4000 in
theorem rfF_64 (j : Nat) : rfF 64 j = rx (0, 0) 64 j := rfl
set_option maxRecDepth 4000 in
theorem rfF_65 (j : Nat) : rfF 65 j = rx (0, 0) 65 j := rfl
set_option maxRecDepth 4000 in
theorem rfF_66 (j : Nat) : rfF 66 j = rx (0, 0) 66 j := rfl
set_option maxRecDepth 4000 in
theorem rfF_67 (j : Nat) : rfF 67 j = rx (0, 0) 67 j := rfl
set_option maxRecDepth 4000 in
theorem rfF_68 (j : Nat) : rfF 68 j = rx (0, 0) 68 j := rfl
set_option maxRecDepth 4000 in
theorem rfF_69 (j : Nat) : rfF 69 j = rx (0, 0) 69 j := rfl
set_option maxRecDepth 4000 in
theorem rfF_70 (j : Nat) : rfF 70 j = rx (0, 0) 70 j := rfl
set_option maxRecDepth 4000 in
theorem rfF_71 (j : Nat) : rfF 71 j = rx (0, 0) 71 j := rfl
set_option maxRecDepth 4000 in
theorem rfF_72 (j : Nat) : rfF 72 j = rx (0, 0) 72 j := rfl
set_option maxRecDepth 4000 in
theorem rfF_73 (j : Nat) : rfF 73 j = rx (0, 0) 73 j := rfl
set_option maxRecDepth 4000 in
theorem rfF_74 (j : Nat) : rfF 74 j = rx (0, 0) 74 j := rfl
set_option maxRecDepth 4000 in
theorem rfF_75 (j : Nat) : rfF 75 j = rx (0, 0) 75 j := rfl
set_option maxRecDepth 4000 in
theorem rfF_76 (j : Nat) : rfF 76 j = rx (0, 0) 76 j := rfl
set_option maxRecDepth 4000 in
theorem rfF_77 (j : Nat) : rfF 77 j = rx (0, 0) 77 j := rfl
set_option maxRecDepth 4000 in
theorem rfF_78 (j : Nat) : rfF 78 j = rx (0, 0) 78 j := rfl
set_option maxRecDepth 4000 in
theorem rfF_79 (j : Nat) : rfF 79 j = rx (0, 0) 79 j := rfl
set_option maxRecDepth 4000 in
theorem rfF_80 (j : Nat) : rfF 80 j = rx (0, 0) 80 j := rfl
set_option maxRecDepth 4000 in
theorem rfF_81 (j : Nat) : rfF 81 j = rx (0, 0) 81 j := rfl
set_option maxRecDepth 4000 in
theorem rfF_82 (j : Nat) : rfF 82 j = rx (0, 0) 82 j := rfl
set_option maxRecDepth 4000 in
theorem rfF_83 (j : Nat) : rfF 83 j = rx (0, 0) 83 j := rfl
set_option maxRecDepth 4000 in
theorem rfF_84 (j : Nat) : rfF 84 j = rx (0, 0) 84 j := rfl
set_option maxRecDepth 4000 in
theorem rfF_85 (j : Nat) : rfF 85 j = rx (0, 0) 85 j := rfl
set_option maxRecDepth 4000 in
theorem rfF_86 (j : Nat) : rfF 86 j = rx (0, 0) 86 j := rfl
set_option maxRecDepth 4000 in
theorem rfF_87 (j : Nat) : rfF 87 j = rx (0, 0) 87 j := rfl
set_option maxRecDepth 4000 in
theorem rfF_88 (j : Nat) : rfF 88 j = rx (0, 0) 88 j := rfl
set_option maxRecDepth 4000 in
theorem rfF_89 (j : Nat) : rfF 89 j = rx (0, 0) 89 j := rfl
set_option maxRecDepth 4000 in
theorem rfF_90 (j : Nat) : rfF 90 j = rx (0, 0) 90 j := rfl
set_option maxRecDepth 4000 in
theorem rfF_91 (j : Nat) : rfF 91 j = rx (0, 0) 91 j := rfl
set_option maxRecDepth 4000 in
theorem rfF_92 (j : Nat) : rfF 92 j = rx (0, 0) 92 j := rfl
set_option maxRecDepth 4000 in
theorem rfF_93 (j : Nat) : rfF 93 j = rx (0, 0) 93 j := rfl
set_option maxRecDepth 4000 in
theorem rfF_94 (j : Nat) : rfF 94 j = rx (0, 0) 94 j := rfl
set_option maxRecDepth 4000 in
theorem rfF_95 (j : Nat) : rfF 95 j = rx (0, 0) 95 j := rfl
set_option maxRecDepth 4000 in
theorem rfF_96 (j : Nat) : rfF 96 j = rx (0, 0) 96 j := rfl
set_option maxRecDepth 4000 in
theorem rfF_97 (j : Nat) : rfF 97 j = rx (0, 0) 97 j := rfl
set_option maxRecDepth 4000 in
theorem rfF_98 (j : Nat) : rfF 98 j = rx (0, 0) 98 j := rfl
set_option maxRecDepth 4000 in
theorem rfF_99 (j : Nat) : rfF 99 j = rx (0, 0) 99 j := rfl
theorem rfF_lt : ∀ v, v < 100 → ∀ j, rfF v j = rx (0, 0) v j
  | 0, _ => rfF_0
  | 1, _ => rfF_1
  | 2, _ => rfF_2
  | 3, _ => rfF_3
  | 4, _ => rfF_4
  | 5, _ => rfF_5
  | 6, _ => rfF_6
  | 7, _ => rfF_7
  | 8, _ => rfF_8
  | 9, _ => rfF_9
  | 10, _ => rfF_10
  | 11, _ => rfF_11
  | 12, _ => rfF_12
  | 13, _ => rfF_13
  | 14, _ => rfF_14
  | 15, _ => rfF_15
  | 16, _ => rfF_16
  | 17, _ => rfF_17
  | 18, _ => rfF_18
  | 19, _ => rfF_19
  | 20, _ => rfF_20
  | 21, _ => rfF_21
  | 22, _ => rfF_22
  | 23, _ => rfF_23
  | 24, _ => rfF_24
  | 25, _ => rfF_25
  | 26, _ => rfF_26
  | 27, _ => rfF_27
  | 28, _ => rfF_28
  | 29, _ => rfF_29
  | 30, _ => rfF_30
  | 31, _ => rfF_31
  | 32, _ => rfF_32
  | 33, _ => rfF_33
  | 34, _ => rfF_34
  | 35, _ => rfF_35
  | 36, _ => rfF_36
  | 37, _ => rfF_37
  | 38, _ => rfF_38
  | 39, _ => rfF_39
  | 40, _ => rfF_40
  | 41, _ => rfF_41
  | 42, _ => rfF_42
  | 43, _ => rfF_43
  | 44, _ => rfF_44
  | 45, _ => rfF_45
  | 46, _ => rfF_46
  | 47, _ => rfF_47
  | 48, _ => rfF_48
  | 49, _ => rfF_49
  | 50, _ => rfF_50
  | 51, _ => rfF_51
  | 52, _ => rfF_52
  | 53, _ => rfF_53
  | 54, _ => rfF_54
  | 55, _ => rfF_55
  | 56, _ => rfF_56
  | 57, _ => rfF_57
  | 58, _ => rfF_58
  | 59, _ => rfF_59
  | 60, _ => rfF_60
  | 61, _ => rfF_61
  | 62, _ => rfF_62
  | 63, _ => rfF_63
  | 64, _ => rfF_64
  | 65, _ => rfF_65
  | 66, _ => rfF_66
  | 67, _ => rfF_67
  | 68, _ => rfF_68
  | 69, _ => rfF_69
  | 70, _ => rfF_70
  | 71, _ => rfF_71
  | 72, _ => rfF_72
  | 73, _ => rfF_73
  | 74, _ => rfF_74
  | 75, _ => rfF_75
  | 76, _ => rfF_76
  | 77, _ => rfF_77
  | 78, _ => rfF_78
  | 79, _ => rfF_79
  | 80, _ => rfF_80
  | 81, _ => rfF_81
  | 82, _ => rfF_82
  | 83, _ => rfF_83
  | 84, _ => rfF_84
  | 85, _ => rfF_85
  | 86, _ => rfF_86
  | 87, _ => rfF_87
  | 88, _ => rfF_88
  | 89, _ => rfF_89
  | 90, _ => rfF_90
  | 91, _ => rfF_91
  | 92, _ => rfF_92
  | 93, _ => rfF_93
  | 94, _ => rfF_94
  | 95, _ => rfF_95
  | 96, _ => rfF_96
  | 97, _ => rfF_97
  | 98, _ => rfF_98
  | 99, _ => rfF_99
  | v + 100, h => absurd h (by omega)
theorem xv_mr_o {Rf : xv_Rf} {o b N v j : Nat} (h : v ≠ o) (h2 : ¬ (b ≤ v ∧ v < b + N)) : xv_mr Rf o b N v j = Rf v j := by
  unfold xv_mr
  rw [if_neg h, if_neg h2]
theorem rfF_ge {v : Nat} (h : 100 ≤ v) (j : Nat) : rfF v j = none := by
  unfold rfF rfA kX10_initRf kX5_initRf kX3_initRf kX1_initRf kX7_initRf kX2_initRf kX9_initRf kX4_initRf wRf
  simp (disch := omega) only [xv_z_ne, xv_u_ne, xv_mr_o]
  rfl
theorem rfF_eq : rfF = rx (0, 0) := by
  funext v j
  by_cases h : v < 100
  · exact rfF_lt v h j
  · rw [rfF_ge (by omega)]
    unfold rx
    rw [if_neg (by omega), if_neg (by omega), if_neg (by omega), if_neg (by omega)]
theorem iF_0_3 (s : Nat → Int32) : iF s 0 3 = 0 := rfl
theorem iF_0_5 (s : Nat → Int32) : iF s 0 5 = 0 := rfl
theorem iF_1_5 (s : Nat → Int32) : iF s 1 5 = nI 63 := rfl
theorem iF_1_6 (s : Nat → Int32) : iF s 1 6 = 0 := rfl
theorem iF_29_2 (s : Nat → Int32) : iF s 29 2 = 0 := rfl
theorem iF_29_4 (s : Nat → Int32) : iF s 29 4 = 0 := rfl
theorem iFz_3 (s : Nat → Int32) (j : Nat) : iF s 3 j = 0 := rfl
theorem iFz_4 (s : Nat → Int32) (j : Nat) : iF s 4 j = 0 := rfl
theorem iFz_5 (s : Nat → Int32) (j : Nat) : iF s 5 j = 0 := rfl
theorem iFz_6 (s : Nat → Int32) (j : Nat) : iF s 6 j = 0 := rfl
theorem iFz_7 (s : Nat → Int32) (j : Nat) : iF s 7 j = 0 := rfl
theorem iFz_8 (s : Nat → Int32) (j : Nat) : iF s 8 j = 0 := rfl
theorem iFz_9 (s : Nat → Int32) (j : Nat) : iF s 9 j = 0 := rfl
theorem iFz_10 (s : Nat → Int32) (j : Nat) : iF s 10 j = 0 := rfl
theorem iFz_11 (s : Nat → Int32) (j : Nat) : iF s 11 j = 0 := rfl
theorem iFz_12 (s : Nat → Int32) (j : Nat) : iF s 12 j = 0 := rfl
theorem iFz_13 (s : Nat → Int32) (j : Nat) : iF s 13 j = 0 := rfl
theorem iFz_14 (s : Nat → Int32) (j : Nat) : iF s 14 j = 0 := rfl
theorem iFz_15 (s : Nat → Int32) (j : Nat) : iF s 15 j = 0 := rfl
theorem iFz_16 (s : Nat → Int32) (j : Nat) : iF s 16 j = 0 := rfl
theorem iFz_60 (s : Nat → Int32) (j : Nat) : iF s 60 j = 0 := rfl
theorem iFz_61 (s : Nat → Int32) (j : Nat) : iF s 61 j = 0 := rfl
theorem iFz_62 (s : Nat → Int32) (j : Nat) : iF s 62 j = 0 := rfl
theorem iFz_63 (s : Nat → Int32) (j : Nat) : iF s 63 j = 0 := rfl
theorem iFz_64 (s : Nat → Int32) (j : Nat) : iF s 64 j = 0 := rfl
theorem iFz_65 (s : Nat → Int32) (j : Nat) : iF s 65 j = 0 := rfl
theorem iFz_66 (s : Nat → Int32) (j : Nat) : iF s 66 j = 0 := rfl
theorem iFz_67 (s : Nat → Int32) (j : Nat) : iF s 67 j = 0 := rfl
theorem iFz_68 (s : Nat → Int32) (j : Nat) : iF s 68 j = 0 := rfl
theorem iFz_69 (s : Nat → Int32) (j : Nat) : iF s 69 j = 0 := rfl
theorem iF_row (s : Nat → Int32) : ∀ p, p < 10 → ∀ j, iF s (3 + p) j = 0
  | 0, _ => iFz_3 s
  | 1, _ => iFz_4 s
  | 2, _ => iFz_5 s
  | 3, _ => iFz_6 s
  | 4, _ => iFz_7 s
  | 5, _ => iFz_8 s
  | 6, _ => iFz_9 s
  | 7, _ => iFz_10 s
  | 8, _ => iFz_11 s
  | 9, _ => iFz_12 s
  | p + 10, h => absurd h (by omega)
theorem iF_17 (s : Nat → Int32) : ∀ k, k < 4 → iF s 17 k = nI 1
  | 0, _ => rfl
  | 1, _ => rfl
  | 2, _ => rfl
  | 3, _ => rfl
  | p + 4, h => absurd h (by omega)
/-- the distances are 1 -/
def iD (k : Nat) (I : xv_I) : xv_I := xv_u I 65 k (nI 1)
theorem iD_at (v j : Nat) : ∀ (m k : Nat) (I : xv_I), it iD m k I v j = if v = 65 ∧ k ≤ j ∧ j < k + m then nI 1 else I v j
  | 0, k, I => by rw [it, if_neg (by omega)]
  | m + 1, k, I => by
    rw [it, iD_at v j m (k + 1)]
    unfold iD xv_u
    by_cases h : v = 65 ∧ k ≤ j ∧ j < k + (m + 1)
    · rw [if_pos h]
      by_cases h2 : j = k
      · rw [if_neg (by omega), if_pos ⟨h.1, h2⟩]
      · rw [if_pos (by omega)]
    · rw [if_neg h, if_neg (by omega), if_neg (by omega)]
theorem inv0 (s : Nat → Int32) : Inv (0, 0) (it iD 4 0 (iF s)) := by
  have e : ∀ v j, v ≠ 65 → it iD 4 0 (iF s) v j = iF s v j := fun v j h => by rw [iD_at, if_neg (by omega)]
  have ec : ∀ p, p < 10 → ∀ k, it iD 4 0 (iF s) (3 + p) k = nI 0 := fun p hp k => (e _ _ (by omega)).trans (iF_row s p hp k)
  have eE : ∀ p k, cE (it iD 4 0 (iF s)) p k = nI 0 := fun p k => by
    unfold cE
    rw [e 66 _ (by decide), e 67 _ (by decide)]
    by_cases h : p < 5
    · rw [if_pos h]; rfl
    · rw [if_neg h]; rfl
  refine ⟨⟨fun p hp => ⟨0, 0, by decide, by decide, e _ _ (by decide), e _ _ (by decide), e _ _ (by decide)⟩, fun p hp k hk => ⟨0, Or.inl rfl, Or.inl (by decide), ec p hp k⟩, fun p hp => ⟨0, by decide, e _ _ (by decide), e _ _ (by decide), fun B _ _ => Nat.zero_and B⟩, ⟨63, by decide, e _ _ (by decide), e _ _ (by decide)⟩, fun k hk => ⟨1, by decide, (e _ _ (by decide)).trans (iF_17 s k hk), by rw [iD_at, if_pos ⟨rfl, by omega, by omega⟩]⟩, ⟨e _ _ (by decide), e _ _ (by decide), by decide, fun a h => absurd h (Nat.not_lt_zero _)⟩, ⟨e _ _ (by decide), e _ _ (by decide), by decide, fun a h => absurd h (Nat.not_lt_zero _)⟩, ⟨0, by decide, e _ _ (by decide), e _ _ (by decide)⟩, ⟨0, by decide, e _ _ (by decide), e _ _ (by decide), fun j h => absurd h (Nat.not_lt_zero _)⟩⟩, fun p hp k hk => (ec p hp k).trans (eE p k).symm, ⟨0, by decide, e _ _ (by decide), e _ _ (by decide)⟩, fun p hp => ⟨0, by decide, e _ _ (by decide), e _ _ (by decide), fun B _ _ => Nat.zero_and B⟩⟩
theorem Inv.setPage {c : Nat × Nat} {I : xv_I} (hI : Inv c I) {p s k : Nat} (hp : p < 10) (hs : s < 4) (hk : k < 2) (hb : ∀ j, j < 12 → I (3 + p) j = 0) : Inv c (xv_u (xv_u (xv_u I 13 p (nI s)) 14 p (nI k)) 60 p (nI (s + 10 * k))) := by
  have e : ∀ v j, (v ≠ 13 ∨ j ≠ p) → (v ≠ 14 ∨ j ≠ p) → (v ≠ 60 ∨ j ≠ p) → xv_u (xv_u (xv_u I 13 p (nI s)) 14 p (nI k)) 60 p (nI (s + 10 * k)) v j = I v j := fun v j h1 h2 h3 => by
    unfold xv_u
    rw [if_neg (by omega), if_neg (by omega), if_neg (by omega)]
  have e13 : xv_u (xv_u (xv_u I 13 p (nI s)) 14 p (nI k)) 60 p (nI (s + 10 * k)) 13 p = nI s := by
    unfold xv_u
    rw [if_neg (by omega), if_neg (by omega), if_pos ⟨rfl, rfl⟩]
  have e14 : xv_u (xv_u (xv_u I 13 p (nI s)) 14 p (nI k)) 60 p (nI (s + 10 * k)) 14 p = nI k := by
    unfold xv_u
    rw [if_neg (by omega), if_pos ⟨rfl, rfl⟩]
  have e60 : xv_u (xv_u (xv_u I 13 p (nI s)) 14 p (nI k)) 60 p (nI (s + 10 * k)) 60 p = nI (s + 10 * k) := xv_u_eq _ _ _ _
  generalize xv_u (xv_u (xv_u I 13 p (nI s)) 14 p (nI k)) 60 p (nI (s + 10 * k)) = K at *
  have ec : ∀ p, p < 10 → ∀ k, K (3 + p) k = I (3 + p) k := fun q hq k => e _ _ (by omega) (by omega) (by omega)
  refine ⟨⟨fun q hq => ?_, hI.ok.to fun v j g => e v j (by omega) (by omega) (by omega), hI.hold.to fun v j g => e v j (by omega) (by omega) (by omega), hI.here.to fun v j g => e v j (by omega) (by omega) (by omega), hI.dist.to fun v j g => e v j (by omega) (by omega) (by omega), hI.ad.to (fun v j g => e v j (by omega) (by omega) (by omega)) (fun a _ q hq k hk => by rw [ec q hq k]), ⟨(e _ _ (by omega) (by omega) (by omega)).trans hI.st.1, (e _ _ (by omega) (by omega) (by omega)).trans hI.st.2.1, hI.st.2.2.1, fun a ha => ?_⟩, hI.ed.to fun v j g => e v j (by omega) (by omega) (by omega), hI.owe.to fun v j g => e v j (by omega) (by omega) (by omega)⟩, hI.2.1.to fun v j g => e v j (by omega) (by omega) (by omega), hI.2.2.1.to fun v j g => e v j (by omega) (by omega) (by omega), hI.2.2.2.to (e _ _ (by omega) (by omega) (by omega)) fun v j hj g => e v j (by omega) (by omega) (by omega)⟩
  · by_cases g : q = p
    · subst g
      exact ⟨s, k, hs, hk, e13, e14, e60⟩
    · obtain ⟨s', k', h1, h2, h3, h4, h5⟩ := hI.page q hq
      exact ⟨s', k', h1, h2, (e _ _ (by omega) (by omega) (by omega)).trans h3, (e _ _ (by omega) (by omega) (by omega)).trans h4, (e _ _ (by omega) (by omega) (by omega)).trans h5⟩
  · refine (hI.st.2.2.2 a ha).to (fun v j h1 h2 => e v j (by omega) (by omega) (by omega)) (e _ _ (by omega) (by omega) (by omega)) (fun q hq => ?_) fun q hq k hk => by rw [ec q hq k]
    by_cases g : q = p
    · subst g
      refine Or.inr (Or.inr fun k hk r => ?_)
      have h22 := hI.st.2.2.1
      exact nI_ne0 (show 0 < 200 + a by omega) (by omega) (r.symm.trans (hb k hk))
    · exact Or.inl (e _ _ (by omega) (by omega) (by omega))
