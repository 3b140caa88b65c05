/-! THE STATE: the numbers of the cells. 0: the hall; 1 to 55 what it holds; 60 the model, 61 to 97 its rows; 98 the law's long[1]; 99 the script (n ints); 100 + k the advertisements; 200 + 5 k the stories (way, pages, starts, sizes behind). -/
def sxl : List (Option xv_S) := [some (.inl 10), some (.inl 5), some (.inr (.inl (.array .int, 10))), some (.inr (.inl (.int, 12))), some (.inr (.inl (.int, 12))), some (.inr (.inl (.int, 12))), some (.inr (.inl (.int, 12))), some (.inr (.inl (.int, 12))), some (.inr (.inl (.int, 12))), some (.inr (.inl (.int, 12))), some (.inr (.inl (.int, 12))), some (.inr (.inl (.int, 12))), some (.inr (.inl (.int, 12))), some (.inr (.inl (.int, 10))), some (.inr (.inl (.boolean, 10))), some (.inr (.inl (.int, 10))), some (.inr (.inl (.int, 10))), some (.inr (.inl (.int, 4))), some (.inr (.inl (.object "PressHall$Advert", 20))), some (.inr (.inl (.object "PressHall$Story", 20))), some (.inl 3), some (.inl 8), some (.inr (.inl (.int, 2))), some (.inr (.inl (.int, 2))), some (.inr (.inl (.int, 2))), some (.inl 8), some (.inr (.inl (.int, 2))), some (.inr (.inl (.int, 2))), some (.inr (.inl (.int, 2))), some (.inl 1), some (.inr (.inl (.array .int, 8))), some (.inr (.inl (.int, 120))), some (.inr (.inl (.int, 120))), some (.inr (.inl (.int, 120))), some (.inr (.inl (.int, 120))), some (.inr (.inl (.int, 120))), some (.inr (.inl (.int, 120))), some (.inr (.inl (.int, 120))), some (.inr (.inl (.int, 120))), some (.inr (.inl (.int, 8))), some (.inr (.inl (.int, 5))), some (.inl 7), some (.inr (.inl (.int, 6))), some (.inr (.inl (.int, 6))), some (.inl 2), some (.inr (.inl (.int, 5))), some (.inr (.inl (.int, 5))), some (.inr (.inl (.int, 6))), some (.inl 9), some (.inr (.inl (.int, 12))), some (.inr (.inl (.int, 12))), some (.inl 4), some (.inr (.inl (.int, 16))), some (.inr (.inl (.int, 4))), some (.inr (.inl (.int, 4))), some (.inr (.inl (.int, 4))), none, none, none, none, some (.inl 11), some (.inr (.inl (.int, 10))), some (.inr (.inl (.boolean, 10))), some (.inr (.inl (.int, 120))), some (.inr (.inl (.int, 4))), some (.inr (.inl (.int, 20))), some (.inr (.inl (.int, 20))), some (.inr (.inl (.int, 20))), some (.inr (.inl (.boolean, 20))), some (.inr (.inl (.int, 20))), some (.inr (.inl (.int, 20))), some (.inr (.inl (.int, 20))), some (.inr (.inl (.int, 20))), some (.inr (.inl (.int, 20))), some (.inr (.inl (.int, 120))), some (.inr (.inl (.int, 20))), some (.inr (.inl (.int, 20))), some (.inr (.inl (.int, 40))), some (.inr (.inl (.int, 40))), some (.inr (.inl (.int, 40))), some (.inr (.inl (.boolean, 6))), some (.inr (.inl (.boolean, 60))), some (.inr (.inl (.boolean, 60))), some (.inr (.inl (.int, 960))), some (.inr (.inl (.int, 8))), some (.inr (.inl (.int, 5))), some (.inr (.inl (.int, 6))), some (.inr (.inl (.int, 6))), some (.inr (.inl (.int, 5))), some (.inr (.inl (.int, 5))), some (.inr (.inl (.int, 6))), some (.inr (.inl (.int, 13))), some (.inr (.inl (.int, 13))), some (.inr (.inl (.int, 16))), some (.inr (.inl (.int, 16))), some (.inr (.inl (.int, 2))), some (.inr (.inl (.int, 2))), some (.inr (.inl (.int, 2))), some (.inr (.inl (.long, 1)))]
def sx (n : Nat) (c : Nat × Nat) : xv_Sh := fun v => if v < 99 then (sxl[v]?).getD none else if v = 99 then some (.inr (.inr n)) else if 100 ≤ v ∧ v < 120 then (if v < 100 + c.1 then some (.inl 0) else none) else if 200 ≤ v ∧ v < 300 then (if v < 200 + 5 * c.2 then (if (v - 200) % 5 = 0 then some (.inl 6) else if (v - 200) % 5 = 1 then some (.inl 8) else some (.inr (.inl (.int, 2)))) else none) else none
def rxl : List (List (Option Nat)) := [[some 1, some 17, some 18, none, some 19, none, some 20, some 29, some 41, none, some 44, some 47, some 48, some 51], [some 2, some 13, some 14, some 15, some 16], [some 3, some 4, some 5, some 6, some 7, some 8, some 9, some 10, some 11, some 12], [], [], [], [], [], [], [], [], [], [], [], [], [], [], [], [], [], [some 1, some 21, some 25], [none, some 22, some 23, some 24], [], [], [], [none, some 26, some 27, some 28], [], [], [], [some 30, some 39, none, some 40], [some 31, some 32, some 33, some 34, some 35, some 36, some 37, some 38], [], [], [], [], [], [], [], [], [], [], [some 42, some 43], [], [], [some 45, some 46], [], [], [], [some 49, some 50], [], [], [some 52, some 53, some 54, some 55], [], [], [], [], [], [], [], [], [some 61, some 62, some 63, none, some 64, none, some 65, some 66, some 67, some 68, some 69, some 70, some 71, none, some 72, some 73, some 74, some 75, some 76, some 77, some 78, some 79, some 80, some 81, some 82, none, some 83, some 84, none, some 85, none, none, some 86, some 87, none, some 88, some 89, some 90, none, some 91, some 92, some 93, some 94, none, some 95, some 96, some 97]]
def rx (c : Nat × Nat) : xv_Rf := fun v k => if v = 18 then (if k < c.1 ∧ k < 20 then some (100 + k) else none) else if v = 19 then (if k < c.2 ∧ k < 20 then some (200 + 5 * k) else none) else if v < 61 then (((rxl[v]?).getD [])[k]?).getD none else if 200 ≤ v ∧ v < 200 + 5 * c.2 ∧ v < 300 then (if (v - 200) % 5 = 0 then (if k = 4 then some (v + 1) else none) else if (v - 200) % 5 = 1 then (if 1 ≤ k ∧ k ≤ 3 then some (v + k) else none) else none) else none
theorem sx_0 (n : Nat) (c : Nat × Nat) : sx n c 0 = some (.inl 10) := rfl
theorem sx_1 (n : Nat) (c : Nat × Nat) : sx n c 1 = some (.inl 5) := rfl
theorem sx_2 (n : Nat) (c : Nat × Nat) : sx n c 2 = some (.inr (.inl (.array .int, 10))) := rfl
theorem sx_3 (n : Nat) (c : Nat × Nat) : sx n c 3 = some (.inr (.inl (.int, 12))) := rfl
theorem sx_4 (n : Nat) (c : Nat × Nat) : sx n c 4 = some (.inr (.inl (.int, 12))) := rfl
theorem sx_5 (n : Nat) (c : Nat × Nat) : sx n c 5 = some (.inr (.inl (.int, 12))) := rfl
theorem sx_6 (n : Nat) (c : Nat × Nat) : sx n c 6 = some (.inr (.inl (.int, 12))) := rfl
theorem sx_7 (n : Nat) (c : Nat × Nat) : sx n c 7 = some (.inr (.inl (.int, 12))) := rfl
theorem sx_8 (n : Nat) (c : Nat × Nat) : sx n c 8 = some (.inr (.inl (.int, 12))) := rfl
theorem sx_9 (n : Nat) (c : Nat × Nat) : sx n c 9 = some (.inr (.inl (.int, 12))) := rfl
theorem sx_10 (n : Nat) (c : Nat × Nat) : sx n c 10 = some (.inr (.inl (.int, 12))) := rfl
theorem sx_11 (n : Nat) (c : Nat × Nat) : sx n c 11 = some (.inr (.inl (.int, 12))) := rfl
theorem sx_12 (n : Nat) (c : Nat × Nat) : sx n c 12 = some (.inr (.inl (.int, 12))) := rfl
theorem sx_13 (n : Nat) (c : Nat × Nat) : sx n c 13 = some (.inr (.inl (.int, 10))) := rfl
theorem sx_14 (n : Nat) (c : Nat × Nat) : sx n c 14 = some (.inr (.inl (.boolean, 10))) := rfl
theorem sx_15 (n : Nat) (c : Nat × Nat) : sx n c 15 = some (.inr (.inl (.int, 10))) := rfl
theorem sx_16 (n : Nat) (c : Nat × Nat) : sx n c 16 = some (.inr (.inl (.int, 10))) := rfl
theorem sx_17 (n : Nat) (c : Nat × Nat) : sx n c 17 = some (.inr (.inl (.int, 4))) := rfl
theorem sx_18 (n : Nat) (c : Nat × Nat) : sx n c 18 = some (.inr (.inl (.object "PressHall$Advert", 20))) := rfl
theorem sx_19 (n : Nat) (c : Nat × Nat) : sx n c 19 = some (.inr (.inl (.object "PressHall$Story", 20))) := rfl
theorem sx_20 (n : Nat) (c : Nat × Nat) : sx n c 20 = some (.inl 3) := rfl
theorem sx_21 (n : Nat) (c : Nat × Nat) : sx n c 21 = some (.inl 8) := rfl
theorem sx_22 (n : Nat) (c : Nat × Nat) : sx n c 22 = some (.inr (.inl (.int, 2))) := rfl
theorem sx_23 (n : Nat) (c : Nat × Nat) : sx n c 23 = some (.inr (.inl (.int, 2))) := rfl
theorem sx_24 (n : Nat) (c : Nat × Nat) : sx n c 24 = some (.inr (.inl (.int, 2))) := rfl
theorem sx_25 (n : Nat) (c : Nat × Nat) : sx n c 25 = some (.inl 8) := rfl
theorem sx_26 (n : Nat) (c : Nat × Nat) : sx n c 26 = some (.inr (.inl (.int, 2))) := rfl
theorem sx_27 (n : Nat) (c : Nat × Nat) : sx n c 27 = some (.inr (.inl (.int, 2))) := rfl
theorem sx_28 (n : Nat) (c : Nat × Nat) : sx n c 28 = some (.inr (.inl (.int, 2))) := rfl
theorem sx_29 (n : Nat) (c : Nat × Nat) : sx n c 29 = some (.inl 1) := rfl
theorem sx_30 (n : Nat) (c : Nat × Nat) : sx n c 30 = some (.inr (.inl (.array .int, 8))) := rfl
theorem sx_31 (n : Nat) (c : Nat × Nat) : sx n c 31 = some (.inr (.inl (.int, 120))) := rfl
theorem sx_32 (n : Nat) (c : Nat × Nat) : sx n c 32 = some (.inr (.inl (.int, 120))) := rfl
theorem sx_33 (n : Nat) (c : Nat × Nat) : sx n c 33 = some (.inr (.inl (.int, 120))) := rfl
theorem sx_34 (n : Nat) (c : Nat × Nat) : sx n c 34 = some (.inr (.inl (.int, 120))) := rfl
theorem sx_35 (n : Nat) (c : Nat × Nat) : sx n c 35 = some (.inr (.inl (.int, 120))) := rfl
theorem sx_36 (n : Nat) (c : Nat × Nat) : sx n c 36 = some (.inr (.inl (.int, 120))) := rfl
theorem sx_37 (n : Nat) (c : Nat × Nat) : sx n c 37 = some (.inr (.inl (.int, 120))) := rfl
theorem sx_38 (n : Nat) (c : Nat × Nat) : sx n c 38 = some (.inr (.inl (.int, 120))) := rfl
theorem sx_39 (n : Nat) (c : Nat × Nat) : sx n c 39 = some (.inr (.inl (.int, 8))) := rfl
theorem sx_40 (n : Nat) (c : Nat × Nat) : sx n c 40 = some (.inr (.inl (.int, 5))) := rfl
theorem sx_41 (n : Nat) (c : Nat × Nat) : sx n c 41 = some (.inl 7) := rfl
theorem sx_42 (n : Nat) (c : Nat × Nat) : sx n c 42 = some (.inr (.inl (.int, 6))) := rfl
theorem sx_43 (n : Nat) (c : Nat × Nat) : sx n c 43 = some (.inr (.inl (.int, 6))) := rfl
theorem sx_44 (n : Nat) (c : Nat × Nat) : sx n c 44 = some (.inl 2) := rfl
theorem sx_45 (n : Nat) (c : Nat × Nat) : sx n c 45 = some (.inr (.inl (.int, 5))) := rfl
theorem sx_46 (n : Nat) (c : Nat × Nat) : sx n c 46 = some (.inr (.inl (.int, 5))) := rfl
theorem sx_47 (n : Nat) (c : Nat × Nat) : sx n c 47 = some (.inr (.inl (.int, 6))) := rfl
theorem sx_48 (n : Nat) (c : Nat × Nat) : sx n c 48 = some (.inl 9) := rfl
theorem sx_49 (n : Nat) (c : Nat × Nat) : sx n c 49 = some (.inr (.inl (.int, 12))) := rfl
theorem sx_50 (n : Nat) (c : Nat × Nat) : sx n c 50 = some (.inr (.inl (.int, 12))) := rfl
theorem sx_51 (n : Nat) (c : Nat × Nat) : sx n c 51 = some (.inl 4) := rfl
theorem sx_52 (n : Nat) (c : Nat × Nat) : sx n c 52 = some (.inr (.inl (.int, 16))) := rfl
theorem sx_53 (n : Nat) (c : Nat × Nat) : sx n c 53 = some (.inr (.inl (.int, 4))) := rfl
theorem sx_54 (n : Nat) (c : Nat × Nat) : sx n c 54 = some (.inr (.inl (.int, 4))) := rfl
theorem sx_55 (n : Nat) (c : Nat × Nat) : sx n c 55 = some (.inr (.inl (.int, 4))) := rfl
theorem sx_60 (n : Nat) (c : Nat × Nat) : sx n c 60 = some (.inl 11) := rfl
theorem sx_61 (n : Nat) (c : Nat × Nat) : sx n c 61 = some (.inr (.inl (.int, 10))) := rfl
theorem sx_62 (n : Nat) (c : Nat × Nat) : sx n c 62 = some (.inr (.inl (.boolean, 10))) := rfl
theorem sx_63 (n : Nat) (c : Nat × Nat) : sx n c 63 = some (.inr (.inl (.int, 120))) := rfl
theorem sx_64 (n : Nat) (c : Nat × Nat) : sx n c 64 = some (.inr (.inl (.int, 4))) := rfl
theorem sx_65 (n : Nat) (c : Nat × Nat) : sx n c 65 = some (.inr (.inl (.int, 20))) := rfl
theorem sx_66 (n : Nat) (c : Nat × Nat) : sx n c 66 = some (.inr (.inl (.int, 20))) := rfl
theorem sx_67 (n : Nat) (c : Nat × Nat) : sx n c 67 = some (.inr (.inl (.int, 20))) := rfl
theorem sx_68 (n : Nat) (c : Nat × Nat) : sx n c 68 = some (.inr (.inl (.boolean, 20))) := rfl
theorem sx_69 (n : Nat) (c : Nat × Nat) : sx n c 69 = some (.inr (.inl (.int, 20))) := rfl
theorem sx_70 (n : Nat) (c : Nat × Nat) : sx n c 70 = some (.inr (.inl (.int, 20))) := rfl
theorem sx_71 (n : Nat) (c : Nat × Nat) : sx n c 71 = some (.inr (.inl (.int, 20))) := rfl
theorem sx_72 (n : Nat) (c : Nat × Nat) : sx n c 72 = some (.inr (.inl (.int, 20))) := rfl
theorem sx_73 (n : Nat) (c : Nat × Nat) : sx n c 73 = some (.inr (.inl (.int, 20))) := rfl
theorem sx_74 (n : Nat) (c : Nat × Nat) : sx n c 74 = some (.inr (.inl (.int, 120))) := rfl
theorem sx_75 (n : Nat) (c : Nat × Nat) : sx n c 75 = some (.inr (.inl (.int, 20))) := rfl
theorem sx_76 (n : Nat) (c : Nat × Nat) : sx n c 76 = some (.inr (.inl (.int, 20))) := rfl
theorem sx_77 (n : Nat) (c : Nat × Nat) : sx n c 77 = some (.inr (.inl (.int, 40))) := rfl
theorem sx_78 (n : Nat) (c : Nat × Nat) : sx n c 78 = some (.inr (.inl (.int, 40))) := rfl
theorem sx_79 (n : Nat) (c : Nat × Nat) : sx n c 79 = some (.inr (.inl (.int, 40))) := rfl
theorem sx_80 (n : Nat) (c : Nat × Nat) : sx n c 80 = some (.inr (.inl (.boolean, 6))) := rfl
theorem sx_81 (n : Nat) (c : Nat × Nat) : sx n c 81 = some (.inr (.inl (.boolean, 60))) := rfl
theorem sx_82 (n : Nat) (c : Nat × Nat) : sx n c 82 = some (.inr (.inl (.boolean, 60))) := rfl
theorem sx_83 (n : Nat) (c : Nat × Nat) : sx n c 83 = some (.inr (.inl (.int, 960))) := rfl
theorem sx_84 (n : Nat) (c : Nat × Nat) : sx n c 84 = some (.inr (.inl (.int, 8))) := rfl
theorem sx_85 (n : Nat) (c : Nat × Nat) : sx n c 85 = some (.inr (.inl (.int, 5))) := rfl
theorem sx_86 (n : Nat) (c : Nat × Nat) : sx n c 86 = some (.inr (.inl (.int, 6))) := rfl
theorem sx_87 (n : Nat) (c : Nat × Nat) : sx n c 87 = some (.inr (.inl (.int, 6))) := rfl
theorem sx_88 (n : Nat) (c : Nat × Nat) : sx n c 88 = some (.inr (.inl (.int, 5))) := rfl
theorem sx_89 (n : Nat) (c : Nat × Nat) : sx n c 89 = some (.inr (.inl (.int, 5))) := rfl
theorem sx_90 (n : Nat) (c : Nat × Nat) : sx n c 90 = some (.inr (.inl (.int, 6))) := rfl
theorem sx_91 (n : Nat) (c : Nat × Nat) : sx n c 91 = some (.inr (.inl (.int, 13))) := rfl
theorem sx_92 (n : Nat) (c : Nat × Nat) : sx n c 92 = some (.inr (.inl (.int, 13))) := rfl
theorem sx_93 (n : Nat) (c : Nat × Nat) : sx n c 93 = some (.inr (.inl (.int, 16))) := rfl
theorem sx_94 (n : Nat) (c : Nat × Nat) : sx n c 94 = some (.inr (.inl (.int, 16))) := rfl
theorem sx_95 (n : Nat) (c : Nat × Nat) : sx n c 95 = some (.inr (.inl (.int, 2))) := rfl
theorem sx_96 (n : Nat) (c : Nat × Nat) : sx n c 96 = some (.inr (.inl (.int, 2))) := rfl
theorem sx_97 (n : Nat) (c : Nat × Nat) : sx n c 97 = some (.inr (.inl (.int, 2))) := rfl
theorem sx_98 (n : Nat) (c : Nat × Nat) : sx n c 98 = some (.inr (.inl (.long, 1))) := rfl
theorem sx_99 (n : Nat) (c : Nat × Nat) : sx n c 99 = some (.inr (.inr n)) := rfl
theorem rx_0_0 (c : Nat × Nat) : rx c 0 0 = some 1 := rfl
theorem rx_0_1 (c : Nat × Nat) : rx c 0 1 = some 17 := rfl
theorem rx_0_2 (c : Nat × Nat) : rx c 0 2 = some 18 := rfl
theorem rx_0_4 (c : Nat × Nat) : rx c 0 4 = some 19 := rfl
theorem rx_0_6 (c : Nat × Nat) : rx c 0 6 = some 20 := rfl
theorem rx_0_7 (c : Nat × Nat) : rx c 0 7 = some 29 := rfl
theorem rx_0_8 (c : Nat × Nat) : rx c 0 8 = some 41 := rfl
theorem rx_0_10 (c : Nat × Nat) : rx c 0 10 = some 44 := rfl
theorem rx_0_11 (c : Nat × Nat) : rx c 0 11 = some 47 := rfl
theorem rx_0_12 (c : Nat × Nat) : rx c 0 12 = some 48 := rfl
theorem rx_0_13 (c : Nat × Nat) : rx c 0 13 = some 51 := rfl
theorem rx_1_0 (c : Nat × Nat) : rx c 1 0 = some 2 := rfl
theorem rx_1_1 (c : Nat × Nat) : rx c 1 1 = some 13 := rfl
theorem rx_1_2 (c : Nat × Nat) : rx c 1 2 = some 14 := rfl
theorem rx_1_3 (c : Nat × Nat) : rx c 1 3 = some 15 := rfl
theorem rx_1_4 (c : Nat × Nat) : rx c 1 4 = some 16 := rfl
theorem rx_2_0 (c : Nat × Nat) : rx c 2 0 = some 3 := rfl
theorem rx_2_1 (c : Nat × Nat) : rx c 2 1 = some 4 := rfl
theorem rx_2_2 (c : Nat × Nat) : rx c 2 2 = some 5 := rfl
theorem rx_2_3 (c : Nat × Nat) : rx c 2 3 = some 6 := rfl
theorem rx_2_4 (c : Nat × Nat) : rx c 2 4 = some 7 := rfl
theorem rx_2_5 (c : Nat × Nat) : rx c 2 5 = some 8 := rfl
theorem rx_2_6 (c : Nat × Nat) : rx c 2 6 = some 9 := rfl
theorem rx_2_7 (c : Nat × Nat) : rx c 2 7 = some 10 := rfl
theorem rx_2_8 (c : Nat × Nat) : rx c 2 8 = some 11 := rfl
theorem rx_2_9 (c : Nat × Nat) : rx c 2 9 = some 12 := rfl
theorem rx_20_0 (c : Nat × Nat) : rx c 20 0 = some 1 := rfl
theorem rx_20_1 (c : Nat × Nat) : rx c 20 1 = some 21 := rfl
theorem rx_20_2 (c : Nat × Nat) : rx c 20 2 = some 25 := rfl
theorem rx_21_1 (c : Nat × Nat) : rx c 21 1 = some 22 := rfl
theorem rx_21_2 (c : Nat × Nat) : rx c 21 2 = some 23 := rfl
theorem rx_21_3 (c : Nat × Nat) : rx c 21 3 = some 24 := rfl
theorem rx_25_1 (c : Nat × Nat) : rx c 25 1 = some 26 := rfl
theorem rx_25_2 (c : Nat × Nat) : rx c 25 2 = some 27 := rfl
theorem rx_25_3 (c : Nat × Nat) : rx c 25 3 = some 28 := rfl
theorem rx_29_0 (c : Nat × Nat) : rx c 29 0 = some 30 := rfl
theorem rx_29_1 (c : Nat × Nat) : rx c 29 1 = some 39 := rfl
theorem rx_29_3 (c : Nat × Nat) : rx c 29 3 = some 40 := rfl
theorem rx_30_0 (c : Nat × Nat) : rx c 30 0 = some 31 := rfl
theorem rx_30_1 (c : Nat × Nat) : rx c 30 1 = some 32 := rfl
theorem rx_30_2 (c : Nat × Nat) : rx c 30 2 = some 33 := rfl
theorem rx_30_3 (c : Nat × Nat) : rx c 30 3 = some 34 := rfl
theorem rx_30_4 (c : Nat × Nat) : rx c 30 4 = some 35 := rfl
theorem rx_30_5 (c : Nat × Nat) : rx c 30 5 = some 36 := rfl
theorem rx_30_6 (c : Nat × Nat) : rx c 30 6 = some 37 := rfl
theorem rx_30_7 (c : Nat × Nat) : rx c 30 7 = some 38 := rfl
theorem rx_41_0 (c : Nat × Nat) : rx c 41 0 = some 42 := rfl
theorem rx_41_1 (c : Nat × Nat) : rx c 41 1 = some 43 := rfl
theorem rx_44_0 (c : Nat × Nat) : rx c 44 0 = some 45 := rfl
theorem rx_44_1 (c : Nat × Nat) : rx c 44 1 = some 46 := rfl
theorem rx_48_0 (c : Nat × Nat) : rx c 48 0 = some 49 := rfl
theorem rx_48_1 (c : Nat × Nat) : rx c 48 1 = some 50 := rfl
theorem rx_51_0 (c : Nat × Nat) : rx c 51 0 = some 52 := rfl
theorem rx_51_1 (c : Nat × Nat) : rx c 51 1 = some 53 := rfl
theorem rx_51_2 (c : Nat × Nat) : rx c 51 2 = some 54 := rfl
theorem rx_51_3 (c : Nat × Nat) : rx c 51 3 = some 55 := rfl
theorem rx_60_0 (c : Nat × Nat) : rx c 60 0 = some 61 := rfl
theorem rx_60_1 (c : Nat × Nat) : rx c 60 1 = some 62 := rfl
theorem rx_60_2 (c : Nat × Nat) : rx c 60 2 = some 63 := rfl
theorem rx_60_4 (c : Nat × Nat) : rx c 60 4 = some 64 := rfl
theorem rx_60_6 (c : Nat × Nat) : rx c 60 6 = some 65 := rfl
theorem rx_60_7 (c : Nat × Nat) : rx c 60 7 = some 66 := rfl
theorem rx_60_8 (c : Nat × Nat) : rx c 60 8 = some 67 := rfl
theorem rx_60_9 (c : Nat × Nat) : rx c 60 9 = some 68 := rfl
theorem rx_60_10 (c : Nat × Nat) : rx c 60 10 = some 69 := rfl
theorem rx_60_11 (c : Nat × Nat) : rx c 60 11 = some 70 := rfl
theorem rx_60_12 (c : Nat × Nat) : rx c 60 12 = some 71 := rfl
theorem rx_60_14 (c : Nat × Nat) : rx c 60 14 = some 72 := rfl
theorem rx_60_15 (c : Nat × Nat) : rx c 60 15 = some 73 := rfl
theorem rx_60_16 (c : Nat × Nat) : rx c 60 16 = some 74 := rfl
theorem rx_60_17 (c : Nat × Nat) : rx c 60 17 = some 75 := rfl
theorem rx_60_18 (c : Nat × Nat) : rx c 60 18 = some 76 := rfl
theorem rx_60_19 (c : Nat × Nat) : rx c 60 19 = some 77 := rfl
theorem rx_60_20 (c : Nat × Nat) : rx c 60 20 = some 78 := rfl
theorem rx_60_21 (c : Nat × Nat) : rx c 60 21 = some 79 := rfl
theorem rx_60_22 (c : Nat × Nat) : rx c 60 22 = some 80 := rfl
theorem rx_60_23 (c : Nat × Nat) : rx c 60 23 = some 81 := rfl
theorem rx_60_24 (c : Nat × Nat) : rx c 60 24 = some 82 := rfl
theorem rx_60_26 (c : Nat × Nat) : rx c 60 26 = some 83 := rfl
theorem rx_60_27 (c : Nat × Nat) : rx c 60 27 = some 84 := rfl
theorem rx_60_29 (c : Nat × Nat) : rx c 60 29 = some 85 := rfl
theorem rx_60_32 (c : Nat × Nat) : rx c 60 32 = some 86 := rfl
theorem rx_60_33 (c : Nat × Nat) : rx c 60 33 = some 87 := rfl
theorem rx_60_35 (c : Nat × Nat) : rx c 60 35 = some 88 := rfl
theorem rx_60_36 (c : Nat × Nat) : rx c 60 36 = some 89 := rfl
theorem rx_60_37 (c : Nat × Nat) : rx c 60 37 = some 90 := rfl
theorem rx_60_39 (c : Nat × Nat) : rx c 60 39 = some 91 := rfl
theorem rx_60_40 (c : Nat × Nat) : rx c 60 40 = some 92 := rfl
theorem rx_60_41 (c : Nat × Nat) : rx c 60 41 = some 93 := rfl
theorem rx_60_42 (c : Nat × Nat) : rx c 60 42 = some 94 := rfl
theorem rx_60_44 (c : Nat × Nat) : rx c 60 44 = some 95 := rfl
theorem rx_60_45 (c : Nat × Nat) : rx c 60 45 = some 96 := rfl
theorem rx_60_46 (c : Nat × Nat) : rx c 60 46 = some 97 := rfl
theorem sx_ad (n : Nat) (c : Nat × Nat) {k : Nat} (h : k < c.1) (h2 : k < 20) : sx n c (100 + k) = some (.inl 0) := by
  unfold sx
  rw [if_neg (by omega), if_neg (by omega), if_pos (by omega), if_pos (by omega)]
theorem sx_st (n : Nat) (c : Nat × Nat) {k : Nat} (h : k < c.2) (h2 : k < 20) : sx n c (200 + 5 * k) = some (.inl 6) := by
  unfold sx
  rw [if_neg (by omega), if_neg (by omega), if_neg (by omega), if_pos (by omega), if_pos (by omega), if_pos (by omega)]
theorem sx_wy (n : Nat) (c : Nat × Nat) {k : Nat} (h : k < c.2) (h2 : k < 20) : sx n c (201 + 5 * k) = some (.inl 8) := by
  unfold sx
  rw [if_neg (by omega), if_neg (by omega), if_neg (by omega), if_pos (by omega), if_pos (by omega), if_neg (by omega), if_pos (by omega)]
theorem sx_wa (n : Nat) (c : Nat × Nat) {k j : Nat} (h : k < c.2) (h2 : k < 20) (hj : 2 ≤ j) (hj2 : j ≤ 4) : sx n c (200 + j + 5 * k) = some (.inr (.inl (.int, 2))) := by
  unfold sx
  rw [if_neg (by omega), if_neg (by omega), if_neg (by omega), if_pos (by omega), if_pos (by omega), if_neg (by omega), if_neg (by omega)]
theorem sx_w2 (n : Nat) (c : Nat × Nat) {k : Nat} (h : k < c.2) (h2 : k < 20) : sx n c (202 + 5 * k) = some (.inr (.inl (.int, 2))) := sx_wa n c h h2 (j := 2) (by decide) (by decide)
theorem sx_w3 (n : Nat) (c : Nat × Nat) {k : Nat} (h : k < c.2) (h2 : k < 20) : sx n c (203 + 5 * k) = some (.inr (.inl (.int, 2))) := sx_wa n c h h2 (j := 3) (by decide) (by decide)
theorem sx_w4 (n : Nat) (c : Nat × Nat) {k : Nat} (h : k < c.2) (h2 : k < 20) : sx n c (204 + 5 * k) = some (.inr (.inl (.int, 2))) := sx_wa n c h h2 (j := 4) (by decide) (by decide)
theorem rx_ad (c : Nat × Nat) {k : Nat} (h : k < c.1) (h2 : k < 20) : rx c 18 k = some (100 + k) := by
  unfold rx
  rw [if_pos rfl, if_pos ⟨h, h2⟩]
theorem rx_adn (c : Nat × Nat) {k : Nat} (h : c.1 ≤ k) : rx c 18 k = none := by
  unfold rx
  rw [if_pos rfl, if_neg (by omega)]
theorem rx_st (c : Nat × Nat) {k : Nat} (h : k < c.2) (h2 : k < 20) : rx c 19 k = some (200 + 5 * k) := by
  unfold rx
  rw [if_neg (by decide), if_pos rfl, if_pos ⟨h, h2⟩]
theorem rx_stn (c : Nat × Nat) {k : Nat} (h : c.2 ≤ k) : rx c 19 k = none := by
  unfold rx
  rw [if_neg (by decide), if_pos rfl, if_neg (by omega)]
theorem rx_way (c : Nat × Nat) {k : Nat} (h : k < c.2) (h2 : k < 20) : rx c (200 + 5 * k) 4 = some (201 + 5 * k) := by
  unfold rx
  rw [if_neg (by omega), if_neg (by omega), if_neg (by omega), if_pos ⟨by omega, by omega, by omega⟩, if_pos (by omega), if_pos rfl]
  congr 1
  omega
theorem rx_wj (c : Nat × Nat) {k j : Nat} (h : k < c.2) (h2 : k < 20) (hj : 1 ≤ j) (hj2 : j ≤ 3) : rx c (201 + 5 * k) j = some (201 + j + 5 * k) := by
  unfold rx
  rw [if_neg (by omega), if_neg (by omega), if_neg (by omega), if_pos ⟨by omega, by omega, by omega⟩, if_neg (by omega), if_pos (by omega), if_pos ⟨hj, hj2⟩]
  congr 1
  omega
theorem rx_w1 (c : Nat × Nat) {k : Nat} (h : k < c.2) (h2 : k < 20) : rx c (201 + 5 * k) 1 = some (202 + 5 * k) := rx_wj c h h2 (by decide) (by decide)
theorem rx_w2 (c : Nat × Nat) {k : Nat} (h : k < c.2) (h2 : k < 20) : rx c (201 + 5 * k) 2 = some (203 + 5 * k) := rx_wj c h h2 (by decide) (by decide)
theorem rx_w3 (c : Nat × Nat) {k : Nat} (h : k < c.2) (h2 : k < 20) : rx c (201 + 5 * k) 3 = some (204 + 5 * k) := rx_wj c h h2 (by decide) (by decide)
theorem tpF0_0 : xv_T mX0_init 0 0 := by
  intro C T N h
  cases h
  exact ⟨tyX0_ok, nmX0, Or.inr ⟨rfl, rfl, rfl⟩⟩
theorem tpF0_1 : xv_T mX0_init 0 1 := by
  intro C T N h
  cases h
  exact ⟨tyX0_ok, nmX0, Or.inr ⟨rfl, rfl, rfl⟩⟩
theorem tpF0_2 : xv_T mX0_init 0 2 := by
  intro C T N h
  cases h
  exact ⟨tyX0_ok, nmX0, Or.inr ⟨rfl, rfl, rfl⟩⟩
theorem tpF0_3 : xv_T mX0_init 0 3 := by
  intro C T N h
  cases h
  exact ⟨tyX0_ok, nmX0, Or.inr ⟨rfl, rfl, rfl⟩⟩
theorem tpF0_4 : xv_T mX0_init 0 4 := by
  intro C T N h
  cases h
  exact ⟨tyX0_ok, nmX0, Or.inr ⟨rfl, rfl, rfl⟩⟩
theorem tpF0_5 : xv_T mX0_init 0 5 := by
  intro C T N h
  cases h
  exact ⟨tyX0_ok, nmX0, Or.inr ⟨rfl, rfl, rfl⟩⟩
theorem tp0_6 (M : xv_M) : xv_T M 0 6 := by
  intro C T N h
  cases h
  exact ⟨tyX0_ok, nmX0, Or.inl rfl⟩
theorem tp0_7 (M : xv_M) : xv_T M 0 7 := by
  intro C T N h
  cases h
  exact ⟨tyX0_ok, nmX0, Or.inl rfl⟩
theorem tpF1_0 : xv_T mX1_init 1 0 := by
  intro C T N h
  cases h
  exact ⟨tyX1_ok, nmX1, Or.inr ⟨rfl, rfl, rfl⟩⟩
theorem tpF1_1 : xv_T mX1_init 1 1 := by
  intro C T N h
  cases h
  exact ⟨tyX1_ok, nmX1, Or.inr ⟨rfl, rfl, rfl⟩⟩
theorem tp1_2 (M : xv_M) : xv_T M 1 2 := by
  intro C T N h
  cases h
  exact ⟨tyX1_ok, nmX1, Or.inl rfl⟩
theorem tpF1_3 : xv_T mX1_init 1 3 := by
  intro C T N h
  cases h
  exact ⟨tyX1_ok, nmX1, Or.inr ⟨rfl, rfl, rfl⟩⟩
theorem tp1_4 (M : xv_M) : xv_T M 1 4 := by
  intro C T N h
  cases h
  exact ⟨tyX1_ok, nmX1, Or.inl rfl⟩
theorem tpF2_0 : xv_T mX2_init 2 0 := by
  intro C T N h
  cases h
  exact ⟨tyX2_ok, nmX2, Or.inr ⟨rfl, rfl, rfl⟩⟩
theorem tpF2_1 : xv_T mX2_init 2 1 := by
  intro C T N h
  cases h
  exact ⟨tyX2_ok, nmX2, Or.inr ⟨rfl, rfl, rfl⟩⟩
theorem tp2_2 (M : xv_M) : xv_T M 2 2 := by
  intro C T N h
  cases h
  exact ⟨tyX2_ok, nmX2, Or.inl rfl⟩
theorem tpF3_0 : xv_T mX3_init 3 0 := by
  intro C T N h
  cases h
  exact ⟨tyX3_ok, nmX3, Or.inr ⟨rfl, rfl, rfl⟩⟩
theorem tpF3_1 : xv_T mX3_init 3 1 := by
  intro C T N h
  cases h
  exact ⟨tyX3_ok, nmX3, Or.inr ⟨rfl, rfl, rfl⟩⟩
theorem tpF3_2 : xv_T mX3_init 3 2 := by
  intro C T N h
  cases h
  exact ⟨tyX3_ok, nmX3, Or.inr ⟨rfl, rfl, rfl⟩⟩
theorem tp3_3 (M : xv_M) : xv_T M 3 3 := by
  intro C T N h
  cases h
  exact ⟨tyX3_ok, nmX3, Or.inl rfl⟩
theorem tp3_4 (M : xv_M) : xv_T M 3 4 := by
  intro C T N h
  cases h
  exact ⟨tyX3_ok, nmX3, Or.inl rfl⟩
theorem tp3_5 (M : xv_M) : xv_T M 3 5 := by
  intro C T N h
  cases h
  exact ⟨tyX3_ok, nmX3, Or.inl rfl⟩
theorem tpF4_0 : xv_T mX4_init 4 0 := by
  intro C T N h
  cases h
  exact ⟨tyX4_ok, nmX4, Or.inr ⟨rfl, rfl, rfl⟩⟩
theorem tpF4_1 : xv_T mX4_init 4 1 := by
  intro C T N h
  cases h
  exact ⟨tyX4_ok, nmX4, Or.inr ⟨rfl, rfl, rfl⟩⟩
theorem tpF4_2 : xv_T mX4_init 4 2 := by
  intro C T N h
  cases h
  exact ⟨tyX4_ok, nmX4, Or.inr ⟨rfl, rfl, rfl⟩⟩
theorem tpF4_3 : xv_T mX4_init 4 3 := by
  intro C T N h
  cases h
  exact ⟨tyX4_ok, nmX4, Or.inr ⟨rfl, rfl, rfl⟩⟩
theorem tpF5_0 : xv_T mX5_init 5 0 := by
  intro C T N h
  cases h
  exact ⟨tyX5_ok, nmX5, Or.inr ⟨rfl, rfl, rfl⟩⟩
theorem tpF5_1 : xv_T mX5_init 5 1 := by
  intro C T N h
  cases h
  exact ⟨tyX5_ok, nmX5, Or.inr ⟨rfl, rfl, rfl⟩⟩
theorem tpF5_2 : xv_T mX5_init 5 2 := by
  intro C T N h
  cases h
  exact ⟨tyX5_ok, nmX5, Or.inr ⟨rfl, rfl, rfl⟩⟩
theorem tpF5_3 : xv_T mX5_init 5 3 := by
  intro C T N h
  cases h
  exact ⟨tyX5_ok, nmX5, Or.inr ⟨rfl, rfl, rfl⟩⟩
theorem tpF5_4 : xv_T mX5_init 5 4 := by
  intro C T N h
  cases h
  exact ⟨tyX5_ok, nmX5, Or.inr ⟨rfl, rfl, rfl⟩⟩
theorem tp5_5 (M : xv_M) : xv_T M 5 5 := by
  intro C T N h
  cases h
  exact ⟨tyX5_ok, nmX5, Or.inl rfl⟩
theorem tp5_6 (M : xv_M) : xv_T M 5 6 := by
  intro C T N h
  cases h
  exact ⟨tyX5_ok, nmX5, Or.inl rfl⟩
theorem tpF6_0 : xv_T mX6_init 6 0 := by
  intro C T N h
  cases h
  exact ⟨tyX6_ok, nmX6, Or.inr ⟨rfl, rfl, rfl⟩⟩
theorem tpF6_1 : xv_T mX6_init 6 1 := by
  intro C T N h
  cases h
  exact ⟨tyX6_ok, nmX6, Or.inr ⟨rfl, rfl, rfl⟩⟩
theorem tpF6_2 : xv_T mX6_init 6 2 := by
  intro C T N h
  cases h
  exact ⟨tyX6_ok, nmX6, Or.inr ⟨rfl, rfl, rfl⟩⟩
theorem tpF6_3 : xv_T mX6_init 6 3 := by
  intro C T N h
  cases h
  exact ⟨tyX6_ok, nmX6, Or.inr ⟨rfl, rfl, rfl⟩⟩
theorem tpF6_4 : xv_T mX6_init 6 4 := by
  intro C T N h
  cases h
  exact ⟨tyX6_ok, nmX6, Or.inr ⟨rfl, rfl, rfl⟩⟩
theorem tpF7_0 : xv_T mX7_init 7 0 := by
  intro C T N h
  cases h
  exact ⟨tyX7_ok, nmX7, Or.inr ⟨rfl, rfl, rfl⟩⟩
theorem tpF7_1 : xv_T mX7_init 7 1 := by
  intro C T N h
  cases h
  exact ⟨tyX7_ok, nmX7, Or.inr ⟨rfl, rfl, rfl⟩⟩
theorem tp7_2 (M : xv_M) : xv_T M 7 2 := by
  intro C T N h
  cases h
  exact ⟨tyX7_ok, nmX7, Or.inl rfl⟩
theorem tp8_0 (M : xv_M) : xv_T M 8 0 := by
  intro C T N h
  cases h
  exact ⟨tyX8_ok, nmX8, Or.inl rfl⟩
theorem tpF8_1 : xv_T mX8_init 8 1 := by
  intro C T N h
  cases h
  exact ⟨tyX8_ok, nmX8, Or.inr ⟨rfl, rfl, rfl⟩⟩
theorem tpF8_2 : xv_T mX8_init 8 2 := by
  intro C T N h
  cases h
  exact ⟨tyX8_ok, nmX8, Or.inr ⟨rfl, rfl, rfl⟩⟩
theorem tpF8_3 : xv_T mX8_init 8 3 := by
  intro C T N h
  cases h
  exact ⟨tyX8_ok, nmX8, Or.inr ⟨rfl, rfl, rfl⟩⟩
theorem tpF9_0 : xv_T mX9_init 9 0 := by
  intro C T N h
  cases h
  exact ⟨tyX9_ok, nmX9, Or.inr ⟨rfl, rfl, rfl⟩⟩
theorem tpF9_1 : xv_T mX9_init 9 1 := by
  intro C T N h
  cases h
  exact ⟨tyX9_ok, nmX9, Or.inr ⟨rfl, rfl, rfl⟩⟩
theorem tp9_2 (M : xv_M) : xv_T M 9 2 := by
  intro C T N h
  cases h
  exact ⟨tyX9_ok, nmX9, Or.inl rfl⟩
theorem tpF10_0 : xv_T mX10_init 10 0 := by
  intro C T N h
  cases h
  exact ⟨tyX10_ok, nmX10, Or.inr ⟨rfl, rfl, rfl⟩⟩
theorem tpF10_1 : xv_T mX10_init 10 1 := by
  intro C T N h
  cases h
  exact ⟨tyX10_ok, nmX10, Or.inr ⟨rfl, rfl, rfl⟩⟩
theorem tpF10_2 : xv_T mX10_init 10 2 := by
  intro C T N h
  cases h
  exact ⟨tyX10_ok, nmX10, Or.inr ⟨rfl, rfl, rfl⟩⟩
theorem tp10_3 (M : xv_M) : xv_T M 10 3 := by
  intro C T N h
  cases h
  exact ⟨tyX10_ok, nmX10, Or.inl rfl⟩
theorem tpF10_4 : xv_T mX10_init 10 4 := by
  intro C T N h
  cases h
  exact ⟨tyX10_ok, nmX10, Or.inr ⟨rfl, rfl, rfl⟩⟩
theorem tp10_5 (M : xv_M) : xv_T M 10 5 := by
  intro C T N h
  cases h
  exact ⟨tyX10_ok, nmX10, Or.inl rfl⟩
theorem tpF10_6 : xv_T mX10_init 10 6 := by
  intro C T N h
  cases h
  exact ⟨tyX10_ok, nmX10, Or.inr ⟨rfl, rfl, rfl⟩⟩
theorem tpF10_7 : xv_T mX10_init 10 7 := by
  intro C T N h
  cases h
  exact ⟨tyX10_ok, nmX10, Or.inr ⟨rfl, rfl, rfl⟩⟩
theorem tpF10_8 : xv_T mX10_init 10 8 := by
  intro C T N h
  cases h
  exact ⟨tyX10_ok, nmX10, Or.inr ⟨rfl, rfl, rfl⟩⟩
theorem tp10_9 (M : xv_M) : xv_T M 10 9 := by
  intro C T N h
  cases h
  exact ⟨tyX10_ok, nmX10, Or.inl rfl⟩
theorem tpF10_10 : xv_T mX10_init 10 10 := by
  intro C T N h
  cases h
  exact ⟨tyX10_ok, nmX10, Or.inr ⟨rfl, rfl, rfl⟩⟩
theorem tpF10_11 : xv_T mX10_init 10 11 := by
  intro C T N h
  cases h
  exact ⟨tyX10_ok, nmX10, Or.inr ⟨rfl, rfl, rfl⟩⟩
theorem tpF10_12 : xv_T mX10_init 10 12 := by
  intro C T N h
  cases h
  exact ⟨tyX10_ok, nmX10, Or.inr ⟨rfl, rfl, rfl⟩⟩
theorem tpF10_13 : xv_T mX10_init 10 13 := by
  intro C T N h
  cases h
  exact ⟨tyX10_ok, nmX10, Or.inr ⟨rfl, rfl, rfl⟩⟩
theorem tpF11_0 : xv_T mX11_init 11 0 := by
  intro C T N h
  cases h
  exact ⟨tyX11_ok, nmX11, Or.inr ⟨rfl, rfl, rfl⟩⟩
theorem tpF11_1 : xv_T mX11_init 11 1 := by
  intro C T N h
  cases h
  exact ⟨tyX11_ok, nmX11, Or.inr ⟨rfl, rfl, rfl⟩⟩
theorem tpF11_2 : xv_T mX11_init 11 2 := by
  intro C T N h
  cases h
  exact ⟨tyX11_ok, nmX11, Or.inr ⟨rfl, rfl, rfl⟩⟩
theorem tp11_3 (M : xv_M) : xv_T M 11 3 := by
  intro C T N h
  cases h
  exact ⟨tyX11_ok, nmX11, Or.inl rfl⟩
theorem tpF11_4 : xv_T mX11_init 11 4 := by
  intro C T N h
  cases h
  exact ⟨tyX11_ok, nmX11, Or.inr ⟨rfl, rfl, rfl⟩⟩
theorem tp11_5 (M : xv_M) : xv_T M 11 5 := by
  intro C T N h
  cases h
  exact ⟨tyX11_ok, nmX11, Or.inl rfl⟩
theorem tpF11_6 : xv_T mX11_init 11 6 := by
  intro C T N h
  cases h
  exact ⟨tyX11_ok, nmX11, Or.inr ⟨rfl, rfl, rfl⟩⟩
theorem tpF11_7 : xv_T mX11_init 11 7 := by
  intro C T N h
  cases h
  exact ⟨tyX11_ok, nmX11, Or.inr ⟨rfl, rfl, rfl⟩⟩
theorem tpF11_8 : xv_T mX11_init 11 8 := by
  intro C T N h
  cases h
  exact ⟨tyX11_ok, nmX11, Or.inr ⟨rfl, rfl, rfl⟩⟩
theorem tpF11_9 : xv_T mX11_init 11 9 := by
  intro C T N h
  cases h
  exact ⟨tyX11_ok, nmX11, Or.inr ⟨rfl, rfl, rfl⟩⟩
theorem tpF11_10 : xv_T mX11_init 11 10 := by
  intro C T N h
  cases h
  exact ⟨tyX11_ok, nmX11, Or.inr ⟨rfl, rfl, rfl⟩⟩
theorem tpF11_11 : xv_T mX11_init 11 11 := by
  intro C T N h
  cases h
  exact ⟨tyX11_ok, nmX11, Or.inr ⟨rfl, rfl, rfl⟩⟩
theorem tpF11_12 : xv_T mX11_init 11 12 := by
  intro C T N h
  cases h
  exact ⟨tyX11_ok, nmX11, Or.inr ⟨rfl, rfl, rfl⟩⟩
theorem tp11_13 (M : xv_M) : xv_T M 11 13 := by
  intro C T N h
  cases h
  exact ⟨tyX11_ok, nmX11, Or.inl rfl⟩
theorem tpF11_14 : xv_T mX11_init 11 14 := by
  intro C T N h
  cases h
  exact ⟨tyX11_ok, nmX11, Or.inr ⟨rfl, rfl, rfl⟩⟩
theorem tpF11_15 : xv_T mX11_init 11 15 := by
  intro C T N h
  cases h
  exact ⟨tyX11_ok, nmX11, Or.inr ⟨rfl, rfl, rfl⟩⟩
theorem tpF11_16 : xv_T mX11_init 11 16 := by
  intro C T N h
  cases h
  exact ⟨tyX11_ok, nmX11, Or.inr ⟨rfl, rfl, rfl⟩⟩
theorem tpF11_17 : xv_T mX11_init 11 17 := by
  intro C T N h
  cases h
  exact ⟨tyX11_ok, nmX11, Or.inr ⟨rfl, rfl, rfl⟩⟩
theorem tpF11_18 : xv_T mX11_init 11 18 := by
  intro C T N h
  cases h
  exact ⟨tyX11_ok, nmX11, Or.inr ⟨rfl, rfl, rfl⟩⟩
theorem tpF11_19 : xv_T mX11_init 11 19 := by
  intro C T N h
  cases h
  exact ⟨tyX11_ok, nmX11, Or.inr ⟨rfl, rfl, rfl⟩⟩
theorem tpF11_20 : xv_T mX11_init 11 20 := by
  intro C T N h
  cases h
  exact ⟨tyX11_ok, nmX11, Or.inr ⟨rfl, rfl, rfl⟩⟩
theorem tpF11_21 : xv_T mX11_init 11 21 := by
  intro C T N h
  cases h
  exact ⟨tyX11_ok, nmX11, Or.inr ⟨rfl, rfl, rfl⟩⟩
theorem tpF11_22 : xv_T mX11_init 11 22 := by
  intro C T N h
  cases h
  exact ⟨tyX11_ok, nmX11, Or.inr ⟨rfl, rfl, rfl⟩⟩
theorem tpF11_23 : xv_T mX11_init 11 23 := by
  intro C T N h
  cases h
  exact ⟨tyX11_ok, nmX11, Or.inr ⟨rfl, rfl, rfl⟩⟩
theorem tpF11_24 : xv_T mX11_init 11 24 := by
  intro C T N h
  cases h
  exact ⟨tyX11_ok, nmX11, Or.inr ⟨rfl, rfl, rfl⟩⟩
theorem tp11_25 (M : xv_M) : xv_T M 11 25 := by
  intro C T N h
  cases h
  exact ⟨tyX11_ok, nmX11, Or.inl rfl⟩
theorem tpF11_26 : xv_T mX11_init 11 26 := by
  intro C T N h
  cases h
  exact ⟨tyX11_ok, nmX11, Or.inr ⟨rfl, rfl, rfl⟩⟩
theorem tpF11_27 : xv_T mX11_init 11 27 := by
  intro C T N h
  cases h
  exact ⟨tyX11_ok, nmX11, Or.inr ⟨rfl, rfl, rfl⟩⟩
theorem tp11_28 (M : xv_M) : xv_T M 11 28 := by
  intro C T N h
  cases h
  exact ⟨tyX11_ok, nmX11, Or.inl rfl⟩
theorem tpF11_29 : xv_T mX11_init 11 29 := by
  intro C T N h
  cases h
  exact ⟨tyX11_ok, nmX11, Or.inr ⟨rfl, rfl, rfl⟩⟩
theorem tp11_30 (M : xv_M) : xv_T M 11 30 := by
  intro C T N h
  cases h
  exact ⟨tyX11_ok, nmX11, Or.inl rfl⟩
theorem tp11_31 (M : xv_M) : xv_T M 11 31 := by
  intro C T N h
  cases h
  exact ⟨tyX11_ok, nmX11, Or.inl rfl⟩
theorem tpF11_32 : xv_T mX11_init 11 32 := by
  intro C T N h
  cases h
  exact ⟨tyX11_ok, nmX11, Or.inr ⟨rfl, rfl, rfl⟩⟩
theorem tpF11_33 : xv_T mX11_init 11 33 := by
  intro C T N h
  cases h
  exact ⟨tyX11_ok, nmX11, Or.inr ⟨rfl, rfl, rfl⟩⟩
theorem tp11_34 (M : xv_M) : xv_T M 11 34 := by
  intro C T N h
  cases h
  exact ⟨tyX11_ok, nmX11, Or.inl rfl⟩
theorem tpF11_35 : xv_T mX11_init 11 35 := by
  intro C T N h
  cases h
  exact ⟨tyX11_ok, nmX11, Or.inr ⟨rfl, rfl, rfl⟩⟩
theorem tpF11_36 : xv_T mX11_init 11 36 := by
  intro C T N h
  cases h
  exact ⟨tyX11_ok, nmX11, Or.inr ⟨rfl, rfl, rfl⟩⟩
theorem tpF11_37 : xv_T mX11_init 11 37 := by
  intro C T N h
  cases h
  exact ⟨tyX11_ok, nmX11, Or.inr ⟨rfl, rfl, rfl⟩⟩
theorem tp11_38 (M : xv_M) : xv_T M 11 38 := by
  intro C T N h
  cases h
  exact ⟨tyX11_ok, nmX11, Or.inl rfl⟩
theorem tpF11_39 : xv_T mX11_init 11 39 := by
  intro C T N h
  cases h
  exact ⟨tyX11_ok, nmX11, Or.inr ⟨rfl, rfl, rfl⟩⟩
theorem tpF11_40 : xv_T mX11_init 11 40 := by
  intro C T N h
  cases h
  exact ⟨tyX11_ok, nmX11, Or.inr ⟨rfl, rfl, rfl⟩⟩
theorem tpF11_41 : xv_T mX11_init 11 41 := by
  intro C T N h
  cases h
  exact ⟨tyX11_ok, nmX11, Or.inr ⟨rfl, rfl, rfl⟩⟩
theorem tpF11_42 : xv_T mX11_init 11 42 := by
  intro C T N h
  cases h
  exact ⟨tyX11_ok, nmX11, Or.inr ⟨rfl, rfl, rfl⟩⟩
theorem tp11_43 (M : xv_M) : xv_T M 11 43 := by
  intro C T N h
  cases h
  exact ⟨tyX11_ok, nmX11, Or.inl rfl⟩
theorem tpF11_44 : xv_T mX11_init 11 44 := by
  intro C T N h
  cases h
  exact ⟨tyX11_ok, nmX11, Or.inr ⟨rfl, rfl, rfl⟩⟩
theorem tpF11_45 : xv_T mX11_init 11 45 := by
  intro C T N h
  cases h
  exact ⟨tyX11_ok, nmX11, Or.inr ⟨rfl, rfl, rfl⟩⟩
theorem tpF11_46 : xv_T mX11_init 11 46 := by
  intro C T N h
  cases h
  exact ⟨tyX11_ok, nmX11, Or.inr ⟨rfl, rfl, rfl⟩⟩
theorem tp11_47 (M : xv_M) : xv_T M 11 47 := by
  intro C T N h
  cases h
  exact ⟨tyX11_ok, nmX11, Or.inl rfl⟩
theorem tp11_48 (M : xv_M) : xv_T M 11 48 := by
  intro C T N h
  cases h
  exact ⟨tyX11_ok, nmX11, Or.inl rfl⟩
/-- the end that is just this one -/
def xv_eq (out : xv_O) (sh : xv_Sh) (I : xv_I) (Rf : xv_Rf) (J : xv_J) : xv_Q := fun o s i r j => o = out ∧ s = sh ∧ i = I ∧ r = Rf ∧ j = J
theorem xv_eq_i {out : xv_O} {sh : xv_Sh} {I : xv_I} {Rf : xv_Rf} {J : xv_J} : xv_eq out sh I Rf J out sh I Rf J := ⟨rfl, rfl, rfl, rfl, rfl⟩
theorem xv_eq_I {out out' : xv_O} {sh : xv_Sh} {I I' : xv_I} {Rf : xv_Rf} {J : xv_J} (h : out' = out) (hI : I' = I) : xv_eq out sh I Rf J out' sh I' Rf J := ⟨h, rfl, hI, rfl, rfl⟩
theorem nI_decr {k : Nat} (hk : 1 ≤ k) : nI k + (-1) = nI (k - 1) := by
  rw [show (-1 : Int32) = -(nI 1) by decide, ← Int32.sub_eq_add_neg, nI_sub hk]
section XVA
variable {M : xv_M} {d mc ms kc ks : Nat} {Q : xv_Q} {sh : xv_Sh} {I : xv_I} {Rf : xv_Rf} {J : xv_J} {pc pc' tgt : Nat} {L : List (Option Value)} {S : List Value}
theorem xv_ialdN {v n k : Nat} (hf : xv_F M pc .iaload 1 pc') (hv : sh v = some (.inr (.inl (.int, n)))) (hk : k < n ∧ n ≤ 1000000) (kk : xv_W M d mc ms Q kc ks sh I Rf J pc' L (.int (I v k) :: S)) : xv_W M d mc ms Q kc ks sh I Rf J pc L (.int (nI k) :: .ref v :: S) := xv_iald hf hv (vp_in_nI hk.1 (by omega)) (by rw [nI_clamp (by omega)]; exact kk)
theorem xv_zaldN {v n k : Nat} (hf : xv_F M pc .baload 1 pc') (hv : sh v = some (.inr (.inl (.boolean, n)))) (hk : k < n ∧ n ≤ 1000000) (kk : xv_W M d mc ms Q kc ks sh I Rf J pc' L (.int (I v k) :: S)) : xv_W M d mc ms Q kc ks sh I Rf J pc L (.int (nI k) :: .ref v :: S) := xv_zald hf hv (vp_in_nI hk.1 (by omega)) (by rw [nI_clamp (by omega)]; exact kk)
theorem xv_laldN {v n k : Nat} (hf : xv_F M pc .laload 1 pc') (hv : sh v = some (.inr (.inl (.long, n)))) (hk : k < n ∧ n ≤ 1000000) (kk : xv_W M d mc ms Q kc ks sh I Rf J pc' L (.long (J v k) :: S)) : xv_W M d mc ms Q kc ks sh I Rf J pc L (.int (nI k) :: .ref v :: S) := xv_lald hf hv (vp_in_nI hk.1 (by omega)) (by rw [nI_clamp (by omega)]; exact kk)
theorem xv_sldN {v n k : Nat} (hf : xv_F M pc .iaload 1 pc') (hv : sh v = some (.inr (.inr n))) (hk : k < n ∧ n ≤ 1000000) (kk : xv_W M d mc ms Q kc ks sh I Rf J pc' L (.int (I v k) :: S)) : xv_W M d mc ms Q kc ks sh I Rf J pc L (.int (nI k) :: .ref v :: S) := xv_sld hf hv (vp_in_nI hk.1 (by omega)) (by rw [nI_clamp (by omega)]; exact kk)
theorem xv_iastN {v n k : Nat} {x : Int32} (hf : xv_F M pc .iastore 1 pc') (hv : sh v = some (.inr (.inl (.int, n)))) (hk : k < n ∧ n ≤ 1000000) (kk : xv_W M d mc ms Q kc ks sh (xv_u I v k x) Rf J pc' L S) : xv_W M d mc ms Q kc ks sh I Rf J pc L (.int x :: .int (nI k) :: .ref v :: S) := xv_iast hf hv (vp_in_nI hk.1 (by omega)) (by rw [nI_clamp (by omega)]; exact kk)
theorem xv_lastN {v n k : Nat} {x : Int64} (hf : xv_F M pc .lastore 1 pc') (hv : sh v = some (.inr (.inl (.long, n)))) (hk : k < n ∧ n ≤ 1000000) (kk : xv_W M d mc ms Q kc ks sh I Rf (xv_u J v k x) pc' L S) : xv_W M d mc ms Q kc ks sh I Rf J pc L (.long x :: .int (nI k) :: .ref v :: S) := xv_last hf hv (vp_in_nI hk.1 (by omega)) (by rw [nI_clamp (by omega)]; exact kk)
theorem xv_zastN {v n k : Nat} {x y : Int32} (hf : xv_F M pc .bastore 1 pc') (hv : sh v = some (.inr (.inl (.boolean, n)))) (hk : k < n ∧ n ≤ 1000000) (hn : narrow .boolean (.int x) = .int y) (kk : xv_W M d mc ms Q kc ks sh (xv_u I v k y) Rf J pc' L S) : xv_W M d mc ms Q kc ks sh I Rf J pc L (.int x :: .int (nI k) :: .ref v :: S) := xv_zast hf hv (vp_in_nI hk.1 (by omega)) hn (by rw [nI_clamp (by omega)]; exact kk)
theorem xv_aaldK {v n o k : Nat} {ty : FieldType} (hf : xv_F M pc .aaload 1 pc') (hv : sh v = some (.inr (.inl (ty, n)))) (ht : (∃ C, ty = .object C) ∨ ∃ t, ty = .array t) (hk : k < n ∧ n ≤ 1000000) (hr : Rf v k = some o) (kk : xv_W M d mc ms Q kc ks sh I Rf J pc' L (.ref o :: S)) : xv_W M d mc ms Q kc ks sh I Rf J pc L (.int (nI k) :: .ref v :: S) := xv_aald hf hv ht (vp_in_nI hk.1 (by omega)) (by rw [nI_clamp (by omega)]; exact hr) kk
theorem xv_aaldKN {v n k : Nat} {ty : FieldType} (hf : xv_F M pc .aaload 1 pc') (hv : sh v = some (.inr (.inl (ty, n)))) (ht : (∃ C, ty = .object C) ∨ ∃ t, ty = .array t) (hk : k < n ∧ n ≤ 1000000) (hr : Rf v k = none) (kk : xv_W M d mc ms Q kc ks sh I Rf J pc' L (.null :: S)) : xv_W M d mc ms Q kc ks sh I Rf J pc L (.int (nI k) :: .ref v :: S) := xv_aaldN hf hv ht (vp_in_nI hk.1 (by omega)) (by rw [nI_clamp (by omega)]; exact hr) kk
theorem xv_iincN0 {n : Int} {k a : Nat} (hf : xv_F M pc (.iinc 0 n) 3 pc') (hv : Int32.ofInt n = nI a) (kk : xv_W M d mc ms Q kc ks sh I Rf J pc' (some (.int (nI (k + a))) :: L) S) : xv_W M d mc ms Q kc ks sh I Rf J pc (some (.int (nI k)) :: L) S := xv_iinc0 hf hv (by rw [nI_add]; exact kk)
theorem xv_iincD0 {k : Nat} (hf : xv_F M pc (.iinc 0 (-1)) 3 pc') (hk : 1 ≤ k) (kk : xv_W M d mc ms Q kc ks sh I Rf J pc' (some (.int (nI (k - 1))) :: L) S) : xv_W M d mc ms Q kc ks sh I Rf J pc (some (.int (nI k)) :: L) S := xv_iinc0 (v := -1) hf (by decide) (by rw [nI_decr hk]; exact kk)
theorem xv_iincN1 {l0 : Option Value} {n : Int} {k a : Nat} (hf : xv_F M pc (.iinc 1 n) 3 pc') (hv : Int32.ofInt n = nI a) (kk : xv_W M d mc ms Q kc ks sh I Rf J pc' (l0 :: some (.int (nI (k + a))) :: L) S) : xv_W M d mc ms Q kc ks sh I Rf J pc (l0 :: some (.int (nI k)) :: L) S := xv_iinc1 hf hv (by rw [nI_add]; exact kk)
theorem xv_iincD1 {l0 : Option Value} {k : Nat} (hf : xv_F M pc (.iinc 1 (-1)) 3 pc') (hk : 1 ≤ k) (kk : xv_W M d mc ms Q kc ks sh I Rf J pc' (l0 :: some (.int (nI (k - 1))) :: L) S) : xv_W M d mc ms Q kc ks sh I Rf J pc (l0 :: some (.int (nI k)) :: L) S := xv_iinc1 (v := -1) hf (by decide) (by rw [nI_decr hk]; exact kk)
theorem xv_iincN2 {l0 l1 : Option Value} {n : Int} {k a : Nat} (hf : xv_F M pc (.iinc 2 n) 3 pc') (hv : Int32.ofInt n = nI a) (kk : xv_W M d mc ms Q kc ks sh I Rf J pc' (l0 :: l1 :: some (.int (nI (k + a))) :: L) S) : xv_W M d mc ms Q kc ks sh I Rf J pc (l0 :: l1 :: some (.int (nI k)) :: L) S := xv_iinc2 hf hv (by rw [nI_add]; exact kk)
theorem xv_iincD2 {l0 l1 : Option Value} {k : Nat} (hf : xv_F M pc (.iinc 2 (-1)) 3 pc') (hk : 1 ≤ k) (kk : xv_W M d mc ms Q kc ks sh I Rf J pc' (l0 :: l1 :: some (.int (nI (k - 1))) :: L) S) : xv_W M d mc ms Q kc ks sh I Rf J pc (l0 :: l1 :: some (.int (nI k)) :: L) S := xv_iinc2 (v := -1) hf (by decide) (by rw [nI_decr hk]; exact kk)
theorem xv_iincN3 {l0 l1 l2 : Option Value} {n : Int} {k a : Nat} (hf : xv_F M pc (.iinc 3 n) 3 pc') (hv : Int32.ofInt n = nI a) (kk : xv_W M d mc ms Q kc ks sh I Rf J pc' (l0 :: l1 :: l2 :: some (.int (nI (k + a))) :: L) S) : xv_W M d mc ms Q kc ks sh I Rf J pc (l0 :: l1 :: l2 :: some (.int (nI k)) :: L) S := xv_iinc3 hf hv (by rw [nI_add]; exact kk)
theorem xv_iincD3 {l0 l1 l2 : Option Value} {k : Nat} (hf : xv_F M pc (.iinc 3 (-1)) 3 pc') (hk : 1 ≤ k) (kk : xv_W M d mc ms Q kc ks sh I Rf J pc' (l0 :: l1 :: l2 :: some (.int (nI (k - 1))) :: L) S) : xv_W M d mc ms Q kc ks sh I Rf J pc (l0 :: l1 :: l2 :: some (.int (nI k)) :: L) S := xv_iinc3 (v := -1) hf (by decide) (by rw [nI_decr hk]; exact kk)
theorem xv_iincN4 {l0 l1 l2 l3 : Option Value} {n : Int} {k a : Nat} (hf : xv_F M pc (.iinc 4 n) 3 pc') (hv : Int32.ofInt n = nI a) (kk : xv_W M d mc ms Q kc ks sh I Rf J pc' (l0 :: l1 :: l2 :: l3 :: some (.int (nI (k + a))) :: L) S) : xv_W M d mc ms Q kc ks sh I Rf J pc (l0 :: l1 :: l2 :: l3 :: some (.int (nI k)) :: L) S := xv_iinc4 hf hv (by rw [nI_add]; exact kk)
theorem xv_iincD4 {l0 l1 l2 l3 : Option Value} {k : Nat} (hf : xv_F M pc (.iinc 4 (-1)) 3 pc') (hk : 1 ≤ k) (kk : xv_W M d mc ms Q kc ks sh I Rf J pc' (l0 :: l1 :: l2 :: l3 :: some (.int (nI (k - 1))) :: L) S) : xv_W M d mc ms Q kc ks sh I Rf J pc (l0 :: l1 :: l2 :: l3 :: some (.int (nI k)) :: L) S := xv_iinc4 (v := -1) hf (by decide) (by rw [nI_decr hk]; exact kk)
theorem xv_iincN5 {l0 l1 l2 l3 l4 : Option Value} {n : Int} {k a : Nat} (hf : xv_F M pc (.iinc 5 n) 3 pc') (hv : Int32.ofInt n = nI a) (kk : xv_W M d mc ms Q kc ks sh I Rf J pc' (l0 :: l1 :: l2 :: l3 :: l4 :: some (.int (nI (k + a))) :: L) S) : xv_W M d mc ms Q kc ks sh I Rf J pc (l0 :: l1 :: l2 :: l3 :: l4 :: some (.int (nI k)) :: L) S := xv_iinc5 hf hv (by rw [nI_add]; exact kk)
theorem xv_iincD5 {l0 l1 l2 l3 l4 : Option Value} {k : Nat} (hf : xv_F M pc (.iinc 5 (-1)) 3 pc') (hk : 1 ≤ k) (kk : xv_W M d mc ms Q kc ks sh I Rf J pc' (l0 :: l1 :: l2 :: l3 :: l4 :: some (.int (nI (k - 1))) :: L) S) : xv_W M d mc ms Q kc ks sh I Rf J pc (l0 :: l1 :: l2 :: l3 :: l4 :: some (.int (nI k)) :: L) S := xv_iinc5 (v := -1) hf (by decide) (by rw [nI_decr hk]; exact kk)
theorem xv_iincN6 {l0 l1 l2 l3 l4 l5 : Option Value} {n : Int} {k a : Nat} (hf : xv_F M pc (.iinc 6 n) 3 pc') (hv : Int32.ofInt n = nI a) (kk : xv_W M d mc ms Q kc ks sh I Rf J pc' (l0 :: l1 :: l2 :: l3 :: l4 :: l5 :: some (.int (nI (k + a))) :: L) S) : xv_W M d mc ms Q kc ks sh I Rf J pc (l0 :: l1 :: l2 :: l3 :: l4 :: l5 :: some (.int (nI k)) :: L) S := xv_iinc6 hf hv (by rw [nI_add]; exact kk)
theorem xv_iincD6 {l0 l1 l2 l3 l4 l5 : Option Value} {k : Nat} (hf : xv_F M pc (.iinc 6 (-1)) 3 pc') (hk : 1 ≤ k) (kk : xv_W M d mc ms Q kc ks sh I Rf J pc' (l0 :: l1 :: l2 :: l3 :: l4 :: l5 :: some (.int (nI (k - 1))) :: L) S) : xv_W M d mc ms Q kc ks sh I Rf J pc (l0 :: l1 :: l2 :: l3 :: l4 :: l5 :: some (.int (nI k)) :: L) S := xv_iinc6 (v := -1) hf (by decide) (by rw [nI_decr hk]; exact kk)
theorem xv_iincN7 {l0 l1 l2 l3 l4 l5 l6 : Option Value} {n : Int} {k a : Nat} (hf : xv_F M pc (.iinc 7 n) 3 pc') (hv : Int32.ofInt n = nI a) (kk : xv_W M d mc ms Q kc ks sh I Rf J pc' (l0 :: l1 :: l2 :: l3 :: l4 :: l5 :: l6 :: some (.int (nI (k + a))) :: L) S) : xv_W M d mc ms Q kc ks sh I Rf J pc (l0 :: l1 :: l2 :: l3 :: l4 :: l5 :: l6 :: some (.int (nI k)) :: L) S := xv_iinc7 hf hv (by rw [nI_add]; exact kk)
theorem xv_iincD7 {l0 l1 l2 l3 l4 l5 l6 : Option Value} {k : Nat} (hf : xv_F M pc (.iinc 7 (-1)) 3 pc') (hk : 1 ≤ k) (kk : xv_W M d mc ms Q kc ks sh I Rf J pc' (l0 :: l1 :: l2 :: l3 :: l4 :: l5 :: l6 :: some (.int (nI (k - 1))) :: L) S) : xv_W M d mc ms Q kc ks sh I Rf J pc (l0 :: l1 :: l2 :: l3 :: l4 :: l5 :: l6 :: some (.int (nI k)) :: L) S := xv_iinc7 (v := -1) hf (by decide) (by rw [nI_decr hk]; exact kk)
theorem xv_iincN8 {l0 l1 l2 l3 l4 l5 l6 l7 : Option Value} {n : Int} {k a : Nat} (hf : xv_F M pc (.iinc 8 n) 3 pc') (hv : Int32.ofInt n = nI a) (kk : xv_W M d mc ms Q kc ks sh I Rf J pc' (l0 :: l1 :: l2 :: l3 :: l4 :: l5 :: l6 :: l7 :: some (.int (nI (k + a))) :: L) S) : xv_W M d mc ms Q kc ks sh I Rf J pc (l0 :: l1 :: l2 :: l3 :: l4 :: l5 :: l6 :: l7 :: some (.int (nI k)) :: L) S := xv_iinc8 hf hv (by rw [nI_add]; exact kk)
theorem xv_iincD8 {l0 l1 l2 l3 l4 l5 l6 l7 : Option Value} {k : Nat} (hf : xv_F M pc (.iinc 8 (-1)) 3 pc') (hk : 1 ≤ k) (kk : xv_W M d mc ms Q kc ks sh I Rf J pc' (l0 :: l1 :: l2 :: l3 :: l4 :: l5 :: l6 :: l7 :: some (.int (nI (k - 1))) :: L) S) : xv_W M d mc ms Q kc ks sh I Rf J pc (l0 :: l1 :: l2 :: l3 :: l4 :: l5 :: l6 :: l7 :: some (.int (nI k)) :: L) S := xv_iinc8 (v := -1) hf (by decide) (by rw [nI_decr hk]; exact kk)
theorem xv_iincN9 {l0 l1 l2 l3 l4 l5 l6 l7 l8 : Option Value} {n : Int} {k a : Nat} (hf : xv_F M pc (.iinc 9 n) 3 pc') (hv : Int32.ofInt n = nI a) (kk : xv_W M d mc ms Q kc ks sh I Rf J pc' (l0 :: l1 :: l2 :: l3 :: l4 :: l5 :: l6 :: l7 :: l8 :: some (.int (nI (k + a))) :: L) S) : xv_W M d mc ms Q kc ks sh I Rf J pc (l0 :: l1 :: l2 :: l3 :: l4 :: l5 :: l6 :: l7 :: l8 :: some (.int (nI k)) :: L) S := xv_iinc9 hf hv (by rw [nI_add]; exact kk)
theorem xv_iincD9 {l0 l1 l2 l3 l4 l5 l6 l7 l8 : Option Value} {k : Nat} (hf : xv_F M pc (.iinc 9 (-1)) 3 pc') (hk : 1 ≤ k) (kk : xv_W M d mc ms Q kc ks sh I Rf J pc' (l0 :: l1 :: l2 :: l3 :: l4 :: l5 :: l6 :: l7 :: l8 :: some (.int (nI (k - 1))) :: L) S) : xv_W M d mc ms Q kc ks sh I Rf J pc (l0 :: l1 :: l2 :: l3 :: l4 :: l5 :: l6 :: l7 :: l8 :: some (.int (nI k)) :: L) S := xv_iinc9 (v := -1) hf (by decide) (by rw [nI_decr hk]; exact kk)
theorem xv_iincN10 {l0 l1 l2 l3 l4 l5 l6 l7 l8 l9 : Option Value} {n : Int} {k a : Nat} (hf : xv_F M pc (.iinc 10 n) 3 pc') (hv : Int32.ofInt n = nI a) (kk : xv_W M d mc ms Q kc ks sh I Rf J pc' (l0 :: l1 :: l2 :: l3 :: l4 :: l5 :: l6 :: l7 :: l8 :: l9 :: some (.int (nI (k + a))) :: L) S) : xv_W M d mc ms Q kc ks sh I Rf J pc (l0 :: l1 :: l2 :: l3 :: l4 :: l5 :: l6 :: l7 :: l8 :: l9 :: some (.int (nI k)) :: L) S := xv_iinc10 hf hv (by rw [nI_add]; exact kk)
theorem xv_iincD10 {l0 l1 l2 l3 l4 l5 l6 l7 l8 l9 : Option Value} {k : Nat} (hf : xv_F M pc (.iinc 10 (-1)) 3 pc') (hk : 1 ≤ k) (kk : xv_W M d mc ms Q kc ks sh I Rf J pc' (l0 :: l1 :: l2 :: l3 :: l4 :: l5 :: l6 :: l7 :: l8 :: l9 :: some (.int (nI (k - 1))) :: L) S) : xv_W M d mc ms Q kc ks sh I Rf J pc (l0 :: l1 :: l2 :: l3 :: l4 :: l5 :: l6 :: l7 :: l8 :: l9 :: some (.int (nI k)) :: L) S := xv_iinc10 (v := -1) hf (by decide) (by rw [nI_decr hk]; exact kk)
theorem xv_iincN11 {l0 l1 l2 l3 l4 l5 l6 l7 l8 l9 l10 : Option Value} {n : Int} {k a : Nat} (hf : xv_F M pc (.iinc 11 n) 3 pc') (hv : Int32.ofInt n = nI a) (kk : xv_W M d mc ms Q kc ks sh I Rf J pc' (l0 :: l1 :: l2 :: l3 :: l4 :: l5 :: l6 :: l7 :: l8 :: l9 :: l10 :: some (.int (nI (k + a))) :: L) S) : xv_W M d mc ms Q kc ks sh I Rf J pc (l0 :: l1 :: l2 :: l3 :: l4 :: l5 :: l6 :: l7 :: l8 :: l9 :: l10 :: some (.int (nI k)) :: L) S := xv_iinc11 hf hv (by rw [nI_add]; exact kk)
theorem xv_iincD11 {l0 l1 l2 l3 l4 l5 l6 l7 l8 l9 l10 : Option Value} {k : Nat} (hf : xv_F M pc (.iinc 11 (-1)) 3 pc') (hk : 1 ≤ k) (kk : xv_W M d mc ms Q kc ks sh I Rf J pc' (l0 :: l1 :: l2 :: l3 :: l4 :: l5 :: l6 :: l7 :: l8 :: l9 :: l10 :: some (.int (nI (k - 1))) :: L) S) : xv_W M d mc ms Q kc ks sh I Rf J pc (l0 :: l1 :: l2 :: l3 :: l4 :: l5 :: l6 :: l7 :: l8 :: l9 :: l10 :: some (.int (nI k)) :: L) S := xv_iinc11 (v := -1) hf (by decide) (by rw [nI_decr hk]; exact kk)
theorem xv_iincN12 {l0 l1 l2 l3 l4 l5 l6 l7 l8 l9 l10 l11 : Option Value} {n : Int} {k a : Nat} (hf : xv_F M pc (.iinc 12 n) 3 pc') (hv : Int32.ofInt n = nI a) (kk : xv_W M d mc ms Q kc ks sh I Rf J pc' (l0 :: l1 :: l2 :: l3 :: l4 :: l5 :: l6 :: l7 :: l8 :: l9 :: l10 :: l11 :: some (.int (nI (k + a))) :: L) S) : xv_W M d mc ms Q kc ks sh I Rf J pc (l0 :: l1 :: l2 :: l3 :: l4 :: l5 :: l6 :: l7 :: l8 :: l9 :: l10 :: l11 :: some (.int (nI k)) :: L) S := xv_iinc12 hf hv (by rw [nI_add]; exact kk)
theorem xv_iincD12 {l0 l1 l2 l3 l4 l5 l6 l7 l8 l9 l10 l11 : Option Value} {k : Nat} (hf : xv_F M pc (.iinc 12 (-1)) 3 pc') (hk : 1 ≤ k) (kk : xv_W M d mc ms Q kc ks sh I Rf J pc' (l0 :: l1 :: l2 :: l3 :: l4 :: l5 :: l6 :: l7 :: l8 :: l9 :: l10 :: l11 :: some (.int (nI (k - 1))) :: L) S) : xv_W M d mc ms Q kc ks sh I Rf J pc (l0 :: l1 :: l2 :: l3 :: l4 :: l5 :: l6 :: l7 :: l8 :: l9 :: l10 :: l11 :: some (.int (nI k)) :: L) S := xv_iinc12 (v := -1) hf (by decide) (by rw [nI_decr hk]; exact kk)
theorem xv_iincN13 {l0 l1 l2 l3 l4 l5 l6 l7 l8 l9 l10 l11 l12 : Option Value} {n : Int} {k a : Nat} (hf : xv_F M pc (.iinc 13 n) 3 pc') (hv : Int32.ofInt n = nI a) (kk : xv_W M d mc ms Q kc ks sh I Rf J pc' (l0 :: l1 :: l2 :: l3 :: l4 :: l5 :: l6 :: l7 :: l8 :: l9 :: l10 :: l11 :: l12 :: some (.int (nI (k + a))) :: L) S) : xv_W M d mc ms Q kc ks sh I Rf J pc (l0 :: l1 :: l2 :: l3 :: l4 :: l5 :: l6 :: l7 :: l8 :: l9 :: l10 :: l11 :: l12 :: some (.int (nI k)) :: L) S := xv_iinc13 hf hv (by rw [nI_add]; exact kk)
theorem xv_iincD13 {l0 l1 l2 l3 l4 l5 l6 l7 l8 l9 l10 l11 l12 : Option Value} {k : Nat} (hf : xv_F M pc (.iinc 13 (-1)) 3 pc') (hk : 1 ≤ k) (kk : xv_W M d mc ms Q kc ks sh I Rf J pc' (l0 :: l1 :: l2 :: l3 :: l4 :: l5 :: l6 :: l7 :: l8 :: l9 :: l10 :: l11 :: l12 :: some (.int (nI (k - 1))) :: L) S) : xv_W M d mc ms Q kc ks sh I Rf J pc (l0 :: l1 :: l2 :: l3 :: l4 :: l5 :: l6 :: l7 :: l8 :: l9 :: l10 :: l11 :: l12 :: some (.int (nI k)) :: L) S := xv_iinc13 (v := -1) hf (by decide) (by rw [nI_decr hk]; exact kk)
theorem xv_callV0G {M' : xv_M} {d' mc' ms' idx b ci : Nat} {Q' : xv_Q} (hM : xv_Met M' d' mc' ms' sh I Rf J [.ref b] Q') (hf : xv_F M pc (.invokevirtual idx) 3 pc') (hY : xv_Y M' 0) (hY2 : Cond.instanceMethod M'.1 ∈ xv_tbl ∧ Cond.selects M'.1.cls M'.1 M'.1 ∈ xv_tbl ∧ (vwCl[ci]?.map fun q => q.1) = some M'.1.cls) (hl : Cond.methodLink M.1.cls idx M'.1 ∈ xv_tbl) (hh : M.2.2.2.2 = []) (hh' : M'.2.2.2.2 = []) (hb : sh b = some (.inl ci)) (hsum : (S.map fun v => v.category).sum ≤ 8) (hd : d' + 1 ≤ d) (h1c : mc' ≤ kc) (h1s : ms' ≤ ks) (kr : ∀ r sh' I' Rf' J', Q' (.inl r) sh' I' Rf' J' → (∀ v, sh v ≠ none → sh' v = sh v) → xv_W M d mc ms Q (kc - mc') (ks - ms') sh' I' Rf' J' pc' L (r.toList ++ S)) (kx : ∀ E sh' I' Rf' J', Q' (.inr E) sh' I' Rf' J' → Q (.inr E) sh' I' Rf' J') : xv_W M d mc ms Q kc ks sh I Rf J pc L (.ref b :: S) := xv_callV (As := []) (S := S) (kc' := kc - mc') (ks' := ks - ms') hM hf hY hY2 hl hh hh' hb rfl rfl hsum hd (by omega) (by omega) kr kx
theorem xv_callV0R {M' : xv_M} {d' mc' ms' idx b ci : Nat} {v : Value} {sh' : xv_Sh} {I' : xv_I} {Rf' : xv_Rf} {J' : xv_J} (hM : xv_Met M' d' mc' ms' sh I Rf J [.ref b] (xv_eq (.inl (some v)) sh' I' Rf' J')) (hf : xv_F M pc (.invokevirtual idx) 3 pc') (hY : xv_Y M' 0) (hY2 : Cond.instanceMethod M'.1 ∈ xv_tbl ∧ Cond.selects M'.1.cls M'.1 M'.1 ∈ xv_tbl ∧ (vwCl[ci]?.map fun q => q.1) = some M'.1.cls) (hl : Cond.methodLink M.1.cls idx M'.1 ∈ xv_tbl) (hh : M.2.2.2.2 = []) (hh' : M'.2.2.2.2 = []) (hb : sh b = some (.inl ci)) (hsum : (S.map fun v => v.category).sum ≤ 8) (hd : d' + 1 ≤ d) (h1c : mc' ≤ kc) (h1s : ms' ≤ ks) (kk : xv_W M d mc ms Q (kc - mc') (ks - ms') sh' I' Rf' J' pc' L (v :: S)) : xv_W M d mc ms Q kc ks sh I Rf J pc L (.ref b :: S) := xv_callV (As := []) (S := S) (kc' := kc - mc') (ks' := ks - ms') hM hf hY hY2 hl hh hh' hb rfl rfl hsum hd (by omega) (by omega) (fun r s i rf j h _ => by obtain ⟨h1, rfl, rfl, rfl, rfl⟩ := h; cases h1; exact kk) (fun E s i rf j h => by obtain ⟨h1, -⟩ := h; cases h1)
theorem xv_callV0V {M' : xv_M} {d' mc' ms' idx b ci : Nat} {sh' : xv_Sh} {I' : xv_I} {Rf' : xv_Rf} {J' : xv_J} (hM : xv_Met M' d' mc' ms' sh I Rf J [.ref b] (xv_eq (.inl none) sh' I' Rf' J')) (hf : xv_F M pc (.invokevirtual idx) 3 pc') (hY : xv_Y M' 0) (hY2 : Cond.instanceMethod M'.1 ∈ xv_tbl ∧ Cond.selects M'.1.cls M'.1 M'.1 ∈ xv_tbl ∧ (vwCl[ci]?.map fun q => q.1) = some M'.1.cls) (hl : Cond.methodLink M.1.cls idx M'.1 ∈ xv_tbl) (hh : M.2.2.2.2 = []) (hh' : M'.2.2.2.2 = []) (hb : sh b = some (.inl ci)) (hsum : (S.map fun v => v.category).sum ≤ 8) (hd : d' + 1 ≤ d) (h1c : mc' ≤ kc) (h1s : ms' ≤ ks) (kk : xv_W M d mc ms Q (kc - mc') (ks - ms') sh' I' Rf' J' pc' L S) : xv_W M d mc ms Q kc ks sh I Rf J pc L (.ref b :: S) := xv_callV (As := []) (S := S) (kc' := kc - mc') (ks' := ks - ms') hM hf hY hY2 hl hh hh' hb rfl rfl hsum hd (by omega) (by omega) (fun r s i rf j h _ => by obtain ⟨h1, rfl, rfl, rfl, rfl⟩ := h; cases h1; exact kk) (fun E s i rf j h => by obtain ⟨h1, -⟩ := h; cases h1)
theorem xv_callV0X {M' : xv_M} {d' mc' ms' idx b ci : Nat} {E : String} {sh' : xv_Sh} {I' : xv_I} {Rf' : xv_Rf} {J' : xv_J} (hM : xv_Met M' d' mc' ms' sh I Rf J [.ref b] (xv_eq (.inr E) sh' I' Rf' J')) (hf : xv_F M pc (.invokevirtual idx) 3 pc') (hY : xv_Y M' 0) (hY2 : Cond.instanceMethod M'.1 ∈ xv_tbl ∧ Cond.selects M'.1.cls M'.1 M'.1 ∈ xv_tbl ∧ (vwCl[ci]?.map fun q => q.1) = some M'.1.cls) (hl : Cond.methodLink M.1.cls idx M'.1 ∈ xv_tbl) (hh : M.2.2.2.2 = []) (hh' : M'.2.2.2.2 = []) (hb : sh b = some (.inl ci)) (hsum : (S.map fun v => v.category).sum ≤ 8) (hd : d' + 1 ≤ d) (h1c : mc' ≤ kc) (h1s : ms' ≤ ks) (kq : Q (.inr E) sh' I' Rf' J') : xv_W M d mc ms Q kc ks sh I Rf J pc L (.ref b :: S) := xv_callV (As := []) (S := S) (kc' := kc - mc') (ks' := ks - ms') hM hf hY hY2 hl hh hh' hb rfl rfl hsum hd (by omega) (by omega) (fun r s i rf j h _ => by obtain ⟨h1, -⟩ := h; cases h1) (fun E s i rf j h => by obtain ⟨h1, rfl, rfl, rfl, rfl⟩ := h; cases h1; exact kq)
theorem xv_callV1G {M' : xv_M} {d' mc' ms' idx b ci : Nat} {a1 : Value} {Q' : xv_Q} (hM : xv_Met M' d' mc' ms' sh I Rf J [.ref b, a1] Q') (hf : xv_F M pc (.invokevirtual idx) 3 pc') (hY : xv_Y M' 1) (hY2 : Cond.instanceMethod M'.1 ∈ xv_tbl ∧ Cond.selects M'.1.cls M'.1 M'.1 ∈ xv_tbl ∧ (vwCl[ci]?.map fun q => q.1) = some M'.1.cls) (hl : Cond.methodLink M.1.cls idx M'.1 ∈ xv_tbl) (hh : M.2.2.2.2 = []) (hh' : M'.2.2.2.2 = []) (hb : sh b = some (.inl ci)) (hsum : (S.map fun v => v.category).sum ≤ 8) (hd : d' + 1 ≤ d) (h1c : mc' ≤ kc) (h1s : ms' ≤ ks) (kr : ∀ r sh' I' Rf' J', Q' (.inl r) sh' I' Rf' J' → (∀ v, sh v ≠ none → sh' v = sh v) → xv_W M d mc ms Q (kc - mc') (ks - ms') sh' I' Rf' J' pc' L (r.toList ++ S)) (kx : ∀ E sh' I' Rf' J', Q' (.inr E) sh' I' Rf' J' → Q (.inr E) sh' I' Rf' J') : xv_W M d mc ms Q kc ks sh I Rf J pc L (a1 :: .ref b :: S) := xv_callV (As := [a1]) (S := S) (kc' := kc - mc') (ks' := ks - ms') hM hf hY hY2 hl hh hh' hb rfl rfl hsum hd (by omega) (by omega) kr kx
theorem xv_callV1R {M' : xv_M} {d' mc' ms' idx b ci : Nat} {a1 : Value} {v : Value} {sh' : xv_Sh} {I' : xv_I} {Rf' : xv_Rf} {J' : xv_J} (hM : xv_Met M' d' mc' ms' sh I Rf J [.ref b, a1] (xv_eq (.inl (some v)) sh' I' Rf' J')) (hf : xv_F M pc (.invokevirtual idx) 3 pc') (hY : xv_Y M' 1) (hY2 : Cond.instanceMethod M'.1 ∈ xv_tbl ∧ Cond.selects M'.1.cls M'.1 M'.1 ∈ xv_tbl ∧ (vwCl[ci]?.map fun q => q.1) = some M'.1.cls) (hl : Cond.methodLink M.1.cls idx M'.1 ∈ xv_tbl) (hh : M.2.2.2.2 = []) (hh' : M'.2.2.2.2 = []) (hb : sh b = some (.inl ci)) (hsum : (S.map fun v => v.category).sum ≤ 8) (hd : d' + 1 ≤ d) (h1c : mc' ≤ kc) (h1s : ms' ≤ ks) (kk : xv_W M d mc ms Q (kc - mc') (ks - ms') sh' I' Rf' J' pc' L (v :: S)) : xv_W M d mc ms Q kc ks sh I Rf J pc L (a1 :: .ref b :: S) := xv_callV (As := [a1]) (S := S) (kc' := kc - mc') (ks' := ks - ms') hM hf hY hY2 hl hh hh' hb rfl rfl hsum hd (by omega) (by omega) (fun r s i rf j h _ => by obtain ⟨h1, rfl, rfl, rfl, rfl⟩ := h; cases h1; exact kk) (fun E s i rf j h => by obtain ⟨h1, -⟩ := h; cases h1)
theorem xv_callV1V {M' : xv_M} {d' mc' ms' idx b ci : Nat} {a1 : Value} {sh' : xv_Sh} {I' : xv_I} {Rf' : xv_Rf} {J' : xv_J} (hM : xv_Met M' d' mc' ms' sh I Rf J [.ref b, a1] (xv_eq (.inl none) sh' I' Rf' J')) (hf : xv_F M pc (.invokevirtual idx) 3 pc') (hY : xv_Y M' 1) (hY2 : Cond.instanceMethod M'.1 ∈ xv_tbl ∧ Cond.selects M'.1.cls M'.1 M'.1 ∈ xv_tbl ∧ (vwCl[ci]?.map fun q => q.1) = some M'.1.cls) (hl : Cond.methodLink M.1.cls idx M'.1 ∈ xv_tbl) (hh : M.2.2.2.2 = []) (hh' : M'.2.2.2.2 = []) (hb : sh b = some (.inl ci)) (hsum : (S.map fun v => v.category).sum ≤ 8) (hd : d' + 1 ≤ d) (h1c : mc' ≤ kc) (h1s : ms' ≤ ks) (kk : xv_W M d mc ms Q (kc - mc') (ks - ms') sh' I' Rf' J' pc' L S) : xv_W M d mc ms Q kc ks sh I Rf J pc L (a1 :: .ref b :: S) := xv_callV (As := [a1]) (S := S) (kc' := kc - mc') (ks' := ks - ms') hM hf hY hY2 hl hh hh' hb rfl rfl hsum hd (by omega) (by omega) (fun r s i rf j h _ => by obtain ⟨h1, rfl, rfl, rfl, rfl⟩ := h; cases h1; exact kk) (fun E s i rf j h => by obtain ⟨h1, -⟩ := h; cases h1)
theorem xv_callV1X {M' : xv_M} {d' mc' ms' idx b ci : Nat} {a1 : Value} {E : String} {sh' : xv_Sh} {I' : xv_I} {Rf' : xv_Rf} {J' : xv_J} (hM : xv_Met M' d' mc' ms' sh I Rf J [.ref b, a1] (xv_eq (.inr E) sh' I' Rf' J')) (hf : xv_F M pc (.invokevirtual idx) 3 pc') (hY : xv_Y M' 1) (hY2 : Cond.instanceMethod M'.1 ∈ xv_tbl ∧ Cond.selects M'.1.cls M'.1 M'.1 ∈ xv_tbl ∧ (vwCl[ci]?.map fun q => q.1) = some M'.1.cls) (hl : Cond.methodLink M.1.cls idx M'.1 ∈ xv_tbl) (hh : M.2.2.2.2 = []) (hh' : M'.2.2.2.2 = []) (hb : sh b = some (.inl ci)) (hsum : (S.map fun v => v.category).sum ≤ 8) (hd : d' + 1 ≤ d) (h1c : mc' ≤ kc) (h1s : ms' ≤ ks) (kq : Q (.inr E) sh' I' Rf' J') : xv_W M d mc ms Q kc ks sh I Rf J pc L (a1 :: .ref b :: S) := xv_callV (As := [a1]) (S := S) (kc' := kc - mc') (ks' := ks - ms') hM hf hY hY2 hl hh hh' hb rfl rfl hsum hd (by omega) (by omega) (fun r s i rf j h _ => by obtain ⟨h1, -⟩ := h; cases h1) (fun E s i rf j h => by obtain ⟨h1, rfl, rfl, rfl, rfl⟩ := h; cases h1; exact kq)
theorem xv_callV2G {M' : xv_M} {d' mc' ms' idx b ci : Nat} {a1 a2 : Value} {Q' : xv_Q} (hM : xv_Met M' d' mc' ms' sh I Rf J [.ref b, a1, a2] Q') (hf : xv_F M pc (.invokevirtual idx) 3 pc') (hY : xv_Y M' 2) (hY2 : Cond.instanceMethod M'.1 ∈ xv_tbl ∧ Cond.selects M'.1.cls M'.1 M'.1 ∈ xv_tbl ∧ (vwCl[ci]?.map fun q => q.1) = some M'.1.cls) (hl : Cond.methodLink M.1.cls idx M'.1 ∈ xv_tbl) (hh : M.2.2.2.2 = []) (hh' : M'.2.2.2.2 = []) (hb : sh b = some (.inl ci)) (hsum : (S.map fun v => v.category).sum ≤ 8) (hd : d' + 1 ≤ d) (h1c : mc' ≤ kc) (h1s : ms' ≤ ks) (kr : ∀ r sh' I' Rf' J', Q' (.inl r) sh' I' Rf' J' → (∀ v, sh v ≠ none → sh' v = sh v) → xv_W M d mc ms Q (kc - mc') (ks - ms') sh' I' Rf' J' pc' L (r.toList ++ S)) (kx : ∀ E sh' I' Rf' J', Q' (.inr E) sh' I' Rf' J' → Q (.inr E) sh' I' Rf' J') : xv_W M d mc ms Q kc ks sh I Rf J pc L (a2 :: a1 :: .ref b :: S) := xv_callV (As := [a1, a2]) (S := S) (kc' := kc - mc') (ks' := ks - ms') hM hf hY hY2 hl hh hh' hb rfl rfl hsum hd (by omega) (by omega) kr kx
theorem xv_callV2R {M' : xv_M} {d' mc' ms' idx b ci : Nat} {a1 a2 : Value} {v : Value} {sh' : xv_Sh} {I' : xv_I} {Rf' : xv_Rf} {J' : xv_J} (hM : xv_Met M' d' mc' ms' sh I Rf J [.ref b, a1, a2] (xv_eq (.inl (some v)) sh' I' Rf' J')) (hf : xv_F M pc (.invokevirtual idx) 3 pc') (hY : xv_Y M' 2) (hY2 : Cond.instanceMethod M'.1 ∈ xv_tbl ∧ Cond.selects M'.1.cls M'.1 M'.1 ∈ xv_tbl ∧ (vwCl[ci]?.map fun q => q.1) = some M'.1.cls) (hl : Cond.methodLink M.1.cls idx M'.1 ∈ xv_tbl) (hh : M.2.2.2.2 = []) (hh' : M'.2.2.2.2 = []) (hb : sh b = some (.inl ci)) (hsum : (S.map fun v => v.category).sum ≤ 8) (hd : d' + 1 ≤ d) (h1c : mc' ≤ kc) (h1s : ms' ≤ ks) (kk : xv_W M d mc ms Q (kc - mc') (ks - ms') sh' I' Rf' J' pc' L (v :: S)) : xv_W M d mc ms Q kc ks sh I Rf J pc L (a2 :: a1 :: .ref b :: S) := xv_callV (As := [a1, a2]) (S := S) (kc' := kc - mc') (ks' := ks - ms') hM hf hY hY2 hl hh hh' hb rfl rfl hsum hd (by omega) (by omega) (fun r s i rf j h _ => by obtain ⟨h1, rfl, rfl, rfl, rfl⟩ := h; cases h1; exact kk) (fun E s i rf j h => by obtain ⟨h1, -⟩ := h; cases h1)
theorem xv_callV2V {M' : xv_M} {d' mc' ms' idx b ci : Nat} {a1 a2 : Value} {sh' : xv_Sh} {I' : xv_I} {Rf' : xv_Rf} {J' : xv_J} (hM : xv_Met M' d' mc' ms' sh I Rf J [.ref b, a1, a2] (xv_eq (.inl none) sh' I' Rf' J')) (hf : xv_F M pc (.invokevirtual idx) 3 pc') (hY : xv_Y M' 2) (hY2 : Cond.instanceMethod M'.1 ∈ xv_tbl ∧ Cond.selects M'.1.cls M'.1 M'.1 ∈ xv_tbl ∧ (vwCl[ci]?.map fun q => q.1) = some M'.1.cls) (hl : Cond.methodLink M.1.cls idx M'.1 ∈ xv_tbl) (hh : M.2.2.2.2 = []) (hh' : M'.2.2.2.2 = []) (hb : sh b = some (.inl ci)) (hsum : (S.map fun v => v.category).sum ≤ 8) (hd : d' + 1 ≤ d) (h1c : mc' ≤ kc) (h1s : ms' ≤ ks) (kk : xv_W M d mc ms Q (kc - mc') (ks - ms') sh' I' Rf' J' pc' L S) : xv_W M d mc ms Q kc ks sh I Rf J pc L (a2 :: a1 :: .ref b :: S) := xv_callV (As := [a1, a2]) (S := S) (kc' := kc - mc') (ks' := ks - ms') hM hf hY hY2 hl hh hh' hb rfl rfl hsum hd (by omega) (by omega) (fun r s i rf j h _ => by obtain ⟨h1, rfl, rfl, rfl, rfl⟩ := h; cases h1; exact kk) (fun E s i rf j h => by obtain ⟨h1, -⟩ := h; cases h1)
theorem xv_callV2X {M' : xv_M} {d' mc' ms' idx b ci : Nat} {a1 a2 : Value} {E : String} {sh' : xv_Sh} {I' : xv_I} {Rf' : xv_Rf} {J' : xv_J} (hM : xv_Met M' d' mc' ms' sh I Rf J [.ref b, a1, a2] (xv_eq (.inr E) sh' I' Rf' J')) (hf : xv_F M pc (.invokevirtual idx) 3 pc') (hY : xv_Y M' 2) (hY2 : Cond.instanceMethod M'.1 ∈ xv_tbl ∧ Cond.selects M'.1.cls M'.1 M'.1 ∈ xv_tbl ∧ (vwCl[ci]?.map fun q => q.1) = some M'.1.cls) (hl : Cond.methodLink M.1.cls idx M'.1 ∈ xv_tbl) (hh : M.2.2.2.2 = []) (hh' : M'.2.2.2.2 = []) (hb : sh b = some (.inl ci)) (hsum : (S.map fun v => v.category).sum ≤ 8) (hd : d' + 1 ≤ d) (h1c : mc' ≤ kc) (h1s : ms' ≤ ks) (kq : Q (.inr E) sh' I' Rf' J') : xv_W M d mc ms Q kc ks sh I Rf J pc L (a2 :: a1 :: .ref b :: S) := xv_callV (As := [a1, a2]) (S := S) (kc' := kc - mc') (ks' := ks - ms') hM hf hY hY2 hl hh hh' hb rfl rfl hsum hd (by omega) (by omega) (fun r s i rf j h _ => by obtain ⟨h1, -⟩ := h; cases h1) (fun E s i rf j h => by obtain ⟨h1, rfl, rfl, rfl, rfl⟩ := h; cases h1; exact kq)
theorem xv_callV3G {M' : xv_M} {d' mc' ms' idx b ci : Nat} {a1 a2 a3 : Value} {Q' : xv_Q} (hM : xv_Met M' d' mc' ms' sh I Rf J [.ref b, a1, a2, a3] Q') (hf : xv_F M pc (.invokevirtual idx) 3 pc') (hY : xv_Y M' 3) (hY2 : Cond.instanceMethod M'.1 ∈ xv_tbl ∧ Cond.selects M'.1.cls M'.1 M'.1 ∈ xv_tbl ∧ (vwCl[ci]?.map fun q => q.1) = some M'.1.cls) (hl : Cond.methodLink M.1.cls idx M'.1 ∈ xv_tbl) (hh : M.2.2.2.2 = []) (hh' : M'.2.2.2.2 = []) (hb : sh b = some (.inl ci)) (hsum : (S.map fun v => v.category).sum ≤ 8) (hd : d' + 1 ≤ d) (h1c : mc' ≤ kc) (h1s : ms' ≤ ks) (kr : ∀ r sh' I' Rf' J', Q' (.inl r) sh' I' Rf' J' → (∀ v, sh v ≠ none → sh' v = sh v) → xv_W M d mc ms Q (kc - mc') (ks - ms') sh' I' Rf' J' pc' L (r.toList ++ S)) (kx : ∀ E sh' I' Rf' J', Q' (.inr E) sh' I' Rf' J' → Q (.inr E) sh' I' Rf' J') : xv_W M d mc ms Q kc ks sh I Rf J pc L (a3 :: a2 :: a1 :: .ref b :: S) := xv_callV (As := [a1, a2, a3]) (S := S) (kc' := kc - mc') (ks' := ks - ms') hM hf hY hY2 hl hh hh' hb rfl rfl hsum hd (by omega) (by omega) kr kx
theorem xv_callV3R {M' : xv_M} {d' mc' ms' idx b ci : Nat} {a1 a2 a3 : Value} {v : Value} {sh' : xv_Sh} {I' : xv_I} {Rf' : xv_Rf} {J' : xv_J} (hM : xv_Met M' d' mc' ms' sh I Rf J [.ref b, a1, a2, a3] (xv_eq (.inl (some v)) sh' I' Rf' J')) (hf : xv_F M pc (.invokevirtual idx) 3 pc') (hY : xv_Y M' 3) (hY2 : Cond.instanceMethod M'.1 ∈ xv_tbl ∧ Cond.selects M'.1.cls M'.1 M'.1 ∈ xv_tbl ∧ (vwCl[ci]?.map fun q => q.1) = some M'.1.cls) (hl : Cond.methodLink M.1.cls idx M'.1 ∈ xv_tbl) (hh : M.2.2.2.2 = []) (hh' : M'.2.2.2.2 = []) (hb : sh b = some (.inl ci)) (hsum : (S.map fun v => v.category).sum ≤ 8) (hd : d' + 1 ≤ d) (h1c : mc' ≤ kc) (h1s : ms' ≤ ks) (kk : xv_W M d mc ms Q (kc - mc') (ks - ms') sh' I' Rf' J' pc' L (v :: S)) : xv_W M d mc ms Q kc ks sh I Rf J pc L (a3 :: a2 :: a1 :: .ref b :: S) := xv_callV (As := [a1, a2, a3]) (S := S) (kc' := kc - mc') (ks' := ks - ms') hM hf hY hY2 hl hh hh' hb rfl rfl hsum hd (by omega) (by omega) (fun r s i rf j h _ => by obtain ⟨h1, rfl, rfl, rfl, rfl⟩ := h; cases h1; exact kk) (fun E s i rf j h => by obtain ⟨h1, -⟩ := h; cases h1)
theorem xv_callV3V {M' : xv_M} {d' mc' ms' idx b ci : Nat} {a1 a2 a3 : Value} {sh' : xv_Sh} {I' : xv_I} {Rf' : xv_Rf} {J' : xv_J} (hM : xv_Met M' d' mc' ms' sh I Rf J [.ref b, a1, a2, a3] (xv_eq (.inl none) sh' I' Rf' J')) (hf : xv_F M pc (.invokevirtual idx) 3 pc') (hY : xv_Y M' 3) (hY2 : Cond.instanceMethod M'.1 ∈ xv_tbl ∧ Cond.selects M'.1.cls M'.1 M'.1 ∈ xv_tbl ∧ (vwCl[ci]?.map fun q => q.1) = some M'.1.cls) (hl : Cond.methodLink M.1.cls idx M'.1 ∈ xv_tbl) (hh : M.2.2.2.2 = []) (hh' : M'.2.2.2.2 = []) (hb : sh b = some (.inl ci)) (hsum : (S.map fun v => v.category).sum ≤ 8) (hd : d' + 1 ≤ d) (h1c : mc' ≤ kc) (h1s : ms' ≤ ks) (kk : xv_W M d mc ms Q (kc - mc') (ks - ms') sh' I' Rf' J' pc' L S) : xv_W M d mc ms Q kc ks sh I Rf J pc L (a3 :: a2 :: a1 :: .ref b :: S) := xv_callV (As := [a1, a2, a3]) (S := S) (kc' := kc - mc') (ks' := ks - ms') hM hf hY hY2 hl hh hh' hb rfl rfl hsum hd (by omega) (by omega) (fun r s i rf j h _ => by obtain ⟨h1, rfl, rfl, rfl, rfl⟩ := h; cases h1; exact kk) (fun E s i rf j h => by obtain ⟨h1, -⟩ := h; cases h1)
theorem xv_callV3X {M' : xv_M} {d' mc' ms' idx b ci : Nat} {a1 a2 a3 : Value} {E : String} {sh' : xv_Sh} {I' : xv_I} {Rf' : xv_Rf} {J' : xv_J} (hM : xv_Met M' d' mc' ms' sh I Rf J [.ref b, a1, a2, a3] (xv_eq (.inr E) sh' I' Rf' J')) (hf : xv_F M pc (.invokevirtual idx) 3 pc') (hY : xv_Y M' 3) (hY2 : Cond.instanceMethod M'.1 ∈ xv_tbl ∧ Cond.selects M'.1.cls M'.1 M'.1 ∈ xv_tbl ∧ (vwCl[ci]?.map fun q => q.1) = some M'.1.cls) (hl : Cond.methodLink M.1.cls idx M'.1 ∈ xv_tbl) (hh : M.2.2.2.2 = []) (hh' : M'.2.2.2.2 = []) (hb : sh b = some (.inl ci)) (hsum : (S.map fun v => v.category).sum ≤ 8) (hd : d' + 1 ≤ d) (h1c : mc' ≤ kc) (h1s : ms' ≤ ks) (kq : Q (.inr E) sh' I' Rf' J') : xv_W M d mc ms Q kc ks sh I Rf J pc L (a3 :: a2 :: a1 :: .ref b :: S) := xv_callV (As := [a1, a2, a3]) (S := S) (kc' := kc - mc') (ks' := ks - ms') hM hf hY hY2 hl hh hh' hb rfl rfl hsum hd (by omega) (by omega) (fun r s i rf j h _ => by obtain ⟨h1, -⟩ := h; cases h1) (fun E s i rf j h => by obtain ⟨h1, rfl, rfl, rfl, rfl⟩ := h; cases h1; exact kq)
theorem xv_callV4G {M' : xv_M} {d' mc' ms' idx b ci : Nat} {a1 a2 a3 a4 : Value} {Q' : xv_Q} (hM : xv_Met M' d' mc' ms' sh I Rf J [.ref b, a1, a2, a3, a4] Q') (hf : xv_F M pc (.invokevirtual idx) 3 pc') (hY : xv_Y M' 4) (hY2 : Cond.instanceMethod M'.1 ∈ xv_tbl ∧ Cond.selects M'.1.cls M'.1 M'.1 ∈ xv_tbl ∧ (vwCl[ci]?.map fun q => q.1) = some M'.1.cls) (hl : Cond.methodLink M.1.cls idx M'.1 ∈ xv_tbl) (hh : M.2.2.2.2 = []) (hh' : M'.2.2.2.2 = []) (hb : sh b = some (.inl ci)) (hsum : (S.map fun v => v.category).sum ≤ 8) (hd : d' + 1 ≤ d) (h1c : mc' ≤ kc) (h1s : ms' ≤ ks) (kr : ∀ r sh' I' Rf' J', Q' (.inl r) sh' I' Rf' J' → (∀ v, sh v ≠ none → sh' v = sh v) → xv_W M d mc ms Q (kc - mc') (ks - ms') sh' I' Rf' J' pc' L (r.toList ++ S)) (kx : ∀ E sh' I' Rf' J', Q' (.inr E) sh' I' Rf' J' → Q (.inr E) sh' I' Rf' J') : xv_W M d mc ms Q kc ks sh I Rf J pc L (a4 :: a3 :: a2 :: a1 :: .ref b :: S) := xv_callV (As := [a1, a2, a3, a4]) (S := S) (kc' := kc - mc') (ks' := ks - ms') hM hf hY hY2 hl hh hh' hb rfl rfl hsum hd (by omega) (by omega) kr kx
theorem xv_callV4R {M' : xv_M} {d' mc' ms' idx b ci : Nat} {a1 a2 a3 a4 : Value} {v : Value} {sh' : xv_Sh} {I' : xv_I} {Rf' : xv_Rf} {J' : xv_J} (hM : xv_Met M' d' mc' ms' sh I Rf J [.ref b, a1, a2, a3, a4] (xv_eq (.inl (some v)) sh' I' Rf' J')) (hf : xv_F M pc (.invokevirtual idx) 3 pc') (hY : xv_Y M' 4) (hY2 : Cond.instanceMethod M'.1 ∈ xv_tbl ∧ Cond.selects M'.1.cls M'.1 M'.1 ∈ xv_tbl ∧ (vwCl[ci]?.map fun q => q.1) = some M'.1.cls) (hl : Cond.methodLink M.1.cls idx M'.1 ∈ xv_tbl) (hh : M.2.2.2.2 = []) (hh' : M'.2.2.2.2 = []) (hb : sh b = some (.inl ci)) (hsum : (S.map fun v => v.category).sum ≤ 8) (hd : d' + 1 ≤ d) (h1c : mc' ≤ kc) (h1s : ms' ≤ ks) (kk : xv_W M d mc ms Q (kc - mc') (ks - ms') sh' I' Rf' J' pc' L (v :: S)) : xv_W M d mc ms Q kc ks sh I Rf J pc L (a4 :: a3 :: a2 :: a1 :: .ref b :: S) := xv_callV (As := [a1, a2, a3, a4]) (S := S) (kc' := kc - mc') (ks' := ks - ms') hM hf hY hY2 hl hh hh' hb rfl rfl hsum hd (by omega) (by omega) (fun r s i rf j h _ => by obtain ⟨h1, rfl, rfl, rfl, rfl⟩ := h; cases h1; exact kk) (fun E s i rf j h => by obtain ⟨h1, -⟩ := h; cases h1)
theorem xv_callV4V {M' : xv_M} {d' mc' ms' idx b ci : Nat} {a1 a2 a3 a4 : Value} {sh' : xv_Sh} {I' : xv_I} {Rf' : xv_Rf} {J' : xv_J} (hM : xv_Met M' d' mc' ms' sh I Rf J [.ref b, a1, a2, a3, a4] (xv_eq (.inl none) sh' I' Rf' J')) (hf : xv_F M pc (.invokevirtual idx) 3 pc') (hY : xv_Y M' 4) (hY2 : Cond.instanceMethod M'.1 ∈ xv_tbl ∧ Cond.selects M'.1.cls M'.1 M'.1 ∈ xv_tbl ∧ (vwCl[ci]?.map fun q => q.1) = some M'.1.cls) (hl : Cond.methodLink M.1.cls idx M'.1 ∈ xv_tbl) (hh : M.2.2.2.2 = []) (hh' : M'.2.2.2.2 = []) (hb : sh b = some (.inl ci)) (hsum : (S.map fun v => v.category).sum ≤ 8) (hd : d' + 1 ≤ d) (h1c : mc' ≤ kc) (h1s : ms' ≤ ks) (kk : xv_W M d mc ms Q (kc - mc') (ks - ms') sh' I' Rf' J' pc' L S) : xv_W M d mc ms Q kc ks sh I Rf J pc L (a4 :: a3 :: a2 :: a1 :: .ref b :: S) := xv_callV (As := [a1, a2, a3, a4]) (S := S) (kc' := kc - mc') (ks' := ks - ms') hM hf hY hY2 hl hh hh' hb rfl rfl hsum hd (by omega) (by omega) (fun r s i rf j h _ => by obtain ⟨h1, rfl, rfl, rfl, rfl⟩ := h; cases h1; exact kk) (fun E s i rf j h => by obtain ⟨h1, -⟩ := h; cases h1)
theorem xv_callV4X {M' : xv_M} {d' mc' ms' idx b ci : Nat} {a1 a2 a3 a4 : Value} {E : String} {sh' : xv_Sh} {I' : xv_I} {Rf' : xv_Rf} {J' : xv_J} (hM : xv_Met M' d' mc' ms' sh I Rf J [.ref b, a1, a2, a3, a4] (xv_eq (.inr E) sh' I' Rf' J')) (hf : xv_F M pc (.invokevirtual idx) 3 pc') (hY : xv_Y M' 4) (hY2 : Cond.instanceMethod M'.1 ∈ xv_tbl ∧ Cond.selects M'.1.cls M'.1 M'.1 ∈ xv_tbl ∧ (vwCl[ci]?.map fun q => q.1) = some M'.1.cls) (hl : Cond.methodLink M.1.cls idx M'.1 ∈ xv_tbl) (hh : M.2.2.2.2 = []) (hh' : M'.2.2.2.2 = []) (hb : sh b = some (.inl ci)) (hsum : (S.map fun v => v.category).sum ≤ 8) (hd : d' + 1 ≤ d) (h1c : mc' ≤ kc) (h1s : ms' ≤ ks) (kq : Q (.inr E) sh' I' Rf' J') : xv_W M d mc ms Q kc ks sh I Rf J pc L (a4 :: a3 :: a2 :: a1 :: .ref b :: S) := xv_callV (As := [a1, a2, a3, a4]) (S := S) (kc' := kc - mc') (ks' := ks - ms') hM hf hY hY2 hl hh hh' hb rfl rfl hsum hd (by omega) (by omega) (fun r s i rf j h _ => by obtain ⟨h1, -⟩ := h; cases h1) (fun E s i rf j h => by obtain ⟨h1, rfl, rfl, rfl, rfl⟩ := h; cases h1; exact kq)
theorem xv_callV5G {M' : xv_M} {d' mc' ms' idx b ci : Nat} {a1 a2 a3 a4 a5 : Value} {Q' : xv_Q} (hM : xv_Met M' d' mc' ms' sh I Rf J [.ref b, a1, a2, a3, a4, a5] Q') (hf : xv_F M pc (.invokevirtual idx) 3 pc') (hY : xv_Y M' 5) (hY2 : Cond.instanceMethod M'.1 ∈ xv_tbl ∧ Cond.selects M'.1.cls M'.1 M'.1 ∈ xv_tbl ∧ (vwCl[ci]?.map fun q => q.1) = some M'.1.cls) (hl : Cond.methodLink M.1.cls idx M'.1 ∈ xv_tbl) (hh : M.2.2.2.2 = []) (hh' : M'.2.2.2.2 = []) (hb : sh b = some (.inl ci)) (hsum : (S.map fun v => v.category).sum ≤ 8) (hd : d' + 1 ≤ d) (h1c : mc' ≤ kc) (h1s : ms' ≤ ks) (kr : ∀ r sh' I' Rf' J', Q' (.inl r) sh' I' Rf' J' → (∀ v, sh v ≠ none → sh' v = sh v) → xv_W M d mc ms Q (kc - mc') (ks - ms') sh' I' Rf' J' pc' L (r.toList ++ S)) (kx : ∀ E sh' I' Rf' J', Q' (.inr E) sh' I' Rf' J' → Q (.inr E) sh' I' Rf' J') : xv_W M d mc ms Q kc ks sh I Rf J pc L (a5 :: a4 :: a3 :: a2 :: a1 :: .ref b :: S) := xv_callV (As := [a1, a2, a3, a4, a5]) (S := S) (kc' := kc - mc') (ks' := ks - ms') hM hf hY hY2 hl hh hh' hb rfl rfl hsum hd (by omega) (by omega) kr kx
theorem xv_callV5R {M' : xv_M} {d' mc' ms' idx b ci : Nat} {a1 a2 a3 a4 a5 : Value} {v : Value} {sh' : xv_Sh} {I' : xv_I} {Rf' : xv_Rf} {J' : xv_J} (hM : xv_Met M' d' mc' ms' sh I Rf J [.ref b, a1, a2, a3, a4, a5] (xv_eq (.inl (some v)) sh' I' Rf' J')) (hf : xv_F M pc (.invokevirtual idx) 3 pc') (hY : xv_Y M' 5) (hY2 : Cond.instanceMethod M'.1 ∈ xv_tbl ∧ Cond.selects M'.1.cls M'.1 M'.1 ∈ xv_tbl ∧ (vwCl[ci]?.map fun q => q.1) = some M'.1.cls) (hl : Cond.methodLink M.1.cls idx M'.1 ∈ xv_tbl) (hh : M.2.2.2.2 = []) (hh' : M'.2.2.2.2 = []) (hb : sh b = some (.inl ci)) (hsum : (S.map fun v => v.category).sum ≤ 8) (hd : d' + 1 ≤ d) (h1c : mc' ≤ kc) (h1s : ms' ≤ ks) (kk : xv_W M d mc ms Q (kc - mc') (ks - ms') sh' I' Rf' J' pc' L (v :: S)) : xv_W M d mc ms Q kc ks sh I Rf J pc L (a5 :: a4 :: a3 :: a2 :: a1 :: .ref b :: S) := xv_callV (As := [a1, a2, a3, a4, a5]) (S := S) (kc' := kc - mc') (ks' := ks - ms') hM hf hY hY2 hl hh hh' hb rfl rfl hsum hd (by omega) (by omega) (fun r s i rf j h _ => by obtain ⟨h1, rfl, rfl, rfl, rfl⟩ := h; cases h1; exact kk) (fun E s i rf j h => by obtain ⟨h1, -⟩ := h; cases h1)
theorem xv_callV5V {M' : xv_M} {d' mc' ms' idx b ci : Nat} {a1 a2 a3 a4 a5 : Value} {sh' : xv_Sh} {I' : xv_I} {Rf' : xv_Rf} {J' : xv_J} (hM : xv_Met M' d' mc' ms' sh I Rf J [.ref b, a1, a2, a3, a4, a5] (xv_eq (.inl none) sh' I' Rf' J')) (hf : xv_F M pc (.invokevirtual idx) 3 pc') (hY : xv_Y M' 5) (hY2 : Cond.instanceMethod M'.1 ∈ xv_tbl ∧ Cond.selects M'.1.cls M'.1 M'.1 ∈ xv_tbl ∧ (vwCl[ci]?.map fun q => q.1) = some M'.1.cls) (hl : Cond.methodLink M.1.cls idx M'.1 ∈ xv_tbl) (hh : M.2.2.2.2 = []) (hh' : M'.2.2.2.2 = []) (hb : sh b = some (.inl ci)) (hsum : (S.map fun v => v.category).sum ≤ 8) (hd : d' + 1 ≤ d) (h1c : mc' ≤ kc) (h1s : ms' ≤ ks) (kk : xv_W M d mc ms Q (kc - mc') (ks - ms') sh' I' Rf' J' pc' L S) : xv_W M d mc ms Q kc ks sh I Rf J pc L (a5 :: a4 :: a3 :: a2 :: a1 :: .ref b :: S) := xv_callV (As := [a1, a2, a3, a4, a5]) (S := S) (kc' := kc - mc') (ks' := ks - ms') hM hf hY hY2 hl hh hh' hb rfl rfl hsum hd (by omega) (by omega) (fun r s i rf j h _ => by obtain ⟨h1, rfl, rfl, rfl, rfl⟩ := h; cases h1; exact kk) (fun E s i rf j h => by obtain ⟨h1, -⟩ := h; cases h1)
theorem xv_callV5X {M' : xv_M} {d' mc' ms' idx b ci : Nat} {a1 a2 a3 a4 a5 : Value} {E : String} {sh' : xv_Sh} {I' : xv_I} {Rf' : xv_Rf} {J' : xv_J} (hM : xv_Met M' d' mc' ms' sh I Rf J [.ref b, a1, a2, a3, a4, a5] (xv_eq (.inr E) sh' I' Rf' J')) (hf : xv_F M pc (.invokevirtual idx) 3 pc') (hY : xv_Y M' 5) (hY2 : Cond.instanceMethod M'.1 ∈ xv_tbl ∧ Cond.selects M'.1.cls M'.1 M'.1 ∈ xv_tbl ∧ (vwCl[ci]?.map fun q => q.1) = some M'.1.cls) (hl : Cond.methodLink M.1.cls idx M'.1 ∈ xv_tbl) (hh : M.2.2.2.2 = []) (hh' : M'.2.2.2.2 = []) (hb : sh b = some (.inl ci)) (hsum : (S.map fun v => v.category).sum ≤ 8) (hd : d' + 1 ≤ d) (h1c : mc' ≤ kc) (h1s : ms' ≤ ks) (kq : Q (.inr E) sh' I' Rf' J') : xv_W M d mc ms Q kc ks sh I Rf J pc L (a5 :: a4 :: a3 :: a2 :: a1 :: .ref b :: S) := xv_callV (As := [a1, a2, a3, a4, a5]) (S := S) (kc' := kc - mc') (ks' := ks - ms') hM hf hY hY2 hl hh hh' hb rfl rfl hsum hd (by omega) (by omega) (fun r s i rf j h _ => by obtain ⟨h1, -⟩ := h; cases h1) (fun E s i rf j h => by obtain ⟨h1, rfl, rfl, rfl, rfl⟩ := h; cases h1; exact kq)
theorem xv_callV6G {M' : xv_M} {d' mc' ms' idx b ci : Nat} {a1 a2 a3 a4 a5 a6 : Value} {Q' : xv_Q} (hM : xv_Met M' d' mc' ms' sh I Rf J [.ref b, a1, a2, a3, a4, a5, a6] Q') (hf : xv_F M pc (.invokevirtual idx) 3 pc') (hY : xv_Y M' 6) (hY2 : Cond.instanceMethod M'.1 ∈ xv_tbl ∧ Cond.selects M'.1.cls M'.1 M'.1 ∈ xv_tbl ∧ (vwCl[ci]?.map fun q => q.1) = some M'.1.cls) (hl : Cond.methodLink M.1.cls idx M'.1 ∈ xv_tbl) (hh : M.2.2.2.2 = []) (hh' : M'.2.2.2.2 = []) (hb : sh b = some (.inl ci)) (hsum : (S.map fun v => v.category).sum ≤ 8) (hd : d' + 1 ≤ d) (h1c : mc' ≤ kc) (h1s : ms' ≤ ks) (kr : ∀ r sh' I' Rf' J', Q' (.inl r) sh' I' Rf' J' → (∀ v, sh v ≠ none → sh' v = sh v) → xv_W M d mc ms Q (kc - mc') (ks - ms') sh' I' Rf' J' pc' L (r.toList ++ S)) (kx : ∀ E sh' I' Rf' J', Q' (.inr E) sh' I' Rf' J' → Q (.inr E) sh' I' Rf' J') : xv_W M d mc ms Q kc ks sh I Rf J pc L (a6 :: a5 :: a4 :: a3 :: a2 :: a1 :: .ref b :: S) := xv_callV (As := [a1, a2, a3, a4, a5, a6]) (S := S) (kc' := kc - mc') (ks' := ks - ms') hM hf hY hY2 hl hh hh' hb rfl rfl hsum hd (by omega) (by omega) kr kx
theorem xv_callV6R {M' : xv_M} {d' mc' ms' idx b ci : Nat} {a1 a2 a3 a4 a5 a6 : Value} {v : Value} {sh' : xv_Sh} {I' : xv_I} {Rf' : xv_Rf} {J' : xv_J} (hM : xv_Met M' d' mc' ms' sh I Rf J [.ref b, a1, a2, a3, a4, a5, a6] (xv_eq (.inl (some v)) sh' I' Rf' J')) (hf : xv_F M pc (.invokevirtual idx) 3 pc') (hY : xv_Y M' 6) (hY2 : Cond.instanceMethod M'.1 ∈ xv_tbl ∧ Cond.selects M'.1.cls M'.1 M'.1 ∈ xv_tbl ∧ (vwCl[ci]?.map fun q => q.1) = some M'.1.cls) (hl : Cond.methodLink M.1.cls idx M'.1 ∈ xv_tbl) (hh : M.2.2.2.2 = []) (hh' : M'.2.2.2.2 = []) (hb : sh b = some (.inl ci)) (hsum : (S.map fun v => v.category).sum ≤ 8) (hd : d' + 1 ≤ d) (h1c : mc' ≤ kc) (h1s : ms' ≤ ks) (kk : xv_W M d mc ms Q (kc - mc') (ks - ms') sh' I' Rf' J' pc' L (v :: S)) : xv_W M d mc ms Q kc ks sh I Rf J pc L (a6 :: a5 :: a4 :: a3 :: a2 :: a1 :: .ref b :: S) := xv_callV (As := [a1, a2, a3, a4, a5, a6]) (S := S) (kc' := kc - mc') (ks' := ks - ms') hM hf hY hY2 hl hh hh' hb rfl rfl hsum hd (by omega) (by omega) (fun r s i rf j h _ => by obtain ⟨h1, rfl, rfl, rfl, rfl⟩ := h; cases h1; exact kk) (fun E s i rf j h => by obtain ⟨h1, -⟩ := h; cases h1)
theorem xv_callV6V {M' : xv_M} {d' mc' ms' idx b ci : Nat} {a1 a2 a3 a4 a5 a6 : Value} {sh' : xv_Sh} {I' : xv_I} {Rf' : xv_Rf} {J' : xv_J} (hM : xv_Met M' d' mc' ms' sh I Rf J [.ref b, a1, a2, a3, a4, a5, a6] (xv_eq (.inl none) sh' I' Rf' J')) (hf : xv_F M pc (.invokevirtual idx) 3 pc') (hY : xv_Y M' 6) (hY2 : Cond.instanceMethod M'.1 ∈ xv_tbl ∧ Cond.selects M'.1.cls M'.1 M'.1 ∈ xv_tbl ∧ (vwCl[ci]?.map fun q => q.1) = some M'.1.cls) (hl : Cond.methodLink M.1.cls idx M'.1 ∈ xv_tbl) (hh : M.2.2.2.2 = []) (hh' : M'.2.2.2.2 = []) (hb : sh b = some (.inl ci)) (hsum : (S.map fun v => v.category).sum ≤ 8) (hd : d' + 1 ≤ d) (h1c : mc' ≤ kc) (h1s : ms' ≤ ks) (kk : xv_W M d mc ms Q (kc - mc') (ks - ms') sh' I' Rf' J' pc' L S) : xv_W M d mc ms Q kc ks sh I Rf J pc L (a6 :: a5 :: a4 :: a3 :: a2 :: a1 :: .ref b :: S) := xv_callV (As := [a1, a2, a3, a4, a5, a6]) (S := S) (kc' := kc - mc') (ks' := ks - ms') hM hf hY hY2 hl hh hh' hb rfl rfl hsum hd (by omega) (by omega) (fun r s i rf j h _ => by obtain ⟨h1, rfl, rfl, rfl, rfl⟩ := h; cases h1; exact kk) (fun E s i rf j h => by obtain ⟨h1, -⟩ := h; cases h1)
theorem xv_callV6X {M' : xv_M} {d' mc' ms' idx b ci : Nat} {a1 a2 a3 a4 a5 a6 : Value} {E : String} {sh' : xv_Sh} {I' : xv_I} {Rf' : xv_Rf} {J' : xv_J} (hM : xv_Met M' d' mc' ms' sh I Rf J [.ref b, a1, a2, a3, a4, a5, a6] (xv_eq (.inr E) sh' I' Rf' J')) (hf : xv_F M pc (.invokevirtual idx) 3 pc') (hY : xv_Y M' 6) (hY2 : Cond.instanceMethod M'.1 ∈ xv_tbl ∧ Cond.selects M'.1.cls M'.1 M'.1 ∈ xv_tbl ∧ (vwCl[ci]?.map fun q => q.1) = some M'.1.cls) (hl : Cond.methodLink M.1.cls idx M'.1 ∈ xv_tbl) (hh : M.2.2.2.2 = []) (hh' : M'.2.2.2.2 = []) (hb : sh b = some (.inl ci)) (hsum : (S.map fun v => v.category).sum ≤ 8) (hd : d' + 1 ≤ d) (h1c : mc' ≤ kc) (h1s : ms' ≤ ks) (kq : Q (.inr E) sh' I' Rf' J') : xv_W M d mc ms Q kc ks sh I Rf J pc L (a6 :: a5 :: a4 :: a3 :: a2 :: a1 :: .ref b :: S) := xv_callV (As := [a1, a2, a3, a4, a5, a6]) (S := S) (kc' := kc - mc') (ks' := ks - ms') hM hf hY hY2 hl hh hh' hb rfl rfl hsum hd (by omega) (by omega) (fun r s i rf j h _ => by obtain ⟨h1, -⟩ := h; cases h1) (fun E s i rf j h => by obtain ⟨h1, rfl, rfl, rfl, rfl⟩ := h; cases h1; exact kq)
theorem xv_callV7G {M' : xv_M} {d' mc' ms' idx b ci : Nat} {a1 a2 a3 a4 a5 a6 a7 : Value} {Q' : xv_Q} (hM : xv_Met M' d' mc' ms' sh I Rf J [.ref b, a1, a2, a3, a4, a5, a6, a7] Q') (hf : xv_F M pc (.invokevirtual idx) 3 pc') (hY : xv_Y M' 7) (hY2 : Cond.instanceMethod M'.1 ∈ xv_tbl ∧ Cond.selects M'.1.cls M'.1 M'.1 ∈ xv_tbl ∧ (vwCl[ci]?.map fun q => q.1) = some M'.1.cls) (hl : Cond.methodLink M.1.cls idx M'.1 ∈ xv_tbl) (hh : M.2.2.2.2 = []) (hh' : M'.2.2.2.2 = []) (hb : sh b = some (.inl ci)) (hsum : (S.map fun v => v.category).sum ≤ 8) (hd : d' + 1 ≤ d) (h1c : mc' ≤ kc) (h1s : ms' ≤ ks) (kr : ∀ r sh' I' Rf' J', Q' (.inl r) sh' I' Rf' J' → (∀ v, sh v ≠ none → sh' v = sh v) → xv_W M d mc ms Q (kc - mc') (ks - ms') sh' I' Rf' J' pc' L (r.toList ++ S)) (kx : ∀ E sh' I' Rf' J', Q' (.inr E) sh' I' Rf' J' → Q (.inr E) sh' I' Rf' J') : xv_W M d mc ms Q kc ks sh I Rf J pc L (a7 :: a6 :: a5 :: a4 :: a3 :: a2 :: a1 :: .ref b :: S) := xv_callV (As := [a1, a2, a3, a4, a5, a6, a7]) (S := S) (kc' := kc - mc') (ks' := ks - ms') hM hf hY hY2 hl hh hh' hb rfl rfl hsum hd (by omega) (by omega) kr kx
theorem xv_callV7R {M' : xv_M} {d' mc' ms' idx b ci : Nat} {a1 a2 a3 a4 a5 a6 a7 : Value} {v : Value} {sh' : xv_Sh} {I' : xv_I} {Rf' : xv_Rf} {J' : xv_J} (hM : xv_Met M' d' mc' ms' sh I Rf J [.ref b, a1, a2, a3, a4, a5, a6, a7] (xv_eq (.inl (some v)) sh' I' Rf' J')) (hf : xv_F M pc (.invokevirtual idx) 3 pc') (hY : xv_Y M' 7) (hY2 : Cond.instanceMethod M'.1 ∈ xv_tbl ∧ Cond.selects M'.1.cls M'.1 M'.1 ∈ xv_tbl ∧ (vwCl[ci]?.map fun q => q.1) = some M'.1.cls) (hl : Cond.methodLink M.1.cls idx M'.1 ∈ xv_tbl) (hh : M.2.2.2.2 = []) (hh' : M'.2.2.2.2 = []) (hb : sh b = some (.inl ci)) (hsum : (S.map fun v => v.category).sum ≤ 8) (hd : d' + 1 ≤ d) (h1c : mc' ≤ kc) (h1s : ms' ≤ ks) (kk : xv_W M d mc ms Q (kc - mc') (ks - ms') sh' I' Rf' J' pc' L (v :: S)) : xv_W M d mc ms Q kc ks sh I Rf J pc L (a7 :: a6 :: a5 :: a4 :: a3 :: a2 :: a1 :: .ref b :: S) := xv_callV (As := [a1, a2, a3, a4, a5, a6, a7]) (S := S) (kc' := kc - mc') (ks' := ks - ms') hM hf hY hY2 hl hh hh' hb rfl rfl hsum hd (by omega) (by omega) (fun r s i rf j h _ => by obtain ⟨h1, rfl, rfl, rfl, rfl⟩ := h; cases h1; exact kk) (fun E s i rf j h => by obtain ⟨h1, -⟩ := h; cases h1)
theorem xv_callV7V {M' : xv_M} {d' mc' ms' idx b ci : Nat} {a1 a2 a3 a4 a5 a6 a7 : Value} {sh' : xv_Sh} {I' : xv_I} {Rf' : xv_Rf} {J' : xv_J} (hM : xv_Met M' d' mc' ms' sh I Rf J [.ref b, a1, a2, a3, a4, a5, a6, a7] (xv_eq (.inl none) sh' I' Rf' J')) (hf : xv_F M pc (.invokevirtual idx) 3 pc') (hY : xv_Y M' 7) (hY2 : Cond.instanceMethod M'.1 ∈ xv_tbl ∧ Cond.selects M'.1.cls M'.1 M'.1 ∈ xv_tbl ∧ (vwCl[ci]?.map fun q => q.1) = some M'.1.cls) (hl : Cond.methodLink M.1.cls idx M'.1 ∈ xv_tbl) (hh : M.2.2.2.2 = []) (hh' : M'.2.2.2.2 = []) (hb : sh b = some (.inl ci)) (hsum : (S.map fun v => v.category).sum ≤ 8) (hd : d' + 1 ≤ d) (h1c : mc' ≤ kc) (h1s : ms' ≤ ks) (kk : xv_W M d mc ms Q (kc - mc') (ks - ms') sh' I' Rf' J' pc' L S) : xv_W M d mc ms Q kc ks sh I Rf J pc L (a7 :: a6 :: a5 :: a4 :: a3 :: a2 :: a1 :: .ref b :: S) := xv_callV (As := [a1, a2, a3, a4, a5, a6, a7]) (S := S) (kc' := kc - mc') (ks' := ks - ms') hM hf hY hY2 hl hh hh' hb rfl rfl hsum hd (by omega) (by omega) (fun r s i rf j h _ => by obtain ⟨h1, rfl, rfl, rfl, rfl⟩ := h; cases h1; exact kk) (fun E s i rf j h => by obtain ⟨h1, -⟩ := h; cases h1)
theorem xv_callV7X {M' : xv_M} {d' mc' ms' idx b ci : Nat} {a1 a2 a3 a4 a5 a6 a7 : Value} {E : String} {sh' : xv_Sh} {I' : xv_I} {Rf' : xv_Rf} {J' : xv_J} (hM : xv_Met M' d' mc' ms' sh I Rf J [.ref b, a1, a2, a3, a4, a5, a6, a7] (xv_eq (.inr E) sh' I' Rf' J')) (hf : xv_F M pc (.invokevirtual idx) 3 pc') (hY : xv_Y M' 7) (hY2 : Cond.instanceMethod M'.1 ∈ xv_tbl ∧ Cond.selects M'.1.cls M'.1 M'.1 ∈ xv_tbl ∧ (vwCl[ci]?.map fun q => q.1) = some M'.1.cls) (hl : Cond.methodLink M.1.cls idx M'.1 ∈ xv_tbl) (hh : M.2.2.2.2 = []) (hh' : M'.2.2.2.2 = []) (hb : sh b = some (.inl ci)) (hsum : (S.map fun v => v.category).sum ≤ 8) (hd : d' + 1 ≤ d) (h1c : mc' ≤ kc) (h1s : ms' ≤ ks) (kq : Q (.inr E) sh' I' Rf' J') : xv_W M d mc ms Q kc ks sh I Rf J pc L (a7 :: a6 :: a5 :: a4 :: a3 :: a2 :: a1 :: .ref b :: S) := xv_callV (As := [a1, a2, a3, a4, a5, a6, a7]) (S := S) (kc' := kc - mc') (ks' := ks - ms') hM hf hY hY2 hl hh hh' hb rfl rfl hsum hd (by omega) (by omega) (fun r s i rf j h _ => by obtain ⟨h1, -⟩ := h; cases h1) (fun E s i rf j h => by obtain ⟨h1, rfl, rfl, rfl, rfl⟩ := h; cases h1; exact kq)
theorem xv_callV8G {M' : xv_M} {d' mc' ms' idx b ci : Nat} {a1 a2 a3 a4 a5 a6 a7 a8 : Value} {Q' : xv_Q} (hM : xv_Met M' d' mc' ms' sh I Rf J [.ref b, a1, a2, a3, a4, a5, a6, a7, a8] Q') (hf : xv_F M pc (.invokevirtual idx) 3 pc') (hY : xv_Y M' 8) (hY2 : Cond.instanceMethod M'.1 ∈ xv_tbl ∧ Cond.selects M'.1.cls M'.1 M'.1 ∈ xv_tbl ∧ (vwCl[ci]?.map fun q => q.1) = some M'.1.cls) (hl : Cond.methodLink M.1.cls idx M'.1 ∈ xv_tbl) (hh : M.2.2.2.2 = []) (hh' : M'.2.2.2.2 = []) (hb : sh b = some (.inl ci)) (hsum : (S.map fun v => v.category).sum ≤ 8) (hd : d' + 1 ≤ d) (h1c : mc' ≤ kc) (h1s : ms' ≤ ks) (kr : ∀ r sh' I' Rf' J', Q' (.inl r) sh' I' Rf' J' → (∀ v, sh v ≠ none → sh' v = sh v) → xv_W M d mc ms Q (kc - mc') (ks - ms') sh' I' Rf' J' pc' L (r.toList ++ S)) (kx : ∀ E sh' I' Rf' J', Q' (.inr E) sh' I' Rf' J' → Q (.inr E) sh' I' Rf' J') : xv_W M d mc ms Q kc ks sh I Rf J pc L (a8 :: a7 :: a6 :: a5 :: a4 :: a3 :: a2 :: a1 :: .ref b :: S) := xv_callV (As := [a1, a2, a3, a4, a5, a6, a7, a8]) (S := S) (kc' := kc - mc') (ks' := ks - ms') hM hf hY hY2 hl hh hh' hb rfl rfl hsum hd (by omega) (by omega) kr kx
theorem xv_callV8R {M' : xv_M} {d' mc' ms' idx b ci : Nat} {a1 a2 a3 a4 a5 a6 a7 a8 : Value} {v : Value} {sh' : xv_Sh} {I' : xv_I} {Rf' : xv_Rf} {J' : xv_J} (hM : xv_Met M' d' mc' ms' sh I Rf J [.ref b, a1, a2, a3, a4, a5, a6, a7, a8] (xv_eq (.inl (some v)) sh' I' Rf' J')) (hf : xv_F M pc (.invokevirtual idx) 3 pc') (hY : xv_Y M' 8) (hY2 : Cond.instanceMethod M'.1 ∈ xv_tbl ∧ Cond.selects M'.1.cls M'.1 M'.1 ∈ xv_tbl ∧ (vwCl[ci]?.map fun q => q.1) = some M'.1.cls) (hl : Cond.methodLink M.1.cls idx M'.1 ∈ xv_tbl) (hh : M.2.2.2.2 = []) (hh' : M'.2.2.2.2 = []) (hb : sh b = some (.inl ci)) (hsum : (S.map fun v => v.category).sum ≤ 8) (hd : d' + 1 ≤ d) (h1c : mc' ≤ kc) (h1s : ms' ≤ ks) (kk : xv_W M d mc ms Q (kc - mc') (ks - ms') sh' I' Rf' J' pc' L (v :: S)) : xv_W M d mc ms Q kc ks sh I Rf J pc L (a8 :: a7 :: a6 :: a5 :: a4 :: a3 :: a2 :: a1 :: .ref b :: S) := xv_callV (As := [a1, a2, a3, a4, a5, a6, a7, a8]) (S := S) (kc' := kc - mc') (ks' := ks - ms') hM hf hY hY2 hl hh hh' hb rfl rfl hsum hd (by omega) (by omega) (fun r s i rf j h _ => by obtain ⟨h1, rfl, rfl, rfl, rfl⟩ := h; cases h1; exact kk) (fun E s i rf j h => by obtain ⟨h1, -⟩ := h; cases h1)
theorem xv_callV8V {M' : xv_M} {d' mc' ms' idx b ci : Nat} {a1 a2 a3 a4 a5 a6 a7 a8 : Value} {sh' : xv_Sh} {I' : xv_I} {Rf' : xv_Rf} {J' : xv_J} (hM : xv_Met M' d' mc' ms' sh I Rf J [.ref b, a1, a2, a3, a4, a5, a6, a7, a8] (xv_eq (.inl none) sh' I' Rf' J')) (hf : xv_F M pc (.invokevirtual idx) 3 pc') (hY : xv_Y M' 8) (hY2 : Cond.instanceMethod M'.1 ∈ xv_tbl ∧ Cond.selects M'.1.cls M'.1 M'.1 ∈ xv_tbl ∧ (vwCl[ci]?.map fun q => q.1) = some M'.1.cls) (hl : Cond.methodLink M.1.cls idx M'.1 ∈ xv_tbl) (hh : M.2.2.2.2 = []) (hh' : M'.2.2.2.2 = []) (hb : sh b = some (.inl ci)) (hsum : (S.map fun v => v.category).sum ≤ 8) (hd : d' + 1 ≤ d) (h1c : mc' ≤ kc) (h1s : ms' ≤ ks) (kk : xv_W M d mc ms Q (kc - mc') (ks - ms') sh' I' Rf' J' pc' L S) : xv_W M d mc ms Q kc ks sh I Rf J pc L (a8 :: a7 :: a6 :: a5 :: a4 :: a3 :: a2 :: a1 :: .ref b :: S) := xv_callV (As := [a1, a2, a3, a4, a5, a6, a7, a8]) (S := S) (kc' := kc - mc') (ks' := ks - ms') hM hf hY hY2 hl hh hh' hb rfl rfl hsum hd (by omega) (by omega) (fun r s i rf j h _ => by obtain ⟨h1, rfl, rfl, rfl, rfl⟩ := h; cases h1; exact kk) (fun E s i rf j h => by obtain ⟨h1, -⟩ := h; cases h1)
theorem xv_callV8X {M' : xv_M} {d' mc' ms' idx b ci : Nat} {a1 a2 a3 a4 a5 a6 a7 a8 : Value} {E : String} {sh' : xv_Sh} {I' : xv_I} {Rf' : xv_Rf} {J' : xv_J} (hM : xv_Met M' d' mc' ms' sh I Rf J [.ref b, a1, a2, a3, a4, a5, a6, a7, a8] (xv_eq (.inr E) sh' I' Rf' J')) (hf : xv_F M pc (.invokevirtual idx) 3 pc') (hY : xv_Y M' 8) (hY2 : Cond.instanceMethod M'.1 ∈ xv_tbl ∧ Cond.selects M'.1.cls M'.1 M'.1 ∈ xv_tbl ∧ (vwCl[ci]?.map fun q => q.1) = some M'.1.cls) (hl : Cond.methodLink M.1.cls idx M'.1 ∈ xv_tbl) (hh : M.2.2.2.2 = []) (hh' : M'.2.2.2.2 = []) (hb : sh b = some (.inl ci)) (hsum : (S.map fun v => v.category).sum ≤ 8) (hd : d' + 1 ≤ d) (h1c : mc' ≤ kc) (h1s : ms' ≤ ks) (kq : Q (.inr E) sh' I' Rf' J') : xv_W M d mc ms Q kc ks sh I Rf J pc L (a8 :: a7 :: a6 :: a5 :: a4 :: a3 :: a2 :: a1 :: .ref b :: S) := xv_callV (As := [a1, a2, a3, a4, a5, a6, a7, a8]) (S := S) (kc' := kc - mc') (ks' := ks - ms') hM hf hY hY2 hl hh hh' hb rfl rfl hsum hd (by omega) (by omega) (fun r s i rf j h _ => by obtain ⟨h1, -⟩ := h; cases h1) (fun E s i rf j h => by obtain ⟨h1, rfl, rfl, rfl, rfl⟩ := h; cases h1; exact kq)
theorem xv_callS0G {M' : xv_M} {d' mc' ms' idx : Nat} {Q' : xv_Q} (hM : xv_Met M' d' mc' ms' sh I Rf J [] Q') (hf : xv_F M pc (.invokestatic idx) 3 pc') (hY : xv_Y M' 0) (hY2 : Cond.static M'.1 ∈ xv_tbl) (hl : Cond.methodLink M.1.cls idx M'.1 ∈ xv_tbl ∨ (M'.2.2.2.2 = [] ∧ ∃ host, Cond.methodLinkNest M.1.cls idx M'.1 host ∈ xv_tbl)) (hh : M.2.2.2.2 = []) (hsum : (S.map fun v => v.category).sum ≤ 8) (hd : d' + 1 ≤ d) (h1c : mc' ≤ kc) (h1s : ms' ≤ ks) (kr : ∀ r sh' I' Rf' J', Q' (.inl r) sh' I' Rf' J' → (∀ v, sh v ≠ none → sh' v = sh v) → xv_W M d mc ms Q (kc - mc') (ks - ms') sh' I' Rf' J' pc' L (r.toList ++ S)) (kx : ∀ E sh' I' Rf' J', Q' (.inr E) sh' I' Rf' J' → Q (.inr E) sh' I' Rf' J') : xv_W M d mc ms Q kc ks sh I Rf J pc L (S) := xv_callS (As := []) (S := S) (kc' := kc - mc') (ks' := ks - ms') hM hf hY hY2 hl hh rfl rfl hsum hd (by omega) (by omega) kr kx
theorem xv_callS0R {M' : xv_M} {d' mc' ms' idx : Nat} {v : Value} {sh' : xv_Sh} {I' : xv_I} {Rf' : xv_Rf} {J' : xv_J} (hM : xv_Met M' d' mc' ms' sh I Rf J [] (xv_eq (.inl (some v)) sh' I' Rf' J')) (hf : xv_F M pc (.invokestatic idx) 3 pc') (hY : xv_Y M' 0) (hY2 : Cond.static M'.1 ∈ xv_tbl) (hl : Cond.methodLink M.1.cls idx M'.1 ∈ xv_tbl ∨ (M'.2.2.2.2 = [] ∧ ∃ host, Cond.methodLinkNest M.1.cls idx M'.1 host ∈ xv_tbl)) (hh : M.2.2.2.2 = []) (hsum : (S.map fun v => v.category).sum ≤ 8) (hd : d' + 1 ≤ d) (h1c : mc' ≤ kc) (h1s : ms' ≤ ks) (kk : xv_W M d mc ms Q (kc - mc') (ks - ms') sh' I' Rf' J' pc' L (v :: S)) : xv_W M d mc ms Q kc ks sh I Rf J pc L (S) := xv_callS (As := []) (S := S) (kc' := kc - mc') (ks' := ks - ms') hM hf hY hY2 hl hh rfl rfl hsum hd (by omega) (by omega) (fun r s i rf j h _ => by obtain ⟨h1, rfl, rfl, rfl, rfl⟩ := h; cases h1; exact kk) (fun E s i rf j h => by obtain ⟨h1, -⟩ := h; cases h1)
theorem xv_callS0V {M' : xv_M} {d' mc' ms' idx : Nat} {sh' : xv_Sh} {I' : xv_I} {Rf' : xv_Rf} {J' : xv_J} (hM : xv_Met M' d' mc' ms' sh I Rf J [] (xv_eq (.inl none) sh' I' Rf' J')) (hf : xv_F M pc (.invokestatic idx) 3 pc') (hY : xv_Y M' 0) (hY2 : Cond.static M'.1 ∈ xv_tbl) (hl : Cond.methodLink M.1.cls idx M'.1 ∈ xv_tbl ∨ (M'.2.2.2.2 = [] ∧ ∃ host, Cond.methodLinkNest M.1.cls idx M'.1 host ∈ xv_tbl)) (hh : M.2.2.2.2 = []) (hsum : (S.map fun v => v.category).sum ≤ 8) (hd : d' + 1 ≤ d) (h1c : mc' ≤ kc) (h1s : ms' ≤ ks) (kk : xv_W M d mc ms Q (kc - mc') (ks - ms') sh' I' Rf' J' pc' L S) : xv_W M d mc ms Q kc ks sh I Rf J pc L (S) := xv_callS (As := []) (S := S) (kc' := kc - mc') (ks' := ks - ms') hM hf hY hY2 hl hh rfl rfl hsum hd (by omega) (by omega) (fun r s i rf j h _ => by obtain ⟨h1, rfl, rfl, rfl, rfl⟩ := h; cases h1; exact kk) (fun E s i rf j h => by obtain ⟨h1, -⟩ := h; cases h1)
theorem xv_callS0X {M' : xv_M} {d' mc' ms' idx : Nat} {E : String} {sh' : xv_Sh} {I' : xv_I} {Rf' : xv_Rf} {J' : xv_J} (hM : xv_Met M' d' mc' ms' sh I Rf J [] (xv_eq (.inr E) sh' I' Rf' J')) (hf : xv_F M pc (.invokestatic idx) 3 pc') (hY : xv_Y M' 0) (hY2 : Cond.static M'.1 ∈ xv_tbl) (hl : Cond.methodLink M.1.cls idx M'.1 ∈ xv_tbl ∨ (M'.2.2.2.2 = [] ∧ ∃ host, Cond.methodLinkNest M.1.cls idx M'.1 host ∈ xv_tbl)) (hh : M.2.2.2.2 = []) (hsum : (S.map fun v => v.category).sum ≤ 8) (hd : d' + 1 ≤ d) (h1c : mc' ≤ kc) (h1s : ms' ≤ ks) (kq : Q (.inr E) sh' I' Rf' J') : xv_W M d mc ms Q kc ks sh I Rf J pc L (S) := xv_callS (As := []) (S := S) (kc' := kc - mc') (ks' := ks - ms') hM hf hY hY2 hl hh rfl rfl hsum hd (by omega) (by omega) (fun r s i rf j h _ => by obtain ⟨h1, -⟩ := h; cases h1) (fun E s i rf j h => by obtain ⟨h1, rfl, rfl, rfl, rfl⟩ := h; cases h1; exact kq)
theorem xv_callS1G {M' : xv_M} {d' mc' ms' idx : Nat} {a1 : Value} {Q' : xv_Q} (hM : xv_Met M' d' mc' ms' sh I Rf J [a1] Q') (hf : xv_F M pc (.invokestatic idx) 3 pc') (hY : xv_Y M' 1) (hY2 : Cond.static M'.1 ∈ xv_tbl) (hl : Cond.methodLink M.1.cls idx M'.1 ∈ xv_tbl ∨ (M'.2.2.2.2 = [] ∧ ∃ host, Cond.methodLinkNest M.1.cls idx M'.1 host ∈ xv_tbl)) (hh : M.2.2.2.2 = []) (hsum : (S.map fun v => v.category).sum ≤ 8) (hd : d' + 1 ≤ d) (h1c : mc' ≤ kc) (h1s : ms' ≤ ks) (kr : ∀ r sh' I' Rf' J', Q' (.inl r) sh' I' Rf' J' → (∀ v, sh v ≠ none → sh' v = sh v) → xv_W M d mc ms Q (kc - mc') (ks - ms') sh' I' Rf' J' pc' L (r.toList ++ S)) (kx : ∀ E sh' I' Rf' J', Q' (.inr E) sh' I' Rf' J' → Q (.inr E) sh' I' Rf' J') : xv_W M d mc ms Q kc ks sh I Rf J pc L (a1 :: S) := xv_callS (As := [a1]) (S := S) (kc' := kc - mc') (ks' := ks - ms') hM hf hY hY2 hl hh rfl rfl hsum hd (by omega) (by omega) kr kx
theorem xv_callS1R {M' : xv_M} {d' mc' ms' idx : Nat} {a1 : Value} {v : Value} {sh' : xv_Sh} {I' : xv_I} {Rf' : xv_Rf} {J' : xv_J} (hM : xv_Met M' d' mc' ms' sh I Rf J [a1] (xv_eq (.inl (some v)) sh' I' Rf' J')) (hf : xv_F M pc (.invokestatic idx) 3 pc') (hY : xv_Y M' 1) (hY2 : Cond.static M'.1 ∈ xv_tbl) (hl : Cond.methodLink M.1.cls idx M'.1 ∈ xv_tbl ∨ (M'.2.2.2.2 = [] ∧ ∃ host, Cond.methodLinkNest M.1.cls idx M'.1 host ∈ xv_tbl)) (hh : M.2.2.2.2 = []) (hsum : (S.map fun v => v.category).sum ≤ 8) (hd : d' + 1 ≤ d) (h1c : mc' ≤ kc) (h1s : ms' ≤ ks) (kk : xv_W M d mc ms Q (kc - mc') (ks - ms') sh' I' Rf' J' pc' L (v :: S)) : xv_W M d mc ms Q kc ks sh I Rf J pc L (a1 :: S) := xv_callS (As := [a1]) (S := S) (kc' := kc - mc') (ks' := ks - ms') hM hf hY hY2 hl hh rfl rfl hsum hd (by omega) (by omega) (fun r s i rf j h _ => by obtain ⟨h1, rfl, rfl, rfl, rfl⟩ := h; cases h1; exact kk) (fun E s i rf j h => by obtain ⟨h1, -⟩ := h; cases h1)
theorem xv_callS1V {M' : xv_M} {d' mc' ms' idx : Nat} {a1 : Value} {sh' : xv_Sh} {I' : xv_I} {Rf' : xv_Rf} {J' : xv_J} (hM : xv_Met M' d' mc' ms' sh I Rf J [a1] (xv_eq (.inl none) sh' I' Rf' J')) (hf : xv_F M pc (.invokestatic idx) 3 pc') (hY : xv_Y M' 1) (hY2 : Cond.static M'.1 ∈ xv_tbl) (hl : Cond.methodLink M.1.cls idx M'.1 ∈ xv_tbl ∨ (M'.2.2.2.2 = [] ∧ ∃ host, Cond.methodLinkNest M.1.cls idx M'.1 host ∈ xv_tbl)) (hh : M.2.2.2.2 = []) (hsum : (S.map fun v => v.category).sum ≤ 8) (hd : d' + 1 ≤ d) (h1c : mc' ≤ kc) (h1s : ms' ≤ ks) (kk : xv_W M d mc ms Q (kc - mc') (ks - ms') sh' I' Rf' J' pc' L S) : xv_W M d mc ms Q kc ks sh I Rf J pc L (a1 :: S) := xv_callS (As := [a1]) (S := S) (kc' := kc - mc') (ks' := ks - ms') hM hf hY hY2 hl hh rfl rfl hsum hd (by omega) (by omega) (fun r s i rf j h _ => by obtain ⟨h1, rfl, rfl, rfl, rfl⟩ := h; cases h1; exact kk) (fun E s i rf j h => by obtain ⟨h1, -⟩ := h; cases h1)
theorem xv_callS1X {M' : xv_M} {d' mc' ms' idx : Nat} {a1 : Value} {E : String} {sh' : xv_Sh} {I' : xv_I} {Rf' : xv_Rf} {J' : xv_J} (hM : xv_Met M' d' mc' ms' sh I Rf J [a1] (xv_eq (.inr E) sh' I' Rf' J')) (hf : xv_F M pc (.invokestatic idx) 3 pc') (hY : xv_Y M' 1) (hY2 : Cond.static M'.1 ∈ xv_tbl) (hl : Cond.methodLink M.1.cls idx M'.1 ∈ xv_tbl ∨ (M'.2.2.2.2 = [] ∧ ∃ host, Cond.methodLinkNest M.1.cls idx M'.1 host ∈ xv_tbl)) (hh : M.2.2.2.2 = []) (hsum : (S.map fun v => v.category).sum ≤ 8) (hd : d' + 1 ≤ d) (h1c : mc' ≤ kc) (h1s : ms' ≤ ks) (kq : Q (.inr E) sh' I' Rf' J') : xv_W M d mc ms Q kc ks sh I Rf J pc L (a1 :: S) := xv_callS (As := [a1]) (S := S) (kc' := kc - mc') (ks' := ks - ms') hM hf hY hY2 hl hh rfl rfl hsum hd (by omega) (by omega) (fun r s i rf j h _ => by obtain ⟨h1, -⟩ := h; cases h1) (fun E s i rf j h => by obtain ⟨h1, rfl, rfl, rfl, rfl⟩ := h; cases h1; exact kq)
theorem xv_callS2G {M' : xv_M} {d' mc' ms' idx : Nat} {a1 a2 : Value} {Q' : xv_Q} (hM : xv_Met M' d' mc' ms' sh I Rf J [a1, a2] Q') (hf : xv_F M pc (.invokestatic idx) 3 pc') (hY : xv_Y M' 2) (hY2 : Cond.static M'.1 ∈ xv_tbl) (hl : Cond.methodLink M.1.cls idx M'.1 ∈ xv_tbl ∨ (M'.2.2.2.2 = [] ∧ ∃ host, Cond.methodLinkNest M.1.cls idx M'.1 host ∈ xv_tbl)) (hh : M.2.2.2.2 = []) (hsum : (S.map fun v => v.category).sum ≤ 8) (hd : d' + 1 ≤ d) (h1c : mc' ≤ kc) (h1s : ms' ≤ ks) (kr : ∀ r sh' I' Rf' J', Q' (.inl r) sh' I' Rf' J' → (∀ v, sh v ≠ none → sh' v = sh v) → xv_W M d mc ms Q (kc - mc') (ks - ms') sh' I' Rf' J' pc' L (r.toList ++ S)) (kx : ∀ E sh' I' Rf' J', Q' (.inr E) sh' I' Rf' J' → Q (.inr E) sh' I' Rf' J') : xv_W M d mc ms Q kc ks sh I Rf J pc L (a2 :: a1 :: S) := xv_callS (As := [a1, a2]) (S := S) (kc' := kc - mc') (ks' := ks - ms') hM hf hY hY2 hl hh rfl rfl hsum hd (by omega) (by omega) kr kx
theorem xv_callS2R {M' : xv_M} {d' mc' ms' idx : Nat} {a1 a2 : Value} {v : Value} {sh' : xv_Sh} {I' : xv_I} {Rf' : xv_Rf} {J' : xv_J} (hM : xv_Met M' d' mc' ms' sh I Rf J [a1, a2] (xv_eq (.inl (some v)) sh' I' Rf' J')) (hf : xv_F M pc (.invokestatic idx) 3 pc') (hY : xv_Y M' 2) (hY2 : Cond.static M'.1 ∈ xv_tbl) (hl : Cond.methodLink M.1.cls idx M'.1 ∈ xv_tbl ∨ (M'.2.2.2.2 = [] ∧ ∃ host, Cond.methodLinkNest M.1.cls idx M'.1 host ∈ xv_tbl)) (hh : M.2.2.2.2 = []) (hsum : (S.map fun v => v.category).sum ≤ 8) (hd : d' + 1 ≤ d) (h1c : mc' ≤ kc) (h1s : ms' ≤ ks) (kk : xv_W M d mc ms Q (kc - mc') (ks - ms') sh' I' Rf' J' pc' L (v :: S)) : xv_W M d mc ms Q kc ks sh I Rf J pc L (a2 :: a1 :: S) := xv_callS (As := [a1, a2]) (S := S) (kc' := kc - mc') (ks' := ks - ms') hM hf hY hY2 hl hh rfl rfl hsum hd (by omega) (by omega) (fun r s i rf j h _ => by obtain ⟨h1, rfl, rfl, rfl, rfl⟩ := h; cases h1; exact kk) (fun E s i rf j h => by obtain ⟨h1, -⟩ := h; cases h1)
theorem xv_callS2V {M' : xv_M} {d' mc' ms' idx : Nat} {a1 a2 : Value} {sh' : xv_Sh} {I' : xv_I} {Rf' : xv_Rf} {J' : xv_J} (hM : xv_Met M' d' mc' ms' sh I Rf J [a1, a2] (xv_eq (.inl none) sh' I' Rf' J')) (hf : xv_F M pc (.invokestatic idx) 3 pc') (hY : xv_Y M' 2) (hY2 : Cond.static M'.1 ∈ xv_tbl) (hl : Cond.methodLink M.1.cls idx M'.1 ∈ xv_tbl ∨ (M'.2.2.2.2 = [] ∧ ∃ host, Cond.methodLinkNest M.1.cls idx M'.1 host ∈ xv_tbl)) (hh : M.2.2.2.2 = []) (hsum : (S.map fun v => v.category).sum ≤ 8) (hd : d' + 1 ≤ d) (h1c : mc' ≤ kc) (h1s : ms' ≤ ks) (kk : xv_W M d mc ms Q (kc - mc') (ks - ms') sh' I' Rf' J' pc' L S) : xv_W M d mc ms Q kc ks sh I Rf J pc L (a2 :: a1 :: S) := xv_callS (As := [a1, a2]) (S := S) (kc' := kc - mc') (ks' := ks - ms') hM hf hY hY2 hl hh rfl rfl hsum hd (by omega) (by omega) (fun r s i rf j h _ => by obtain ⟨h1, rfl, rfl, rfl, rfl⟩ := h; cases h1; exact kk) (fun E s i rf j h => by obtain ⟨h1, -⟩ := h; cases h1)
theorem xv_callS2X {M' : xv_M} {d' mc' ms' idx : Nat} {a1 a2 : Value} {E : String} {sh' : xv_Sh} {I' : xv_I} {Rf' : xv_Rf} {J' : xv_J} (hM : xv_Met M' d' mc' ms' sh I Rf J [a1, a2] (xv_eq (.inr E) sh' I' Rf' J')) (hf : xv_F M pc (.invokestatic idx) 3 pc') (hY : xv_Y M' 2) (hY2 : Cond.static M'.1 ∈ xv_tbl) (hl : Cond.methodLink M.1.cls idx M'.1 ∈ xv_tbl ∨ (M'.2.2.2.2 = [] ∧ ∃ host, Cond.methodLinkNest M.1.cls idx M'.1 host ∈ xv_tbl)) (hh : M.2.2.2.2 = []) (hsum : (S.map fun v => v.category).sum ≤ 8) (hd : d' + 1 ≤ d) (h1c : mc' ≤ kc) (h1s : ms' ≤ ks) (kq : Q (.inr E) sh' I' Rf' J') : xv_W M d mc ms Q kc ks sh I Rf J pc L (a2 :: a1 :: S) := xv_callS (As := [a1, a2]) (S := S) (kc' := kc - mc') (ks' := ks - ms') hM hf hY hY2 hl hh rfl rfl hsum hd (by omega) (by omega) (fun r s i rf j h _ => by obtain ⟨h1, -⟩ := h; cases h1) (fun E s i rf j h => by obtain ⟨h1, rfl, rfl, rfl, rfl⟩ := h; cases h1; exact kq)
theorem xv_callS3G {M' : xv_M} {d' mc' ms' idx : Nat} {a1 a2 a3 : Value} {Q' : xv_Q} (hM : xv_Met M' d' mc' ms' sh I Rf J [a1, a2, a3] Q') (hf : xv_F M pc (.invokestatic idx) 3 pc') (hY : xv_Y M' 3) (hY2 : Cond.static M'.1 ∈ xv_tbl) (hl : Cond.methodLink M.1.cls idx M'.1 ∈ xv_tbl ∨ (M'.2.2.2.2 = [] ∧ ∃ host, Cond.methodLinkNest M.1.cls idx M'.1 host ∈ xv_tbl)) (hh : M.2.2.2.2 = []) (hsum : (S.map fun v => v.category).sum ≤ 8) (hd : d' + 1 ≤ d) (h1c : mc' ≤ kc) (h1s : ms' ≤ ks) (kr : ∀ r sh' I' Rf' J', Q' (.inl r) sh' I' Rf' J' → (∀ v, sh v ≠ none → sh' v = sh v) → xv_W M d mc ms Q (kc - mc') (ks - ms') sh' I' Rf' J' pc' L (r.toList ++ S)) (kx : ∀ E sh' I' Rf' J', Q' (.inr E) sh' I' Rf' J' → Q (.inr E) sh' I' Rf' J') : xv_W M d mc ms Q kc ks sh I Rf J pc L (a3 :: a2 :: a1 :: S) := xv_callS (As := [a1, a2, a3]) (S := S) (kc' := kc - mc') (ks' := ks - ms') hM hf hY hY2 hl hh rfl rfl hsum hd (by omega) (by omega) kr kx
theorem xv_callS3R {M' : xv_M} {d' mc' ms' idx : Nat} {a1 a2 a3 : Value} {v : Value} {sh' : xv_Sh} {I' : xv_I} {Rf' : xv_Rf} {J' : xv_J} (hM : xv_Met M' d' mc' ms' sh I Rf J [a1, a2, a3] (xv_eq (.inl (some v)) sh' I' Rf' J')) (hf : xv_F M pc (.invokestatic idx) 3 pc') (hY : xv_Y M' 3) (hY2 : Cond.static M'.1 ∈ xv_tbl) (hl : Cond.methodLink M.1.cls idx M'.1 ∈ xv_tbl ∨ (M'.2.2.2.2 = [] ∧ ∃ host, Cond.methodLinkNest M.1.cls idx M'.1 host ∈ xv_tbl)) (hh : M.2.2.2.2 = []) (hsum : (S.map fun v => v.category).sum ≤ 8) (hd : d' + 1 ≤ d) (h1c : mc' ≤ kc) (h1s : ms' ≤ ks) (kk : xv_W M d mc ms Q (kc - mc') (ks - ms') sh' I' Rf' J' pc' L (v :: S)) : xv_W M d mc ms Q kc ks sh I Rf J pc L (a3 :: a2 :: a1 :: S) := xv_callS (As := [a1, a2, a3]) (S := S) (kc' := kc - mc') (ks' := ks - ms') hM hf hY hY2 hl hh rfl rfl hsum hd (by omega) (by omega) (fun r s i rf j h _ => by obtain ⟨h1, rfl, rfl, rfl, rfl⟩ := h; cases h1; exact kk) (fun E s i rf j h => by obtain ⟨h1, -⟩ := h; cases h1)
theorem xv_callS3V {M' : xv_M} {d' mc' ms' idx : Nat} {a1 a2 a3 : Value} {sh' : xv_Sh} {I' : xv_I} {Rf' : xv_Rf} {J' : xv_J} (hM : xv_Met M' d' mc' ms' sh I Rf J [a1, a2, a3] (xv_eq (.inl none) sh' I' Rf' J')) (hf : xv_F M pc (.invokestatic idx) 3 pc') (hY : xv_Y M' 3) (hY2 : Cond.static M'.1 ∈ xv_tbl) (hl : Cond.methodLink M.1.cls idx M'.1 ∈ xv_tbl ∨ (M'.2.2.2.2 = [] ∧ ∃ host, Cond.methodLinkNest M.1.cls idx M'.1 host ∈ xv_tbl)) (hh : M.2.2.2.2 = []) (hsum : (S.map fun v => v.category).sum ≤ 8) (hd : d' + 1 ≤ d) (h1c : mc' ≤ kc) (h1s : ms' ≤ ks) (kk : xv_W M d mc ms Q (kc - mc') (ks - ms') sh' I' Rf' J' pc' L S) : xv_W M d mc ms Q kc ks sh I Rf J pc L (a3 :: a2 :: a1 :: S) := xv_callS (As := [a1, a2, a3]) (S := S) (kc' := kc - mc') (ks' := ks - ms') hM hf hY hY2 hl hh rfl rfl hsum hd (by omega) (by omega) (fun r s i rf j h _ => by obtain ⟨h1, rfl, rfl, rfl, rfl⟩ := h; cases h1; exact kk) (fun E s i rf j h => by obtain ⟨h1, -⟩ := h; cases h1)
theorem xv_callS3X {M' : xv_M} {d' mc' ms' idx : Nat} {a1 a2 a3 : Value} {E : String} {sh' : xv_Sh} {I' : xv_I} {Rf' : xv_Rf} {J' : xv_J} (hM : xv_Met M' d' mc' ms' sh I Rf J [a1, a2, a3] (xv_eq (.inr E) sh' I' Rf' J')) (hf : xv_F M pc (.invokestatic idx) 3 pc') (hY : xv_Y M' 3) (hY2 : Cond.static M'.1 ∈ xv_tbl) (hl : Cond.methodLink M.1.cls idx M'.1 ∈ xv_tbl ∨ (M'.2.2.2.2 = [] ∧ ∃ host, Cond.methodLinkNest M.1.cls idx M'.1 host ∈ xv_tbl)) (hh : M.2.2.2.2 = []) (hsum : (S.map fun v => v.category).sum ≤ 8) (hd : d' + 1 ≤ d) (h1c : mc' ≤ kc) (h1s : ms' ≤ ks) (kq : Q (.inr E) sh' I' Rf' J') : xv_W M d mc ms Q kc ks sh I Rf J pc L (a3 :: a2 :: a1 :: S) := xv_callS (As := [a1, a2, a3]) (S := S) (kc' := kc - mc') (ks' := ks - ms') hM hf hY hY2 hl hh rfl rfl hsum hd (by omega) (by omega) (fun r s i rf j h _ => by obtain ⟨h1, -⟩ := h; cases h1) (fun E s i rf j h => by obtain ⟨h1, rfl, rfl, rfl, rfl⟩ := h; cases h1; exact kq)
theorem xv_callS4G {M' : xv_M} {d' mc' ms' idx : Nat} {a1 a2 a3 a4 : Value} {Q' : xv_Q} (hM : xv_Met M' d' mc' ms' sh I Rf J [a1, a2, a3, a4] Q') (hf : xv_F M pc (.invokestatic idx) 3 pc') (hY : xv_Y M' 4) (hY2 : Cond.static M'.1 ∈ xv_tbl) (hl : Cond.methodLink M.1.cls idx M'.1 ∈ xv_tbl ∨ (M'.2.2.2.2 = [] ∧ ∃ host, Cond.methodLinkNest M.1.cls idx M'.1 host ∈ xv_tbl)) (hh : M.2.2.2.2 = []) (hsum : (S.map fun v => v.category).sum ≤ 8) (hd : d' + 1 ≤ d) (h1c : mc' ≤ kc) (h1s : ms' ≤ ks) (kr : ∀ r sh' I' Rf' J', Q' (.inl r) sh' I' Rf' J' → (∀ v, sh v ≠ none → sh' v = sh v) → xv_W M d mc ms Q (kc - mc') (ks - ms') sh' I' Rf' J' pc' L (r.toList ++ S)) (kx : ∀ E sh' I' Rf' J', Q' (.inr E) sh' I' Rf' J' → Q (.inr E) sh' I' Rf' J') : xv_W M d mc ms Q kc ks sh I Rf J pc L (a4 :: a3 :: a2 :: a1 :: S) := xv_callS (As := [a1, a2, a3, a4]) (S := S) (kc' := kc - mc') (ks' := ks - ms') hM hf hY hY2 hl hh rfl rfl hsum hd (by omega) (by omega) kr kx
theorem xv_callS4R {M' : xv_M} {d' mc' ms' idx : Nat} {a1 a2 a3 a4 : Value} {v : Value} {sh' : xv_Sh} {I' : xv_I} {Rf' : xv_Rf} {J' : xv_J} (hM : xv_Met M' d' mc' ms' sh I Rf J [a1, a2, a3, a4] (xv_eq (.inl (some v)) sh' I' Rf' J')) (hf : xv_F M pc (.invokestatic idx) 3 pc') (hY : xv_Y M' 4) (hY2 : Cond.static M'.1 ∈ xv_tbl) (hl : Cond.methodLink M.1.cls idx M'.1 ∈ xv_tbl ∨ (M'.2.2.2.2 = [] ∧ ∃ host, Cond.methodLinkNest M.1.cls idx M'.1 host ∈ xv_tbl)) (hh : M.2.2.2.2 = []) (hsum : (S.map fun v => v.category).sum ≤ 8) (hd : d' + 1 ≤ d) (h1c : mc' ≤ kc) (h1s : ms' ≤ ks) (kk : xv_W M d mc ms Q (kc - mc') (ks - ms') sh' I' Rf' J' pc' L (v :: S)) : xv_W M d mc ms Q kc ks sh I Rf J pc L (a4 :: a3 :: a2 :: a1 :: S) := xv_callS (As := [a1, a2, a3, a4]) (S := S) (kc' := kc - mc') (ks' := ks - ms') hM hf hY hY2 hl hh rfl rfl hsum hd (by omega) (by omega) (fun r s i rf j h _ => by obtain ⟨h1, rfl, rfl, rfl, rfl⟩ := h; cases h1; exact kk) (fun E s i rf j h => by obtain ⟨h1, -⟩ := h; cases h1)
theorem xv_callS4V {M' : xv_M} {d' mc' ms' idx : Nat} {a1 a2 a3 a4 : Value} {sh' : xv_Sh} {I' : xv_I} {Rf' : xv_Rf} {J' : xv_J} (hM : xv_Met M' d' mc' ms' sh I Rf J [a1, a2, a3, a4] (xv_eq (.inl none) sh' I' Rf' J')) (hf : xv_F M pc (.invokestatic idx) 3 pc') (hY : xv_Y M' 4) (hY2 : Cond.static M'.1 ∈ xv_tbl) (hl : Cond.methodLink M.1.cls idx M'.1 ∈ xv_tbl ∨ (M'.2.2.2.2 = [] ∧ ∃ host, Cond.methodLinkNest M.1.cls idx M'.1 host ∈ xv_tbl)) (hh : M.2.2.2.2 = []) (hsum : (S.map fun v => v.category).sum ≤ 8) (hd : d' + 1 ≤ d) (h1c : mc' ≤ kc) (h1s : ms' ≤ ks) (kk : xv_W M d mc ms Q (kc - mc') (ks - ms') sh' I' Rf' J' pc' L S) : xv_W M d mc ms Q kc ks sh I Rf J pc L (a4 :: a3 :: a2 :: a1 :: S) := xv_callS (As := [a1, a2, a3, a4]) (S := S) (kc' := kc - mc') (ks' := ks - ms') hM hf hY hY2 hl hh rfl rfl hsum hd (by omega) (by omega) (fun r s i rf j h _ => by obtain ⟨h1, rfl, rfl, rfl, rfl⟩ := h; cases h1; exact kk) (fun E s i rf j h => by obtain ⟨h1, -⟩ := h; cases h1)
theorem xv_callS4X {M' : xv_M} {d' mc' ms' idx : Nat} {a1 a2 a3 a4 : Value} {E : String} {sh' : xv_Sh} {I' : xv_I} {Rf' : xv_Rf} {J' : xv_J} (hM : xv_Met M' d' mc' ms' sh I Rf J [a1, a2, a3, a4] (xv_eq (.inr E) sh' I' Rf' J')) (hf : xv_F M pc (.invokestatic idx) 3 pc') (hY : xv_Y M' 4) (hY2 : Cond.static M'.1 ∈ xv_tbl) (hl : Cond.methodLink M.1.cls idx M'.1 ∈ xv_tbl ∨ (M'.2.2.2.2 = [] ∧ ∃ host, Cond.methodLinkNest M.1.cls idx M'.1 host ∈ xv_tbl)) (hh : M.2.2.2.2 = []) (hsum : (S.map fun v => v.category).sum ≤ 8) (hd : d' + 1 ≤ d) (h1c : mc' ≤ kc) (h1s : ms' ≤ ks) (kq : Q (.inr E) sh' I' Rf' J') : xv_W M d mc ms Q kc ks sh I Rf J pc L (a4 :: a3 :: a2 :: a1 :: S) := xv_callS (As := [a1, a2, a3, a4]) (S := S) (kc' := kc - mc') (ks' := ks - ms') hM hf hY hY2 hl hh rfl rfl hsum hd (by omega) (by omega) (fun r s i rf j h _ => by obtain ⟨h1, -⟩ := h; cases h1) (fun E s i rf j h => by obtain ⟨h1, rfl, rfl, rfl, rfl⟩ := h; cases h1; exact kq)
theorem xv_callS5G {M' : xv_M} {d' mc' ms' idx : Nat} {a1 a2 a3 a4 a5 : Value} {Q' : xv_Q} (hM : xv_Met M' d' mc' ms' sh I Rf J [a1, a2, a3, a4, a5] Q') (hf : xv_F M pc (.invokestatic idx) 3 pc') (hY : xv_Y M' 5) (hY2 : Cond.static M'.1 ∈ xv_tbl) (hl : Cond.methodLink M.1.cls idx M'.1 ∈ xv_tbl ∨ (M'.2.2.2.2 = [] ∧ ∃ host, Cond.methodLinkNest M.1.cls idx M'.1 host ∈ xv_tbl)) (hh : M.2.2.2.2 = []) (hsum : (S.map fun v => v.category).sum ≤ 8) (hd : d' + 1 ≤ d) (h1c : mc' ≤ kc) (h1s : ms' ≤ ks) (kr : ∀ r sh' I' Rf' J', Q' (.inl r) sh' I' Rf' J' → (∀ v, sh v ≠ none → sh' v = sh v) → xv_W M d mc ms Q (kc - mc') (ks - ms') sh' I' Rf' J' pc' L (r.toList ++ S)) (kx : ∀ E sh' I' Rf' J', Q' (.inr E) sh' I' Rf' J' → Q (.inr E) sh' I' Rf' J') : xv_W M d mc ms Q kc ks sh I Rf J pc L (a5 :: a4 :: a3 :: a2 :: a1 :: S) := xv_callS (As := [a1, a2, a3, a4, a5]) (S := S) (kc' := kc - mc') (ks' := ks - ms') hM hf hY hY2 hl hh rfl rfl hsum hd (by omega) (by omega) kr kx
theorem xv_callS5R {M' : xv_M} {d' mc' ms' idx : Nat} {a1 a2 a3 a4 a5 : Value} {v : Value} {sh' : xv_Sh} {I' : xv_I} {Rf' : xv_Rf} {J' : xv_J} (hM : xv_Met M' d' mc' ms' sh I Rf J [a1, a2, a3, a4, a5] (xv_eq (.inl (some v)) sh' I' Rf' J')) (hf : xv_F M pc (.invokestatic idx) 3 pc') (hY : xv_Y M' 5) (hY2 : Cond.static M'.1 ∈ xv_tbl) (hl : Cond.methodLink M.1.cls idx M'.1 ∈ xv_tbl ∨ (M'.2.2.2.2 = [] ∧ ∃ host, Cond.methodLinkNest M.1.cls idx M'.1 host ∈ xv_tbl)) (hh : M.2.2.2.2 = []) (hsum : (S.map fun v => v.category).sum ≤ 8) (hd : d' + 1 ≤ d) (h1c : mc' ≤ kc) (h1s : ms' ≤ ks) (kk : xv_W M d mc ms Q (kc - mc') (ks - ms') sh' I' Rf' J' pc' L (v :: S)) : xv_W M d mc ms Q kc ks sh I Rf J pc L (a5 :: a4 :: a3 :: a2 :: a1 :: S) := xv_callS (As := [a1, a2, a3, a4, a5]) (S := S) (kc' := kc - mc') (ks' := ks - ms') hM hf hY hY2 hl hh rfl rfl hsum hd (by omega) (by omega) (fun r s i rf j h _ => by obtain ⟨h1, rfl, rfl, rfl, rfl⟩ := h; cases h1; exact kk) (fun E s i rf j h => by obtain ⟨h1, -⟩ := h; cases h1)
theorem xv_callS5V {M' : xv_M} {d' mc' ms' idx : Nat} {a1 a2 a3 a4 a5 : Value} {sh' : xv_Sh} {I' : xv_I} {Rf' : xv_Rf} {J' : xv_J} (hM : xv_Met M' d' mc' ms' sh I Rf J [a1, a2, a3, a4, a5] (xv_eq (.inl none) sh' I' Rf' J')) (hf : xv_F M pc (.invokestatic idx) 3 pc') (hY : xv_Y M' 5) (hY2 : Cond.static M'.1 ∈ xv_tbl) (hl : Cond.methodLink M.1.cls idx M'.1 ∈ xv_tbl ∨ (M'.2.2.2.2 = [] ∧ ∃ host, Cond.methodLinkNest M.1.cls idx M'.1 host ∈ xv_tbl)) (hh : M.2.2.2.2 = []) (hsum : (S.map fun v => v.category).sum ≤ 8) (hd : d' + 1 ≤ d) (h1c : mc' ≤ kc) (h1s : ms' ≤ ks) (kk : xv_W M d mc ms Q (kc - mc') (ks - ms') sh' I' Rf' J' pc' L S) : xv_W M d mc ms Q kc ks sh I Rf J pc L (a5 :: a4 :: a3 :: a2 :: a1 :: S) := xv_callS (As := [a1, a2, a3, a4, a5]) (S := S) (kc' := kc - mc') (ks' := ks - ms') hM hf hY hY2 hl hh rfl rfl hsum hd (by omega) (by omega) (fun r s i rf j h _ => by obtain ⟨h1, rfl, rfl, rfl, rfl⟩ := h; cases h1; exact kk) (fun E s i rf j h => by obtain ⟨h1, -⟩ := h; cases h1)
theorem xv_callS5X {M' : xv_M} {d' mc' ms' idx : Nat} {a1 a2 a3 a4 a5 : Value} {E : String} {sh' : xv_Sh} {I' : xv_I} {Rf' : xv_Rf} {J' : xv_J} (hM : xv_Met M' d' mc' ms' sh I Rf J [a1, a2, a3, a4, a5] (xv_eq (.inr E) sh' I' Rf' J')) (hf : xv_F M pc (.invokestatic idx) 3 pc') (hY : xv_Y M' 5) (hY2 : Cond.static M'.1 ∈ xv_tbl) (hl : Cond.methodLink M.1.cls idx M'.1 ∈ xv_tbl ∨ (M'.2.2.2.2 = [] ∧ ∃ host, Cond.methodLinkNest M.1.cls idx M'.1 host ∈ xv_tbl)) (hh : M.2.2.2.2 = []) (hsum : (S.map fun v => v.category).sum ≤ 8) (hd : d' + 1 ≤ d) (h1c : mc' ≤ kc) (h1s : ms' ≤ ks) (kq : Q (.inr E) sh' I' Rf' J') : xv_W M d mc ms Q kc ks sh I Rf J pc L (a5 :: a4 :: a3 :: a2 :: a1 :: S) := xv_callS (As := [a1, a2, a3, a4, a5]) (S := S) (kc' := kc - mc') (ks' := ks - ms') hM hf hY hY2 hl hh rfl rfl hsum hd (by omega) (by omega) (fun r s i rf j h _ => by obtain ⟨h1, -⟩ := h; cases h1) (fun E s i rf j h => by obtain ⟨h1, rfl, rfl, rfl, rfl⟩ := h; cases h1; exact kq)
theorem xv_callS6G {M' : xv_M} {d' mc' ms' idx : Nat} {a1 a2 a3 a4 a5 a6 : Value} {Q' : xv_Q} (hM : xv_Met M' d' mc' ms' sh I Rf J [a1, a2, a3, a4, a5, a6] Q') (hf : xv_F M pc (.invokestatic idx) 3 pc') (hY : xv_Y M' 6) (hY2 : Cond.static M'.1 ∈ xv_tbl) (hl : Cond.methodLink M.1.cls idx M'.1 ∈ xv_tbl ∨ (M'.2.2.2.2 = [] ∧ ∃ host, Cond.methodLinkNest M.1.cls idx M'.1 host ∈ xv_tbl)) (hh : M.2.2.2.2 = []) (hsum : (S.map fun v => v.category).sum ≤ 8) (hd : d' + 1 ≤ d) (h1c : mc' ≤ kc) (h1s : ms' ≤ ks) (kr : ∀ r sh' I' Rf' J', Q' (.inl r) sh' I' Rf' J' → (∀ v, sh v ≠ none → sh' v = sh v) → xv_W M d mc ms Q (kc - mc') (ks - ms') sh' I' Rf' J' pc' L (r.toList ++ S)) (kx : ∀ E sh' I' Rf' J', Q' (.inr E) sh' I' Rf' J' → Q (.inr E) sh' I' Rf' J') : xv_W M d mc ms Q kc ks sh I Rf J pc L (a6 :: a5 :: a4 :: a3 :: a2 :: a1 :: S) := xv_callS (As := [a1, a2, a3, a4, a5, a6]) (S := S) (kc' := kc - mc') (ks' := ks - ms') hM hf hY hY2 hl hh rfl rfl hsum hd (by omega) (by omega) kr kx
theorem xv_callS6R {M' : xv_M} {d' mc' ms' idx : Nat} {a1 a2 a3 a4 a5 a6 : Value} {v : Value} {sh' : xv_Sh} {I' : xv_I} {Rf' : xv_Rf} {J' : xv_J} (hM : xv_Met M' d' mc' ms' sh I Rf J [a1, a2, a3, a4, a5, a6] (xv_eq (.inl (some v)) sh' I' Rf' J')) (hf : xv_F M pc (.invokestatic idx) 3 pc') (hY : xv_Y M' 6) (hY2 : Cond.static M'.1 ∈ xv_tbl) (hl : Cond.methodLink M.1.cls idx M'.1 ∈ xv_tbl ∨ (M'.2.2.2.2 = [] ∧ ∃ host, Cond.methodLinkNest M.1.cls idx M'.1 host ∈ xv_tbl)) (hh : M.2.2.2.2 = []) (hsum : (S.map fun v => v.category).sum ≤ 8) (hd : d' + 1 ≤ d) (h1c : mc' ≤ kc) (h1s : ms' ≤ ks) (kk : xv_W M d mc ms Q (kc - mc') (ks - ms') sh' I' Rf' J' pc' L (v :: S)) : xv_W M d mc ms Q kc ks sh I Rf J pc L (a6 :: a5 :: a4 :: a3 :: a2 :: a1 :: S) := xv_callS (As := [a1, a2, a3, a4, a5, a6]) (S := S) (kc' := kc - mc') (ks' := ks - ms') hM hf hY hY2 hl hh rfl rfl hsum hd (by omega) (by omega) (fun r s i rf j h _ => by obtain ⟨h1, rfl, rfl, rfl, rfl⟩ := h; cases h1; exact kk) (fun E s i rf j h => by obtain ⟨h1, -⟩ := h; cases h1)
theorem xv_callS6V {M' : xv_M} {d' mc' ms' idx : Nat} {a1 a2 a3 a4 a5 a6 : Value} {sh' : xv_Sh} {I' : xv_I} {Rf' : xv_Rf} {J' : xv_J} (hM : xv_Met M' d' mc' ms' sh I Rf J [a1, a2, a3, a4, a5, a6] (xv_eq (.inl none) sh' I' Rf' J')) (hf : xv_F M pc (.invokestatic idx) 3 pc') (hY : xv_Y M' 6) (hY2 : Cond.static M'.1 ∈ xv_tbl) (hl : Cond.methodLink M.1.cls idx M'.1 ∈ xv_tbl ∨ (M'.2.2.2.2 = [] ∧ ∃ host, Cond.methodLinkNest M.1.cls idx M'.1 host ∈ xv_tbl)) (hh : M.2.2.2.2 = []) (hsum : (S.map fun v => v.category).sum ≤ 8) (hd : d' + 1 ≤ d) (h1c : mc' ≤ kc) (h1s : ms' ≤ ks) (kk : xv_W M d mc ms Q (kc - mc') (ks - ms') sh' I' Rf' J' pc' L S) : xv_W M d mc ms Q kc ks sh I Rf J pc L (a6 :: a5 :: a4 :: a3 :: a2 :: a1 :: S) := xv_callS (As := [a1, a2, a3, a4, a5, a6]) (S := S) (kc' := kc - mc') (ks' := ks - ms') hM hf hY hY2 hl hh rfl rfl hsum hd (by omega) (by omega) (fun r s i rf j h _ => by obtain ⟨h1, rfl, rfl, rfl, rfl⟩ := h; cases h1; exact kk) (fun E s i rf j h => by obtain ⟨h1, -⟩ := h; cases h1)
theorem xv_callS6X {M' : xv_M} {d' mc' ms' idx : Nat} {a1 a2 a3 a4 a5 a6 : Value} {E : String} {sh' : xv_Sh} {I' : xv_I} {Rf' : xv_Rf} {J' : xv_J} (hM : xv_Met M' d' mc' ms' sh I Rf J [a1, a2, a3, a4, a5, a6] (xv_eq (.inr E) sh' I' Rf' J')) (hf : xv_F M pc (.invokestatic idx) 3 pc') (hY : xv_Y M' 6) (hY2 : Cond.static M'.1 ∈ xv_tbl) (hl : Cond.methodLink M.1.cls idx M'.1 ∈ xv_tbl ∨ (M'.2.2.2.2 = [] ∧ ∃ host, Cond.methodLinkNest M.1.cls idx M'.1 host ∈ xv_tbl)) (hh : M.2.2.2.2 = []) (hsum : (S.map fun v => v.category).sum ≤ 8) (hd : d' + 1 ≤ d) (h1c : mc' ≤ kc) (h1s : ms' ≤ ks) (kq : Q (.inr E) sh' I' Rf' J') : xv_W M d mc ms Q kc ks sh I Rf J pc L (a6 :: a5 :: a4 :: a3 :: a2 :: a1 :: S) := xv_callS (As := [a1, a2, a3, a4, a5, a6]) (S := S) (kc' := kc - mc') (ks' := ks - ms') hM hf hY hY2 hl hh rfl rfl hsum hd (by omega) (by omega) (fun r s i rf j h _ => by obtain ⟨h1, -⟩ := h; cases h1) (fun E s i rf j h => by obtain ⟨h1, rfl, rfl, rfl, rfl⟩ := h; cases h1; exact kq)
theorem xv_callS7G {M' : xv_M} {d' mc' ms' idx : Nat} {a1 a2 a3 a4 a5 a6 a7 : Value} {Q' : xv_Q} (hM : xv_Met M' d' mc' ms' sh I Rf J [a1, a2, a3, a4, a5, a6, a7] Q') (hf : xv_F M pc (.invokestatic idx) 3 pc') (hY : xv_Y M' 7) (hY2 : Cond.static M'.1 ∈ xv_tbl) (hl : Cond.methodLink M.1.cls idx M'.1 ∈ xv_tbl ∨ (M'.2.2.2.2 = [] ∧ ∃ host, Cond.methodLinkNest M.1.cls idx M'.1 host ∈ xv_tbl)) (hh : M.2.2.2.2 = []) (hsum : (S.map fun v => v.category).sum ≤ 8) (hd : d' + 1 ≤ d) (h1c : mc' ≤ kc) (h1s : ms' ≤ ks) (kr : ∀ r sh' I' Rf' J', Q' (.inl r) sh' I' Rf' J' → (∀ v, sh v ≠ none → sh' v = sh v) → xv_W M d mc ms Q (kc - mc') (ks - ms') sh' I' Rf' J' pc' L (r.toList ++ S)) (kx : ∀ E sh' I' Rf' J', Q' (.inr E) sh' I' Rf' J' → Q (.inr E) sh' I' Rf' J') : xv_W M d mc ms Q kc ks sh I Rf J pc L (a7 :: a6 :: a5 :: a4 :: a3 :: a2 :: a1 :: S) := xv_callS (As := [a1, a2, a3, a4, a5, a6, a7]) (S := S) (kc' := kc - mc') (ks' := ks - ms') hM hf hY hY2 hl hh rfl rfl hsum hd (by omega) (by omega) kr kx
theorem xv_callS7R {M' : xv_M} {d' mc' ms' idx : Nat} {a1 a2 a3 a4 a5 a6 a7 : Value} {v : Value} {sh' : xv_Sh} {I' : xv_I} {Rf' : xv_Rf} {J' : xv_J} (hM : xv_Met M' d' mc' ms' sh I Rf J [a1, a2, a3, a4, a5, a6, a7] (xv_eq (.inl (some v)) sh' I' Rf' J')) (hf : xv_F M pc (.invokestatic idx) 3 pc') (hY : xv_Y M' 7) (hY2 : Cond.static M'.1 ∈ xv_tbl) (hl : Cond.methodLink M.1.cls idx M'.1 ∈ xv_tbl ∨ (M'.2.2.2.2 = [] ∧ ∃ host, Cond.methodLinkNest M.1.cls idx M'.1 host ∈ xv_tbl)) (hh : M.2.2.2.2 = []) (hsum : (S.map fun v => v.category).sum ≤ 8) (hd : d' + 1 ≤ d) (h1c : mc' ≤ kc) (h1s : ms' ≤ ks) (kk : xv_W M d mc ms Q (kc - mc') (ks - ms') sh' I' Rf' J' pc' L (v :: S)) : xv_W M d mc ms Q kc ks sh I Rf J pc L (a7 :: a6 :: a5 :: a4 :: a3 :: a2 :: a1 :: S) := xv_callS (As := [a1, a2, a3, a4, a5, a6, a7]) (S := S) (kc' := kc - mc') (ks' := ks - ms') hM hf hY hY2 hl hh rfl rfl hsum hd (by omega) (by omega) (fun r s i rf j h _ => by obtain ⟨h1, rfl, rfl, rfl, rfl⟩ := h; cases h1; exact kk) (fun E s i rf j h => by obtain ⟨h1, -⟩ := h; cases h1)
theorem xv_callS7V {M' : xv_M} {d' mc' ms' idx : Nat} {a1 a2 a3 a4 a5 a6 a7 : Value} {sh' : xv_Sh} {I' : xv_I} {Rf' : xv_Rf} {J' : xv_J} (hM : xv_Met M' d' mc' ms' sh I Rf J [a1, a2, a3, a4, a5, a6, a7] (xv_eq (.inl none) sh' I' Rf' J')) (hf : xv_F M pc (.invokestatic idx) 3 pc') (hY : xv_Y M' 7) (hY2 : Cond.static M'.1 ∈ xv_tbl) (hl : Cond.methodLink M.1.cls idx M'.1 ∈ xv_tbl ∨ (M'.2.2.2.2 = [] ∧ ∃ host, Cond.methodLinkNest M.1.cls idx M'.1 host ∈ xv_tbl)) (hh : M.2.2.2.2 = []) (hsum : (S.map fun v => v.category).sum ≤ 8) (hd : d' + 1 ≤ d) (h1c : mc' ≤ kc) (h1s : ms' ≤ ks) (kk : xv_W M d mc ms Q (kc - mc') (ks - ms') sh' I' Rf' J' pc' L S) : xv_W M d mc ms Q kc ks sh I Rf J pc L (a7 :: a6 :: a5 :: a4 :: a3 :: a2 :: a1 :: S) := xv_callS (As := [a1, a2, a3, a4, a5, a6, a7]) (S := S) (kc' := kc - mc') (ks' := ks - ms') hM hf hY hY2 hl hh rfl rfl hsum hd (by omega) (by omega) (fun r s i rf j h _ => by obtain ⟨h1, rfl, rfl, rfl, rfl⟩ := h; cases h1; exact kk) (fun E s i rf j h => by obtain ⟨h1, -⟩ := h; cases h1)
theorem xv_callS7X {M' : xv_M} {d' mc' ms' idx : Nat} {a1 a2 a3 a4 a5 a6 a7 : Value} {E : String} {sh' : xv_Sh} {I' : xv_I} {Rf' : xv_Rf} {J' : xv_J} (hM : xv_Met M' d' mc' ms' sh I Rf J [a1, a2, a3, a4, a5, a6, a7] (xv_eq (.inr E) sh' I' Rf' J')) (hf : xv_F M pc (.invokestatic idx) 3 pc') (hY : xv_Y M' 7) (hY2 : Cond.static M'.1 ∈ xv_tbl) (hl : Cond.methodLink M.1.cls idx M'.1 ∈ xv_tbl ∨ (M'.2.2.2.2 = [] ∧ ∃ host, Cond.methodLinkNest M.1.cls idx M'.1 host ∈ xv_tbl)) (hh : M.2.2.2.2 = []) (hsum : (S.map fun v => v.category).sum ≤ 8) (hd : d' + 1 ≤ d) (h1c : mc' ≤ kc) (h1s : ms' ≤ ks) (kq : Q (.inr E) sh' I' Rf' J') : xv_W M d mc ms Q kc ks sh I Rf J pc L (a7 :: a6 :: a5 :: a4 :: a3 :: a2 :: a1 :: S) := xv_callS (As := [a1, a2, a3, a4, a5, a6, a7]) (S := S) (kc' := kc - mc') (ks' := ks - ms') hM hf hY hY2 hl hh rfl rfl hsum hd (by omega) (by omega) (fun r s i rf j h _ => by obtain ⟨h1, -⟩ := h; cases h1) (fun E s i rf j h => by obtain ⟨h1, rfl, rfl, rfl, rfl⟩ := h; cases h1; exact kq)
theorem xv_callS8G {M' : xv_M} {d' mc' ms' idx : Nat} {a1 a2 a3 a4 a5 a6 a7 a8 : Value} {Q' : xv_Q} (hM : xv_Met M' d' mc' ms' sh I Rf J [a1, a2, a3, a4, a5, a6, a7, a8] Q') (hf : xv_F M pc (.invokestatic idx) 3 pc') (hY : xv_Y M' 8) (hY2 : Cond.static M'.1 ∈ xv_tbl) (hl : Cond.methodLink M.1.cls idx M'.1 ∈ xv_tbl ∨ (M'.2.2.2.2 = [] ∧ ∃ host, Cond.methodLinkNest M.1.cls idx M'.1 host ∈ xv_tbl)) (hh : M.2.2.2.2 = []) (hsum : (S.map fun v => v.category).sum ≤ 8) (hd : d' + 1 ≤ d) (h1c : mc' ≤ kc) (h1s : ms' ≤ ks) (kr : ∀ r sh' I' Rf' J', Q' (.inl r) sh' I' Rf' J' → (∀ v, sh v ≠ none → sh' v = sh v) → xv_W M d mc ms Q (kc - mc') (ks - ms') sh' I' Rf' J' pc' L (r.toList ++ S)) (kx : ∀ E sh' I' Rf' J', Q' (.inr E) sh' I' Rf' J' → Q (.inr E) sh' I' Rf' J') : xv_W M d mc ms Q kc ks sh I Rf J pc L (a8 :: a7 :: a6 :: a5 :: a4 :: a3 :: a2 :: a1 :: S) := xv_callS (As := [a1, a2, a3, a4, a5, a6, a7, a8]) (S := S) (kc' := kc - mc') (ks' := ks - ms') hM hf hY hY2 hl hh rfl rfl hsum hd (by omega) (by omega) kr kx
theorem xv_callS8R {M' : xv_M} {d' mc' ms' idx : Nat} {a1 a2 a3 a4 a5 a6 a7 a8 : Value} {v : Value} {sh' : xv_Sh} {I' : xv_I} {Rf' : xv_Rf} {J' : xv_J} (hM : xv_Met M' d' mc' ms' sh I Rf J [a1, a2, a3, a4, a5, a6, a7, a8] (xv_eq (.inl (some v)) sh' I' Rf' J')) (hf : xv_F M pc (.invokestatic idx) 3 pc') (hY : xv_Y M' 8) (hY2 : Cond.static M'.1 ∈ xv_tbl) (hl : Cond.methodLink M.1.cls idx M'.1 ∈ xv_tbl ∨ (M'.2.2.2.2 = [] ∧ ∃ host, Cond.methodLinkNest M.1.cls idx M'.1 host ∈ xv_tbl)) (hh : M.2.2.2.2 = []) (hsum : (S.map fun v => v.category).sum ≤ 8) (hd : d' + 1 ≤ d) (h1c : mc' ≤ kc) (h1s : ms' ≤ ks) (kk : xv_W M d mc ms Q (kc - mc') (ks - ms') sh' I' Rf' J' pc' L (v :: S)) : xv_W M d mc ms Q kc ks sh I Rf J pc L (a8 :: a7 :: a6 :: a5 :: a4 :: a3 :: a2 :: a1 :: S) := xv_callS (As := [a1, a2, a3, a4, a5, a6, a7, a8]) (S := S) (kc' := kc - mc') (ks' := ks - ms') hM hf hY hY2 hl hh rfl rfl hsum hd (by omega) (by omega) (fun r s i rf j h _ => by obtain ⟨h1, rfl, rfl, rfl, rfl⟩ := h; cases h1; exact kk) (fun E s i rf j h => by obtain ⟨h1, -⟩ := h; cases h1)
theorem xv_callS8V {M' : xv_M} {d' mc' ms' idx : Nat} {a1 a2 a3 a4 a5 a6 a7 a8 : Value} {sh' : xv_Sh} {I' : xv_I} {Rf' : xv_Rf} {J' : xv_J} (hM : xv_Met M' d' mc' ms' sh I Rf J [a1, a2, a3, a4, a5, a6, a7, a8] (xv_eq (.inl none) sh' I' Rf' J')) (hf : xv_F M pc (.invokestatic idx) 3 pc') (hY : xv_Y M' 8) (hY2 : Cond.static M'.1 ∈ xv_tbl) (hl : Cond.methodLink M.1.cls idx M'.1 ∈ xv_tbl ∨ (M'.2.2.2.2 = [] ∧ ∃ host, Cond.methodLinkNest M.1.cls idx M'.1 host ∈ xv_tbl)) (hh : M.2.2.2.2 = []) (hsum : (S.map fun v => v.category).sum ≤ 8) (hd : d' + 1 ≤ d) (h1c : mc' ≤ kc) (h1s : ms' ≤ ks) (kk : xv_W M d mc ms Q (kc - mc') (ks - ms') sh' I' Rf' J' pc' L S) : xv_W M d mc ms Q kc ks sh I Rf J pc L (a8 :: a7 :: a6 :: a5 :: a4 :: a3 :: a2 :: a1 :: S) := xv_callS (As := [a1, a2, a3, a4, a5, a6, a7, a8]) (S := S) (kc' := kc - mc') (ks' := ks - ms') hM hf hY hY2 hl hh rfl rfl hsum hd (by omega) (by omega) (fun r s i rf j h _ => by obtain ⟨h1, rfl, rfl, rfl, rfl⟩ := h; cases h1; exact kk) (fun E s i rf j h => by obtain ⟨h1, -⟩ := h; cases h1)
theorem xv_callS8X {M' : xv_M} {d' mc' ms' idx : Nat} {a1 a2 a3 a4 a5 a6 a7 a8 : Value} {E : String} {sh' : xv_Sh} {I' : xv_I} {Rf' : xv_Rf} {J' : xv_J} (hM : xv_Met M' d' mc' ms' sh I Rf J [a1, a2, a3, a4, a5, a6, a7, a8] (xv_eq (.inr E) sh' I' Rf' J')) (hf : xv_F M pc (.invokestatic idx) 3 pc') (hY : xv_Y M' 8) (hY2 : Cond.static M'.1 ∈ xv_tbl) (hl : Cond.methodLink M.1.cls idx M'.1 ∈ xv_tbl ∨ (M'.2.2.2.2 = [] ∧ ∃ host, Cond.methodLinkNest M.1.cls idx M'.1 host ∈ xv_tbl)) (hh : M.2.2.2.2 = []) (hsum : (S.map fun v => v.category).sum ≤ 8) (hd : d' + 1 ≤ d) (h1c : mc' ≤ kc) (h1s : ms' ≤ ks) (kq : Q (.inr E) sh' I' Rf' J') : xv_W M d mc ms Q kc ks sh I Rf J pc L (a8 :: a7 :: a6 :: a5 :: a4 :: a3 :: a2 :: a1 :: S) := xv_callS (As := [a1, a2, a3, a4, a5, a6, a7, a8]) (S := S) (kc' := kc - mc') (ks' := ks - ms') hM hf hY hY2 hl hh rfl rfl hsum hd (by omega) (by omega) (fun r s i rf j h _ => by obtain ⟨h1, -⟩ := h; cases h1) (fun E s i rf j h => by obtain ⟨h1, rfl, rfl, rfl, rfl⟩ := h; cases h1; exact kq)
theorem xv_callI0G {M' : xv_M} {d' mc' ms' idx b : Nat} {Q' : xv_Q} (hM : xv_Met M' d' mc' ms' sh I Rf J [.ref b] Q') (hf : xv_F M pc (.invokespecial idx) 3 pc') (hY : xv_Y M' 0) (hY2 : Cond.instanceMethod M'.1 ∈ xv_tbl ∧ M'.1.name = "<init>" ∧ M'.2.2.2.1 = none) (hl : Cond.methodLink M.1.cls idx M'.1 ∈ xv_tbl) (hh : M.2.2.2.2 = []) (hh' : M'.2.2.2.2 = []) (hsum : (S.map fun v => v.category).sum ≤ 8) (hd : d' + 1 ≤ d) (h1c : mc' ≤ kc) (h1s : ms' ≤ ks) (kr : ∀ r sh' I' Rf' J', Q' (.inl r) sh' I' Rf' J' → (∀ v, sh v ≠ none → sh' v = sh v) → xv_W M d mc ms Q (kc - mc') (ks - ms') sh' I' Rf' J' pc' L (r.toList ++ S)) (kx : ∀ E sh' I' Rf' J', Q' (.inr E) sh' I' Rf' J' → Q (.inr E) sh' I' Rf' J') : xv_W M d mc ms Q kc ks sh I Rf J pc L (.ref b :: S) := xv_callI (As := []) (S := S) (kc' := kc - mc') (ks' := ks - ms') hM hf hY hY2 hl hh hh' rfl rfl hsum hd (by omega) (by omega) kr kx
theorem xv_callI0V {M' : xv_M} {d' mc' ms' idx b : Nat} {sh' : xv_Sh} {I' : xv_I} {Rf' : xv_Rf} {J' : xv_J} (hM : xv_Met M' d' mc' ms' sh I Rf J [.ref b] (xv_eq (.inl none) sh' I' Rf' J')) (hf : xv_F M pc (.invokespecial idx) 3 pc') (hY : xv_Y M' 0) (hY2 : Cond.instanceMethod M'.1 ∈ xv_tbl ∧ M'.1.name = "<init>" ∧ M'.2.2.2.1 = none) (hl : Cond.methodLink M.1.cls idx M'.1 ∈ xv_tbl) (hh : M.2.2.2.2 = []) (hh' : M'.2.2.2.2 = []) (hsum : (S.map fun v => v.category).sum ≤ 8) (hd : d' + 1 ≤ d) (h1c : mc' ≤ kc) (h1s : ms' ≤ ks) (kk : xv_W M d mc ms Q (kc - mc') (ks - ms') sh' I' Rf' J' pc' L S) : xv_W M d mc ms Q kc ks sh I Rf J pc L (.ref b :: S) := xv_callI (As := []) (S := S) (kc' := kc - mc') (ks' := ks - ms') hM hf hY hY2 hl hh hh' rfl rfl hsum hd (by omega) (by omega) (fun r s i rf j h _ => by obtain ⟨h1, rfl, rfl, rfl, rfl⟩ := h; cases h1; exact kk) (fun E s i rf j h => by obtain ⟨h1, -⟩ := h; cases h1)
theorem xv_callI1G {M' : xv_M} {d' mc' ms' idx b : Nat} {a1 : Value} {Q' : xv_Q} (hM : xv_Met M' d' mc' ms' sh I Rf J [.ref b, a1] Q') (hf : xv_F M pc (.invokespecial idx) 3 pc') (hY : xv_Y M' 1) (hY2 : Cond.instanceMethod M'.1 ∈ xv_tbl ∧ M'.1.name = "<init>" ∧ M'.2.2.2.1 = none) (hl : Cond.methodLink M.1.cls idx M'.1 ∈ xv_tbl) (hh : M.2.2.2.2 = []) (hh' : M'.2.2.2.2 = []) (hsum : (S.map fun v => v.category).sum ≤ 8) (hd : d' + 1 ≤ d) (h1c : mc' ≤ kc) (h1s : ms' ≤ ks) (kr : ∀ r sh' I' Rf' J', Q' (.inl r) sh' I' Rf' J' → (∀ v, sh v ≠ none → sh' v = sh v) → xv_W M d mc ms Q (kc - mc') (ks - ms') sh' I' Rf' J' pc' L (r.toList ++ S)) (kx : ∀ E sh' I' Rf' J', Q' (.inr E) sh' I' Rf' J' → Q (.inr E) sh' I' Rf' J') : xv_W M d mc ms Q kc ks sh I Rf J pc L (a1 :: .ref b :: S) := xv_callI (As := [a1]) (S := S) (kc' := kc - mc') (ks' := ks - ms') hM hf hY hY2 hl hh hh' rfl rfl hsum hd (by omega) (by omega) kr kx
theorem xv_callI1V {M' : xv_M} {d' mc' ms' idx b : Nat} {a1 : Value} {sh' : xv_Sh} {I' : xv_I} {Rf' : xv_Rf} {J' : xv_J} (hM : xv_Met M' d' mc' ms' sh I Rf J [.ref b, a1] (xv_eq (.inl none) sh' I' Rf' J')) (hf : xv_F M pc (.invokespecial idx) 3 pc') (hY : xv_Y M' 1) (hY2 : Cond.instanceMethod M'.1 ∈ xv_tbl ∧ M'.1.name = "<init>" ∧ M'.2.2.2.1 = none) (hl : Cond.methodLink M.1.cls idx M'.1 ∈ xv_tbl) (hh : M.2.2.2.2 = []) (hh' : M'.2.2.2.2 = []) (hsum : (S.map fun v => v.category).sum ≤ 8) (hd : d' + 1 ≤ d) (h1c : mc' ≤ kc) (h1s : ms' ≤ ks) (kk : xv_W M d mc ms Q (kc - mc') (ks - ms') sh' I' Rf' J' pc' L S) : xv_W M d mc ms Q kc ks sh I Rf J pc L (a1 :: .ref b :: S) := xv_callI (As := [a1]) (S := S) (kc' := kc - mc') (ks' := ks - ms') hM hf hY hY2 hl hh hh' rfl rfl hsum hd (by omega) (by omega) (fun r s i rf j h _ => by obtain ⟨h1, rfl, rfl, rfl, rfl⟩ := h; cases h1; exact kk) (fun E s i rf j h => by obtain ⟨h1, -⟩ := h; cases h1)
theorem xv_callI2G {M' : xv_M} {d' mc' ms' idx b : Nat} {a1 a2 : Value} {Q' : xv_Q} (hM : xv_Met M' d' mc' ms' sh I Rf J [.ref b, a1, a2] Q') (hf : xv_F M pc (.invokespecial idx) 3 pc') (hY : xv_Y M' 2) (hY2 : Cond.instanceMethod M'.1 ∈ xv_tbl ∧ M'.1.name = "<init>" ∧ M'.2.2.2.1 = none) (hl : Cond.methodLink M.1.cls idx M'.1 ∈ xv_tbl) (hh : M.2.2.2.2 = []) (hh' : M'.2.2.2.2 = []) (hsum : (S.map fun v => v.category).sum ≤ 8) (hd : d' + 1 ≤ d) (h1c : mc' ≤ kc) (h1s : ms' ≤ ks) (kr : ∀ r sh' I' Rf' J', Q' (.inl r) sh' I' Rf' J' → (∀ v, sh v ≠ none → sh' v = sh v) → xv_W M d mc ms Q (kc - mc') (ks - ms') sh' I' Rf' J' pc' L (r.toList ++ S)) (kx : ∀ E sh' I' Rf' J', Q' (.inr E) sh' I' Rf' J' → Q (.inr E) sh' I' Rf' J') : xv_W M d mc ms Q kc ks sh I Rf J pc L (a2 :: a1 :: .ref b :: S) := xv_callI (As := [a1, a2]) (S := S) (kc' := kc - mc') (ks' := ks - ms') hM hf hY hY2 hl hh hh' rfl rfl hsum hd (by omega) (by omega) kr kx
theorem xv_callI2V {M' : xv_M} {d' mc' ms' idx b : Nat} {a1 a2 : Value} {sh' : xv_Sh} {I' : xv_I} {Rf' : xv_Rf} {J' : xv_J} (hM : xv_Met M' d' mc' ms' sh I Rf J [.ref b, a1, a2] (xv_eq (.inl none) sh' I' Rf' J')) (hf : xv_F M pc (.invokespecial idx) 3 pc') (hY : xv_Y M' 2) (hY2 : Cond.instanceMethod M'.1 ∈ xv_tbl ∧ M'.1.name = "<init>" ∧ M'.2.2.2.1 = none) (hl : Cond.methodLink M.1.cls idx M'.1 ∈ xv_tbl) (hh : M.2.2.2.2 = []) (hh' : M'.2.2.2.2 = []) (hsum : (S.map fun v => v.category).sum ≤ 8) (hd : d' + 1 ≤ d) (h1c : mc' ≤ kc) (h1s : ms' ≤ ks) (kk : xv_W M d mc ms Q (kc - mc') (ks - ms') sh' I' Rf' J' pc' L S) : xv_W M d mc ms Q kc ks sh I Rf J pc L (a2 :: a1 :: .ref b :: S) := xv_callI (As := [a1, a2]) (S := S) (kc' := kc - mc') (ks' := ks - ms') hM hf hY hY2 hl hh hh' rfl rfl hsum hd (by omega) (by omega) (fun r s i rf j h _ => by obtain ⟨h1, rfl, rfl, rfl, rfl⟩ := h; cases h1; exact kk) (fun E s i rf j h => by obtain ⟨h1, -⟩ := h; cases h1)
theorem xv_callI3G {M' : xv_M} {d' mc' ms' idx b : Nat} {a1 a2 a3 : Value} {Q' : xv_Q} (hM : xv_Met M' d' mc' ms' sh I Rf J [.ref b, a1, a2, a3] Q') (hf : xv_F M pc (.invokespecial idx) 3 pc') (hY : xv_Y M' 3) (hY2 : Cond.instanceMethod M'.1 ∈ xv_tbl ∧ M'.1.name = "<init>" ∧ M'.2.2.2.1 = none) (hl : Cond.methodLink M.1.cls idx M'.1 ∈ xv_tbl) (hh : M.2.2.2.2 = []) (hh' : M'.2.2.2.2 = []) (hsum : (S.map fun v => v.category).sum ≤ 8) (hd : d' + 1 ≤ d) (h1c : mc' ≤ kc) (h1s : ms' ≤ ks) (kr : ∀ r sh' I' Rf' J', Q' (.inl r) sh' I' Rf' J' → (∀ v, sh v ≠ none → sh' v = sh v) → xv_W M d mc ms Q (kc - mc') (ks - ms') sh' I' Rf' J' pc' L (r.toList ++ S)) (kx : ∀ E sh' I' Rf' J', Q' (.inr E) sh' I' Rf' J' → Q (.inr E) sh' I' Rf' J') : xv_W M d mc ms Q kc ks sh I Rf J pc L (a3 :: a2 :: a1 :: .ref b :: S) := xv_callI (As := [a1, a2, a3]) (S := S) (kc' := kc - mc') (ks' := ks - ms') hM hf hY hY2 hl hh hh' rfl rfl hsum hd (by omega) (by omega) kr kx
theorem xv_callI3V {M' : xv_M} {d' mc' ms' idx b : Nat} {a1 a2 a3 : Value} {sh' : xv_Sh} {I' : xv_I} {Rf' : xv_Rf} {J' : xv_J} (hM : xv_Met M' d' mc' ms' sh I Rf J [.ref b, a1, a2, a3] (xv_eq (.inl none) sh' I' Rf' J')) (hf : xv_F M pc (.invokespecial idx) 3 pc') (hY : xv_Y M' 3) (hY2 : Cond.instanceMethod M'.1 ∈ xv_tbl ∧ M'.1.name = "<init>" ∧ M'.2.2.2.1 = none) (hl : Cond.methodLink M.1.cls idx M'.1 ∈ xv_tbl) (hh : M.2.2.2.2 = []) (hh' : M'.2.2.2.2 = []) (hsum : (S.map fun v => v.category).sum ≤ 8) (hd : d' + 1 ≤ d) (h1c : mc' ≤ kc) (h1s : ms' ≤ ks) (kk : xv_W M d mc ms Q (kc - mc') (ks - ms') sh' I' Rf' J' pc' L S) : xv_W M d mc ms Q kc ks sh I Rf J pc L (a3 :: a2 :: a1 :: .ref b :: S) := xv_callI (As := [a1, a2, a3]) (S := S) (kc' := kc - mc') (ks' := ks - ms') hM hf hY hY2 hl hh hh' rfl rfl hsum hd (by omega) (by omega) (fun r s i rf j h _ => by obtain ⟨h1, rfl, rfl, rfl, rfl⟩ := h; cases h1; exact kk) (fun E s i rf j h => by obtain ⟨h1, -⟩ := h; cases h1)
theorem xv_callI4G {M' : xv_M} {d' mc' ms' idx b : Nat} {a1 a2 a3 a4 : Value} {Q' : xv_Q} (hM : xv_Met M' d' mc' ms' sh I Rf J [.ref b, a1, a2, a3, a4] Q') (hf : xv_F M pc (.invokespecial idx) 3 pc') (hY : xv_Y M' 4) (hY2 : Cond.instanceMethod M'.1 ∈ xv_tbl ∧ M'.1.name = "<init>" ∧ M'.2.2.2.1 = none) (hl : Cond.methodLink M.1.cls idx M'.1 ∈ xv_tbl) (hh : M.2.2.2.2 = []) (hh' : M'.2.2.2.2 = []) (hsum : (S.map fun v => v.category).sum ≤ 8) (hd : d' + 1 ≤ d) (h1c : mc' ≤ kc) (h1s : ms' ≤ ks) (kr : ∀ r sh' I' Rf' J', Q' (.inl r) sh' I' Rf' J' → (∀ v, sh v ≠ none → sh' v = sh v) → xv_W M d mc ms Q (kc - mc') (ks - ms') sh' I' Rf' J' pc' L (r.toList ++ S)) (kx : ∀ E sh' I' Rf' J', Q' (.inr E) sh' I' Rf' J' → Q (.inr E) sh' I' Rf' J') : xv_W M d mc ms Q kc ks sh I Rf J pc L (a4 :: a3 :: a2 :: a1 :: .ref b :: S) := xv_callI (As := [a1, a2, a3, a4]) (S := S) (kc' := kc - mc') (ks' := ks - ms') hM hf hY hY2 hl hh hh' rfl rfl hsum hd (by omega) (by omega) kr kx
theorem xv_callI4V {M' : xv_M} {d' mc' ms' idx b : Nat} {a1 a2 a3 a4 : Value} {sh' : xv_Sh} {I' : xv_I} {Rf' : xv_Rf} {J' : xv_J} (hM : xv_Met M' d' mc' ms' sh I Rf J [.ref b, a1, a2, a3, a4] (xv_eq (.inl none) sh' I' Rf' J')) (hf : xv_F M pc (.invokespecial idx) 3 pc') (hY : xv_Y M' 4) (hY2 : Cond.instanceMethod M'.1 ∈ xv_tbl ∧ M'.1.name = "<init>" ∧ M'.2.2.2.1 = none) (hl : Cond.methodLink M.1.cls idx M'.1 ∈ xv_tbl) (hh : M.2.2.2.2 = []) (hh' : M'.2.2.2.2 = []) (hsum : (S.map fun v => v.category).sum ≤ 8) (hd : d' + 1 ≤ d) (h1c : mc' ≤ kc) (h1s : ms' ≤ ks) (kk : xv_W M d mc ms Q (kc - mc') (ks - ms') sh' I' Rf' J' pc' L S) : xv_W M d mc ms Q kc ks sh I Rf J pc L (a4 :: a3 :: a2 :: a1 :: .ref b :: S) := xv_callI (As := [a1, a2, a3, a4]) (S := S) (kc' := kc - mc') (ks' := ks - ms') hM hf hY hY2 hl hh hh' rfl rfl hsum hd (by omega) (by omega) (fun r s i rf j h _ => by obtain ⟨h1, rfl, rfl, rfl, rfl⟩ := h; cases h1; exact kk) (fun E s i rf j h => by obtain ⟨h1, -⟩ := h; cases h1)
theorem xv_callI5G {M' : xv_M} {d' mc' ms' idx b : Nat} {a1 a2 a3 a4 a5 : Value} {Q' : xv_Q} (hM : xv_Met M' d' mc' ms' sh I Rf J [.ref b, a1, a2, a3, a4, a5] Q') (hf : xv_F M pc (.invokespecial idx) 3 pc') (hY : xv_Y M' 5) (hY2 : Cond.instanceMethod M'.1 ∈ xv_tbl ∧ M'.1.name = "<init>" ∧ M'.2.2.2.1 = none) (hl : Cond.methodLink M.1.cls idx M'.1 ∈ xv_tbl) (hh : M.2.2.2.2 = []) (hh' : M'.2.2.2.2 = []) (hsum : (S.map fun v => v.category).sum ≤ 8) (hd : d' + 1 ≤ d) (h1c : mc' ≤ kc) (h1s : ms' ≤ ks) (kr : ∀ r sh' I' Rf' J', Q' (.inl r) sh' I' Rf' J' → (∀ v, sh v ≠ none → sh' v = sh v) → xv_W M d mc ms Q (kc - mc') (ks - ms') sh' I' Rf' J' pc' L (r.toList ++ S)) (kx : ∀ E sh' I' Rf' J', Q' (.inr E) sh' I' Rf' J' → Q (.inr E) sh' I' Rf' J') : xv_W M d mc ms Q kc ks sh I Rf J pc L (a5 :: a4 :: a3 :: a2 :: a1 :: .ref b :: S) := xv_callI (As := [a1, a2, a3, a4, a5]) (S := S) (kc' := kc - mc') (ks' := ks - ms') hM hf hY hY2 hl hh hh' rfl rfl hsum hd (by omega) (by omega) kr kx
theorem xv_callI5V {M' : xv_M} {d' mc' ms' idx b : Nat} {a1 a2 a3 a4 a5 : Value} {sh' : xv_Sh} {I' : xv_I} {Rf' : xv_Rf} {J' : xv_J} (hM : xv_Met M' d' mc' ms' sh I Rf J [.ref b, a1, a2, a3, a4, a5] (xv_eq (.inl none) sh' I' Rf' J')) (hf : xv_F M pc (.invokespecial idx) 3 pc') (hY : xv_Y M' 5) (hY2 : Cond.instanceMethod M'.1 ∈ xv_tbl ∧ M'.1.name = "<init>" ∧ M'.2.2.2.1 = none) (hl : Cond.methodLink M.1.cls idx M'.1 ∈ xv_tbl) (hh : M.2.2.2.2 = []) (hh' : M'.2.2.2.2 = []) (hsum : (S.map fun v => v.category).sum ≤ 8) (hd : d' + 1 ≤ d) (h1c : mc' ≤ kc) (h1s : ms' ≤ ks) (kk : xv_W M d mc ms Q (kc - mc') (ks - ms') sh' I' Rf' J' pc' L S) : xv_W M d mc ms Q kc ks sh I Rf J pc L (a5 :: a4 :: a3 :: a2 :: a1 :: .ref b :: S) := xv_callI (As := [a1, a2, a3, a4, a5]) (S := S) (kc' := kc - mc') (ks' := ks - ms') hM hf hY hY2 hl hh hh' rfl rfl hsum hd (by omega) (by omega) (fun r s i rf j h _ => by obtain ⟨h1, rfl, rfl, rfl, rfl⟩ := h; cases h1; exact kk) (fun E s i rf j h => by obtain ⟨h1, -⟩ := h; cases h1)
theorem xv_callI6G {M' : xv_M} {d' mc' ms' idx b : Nat} {a1 a2 a3 a4 a5 a6 : Value} {Q' : xv_Q} (hM : xv_Met M' d' mc' ms' sh I Rf J [.ref b, a1, a2, a3, a4, a5, a6] Q') (hf : xv_F M pc (.invokespecial idx) 3 pc') (hY : xv_Y M' 6) (hY2 : Cond.instanceMethod M'.1 ∈ xv_tbl ∧ M'.1.name = "<init>" ∧ M'.2.2.2.1 = none) (hl : Cond.methodLink M.1.cls idx M'.1 ∈ xv_tbl) (hh : M.2.2.2.2 = []) (hh' : M'.2.2.2.2 = []) (hsum : (S.map fun v => v.category).sum ≤ 8) (hd : d' + 1 ≤ d) (h1c : mc' ≤ kc) (h1s : ms' ≤ ks) (kr : ∀ r sh' I' Rf' J', Q' (.inl r) sh' I' Rf' J' → (∀ v, sh v ≠ none → sh' v = sh v) → xv_W M d mc ms Q (kc - mc') (ks - ms') sh' I' Rf' J' pc' L (r.toList ++ S)) (kx : ∀ E sh' I' Rf' J', Q' (.inr E) sh' I' Rf' J' → Q (.inr E) sh' I' Rf' J') : xv_W M d mc ms Q kc ks sh I Rf J pc L (a6 :: a5 :: a4 :: a3 :: a2 :: a1 :: .ref b :: S) := xv_callI (As := [a1, a2, a3, a4, a5, a6]) (S := S) (kc' := kc - mc') (ks' := ks - ms') hM hf hY hY2 hl hh hh' rfl rfl hsum hd (by omega) (by omega) kr kx
theorem xv_callI6V {M' : xv_M} {d' mc' ms' idx b : Nat} {a1 a2 a3 a4 a5 a6 : Value} {sh' : xv_Sh} {I' : xv_I} {Rf' : xv_Rf} {J' : xv_J} (hM : xv_Met M' d' mc' ms' sh I Rf J [.ref b, a1, a2, a3, a4, a5, a6] (xv_eq (.inl none) sh' I' Rf' J')) (hf : xv_F M pc (.invokespecial idx) 3 pc') (hY : xv_Y M' 6) (hY2 : Cond.instanceMethod M'.1 ∈ xv_tbl ∧ M'.1.name = "<init>" ∧ M'.2.2.2.1 = none) (hl : Cond.methodLink M.1.cls idx M'.1 ∈ xv_tbl) (hh : M.2.2.2.2 = []) (hh' : M'.2.2.2.2 = []) (hsum : (S.map fun v => v.category).sum ≤ 8) (hd : d' + 1 ≤ d) (h1c : mc' ≤ kc) (h1s : ms' ≤ ks) (kk : xv_W M d mc ms Q (kc - mc') (ks - ms') sh' I' Rf' J' pc' L S) : xv_W M d mc ms Q kc ks sh I Rf J pc L (a6 :: a5 :: a4 :: a3 :: a2 :: a1 :: .ref b :: S) := xv_callI (As := [a1, a2, a3, a4, a5, a6]) (S := S) (kc' := kc - mc') (ks' := ks - ms') hM hf hY hY2 hl hh hh' rfl rfl hsum hd (by omega) (by omega) (fun r s i rf j h _ => by obtain ⟨h1, rfl, rfl, rfl, rfl⟩ := h; cases h1; exact kk) (fun E s i rf j h => by obtain ⟨h1, -⟩ := h; cases h1)
theorem xv_callI7G {M' : xv_M} {d' mc' ms' idx b : Nat} {a1 a2 a3 a4 a5 a6 a7 : Value} {Q' : xv_Q} (hM : xv_Met M' d' mc' ms' sh I Rf J [.ref b, a1, a2, a3, a4, a5, a6, a7] Q') (hf : xv_F M pc (.invokespecial idx) 3 pc') (hY : xv_Y M' 7) (hY2 : Cond.instanceMethod M'.1 ∈ xv_tbl ∧ M'.1.name = "<init>" ∧ M'.2.2.2.1 = none) (hl : Cond.methodLink M.1.cls idx M'.1 ∈ xv_tbl) (hh : M.2.2.2.2 = []) (hh' : M'.2.2.2.2 = []) (hsum : (S.map fun v => v.category).sum ≤ 8) (hd : d' + 1 ≤ d) (h1c : mc' ≤ kc) (h1s : ms' ≤ ks) (kr : ∀ r sh' I' Rf' J', Q' (.inl r) sh' I' Rf' J' → (∀ v, sh v ≠ none → sh' v = sh v) → xv_W M d mc ms Q (kc - mc') (ks - ms') sh' I' Rf' J' pc' L (r.toList ++ S)) (kx : ∀ E sh' I' Rf' J', Q' (.inr E) sh' I' Rf' J' → Q (.inr E) sh' I' Rf' J') : xv_W M d mc ms Q kc ks sh I Rf J pc L (a7 :: a6 :: a5 :: a4 :: a3 :: a2 :: a1 :: .ref b :: S) := xv_callI (As := [a1, a2, a3, a4, a5, a6, a7]) (S := S) (kc' := kc - mc') (ks' := ks - ms') hM hf hY hY2 hl hh hh' rfl rfl hsum hd (by omega) (by omega) kr kx
theorem xv_callI7V {M' : xv_M} {d' mc' ms' idx b : Nat} {a1 a2 a3 a4 a5 a6 a7 : Value} {sh' : xv_Sh} {I' : xv_I} {Rf' : xv_Rf} {J' : xv_J} (hM : xv_Met M' d' mc' ms' sh I Rf J [.ref b, a1, a2, a3, a4, a5, a6, a7] (xv_eq (.inl none) sh' I' Rf' J')) (hf : xv_F M pc (.invokespecial idx) 3 pc') (hY : xv_Y M' 7) (hY2 : Cond.instanceMethod M'.1 ∈ xv_tbl ∧ M'.1.name = "<init>" ∧ M'.2.2.2.1 = none) (hl : Cond.methodLink M.1.cls idx M'.1 ∈ xv_tbl) (hh : M.2.2.2.2 = []) (hh' : M'.2.2.2.2 = []) (hsum : (S.map fun v => v.category).sum ≤ 8) (hd : d' + 1 ≤ d) (h1c : mc' ≤ kc) (h1s : ms' ≤ ks) (kk : xv_W M d mc ms Q (kc - mc') (ks - ms') sh' I' Rf' J' pc' L S) : xv_W M d mc ms Q kc ks sh I Rf J pc L (a7 :: a6 :: a5 :: a4 :: a3 :: a2 :: a1 :: .ref b :: S) := xv_callI (As := [a1, a2, a3, a4, a5, a6, a7]) (S := S) (kc' := kc - mc') (ks' := ks - ms') hM hf hY hY2 hl hh hh' rfl rfl hsum hd (by omega) (by omega) (fun r s i rf j h _ => by obtain ⟨h1, rfl, rfl, rfl, rfl⟩ := h; cases h1; exact kk) (fun E s i rf j h => by obtain ⟨h1, -⟩ := h; cases h1)
theorem xv_callI8G {M' : xv_M} {d' mc' ms' idx b : Nat} {a1 a2 a3 a4 a5 a6 a7 a8 : Value} {Q' : xv_Q} (hM : xv_Met M' d' mc' ms' sh I Rf J [.ref b, a1, a2, a3, a4, a5, a6, a7, a8] Q') (hf : xv_F M pc (.invokespecial idx) 3 pc') (hY : xv_Y M' 8) (hY2 : Cond.instanceMethod M'.1 ∈ xv_tbl ∧ M'.1.name = "<init>" ∧ M'.2.2.2.1 = none) (hl : Cond.methodLink M.1.cls idx M'.1 ∈ xv_tbl) (hh : M.2.2.2.2 = []) (hh' : M'.2.2.2.2 = []) (hsum : (S.map fun v => v.category).sum ≤ 8) (hd : d' + 1 ≤ d) (h1c : mc' ≤ kc) (h1s : ms' ≤ ks) (kr : ∀ r sh' I' Rf' J', Q' (.inl r) sh' I' Rf' J' → (∀ v, sh v ≠ none → sh' v = sh v) → xv_W M d mc ms Q (kc - mc') (ks - ms') sh' I' Rf' J' pc' L (r.toList ++ S)) (kx : ∀ E sh' I' Rf' J', Q' (.inr E) sh' I' Rf' J' → Q (.inr E) sh' I' Rf' J') : xv_W M d mc ms Q kc ks sh I Rf J pc L (a8 :: a7 :: a6 :: a5 :: a4 :: a3 :: a2 :: a1 :: .ref b :: S) := xv_callI (As := [a1, a2, a3, a4, a5, a6, a7, a8]) (S := S) (kc' := kc - mc') (ks' := ks - ms') hM hf hY hY2 hl hh hh' rfl rfl hsum hd (by omega) (by omega) kr kx
theorem xv_callI8V {M' : xv_M} {d' mc' ms' idx b : Nat} {a1 a2 a3 a4 a5 a6 a7 a8 : Value} {sh' : xv_Sh} {I' : xv_I} {Rf' : xv_Rf} {J' : xv_J} (hM : xv_Met M' d' mc' ms' sh I Rf J [.ref b, a1, a2, a3, a4, a5, a6, a7, a8] (xv_eq (.inl none) sh' I' Rf' J')) (hf : xv_F M pc (.invokespecial idx) 3 pc') (hY : xv_Y M' 8) (hY2 : Cond.instanceMethod M'.1 ∈ xv_tbl ∧ M'.1.name = "<init>" ∧ M'.2.2.2.1 = none) (hl : Cond.methodLink M.1.cls idx M'.1 ∈ xv_tbl) (hh : M.2.2.2.2 = []) (hh' : M'.2.2.2.2 = []) (hsum : (S.map fun v => v.category).sum ≤ 8) (hd : d' + 1 ≤ d) (h1c : mc' ≤ kc) (h1s : ms' ≤ ks) (kk : xv_W M d mc ms Q (kc - mc') (ks - ms') sh' I' Rf' J' pc' L S) : xv_W M d mc ms Q kc ks sh I Rf J pc L (a8 :: a7 :: a6 :: a5 :: a4 :: a3 :: a2 :: a1 :: .ref b :: S) := xv_callI (As := [a1, a2, a3, a4, a5, a6, a7, a8]) (S := S) (kc' := kc - mc') (ks' := ks - ms') hM hf hY hY2 hl hh hh' rfl rfl hsum hd (by omega) (by omega) (fun r s i rf j h _ => by obtain ⟨h1, rfl, rfl, rfl, rfl⟩ := h; cases h1; exact kk) (fun E s i rf j h => by obtain ⟨h1, -⟩ := h; cases h1)
end XVA
