/-! places of the pools (by program) -/
theorem ly_11_1 : u_lay (kC 11) (kF 11) 1 ∈ gTbl := gw3 7 rfl rfl
theorem ly_11_2 : u_lay (kC 11) (kF 11) 2 ∈ gTbl := gw3 9 rfl rfl
theorem ly_11_3 : u_lay (kC 11) (kF 11) 3 ∈ gTbl := gw3 11 rfl rfl
theorem ly_11_4 : u_lay (kC 11) (kF 11) 4 ∈ gTbl := gw3 13 rfl rfl
theorem ly_11_5 : u_lay (kC 11) (kF 11) 5 ∈ gTbl := gw3 15 rfl rfl
theorem ly_11_6 : u_lay (kC 11) (kF 11) 6 ∈ gTbl := gw3 17 rfl rfl
theorem ly_11_7 : u_lay (kC 11) (kF 11) 7 ∈ gTbl := gw3 19 rfl rfl
theorem ly_11_8 : u_lay (kC 11) (kF 11) 8 ∈ gTbl := gw3 21 rfl rfl
theorem ly_11_9 : u_lay (kC 11) (kF 11) 9 ∈ gTbl := gw3 23 rfl rfl
theorem ly_11_10 : u_lay (kC 11) (kF 11) 10 ∈ gTbl := gw3 25 rfl rfl
theorem ly_11_11 : u_lay (kC 11) (kF 11) 11 ∈ gTbl := gw3 27 rfl rfl
theorem ly_11_12 : u_lay (kC 11) (kF 11) 12 ∈ gTbl := gw3 29 rfl rfl
theorem ly_12_0 : u_lay (kC 12) (kF 12) 0 ∈ gTbl := gw3 52 rfl rfl
theorem ly_12_1 : u_lay (kC 12) (kF 12) 1 ∈ gTbl := gw3 54 rfl rfl
theorem ly_12_2 : u_lay (kC 12) (kF 12) 2 ∈ gTbl := gw3 56 rfl rfl
theorem ly_12_3 : u_lay (kC 12) (kF 12) 3 ∈ gTbl := gw3 58 rfl rfl
theorem ly_12_4 : u_lay (kC 12) (kF 12) 4 ∈ gTbl := gw3 60 rfl rfl
theorem ly_12_5 : u_lay (kC 12) (kF 12) 5 ∈ gTbl := gw3 62 rfl rfl
theorem ly_12_6 : u_lay (kC 12) (kF 12) 6 ∈ gTbl := gw3 64 rfl rfl
theorem ly_12_7 : u_lay (kC 12) (kF 12) 7 ∈ gTbl := gw3 66 rfl rfl
theorem ly_12_8 : u_lay (kC 12) (kF 12) 8 ∈ gTbl := gw3 68 rfl rfl
theorem ly_12_9 : u_lay (kC 12) (kF 12) 9 ∈ gTbl := gw3 70 rfl rfl
theorem ly_12_10 : u_lay (kC 12) (kF 12) 10 ∈ gTbl := gw3 72 rfl rfl
theorem ly_13_0 : u_lay (kC 13) (kF 13) 0 ∈ gTbl := gw7 3 rfl rfl
theorem ly_13_1 : u_lay (kC 13) (kF 13) 1 ∈ gTbl := gw7 5 rfl rfl
theorem ly_13_2 : u_lay (kC 13) (kF 13) 2 ∈ gTbl := gw7 7 rfl rfl
theorem ly_13_3 : u_lay (kC 13) (kF 13) 3 ∈ gTbl := gw7 9 rfl rfl
theorem ly_13_4 : u_lay (kC 13) (kF 13) 4 ∈ gTbl := gw7 11 rfl rfl
theorem ly_13_5 : u_lay (kC 13) (kF 13) 5 ∈ gTbl := gw7 13 rfl rfl
theorem ly_13_6 : u_lay (kC 13) (kF 13) 6 ∈ gTbl := gw7 15 rfl rfl
theorem ly_13_7 : u_lay (kC 13) (kF 13) 7 ∈ gTbl := gw7 17 rfl rfl
theorem ly_13_8 : u_lay (kC 13) (kF 13) 8 ∈ gTbl := gw7 19 rfl rfl
theorem ly_13_9 : u_lay (kC 13) (kF 13) 9 ∈ gTbl := gw7 21 rfl rfl
theorem ly_13_10 : u_lay (kC 13) (kF 13) 10 ∈ gTbl := gw7 23 rfl rfl
theorem ly_13_11 : u_lay (kC 13) (kF 13) 11 ∈ gTbl := gw7 25 rfl rfl
theorem ly_13_12 : u_lay (kC 13) (kF 13) 12 ∈ gTbl := gw7 27 rfl rfl
theorem ly_13_13 : u_lay (kC 13) (kF 13) 13 ∈ gTbl := gw7 29 rfl rfl
theorem ly_13_14 : u_lay (kC 13) (kF 13) 14 ∈ gTbl := gw7 31 rfl rfl
theorem ly_13_15 : u_lay (kC 13) (kF 13) 15 ∈ gTbl := gw7 33 rfl rfl
theorem ly_13_16 : u_lay (kC 13) (kF 13) 16 ∈ gTbl := gw7 35 rfl rfl
theorem ly_13_17 : u_lay (kC 13) (kF 13) 17 ∈ gTbl := gw7 37 rfl rfl
theorem ly_13_18 : u_lay (kC 13) (kF 13) 18 ∈ gTbl := gw7 39 rfl rfl
theorem ly_13_19 : u_lay (kC 13) (kF 13) 19 ∈ gTbl := gw7 41 rfl rfl
theorem ly_13_20 : u_lay (kC 13) (kF 13) 20 ∈ gTbl := gw7 43 rfl rfl
theorem ly_13_21 : u_lay (kC 13) (kF 13) 21 ∈ gTbl := gw7 45 rfl rfl
theorem ly_13_22 : u_lay (kC 13) (kF 13) 22 ∈ gTbl := gw7 47 rfl rfl
theorem ly_13_23 : u_lay (kC 13) (kF 13) 23 ∈ gTbl := gw7 49 rfl rfl
theorem ly_13_24 : u_lay (kC 13) (kF 13) 24 ∈ gTbl := gw7 51 rfl rfl
theorem ly_13_25 : u_lay (kC 13) (kF 13) 25 ∈ gTbl := gw7 53 rfl rfl
theorem ly_13_26 : u_lay (kC 13) (kF 13) 26 ∈ gTbl := gw7 55 rfl rfl
theorem ly_13_27 : u_lay (kC 13) (kF 13) 27 ∈ gTbl := gw7 57 rfl rfl
theorem ly_13_28 : u_lay (kC 13) (kF 13) 28 ∈ gTbl := gw7 59 rfl rfl
theorem ly_13_29 : u_lay (kC 13) (kF 13) 29 ∈ gTbl := gw7 61 rfl rfl
theorem ly_13_30 : u_lay (kC 13) (kF 13) 30 ∈ gTbl := gw7 63 rfl rfl
theorem ly_13_31 : u_lay (kC 13) (kF 13) 31 ∈ gTbl := gw7 65 rfl rfl
theorem ly_13_32 : u_lay (kC 13) (kF 13) 32 ∈ gTbl := gw7 67 rfl rfl
theorem ly_13_33 : u_lay (kC 13) (kF 13) 33 ∈ gTbl := gw7 69 rfl rfl
theorem ly_13_34 : u_lay (kC 13) (kF 13) 34 ∈ gTbl := gw7 71 rfl rfl
theorem ly_13_35 : u_lay (kC 13) (kF 13) 35 ∈ gTbl := gw7 73 rfl rfl
theorem ly_13_36 : u_lay (kC 13) (kF 13) 36 ∈ gTbl := gw7 75 rfl rfl
theorem ly_13_37 : u_lay (kC 13) (kF 13) 37 ∈ gTbl := gw7 77 rfl rfl
theorem ly_13_38 : u_lay (kC 13) (kF 13) 38 ∈ gTbl := gw7 79 rfl rfl
theorem ly_13_39 : u_lay (kC 13) (kF 13) 39 ∈ gTbl := gw7 81 rfl rfl
theorem ly_13_40 : u_lay (kC 13) (kF 13) 40 ∈ gTbl := gw7 83 rfl rfl
theorem ly_13_41 : u_lay (kC 13) (kF 13) 41 ∈ gTbl := gw7 85 rfl rfl
theorem ly_13_42 : u_lay (kC 13) (kF 13) 42 ∈ gTbl := gw7 87 rfl rfl
theorem ly_13_43 : u_lay (kC 13) (kF 13) 43 ∈ gTbl := gw7 89 rfl rfl
theorem ly_13_44 : u_lay (kC 13) (kF 13) 44 ∈ gTbl := gw7 91 rfl rfl
theorem ly_13_45 : u_lay (kC 13) (kF 13) 45 ∈ gTbl := gw7 93 rfl rfl
theorem ly_13_46 : u_lay (kC 13) (kF 13) 46 ∈ gTbl := gw7 95 rfl rfl
theorem ly_13_47 : u_lay (kC 13) (kF 13) 47 ∈ gTbl := gw7 97 rfl rfl
theorem ly_13_48 : u_lay (kC 13) (kF 13) 48 ∈ gTbl := gw7 99 rfl rfl
theorem ly_13_49 : u_lay (kC 13) (kF 13) 49 ∈ gTbl := gw7 101 rfl rfl
theorem ly_13_50 : u_lay (kC 13) (kF 13) 50 ∈ gTbl := gw7 103 rfl rfl
theorem ly_13_51 : u_lay (kC 13) (kF 13) 51 ∈ gTbl := gw7 105 rfl rfl
theorem ly_13_52 : u_lay (kC 13) (kF 13) 52 ∈ gTbl := gw7 107 rfl rfl
theorem ly_13_53 : u_lay (kC 13) (kF 13) 53 ∈ gTbl := gw7 109 rfl rfl
theorem ly_13_54 : u_lay (kC 13) (kF 13) 54 ∈ gTbl := gw7 111 rfl rfl
theorem ly_13_55 : u_lay (kC 13) (kF 13) 55 ∈ gTbl := gw7 113 rfl rfl
theorem ly_13_56 : u_lay (kC 13) (kF 13) 56 ∈ gTbl := gw7 115 rfl rfl
theorem ly_13_57 : u_lay (kC 13) (kF 13) 57 ∈ gTbl := gw7 117 rfl rfl
theorem ly_13_58 : u_lay (kC 13) (kF 13) 58 ∈ gTbl := gw7 119 rfl rfl
theorem ly_13_59 : u_lay (kC 13) (kF 13) 59 ∈ gTbl := gw7 121 rfl rfl
theorem ly_13_60 : u_lay (kC 13) (kF 13) 60 ∈ gTbl := gw7 123 rfl rfl
theorem ly_13_61 : u_lay (kC 13) (kF 13) 61 ∈ gTbl := gw7 125 rfl rfl
theorem ly_13_62 : u_lay (kC 13) (kF 13) 62 ∈ gTbl := gw7 127 rfl rfl
theorem ly_13_63 : u_lay (kC 13) (kF 13) 63 ∈ gTbl := gw7 129 rfl rfl
theorem ly_13_64 : u_lay (kC 13) (kF 13) 64 ∈ gTbl := gw7 131 rfl rfl
theorem ly_13_65 : u_lay (kC 13) (kF 13) 65 ∈ gTbl := gw7 133 rfl rfl
theorem ly_13_66 : u_lay (kC 13) (kF 13) 66 ∈ gTbl := gw7 135 rfl rfl
theorem ly_13_67 : u_lay (kC 13) (kF 13) 67 ∈ gTbl := gw7 137 rfl rfl
theorem ly_13_68 : u_lay (kC 13) (kF 13) 68 ∈ gTbl := gw7 139 rfl rfl
theorem ly_13_69 : u_lay (kC 13) (kF 13) 69 ∈ gTbl := gw7 141 rfl rfl
theorem ly_13_70 : u_lay (kC 13) (kF 13) 70 ∈ gTbl := gw7 143 rfl rfl
theorem ly_13_71 : u_lay (kC 13) (kF 13) 71 ∈ gTbl := gw7 145 rfl rfl
theorem kr9_1 : 1 ≤ 1 ∧ 1 ≤ 13 := by decide
theorem pq9_1 : ∀ j, j < kN 1 → parseFieldDescriptor (kF 1 j).2.2.1 = some (kT 1 j) := by decide +kernel
theorem kr9_2 : 1 ≤ 2 ∧ 2 ≤ 13 := by decide
theorem pq9_2 : ∀ j, j < kN 2 → parseFieldDescriptor (kF 2 j).2.2.1 = some (kT 2 j) := by decide +kernel
theorem kr9_3 : 1 ≤ 3 ∧ 3 ≤ 13 := by decide
theorem pq9_3 : ∀ j, j < kN 3 → parseFieldDescriptor (kF 3 j).2.2.1 = some (kT 3 j) := by decide +kernel
theorem kr9_4 : 1 ≤ 4 ∧ 4 ≤ 13 := by decide
theorem pq9_4 : ∀ j, j < kN 4 → parseFieldDescriptor (kF 4 j).2.2.1 = some (kT 4 j) := by decide +kernel
theorem kr9_5 : 1 ≤ 5 ∧ 5 ≤ 13 := by decide
theorem pq9_5 : ∀ j, j < kN 5 → parseFieldDescriptor (kF 5 j).2.2.1 = some (kT 5 j) := by decide +kernel
theorem kr9_6 : 1 ≤ 6 ∧ 6 ≤ 13 := by decide
theorem pq9_6 : ∀ j, j < kN 6 → parseFieldDescriptor (kF 6 j).2.2.1 = some (kT 6 j) := by decide +kernel
theorem kr9_7 : 1 ≤ 7 ∧ 7 ≤ 13 := by decide
theorem pq9_7 : ∀ j, j < kN 7 → parseFieldDescriptor (kF 7 j).2.2.1 = some (kT 7 j) := by decide +kernel
theorem kr9_8 : 1 ≤ 8 ∧ 8 ≤ 13 := by decide
theorem pq9_8 : ∀ j, j < kN 8 → parseFieldDescriptor (kF 8 j).2.2.1 = some (kT 8 j) := by decide +kernel
theorem kr9_9 : 1 ≤ 9 ∧ 9 ≤ 13 := by decide
theorem pq9_9 : ∀ j, j < kN 9 → parseFieldDescriptor (kF 9 j).2.2.1 = some (kT 9 j) := by decide +kernel
theorem kr9_10 : 1 ≤ 10 ∧ 10 ≤ 13 := by decide
theorem pq9_10 : ∀ j, j < kN 10 → parseFieldDescriptor (kF 10 j).2.2.1 = some (kT 10 j) := by decide +kernel
theorem kr9_11 : 1 ≤ 11 ∧ 11 ≤ 13 := by decide
theorem pq9_11 : ∀ j, j < kN 11 → parseFieldDescriptor (kF 11 j).2.2.1 = some (kT 11 j) := by decide +kernel
theorem kr9_12 : 1 ≤ 12 ∧ 12 ≤ 13 := by decide
theorem pq9_12 : ∀ j, j < kN 12 → parseFieldDescriptor (kF 12 j).2.2.1 = some (kT 12 j) := by decide +kernel
theorem kr9_13 : 1 ≤ 13 ∧ 13 ≤ 13 := by decide
theorem pq9_13 : ∀ j, j < kN 13 → parseFieldDescriptor (kF 13 j).2.2.1 = some (kT 13 j) := by decide +kernel
theorem pm9_13 : (parseMethodDescriptor (mNam 13).desc).map (fun d => d.parameters.length + 1) = some (mArg 13).length := by decide +kernel
theorem pm9_15 : (parseMethodDescriptor (mNam 15).desc).map (fun d => d.parameters.length + 1) = some (mArg 15).length := by decide +kernel
theorem pm9_17 : (parseMethodDescriptor (mNam 17).desc).map (fun d => d.parameters.length + 1) = some (mArg 17).length := by decide +kernel
theorem pm9_18 : (parseMethodDescriptor (mNam 18).desc).map (fun d => d.parameters.length + 1) = some (mArg 18).length := by decide +kernel
theorem pm9_20 : (parseMethodDescriptor (mNam 20).desc).map (fun d => d.parameters.length + 1) = some (mArg 20).length := by decide +kernel
theorem pm9_21 : (parseMethodDescriptor (mNam 21).desc).map (fun d => d.parameters.length + 1) = some (mArg 21).length := by decide +kernel
theorem pm9_22 : (parseMethodDescriptor (mNam 22).desc).map (fun d => d.parameters.length + 1) = some (mArg 22).length := by decide +kernel
theorem pm9_23 : (parseMethodDescriptor (mNam 23).desc).map (fun d => d.parameters.length + 1) = some (mArg 23).length := by decide +kernel
theorem pm9_24 : (parseMethodDescriptor (mNam 24).desc).map (fun d => d.parameters.length + 1) = some (mArg 24).length := by decide +kernel
theorem pm9_25 : (parseMethodDescriptor (mNam 25).desc).map (fun d => d.parameters.length + 1) = some (mArg 25).length := by decide +kernel
theorem pm9_26 : (parseMethodDescriptor (mNam 26).desc).map (fun d => d.parameters.length + 1) = some (mArg 26).length := by decide +kernel
theorem pm9_27 : (parseMethodDescriptor (mNam 27).desc).map (fun d => d.parameters.length + 1) = some (mArg 27).length := by decide +kernel
theorem pm9_28 : (parseMethodDescriptor (mNam 28).desc).map (fun d => d.parameters.length + 1) = some (mArg 28).length := by decide +kernel
theorem pm9_29 : (parseMethodDescriptor (mNam 29).desc).map (fun d => d.parameters.length + 1) = some (mArg 29).length := by decide +kernel
theorem pm9_30 : (parseMethodDescriptor (mNam 30).desc).map (fun d => d.parameters.length + 1) = some (mArg 30).length := by decide +kernel
theorem pm9_31 : (parseMethodDescriptor (mNam 31).desc).map (fun d => d.parameters.length + 1) = some (mArg 31).length := by decide +kernel
theorem pm9_32 : (parseMethodDescriptor (mNam 32).desc).map (fun d => d.parameters.length + 1) = some (mArg 32).length := by decide +kernel
theorem pm9_33 : (parseMethodDescriptor (mNam 33).desc).map (fun d => d.parameters.length + 1) = some (mArg 33).length := by decide +kernel
theorem pm9_34 : (parseMethodDescriptor (mNam 34).desc).map (fun d => d.parameters.length + 1) = some (mArg 34).length := by decide +kernel
theorem pm9_35 : (parseMethodDescriptor (mNam 35).desc).map (fun d => d.parameters.length + 1) = some (mArg 35).length := by decide +kernel
theorem pm9_36 : (parseMethodDescriptor (mNam 36).desc).map (fun d => d.parameters.length + 1) = some (mArg 36).length := by decide +kernel
theorem pm9_37 : (parseMethodDescriptor (mNam 37).desc).map (fun d => d.parameters.length + 1) = some (mArg 37).length := by decide +kernel
theorem pm9_38 : (parseMethodDescriptor (mNam 38).desc).map (fun d => d.parameters.length + 1) = some (mArg 38).length := by decide +kernel
theorem pm9_39 : (parseMethodDescriptor (mNam 39).desc).map (fun d => d.parameters.length + 1) = some (mArg 39).length := by decide +kernel
theorem pm9_40 : (parseMethodDescriptor (mNam 40).desc).map (fun d => d.parameters.length + 1) = some (mArg 40).length := by decide +kernel
theorem pm9_42 : (parseMethodDescriptor (mNam 42).desc).map (fun d => d.parameters.length + 1) = some (mArg 42).length := by decide +kernel
theorem pm9_43 : (parseMethodDescriptor (mNam 43).desc).map (fun d => d.parameters.length + 1) = some (mArg 43).length := by decide +kernel
theorem pm9_44 : (parseMethodDescriptor (mNam 44).desc).map (fun d => d.parameters.length + 1) = some (mArg 44).length := by decide +kernel
theorem pm9_45 : (parseMethodDescriptor (mNam 45).desc).map (fun d => d.parameters.length + 1) = some (mArg 45).length := by decide +kernel
theorem pm9_46 : (parseMethodDescriptor (mNam 46).desc).map (fun d => d.parameters.length + 1) = some (mArg 46).length := by decide +kernel
theorem pm9_47 : (parseMethodDescriptor (mNam 47).desc).map (fun d => d.parameters.length + 1) = some (mArg 47).length := by decide +kernel
theorem pm9_48 : (parseMethodDescriptor (mNam 48).desc).map (fun d => d.parameters.length + 1) = some (mArg 48).length := by decide +kernel
theorem pm9_49 : (parseMethodDescriptor (mNam 49).desc).map (fun d => d.parameters.length + 1) = some (mArg 49).length := by decide +kernel
theorem pm9_52 : (parseMethodDescriptor (mNam 52).desc).map (fun d => d.parameters.length + 1) = some (mArg 52).length := by decide +kernel
theorem pm9_53 : (parseMethodDescriptor (mNam 53).desc).map (fun d => d.parameters.length + 1) = some (mArg 53).length := by decide +kernel
theorem pm9_58 : (parseMethodDescriptor (mNam 58).desc).map (fun d => d.parameters.length + 1) = some (mArg 58).length := by decide +kernel
theorem pm9_59 : (parseMethodDescriptor (mNam 59).desc).map (fun d => d.parameters.length + 1) = some (mArg 59).length := by decide +kernel
theorem pm9_61 : (parseMethodDescriptor (mNam 61).desc).map (fun d => d.parameters.length + 1) = some (mArg 61).length := by decide +kernel
theorem pm9_62 : (parseMethodDescriptor (mNam 62).desc).map (fun d => d.parameters.length + 1) = some (mArg 62).length := by decide +kernel
theorem pm9_63 : (parseMethodDescriptor (mNam 63).desc).map (fun d => d.parameters.length + 1) = some (mArg 63).length := by decide +kernel
theorem pm9_64 : (parseMethodDescriptor (mNam 64).desc).map (fun d => d.parameters.length + 1) = some (mArg 64).length := by decide +kernel
theorem pm9_66 : (parseMethodDescriptor (mNam 66).desc).map (fun d => d.parameters.length + 1) = some (mArg 66).length := by decide +kernel
theorem pm9_68 : (parseMethodDescriptor (mNam 68).desc).map (fun d => d.parameters.length + 1) = some (mArg 68).length := by decide +kernel
theorem pm9_69 : (parseMethodDescriptor (mNam 69).desc).map (fun d => d.parameters.length + 1) = some (mArg 69).length := by decide +kernel
theorem pm9_70 : (parseMethodDescriptor (mNam 70).desc).map (fun d => d.parameters.length + 1) = some (mArg 70).length := by decide +kernel
theorem pm9_71 : (parseMethodDescriptor (mNam 71).desc).map (fun d => d.parameters.length + 1) = some (mArg 71).length := by decide +kernel
theorem pm9_72 : (parseMethodDescriptor (mNam 72).desc).map (fun d => d.parameters.length + 1) = some (mArg 72).length := by decide +kernel
theorem pm9_73 : (parseMethodDescriptor (mNam 73).desc).map (fun d => d.parameters.length + 1) = some (mArg 73).length := by decide +kernel
theorem pm9_74 : (parseMethodDescriptor (mNam 74).desc).map (fun d => d.parameters.length + 1) = some (mArg 74).length := by decide +kernel
theorem pm9_75 : (parseMethodDescriptor (mNam 75).desc).map (fun d => d.parameters.length + 1) = some (mArg 75).length := by decide +kernel
theorem pm9_76 : (parseMethodDescriptor (mNam 76).desc).map (fun d => d.parameters.length + 1) = some (mArg 76).length := by decide +kernel
theorem pm9_77 : (parseMethodDescriptor (mNam 77).desc).map (fun d => d.parameters.length + 1) = some (mArg 77).length := by decide +kernel
theorem pm9_78 : (parseMethodDescriptor (mNam 78).desc).map (fun d => d.parameters.length + 1) = some (mArg 78).length := by decide +kernel
theorem pm9_81 : (parseMethodDescriptor (mNam 81).desc).map (fun d => d.parameters.length + 1) = some (mArg 81).length := by decide +kernel
theorem pm9_82 : (parseMethodDescriptor (mNam 82).desc).map (fun d => d.parameters.length + 1) = some (mArg 82).length := by decide +kernel
theorem pm9_83 : (parseMethodDescriptor (mNam 83).desc).map (fun d => d.parameters.length + 1) = some (mArg 83).length := by decide +kernel
theorem pm9_84 : (parseMethodDescriptor (mNam 84).desc).map (fun d => d.parameters.length + 1) = some (mArg 84).length := by decide +kernel
theorem pm9_86 : (parseMethodDescriptor (mNam 86).desc).map (fun d => d.parameters.length + 1) = some (mArg 86).length := by decide +kernel
theorem pm9_88 : (parseMethodDescriptor (mNam 88).desc).map (fun d => d.parameters.length + 1) = some (mArg 88).length := by decide +kernel
theorem pm9_90 : (parseMethodDescriptor (mNam 90).desc).map (fun d => d.parameters.length + 1) = some (mArg 90).length := by decide +kernel
theorem pm9_92 : (parseMethodDescriptor (mNam 92).desc).map (fun d => d.parameters.length + 1) = some (mArg 92).length := by decide +kernel
theorem pm9_94 : (parseMethodDescriptor (mNam 94).desc).map (fun d => d.parameters.length + 1) = some (mArg 94).length := by decide +kernel
theorem pm9_97 : (parseMethodDescriptor (mNam 97).desc).map (fun d => d.parameters.length + 1) = some (mArg 97).length := by decide +kernel
theorem pm9_98 : (parseMethodDescriptor (mNam 98).desc).map (fun d => d.parameters.length + 1) = some (mArg 98).length := by decide +kernel
theorem pm9_100 : (parseMethodDescriptor (mNam 100).desc).map (fun d => d.parameters.length + 1) = some (mArg 100).length := by decide +kernel
theorem pm9_102 : (parseMethodDescriptor (mNam 102).desc).map (fun d => d.parameters.length + 1) = some (mArg 102).length := by decide +kernel
theorem pm9_104 : (parseMethodDescriptor (mNam 104).desc).map (fun d => d.parameters.length + 1) = some (mArg 104).length := by decide +kernel
theorem pm9_105 : (parseMethodDescriptor (mNam 105).desc).map (fun d => d.parameters.length + 1) = some (mArg 105).length := by decide +kernel
theorem pm9_106 : (parseMethodDescriptor (mNam 106).desc).map (fun d => d.parameters.length + 1) = some (mArg 106).length := by decide +kernel
theorem pm9_107 : (parseMethodDescriptor (mNam 107).desc).map (fun d => d.parameters.length + 1) = some (mArg 107).length := by decide +kernel
theorem pm9_111 : (parseMethodDescriptor (mNam 111).desc).map (fun d => d.parameters.length + 1) = some (mArg 111).length := by decide +kernel
theorem pm9_112 : (parseMethodDescriptor (mNam 112).desc).map (fun d => d.parameters.length + 1) = some (mArg 112).length := by decide +kernel
theorem pm9_115 : (parseMethodDescriptor (mNam 115).desc).map (fun d => d.parameters.length + 1) = some (mArg 115).length := by decide +kernel
theorem pm9_116 : (parseMethodDescriptor (mNam 116).desc).map (fun d => d.parameters.length + 1) = some (mArg 116).length := by decide +kernel
theorem pm9_117 : (parseMethodDescriptor (mNam 117).desc).map (fun d => d.parameters.length + 1) = some (mArg 117).length := by decide +kernel
theorem pm9_118 : (parseMethodDescriptor (mNam 118).desc).map (fun d => d.parameters.length + 1) = some (mArg 118).length := by decide +kernel
theorem pm9_119 : (parseMethodDescriptor (mNam 119).desc).map (fun d => d.parameters.length + 1) = some (mArg 119).length := by decide +kernel
theorem pm9_121 : (parseMethodDescriptor (mNam 121).desc).map (fun d => d.parameters.length + 1) = some (mArg 121).length := by decide +kernel
theorem pm9_124 : (parseMethodDescriptor (mNam 124).desc).map (fun d => d.parameters.length + 1) = some (mArg 124).length := by decide +kernel
theorem pm9_125 : (parseMethodDescriptor (mNam 125).desc).map (fun d => d.parameters.length + 1) = some (mArg 125).length := by decide +kernel
theorem pm9_126 : (parseMethodDescriptor (mNam 126).desc).map (fun d => d.parameters.length + 1) = some (mArg 126).length := by decide +kernel
theorem pm9_127 : (parseMethodDescriptor (mNam 127).desc).map (fun d => d.parameters.length + 1) = some (mArg 127).length := by decide +kernel
theorem pm9_128 : (parseMethodDescriptor (mNam 128).desc).map (fun d => d.parameters.length + 1) = some (mArg 128).length := by decide +kernel
theorem pm9_129 : (parseMethodDescriptor (mNam 129).desc).map (fun d => d.parameters.length + 1) = some (mArg 129).length := by decide +kernel
theorem pm9_132 : (parseMethodDescriptor (mNam 132).desc).map (fun d => d.parameters.length + 1) = some (mArg 132).length := by decide +kernel
theorem pm9_133 : (parseMethodDescriptor (mNam 133).desc).map (fun d => d.parameters.length + 1) = some (mArg 133).length := by decide +kernel
theorem pm9_134 : (parseMethodDescriptor (mNam 134).desc).map (fun d => d.parameters.length + 1) = some (mArg 134).length := by decide +kernel
theorem pm9_135 : (parseMethodDescriptor (mNam 135).desc).map (fun d => d.parameters.length + 1) = some (mArg 135).length := by decide +kernel
theorem pm9_137 : (parseMethodDescriptor (mNam 137).desc).map (fun d => d.parameters.length + 1) = some (mArg 137).length := by decide +kernel
theorem pm9_138 : (parseMethodDescriptor (mNam 138).desc).map (fun d => d.parameters.length + 1) = some (mArg 138).length := by decide +kernel
theorem pm9_139 : (parseMethodDescriptor (mNam 139).desc).map (fun d => d.parameters.length + 1) = some (mArg 139).length := by decide +kernel
theorem pm9_140 : (parseMethodDescriptor (mNam 140).desc).map (fun d => d.parameters.length + 1) = some (mArg 140).length := by decide +kernel
theorem pm9_141 : (parseMethodDescriptor (mNam 141).desc).map (fun d => d.parameters.length + 1) = some (mArg 141).length := by decide +kernel
theorem pm9_142 : (parseMethodDescriptor (mNam 142).desc).map (fun d => d.parameters.length + 1) = some (mArg 142).length := by decide +kernel
theorem pm9_144 : (parseMethodDescriptor (mNam 144).desc).map (fun d => d.parameters.length + 1) = some (mArg 144).length := by decide +kernel
theorem pm9_147 : (parseMethodDescriptor (mNam 147).desc).map (fun d => d.parameters.length + 1) = some (mArg 147).length := by decide +kernel
theorem pm9_148 : (parseMethodDescriptor (mNam 148).desc).map (fun d => d.parameters.length + 1) = some (mArg 148).length := by decide +kernel
theorem pm9_149 : (parseMethodDescriptor (mNam 149).desc).map (fun d => d.parameters.length + 1) = some (mArg 149).length := by decide +kernel
theorem pm9_150 : (parseMethodDescriptor (mNam 150).desc).map (fun d => d.parameters.length + 1) = some (mArg 150).length := by decide +kernel
theorem pm9_155 : (parseMethodDescriptor (mNam 155).desc).map (fun d => d.parameters.length + 1) = some (mArg 155).length := by decide +kernel
theorem pm9_157 : (parseMethodDescriptor (mNam 157).desc).map (fun d => d.parameters.length + 1) = some (mArg 157).length := by decide +kernel
theorem pm9_158 : (parseMethodDescriptor (mNam 158).desc).map (fun d => d.parameters.length + 1) = some (mArg 158).length := by decide +kernel
theorem pm9_159 : (parseMethodDescriptor (mNam 159).desc).map (fun d => d.parameters.length + 1) = some (mArg 159).length := by decide +kernel
theorem pm9_163 : (parseMethodDescriptor (mNam 163).desc).map (fun d => d.parameters.length + 1) = some (mArg 163).length := by decide +kernel
theorem pm9_171 : (parseMethodDescriptor (mNam 171).desc).map (fun d => d.parameters.length + 1) = some (mArg 171).length := by decide +kernel
theorem pm9_172 : (parseMethodDescriptor (mNam 172).desc).map (fun d => d.parameters.length + 1) = some (mArg 172).length := by decide +kernel
theorem pm9_173 : (parseMethodDescriptor (mNam 173).desc).map (fun d => d.parameters.length + 1) = some (mArg 173).length := by decide +kernel
theorem pm9_176 : (parseMethodDescriptor (mNam 176).desc).map (fun d => d.parameters.length + 1) = some (mArg 176).length := by decide +kernel
theorem pm9_177 : (parseMethodDescriptor (mNam 177).desc).map (fun d => d.parameters.length + 1) = some (mArg 177).length := by decide +kernel
theorem pm9_179 : (parseMethodDescriptor (mNam 179).desc).map (fun d => d.parameters.length + 1) = some (mArg 179).length := by decide +kernel
theorem pm9_180 : (parseMethodDescriptor (mNam 180).desc).map (fun d => d.parameters.length + 1) = some (mArg 180).length := by decide +kernel
theorem pm9_181 : (parseMethodDescriptor (mNam 181).desc).map (fun d => d.parameters.length + 1) = some (mArg 181).length := by decide +kernel
theorem pm9_182 : (parseMethodDescriptor (mNam 182).desc).map (fun d => d.parameters.length + 1) = some (mArg 182).length := by decide +kernel
theorem pm9_183 : (parseMethodDescriptor (mNam 183).desc).map (fun d => d.parameters.length + 1) = some (mArg 183).length := by decide +kernel
theorem pm9_184 : (parseMethodDescriptor (mNam 184).desc).map (fun d => d.parameters.length + 1) = some (mArg 184).length := by decide +kernel
theorem pm9_185 : (parseMethodDescriptor (mNam 185).desc).map (fun d => d.parameters.length + 1) = some (mArg 185).length := by decide +kernel
theorem pm9_186 : (parseMethodDescriptor (mNam 186).desc).map (fun d => d.parameters.length + 1) = some (mArg 186).length := by decide +kernel
theorem pm9_187 : (parseMethodDescriptor (mNam 187).desc).map (fun d => d.parameters.length + 1) = some (mArg 187).length := by decide +kernel
theorem pm9_190 : (parseMethodDescriptor (mNam 190).desc).map (fun d => d.parameters.length + 1) = some (mArg 190).length := by decide +kernel
theorem pm9_191 : (parseMethodDescriptor (mNam 191).desc).map (fun d => d.parameters.length + 1) = some (mArg 191).length := by decide +kernel
theorem pm9_192 : (parseMethodDescriptor (mNam 192).desc).map (fun d => d.parameters.length + 1) = some (mArg 192).length := by decide +kernel
theorem pm9_194 : (parseMethodDescriptor (mNam 194).desc).map (fun d => d.parameters.length + 1) = some (mArg 194).length := by decide +kernel
theorem pm9_195 : (parseMethodDescriptor (mNam 195).desc).map (fun d => d.parameters.length + 1) = some (mArg 195).length := by decide +kernel
theorem pm9_197 : (parseMethodDescriptor (mNam 197).desc).map (fun d => d.parameters.length + 1) = some (mArg 197).length := by decide +kernel
theorem pm9_198 : (parseMethodDescriptor (mNam 198).desc).map (fun d => d.parameters.length + 1) = some (mArg 198).length := by decide +kernel
theorem pm9_201 : (parseMethodDescriptor (mNam 201).desc).map (fun d => d.parameters.length + 1) = some (mArg 201).length := by decide +kernel
theorem pm9_202 : (parseMethodDescriptor (mNam 202).desc).map (fun d => d.parameters.length + 1) = some (mArg 202).length := by decide +kernel
theorem pm9_203 : (parseMethodDescriptor (mNam 203).desc).map (fun d => d.parameters.length + 1) = some (mArg 203).length := by decide +kernel
theorem pm9_205 : (parseMethodDescriptor (mNam 205).desc).map (fun d => d.parameters.length + 1) = some (mArg 205).length := by decide +kernel
theorem pm9_206 : (parseMethodDescriptor (mNam 206).desc).map (fun d => d.parameters.length + 1) = some (mArg 206).length := by decide +kernel
theorem pm9_207 : (parseMethodDescriptor (mNam 207).desc).map (fun d => d.parameters.length + 1) = some (mArg 207).length := by decide +kernel
theorem pm9_208 : (parseMethodDescriptor (mNam 208).desc).map (fun d => d.parameters.length + 1) = some (mArg 208).length := by decide +kernel
theorem pm9_211 : (parseMethodDescriptor (mNam 211).desc).map (fun d => d.parameters.length + 1) = some (mArg 211).length := by decide +kernel
theorem pm9_215 : (parseMethodDescriptor (mNam 215).desc).map (fun d => d.parameters.length + 1) = some (mArg 215).length := by decide +kernel
theorem pm9_216 : (parseMethodDescriptor (mNam 216).desc).map (fun d => d.parameters.length + 1) = some (mArg 216).length := by decide +kernel
theorem pm9_217 : (parseMethodDescriptor (mNam 217).desc).map (fun d => d.parameters.length + 1) = some (mArg 217).length := by decide +kernel
theorem pm9_218 : (parseMethodDescriptor (mNam 218).desc).map (fun d => d.parameters.length + 1) = some (mArg 218).length := by decide +kernel
theorem pm9_220 : (parseMethodDescriptor (mNam 220).desc).map (fun d => d.parameters.length + 1) = some (mArg 220).length := by decide +kernel
theorem pm9_222 : (parseMethodDescriptor (mNam 222).desc).map (fun d => d.parameters.length + 1) = some (mArg 222).length := by decide +kernel
theorem pm9_223 : (parseMethodDescriptor (mNam 223).desc).map (fun d => d.parameters.length + 1) = some (mArg 223).length := by decide +kernel
theorem pm9_224 : (parseMethodDescriptor (mNam 224).desc).map (fun d => d.parameters.length + 1) = some (mArg 224).length := by decide +kernel
theorem pm9_225 : (parseMethodDescriptor (mNam 225).desc).map (fun d => d.parameters.length + 1) = some (mArg 225).length := by decide +kernel
theorem pm9_227 : (parseMethodDescriptor (mNam 227).desc).map (fun d => d.parameters.length + 1) = some (mArg 227).length := by decide +kernel
theorem pm9_229 : (parseMethodDescriptor (mNam 229).desc).map (fun d => d.parameters.length + 1) = some (mArg 229).length := by decide +kernel
theorem pm9_231 : (parseMethodDescriptor (mNam 231).desc).map (fun d => d.parameters.length + 1) = some (mArg 231).length := by decide +kernel
theorem pm9_234 : (parseMethodDescriptor (mNam 234).desc).map (fun d => d.parameters.length + 1) = some (mArg 234).length := by decide +kernel
theorem pm9_236 : (parseMethodDescriptor (mNam 236).desc).map (fun d => d.parameters.length + 1) = some (mArg 236).length := by decide +kernel
theorem pm9_237 : (parseMethodDescriptor (mNam 237).desc).map (fun d => d.parameters.length + 1) = some (mArg 237).length := by decide +kernel
theorem pm9_239 : (parseMethodDescriptor (mNam 239).desc).map (fun d => d.parameters.length + 1) = some (mArg 239).length := by decide +kernel
theorem pm9_240 : (parseMethodDescriptor (mNam 240).desc).map (fun d => d.parameters.length + 1) = some (mArg 240).length := by decide +kernel
theorem pm9_245 : (parseMethodDescriptor (mNam 245).desc).map (fun d => d.parameters.length + 1) = some (mArg 245).length := by decide +kernel
theorem pm9_246 : (parseMethodDescriptor (mNam 246).desc).map (fun d => d.parameters.length + 1) = some (mArg 246).length := by decide +kernel
theorem pm9_247 : (parseMethodDescriptor (mNam 247).desc).map (fun d => d.parameters.length + 1) = some (mArg 247).length := by decide +kernel
theorem pm9_250 : (parseMethodDescriptor (mNam 250).desc).map (fun d => d.parameters.length + 1) = some (mArg 250).length := by decide +kernel
theorem pm9_251 : (parseMethodDescriptor (mNam 251).desc).map (fun d => d.parameters.length + 1) = some (mArg 251).length := by decide +kernel
theorem pm9_252 : (parseMethodDescriptor (mNam 252).desc).map (fun d => d.parameters.length + 1) = some (mArg 252).length := by decide +kernel
theorem pm9_255 : (parseMethodDescriptor (mNam 255).desc).map (fun d => d.parameters.length + 1) = some (mArg 255).length := by decide +kernel
theorem pm9_257 : (parseMethodDescriptor (mNam 257).desc).map (fun d => d.parameters.length + 1) = some (mArg 257).length := by decide +kernel
theorem pm9_258 : (parseMethodDescriptor (mNam 258).desc).map (fun d => d.parameters.length + 1) = some (mArg 258).length := by decide +kernel
theorem pm9_260 : (parseMethodDescriptor (mNam 260).desc).map (fun d => d.parameters.length + 1) = some (mArg 260).length := by decide +kernel
theorem pm9_261 : (parseMethodDescriptor (mNam 261).desc).map (fun d => d.parameters.length + 1) = some (mArg 261).length := by decide +kernel
theorem pm9_262 : (parseMethodDescriptor (mNam 262).desc).map (fun d => d.parameters.length + 1) = some (mArg 262).length := by decide +kernel
theorem pm9_265 : (parseMethodDescriptor (mNam 265).desc).map (fun d => d.parameters.length + 1) = some (mArg 265).length := by decide +kernel
theorem pm9_267 : (parseMethodDescriptor (mNam 267).desc).map (fun d => d.parameters.length + 1) = some (mArg 267).length := by decide +kernel
theorem pm9_268 : (parseMethodDescriptor (mNam 268).desc).map (fun d => d.parameters.length + 1) = some (mArg 268).length := by decide +kernel
theorem pm9_272 : (parseMethodDescriptor (mNam 272).desc).map (fun d => d.parameters.length + 1) = some (mArg 272).length := by decide +kernel
theorem pm9_273 : (parseMethodDescriptor (mNam 273).desc).map (fun d => d.parameters.length + 1) = some (mArg 273).length := by decide +kernel
theorem pm9_274 : (parseMethodDescriptor (mNam 274).desc).map (fun d => d.parameters.length + 1) = some (mArg 274).length := by decide +kernel
theorem pm9_279 : (parseMethodDescriptor (mNam 279).desc).map (fun d => d.parameters.length + 1) = some (mArg 279).length := by decide +kernel
theorem pm9_280 : (parseMethodDescriptor (mNam 280).desc).map (fun d => d.parameters.length + 1) = some (mArg 280).length := by decide +kernel
theorem f_101_10 : FldAt 101 10 1 0 := ⟨gw3 75 rfl rfl, ly_1_0, kr9_1.1, kr9_1.2, by decide +kernel, pq9_1 _ (by decide +kernel), tyOK_2o _⟩
theorem f_101_100 : FldAt 101 100 1 13 := ⟨gw3 88 rfl rfl, ly_1_13, kr9_1.1, kr9_1.2, by decide +kernel, pq9_1 _ (by decide +kernel), tyOK_2a _⟩
theorem f_101_19 : FldAt 101 19 1 1 := ⟨gw3 76 rfl rfl, ly_1_1, kr9_1.1, kr9_1.2, by decide +kernel, pq9_1 _ (by decide +kernel), tyOK_2o _⟩
theorem f_101_26 : FldAt 101 26 1 2 := ⟨gw3 77 rfl rfl, ly_1_2, kr9_1.1, kr9_1.2, by decide +kernel, pq9_1 _ (by decide +kernel), tyOK_2o _⟩
theorem f_101_33 : FldAt 101 33 1 3 := ⟨gw3 78 rfl rfl, ly_1_3, kr9_1.1, kr9_1.2, by decide +kernel, pq9_1 _ (by decide +kernel), tyOK_2o _⟩
theorem f_101_42 : FldAt 101 42 1 4 := ⟨gw3 79 rfl rfl, ly_1_4, kr9_1.1, kr9_1.2, by decide +kernel, pq9_1 _ (by decide +kernel), tyOK_2o _⟩
theorem f_101_51 : FldAt 101 51 1 5 := ⟨gw3 80 rfl rfl, ly_1_5, kr9_1.1, kr9_1.2, by decide +kernel, pq9_1 _ (by decide +kernel), tyOK_2o _⟩
theorem f_101_60 : FldAt 101 60 1 6 := ⟨gw3 81 rfl rfl, ly_1_6, kr9_1.1, kr9_1.2, by decide +kernel, pq9_1 _ (by decide +kernel), tyOK_2o _⟩
theorem f_101_69 : FldAt 101 69 1 7 := ⟨gw3 82 rfl rfl, ly_1_7, kr9_1.1, kr9_1.2, by decide +kernel, pq9_1 _ (by decide +kernel), tyOK_2o _⟩
theorem f_101_78 : FldAt 101 78 1 8 := ⟨gw3 83 rfl rfl, ly_1_8, kr9_1.1, kr9_1.2, by decide +kernel, pq9_1 _ (by decide +kernel), tyOK_2o _⟩
theorem f_101_85 : FldAt 101 85 1 9 := ⟨gw3 84 rfl rfl, ly_1_9, kr9_1.1, kr9_1.2, by decide +kernel, pq9_1 _ (by decide +kernel), tyOK_2o _⟩
theorem f_101_92 : FldAt 101 92 1 10 := ⟨gw3 85 rfl rfl, ly_1_10, kr9_1.1, kr9_1.2, by decide +kernel, pq9_1 _ (by decide +kernel), tyOK_2o _⟩
theorem f_101_96 : FldAt 101 96 1 11 := ⟨gw3 86 rfl rfl, ly_1_11, kr9_1.1, kr9_1.2, by decide +kernel, pq9_1 _ (by decide +kernel), tyOK_2a _⟩
theorem f_102_9 : FldAt 102 9 2 0 := ⟨gw1 39 rfl rfl, ly_2_0, kr9_2.1, kr9_2.2, by decide +kernel, pq9_2 _ (by decide +kernel), tyOK_2a _⟩
theorem f_103_15 : FldAt 103 15 3 2 := ⟨gw1 72 rfl rfl, ly_3_2, kr9_3.1, kr9_3.2, by decide +kernel, pq9_3 _ (by decide +kernel), tyOK_2a _⟩
theorem f_103_18 : FldAt 103 18 3 4 := ⟨gw1 74 rfl rfl, ly_3_4, kr9_3.1, kr9_3.2, by decide +kernel, pq9_3 _ (by decide +kernel), tyOK_2a _⟩
theorem f_103_9 : FldAt 103 9 3 0 := ⟨gw1 70 rfl rfl, ly_3_0, kr9_3.1, kr9_3.2, by decide +kernel, pq9_3 _ (by decide +kernel), tyOK_2a _⟩
theorem f_104_15 : FldAt 104 15 4 5 := ⟨gw1 113 rfl rfl, ly_4_5, kr9_4.1, kr9_4.2, by decide +kernel, pq9_4 _ (by decide +kernel), tyOK_2a _⟩
theorem f_104_18 : FldAt 104 18 4 6 := ⟨gw1 116 rfl rfl, ly_4_6, kr9_4.1, kr9_4.2, by decide +kernel, pq9_4 _ (by decide +kernel), tyOK_2a _⟩
theorem f_104_21 : FldAt 104 21 4 7 := ⟨gw1 119 rfl rfl, ly_4_7, kr9_4.1, kr9_4.2, by decide +kernel, pq9_4 _ (by decide +kernel), tyOK_2a _⟩
theorem f_104_24 : FldAt 104 24 4 9 := ⟨gw1 125 rfl rfl, ly_4_9, kr9_4.1, kr9_4.2, by decide +kernel, pq9_4 _ (by decide +kernel), tyOK_2a _⟩
theorem f_104_27 : FldAt 104 27 4 10 := ⟨gw1 130 rfl rfl, ly_4_10, kr9_4.1, kr9_4.2, by decide +kernel, pq9_4 _ (by decide +kernel), tyOK_2a _⟩
theorem f_104_9 : FldAt 104 9 4 4 := ⟨gw1 109 rfl rfl, ly_4_4, kr9_4.1, kr9_4.2, by decide +kernel, pq9_4 _ (by decide +kernel), tyOK_2a _⟩
theorem f_105_15 : FldAt 105 15 5 1 := ⟨gw1 168 rfl rfl, ly_5_1, kr9_5.1, kr9_5.2, by decide +kernel, pq9_5 _ (by decide +kernel), tyOK_2a _⟩
theorem f_105_18 : FldAt 105 18 5 2 := ⟨gw1 172 rfl rfl, ly_5_2, kr9_5.1, kr9_5.2, by decide +kernel, pq9_5 _ (by decide +kernel), tyOK_2a _⟩
theorem f_105_21 : FldAt 105 21 5 4 := ⟨gw1 178 rfl rfl, ly_5_4, kr9_5.1, kr9_5.2, by decide +kernel, pq9_5 _ (by decide +kernel), tyOK_2a _⟩
theorem f_105_24 : FldAt 105 24 5 5 := ⟨gw1 182 rfl rfl, ly_5_5, kr9_5.1, kr9_5.2, by decide +kernel, pq9_5 _ (by decide +kernel), tyOK_2a _⟩
theorem f_105_27 : FldAt 105 27 5 6 := ⟨gw1 186 rfl rfl, ly_5_6, kr9_5.1, kr9_5.2, by decide +kernel, pq9_5 _ (by decide +kernel), tyOK_2a _⟩
theorem f_105_30 : FldAt 105 30 5 7 := ⟨gw1 190 rfl rfl, ly_5_7, kr9_5.1, kr9_5.2, by decide +kernel, pq9_5 _ (by decide +kernel), tyOK_2a _⟩
theorem f_105_33 : FldAt 105 33 5 8 := ⟨gw1 194 rfl rfl, ly_5_8, kr9_5.1, kr9_5.2, by decide +kernel, pq9_5 _ (by decide +kernel), tyOK_2a _⟩
theorem f_105_36 : FldAt 105 36 5 9 := ⟨gw1 197 rfl rfl, ly_5_9, kr9_5.1, kr9_5.2, by decide +kernel, pq9_5 _ (by decide +kernel), tyOK_2a _⟩
theorem f_105_9 : FldAt 105 9 5 0 := ⟨gw1 163 rfl rfl, ly_5_0, kr9_5.1, kr9_5.2, by decide +kernel, pq9_5 _ (by decide +kernel), tyOK_2a _⟩
theorem f_106_15 : FldAt 106 15 6 1 := ⟨gw2 4 rfl rfl, ly_6_1, kr9_6.1, kr9_6.2, by decide +kernel, pq9_6 _ (by decide +kernel), tyOK_2o _⟩
theorem f_106_19 : FldAt 106 19 6 2 := ⟨gw2 5 rfl rfl, ly_6_2, kr9_6.1, kr9_6.2, by decide +kernel, pq9_6 _ (by decide +kernel), tyOK_2o _⟩
theorem f_106_9 : FldAt 106 9 6 0 := ⟨gw2 3 rfl rfl, ly_6_0, kr9_6.1, kr9_6.2, by decide +kernel, pq9_6 _ (by decide +kernel), tyOK_2o _⟩
theorem f_107_11 : FldAt 107 11 7 7 := ⟨gw2 75 rfl rfl, ly_7_7, kr9_7.1, kr9_7.2, by decide +kernel, pq9_7 _ (by decide +kernel), tyOK_2a _⟩
theorem f_107_17 : FldAt 107 17 7 10 := ⟨gw2 79 rfl rfl, ly_7_10, kr9_7.1, kr9_7.2, by decide +kernel, pq9_7 _ (by decide +kernel), tyOK_2a _⟩
theorem f_107_21 : FldAt 107 21 7 11 := ⟨gw2 80 rfl rfl, ly_7_11, kr9_7.1, kr9_7.2, by decide +kernel, pq9_7 _ (by decide +kernel), tyOK_2a _⟩
theorem f_107_24 : FldAt 107 24 7 12 := ⟨gw2 81 rfl rfl, ly_7_12, kr9_7.1, kr9_7.2, by decide +kernel, pq9_7 _ (by decide +kernel), tyOK_2a _⟩
theorem f_107_27 : FldAt 107 27 7 0 := ⟨gw2 65 rfl rfl, ly_7_0, kr9_7.1, kr9_7.2, by decide +kernel, pq9_7 _ (by decide +kernel), tyOK_2o _⟩
theorem f_107_31 : FldAt 107 31 7 1 := ⟨gw2 66 rfl rfl, ly_7_1, kr9_7.1, kr9_7.2, by decide +kernel, pq9_7 _ (by decide +kernel), tyOK_2o _⟩
theorem f_107_35 : FldAt 107 35 7 2 := ⟨gw2 67 rfl rfl, ly_7_2, kr9_7.1, kr9_7.2, by decide +kernel, pq9_7 _ (by decide +kernel), tyOK_2o _⟩
theorem f_107_39 : FldAt 107 39 7 3 := ⟨gw2 68 rfl rfl, ly_7_3, kr9_7.1, kr9_7.2, by decide +kernel, pq9_7 _ (by decide +kernel), tyOK_2o _⟩
theorem f_108_11 : FldAt 108 11 8 2 := ⟨gw2 117 rfl rfl, ly_8_2, kr9_8.1, kr9_8.2, by decide +kernel, pq9_8 _ (by decide +kernel), tyOK_2a _⟩
theorem f_108_15 : FldAt 108 15 8 3 := ⟨gw2 118 rfl rfl, ly_8_3, kr9_8.1, kr9_8.2, by decide +kernel, pq9_8 _ (by decide +kernel), tyOK_2a _⟩
theorem f_108_18 : FldAt 108 18 8 4 := ⟨gw2 119 rfl rfl, ly_8_4, kr9_8.1, kr9_8.2, by decide +kernel, pq9_8 _ (by decide +kernel), tyOK_2a _⟩
theorem f_108_21 : FldAt 108 21 8 5 := ⟨gw2 122 rfl rfl, ly_8_5, kr9_8.1, kr9_8.2, by decide +kernel, pq9_8 _ (by decide +kernel), tyOK_2a _⟩
theorem f_108_24 : FldAt 108 24 8 0 := ⟨gw2 115 rfl rfl, ly_8_0, kr9_8.1, kr9_8.2, by decide +kernel, pq9_8 _ (by decide +kernel), tyOK_2o _⟩
theorem f_108_28 : FldAt 108 28 8 1 := ⟨gw2 116 rfl rfl, ly_8_1, kr9_8.1, kr9_8.2, by decide +kernel, pq9_8 _ (by decide +kernel), tyOK_2o _⟩
theorem f_109_15 : FldAt 109 15 9 4 := ⟨gw2 164 rfl rfl, ly_9_4, kr9_9.1, kr9_9.2, by decide +kernel, pq9_9 _ (by decide +kernel), tyOK_2a _⟩
theorem f_109_18 : FldAt 109 18 9 5 := ⟨gw2 165 rfl rfl, ly_9_5, kr9_9.1, kr9_9.2, by decide +kernel, pq9_9 _ (by decide +kernel), tyOK_2a _⟩
theorem f_109_21 : FldAt 109 21 9 6 := ⟨gw2 166 rfl rfl, ly_9_6, kr9_9.1, kr9_9.2, by decide +kernel, pq9_9 _ (by decide +kernel), tyOK_2a _⟩
theorem f_109_24 : FldAt 109 24 9 7 := ⟨gw2 167 rfl rfl, ly_9_7, kr9_9.1, kr9_9.2, by decide +kernel, pq9_9 _ (by decide +kernel), tyOK_2a _⟩
theorem f_109_27 : FldAt 109 27 9 0 := ⟨gw2 160 rfl rfl, ly_9_0, kr9_9.1, kr9_9.2, by decide +kernel, pq9_9 _ (by decide +kernel), tyOK_2o _⟩
theorem f_109_31 : FldAt 109 31 9 1 := ⟨gw2 161 rfl rfl, ly_9_1, kr9_9.1, kr9_9.2, by decide +kernel, pq9_9 _ (by decide +kernel), tyOK_2o _⟩
theorem f_109_35 : FldAt 109 35 9 2 := ⟨gw2 162 rfl rfl, ly_9_2, kr9_9.1, kr9_9.2, by decide +kernel, pq9_9 _ (by decide +kernel), tyOK_2o _⟩
theorem f_109_9 : FldAt 109 9 9 3 := ⟨gw2 163 rfl rfl, ly_9_3, kr9_9.1, kr9_9.2, by decide +kernel, pq9_9 _ (by decide +kernel), tyOK_2a _⟩
theorem f_10_15 : FldAt 10 15 10 5 := ⟨gw2 206 rfl rfl, ly_10_5, kr9_10.1, kr9_10.2, by decide +kernel, pq9_10 _ (by decide +kernel), tyOK_2a _⟩
theorem f_10_18 : FldAt 10 18 10 0 := ⟨gw2 201 rfl rfl, ly_10_0, kr9_10.1, kr9_10.2, by decide +kernel, pq9_10 _ (by decide +kernel), tyOK_2o _⟩
theorem f_10_22 : FldAt 10 22 10 1 := ⟨gw2 202 rfl rfl, ly_10_1, kr9_10.1, kr9_10.2, by decide +kernel, pq9_10 _ (by decide +kernel), tyOK_2o _⟩
theorem f_10_26 : FldAt 10 26 10 2 := ⟨gw2 203 rfl rfl, ly_10_2, kr9_10.1, kr9_10.2, by decide +kernel, pq9_10 _ (by decide +kernel), tyOK_2o _⟩
theorem f_10_30 : FldAt 10 30 10 3 := ⟨gw2 204 rfl rfl, ly_10_3, kr9_10.1, kr9_10.2, by decide +kernel, pq9_10 _ (by decide +kernel), tyOK_2o _⟩
theorem f_10_34 : FldAt 10 34 10 6 := ⟨gw2 208 rfl rfl, ly_10_6, kr9_10.1, kr9_10.2, by decide +kernel, pq9_10 _ (by decide +kernel), tyOK_0⟩
theorem f_10_38 : FldAt 10 38 4 3 := ⟨gw1 105 rfl rfl, ly_4_3, kr9_4.1, kr9_4.2, by decide +kernel, pq9_4 _ (by decide +kernel), tyOK_0⟩
theorem f_10_51 : FldAt 10 51 8 6 := ⟨gw2 128 rfl rfl, ly_8_6, kr9_8.1, kr9_8.2, by decide +kernel, pq9_8 _ (by decide +kernel), tyOK_0⟩
theorem f_10_62 : FldAt 10 62 5 11 := ⟨gw1 208 rfl rfl, ly_5_11, kr9_5.1, kr9_5.2, by decide +kernel, pq9_5 _ (by decide +kernel), tyOK_0⟩
theorem f_10_67 : FldAt 10 67 6 12 := ⟨gw2 26 rfl rfl, ly_6_12, kr9_6.1, kr9_6.2, by decide +kernel, pq9_6 _ (by decide +kernel), tyOK_0⟩
theorem f_10_71 : FldAt 10 71 8 5 := ⟨gw2 123 rfl rfl, ly_8_5, kr9_8.1, kr9_8.2, by decide +kernel, pq9_8 _ (by decide +kernel), tyOK_2a _⟩
theorem f_10_9 : FldAt 10 9 10 4 := ⟨gw2 205 rfl rfl, ly_10_4, kr9_10.1, kr9_10.2, by decide +kernel, pq9_10 _ (by decide +kernel), tyOK_2a _⟩
theorem f_110_15 : FldAt 110 15 10 5 := ⟨gw2 206 rfl rfl, ly_10_5, kr9_10.1, kr9_10.2, by decide +kernel, pq9_10 _ (by decide +kernel), tyOK_2a _⟩
theorem f_110_18 : FldAt 110 18 10 0 := ⟨gw2 201 rfl rfl, ly_10_0, kr9_10.1, kr9_10.2, by decide +kernel, pq9_10 _ (by decide +kernel), tyOK_2o _⟩
theorem f_110_22 : FldAt 110 22 10 1 := ⟨gw2 202 rfl rfl, ly_10_1, kr9_10.1, kr9_10.2, by decide +kernel, pq9_10 _ (by decide +kernel), tyOK_2o _⟩
theorem f_110_26 : FldAt 110 26 10 2 := ⟨gw2 203 rfl rfl, ly_10_2, kr9_10.1, kr9_10.2, by decide +kernel, pq9_10 _ (by decide +kernel), tyOK_2o _⟩
theorem f_110_30 : FldAt 110 30 10 3 := ⟨gw2 204 rfl rfl, ly_10_3, kr9_10.1, kr9_10.2, by decide +kernel, pq9_10 _ (by decide +kernel), tyOK_2o _⟩
theorem f_110_9 : FldAt 110 9 10 4 := ⟨gw2 205 rfl rfl, ly_10_4, kr9_10.1, kr9_10.2, by decide +kernel, pq9_10 _ (by decide +kernel), tyOK_2a _⟩
theorem f_111_15 : FldAt 111 15 11 5 := ⟨gw2 235 rfl rfl, ly_11_5, kr9_11.1, kr9_11.2, by decide +kernel, pq9_11 _ (by decide +kernel), tyOK_2a _⟩
theorem f_111_18 : FldAt 111 18 11 6 := ⟨gw2 236 rfl rfl, ly_11_6, kr9_11.1, kr9_11.2, by decide +kernel, pq9_11 _ (by decide +kernel), tyOK_2a _⟩
theorem f_111_21 : FldAt 111 21 11 7 := ⟨gw2 237 rfl rfl, ly_11_7, kr9_11.1, kr9_11.2, by decide +kernel, pq9_11 _ (by decide +kernel), tyOK_2a _⟩
theorem f_111_24 : FldAt 111 24 11 8 := ⟨gw2 238 rfl rfl, ly_11_8, kr9_11.1, kr9_11.2, by decide +kernel, pq9_11 _ (by decide +kernel), tyOK_2a _⟩
theorem f_111_27 : FldAt 111 27 11 0 := ⟨gw2 230 rfl rfl, ly_11_0, kr9_11.1, kr9_11.2, by decide +kernel, pq9_11 _ (by decide +kernel), tyOK_2o _⟩
theorem f_111_31 : FldAt 111 31 11 1 := ⟨gw2 231 rfl rfl, ly_11_1, kr9_11.1, kr9_11.2, by decide +kernel, pq9_11 _ (by decide +kernel), tyOK_2o _⟩
theorem f_111_35 : FldAt 111 35 11 2 := ⟨gw2 232 rfl rfl, ly_11_2, kr9_11.1, kr9_11.2, by decide +kernel, pq9_11 _ (by decide +kernel), tyOK_2o _⟩
theorem f_111_39 : FldAt 111 39 11 3 := ⟨gw2 233 rfl rfl, ly_11_3, kr9_11.1, kr9_11.2, by decide +kernel, pq9_11 _ (by decide +kernel), tyOK_2o _⟩
theorem f_111_9 : FldAt 111 9 11 4 := ⟨gw2 234 rfl rfl, ly_11_4, kr9_11.1, kr9_11.2, by decide +kernel, pq9_11 _ (by decide +kernel), tyOK_2a _⟩
theorem f_112_15 : FldAt 112 15 12 3 := ⟨gw3 41 rfl rfl, ly_12_3, kr9_12.1, kr9_12.2, by decide +kernel, pq9_12 _ (by decide +kernel), tyOK_2a _⟩
theorem f_112_18 : FldAt 112 18 12 5 := ⟨gw3 44 rfl rfl, ly_12_5, kr9_12.1, kr9_12.2, by decide +kernel, pq9_12 _ (by decide +kernel), tyOK_2a _⟩
theorem f_112_21 : FldAt 112 21 12 6 := ⟨gw3 45 rfl rfl, ly_12_6, kr9_12.1, kr9_12.2, by decide +kernel, pq9_12 _ (by decide +kernel), tyOK_2a _⟩
theorem f_112_24 : FldAt 112 24 12 7 := ⟨gw3 46 rfl rfl, ly_12_7, kr9_12.1, kr9_12.2, by decide +kernel, pq9_12 _ (by decide +kernel), tyOK_2a _⟩
theorem f_112_27 : FldAt 112 27 12 0 := ⟨gw3 38 rfl rfl, ly_12_0, kr9_12.1, kr9_12.2, by decide +kernel, pq9_12 _ (by decide +kernel), tyOK_2o _⟩
theorem f_112_31 : FldAt 112 31 12 1 := ⟨gw3 39 rfl rfl, ly_12_1, kr9_12.1, kr9_12.2, by decide +kernel, pq9_12 _ (by decide +kernel), tyOK_2o _⟩
theorem f_112_9 : FldAt 112 9 12 2 := ⟨gw3 40 rfl rfl, ly_12_2, kr9_12.1, kr9_12.2, by decide +kernel, pq9_12 _ (by decide +kernel), tyOK_2a _⟩
theorem f_113_102 : FldAt 113 102 13 61 := ⟨gw6 232 rfl rfl, ly_13_61, kr9_13.1, kr9_13.2, by decide +kernel, pq9_13 _ (by decide +kernel), tyOK_2a _⟩
theorem f_113_105 : FldAt 113 105 13 63 := ⟨gw6 234 rfl rfl, ly_13_63, kr9_13.1, kr9_13.2, by decide +kernel, pq9_13 _ (by decide +kernel), tyOK_2a _⟩
theorem f_113_108 : FldAt 113 108 13 64 := ⟨gw6 235 rfl rfl, ly_13_64, kr9_13.1, kr9_13.2, by decide +kernel, pq9_13 _ (by decide +kernel), tyOK_2a _⟩
theorem f_113_111 : FldAt 113 111 13 67 := ⟨gw6 238 rfl rfl, ly_13_67, kr9_13.1, kr9_13.2, by decide +kernel, pq9_13 _ (by decide +kernel), tyOK_2a _⟩
theorem f_113_114 : FldAt 113 114 13 68 := ⟨gw6 239 rfl rfl, ly_13_68, kr9_13.1, kr9_13.2, by decide +kernel, pq9_13 _ (by decide +kernel), tyOK_2a _⟩
theorem f_113_117 : FldAt 113 117 13 69 := ⟨gw7 0 rfl rfl, ly_13_69, kr9_13.1, kr9_13.2, by decide +kernel, pq9_13 _ (by decide +kernel), tyOK_2a _⟩
theorem f_113_120 : FldAt 113 120 13 70 := ⟨gw7 1 rfl rfl, ly_13_70, kr9_13.1, kr9_13.2, by decide +kernel, pq9_13 _ (by decide +kernel), tyOK_2a _⟩
theorem f_113_123 : FldAt 113 123 13 71 := ⟨gw7 2 rfl rfl, ly_13_71, kr9_13.1, kr9_13.2, by decide +kernel, pq9_13 _ (by decide +kernel), tyOK_2a _⟩
theorem f_113_13 : FldAt 113 13 13 8 := ⟨gw6 179 rfl rfl, ly_13_8, kr9_13.1, kr9_13.2, by decide +kernel, pq9_13 _ (by decide +kernel), tyOK_2a _⟩
theorem f_113_17 : FldAt 113 17 13 9 := ⟨gw6 180 rfl rfl, ly_13_9, kr9_13.1, kr9_13.2, by decide +kernel, pq9_13 _ (by decide +kernel), tyOK_2a _⟩
theorem f_113_20 : FldAt 113 20 13 10 := ⟨gw6 181 rfl rfl, ly_13_10, kr9_13.1, kr9_13.2, by decide +kernel, pq9_13 _ (by decide +kernel), tyOK_2a _⟩
theorem f_113_23 : FldAt 113 23 13 11 := ⟨gw6 182 rfl rfl, ly_13_11, kr9_13.1, kr9_13.2, by decide +kernel, pq9_13 _ (by decide +kernel), tyOK_2a _⟩
theorem f_113_26 : FldAt 113 26 13 12 := ⟨gw6 183 rfl rfl, ly_13_12, kr9_13.1, kr9_13.2, by decide +kernel, pq9_13 _ (by decide +kernel), tyOK_2a _⟩
theorem f_113_30 : FldAt 113 30 13 13 := ⟨gw6 184 rfl rfl, ly_13_13, kr9_13.1, kr9_13.2, by decide +kernel, pq9_13 _ (by decide +kernel), tyOK_2a _⟩
theorem f_113_33 : FldAt 113 33 13 14 := ⟨gw6 185 rfl rfl, ly_13_14, kr9_13.1, kr9_13.2, by decide +kernel, pq9_13 _ (by decide +kernel), tyOK_2a _⟩
theorem f_113_36 : FldAt 113 36 13 15 := ⟨gw6 186 rfl rfl, ly_13_15, kr9_13.1, kr9_13.2, by decide +kernel, pq9_13 _ (by decide +kernel), tyOK_2a _⟩
theorem f_113_39 : FldAt 113 39 13 16 := ⟨gw6 187 rfl rfl, ly_13_16, kr9_13.1, kr9_13.2, by decide +kernel, pq9_13 _ (by decide +kernel), tyOK_2a _⟩
theorem f_113_42 : FldAt 113 42 13 17 := ⟨gw6 188 rfl rfl, ly_13_17, kr9_13.1, kr9_13.2, by decide +kernel, pq9_13 _ (by decide +kernel), tyOK_2a _⟩
