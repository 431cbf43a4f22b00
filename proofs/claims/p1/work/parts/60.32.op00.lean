set_option maxRecDepth 100000 in
theorem op_0_0 : cAll 0 [] 43 [(5, 0)] [cX, cX, cX, cX, cX] = true := by decide +kernel
theorem op_0 : cGood 0 [cX, cX, cX, cX, cX] := cAll_ok op_0_0
set_option maxRecDepth 100000 in
theorem op_1_0 : cAll 1 [] 44 [(5, 0)] [cX, cX, cX, cX, cX] = true := by decide +kernel
theorem op_1 : cGood 1 [cX, cX, cX, cX, cX] := cAll_ok op_1_0
set_option maxRecDepth 100000 in
theorem op_2_0 : cAll 2 [] 44 [(5, 0)] [cX, cX, cX, cX, cX] = true := by decide +kernel
theorem op_2 : cGood 2 [cX, cX, cX, cX, cX] := cAll_ok op_2_0
set_option maxRecDepth 100000 in
theorem op_4_0 : cAll 4 [] 170 [(0, (-1)), (5, 0), (0, 3), (0, 1), (0, 0), (5, 0), (5, 0), (0, 2), (5, 0), (5, 0), (5, 0)] [cX, cX, cX, cX, cX] = true := by decide +kernel
theorem op_4 : cGood 4 [cX, cX, cX, cX, cX] := cAll_ok op_4_0
set_option maxRecDepth 100000 in
theorem op_5_0 : cAll 5 [] 132 [(0, (-1)), (5, 0), (0, 3), (0, 1), (0, 0), (5, 0), (5, 0), (0, 2), (5, 0), (5, 0), (5, 0)] [cX, cX, cX, cX, cX] = true := by decide +kernel
theorem op_5 : cGood 5 [cX, cX, cX, cX, cX] := cAll_ok op_5_0
set_option maxRecDepth 100000 in
theorem op_6_0 : cAll 6 [] 187 [(0, (-1)), (5, 0), (0, 3), (2, (-1)), (5, 0), (2, 3), (1, (-1)), (5, 0), (3, (-1)), (5, 0), (4, (-1)), (5, 0), (0, 1), (0, 0), (5, 0), (5, 0), (0, 2), (5, 0), (5, 0), (5, 0), (5, 0)] [cX, cX, cX, cX, cX] = true := by decide +kernel
theorem op_6 : cGood 6 [cX, cX, cX, cX, cX] := cAll_ok op_6_0
set_option maxRecDepth 100000 in
theorem op_7_0 : cAll 7 [] 1045 [(5, 0)] [cX, cX, cX, cX, cX] = true := by decide +kernel
theorem op_7 : cGood 7 [cX, cX, cX, cX, cX] := cAll_ok op_7_0
set_option maxRecDepth 100000 in
theorem op_10_0 : cAll 10 [] 65 [(0, 0), (0, (-1)), (5, 0), (5, 0), (0, 1), (5, 0), (5, 0)] [cX, cX, cX, cX, cX] = true := by decide +kernel
theorem op_10 : cGood 10 [cX, cX, cX, cX, cX] := cAll_ok op_10_0
set_option maxRecDepth 100000 in
theorem op_11_0 : cAll 11 [] 4066 [(0, (-1)), (5, 0), (0, 13), (0, 0), (5, 0), (0, 1), (5, 0), (0, 2), (5, 0), (0, 3), (5, 0), (0, 4), (5, 0), (0, 5), (5, 0), (0, 6), (5, 0), (0, 7), (5, 0), (0, 8), (5, 0), (0, 9), (5, 0), (0, 10), (5, 0), (0, 11), (5, 0), (0, 12), (5, 0), (5, 0), (5, 0)] [cX, cX, cX, cX, cX] = true := by decide +kernel
theorem op_11 : cGood 11 [cX, cX, cX, cX, cX] := cAll_ok op_11_0
set_option maxRecDepth 100000 in
theorem op_12_0 : cAll 12 [] 105 [(0, (-1)), (5, 0), (5, 0)] [cX, cX, cX, cX, cX] = true := by decide +kernel
theorem op_12 : cGood 12 [cX, cX, cX, cX, cX] := cAll_ok op_12_0
set_option maxRecDepth 100000 in
theorem op_13_0 : cAll 13 [] 105 [(0, (-1)), (5, 0), (5, 0)] [cX, cX, cX, cX, cX] = true := by decide +kernel
theorem op_13 : cGood 13 [cX, cX, cX, cX, cX] := cAll_ok op_13_0
set_option maxRecDepth 100000 in
theorem op_14_0 : cAll 14 [] 111 [(0, (-1)), (5, 0), (5, 0)] [cX, cX, cX, cX, cX] = true := by decide +kernel
theorem op_14 : cGood 14 [cX, cX, cX, cX, cX] := cAll_ok op_14_0
set_option maxRecDepth 100000 in
theorem op_15_0 : cAll 15 [] 112 [(0, (-1)), (5, 0), (5, 0)] [cX, cX, cX, cX, cX] = true := by decide +kernel
theorem op_15 : cGood 15 [cX, cX, cX, cX, cX] := cAll_ok op_15_0
set_option maxRecDepth 100000 in
theorem op_16_0 : cAll 16 [] 111 [(0, (-1)), (5, 0), (5, 0)] [cX, cX, cX, cX, cX] = true := by decide +kernel
theorem op_16 : cGood 16 [cX, cX, cX, cX, cX] := cAll_ok op_16_0
set_option maxRecDepth 100000 in
theorem op_17_0 : cAll 17 [] 100 [(0, (-1)), (5, 0), (5, 0)] [cX, cX, cX, cX, cX] = true := by decide +kernel
theorem op_17 : cGood 17 [cX, cX, cX, cX, cX] := cAll_ok op_17_0
set_option maxRecDepth 100000 in
theorem op_18_0 : cAll 18 [] 100 [(0, 0), (5, 0), (5, 0)] [cX, cX, cX, cX, cX] = true := by decide +kernel
theorem op_18 : cGood 18 [cX, cX, cX, cX, cX] := cAll_ok op_18_0
set_option maxRecDepth 100000 in
theorem op_19_0 : cAll 19 [] 100 [(0, (-1)), (5, 0), (5, 0)] [cX, cX, cX, cX, cX] = true := by decide +kernel
theorem op_19 : cGood 19 [cX, cX, cX, cX, cX] := cAll_ok op_19_0
set_option maxRecDepth 100000 in
theorem op_20_0 : cAll 20 [] 110 [(0, (-1)), (5, 0), (5, 0)] [cX, cX, cX, cX, cX] = true := by decide +kernel
theorem op_20 : cGood 20 [cX, cX, cX, cX, cX] := cAll_ok op_20_0
set_option maxRecDepth 100000 in
theorem op_22_0 : cAll 22 [] 110 [(0, 0), (5, 0), (5, 0)] [cX, cX, cX, cX, cX] = true := by decide +kernel
theorem op_22 : cGood 22 [cX, cX, cX, cX, cX] := cAll_ok op_22_0
set_option maxRecDepth 100000 in
theorem op_23_0 : cAll 23 [] 110 [(0, (-1)), (5, 0), (5, 0)] [cX, cX, cX, cX, cX] = true := by decide +kernel
theorem op_23 : cGood 23 [cX, cX, cX, cX, cX] := cAll_ok op_23_0
set_option maxRecDepth 100000 in
theorem op_24_0 : cAll 24 [] 110 [(0, (-1)), (5, 0), (5, 0)] [cX, cX, cX, cX, cX] = true := by decide +kernel
theorem op_24 : cGood 24 [cX, cX, cX, cX, cX] := cAll_ok op_24_0
set_option maxRecDepth 100000 in
theorem op_25_0 : cAll 25 [] 157 [(0, (-1)), (5, 0), (0, 99), (1, (-1)), (5, 0), (1, 20), (5, 0), (5, 0), (5, 0)] [cX, cX, cX, cX, cX] = true := by decide +kernel
theorem op_25 : cGood 25 [cX, cX, cX, cX, cX] := cAll_ok op_25_0
set_option maxRecDepth 100000 in
theorem op_26_0 : cAll 26 [] 123 [(2, 0), (2, (-1)), (0, (-1)), (5, 0), (5, 0), (0, (-1)), (5, 0), (5, 0), (0, (-1)), (5, 0), (5, 0)] [cX, cX, cX, cX, cX] = true := by decide +kernel
theorem op_26 : cGood 26 [cX, cX, cX, cX, cX] := cAll_ok op_26_0
set_option maxRecDepth 100000 in
theorem op_27_0 : cAll 27 [] 123 [(0, (-1)), (5, 0), (5, 0)] [cX, cX, cX, cX, cX] = true := by decide +kernel
theorem op_27 : cGood 27 [cX, cX, cX, cX, cX] := cAll_ok op_27_0
set_option maxRecDepth 100000 in
theorem op_28_0 : cAll 28 [] 123 [(0, (-1)), (5, 0), (5, 0)] [cX, cX, cX, cX, cX] = true := by decide +kernel
theorem op_28 : cGood 28 [cX, cX, cX, cX, cX] := cAll_ok op_28_0
set_option maxRecDepth 100000 in
theorem op_31_0 : cAll 31 [] 111 [(0, (-1)), (5, 0), (5, 0)] [cX, cX, cX, cX, cX] = true := by decide +kernel
theorem op_31 : cGood 31 [cX, cX, cX, cX, cX] := cAll_ok op_31_0
set_option maxRecDepth 100000 in
theorem op_32_0 : cAll 32 [] 115 [(0, (-1)), (5, 0), (5, 0)] [cX, cX, cX, cX, cX] = true := by decide +kernel
theorem op_32 : cGood 32 [cX, cX, cX, cX, cX] := cAll_ok op_32_0
set_option maxRecDepth 100000 in
theorem op_34_0 : cAll 34 [] 101 [(0, (-1)), (5, 0), (5, 0)] [cX, cX, cX, cX, cX] = true := by decide +kernel
theorem op_34 : cGood 34 [cX, cX, cX, cX, cX] := cAll_ok op_34_0
set_option maxRecDepth 100000 in
theorem op_35_0 : cAll 35 [] 101 [(0, (-1)), (5, 0), (5, 0)] [cX, cX, cX, cX, cX] = true := by decide +kernel
theorem op_35 : cGood 35 [cX, cX, cX, cX, cX] := cAll_ok op_35_0
set_option maxRecDepth 100000 in
theorem op_36_0 : cAll 36 [] 111 [(0, (-1)), (5, 0), (5, 0)] [cX, cX, cX, cX, cX] = true := by decide +kernel
theorem op_36 : cGood 36 [cX, cX, cX, cX, cX] := cAll_ok op_36_0
set_option maxRecDepth 100000 in
theorem op_37_0 : cAll 37 [] 111 [(0, (-1)), (5, 0), (5, 0)] [cX, cX, cX, cX, cX] = true := by decide +kernel
theorem op_37 : cGood 37 [cX, cX, cX, cX, cX] := cAll_ok op_37_0
set_option maxRecDepth 100000 in
theorem op_38_0 : cAll 38 [] 101 [(0, (-1)), (5, 0), (5, 0)] [cX, cX, cX, cX, cX] = true := by decide +kernel
theorem op_38 : cGood 38 [cX, cX, cX, cX, cX] := cAll_ok op_38_0
set_option maxRecDepth 100000 in
theorem op_39_0 : cAll 39 [] 7814 [(5, 0)] [cX, cX, cX, cX, cX] = true := by decide +kernel
theorem op_39 : cGood 39 [cX, cX, cX, cX, cX] := cAll_ok op_39_0
set_option maxRecDepth 100000 in
theorem op_40_0 : cAll 40 [] 111 [(0, (-1)), (5, 0), (5, 0)] [cX, cX, cX, cX, cX] = true := by decide +kernel
theorem op_40 : cGood 40 [cX, cX, cX, cX, cX] := cAll_ok op_40_0
set_option maxRecDepth 100000 in
theorem op_44_0 : cAll 44 [] 118 [(0, (-1)), (5, 0), (5, 0)] [cX, cX, cX, cX, cX] = true := by decide +kernel
theorem op_44 : cGood 44 [cX, cX, cX, cX, cX] := cAll_ok op_44_0
set_option maxRecDepth 100000 in
theorem op_45_0 : cAll 45 [] 118 [(0, (-1)), (5, 0), (5, 0)] [cX, cX, cX, cX, cX] = true := by decide +kernel
theorem op_45 : cGood 45 [cX, cX, cX, cX, cX] := cAll_ok op_45_0
set_option maxRecDepth 100000 in
theorem op_47_0 : cAll 47 [] 100 [(0, (-1)), (5, 0), (5, 0)] [cX, cX, cX, cX, cX] = true := by decide +kernel
theorem op_47 : cGood 47 [cX, cX, cX, cX, cX] := cAll_ok op_47_0
set_option maxRecDepth 100000 in
theorem op_48_0 : cAll 48 [] 100 [(0, (-1)), (5, 0), (5, 0)] [cX, cX, cX, cX, cX] = true := by decide +kernel
theorem op_48 : cGood 48 [cX, cX, cX, cX, cX] := cAll_ok op_48_0
set_option maxRecDepth 100000 in
theorem op_49_0 : cAll 49 [] 212 [(2, 0), (5, 0), (2, 4), (0, (-1)), (5, 0), (0, 3), (1, 0), (5, 0), (1, 20), (0, 1), (0, 0), (5, 0), (5, 0), (0, 2), (5, 0), (5, 0), (5, 0), (5, 0), (5, 0)] [cX, cX, cX, cX, cX] = true := by decide +kernel
theorem op_49 : cGood 49 [cX, cX, cX, cX, cX] := cAll_ok op_49_0
set_option maxRecDepth 100000 in
theorem op_50_0 : cAll 50 [] 256 [(2, 0), (5, 0), (2, 4), (3, (-1)), (5, 0), (2, 2), (2, 1), (3, 0), (0, (-1)), (5, 0), (0, 3), (1, 0), (5, 0), (1, 20), (0, 1), (0, 0), (5, 0), (5, 0), (0, 2), (5, 0), (5, 0), (5, 0), (5, 0), (5, 0), (3, 1), (0, (-1)), (5, 0), (0, 3), (1, 0), (5, 0), (1, 20), (0, 1), (0, 0), (5, 0), (5, 0), (0, 2), (5, 0), (5, 0), (5, 0), (5, 0), (5, 0), (2, 3), (3, 2), (0, (-1)), (5, 0), (0, 3), (1, 0), (5, 0), (1, 20), (0, 1), (0, 0), (5, 0), (5, 0), (0, 2), (5, 0), (5, 0), (5, 0), (5, 0), (5, 0), (3, 3), (0, (-1)), (5, 0), (0, 3), (1, 0), (5, 0), (1, 20), (0, 1), (0, 0), (5, 0), (5, 0), (0, 2), (5, 0), (5, 0), (5, 0), (5, 0), (5, 0), (5, 0)] [cX, cX, cX, cX, cX] = true := by decide +kernel
theorem op_50 : cGood 50 [cX, cX, cX, cX, cX] := cAll_ok op_50_0
set_option maxRecDepth 100000 in
theorem op_51_0 : cAll 51 [] 173 [(0, (-1)), (5, 0), (0, 3), (1, 0), (5, 0), (1, 20), (0, 1), (0, 0), (5, 0), (5, 0), (0, 2), (5, 0), (5, 0), (5, 0), (5, 0)] [cX, cX, cX, cX, cX] = true := by decide +kernel
theorem op_51 : cGood 51 [cX, cX, cX, cX, cX] := cAll_ok op_51_0
set_option maxRecDepth 100000 in
theorem op_52_0 : cAll 52 [] 121 [(0, (-1)), (5, 0), (5, 0)] [cX, cX, cX, cX, cX] = true := by decide +kernel
theorem op_52 : cGood 52 [cX, cX, cX, cX, cX] := cAll_ok op_52_0
set_option maxRecDepth 100000 in
theorem op_53_0 : cAll 53 [] 140 [(0, (-1)), (5, 0), (5, 0)] [cX, cX, cX, cX, cX] = true := by decide +kernel
theorem op_53 : cGood 53 [cX, cX, cX, cX, cX] := cAll_ok op_53_0
set_option maxRecDepth 100000 in
theorem op_54_0 : cAll 54 [] 117 [(0, (-1)), (5, 0), (5, 0)] [cX, cX, cX, cX, cX] = true := by decide +kernel
theorem op_54 : cGood 54 [cX, cX, cX, cX, cX] := cAll_ok op_54_0
set_option maxRecDepth 100000 in
theorem op_55_0 : cAll 55 [] 107 [(0, (-1)), (5, 0), (0, 9999), (5, 0), (5, 0)] [cX, cX, cX, cX, cX] = true := by decide +kernel
theorem op_55 : cGood 55 [cX, cX, cX, cX, cX] := cAll_ok op_55_0
set_option maxRecDepth 100000 in
theorem op_56_0 : cAll 56 [] 90 [(0, (-1)), (5, 0), (0, 4), (5, 0), (5, 0)] [cX, cX, cX, cX, cX] = true := by decide +kernel
theorem op_56 : cGood 56 [cX, cX, cX, cX, cX] := cAll_ok op_56_0
set_option maxRecDepth 100000 in
theorem op_57_0 : cAll 57 [((-1), 9999), (0, 10000), (10001, 10030), (10000, 10029)] 161 [(1, 0), (0, (-1)), (5, 0), (0, 9999), (5, 0), (5, 0), (1, 20), (0, (-1)), (5, 0), (1, 10), (1, 5), (1, 3), (1, 2), (1, 1), (0, 9999), (5, 0), (5, 0), (0, 9998), (5, 0), (0, 9999), (5, 0), (5, 0), (0, 9997), (5, 0), (0, 9999), (5, 0), (5, 0), (1, 4), (0, 9996), (5, 0), (0, 9999), (5, 0), (5, 0), (0, 9995), (5, 0), (0, 9999), (5, 0), (5, 0), (1, 8), (1, 7), (1, 6), (0, 9994), (5, 0), (0, 9999), (5, 0), (5, 0), (0, 9993), (5, 0), (0, 9999), (5, 0), (5, 0), (0, 9992), (5, 0), (0, 9999), (5, 0), (5, 0), (1, 9), (0, 9991), (5, 0), (0, 9999), (5, 0), (5, 0), (0, 9990), (5, 0), (0, 9999), (5, 0), (5, 0), (1, 15), (1, 13), (1, 12), (1, 11), (0, 9989), (5, 0), (0, 9999), (5, 0), (5, 0), (0, 9988), (5, 0), (0, 9999), (5, 0), (5, 0), (0, 9987), (5, 0), (0, 9999), (5, 0), (5, 0), (1, 14), (0, 9986), (5, 0), (0, 9999), (5, 0), (5, 0), (0, 9985), (5, 0), (0, 9999), (5, 0), (5, 0), (1, 18), (1, 17), (1, 16), (0, 9984), (5, 0), (0, 9999), (5, 0), (5, 0), (0, 9983), (5, 0), (0, 9999), (5, 0), (5, 0), (0, 9982), (5, 0), (0, 9999), (5, 0), (5, 0), (1, 19), (0, 9981), (5, 0), (0, 9999), (5, 0), (5, 0), (0, 9980), (5, 0), (0, 9999), (5, 0), (5, 0), (0, (-1)), (5, 0), (0, 9999), (5, 0), (5, 0)] [cX, cX, cX, cX, cX] = true := by decide +kernel
theorem op_57 : cGood 57 [cX, cX, cX, cX, cX] := cAll_ok op_57_0
set_option maxRecDepth 100000 in
theorem op_59_0 : cAll 59 [] 62 [(5, 0)] [cX, cX, cX, cX, cX] = true := by decide +kernel
theorem op_59 : cGood 59 [cX, cX, cX, cX, cX] := cAll_ok op_59_0
set_option maxRecDepth 100000 in
theorem op_60_0 : cAll 60 [] 32 [(5, 0)] [cX, cX, cX, cX, cX] = true := by decide +kernel
theorem op_60 : cGood 60 [cX, cX, cX, cX, cX] := cAll_ok op_60_0
set_option maxRecDepth 100000 in
theorem op_61_0 : cAll 61 [] 32 [(5, 0)] [cX, cX, cX, cX, cX] = true := by decide +kernel
theorem op_61 : cGood 61 [cX, cX, cX, cX, cX] := cAll_ok op_61_0
set_option maxRecDepth 100000 in
theorem op_62_0 : cAll 62 [] 32 [(5, 0)] [cX, cX, cX, cX, cX] = true := by decide +kernel
theorem op_62 : cGood 62 [cX, cX, cX, cX, cX] := cAll_ok op_62_0
set_option maxRecDepth 100000 in
theorem op_63_0 : cAll 63 [] 32 [(5, 0)] [cX, cX, cX, cX, cX] = true := by decide +kernel
theorem op_63 : cGood 63 [cX, cX, cX, cX, cX] := cAll_ok op_63_0
