set_option maxRecDepth 100000 in
theorem op_21_11 : cAll 21 [] 4714 [(0, 74), (0, 73), (5, 0), (5, 0), (5, 0)] [(73, 75), cX, cX, cX, cX] = true := by decide +kernel
set_option maxRecDepth 100000 in
theorem op_21_12 : cAll 21 [] 4897 [(0, 77), (0, 76), (5, 0), (5, 0), (5, 0)] [(76, 78), cX, cX, cX, cX] = true := by decide +kernel
set_option maxRecDepth 100000 in
theorem op_21_13 : cAll 21 [] 5080 [(0, 80), (0, 79), (5, 0), (5, 0), (5, 0)] [(79, 81), cX, cX, cX, cX] = true := by decide +kernel
set_option maxRecDepth 100000 in
theorem op_21_14 : cAll 21 [] 5263 [(0, 83), (0, 82), (5, 0), (5, 0), (5, 0)] [(82, 84), cX, cX, cX, cX] = true := by decide +kernel
set_option maxRecDepth 100000 in
theorem op_21_15 : cAll 21 [] 5446 [(0, 86), (0, 85), (5, 0), (5, 0), (5, 0)] [(85, 87), cX, cX, cX, cX] = true := by decide +kernel
set_option maxRecDepth 100000 in
theorem op_21_16 : cAll 21 [] 5629 [(0, 89), (0, 88), (5, 0), (5, 0), (5, 0)] [(88, 90), cX, cX, cX, cX] = true := by decide +kernel
set_option maxRecDepth 100000 in
theorem op_21_17 : cAll 21 [] 5812 [(0, 92), (0, 91), (5, 0), (5, 0), (5, 0)] [(91, 93), cX, cX, cX, cX] = true := by decide +kernel
set_option maxRecDepth 100000 in
theorem op_21_18 : cAll 21 [] 5995 [(0, 95), (0, 94), (5, 0), (5, 0), (5, 0)] [(94, 96), cX, cX, cX, cX] = true := by decide +kernel
set_option maxRecDepth 100000 in
theorem op_21_19 : cAll 21 [] 6178 [(0, 98), (0, 97), (5, 0), (5, 0), (5, 0)] [(97, 99), cX, cX, cX, cX] = true := by decide +kernel
set_option maxRecDepth 100000 in
theorem op_21_20 : cAll 21 [] 94 [(5, 0)] [(100, 2147483647), cX, cX, cX, cX] = true := by decide +kernel
theorem op_21 : cGood 21 [cX, cX, cX, cX, cX] := cGood_cut (j := 0) (c := 0) rfl (cAll_ok op_21_0) (cGood_cut (j := 0) (c := 99) rfl (cGood_cut (j := 0) (c := 50) rfl (cGood_cut (j := 0) (c := 25) rfl (cAll_ok op_21_1) (cGood_cut (j := 0) (c := 38) rfl (cGood_cut (j := 0) (c := 32) rfl (cAll_ok op_21_2) (cAll_ok op_21_3)) (cGood_cut (j := 0) (c := 44) rfl (cAll_ok op_21_4) (cAll_ok op_21_5)))) (cGood_cut (j := 0) (c := 75) rfl (cGood_cut (j := 0) (c := 63) rfl (cGood_cut (j := 0) (c := 57) rfl (cAll_ok op_21_6) (cAll_ok op_21_7)) (cGood_cut (j := 0) (c := 69) rfl (cGood_cut (j := 0) (c := 66) rfl (cAll_ok op_21_8) (cAll_ok op_21_9)) (cGood_cut (j := 0) (c := 72) rfl (cAll_ok op_21_10) (cAll_ok op_21_11)))) (cGood_cut (j := 0) (c := 87) rfl (cGood_cut (j := 0) (c := 81) rfl (cGood_cut (j := 0) (c := 78) rfl (cAll_ok op_21_12) (cAll_ok op_21_13)) (cGood_cut (j := 0) (c := 84) rfl (cAll_ok op_21_14) (cAll_ok op_21_15))) (cGood_cut (j := 0) (c := 93) rfl (cGood_cut (j := 0) (c := 90) rfl (cAll_ok op_21_16) (cAll_ok op_21_17)) (cGood_cut (j := 0) (c := 96) rfl (cAll_ok op_21_18) (cAll_ok op_21_19)))))) (cAll_ok op_21_20))
set_option maxRecDepth 100000 in
theorem op_30_0 : cAll 30 [] 92 [(5, 0)] [((-2147483648), (-1)), cX, cX, cX, cX] = true := by decide +kernel
set_option maxRecDepth 100000 in
theorem op_30_1 : cAll 30 [] 898 [(0, 12), (0, 6), (0, 3), (0, 1), (0, 0), (5, 0), (5, 0), (0, 2), (5, 0), (5, 0), (0, 5), (0, 4), (5, 0), (5, 0), (5, 0), (0, 9), (0, 8), (0, 7), (5, 0), (5, 0), (5, 0), (0, 11), (0, 10), (5, 0), (5, 0), (5, 0), (0, 19), (0, 16), (0, 14), (0, 13), (5, 0), (5, 0), (0, 15), (5, 0), (5, 0), (0, 18), (0, 17), (5, 0), (5, 0), (5, 0), (0, 22), (0, 21), (0, 20), (5, 0), (5, 0), (5, 0), (0, 24), (0, 23), (5, 0), (5, 0), (5, 0)] [(0, 25), cX, cX, cX, cX] = true := by decide +kernel
set_option maxRecDepth 100000 in
theorem op_30_2 : cAll 30 [] 1288 [(0, 32), (0, 29), (0, 27), (0, 26), (5, 0), (5, 0), (0, 28), (5, 0), (5, 0), (0, 31), (0, 30), (5, 0), (5, 0), (5, 0), (0, 35), (0, 34), (0, 33), (5, 0), (5, 0), (5, 0), (0, 37), (0, 36), (5, 0), (5, 0), (5, 0)] [(26, 38), cX, cX, cX, cX] = true := by decide +kernel
set_option maxRecDepth 100000 in
theorem op_30_3 : cAll 30 [] 1648 [(0, 44), (0, 41), (0, 40), (0, 39), (5, 0), (5, 0), (5, 0), (0, 43), (0, 42), (5, 0), (5, 0), (5, 0), (0, 47), (0, 46), (0, 45), (5, 0), (5, 0), (5, 0), (0, 49), (0, 48), (5, 0), (5, 0), (5, 0)] [(39, 50), cX, cX, cX, cX] = true := by decide +kernel
set_option maxRecDepth 100000 in
theorem op_30_4 : cAll 30 [] 2038 [(0, 57), (0, 54), (0, 52), (0, 51), (5, 0), (5, 0), (0, 53), (5, 0), (5, 0), (0, 56), (0, 55), (5, 0), (5, 0), (5, 0), (0, 60), (0, 59), (0, 58), (5, 0), (5, 0), (5, 0), (0, 62), (0, 61), (5, 0), (5, 0), (5, 0)] [(51, 63), cX, cX, cX, cX] = true := by decide +kernel
set_option maxRecDepth 100000 in
theorem op_30_5 : cAll 30 [] 2218 [(0, 66), (0, 65), (0, 64), (5, 0), (5, 0), (5, 0), (0, 68), (0, 67), (5, 0), (5, 0), (5, 0)] [(64, 69), cX, cX, cX, cX] = true := by decide +kernel
set_option maxRecDepth 100000 in
theorem op_30_6 : cAll 30 [] 2398 [(0, 72), (0, 71), (0, 70), (5, 0), (5, 0), (5, 0), (0, 74), (0, 73), (5, 0), (5, 0), (5, 0)] [(70, 75), cX, cX, cX, cX] = true := by decide +kernel
