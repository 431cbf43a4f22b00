set_option maxRecDepth 100000 in
theorem op_33_0 : cAll 33 [] 92 [(5, 0)] [((-2147483648), (-1)), cX, cX, cX, cX] = true := by decide +kernel
set_option maxRecDepth 100000 in
theorem op_33_1 : cAll 33 [] 7809 [(5, 0)] [(0, 0), cX, cX, cX, cX] = true := by decide +kernel
set_option maxRecDepth 100000 in
theorem op_33_2 : cAll 33 [] 7856 [(5, 0)] [(1, 1), cX, cX, cX, cX] = true := by decide +kernel
set_option maxRecDepth 100000 in
theorem op_33_3 : cAll 33 [] 7903 [(5, 0)] [(2, 2), cX, cX, cX, cX] = true := by decide +kernel
set_option maxRecDepth 100000 in
theorem op_33_4 : cAll 33 [] 7950 [(5, 0)] [(3, 3), cX, cX, cX, cX] = true := by decide +kernel
set_option maxRecDepth 100000 in
theorem op_33_5 : cAll 33 [] 7997 [(5, 0)] [(4, 4), cX, cX, cX, cX] = true := by decide +kernel
set_option maxRecDepth 100000 in
theorem op_33_6 : cAll 33 [] 8044 [(5, 0)] [(5, 5), cX, cX, cX, cX] = true := by decide +kernel
set_option maxRecDepth 100000 in
theorem op_33_7 : cAll 33 [] 8091 [(5, 0)] [(6, 6), cX, cX, cX, cX] = true := by decide +kernel
set_option maxRecDepth 100000 in
theorem op_33_8 : cAll 33 [] 8138 [(5, 0)] [(7, 7), cX, cX, cX, cX] = true := by decide +kernel
set_option maxRecDepth 100000 in
theorem op_33_9 : cAll 33 [] 8185 [(5, 0)] [(8, 8), cX, cX, cX, cX] = true := by decide +kernel
set_option maxRecDepth 100000 in
theorem op_33_10 : cAll 33 [] 8232 [(5, 0)] [(9, 9), cX, cX, cX, cX] = true := by decide +kernel
set_option maxRecDepth 100000 in
theorem op_33_11 : cAll 33 [] 8279 [(5, 0)] [(10, 10), cX, cX, cX, cX] = true := by decide +kernel
set_option maxRecDepth 100000 in
theorem op_33_12 : cAll 33 [] 8326 [(5, 0)] [(11, 11), cX, cX, cX, cX] = true := by decide +kernel
set_option maxRecDepth 100000 in
theorem op_33_13 : cAll 33 [] 8373 [(5, 0)] [(12, 12), cX, cX, cX, cX] = true := by decide +kernel
set_option maxRecDepth 100000 in
theorem op_33_14 : cAll 33 [] 8420 [(5, 0)] [(13, 13), cX, cX, cX, cX] = true := by decide +kernel
set_option maxRecDepth 100000 in
theorem op_33_15 : cAll 33 [] 8467 [(5, 0)] [(14, 14), cX, cX, cX, cX] = true := by decide +kernel
set_option maxRecDepth 100000 in
theorem op_33_16 : cAll 33 [] 8514 [(5, 0)] [(15, 15), cX, cX, cX, cX] = true := by decide +kernel
set_option maxRecDepth 100000 in
theorem op_33_17 : cAll 33 [] 8561 [(5, 0)] [(16, 16), cX, cX, cX, cX] = true := by decide +kernel
set_option maxRecDepth 100000 in
theorem op_33_18 : cAll 33 [] 8608 [(5, 0)] [(17, 17), cX, cX, cX, cX] = true := by decide +kernel
set_option maxRecDepth 100000 in
theorem op_33_19 : cAll 33 [] 8655 [(5, 0)] [(18, 18), cX, cX, cX, cX] = true := by decide +kernel
set_option maxRecDepth 100000 in
theorem op_33_20 : cAll 33 [] 8702 [(5, 0)] [(19, 19), cX, cX, cX, cX] = true := by decide +kernel
set_option maxRecDepth 100000 in
theorem op_33_21 : cAll 33 [] 8749 [(5, 0)] [(20, 20), cX, cX, cX, cX] = true := by decide +kernel
set_option maxRecDepth 100000 in
theorem op_33_22 : cAll 33 [] 8796 [(5, 0)] [(21, 21), cX, cX, cX, cX] = true := by decide +kernel
set_option maxRecDepth 100000 in
theorem op_33_23 : cAll 33 [] 8843 [(5, 0)] [(22, 22), cX, cX, cX, cX] = true := by decide +kernel
set_option maxRecDepth 100000 in
theorem op_33_24 : cAll 33 [] 8890 [(5, 0)] [(23, 23), cX, cX, cX, cX] = true := by decide +kernel
set_option maxRecDepth 100000 in
theorem op_33_25 : cAll 33 [] 8937 [(5, 0)] [(24, 24), cX, cX, cX, cX] = true := by decide +kernel
set_option maxRecDepth 100000 in
theorem op_33_26 : cAll 33 [] 8984 [(5, 0)] [(25, 25), cX, cX, cX, cX] = true := by decide +kernel
set_option maxRecDepth 100000 in
theorem op_33_27 : cAll 33 [] 9031 [(5, 0)] [(26, 26), cX, cX, cX, cX] = true := by decide +kernel
set_option maxRecDepth 100000 in
theorem op_33_28 : cAll 33 [] 9078 [(5, 0)] [(27, 27), cX, cX, cX, cX] = true := by decide +kernel
