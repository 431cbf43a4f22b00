set_option maxRecDepth 100000 in
theorem op_33_195 : cAll 33 [] 16927 [(5, 0)] [(194, 194), cX, cX, cX, cX] = true := by decide +kernel
set_option maxRecDepth 100000 in
theorem op_33_196 : cAll 33 [] 16974 [(5, 0)] [(195, 195), cX, cX, cX, cX] = true := by decide +kernel
set_option maxRecDepth 100000 in
theorem op_33_197 : cAll 33 [] 17021 [(5, 0)] [(196, 196), cX, cX, cX, cX] = true := by decide +kernel
set_option maxRecDepth 100000 in
theorem op_33_198 : cAll 33 [] 17068 [(5, 0)] [(197, 197), cX, cX, cX, cX] = true := by decide +kernel
set_option maxRecDepth 100000 in
theorem op_33_199 : cAll 33 [] 17115 [(5, 0)] [(198, 198), cX, cX, cX, cX] = true := by decide +kernel
set_option maxRecDepth 100000 in
theorem op_33_200 : cAll 33 [] 17162 [(5, 0)] [(199, 199), cX, cX, cX, cX] = true := by decide +kernel
set_option maxRecDepth 100000 in
theorem op_33_201 : cAll 33 [] 17209 [(5, 0)] [(200, 200), cX, cX, cX, cX] = true := by decide +kernel
set_option maxRecDepth 100000 in
theorem op_33_202 : cAll 33 [] 99 [(5, 0)] [(201, 2147483647), cX, cX, cX, cX] = true := by decide +kernel
set_option maxRecDepth 100000 in
theorem op_43_0 : cAll 43 [] 97 [(5, 0)] [((-2147483648), 0), cX, cX, cX, cX] = true := by decide +kernel
set_option maxRecDepth 100000 in
theorem op_43_1 : cAll 43 [] 118 [(5, 0)] [(1, 60), ((-2147483648), (-1)), cX, cX, cX] = true := by decide +kernel
set_option maxRecDepth 100000 in
theorem op_43_2 : cAll 43 [] 8003 [(1, 0), (5, 0), (5, 0)] [(1, 1), (0, 1), cX, cX, cX] = true := by decide +kernel
set_option maxRecDepth 100000 in
theorem op_43_3 : cAll 43 [] 8090 [(1, 0), (5, 0), (5, 0)] [(2, 2), (0, 1), cX, cX, cX] = true := by decide +kernel
set_option maxRecDepth 100000 in
theorem op_43_4 : cAll 43 [] 8202 [(1, 0), (5, 0), (5, 0)] [(3, 3), (0, 1), cX, cX, cX] = true := by decide +kernel
set_option maxRecDepth 100000 in
theorem op_43_5 : cAll 43 [] 8289 [(1, 0), (5, 0), (5, 0)] [(4, 4), (0, 1), cX, cX, cX] = true := by decide +kernel
set_option maxRecDepth 100000 in
theorem op_43_6 : cAll 43 [] 8401 [(1, 0), (5, 0), (5, 0)] [(5, 5), (0, 1), cX, cX, cX] = true := by decide +kernel
set_option maxRecDepth 100000 in
theorem op_43_7 : cAll 43 [] 8488 [(1, 0), (5, 0), (5, 0)] [(6, 6), (0, 1), cX, cX, cX] = true := by decide +kernel
set_option maxRecDepth 100000 in
theorem op_43_8 : cAll 43 [] 8600 [(1, 0), (5, 0), (5, 0)] [(7, 7), (0, 1), cX, cX, cX] = true := by decide +kernel
