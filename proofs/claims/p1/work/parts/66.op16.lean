set_option maxRecDepth 100000 in
theorem op_43_75 : cAll 43 [] 13861 [(5, 0)] [(60, 60), (1, 1), cX, cX, cX] = true := by decide +kernel
set_option maxRecDepth 100000 in
theorem op_43_76 : cAll 43 [] 124 [(5, 0)] [(1, 60), (2, 2147483647), cX, cX, cX] = true := by decide +kernel
set_option maxRecDepth 100000 in
theorem op_43_77 : cAll 43 [] 104 [(5, 0)] [(61, 2147483647), cX, cX, cX, cX] = true := by decide +kernel
