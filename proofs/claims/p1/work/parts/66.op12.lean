set_option maxRecDepth 100000 in
theorem op_43_22 : cAll 43 [] 9993 [(1, 0), (5, 0), (5, 0)] [(21, 21), (0, 1), cX, cX, cX] = true := by decide +kernel
set_option maxRecDepth 100000 in
theorem op_43_23 : cAll 43 [] 10080 [(1, 0), (5, 0), (5, 0)] [(22, 22), (0, 1), cX, cX, cX] = true := by decide +kernel
set_option maxRecDepth 100000 in
theorem op_43_24 : cAll 43 [] 10192 [(1, 0), (5, 0), (5, 0)] [(23, 23), (0, 1), cX, cX, cX] = true := by decide +kernel
set_option maxRecDepth 100000 in
theorem op_43_25 : cAll 43 [] 10279 [(1, 0), (5, 0), (5, 0)] [(24, 24), (0, 1), cX, cX, cX] = true := by decide +kernel
set_option maxRecDepth 100000 in
theorem op_43_26 : cAll 43 [] 10391 [(1, 0), (5, 0), (5, 0)] [(25, 25), (0, 1), cX, cX, cX] = true := by decide +kernel
set_option maxRecDepth 100000 in
theorem op_43_27 : cAll 43 [] 10478 [(1, 0), (5, 0), (5, 0)] [(26, 26), (0, 1), cX, cX, cX] = true := by decide +kernel
set_option maxRecDepth 100000 in
theorem op_43_28 : cAll 43 [] 10590 [(1, 0), (5, 0), (5, 0)] [(27, 27), (0, 1), cX, cX, cX] = true := by decide +kernel
set_option maxRecDepth 100000 in
theorem op_43_29 : cAll 43 [] 10677 [(1, 0), (5, 0), (5, 0)] [(28, 28), (0, 1), cX, cX, cX] = true := by decide +kernel
set_option maxRecDepth 100000 in
theorem op_43_30 : cAll 43 [] 10789 [(1, 0), (5, 0), (5, 0)] [(29, 29), (0, 1), cX, cX, cX] = true := by decide +kernel
set_option maxRecDepth 100000 in
theorem op_43_31 : cAll 43 [] 10876 [(1, 0), (5, 0), (5, 0)] [(30, 30), (0, 1), cX, cX, cX] = true := by decide +kernel
set_option maxRecDepth 100000 in
theorem op_43_32 : cAll 43 [] 10988 [(1, 0), (5, 0), (5, 0)] [(31, 31), (0, 1), cX, cX, cX] = true := by decide +kernel
