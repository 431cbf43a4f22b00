set_option maxRecDepth 100000 in
theorem op_43_9 : cAll 43 [] 8687 [(1, 0), (5, 0), (5, 0)] [(8, 8), (0, 1), cX, cX, cX] = true := by decide +kernel
set_option maxRecDepth 100000 in
theorem op_43_10 : cAll 43 [] 8799 [(1, 0), (5, 0), (5, 0)] [(9, 9), (0, 1), cX, cX, cX] = true := by decide +kernel
set_option maxRecDepth 100000 in
theorem op_43_11 : cAll 43 [] 8886 [(1, 0), (5, 0), (5, 0)] [(10, 10), (0, 1), cX, cX, cX] = true := by decide +kernel
set_option maxRecDepth 100000 in
theorem op_43_12 : cAll 43 [] 8998 [(1, 0), (5, 0), (5, 0)] [(11, 11), (0, 1), cX, cX, cX] = true := by decide +kernel
set_option maxRecDepth 100000 in
theorem op_43_13 : cAll 43 [] 9085 [(1, 0), (5, 0), (5, 0)] [(12, 12), (0, 1), cX, cX, cX] = true := by decide +kernel
set_option maxRecDepth 100000 in
theorem op_43_14 : cAll 43 [] 9197 [(1, 0), (5, 0), (5, 0)] [(13, 13), (0, 1), cX, cX, cX] = true := by decide +kernel
set_option maxRecDepth 100000 in
theorem op_43_15 : cAll 43 [] 9284 [(1, 0), (5, 0), (5, 0)] [(14, 14), (0, 1), cX, cX, cX] = true := by decide +kernel
set_option maxRecDepth 100000 in
theorem op_43_16 : cAll 43 [] 9396 [(1, 0), (5, 0), (5, 0)] [(15, 15), (0, 1), cX, cX, cX] = true := by decide +kernel
set_option maxRecDepth 100000 in
theorem op_43_17 : cAll 43 [] 9483 [(1, 0), (5, 0), (5, 0)] [(16, 16), (0, 1), cX, cX, cX] = true := by decide +kernel
set_option maxRecDepth 100000 in
theorem op_43_18 : cAll 43 [] 9595 [(1, 0), (5, 0), (5, 0)] [(17, 17), (0, 1), cX, cX, cX] = true := by decide +kernel
set_option maxRecDepth 100000 in
theorem op_43_19 : cAll 43 [] 9682 [(1, 0), (5, 0), (5, 0)] [(18, 18), (0, 1), cX, cX, cX] = true := by decide +kernel
set_option maxRecDepth 100000 in
theorem op_43_20 : cAll 43 [] 9794 [(1, 0), (5, 0), (5, 0)] [(19, 19), (0, 1), cX, cX, cX] = true := by decide +kernel
set_option maxRecDepth 100000 in
theorem op_43_21 : cAll 43 [] 9881 [(1, 0), (5, 0), (5, 0)] [(20, 20), (0, 1), cX, cX, cX] = true := by decide +kernel
