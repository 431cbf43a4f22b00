set_option maxRecDepth 100000 in
theorem op_43_33 : cAll 43 [] 11075 [(1, 0), (5, 0), (5, 0)] [(32, 32), (0, 1), cX, cX, cX] = true := by decide +kernel
set_option maxRecDepth 100000 in
theorem op_43_34 : cAll 43 [] 11187 [(1, 0), (5, 0), (5, 0)] [(33, 33), (0, 1), cX, cX, cX] = true := by decide +kernel
set_option maxRecDepth 100000 in
theorem op_43_35 : cAll 43 [] 11274 [(1, 0), (5, 0), (5, 0)] [(34, 34), (0, 1), cX, cX, cX] = true := by decide +kernel
set_option maxRecDepth 100000 in
theorem op_43_36 : cAll 43 [] 11386 [(1, 0), (5, 0), (5, 0)] [(35, 35), (0, 1), cX, cX, cX] = true := by decide +kernel
set_option maxRecDepth 100000 in
theorem op_43_37 : cAll 43 [] 11473 [(1, 0), (5, 0), (5, 0)] [(36, 36), (0, 1), cX, cX, cX] = true := by decide +kernel
set_option maxRecDepth 100000 in
theorem op_43_38 : cAll 43 [] 11585 [(1, 0), (5, 0), (5, 0)] [(37, 37), (0, 1), cX, cX, cX] = true := by decide +kernel
set_option maxRecDepth 100000 in
theorem op_43_39 : cAll 43 [] 11672 [(1, 0), (5, 0), (5, 0)] [(38, 38), (0, 1), cX, cX, cX] = true := by decide +kernel
set_option maxRecDepth 100000 in
theorem op_43_40 : cAll 43 [] 11784 [(1, 0), (5, 0), (5, 0)] [(39, 39), (0, 1), cX, cX, cX] = true := by decide +kernel
set_option maxRecDepth 100000 in
theorem op_43_41 : cAll 43 [] 11871 [(1, 0), (5, 0), (5, 0)] [(40, 40), (0, 1), cX, cX, cX] = true := by decide +kernel
set_option maxRecDepth 100000 in
theorem op_43_42 : cAll 43 [] 11983 [(1, 0), (5, 0), (5, 0)] [(41, 41), (0, 1), cX, cX, cX] = true := by decide +kernel
