set_option maxRecDepth 100000 in
theorem op_43_43 : cAll 43 [] 12070 [(1, 0), (5, 0), (5, 0)] [(42, 42), (0, 1), cX, cX, cX] = true := by decide +kernel
set_option maxRecDepth 100000 in
theorem op_43_44 : cAll 43 [] 12182 [(1, 0), (5, 0), (5, 0)] [(43, 43), (0, 1), cX, cX, cX] = true := by decide +kernel
set_option maxRecDepth 100000 in
theorem op_43_45 : cAll 43 [] 12269 [(1, 0), (5, 0), (5, 0)] [(44, 44), (0, 1), cX, cX, cX] = true := by decide +kernel
set_option maxRecDepth 100000 in
theorem op_43_46 : cAll 43 [] 12381 [(1, 0), (5, 0), (5, 0)] [(45, 45), (0, 1), cX, cX, cX] = true := by decide +kernel
set_option maxRecDepth 100000 in
theorem op_43_47 : cAll 43 [] 12468 [(1, 0), (5, 0), (5, 0)] [(46, 46), (0, 1), cX, cX, cX] = true := by decide +kernel
set_option maxRecDepth 100000 in
theorem op_43_48 : cAll 43 [] 12580 [(5, 0)] [(47, 47), (0, 0), cX, cX, cX] = true := by decide +kernel
set_option maxRecDepth 100000 in
theorem op_43_49 : cAll 43 [] 12555 [(5, 0)] [(47, 47), (1, 1), cX, cX, cX] = true := by decide +kernel
set_option maxRecDepth 100000 in
theorem op_43_50 : cAll 43 [] 12667 [(5, 0)] [(48, 48), (0, 0), cX, cX, cX] = true := by decide +kernel
set_option maxRecDepth 100000 in
theorem op_43_51 : cAll 43 [] 12667 [(5, 0)] [(48, 48), (1, 1), cX, cX, cX] = true := by decide +kernel
set_option maxRecDepth 100000 in
theorem op_43_52 : cAll 43 [] 12779 [(5, 0)] [(49, 49), (0, 0), cX, cX, cX] = true := by decide +kernel
set_option maxRecDepth 100000 in
theorem op_43_53 : cAll 43 [] 12754 [(5, 0)] [(49, 49), (1, 1), cX, cX, cX] = true := by decide +kernel
set_option maxRecDepth 100000 in
theorem op_43_54 : cAll 43 [] 12866 [(5, 0)] [(50, 50), (0, 0), cX, cX, cX] = true := by decide +kernel
set_option maxRecDepth 100000 in
theorem op_43_55 : cAll 43 [] 12866 [(5, 0)] [(50, 50), (1, 1), cX, cX, cX] = true := by decide +kernel
set_option maxRecDepth 100000 in
theorem op_43_56 : cAll 43 [] 12978 [(5, 0)] [(51, 51), (0, 0), cX, cX, cX] = true := by decide +kernel
