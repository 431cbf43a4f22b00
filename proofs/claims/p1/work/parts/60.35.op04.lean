set_option maxRecDepth 100000 in
theorem op_30_21 : cAll 30 [] 4558 [(0, 146), (0, 145), (5, 0), (5, 0), (5, 0)] [(145, 147), cX, cX, cX, cX] = true := by decide +kernel
set_option maxRecDepth 100000 in
theorem op_30_22 : cAll 30 [] 4648 [(0, 149), (0, 148), (5, 0), (5, 0), (5, 0)] [(148, 150), cX, cX, cX, cX] = true := by decide +kernel
set_option maxRecDepth 100000 in
theorem op_30_23 : cAll 30 [] 4768 [(0, 152), (0, 151), (5, 0), (5, 0), (0, 153), (5, 0), (5, 0)] [(151, 154), cX, cX, cX, cX] = true := by decide +kernel
set_option maxRecDepth 100000 in
theorem op_30_24 : cAll 30 [] 4858 [(0, 156), (0, 155), (5, 0), (5, 0), (5, 0)] [(155, 157), cX, cX, cX, cX] = true := by decide +kernel
set_option maxRecDepth 100000 in
theorem op_30_25 : cAll 30 [] 4948 [(0, 159), (0, 158), (5, 0), (5, 0), (5, 0)] [(158, 160), cX, cX, cX, cX] = true := by decide +kernel
set_option maxRecDepth 100000 in
theorem op_30_26 : cAll 30 [] 5038 [(0, 162), (0, 161), (5, 0), (5, 0), (5, 0)] [(161, 163), cX, cX, cX, cX] = true := by decide +kernel
set_option maxRecDepth 100000 in
theorem op_30_27 : cAll 30 [] 5128 [(0, 165), (0, 164), (5, 0), (5, 0), (5, 0)] [(164, 166), cX, cX, cX, cX] = true := by decide +kernel
set_option maxRecDepth 100000 in
theorem op_30_28 : cAll 30 [] 5218 [(0, 168), (0, 167), (5, 0), (5, 0), (5, 0)] [(167, 169), cX, cX, cX, cX] = true := by decide +kernel
set_option maxRecDepth 100000 in
theorem op_30_29 : cAll 30 [] 5308 [(0, 171), (0, 170), (5, 0), (5, 0), (5, 0)] [(170, 172), cX, cX, cX, cX] = true := by decide +kernel
set_option maxRecDepth 100000 in
theorem op_30_30 : cAll 30 [] 5398 [(0, 174), (0, 173), (5, 0), (5, 0), (5, 0)] [(173, 175), cX, cX, cX, cX] = true := by decide +kernel
set_option maxRecDepth 100000 in
theorem op_30_31 : cAll 30 [] 5518 [(0, 177), (0, 176), (5, 0), (5, 0), (0, 178), (5, 0), (5, 0)] [(176, 179), cX, cX, cX, cX] = true := by decide +kernel
set_option maxRecDepth 100000 in
theorem op_30_32 : cAll 30 [] 5608 [(0, 181), (0, 180), (5, 0), (5, 0), (5, 0)] [(180, 182), cX, cX, cX, cX] = true := by decide +kernel
set_option maxRecDepth 100000 in
theorem op_30_33 : cAll 30 [] 5698 [(0, 184), (0, 183), (5, 0), (5, 0), (5, 0)] [(183, 185), cX, cX, cX, cX] = true := by decide +kernel
set_option maxRecDepth 100000 in
theorem op_30_34 : cAll 30 [] 5788 [(0, 187), (0, 186), (5, 0), (5, 0), (5, 0)] [(186, 188), cX, cX, cX, cX] = true := by decide +kernel
set_option maxRecDepth 100000 in
theorem op_30_35 : cAll 30 [] 5878 [(0, 190), (0, 189), (5, 0), (5, 0), (5, 0)] [(189, 191), cX, cX, cX, cX] = true := by decide +kernel
