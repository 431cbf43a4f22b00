set_option maxRecDepth 100000 in
theorem op_33_166 : cAll 33 [] 15564 [(5, 0)] [(165, 165), cX, cX, cX, cX] = true := by decide +kernel
set_option maxRecDepth 100000 in
theorem op_33_167 : cAll 33 [] 15611 [(5, 0)] [(166, 166), cX, cX, cX, cX] = true := by decide +kernel
set_option maxRecDepth 100000 in
theorem op_33_168 : cAll 33 [] 15658 [(5, 0)] [(167, 167), cX, cX, cX, cX] = true := by decide +kernel
set_option maxRecDepth 100000 in
theorem op_33_169 : cAll 33 [] 15705 [(5, 0)] [(168, 168), cX, cX, cX, cX] = true := by decide +kernel
set_option maxRecDepth 100000 in
theorem op_33_170 : cAll 33 [] 15752 [(5, 0)] [(169, 169), cX, cX, cX, cX] = true := by decide +kernel
set_option maxRecDepth 100000 in
theorem op_33_171 : cAll 33 [] 15799 [(5, 0)] [(170, 170), cX, cX, cX, cX] = true := by decide +kernel
set_option maxRecDepth 100000 in
theorem op_33_172 : cAll 33 [] 15846 [(5, 0)] [(171, 171), cX, cX, cX, cX] = true := by decide +kernel
set_option maxRecDepth 100000 in
theorem op_33_173 : cAll 33 [] 15893 [(5, 0)] [(172, 172), cX, cX, cX, cX] = true := by decide +kernel
set_option maxRecDepth 100000 in
theorem op_33_174 : cAll 33 [] 15940 [(5, 0)] [(173, 173), cX, cX, cX, cX] = true := by decide +kernel
set_option maxRecDepth 100000 in
theorem op_33_175 : cAll 33 [] 15987 [(5, 0)] [(174, 174), cX, cX, cX, cX] = true := by decide +kernel
set_option maxRecDepth 100000 in
theorem op_33_176 : cAll 33 [] 16034 [(5, 0)] [(175, 175), cX, cX, cX, cX] = true := by decide +kernel
set_option maxRecDepth 100000 in
theorem op_33_177 : cAll 33 [] 16081 [(5, 0)] [(176, 176), cX, cX, cX, cX] = true := by decide +kernel
set_option maxRecDepth 100000 in
theorem op_33_178 : cAll 33 [] 16128 [(5, 0)] [(177, 177), cX, cX, cX, cX] = true := by decide +kernel
set_option maxRecDepth 100000 in
theorem op_33_179 : cAll 33 [] 16175 [(5, 0)] [(178, 178), cX, cX, cX, cX] = true := by decide +kernel
set_option maxRecDepth 100000 in
theorem op_33_180 : cAll 33 [] 16222 [(5, 0)] [(179, 179), cX, cX, cX, cX] = true := by decide +kernel
