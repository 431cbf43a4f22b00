set_option maxRecDepth 100000 in
theorem op_33_150 : cAll 33 [] 14812 [(5, 0)] [(149, 149), cX, cX, cX, cX] = true := by decide +kernel
set_option maxRecDepth 100000 in
theorem op_33_151 : cAll 33 [] 14859 [(5, 0)] [(150, 150), cX, cX, cX, cX] = true := by decide +kernel
set_option maxRecDepth 100000 in
theorem op_33_152 : cAll 33 [] 14906 [(5, 0)] [(151, 151), cX, cX, cX, cX] = true := by decide +kernel
set_option maxRecDepth 100000 in
theorem op_33_153 : cAll 33 [] 14953 [(5, 0)] [(152, 152), cX, cX, cX, cX] = true := by decide +kernel
set_option maxRecDepth 100000 in
theorem op_33_154 : cAll 33 [] 15000 [(5, 0)] [(153, 153), cX, cX, cX, cX] = true := by decide +kernel
set_option maxRecDepth 100000 in
theorem op_33_155 : cAll 33 [] 15047 [(5, 0)] [(154, 154), cX, cX, cX, cX] = true := by decide +kernel
set_option maxRecDepth 100000 in
theorem op_33_156 : cAll 33 [] 15094 [(5, 0)] [(155, 155), cX, cX, cX, cX] = true := by decide +kernel
set_option maxRecDepth 100000 in
theorem op_33_157 : cAll 33 [] 15141 [(5, 0)] [(156, 156), cX, cX, cX, cX] = true := by decide +kernel
set_option maxRecDepth 100000 in
theorem op_33_158 : cAll 33 [] 15188 [(5, 0)] [(157, 157), cX, cX, cX, cX] = true := by decide +kernel
set_option maxRecDepth 100000 in
theorem op_33_159 : cAll 33 [] 15235 [(5, 0)] [(158, 158), cX, cX, cX, cX] = true := by decide +kernel
set_option maxRecDepth 100000 in
theorem op_33_160 : cAll 33 [] 15282 [(5, 0)] [(159, 159), cX, cX, cX, cX] = true := by decide +kernel
set_option maxRecDepth 100000 in
theorem op_33_161 : cAll 33 [] 15329 [(5, 0)] [(160, 160), cX, cX, cX, cX] = true := by decide +kernel
set_option maxRecDepth 100000 in
theorem op_33_162 : cAll 33 [] 15376 [(5, 0)] [(161, 161), cX, cX, cX, cX] = true := by decide +kernel
set_option maxRecDepth 100000 in
theorem op_33_163 : cAll 33 [] 15423 [(5, 0)] [(162, 162), cX, cX, cX, cX] = true := by decide +kernel
set_option maxRecDepth 100000 in
theorem op_33_164 : cAll 33 [] 15470 [(5, 0)] [(163, 163), cX, cX, cX, cX] = true := by decide +kernel
set_option maxRecDepth 100000 in
theorem op_33_165 : cAll 33 [] 15517 [(5, 0)] [(164, 164), cX, cX, cX, cX] = true := by decide +kernel
