set_option maxRecDepth 100000 in
theorem op_33_181 : cAll 33 [] 16269 [(5, 0)] [(180, 180), cX, cX, cX, cX] = true := by decide +kernel
set_option maxRecDepth 100000 in
theorem op_33_182 : cAll 33 [] 16316 [(5, 0)] [(181, 181), cX, cX, cX, cX] = true := by decide +kernel
set_option maxRecDepth 100000 in
theorem op_33_183 : cAll 33 [] 16363 [(5, 0)] [(182, 182), cX, cX, cX, cX] = true := by decide +kernel
set_option maxRecDepth 100000 in
theorem op_33_184 : cAll 33 [] 16410 [(5, 0)] [(183, 183), cX, cX, cX, cX] = true := by decide +kernel
set_option maxRecDepth 100000 in
theorem op_33_185 : cAll 33 [] 16457 [(5, 0)] [(184, 184), cX, cX, cX, cX] = true := by decide +kernel
set_option maxRecDepth 100000 in
theorem op_33_186 : cAll 33 [] 16504 [(5, 0)] [(185, 185), cX, cX, cX, cX] = true := by decide +kernel
set_option maxRecDepth 100000 in
theorem op_33_187 : cAll 33 [] 16551 [(5, 0)] [(186, 186), cX, cX, cX, cX] = true := by decide +kernel
set_option maxRecDepth 100000 in
theorem op_33_188 : cAll 33 [] 16598 [(5, 0)] [(187, 187), cX, cX, cX, cX] = true := by decide +kernel
set_option maxRecDepth 100000 in
theorem op_33_189 : cAll 33 [] 16645 [(5, 0)] [(188, 188), cX, cX, cX, cX] = true := by decide +kernel
set_option maxRecDepth 100000 in
theorem op_33_190 : cAll 33 [] 16692 [(5, 0)] [(189, 189), cX, cX, cX, cX] = true := by decide +kernel
set_option maxRecDepth 100000 in
theorem op_33_191 : cAll 33 [] 16739 [(5, 0)] [(190, 190), cX, cX, cX, cX] = true := by decide +kernel
set_option maxRecDepth 100000 in
theorem op_33_192 : cAll 33 [] 16786 [(5, 0)] [(191, 191), cX, cX, cX, cX] = true := by decide +kernel
set_option maxRecDepth 100000 in
theorem op_33_193 : cAll 33 [] 16833 [(5, 0)] [(192, 192), cX, cX, cX, cX] = true := by decide +kernel
set_option maxRecDepth 100000 in
theorem op_33_194 : cAll 33 [] 16880 [(5, 0)] [(193, 193), cX, cX, cX, cX] = true := by decide +kernel
