set_option maxRecDepth 100000 in
theorem op_33_133 : cAll 33 [] 14013 [(5, 0)] [(132, 132), cX, cX, cX, cX] = true := by decide +kernel
set_option maxRecDepth 100000 in
theorem op_33_134 : cAll 33 [] 14060 [(5, 0)] [(133, 133), cX, cX, cX, cX] = true := by decide +kernel
set_option maxRecDepth 100000 in
theorem op_33_135 : cAll 33 [] 14107 [(5, 0)] [(134, 134), cX, cX, cX, cX] = true := by decide +kernel
set_option maxRecDepth 100000 in
theorem op_33_136 : cAll 33 [] 14154 [(5, 0)] [(135, 135), cX, cX, cX, cX] = true := by decide +kernel
set_option maxRecDepth 100000 in
theorem op_33_137 : cAll 33 [] 14201 [(5, 0)] [(136, 136), cX, cX, cX, cX] = true := by decide +kernel
set_option maxRecDepth 100000 in
theorem op_33_138 : cAll 33 [] 14248 [(5, 0)] [(137, 137), cX, cX, cX, cX] = true := by decide +kernel
set_option maxRecDepth 100000 in
theorem op_33_139 : cAll 33 [] 14295 [(5, 0)] [(138, 138), cX, cX, cX, cX] = true := by decide +kernel
set_option maxRecDepth 100000 in
theorem op_33_140 : cAll 33 [] 14342 [(5, 0)] [(139, 139), cX, cX, cX, cX] = true := by decide +kernel
set_option maxRecDepth 100000 in
theorem op_33_141 : cAll 33 [] 14389 [(5, 0)] [(140, 140), cX, cX, cX, cX] = true := by decide +kernel
set_option maxRecDepth 100000 in
theorem op_33_142 : cAll 33 [] 14436 [(5, 0)] [(141, 141), cX, cX, cX, cX] = true := by decide +kernel
set_option maxRecDepth 100000 in
theorem op_33_143 : cAll 33 [] 14483 [(5, 0)] [(142, 142), cX, cX, cX, cX] = true := by decide +kernel
set_option maxRecDepth 100000 in
theorem op_33_144 : cAll 33 [] 14530 [(5, 0)] [(143, 143), cX, cX, cX, cX] = true := by decide +kernel
set_option maxRecDepth 100000 in
theorem op_33_145 : cAll 33 [] 14577 [(5, 0)] [(144, 144), cX, cX, cX, cX] = true := by decide +kernel
set_option maxRecDepth 100000 in
theorem op_33_146 : cAll 33 [] 14624 [(5, 0)] [(145, 145), cX, cX, cX, cX] = true := by decide +kernel
set_option maxRecDepth 100000 in
theorem op_33_147 : cAll 33 [] 14671 [(5, 0)] [(146, 146), cX, cX, cX, cX] = true := by decide +kernel
set_option maxRecDepth 100000 in
theorem op_33_148 : cAll 33 [] 14718 [(5, 0)] [(147, 147), cX, cX, cX, cX] = true := by decide +kernel
set_option maxRecDepth 100000 in
theorem op_33_149 : cAll 33 [] 14765 [(5, 0)] [(148, 148), cX, cX, cX, cX] = true := by decide +kernel
