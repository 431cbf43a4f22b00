set_option maxRecDepth 100000 in
theorem op_33_115 : cAll 33 [] 13167 [(5, 0)] [(114, 114), cX, cX, cX, cX] = true := by decide +kernel
set_option maxRecDepth 100000 in
theorem op_33_116 : cAll 33 [] 13214 [(5, 0)] [(115, 115), cX, cX, cX, cX] = true := by decide +kernel
set_option maxRecDepth 100000 in
theorem op_33_117 : cAll 33 [] 13261 [(5, 0)] [(116, 116), cX, cX, cX, cX] = true := by decide +kernel
set_option maxRecDepth 100000 in
theorem op_33_118 : cAll 33 [] 13308 [(5, 0)] [(117, 117), cX, cX, cX, cX] = true := by decide +kernel
set_option maxRecDepth 100000 in
theorem op_33_119 : cAll 33 [] 13355 [(5, 0)] [(118, 118), cX, cX, cX, cX] = true := by decide +kernel
set_option maxRecDepth 100000 in
theorem op_33_120 : cAll 33 [] 13402 [(5, 0)] [(119, 119), cX, cX, cX, cX] = true := by decide +kernel
set_option maxRecDepth 100000 in
theorem op_33_121 : cAll 33 [] 13449 [(5, 0)] [(120, 120), cX, cX, cX, cX] = true := by decide +kernel
set_option maxRecDepth 100000 in
theorem op_33_122 : cAll 33 [] 13496 [(5, 0)] [(121, 121), cX, cX, cX, cX] = true := by decide +kernel
set_option maxRecDepth 100000 in
theorem op_33_123 : cAll 33 [] 13543 [(5, 0)] [(122, 122), cX, cX, cX, cX] = true := by decide +kernel
set_option maxRecDepth 100000 in
theorem op_33_124 : cAll 33 [] 13590 [(5, 0)] [(123, 123), cX, cX, cX, cX] = true := by decide +kernel
set_option maxRecDepth 100000 in
theorem op_33_125 : cAll 33 [] 13637 [(5, 0)] [(124, 124), cX, cX, cX, cX] = true := by decide +kernel
set_option maxRecDepth 100000 in
theorem op_33_126 : cAll 33 [] 13684 [(5, 0)] [(125, 125), cX, cX, cX, cX] = true := by decide +kernel
set_option maxRecDepth 100000 in
theorem op_33_127 : cAll 33 [] 13731 [(5, 0)] [(126, 126), cX, cX, cX, cX] = true := by decide +kernel
set_option maxRecDepth 100000 in
theorem op_33_128 : cAll 33 [] 13778 [(5, 0)] [(127, 127), cX, cX, cX, cX] = true := by decide +kernel
set_option maxRecDepth 100000 in
theorem op_33_129 : cAll 33 [] 13825 [(5, 0)] [(128, 128), cX, cX, cX, cX] = true := by decide +kernel
set_option maxRecDepth 100000 in
theorem op_33_130 : cAll 33 [] 13872 [(5, 0)] [(129, 129), cX, cX, cX, cX] = true := by decide +kernel
set_option maxRecDepth 100000 in
theorem op_33_131 : cAll 33 [] 13919 [(5, 0)] [(130, 130), cX, cX, cX, cX] = true := by decide +kernel
set_option maxRecDepth 100000 in
theorem op_33_132 : cAll 33 [] 13966 [(5, 0)] [(131, 131), cX, cX, cX, cX] = true := by decide +kernel
