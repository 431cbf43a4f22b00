set_option maxRecDepth 100000 in
theorem op_33_96 : cAll 33 [] 12274 [(5, 0)] [(95, 95), cX, cX, cX, cX] = true := by decide +kernel
set_option maxRecDepth 100000 in
theorem op_33_97 : cAll 33 [] 12321 [(5, 0)] [(96, 96), cX, cX, cX, cX] = true := by decide +kernel
set_option maxRecDepth 100000 in
theorem op_33_98 : cAll 33 [] 12368 [(5, 0)] [(97, 97), cX, cX, cX, cX] = true := by decide +kernel
set_option maxRecDepth 100000 in
theorem op_33_99 : cAll 33 [] 12415 [(5, 0)] [(98, 98), cX, cX, cX, cX] = true := by decide +kernel
set_option maxRecDepth 100000 in
theorem op_33_100 : cAll 33 [] 12462 [(5, 0)] [(99, 99), cX, cX, cX, cX] = true := by decide +kernel
set_option maxRecDepth 100000 in
theorem op_33_101 : cAll 33 [] 12509 [(5, 0)] [(100, 100), cX, cX, cX, cX] = true := by decide +kernel
set_option maxRecDepth 100000 in
theorem op_33_102 : cAll 33 [] 12556 [(5, 0)] [(101, 101), cX, cX, cX, cX] = true := by decide +kernel
set_option maxRecDepth 100000 in
theorem op_33_103 : cAll 33 [] 12603 [(5, 0)] [(102, 102), cX, cX, cX, cX] = true := by decide +kernel
set_option maxRecDepth 100000 in
theorem op_33_104 : cAll 33 [] 12650 [(5, 0)] [(103, 103), cX, cX, cX, cX] = true := by decide +kernel
set_option maxRecDepth 100000 in
theorem op_33_105 : cAll 33 [] 12697 [(5, 0)] [(104, 104), cX, cX, cX, cX] = true := by decide +kernel
set_option maxRecDepth 100000 in
theorem op_33_106 : cAll 33 [] 12744 [(5, 0)] [(105, 105), cX, cX, cX, cX] = true := by decide +kernel
set_option maxRecDepth 100000 in
theorem op_33_107 : cAll 33 [] 12791 [(5, 0)] [(106, 106), cX, cX, cX, cX] = true := by decide +kernel
set_option maxRecDepth 100000 in
theorem op_33_108 : cAll 33 [] 12838 [(5, 0)] [(107, 107), cX, cX, cX, cX] = true := by decide +kernel
set_option maxRecDepth 100000 in
theorem op_33_109 : cAll 33 [] 12885 [(5, 0)] [(108, 108), cX, cX, cX, cX] = true := by decide +kernel
set_option maxRecDepth 100000 in
theorem op_33_110 : cAll 33 [] 12932 [(5, 0)] [(109, 109), cX, cX, cX, cX] = true := by decide +kernel
set_option maxRecDepth 100000 in
theorem op_33_111 : cAll 33 [] 12979 [(5, 0)] [(110, 110), cX, cX, cX, cX] = true := by decide +kernel
set_option maxRecDepth 100000 in
theorem op_33_112 : cAll 33 [] 13026 [(5, 0)] [(111, 111), cX, cX, cX, cX] = true := by decide +kernel
set_option maxRecDepth 100000 in
theorem op_33_113 : cAll 33 [] 13073 [(5, 0)] [(112, 112), cX, cX, cX, cX] = true := by decide +kernel
set_option maxRecDepth 100000 in
theorem op_33_114 : cAll 33 [] 13120 [(5, 0)] [(113, 113), cX, cX, cX, cX] = true := by decide +kernel
