set_option maxRecDepth 100000 in
theorem op_33_76 : cAll 33 [] 11334 [(5, 0)] [(75, 75), cX, cX, cX, cX] = true := by decide +kernel
set_option maxRecDepth 100000 in
theorem op_33_77 : cAll 33 [] 11381 [(5, 0)] [(76, 76), cX, cX, cX, cX] = true := by decide +kernel
set_option maxRecDepth 100000 in
theorem op_33_78 : cAll 33 [] 11428 [(5, 0)] [(77, 77), cX, cX, cX, cX] = true := by decide +kernel
set_option maxRecDepth 100000 in
theorem op_33_79 : cAll 33 [] 11475 [(5, 0)] [(78, 78), cX, cX, cX, cX] = true := by decide +kernel
set_option maxRecDepth 100000 in
theorem op_33_80 : cAll 33 [] 11522 [(5, 0)] [(79, 79), cX, cX, cX, cX] = true := by decide +kernel
set_option maxRecDepth 100000 in
theorem op_33_81 : cAll 33 [] 11569 [(5, 0)] [(80, 80), cX, cX, cX, cX] = true := by decide +kernel
set_option maxRecDepth 100000 in
theorem op_33_82 : cAll 33 [] 11616 [(5, 0)] [(81, 81), cX, cX, cX, cX] = true := by decide +kernel
set_option maxRecDepth 100000 in
theorem op_33_83 : cAll 33 [] 11663 [(5, 0)] [(82, 82), cX, cX, cX, cX] = true := by decide +kernel
set_option maxRecDepth 100000 in
theorem op_33_84 : cAll 33 [] 11710 [(5, 0)] [(83, 83), cX, cX, cX, cX] = true := by decide +kernel
set_option maxRecDepth 100000 in
theorem op_33_85 : cAll 33 [] 11757 [(5, 0)] [(84, 84), cX, cX, cX, cX] = true := by decide +kernel
set_option maxRecDepth 100000 in
theorem op_33_86 : cAll 33 [] 11804 [(5, 0)] [(85, 85), cX, cX, cX, cX] = true := by decide +kernel
set_option maxRecDepth 100000 in
theorem op_33_87 : cAll 33 [] 11851 [(5, 0)] [(86, 86), cX, cX, cX, cX] = true := by decide +kernel
set_option maxRecDepth 100000 in
theorem op_33_88 : cAll 33 [] 11898 [(5, 0)] [(87, 87), cX, cX, cX, cX] = true := by decide +kernel
set_option maxRecDepth 100000 in
theorem op_33_89 : cAll 33 [] 11945 [(5, 0)] [(88, 88), cX, cX, cX, cX] = true := by decide +kernel
set_option maxRecDepth 100000 in
theorem op_33_90 : cAll 33 [] 11992 [(5, 0)] [(89, 89), cX, cX, cX, cX] = true := by decide +kernel
set_option maxRecDepth 100000 in
theorem op_33_91 : cAll 33 [] 12039 [(5, 0)] [(90, 90), cX, cX, cX, cX] = true := by decide +kernel
set_option maxRecDepth 100000 in
theorem op_33_92 : cAll 33 [] 12086 [(5, 0)] [(91, 91), cX, cX, cX, cX] = true := by decide +kernel
set_option maxRecDepth 100000 in
theorem op_33_93 : cAll 33 [] 12133 [(5, 0)] [(92, 92), cX, cX, cX, cX] = true := by decide +kernel
set_option maxRecDepth 100000 in
theorem op_33_94 : cAll 33 [] 12180 [(5, 0)] [(93, 93), cX, cX, cX, cX] = true := by decide +kernel
set_option maxRecDepth 100000 in
theorem op_33_95 : cAll 33 [] 12227 [(5, 0)] [(94, 94), cX, cX, cX, cX] = true := by decide +kernel
