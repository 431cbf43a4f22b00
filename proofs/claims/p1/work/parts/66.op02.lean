set_option maxRecDepth 100000 in
theorem op_33_54 : cAll 33 [] 10300 [(5, 0)] [(53, 53), cX, cX, cX, cX] = true := by decide +kernel
set_option maxRecDepth 100000 in
theorem op_33_55 : cAll 33 [] 10347 [(5, 0)] [(54, 54), cX, cX, cX, cX] = true := by decide +kernel
set_option maxRecDepth 100000 in
theorem op_33_56 : cAll 33 [] 10394 [(5, 0)] [(55, 55), cX, cX, cX, cX] = true := by decide +kernel
set_option maxRecDepth 100000 in
theorem op_33_57 : cAll 33 [] 10441 [(5, 0)] [(56, 56), cX, cX, cX, cX] = true := by decide +kernel
set_option maxRecDepth 100000 in
theorem op_33_58 : cAll 33 [] 10488 [(5, 0)] [(57, 57), cX, cX, cX, cX] = true := by decide +kernel
set_option maxRecDepth 100000 in
theorem op_33_59 : cAll 33 [] 10535 [(5, 0)] [(58, 58), cX, cX, cX, cX] = true := by decide +kernel
set_option maxRecDepth 100000 in
theorem op_33_60 : cAll 33 [] 10582 [(5, 0)] [(59, 59), cX, cX, cX, cX] = true := by decide +kernel
set_option maxRecDepth 100000 in
theorem op_33_61 : cAll 33 [] 10629 [(5, 0)] [(60, 60), cX, cX, cX, cX] = true := by decide +kernel
set_option maxRecDepth 100000 in
theorem op_33_62 : cAll 33 [] 10676 [(5, 0)] [(61, 61), cX, cX, cX, cX] = true := by decide +kernel
set_option maxRecDepth 100000 in
theorem op_33_63 : cAll 33 [] 10723 [(5, 0)] [(62, 62), cX, cX, cX, cX] = true := by decide +kernel
set_option maxRecDepth 100000 in
theorem op_33_64 : cAll 33 [] 10770 [(5, 0)] [(63, 63), cX, cX, cX, cX] = true := by decide +kernel
set_option maxRecDepth 100000 in
theorem op_33_65 : cAll 33 [] 10817 [(5, 0)] [(64, 64), cX, cX, cX, cX] = true := by decide +kernel
set_option maxRecDepth 100000 in
theorem op_33_66 : cAll 33 [] 10864 [(5, 0)] [(65, 65), cX, cX, cX, cX] = true := by decide +kernel
set_option maxRecDepth 100000 in
theorem op_33_67 : cAll 33 [] 10911 [(5, 0)] [(66, 66), cX, cX, cX, cX] = true := by decide +kernel
set_option maxRecDepth 100000 in
theorem op_33_68 : cAll 33 [] 10958 [(5, 0)] [(67, 67), cX, cX, cX, cX] = true := by decide +kernel
set_option maxRecDepth 100000 in
theorem op_33_69 : cAll 33 [] 11005 [(5, 0)] [(68, 68), cX, cX, cX, cX] = true := by decide +kernel
set_option maxRecDepth 100000 in
theorem op_33_70 : cAll 33 [] 11052 [(5, 0)] [(69, 69), cX, cX, cX, cX] = true := by decide +kernel
set_option maxRecDepth 100000 in
theorem op_33_71 : cAll 33 [] 11099 [(5, 0)] [(70, 70), cX, cX, cX, cX] = true := by decide +kernel
set_option maxRecDepth 100000 in
theorem op_33_72 : cAll 33 [] 11146 [(5, 0)] [(71, 71), cX, cX, cX, cX] = true := by decide +kernel
set_option maxRecDepth 100000 in
theorem op_33_73 : cAll 33 [] 11193 [(5, 0)] [(72, 72), cX, cX, cX, cX] = true := by decide +kernel
set_option maxRecDepth 100000 in
theorem op_33_74 : cAll 33 [] 11240 [(5, 0)] [(73, 73), cX, cX, cX, cX] = true := by decide +kernel
set_option maxRecDepth 100000 in
theorem op_33_75 : cAll 33 [] 11287 [(5, 0)] [(74, 74), cX, cX, cX, cX] = true := by decide +kernel
