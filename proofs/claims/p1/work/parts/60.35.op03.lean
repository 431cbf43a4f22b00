set_option maxRecDepth 100000 in
theorem op_30_7 : cAll 30 [] 2608 [(0, 79), (0, 77), (0, 76), (5, 0), (5, 0), (0, 78), (5, 0), (5, 0), (0, 81), (0, 80), (5, 0), (5, 0), (5, 0)] [(76, 82), cX, cX, cX, cX] = true := by decide +kernel
set_option maxRecDepth 100000 in
theorem op_30_8 : cAll 30 [] 2788 [(0, 85), (0, 84), (0, 83), (5, 0), (5, 0), (5, 0), (0, 87), (0, 86), (5, 0), (5, 0), (5, 0)] [(83, 88), cX, cX, cX, cX] = true := by decide +kernel
set_option maxRecDepth 100000 in
theorem op_30_9 : cAll 30 [] 2968 [(0, 91), (0, 90), (0, 89), (5, 0), (5, 0), (5, 0), (0, 93), (0, 92), (5, 0), (5, 0), (5, 0)] [(89, 94), cX, cX, cX, cX] = true := by decide +kernel
set_option maxRecDepth 100000 in
theorem op_30_10 : cAll 30 [] 3148 [(0, 97), (0, 96), (0, 95), (5, 0), (5, 0), (5, 0), (0, 99), (0, 98), (5, 0), (5, 0), (5, 0)] [(95, 100), cX, cX, cX, cX] = true := by decide +kernel
set_option maxRecDepth 100000 in
theorem op_30_11 : cAll 30 [] 3358 [(0, 104), (0, 102), (0, 101), (5, 0), (5, 0), (0, 103), (5, 0), (5, 0), (0, 106), (0, 105), (5, 0), (5, 0), (5, 0)] [(101, 107), cX, cX, cX, cX] = true := by decide +kernel
set_option maxRecDepth 100000 in
theorem op_30_12 : cAll 30 [] 3538 [(0, 110), (0, 109), (0, 108), (5, 0), (5, 0), (5, 0), (0, 112), (0, 111), (5, 0), (5, 0), (5, 0)] [(108, 113), cX, cX, cX, cX] = true := by decide +kernel
set_option maxRecDepth 100000 in
theorem op_30_13 : cAll 30 [] 3718 [(0, 116), (0, 115), (0, 114), (5, 0), (5, 0), (5, 0), (0, 118), (0, 117), (5, 0), (5, 0), (5, 0)] [(114, 119), cX, cX, cX, cX] = true := by decide +kernel
set_option maxRecDepth 100000 in
theorem op_30_14 : cAll 30 [] 3898 [(0, 122), (0, 121), (0, 120), (5, 0), (5, 0), (5, 0), (0, 124), (0, 123), (5, 0), (5, 0), (5, 0)] [(120, 125), cX, cX, cX, cX] = true := by decide +kernel
set_option maxRecDepth 100000 in
theorem op_30_15 : cAll 30 [] 4018 [(0, 127), (0, 126), (5, 0), (5, 0), (0, 128), (5, 0), (5, 0)] [(126, 129), cX, cX, cX, cX] = true := by decide +kernel
set_option maxRecDepth 100000 in
theorem op_30_16 : cAll 30 [] 4108 [(0, 131), (0, 130), (5, 0), (5, 0), (5, 0)] [(130, 132), cX, cX, cX, cX] = true := by decide +kernel
set_option maxRecDepth 100000 in
theorem op_30_17 : cAll 30 [] 4198 [(0, 134), (0, 133), (5, 0), (5, 0), (5, 0)] [(133, 135), cX, cX, cX, cX] = true := by decide +kernel
set_option maxRecDepth 100000 in
theorem op_30_18 : cAll 30 [] 4288 [(0, 137), (0, 136), (5, 0), (5, 0), (5, 0)] [(136, 138), cX, cX, cX, cX] = true := by decide +kernel
set_option maxRecDepth 100000 in
theorem op_30_19 : cAll 30 [] 4378 [(0, 140), (0, 139), (5, 0), (5, 0), (5, 0)] [(139, 141), cX, cX, cX, cX] = true := by decide +kernel
set_option maxRecDepth 100000 in
theorem op_30_20 : cAll 30 [] 4468 [(0, 143), (0, 142), (5, 0), (5, 0), (5, 0)] [(142, 144), cX, cX, cX, cX] = true := by decide +kernel
