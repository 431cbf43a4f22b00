set_option maxRecDepth 100000 in
theorem op_8_0 : cAll 8 [] 20390 [(0, (-1)), (5, 0), (0, 0), (5, 0), (5, 0)] [cX, cX, cX, cX, cX] = true := by decide +kernel
theorem op_8 : cGood 8 [cX, cX, cX, cX, cX] := cAll_ok op_8_0
set_option maxRecDepth 100000 in
theorem op_9_0 : cAll 9 [] 5805 [(0, (-1)), (5, 0), (0, 0), (5, 0), (5, 0)] [cX, cX, cX, cX, cX] = true := by decide +kernel
theorem op_9 : cGood 9 [cX, cX, cX, cX, cX] := cAll_ok op_9_0
set_option maxRecDepth 100000 in
theorem op_58_0 : cAll 58 [] 13661 [(5, 0)] [cX, cX, cX, cX, cX] = true := by decide +kernel
theorem op_58 : cGood 58 [cX, cX, cX, cX, cX] := cAll_ok op_58_0
