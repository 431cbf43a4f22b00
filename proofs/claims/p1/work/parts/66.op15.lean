set_option maxRecDepth 100000 in
theorem op_43_57 : cAll 43 [] 12953 [(5, 0)] [(51, 51), (1, 1), cX, cX, cX] = true := by decide +kernel
set_option maxRecDepth 100000 in
theorem op_43_58 : cAll 43 [] 13065 [(5, 0)] [(52, 52), (0, 0), cX, cX, cX] = true := by decide +kernel
set_option maxRecDepth 100000 in
theorem op_43_59 : cAll 43 [] 13065 [(5, 0)] [(52, 52), (1, 1), cX, cX, cX] = true := by decide +kernel
set_option maxRecDepth 100000 in
theorem op_43_60 : cAll 43 [] 13177 [(5, 0)] [(53, 53), (0, 0), cX, cX, cX] = true := by decide +kernel
set_option maxRecDepth 100000 in
theorem op_43_61 : cAll 43 [] 13152 [(5, 0)] [(53, 53), (1, 1), cX, cX, cX] = true := by decide +kernel
set_option maxRecDepth 100000 in
theorem op_43_62 : cAll 43 [] 13264 [(5, 0)] [(54, 54), (0, 0), cX, cX, cX] = true := by decide +kernel
set_option maxRecDepth 100000 in
theorem op_43_63 : cAll 43 [] 13264 [(5, 0)] [(54, 54), (1, 1), cX, cX, cX] = true := by decide +kernel
set_option maxRecDepth 100000 in
theorem op_43_64 : cAll 43 [] 13376 [(5, 0)] [(55, 55), (0, 0), cX, cX, cX] = true := by decide +kernel
set_option maxRecDepth 100000 in
theorem op_43_65 : cAll 43 [] 13351 [(5, 0)] [(55, 55), (1, 1), cX, cX, cX] = true := by decide +kernel
set_option maxRecDepth 100000 in
theorem op_43_66 : cAll 43 [] 13463 [(5, 0)] [(56, 56), (0, 0), cX, cX, cX] = true := by decide +kernel
set_option maxRecDepth 100000 in
theorem op_43_67 : cAll 43 [] 13463 [(5, 0)] [(56, 56), (1, 1), cX, cX, cX] = true := by decide +kernel
set_option maxRecDepth 100000 in
theorem op_43_68 : cAll 43 [] 13575 [(5, 0)] [(57, 57), (0, 0), cX, cX, cX] = true := by decide +kernel
set_option maxRecDepth 100000 in
theorem op_43_69 : cAll 43 [] 13550 [(5, 0)] [(57, 57), (1, 1), cX, cX, cX] = true := by decide +kernel
set_option maxRecDepth 100000 in
theorem op_43_70 : cAll 43 [] 13662 [(5, 0)] [(58, 58), (0, 0), cX, cX, cX] = true := by decide +kernel
set_option maxRecDepth 100000 in
theorem op_43_71 : cAll 43 [] 13662 [(5, 0)] [(58, 58), (1, 1), cX, cX, cX] = true := by decide +kernel
set_option maxRecDepth 100000 in
theorem op_43_72 : cAll 43 [] 13774 [(5, 0)] [(59, 59), (0, 0), cX, cX, cX] = true := by decide +kernel
set_option maxRecDepth 100000 in
theorem op_43_73 : cAll 43 [] 13749 [(5, 0)] [(59, 59), (1, 1), cX, cX, cX] = true := by decide +kernel
set_option maxRecDepth 100000 in
theorem op_43_74 : cAll 43 [] 13861 [(5, 0)] [(60, 60), (0, 0), cX, cX, cX] = true := by decide +kernel
