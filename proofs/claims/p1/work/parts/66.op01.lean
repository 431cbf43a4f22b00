set_option maxRecDepth 100000 in
theorem op_33_29 : cAll 33 [] 9125 [(5, 0)] [(28, 28), cX, cX, cX, cX] = true := by decide +kernel
set_option maxRecDepth 100000 in
theorem op_33_30 : cAll 33 [] 9172 [(5, 0)] [(29, 29), cX, cX, cX, cX] = true := by decide +kernel
set_option maxRecDepth 100000 in
theorem op_33_31 : cAll 33 [] 9219 [(5, 0)] [(30, 30), cX, cX, cX, cX] = true := by decide +kernel
set_option maxRecDepth 100000 in
theorem op_33_32 : cAll 33 [] 9266 [(5, 0)] [(31, 31), cX, cX, cX, cX] = true := by decide +kernel
set_option maxRecDepth 100000 in
theorem op_33_33 : cAll 33 [] 9313 [(5, 0)] [(32, 32), cX, cX, cX, cX] = true := by decide +kernel
set_option maxRecDepth 100000 in
theorem op_33_34 : cAll 33 [] 9360 [(5, 0)] [(33, 33), cX, cX, cX, cX] = true := by decide +kernel
set_option maxRecDepth 100000 in
theorem op_33_35 : cAll 33 [] 9407 [(5, 0)] [(34, 34), cX, cX, cX, cX] = true := by decide +kernel
set_option maxRecDepth 100000 in
theorem op_33_36 : cAll 33 [] 9454 [(5, 0)] [(35, 35), cX, cX, cX, cX] = true := by decide +kernel
set_option maxRecDepth 100000 in
theorem op_33_37 : cAll 33 [] 9501 [(5, 0)] [(36, 36), cX, cX, cX, cX] = true := by decide +kernel
set_option maxRecDepth 100000 in
theorem op_33_38 : cAll 33 [] 9548 [(5, 0)] [(37, 37), cX, cX, cX, cX] = true := by decide +kernel
set_option maxRecDepth 100000 in
theorem op_33_39 : cAll 33 [] 9595 [(5, 0)] [(38, 38), cX, cX, cX, cX] = true := by decide +kernel
set_option maxRecDepth 100000 in
theorem op_33_40 : cAll 33 [] 9642 [(5, 0)] [(39, 39), cX, cX, cX, cX] = true := by decide +kernel
set_option maxRecDepth 100000 in
theorem op_33_41 : cAll 33 [] 9689 [(5, 0)] [(40, 40), cX, cX, cX, cX] = true := by decide +kernel
set_option maxRecDepth 100000 in
theorem op_33_42 : cAll 33 [] 9736 [(5, 0)] [(41, 41), cX, cX, cX, cX] = true := by decide +kernel
set_option maxRecDepth 100000 in
theorem op_33_43 : cAll 33 [] 9783 [(5, 0)] [(42, 42), cX, cX, cX, cX] = true := by decide +kernel
set_option maxRecDepth 100000 in
theorem op_33_44 : cAll 33 [] 9830 [(5, 0)] [(43, 43), cX, cX, cX, cX] = true := by decide +kernel
set_option maxRecDepth 100000 in
theorem op_33_45 : cAll 33 [] 9877 [(5, 0)] [(44, 44), cX, cX, cX, cX] = true := by decide +kernel
set_option maxRecDepth 100000 in
theorem op_33_46 : cAll 33 [] 9924 [(5, 0)] [(45, 45), cX, cX, cX, cX] = true := by decide +kernel
set_option maxRecDepth 100000 in
theorem op_33_47 : cAll 33 [] 9971 [(5, 0)] [(46, 46), cX, cX, cX, cX] = true := by decide +kernel
set_option maxRecDepth 100000 in
theorem op_33_48 : cAll 33 [] 10018 [(5, 0)] [(47, 47), cX, cX, cX, cX] = true := by decide +kernel
set_option maxRecDepth 100000 in
theorem op_33_49 : cAll 33 [] 10065 [(5, 0)] [(48, 48), cX, cX, cX, cX] = true := by decide +kernel
set_option maxRecDepth 100000 in
theorem op_33_50 : cAll 33 [] 10112 [(5, 0)] [(49, 49), cX, cX, cX, cX] = true := by decide +kernel
set_option maxRecDepth 100000 in
theorem op_33_51 : cAll 33 [] 10159 [(5, 0)] [(50, 50), cX, cX, cX, cX] = true := by decide +kernel
set_option maxRecDepth 100000 in
theorem op_33_52 : cAll 33 [] 10206 [(5, 0)] [(51, 51), cX, cX, cX, cX] = true := by decide +kernel
set_option maxRecDepth 100000 in
theorem op_33_53 : cAll 33 [] 10253 [(5, 0)] [(52, 52), cX, cX, cX, cX] = true := by decide +kernel
