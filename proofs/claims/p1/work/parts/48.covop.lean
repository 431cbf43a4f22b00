set_option maxRecDepth 100000 in
theorem om_41_0 : cLeafM 41 200000 [((-2147483648), (-1)), cX, cX, cX, cX] = true := by decide +kernel
set_option maxRecDepth 100000 in
theorem om_41_1 : cLeafM 41 200000 [(0, 0), ((-2147483648), 0), cX, cX, cX] = true := by decide +kernel
set_option maxRecDepth 100000 in
theorem om_41_2 : cLeafM 41 200000 [(0, 0), (1, 1), cX, cX, cX] = true := by decide +kernel
set_option maxRecDepth 100000 in
theorem om_41_3 : cLeafM 41 200000 [(0, 0), (2, 2), cX, cX, cX] = true := by decide +kernel
set_option maxRecDepth 100000 in
theorem om_41_4 : cLeafM 41 200000 [(0, 0), (3, 3), cX, cX, cX] = true := by decide +kernel
set_option maxRecDepth 100000 in
theorem om_41_5 : cLeafM 41 200000 [(0, 0), (4, 4), cX, cX, cX] = true := by decide +kernel
set_option maxRecDepth 100000 in
theorem om_41_6 : cLeafM 41 200000 [(0, 0), (5, 5), cX, cX, cX] = true := by decide +kernel
set_option maxRecDepth 100000 in
theorem om_41_7 : cLeafM 41 200000 [(0, 0), (6, 6), cX, cX, cX] = true := by decide +kernel
set_option maxRecDepth 100000 in
theorem om_41_8 : cLeafM 41 200000 [(0, 0), (7, 7), cX, cX, cX] = true := by decide +kernel
set_option maxRecDepth 100000 in
theorem om_41_9 : cLeafM 41 200000 [(0, 0), (8, 8), cX, cX, cX] = true := by decide +kernel
set_option maxRecDepth 100000 in
theorem om_41_10 : cLeafM 41 200000 [(0, 0), (9, 9), cX, cX, cX] = true := by decide +kernel
set_option maxRecDepth 100000 in
theorem om_41_11 : cLeafM 41 200000 [(0, 0), (10, 10), cX, cX, cX] = true := by decide +kernel
set_option maxRecDepth 100000 in
theorem om_41_12 : cLeafM 41 200000 [(0, 0), (11, 11), cX, cX, cX] = true := by decide +kernel
set_option maxRecDepth 100000 in
theorem om_41_13 : cLeafM 41 200000 [(0, 0), (12, 12), cX, cX, cX] = true := by decide +kernel
set_option maxRecDepth 100000 in
theorem om_41_14 : cLeafM 41 200000 [(0, 0), (13, 2147483647), cX, cX, cX] = true := by decide +kernel
set_option maxRecDepth 100000 in
theorem om_41_15 : cLeafM 41 200000 [(1, 2147483647), cX, cX, cX, cX] = true := by decide +kernel
theorem op_41 : cGood 41 [cX, cX, cX, cX, cX] := cGood_cut (j := 0) (c := -1) rfl (cLeafM_ok (by decide) om_41_0) (cGood_cut (j := 0) (c := 0) rfl (cGood_cut (j := 1) (c := 0) rfl (cLeafM_ok (by decide) om_41_1) (cGood_cut (j := 1) (c := 1) rfl (cLeafM_ok (by decide) om_41_2) (cGood_cut (j := 1) (c := 2) rfl (cLeafM_ok (by decide) om_41_3) (cGood_cut (j := 1) (c := 3) rfl (cLeafM_ok (by decide) om_41_4) (cGood_cut (j := 1) (c := 4) rfl (cLeafM_ok (by decide) om_41_5) (cGood_cut (j := 1) (c := 5) rfl (cLeafM_ok (by decide) om_41_6) (cGood_cut (j := 1) (c := 6) rfl (cLeafM_ok (by decide) om_41_7) (cGood_cut (j := 1) (c := 7) rfl (cLeafM_ok (by decide) om_41_8) (cGood_cut (j := 1) (c := 8) rfl (cLeafM_ok (by decide) om_41_9) (cGood_cut (j := 1) (c := 9) rfl (cLeafM_ok (by decide) om_41_10) (cGood_cut (j := 1) (c := 10) rfl (cLeafM_ok (by decide) om_41_11) (cGood_cut (j := 1) (c := 11) rfl (cLeafM_ok (by decide) om_41_12) (cGood_cut (j := 1) (c := 12) rfl (cLeafM_ok (by decide) om_41_13) (cLeafM_ok (by decide) om_41_14)))))))))))))) (cLeafM_ok (by decide) om_41_15))
set_option maxRecDepth 100000 in
theorem om_42_0 : cLeafM 42 200000 [((-2147483648), (-1)), cX, cX, cX, cX] = true := by decide +kernel
set_option maxRecDepth 100000 in
theorem om_42_1 : cLeafM 42 200000 [(0, 0), ((-2147483648), 0), cX, cX, cX] = true := by decide +kernel
set_option maxRecDepth 100000 in
theorem om_42_2 : cLeafM 42 200000 [(0, 0), (1, 1), cX, cX, cX] = true := by decide +kernel
set_option maxRecDepth 100000 in
theorem om_42_3 : cLeafM 42 200000 [(0, 0), (2, 2), cX, cX, cX] = true := by decide +kernel
set_option maxRecDepth 100000 in
theorem om_42_4 : cLeafM 42 200000 [(0, 0), (3, 3), cX, cX, cX] = true := by decide +kernel
set_option maxRecDepth 100000 in
theorem om_42_5 : cLeafM 42 200000 [(0, 0), (4, 4), cX, cX, cX] = true := by decide +kernel
set_option maxRecDepth 100000 in
theorem om_42_6 : cLeafM 42 200000 [(0, 0), (5, 5), cX, cX, cX] = true := by decide +kernel
set_option maxRecDepth 100000 in
theorem om_42_7 : cLeafM 42 200000 [(0, 0), (6, 6), cX, cX, cX] = true := by decide +kernel
set_option maxRecDepth 100000 in
theorem om_42_8 : cLeafM 42 200000 [(0, 0), (7, 7), cX, cX, cX] = true := by decide +kernel
set_option maxRecDepth 100000 in
theorem om_42_9 : cLeafM 42 200000 [(0, 0), (8, 8), cX, cX, cX] = true := by decide +kernel
set_option maxRecDepth 100000 in
theorem om_42_10 : cLeafM 42 200000 [(0, 0), (9, 9), cX, cX, cX] = true := by decide +kernel
set_option maxRecDepth 100000 in
theorem om_42_11 : cLeafM 42 200000 [(0, 0), (10, 10), cX, cX, cX] = true := by decide +kernel
set_option maxRecDepth 100000 in
theorem om_42_12 : cLeafM 42 200000 [(0, 0), (11, 11), cX, cX, cX] = true := by decide +kernel
set_option maxRecDepth 100000 in
theorem om_42_13 : cLeafM 42 200000 [(0, 0), (12, 12), cX, cX, cX] = true := by decide +kernel
set_option maxRecDepth 100000 in
theorem om_42_14 : cLeafM 42 200000 [(0, 0), (13, 2147483647), cX, cX, cX] = true := by decide +kernel
set_option maxRecDepth 100000 in
theorem om_42_15 : cLeafM 42 200000 [(1, 2147483647), cX, cX, cX, cX] = true := by decide +kernel
theorem op_42 : cGood 42 [cX, cX, cX, cX, cX] := cGood_cut (j := 0) (c := -1) rfl (cLeafM_ok (by decide) om_42_0) (cGood_cut (j := 0) (c := 0) rfl (cGood_cut (j := 1) (c := 0) rfl (cLeafM_ok (by decide) om_42_1) (cGood_cut (j := 1) (c := 1) rfl (cLeafM_ok (by decide) om_42_2) (cGood_cut (j := 1) (c := 2) rfl (cLeafM_ok (by decide) om_42_3) (cGood_cut (j := 1) (c := 3) rfl (cLeafM_ok (by decide) om_42_4) (cGood_cut (j := 1) (c := 4) rfl (cLeafM_ok (by decide) om_42_5) (cGood_cut (j := 1) (c := 5) rfl (cLeafM_ok (by decide) om_42_6) (cGood_cut (j := 1) (c := 6) rfl (cLeafM_ok (by decide) om_42_7) (cGood_cut (j := 1) (c := 7) rfl (cLeafM_ok (by decide) om_42_8) (cGood_cut (j := 1) (c := 8) rfl (cLeafM_ok (by decide) om_42_9) (cGood_cut (j := 1) (c := 9) rfl (cLeafM_ok (by decide) om_42_10) (cGood_cut (j := 1) (c := 10) rfl (cLeafM_ok (by decide) om_42_11) (cGood_cut (j := 1) (c := 11) rfl (cLeafM_ok (by decide) om_42_12) (cGood_cut (j := 1) (c := 12) rfl (cLeafM_ok (by decide) om_42_13) (cLeafM_ok (by decide) om_42_14)))))))))))))) (cLeafM_ok (by decide) om_42_15))
