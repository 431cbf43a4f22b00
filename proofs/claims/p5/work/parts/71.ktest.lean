def kNo : Nat → Nat → Option (List kWs × Nat × Bool) := fun _ _ => none
abbrev cI : Nat × Int × Int := (0, -2147483648, 2147483647)
abbrev cR : Nat × Int × Int := (2, 185, 0)
set_option maxRecDepth 100000 in
theorem kq_253 : kcheck ktT [] kNo 1000 (253, [cR, cI, cI], some (0, 0, 1)) = true := by decide +kernel
set_option maxRecDepth 100000 in
theorem kq_233 : kcheck ktT [] kNo 1000 (233, [cR, cI], some (0, -1, 900)) = true := by decide +kernel
set_option maxRecDepth 100000 in
theorem kq_292 : kcheck ktT [] kNo 1000 (292, [cR, cI, cI], some (0, 0, 1)) = true := by decide +kernel
set_option maxRecDepth 100000 in
theorem kq_291 : kcheck ktT [] kNo 1000 (291, [cR, cI, cI], some cI) = true := by decide +kernel
set_option maxRecDepth 100000 in
theorem kq_347 : kcheck ktT [] kNo 1000 (347, [cR, cI], some cI) = true := by decide +kernel
def kC1 : Nat → Nat → Option (List kWs × Nat × Bool) := fun y pc => bif Nat.beq y 269 && Nat.beq pc 4 then some ([((0, 2, 0), -2147483648, 2147483647), ((0, 3, 0), 0, 120)], 1, true) else none
set_option maxRecDepth 100000 in
theorem kq_269 : kcheck ktT [] kC1 1000 (269, [cR, cI], some cI) = true := by decide +kernel
set_option maxRecDepth 100000 in
theorem kq_277 : kcheck ktT [] kNo 1000 (277, [cR, cI, cI], some cI) = true := by decide +kernel
