def nw64 : nOr := (nXor (nrcX (ktT rc64.1.2.1) rc64.1.2.1 rc46 ksi222s) (nXor (nrcX (ktT rc64.1.2.1) rc64.1.2.1 rc46l ksi222l) (nXor (nrcX (ktT rc64.1.2.1) rc64.1.2.1 rc63 ksi238) (ktX rc64.1.2.1))), ngH, ngF, fun y pc x => bif Nat.beq y 240 && Nat.beq pc 140 then some ([((2, 185, 14), 0, 900), ((2, 186, 2579), 1, 8)], [([(1, 4, 1, 0), ((-1), 2, 185, 14)], (-1))], (1, true), [], [(186, 2482, 2484), (186, 2577, 2578)], 219) else none)
set_option maxRecDepth 1000000 in
theorem nq64 : nrchk kt0 [nc48, nc49, nc50, nc51, nc52, nc53] nw64 3000 rc64 = true := by decide +kernel
-- LPModel.aPerson, steps 1830
def nw65 : nOr := (ktX rc65.1.2.1, ngH, ngF, fun _ _ _ => none)
set_option maxRecDepth 1000000 in
theorem nq65 : nrchk kt0 [nc49] nw65 3000 rc65 = true := by decide +kernel
-- LPModel.aPerson, steps 29
def nw67 : nOr := (nXor (nrcX (ktT rc67.1.2.1) rc67.1.2.1 rc46 ksi222s) (nXor (nrcX (ktT rc67.1.2.1) rc67.1.2.1 rc46l ksi222l) (ktX rc67.1.2.1)), ngH, ngF, fun _ _ _ => none)
set_option maxRecDepth 1000000 in
theorem nq67 : nrchk kt0 [nc48, nc49, nc50, nc51, nc52, nc53] nw67 3000 rc67 = true := by decide +kernel
-- LPModel.aSight, steps 1935
def nw68 : nOr := (nXor (nrcX (ktT rc68.1.2.1) rc68.1.2.1 rc46 ksi222s) (nXor (nrcX (ktT rc68.1.2.1) rc68.1.2.1 rc46l ksi222l) (nXor (nrcX (ktT rc68.1.2.1) rc68.1.2.1 rc66 ksi240) (nXor (nrcX (ktT rc68.1.2.1) rc68.1.2.1 rc67 ksi241) (ktX rc68.1.2.1)))), ngH, ngF, fun _ _ _ => none)
set_option maxRecDepth 1000000 in
theorem nq68 : nrchk kt0 [nc48, nc49, nc50, nc51, nc52, nc53, nc54] nw68 3000 rc68 = true := by decide +kernel
-- LPModel.scenePart, steps 1670
