def nw57 : nOr := (nXor (nrcX (ktT rc57.1.2.1) rc57.1.2.1 rc46 ksi222s) (nXor (nrcX (ktT rc57.1.2.1) rc57.1.2.1 rc46l ksi222l) (ktX rc57.1.2.1)), ngH, ngF, fun _ _ _ => none)
set_option maxRecDepth 1000000 in
theorem nq57 : nrchk kt0 [nc49, nc54] nw57 3000 rc57 = true := by decide +kernel
-- LPModel.cellTo, steps 312
def nw58 : nOr := (nXor (nrcX (ktT rc58.1.2.1) rc58.1.2.1 rc46 ksi222s) (nXor (nrcX (ktT rc58.1.2.1) rc58.1.2.1 rc46l ksi222l) (nXor (nrcX (ktT rc58.1.2.1) rc58.1.2.1 rc57 ksi238) (ktX rc58.1.2.1))), ngH, ngF, fun y pc x => bif Nat.beq y 240 && Nat.beq pc 140 then some ([((2, 185, 14), 0, 900), ((2, 186, 2537), 1, 8)], [([(1, 4, 1, 0), ((-1), 2, 185, 14)], (-1))], (1, true), [], [(186, 2482, 2484), (186, 2535, 2536)], 219) else none)
set_option maxRecDepth 1000000 in
theorem nq58 : nrchk kt0 [nc48, nc49, nc50, nc51, nc52, nc53] nw58 3000 rc58 = true := by decide +kernel
-- LPModel.aPerson, steps 1830
def nw59 : nOr := (nXor (nrcX (ktT rc59.1.2.1) rc59.1.2.1 rc46 ksi222s) (nXor (nrcX (ktT rc59.1.2.1) rc59.1.2.1 rc46l ksi222l) (ktX rc59.1.2.1)), ngH, ngF, fun _ _ _ => none)
set_option maxRecDepth 1000000 in
theorem nq59 : nrchk kt0 [nc49, nc54] nw59 3000 rc59 = true := by decide +kernel
-- LPModel.cellTo, steps 312
def nw60 : nOr := (nXor (nrcX (ktT rc60.1.2.1) rc60.1.2.1 rc46 ksi222s) (nXor (nrcX (ktT rc60.1.2.1) rc60.1.2.1 rc46l ksi222l) (nXor (nrcX (ktT rc60.1.2.1) rc60.1.2.1 rc59 ksi238) (ktX rc60.1.2.1))), ngH, ngF, fun y pc x => bif Nat.beq y 240 && Nat.beq pc 140 then some ([((2, 185, 14), 0, 900), ((2, 186, 2551), 1, 8)], [([(1, 4, 1, 0), ((-1), 2, 185, 14)], (-1))], (1, true), [], [(186, 2482, 2484), (186, 2549, 2550)], 219) else none)
set_option maxRecDepth 1000000 in
theorem nq60 : nrchk kt0 [nc48, nc49, nc50, nc51, nc52, nc53] nw60 3000 rc60 = true := by decide +kernel
-- LPModel.aPerson, steps 1830
