def nw59 : nOr := (nXor (nrcX (ktT rc59.1.2.1) rc59.1.2.1 rc46 ksi222s) (nXor (nrcX (ktT rc59.1.2.1) rc59.1.2.1 rc46l ksi222l) (ktX rc59.1.2.1)), ngH, ngF, fun _ _ _ => none)
set_option maxRecDepth 1000000 in
theorem nq59 : nrchk kt0 [nc49, nc54] nw59 3000 rc59 = true := by decide +kernel
-- LPModel.cellTo, steps 312
def nw60 : nOr := (nXor (nrcX (ktT rc60.1.2.1) rc60.1.2.1 rc46 ksi222s) (nXor (nrcX (ktT rc60.1.2.1) rc60.1.2.1 rc46l ksi222l) (nXor (nrcX (ktT rc60.1.2.1) rc60.1.2.1 rc59 ksi238) (ktX rc60.1.2.1))), ngH, ngF, fun y pc x => bif Nat.beq y 240 && Nat.beq pc 140 then some ([((2, 185, 14), 0, 900), ((2, 186, 2551), 1, 8)], [([(1, 4, 1, 0), ((-1), 2, 185, 14)], (-1))], (1, true), [], [(186, 2482, 2484), (186, 2549, 2550)], 219) else none)
set_option maxRecDepth 1000000 in
theorem nq60 : nrchk kt0 [nc48, nc49, nc50, nc51, nc52, nc53] nw60 3000 rc60 = true := by decide +kernel
-- LPModel.aPerson, steps 1830
def nw61 : nOr := (nXor (nrcX (ktT rc61.1.2.1) rc61.1.2.1 rc46 ksi222s) (nXor (nrcX (ktT rc61.1.2.1) rc61.1.2.1 rc46l ksi222l) (ktX rc61.1.2.1)), ngH, ngF, fun _ _ _ => none)
set_option maxRecDepth 1000000 in
theorem nq61 : nrchk kt0 [nc49, nc54] nw61 3000 rc61 = true := by decide +kernel
-- LPModel.cellTo, steps 312
def nw62 : nOr := (nXor (nrcX (ktT rc62.1.2.1) rc62.1.2.1 rc46 ksi222s) (nXor (nrcX (ktT rc62.1.2.1) rc62.1.2.1 rc46l ksi222l) (nXor (nrcX (ktT rc62.1.2.1) rc62.1.2.1 rc61 ksi238) (ktX rc62.1.2.1))), ngH, ngF, fun y pc x => bif Nat.beq y 240 && Nat.beq pc 140 then some ([((2, 185, 14), 0, 900), ((2, 186, 2565), 1, 8)], [([(1, 4, 1, 0), ((-1), 2, 185, 14)], (-1))], (1, true), [], [(186, 2482, 2484), (186, 2563, 2564)], 219) else none)
set_option maxRecDepth 1000000 in
theorem nq62 : nrchk kt0 [nc48, nc49, nc50, nc51, nc52, nc53] nw62 3000 rc62 = true := by decide +kernel
-- LPModel.aPerson, steps 1830
def nw63 : nOr := (nXor (nrcX (ktT rc63.1.2.1) rc63.1.2.1 rc46 ksi222s) (nXor (nrcX (ktT rc63.1.2.1) rc63.1.2.1 rc46l ksi222l) (ktX rc63.1.2.1)), ngH, ngF, fun _ _ _ => none)
set_option maxRecDepth 1000000 in
theorem nq63 : nrchk kt0 [nc49, nc54] nw63 3000 rc63 = true := by decide +kernel
-- LPModel.cellTo, steps 312
