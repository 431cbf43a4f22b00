def nw55 : nOr := (nXor (nrcX (ktT rc55.1.2.1) rc55.1.2.1 rc43 ksi222s) (nXor (nrcX (ktT rc55.1.2.1) rc55.1.2.1 rc43l ksi222l) (ktX rc55.1.2.1)), ngH, ngF, fun y pc x => bif Nat.beq y 240 && Nat.beq pc 140 then some ([((2, 185, 14), 0, 900), ((2, 186, 2579), 1, 8)], [([(1, 4, 1, 0), ((-1), 2, 185, 14)], (-1))], (1, true), [], [(186, 2480, 2484), (186, 2576, 2578), (186, 3092, 3093)], 219) else none)
set_option maxRecDepth 1000000 in
theorem nq55 : nrchk kt0 [nc45, nc46, nc47, nc48, nc49, nc50] nw55 3000 rc55 = true := by decide +kernel
-- LPModel.aPerson, steps 8456
