def nw47 : nOr := (nXor (nrcX (ktT nc47.2.1) nc47.2.1 rc46 ksi222s) (nXor (nrcX (ktT nc47.2.1) nc47.2.1 rc46l ksi222l) (ktX nc47.2.1)), ngH, ngF, fun y pc x => bif Nat.beq y 226 && Nat.beq pc 26 then some ([((0, 3, 0), 0, 900)], [], (0, true), [], [(185, 10, 11)], 46) else none)
set_option maxRecDepth 1000000 in
theorem nq47 : ncheck kt0 [] nw47 3000 nc47 = true := by decide +kernel
-- LPModel.begins, steps 54
def nw48 : nOr := (ktX nc48.2.1, ngH, ngF, fun y pc x => bif Nat.beq y 224 && Nat.beq pc 14 then some ([((0, 2, 0), 0, 162), ((0, 3, 0), 1, 163)], [([(1, 0, 2, 0), ((-1), 0, 3, 0)], (-1))], (0, true), [], [(185, 12, 12)], 130) else bif Nat.beq y 224 && Nat.beq pc 25 then some ([((0, 4, 0), 1, 162)], [([(1, 0, 3, 0), ((-1), 0, 4, 0)], 0)], (0, true), [], [(185, 12, 12)], 39) else bif Nat.beq y 224 && Nat.beq pc 68 then some ([((0, 5, 0), 0, 1), ((0, 6, 0), 1, 162)], [([(1, 0, 3, 0), ((-1), 0, 6, 0)], 0)], (1, true), [], [(185, 12, 14)], 112) else none)
set_option maxRecDepth 1000000 in
theorem nq48 : ncheck kt0 [] nw48 3000 nc48 = true := by decide +kernel
-- LPModel.inWords, steps 344
def nw49 : nOr := (ktX nc49.2.1, ngH, ngF, fun _ _ _ => none)
set_option maxRecDepth 1000000 in
theorem nq49 : ncheck kt0 [] nw49 3000 nc49 = true := by decide +kernel
-- LPModel.fails, steps 27
def nw50 : nOr := (ktX nc50.2.1, ngH, ngF, fun y pc x => bif Nat.beq y 231 && Nat.beq pc 7 then some ([((1, 1, 0), (-9223372036854775808), 9223372036854775807), ((0, 3, 0), 0, 900)], [], (1, true), [], [(185, 13, 13)], 30) else none)
set_option maxRecDepth 1000000 in
theorem nq50 : ncheck kt0 [] nw50 3000 nc50 = true := by decide +kernel
-- LPModel.nameHere, steps 44
def nw51 : nOr := (ktX nc51.2.1, ngH, ngF, fun y pc x => bif Nat.beq y 232 && Nat.beq pc 2 then some ([((0, 3, 0), 0, 5)], [], (0, true), [], [], 28) else none)
set_option maxRecDepth 1000000 in
theorem nq51 : ncheck kt0 [nc50] nw51 3000 nc51 = true := by decide +kernel
-- LPModel.findHere, steps 28
def nw52 : nOr := (ktX nc52.2.1, ngH, ngF, fun y pc x => bif Nat.beq y 232 && Nat.beq pc 2 then some ([((0, 3, 0), 0, 6)], [], (0, true), [], [], 28) else none)
set_option maxRecDepth 1000000 in
theorem nq52 : ncheck kt0 [nc50] nw52 3000 nc52 = true := by decide +kernel
-- LPModel.findHere, steps 28
def nw53 : nOr := (ktX nc53.2.1, ngH, ngF, fun y pc x => bif Nat.beq y 232 && Nat.beq pc 2 then some ([((0, 3, 0), 0, 4)], [], (0, true), [], [], 28) else none)
set_option maxRecDepth 1000000 in
theorem nq53 : ncheck kt0 [nc50] nw53 3000 nc53 = true := by decide +kernel
-- LPModel.findHere, steps 28
def nw54 : nOr := (ktX nc54.2.1, ngH, ngF, fun y pc x => bif Nat.beq y 239 && Nat.beq pc 22 then some ([((0, 2, 0), 0, 1), ((0, 3, 0), 0, 5)], [], (1, true), [], [(186, 2490, 2519)], 64) else none)
set_option maxRecDepth 1000000 in
theorem nq54 : ncheck kt0 [] nw54 3000 nc54 = true := by decide +kernel
-- LPModel.isToldCell, steps 213
def nw55 : nOr := (nXor (nrcX (ktT rc55.1.2.1) rc55.1.2.1 rc46 ksi222s) (nXor (nrcX (ktT rc55.1.2.1) rc55.1.2.1 rc46l ksi222l) (ktX rc55.1.2.1)), ngH, ngF, fun _ _ _ => none)
set_option maxRecDepth 1000000 in
theorem nq55 : nrchk kt0 [nc49, nc54] nw55 3000 rc55 = true := by decide +kernel
-- LPModel.cellTo, steps 312
def nw56 : nOr := (nXor (nrcX (ktT rc56.1.2.1) rc56.1.2.1 rc46 ksi222s) (nXor (nrcX (ktT rc56.1.2.1) rc56.1.2.1 rc46l ksi222l) (nXor (nrcX (ktT rc56.1.2.1) rc56.1.2.1 rc55 ksi238) (ktX rc56.1.2.1))), ngH, ngF, fun y pc x => bif Nat.beq y 240 && Nat.beq pc 140 then some ([((2, 185, 14), 0, 900), ((2, 186, 2523), 1, 8)], [([(1, 4, 1, 0), ((-1), 2, 185, 14)], (-1))], (1, true), [], [(186, 2482, 2484), (186, 2521, 2522)], 219) else none)
set_option maxRecDepth 1000000 in
theorem nq56 : nrchk kt0 [nc48, nc49, nc50, nc51, nc52, nc53] nw56 3000 rc56 = true := by decide +kernel
-- LPModel.aPerson, steps 1830
def nw57 : nOr := (nXor (nrcX (ktT rc57.1.2.1) rc57.1.2.1 rc46 ksi222s) (nXor (nrcX (ktT rc57.1.2.1) rc57.1.2.1 rc46l ksi222l) (ktX rc57.1.2.1)), ngH, ngF, fun _ _ _ => none)
set_option maxRecDepth 1000000 in
theorem nq57 : nrchk kt0 [nc49, nc54] nw57 3000 rc57 = true := by decide +kernel
-- LPModel.cellTo, steps 312
def nw58 : nOr := (nXor (nrcX (ktT rc58.1.2.1) rc58.1.2.1 rc46 ksi222s) (nXor (nrcX (ktT rc58.1.2.1) rc58.1.2.1 rc46l ksi222l) (nXor (nrcX (ktT rc58.1.2.1) rc58.1.2.1 rc57 ksi238) (ktX rc58.1.2.1))), ngH, ngF, fun y pc x => bif Nat.beq y 240 && Nat.beq pc 140 then some ([((2, 185, 14), 0, 900), ((2, 186, 2537), 1, 8)], [([(1, 4, 1, 0), ((-1), 2, 185, 14)], (-1))], (1, true), [], [(186, 2482, 2484), (186, 2535, 2536)], 219) else none)
set_option maxRecDepth 1000000 in
theorem nq58 : nrchk kt0 [nc48, nc49, nc50, nc51, nc52, nc53] nw58 3000 rc58 = true := by decide +kernel
-- LPModel.aPerson, steps 1830
