def nw44 : nOr := (nXor (nrcX (ktT nc44.2.1) nc44.2.1 rc43 ksi222s) (nXor (nrcX (ktT nc44.2.1) nc44.2.1 rc43l ksi222l) (ktX nc44.2.1)), ngH, ngF, fun y pc x => bif Nat.beq y 226 && Nat.beq pc 26 then some ([((0, 3, 0), 0, 900)], [], (0, true), [], [(185, 10, 11)], 46) else none)
set_option maxRecDepth 1000000 in
theorem nq44 : ncheck kt0 [] nw44 3000 nc44 = true := by decide +kernel
-- LPModel.begins, steps 54
def nw45 : nOr := (ktX nc45.2.1, ngH, ngF, fun y pc x => bif Nat.beq y 224 && Nat.beq pc 14 then some ([((0, 2, 0), 0, 161), ((0, 3, 0), 1, 162)], [([(1, 0, 2, 0), ((-1), 0, 3, 0)], (-1))], (0, true), [], [(185, 12, 12)], 130) else bif Nat.beq y 224 && Nat.beq pc 25 then some ([((0, 4, 0), 1, 161)], [([(1, 0, 3, 0), ((-1), 0, 4, 0)], 0)], (0, true), [], [(185, 12, 12)], 39) else bif Nat.beq y 224 && Nat.beq pc 68 then some ([((0, 5, 0), 0, 1), ((0, 6, 0), 1, 161)], [([(1, 0, 3, 0), ((-1), 0, 6, 0)], 0)], (1, true), [], [(185, 12, 14)], 112) else none)
set_option maxRecDepth 1000000 in
theorem nq45 : ncheck kt0 [] nw45 3000 nc45 = true := by decide +kernel
-- LPModel.inWords, steps 344
def nw46 : nOr := (ktX nc46.2.1, ngH, ngF, fun y pc x => bif Nat.beq y 231 && Nat.beq pc 7 then some ([((1, 1, 0), (-9223372036854775808), 9223372036854775807), ((0, 3, 0), 0, 900)], [], (1, true), [], [(185, 13, 13)], 30) else none)
set_option maxRecDepth 1000000 in
theorem nq46 : ncheck kt0 [] nw46 3000 nc46 = true := by decide +kernel
-- LPModel.nameHere, steps 44
def nw47 : nOr := (ktX nc47.2.1, ngH, ngF, fun y pc x => bif Nat.beq y 232 && Nat.beq pc 2 then some ([((0, 3, 0), 0, 5)], [], (0, true), [], [], 28) else none)
set_option maxRecDepth 1000000 in
theorem nq47 : ncheck kt0 [nc46] nw47 3000 nc47 = true := by decide +kernel
-- LPModel.findHere, steps 28
def nw48 : nOr := (ktX nc48.2.1, ngH, ngF, fun y pc x => bif Nat.beq y 232 && Nat.beq pc 2 then some ([((0, 3, 0), 0, 6)], [], (0, true), [], [], 28) else none)
set_option maxRecDepth 1000000 in
theorem nq48 : ncheck kt0 [nc46] nw48 3000 nc48 = true := by decide +kernel
-- LPModel.findHere, steps 28
def nw49 : nOr := (ktX nc49.2.1, ngH, ngF, fun y pc x => bif Nat.beq y 232 && Nat.beq pc 2 then some ([((0, 3, 0), 0, 4)], [], (0, true), [], [], 28) else none)
set_option maxRecDepth 1000000 in
theorem nq49 : ncheck kt0 [nc46] nw49 3000 nc49 = true := by decide +kernel
-- LPModel.findHere, steps 28
def nw50 : nOr := (ktX nc50.2.1, ngH, ngF, fun y pc x => bif Nat.beq y 239 && Nat.beq pc 22 then some ([((0, 2, 0), 0, 1), ((0, 3, 0), 0, 5)], [], (1, true), [], [(186, 2490, 2519)], 64) else none)
set_option maxRecDepth 1000000 in
theorem nq50 : ncheck kt0 [] nw50 3000 nc50 = true := by decide +kernel
-- LPModel.isToldCell, steps 213
def nw51 : nOr := (nXor (nrcX (ktT rc51.1.2.1) rc51.1.2.1 rc43 ksi222s) (nXor (nrcX (ktT rc51.1.2.1) rc51.1.2.1 rc43l ksi222l) (ktX rc51.1.2.1)), ngH, ngF, fun y pc x => bif Nat.beq y 240 && Nat.beq pc 140 then some ([((2, 185, 14), 0, 900), ((2, 186, 2523), 1, 8)], [([(1, 4, 1, 0), ((-1), 2, 185, 14)], (-1))], (1, true), [], [(186, 2480, 2484), (186, 2520, 2522), (186, 3092, 3093)], 219) else none)
set_option maxRecDepth 1000000 in
theorem nq51 : nrchk kt0 [nc45, nc46, nc47, nc48, nc49, nc50] nw51 3000 rc51 = true := by decide +kernel
-- LPModel.aPerson, steps 8456
