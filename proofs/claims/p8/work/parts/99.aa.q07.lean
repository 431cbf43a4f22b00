def nw75 : nOr := (ktX nc75.2.1, ngH, ngF, fun _ _ _ => none)
set_option maxRecDepth 1000000 in
theorem nq75 : ncheck kt0 [nc73, nc74] nw75 3000 nc75 = true := by decide +kernel
-- LP.runs, steps 94
def nw76 : nOr := (ktX nc76.2.1, ngH, ngF, fun y pc x => bif Nat.beq y 232 && Nat.beq pc 2 then some ([((0, 3, 0), 0, 5)], [], (0, true), [], [], 28) else none)
set_option maxRecDepth 1000000 in
theorem nq76 : ncheck kt0 [nc50] nw76 3000 nc76 = true := by decide +kernel
-- LPModel.findHere, steps 28
def nw77 : nOr := (ktX nc77.2.1, ngH, ngF, fun y pc x => bif Nat.beq y 232 && Nat.beq pc 2 then some ([((0, 3, 0), 0, 4)], [], (0, true), [], [], 28) else none)
set_option maxRecDepth 1000000 in
theorem nq77 : ncheck kt0 [nc50] nw77 3000 nc77 = true := by decide +kernel
-- LPModel.findHere, steps 28
def nw78 : nOr := (ktX nc78.2.1, ngH, ngF, fun y pc x => bif Nat.beq y 232 && Nat.beq pc 2 then some ([((0, 3, 0), 0, 6)], [], (0, true), [], [], 28) else none)
set_option maxRecDepth 1000000 in
theorem nq78 : ncheck kt0 [nc50] nw78 3000 nc78 = true := by decide +kernel
-- LPModel.findHere, steps 28
def nw79 : nOr := (nXor (nrcX (ktT rc79.1.2.1) rc79.1.2.1 rc46 ksi222s) (nXor (nrcX (ktT rc79.1.2.1) rc79.1.2.1 rc46l ksi222l) (ktX rc79.1.2.1)), ngH, ngF, fun _ _ _ => none)
set_option maxRecDepth 1000000 in
theorem nq79 : nrchk kt0 [nc48, nc49, nc76, nc77, nc78] nw79 3000 rc79 = true := by decide +kernel
-- LPModel.runStep, steps 5927
