def nw66 : nOr := (ktX nc66.2.1, ngH, ngF, fun _ _ _ => none)
set_option maxRecDepth 1000000 in
theorem nq66 : ncheck kt0 [nc64, nc65] nw66 3000 nc66 = true := by decide +kernel
-- LP.runs, steps 94
def nw67 : nOr := (ktX nc67.2.1, ngH, ngF, fun y pc x => bif Nat.beq y 232 && Nat.beq pc 2 then some ([((0, 3, 0), 0, 5)], [], (0, true), [], [], 28) else none)
set_option maxRecDepth 1000000 in
theorem nq67 : ncheck kt0 [nc46] nw67 3000 nc67 = true := by decide +kernel
-- LPModel.findHere, steps 28
def nw68 : nOr := (ktX nc68.2.1, ngH, ngF, fun y pc x => bif Nat.beq y 232 && Nat.beq pc 2 then some ([((0, 3, 0), 0, 4)], [], (0, true), [], [], 28) else none)
set_option maxRecDepth 1000000 in
theorem nq68 : ncheck kt0 [nc46] nw68 3000 nc68 = true := by decide +kernel
-- LPModel.findHere, steps 28
def nw69 : nOr := (ktX nc69.2.1, ngH, ngF, fun y pc x => bif Nat.beq y 232 && Nat.beq pc 2 then some ([((0, 3, 0), 0, 6)], [], (0, true), [], [], 28) else none)
set_option maxRecDepth 1000000 in
theorem nq69 : ncheck kt0 [nc46] nw69 3000 nc69 = true := by decide +kernel
-- LPModel.findHere, steps 28
def nw70 : nOr := (nXor (nrcX (ktT rc70.1.2.1) rc70.1.2.1 rc43 ksi222s) (nXor (nrcX (ktT rc70.1.2.1) rc70.1.2.1 rc43l ksi222l) (ktX rc70.1.2.1)), ngH, ngF, fun _ _ _ => none)
set_option maxRecDepth 1000000 in
theorem nq70 : nrchk kt0 [nc45, nc67, nc68, nc69] nw70 3000 rc70 = true := by decide +kernel
-- LPModel.runStep, steps 11596
