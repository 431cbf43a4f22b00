def nw220 : nOr := (ktX nc220.2.1, ngH, ngF, fun _ _ _ => none)
set_option maxRecDepth 1000000 in
theorem nq220 : ncheck kt0 [] nw220 3000 nc220 = true := by decide +kernel
-- LPModel.wrongCells, steps 35
def nw221 : nOr := (ktX nc221.2.1, ngH, ngF, fun _ _ _ => none)
set_option maxRecDepth 1000000 in
theorem nq221 : ncheck kt0 [] nw221 3000 nc221 = true := by decide +kernel
-- LPModel.stepFrom, steps 438
def nw222 : nOr := (ktX nc222.2.1, ngH, ngF, fun y pc x => bif Nat.beq y 329 && Nat.beq pc 10 then some ([((0, 3, 0), (-1), 33), ((0, 4, 0), 1, 20)], [], (1, true), [], [(195, 0, 0)], 60) else none)
set_option maxRecDepth 1000000 in
theorem nq222 : ncheck kt0 [nc221] nw222 3000 nc222 = true := by decide +kernel
-- LPModel.doesFit, steps 45
def nw223 : nOr := (ktX nc223.2.1, ngH, ngF, fun y pc x => bif Nat.beq y 330 && Nat.beq pc 5 then some ([((0, 3, 0), (-2147483648), 2147483647), ((0, 4, 0), 0, 4)], [], (1, true), [], [], 18) else bif Nat.beq y 330 && Nat.beq pc 27 then some ([((0, 4, 0), (-2147483648), 2147483647), ((0, 5, 0), 0, 2147483647)], [], (1, true), [], [], 122) else bif Nat.beq y 330 && Nat.beq pc 42 then some ([((0, 6, 0), 0, 2147483646), ((0, 7, 0), (-1), 3)], [], (1, false), [], [], 67) else bif Nat.beq y 330 && Nat.beq pc 85 then some ([((0, 7, 0), 0, 4)], [], (0, true), [], [], 113) else none)
set_option maxRecDepth 1000000 in
theorem nq223 : ncheck kt0 [nc222] nw223 3000 nc223 = true := by decide +kernel
-- LPModel.rowsOf, steps 84
def nw224 : nOr := (ktX nc224.2.1, ngH, ngF, fun _ _ _ => none)
set_option maxRecDepth 1000000 in
theorem nq224 : ncheck kt0 [nc218, nc219, nc220, nc223] nw224 3000 nc224 = true := by decide +kernel
-- LPModel.steps, steps 205
def nw225 : nOr := (ktX nc225.2.1, ngH, ngF, fun _ _ _ => none)
set_option maxRecDepth 1000000 in
theorem nq225 : ncheck kt0 [nc209, nc210, nc211, nc212, nc216] nw225 3000 nc225 = true := by decide +kernel
-- LP.stepsAt, steps 473
def nw226 : nOr := (ktX nc226.2.1, ngH, ngF, fun _ _ _ => none)
set_option maxRecDepth 1000000 in
theorem nq226 : ncheck kt0 [nc218, nc219, nc220, nc223] nw226 3000 nc226 = true := by decide +kernel
-- LPModel.stepsAt, steps 664
def nw227 : nOr := (ktX nc227.2.1, ngH, ngF, fun y pc x => bif Nat.beq y 189 && Nat.beq pc 20 then some ([((0, 4, 0), 1, 5)], [], (0, true), [], [(6, 0, 3), (7, 0, 3)], 55) else none)
set_option maxRecDepth 1000000 in
theorem nq227 : ncheck kt0 [nc209, nc210, nc211, nc212, nc216] nw227 3000 nc227 = true := by decide +kernel
-- LP.period, steps 415
def nw228 : nOr := (ktX nc228.2.1, ngH, ngF, fun y pc x => bif Nat.beq y 334 && Nat.beq pc 20 then some ([((0, 4, 0), 1, 5), ((2, 186, 5), 0, 999)], [], (0, true), [], [], 46) else none)
set_option maxRecDepth 1000000 in
theorem nq228 : ncheck kt0 [nc218, nc219, nc220, nc223] nw228 3000 nc228 = true := by decide +kernel
-- LPModel.period, steps 81
def nw229 : nOr := (ktX nc229.2.1, ngH, ngF, fun y pc x => bif Nat.beq y 191 && Nat.beq pc 69 then some ([((0, 5, 0), 0, 20)], [], (0, true), [], [(6, 0, 3), (7, 0, 3), (12, 0, 0)], 98) else none)
set_option maxRecDepth 1000000 in
theorem nq229 : ncheck kt0 [nc174] nw229 3000 nc229 = true := by decide +kernel
-- LP.copyWay, steps 252
def nw230 : nOr := (ktX nc230.2.1, ngH, ngF, fun y pc x => bif Nat.beq y 284 && Nat.beq pc 2 then some ([((0, 1, 0), 0, 5)], [], (0, true), [], [(186, 2, 2), (186, 5, 5), (188, 0, 3), (189, 0, 3)], 20) else bif Nat.beq y 335 && Nat.beq pc 75 then some ([((0, 4, 0), 0, 20), ((2, 186, 5), 0, 1199)], [([(1, 2, 186, 5), ((-1), 0, 4, 0)], 999)], (0, true), [], [(186, 2, 2), (189, 0, 3)], 133) else none)
set_option maxRecDepth 1000000 in
theorem nq230 : ncheck kt0 [nc83, nc93, nc120, nc121, nc122, nc123, nc124, nc152, nc153] nw230 3000 nc230 = true := by decide +kernel
-- LPModel.copyWay, steps 5771
