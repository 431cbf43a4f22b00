def nw229 : nOr := (ktX nc229.2.1, ngH, ngF, fun _ _ _ => none)
set_option maxRecDepth 1000000 in
theorem nq229 : ncheck kt0 [] nw229 3000 nc229 = true := by decide +kernel
-- LPModel.wrongCells, steps 35
def nw230 : nOr := (ktX nc230.2.1, ngH, ngF, fun _ _ _ => none)
set_option maxRecDepth 1000000 in
theorem nq230 : ncheck kt0 [] nw230 3000 nc230 = true := by decide +kernel
-- LPModel.stepFrom, steps 438
def nw231 : nOr := (ktX nc231.2.1, ngH, ngF, fun y pc x => bif Nat.beq y 329 && Nat.beq pc 10 then some ([((0, 3, 0), (-1), 33), ((0, 4, 0), 1, 20)], [], (1, true), [], [(195, 0, 0)], 60) else none)
set_option maxRecDepth 1000000 in
theorem nq231 : ncheck kt0 [nc230] nw231 3000 nc231 = true := by decide +kernel
-- LPModel.doesFit, steps 45
def nw232 : nOr := (ktX nc232.2.1, ngH, ngF, fun y pc x => bif Nat.beq y 330 && Nat.beq pc 5 then some ([((0, 3, 0), (-2147483648), 2147483647), ((0, 4, 0), 0, 4)], [], (1, true), [], [], 18) else bif Nat.beq y 330 && Nat.beq pc 27 then some ([((0, 4, 0), (-2147483648), 2147483647), ((0, 5, 0), 0, 2147483647)], [], (1, true), [], [], 122) else bif Nat.beq y 330 && Nat.beq pc 42 then some ([((0, 6, 0), 0, 2147483646), ((0, 7, 0), (-1), 3)], [], (1, false), [], [], 67) else bif Nat.beq y 330 && Nat.beq pc 85 then some ([((0, 7, 0), 0, 4)], [], (0, true), [], [], 113) else none)
set_option maxRecDepth 1000000 in
theorem nq232 : ncheck kt0 [nc231] nw232 3000 nc232 = true := by decide +kernel
-- LPModel.rowsOf, steps 84
def nw233 : nOr := (ktX nc233.2.1, ngH, ngF, fun _ _ _ => none)
set_option maxRecDepth 1000000 in
theorem nq233 : ncheck kt0 [nc227, nc228, nc229, nc232] nw233 3000 nc233 = true := by decide +kernel
-- LPModel.steps, steps 205
def nw234 : nOr := (ktX nc234.2.1, ngH, ngF, fun _ _ _ => none)
set_option maxRecDepth 1000000 in
theorem nq234 : ncheck kt0 [nc218, nc219, nc220, nc221, nc225] nw234 3000 nc234 = true := by decide +kernel
-- LP.stepsAt, steps 473
def nw235 : nOr := (ktX nc235.2.1, ngH, ngF, fun _ _ _ => none)
set_option maxRecDepth 1000000 in
theorem nq235 : ncheck kt0 [nc227, nc228, nc229, nc232] nw235 3000 nc235 = true := by decide +kernel
-- LPModel.stepsAt, steps 664
def nw236 : nOr := (ktX nc236.2.1, ngH, ngF, fun y pc x => bif Nat.beq y 189 && Nat.beq pc 20 then some ([((0, 4, 0), 1, 5)], [], (0, true), [], [(6, 0, 3), (7, 0, 3)], 55) else none)
set_option maxRecDepth 1000000 in
theorem nq236 : ncheck kt0 [nc218, nc219, nc220, nc221, nc225] nw236 3000 nc236 = true := by decide +kernel
-- LP.period, steps 415
def nw237 : nOr := (ktX nc237.2.1, ngH, ngF, fun y pc x => bif Nat.beq y 334 && Nat.beq pc 20 then some ([((0, 4, 0), 1, 5), ((2, 186, 5), 0, 999)], [], (0, true), [], [], 46) else none)
set_option maxRecDepth 1000000 in
theorem nq237 : ncheck kt0 [nc227, nc228, nc229, nc232] nw237 3000 nc237 = true := by decide +kernel
-- LPModel.period, steps 81
def nw238 : nOr := (ktX nc238.2.1, ngH, ngF, fun y pc x => bif Nat.beq y 191 && Nat.beq pc 69 then some ([((0, 5, 0), 0, 20)], [], (0, true), [], [(6, 0, 3), (7, 0, 3), (12, 0, 0)], 98) else none)
set_option maxRecDepth 1000000 in
theorem nq238 : ncheck kt0 [nc183] nw238 3000 nc238 = true := by decide +kernel
-- LP.copyWay, steps 252
def nw239 : nOr := (ktX nc239.2.1, ngH, ngF, fun y pc x => bif Nat.beq y 284 && Nat.beq pc 2 then some ([((0, 1, 0), 0, 5)], [], (0, true), [], [(186, 2, 2), (186, 5, 5), (188, 0, 3), (189, 0, 3)], 20) else bif Nat.beq y 335 && Nat.beq pc 75 then some ([((0, 4, 0), 0, 20), ((2, 186, 5), 0, 1199)], [([(1, 2, 186, 5), ((-1), 0, 4, 0)], 999)], (0, true), [], [(186, 2, 2), (189, 0, 3)], 133) else none)
set_option maxRecDepth 1000000 in
theorem nq239 : ncheck kt0 [nc92, nc102, nc129, nc130, nc131, nc132, nc133, nc161, nc162] nw239 3000 nc239 = true := by decide +kernel
-- LPModel.copyWay, steps 5771
