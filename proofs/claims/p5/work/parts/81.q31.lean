def nw250 : nOr := (ktX nc250.2.1, ngH, ngF, fun y pc x => bif Nat.beq y 115 && Nat.beq pc 3 then some ([((0, 2, 0), 0, 120)], [], (0, false), [], [], 23) else none)
set_option maxRecDepth 1000000 in
theorem nq250 : ncheck kt0 [] nw250 3000 nc250 = true := by decide +kernel
-- LP$World.latestPrintOf, steps 19
def nw251 : nOr := (ktX nc251.2.1, ngH, ngF, fun y pc x => bif Nat.beq y 18 && Nat.beq pc 2 then some ([((0, 2, 0), 0, 5)], [], (0, true), [], [(10, 4, 5), (12, 1, 1), (32, 0, 3), (33, 1, 120), (67, 2, 4)], 47) else bif Nat.beq y 66 && Nat.beq pc 62 then some ([((0, 4, 0), 0, 9999), ((2, 12, 1), 0, 999)], [([(1, 2, 12, 1), (1, 0, 3, 0), ((-1), 0, 4, 0)], 999)], (0, true), [], [(10, 4, 5), (67, 2, 4)], 76) else none)
set_option maxRecDepth 1000000 in
theorem nq251 : ncheck kt0 [nc124, nc126] nw251 3000 nc251 = true := by decide +kernel
-- LP$Runner.buyAll, steps 484
def nw252 : nOr := (ktX nc252.2.1, ngH, ngF, fun y pc x => bif Nat.beq y 18 && Nat.beq pc 2 then some ([((0, 2, 0), 0, 5)], [], (0, true), [], [(12, 1, 1), (67, 2, 2)], 47) else bif Nat.beq y 67 && Nat.beq pc 31 then some ([((0, 3, 0), 0, 99), ((2, 12, 1), 0, 999)], [([(1, 2, 12, 1), (1, 0, 2, 0), ((-1), 0, 3, 0)], 999)], (0, true), [], [(67, 2, 2)], 44) else none)
set_option maxRecDepth 1000000 in
theorem nq252 : ncheck kt0 [nc124, nc126] nw252 3000 nc252 = true := by decide +kernel
-- LP$Runner.skipAll, steps 101
def nw253 : nOr := (ktX nc253.2.1, ngH, ngF, fun y pc x => bif Nat.beq y 62 && Nat.beq pc 46 then some ([((0, 4, 0), 0, 60), ((0, 5, 0), 0, 1000000)], [], (1, true), [], [(67, 5, 5)], 130) else none)
set_option maxRecDepth 1000000 in
theorem nq253 : ncheck kt0 [nc85, nc250, nc251, nc252] nw253 3000 nc253 = true := by decide +kernel
-- LP$Runner.run, steps 1565
def nw254 : nOr := (ktX nc254.2.1, ngH, ngF, fun _ _ _ => none)
set_option maxRecDepth 1000000 in
theorem nq254 : ncheck kt0 [nc253] nw254 3000 nc254 = true := by decide +kernel
-- LP.live, steps 126
def nw255 : nOr := (ktX nc255.2.1, ngH, ngF, fun y pc x => bif Nat.beq y 284 && Nat.beq pc 2 then some ([((0, 1, 0), 0, 5)], [], (0, true), [], [(186, 5, 7), (186, 127, 131)], 20) else bif Nat.beq y 339 && Nat.beq pc 39 then some ([((0, 4, 0), 0, 9999), ((2, 186, 5), 0, 999)], [], (0, true), [], [], 54) else none)
set_option maxRecDepth 1000000 in
theorem nq255 : ncheck kt0 [nc129, nc130, nc131, nc132, nc133, nc154] nw255 3000 nc255 = true := by decide +kernel
-- LPModel.buysBy, steps 1791
