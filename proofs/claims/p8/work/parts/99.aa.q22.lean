def nw247 : nOr := (ktX nc247.2.1, ngH, ngF, fun y pc x => bif Nat.beq y 102 && Nat.beq pc 6 then some ([((0, 4, 0), (-2147483648), 2147483647), ((0, 5, 0), 0, 5)], [], (1, true), [], [], 82) else bif Nat.beq y 102 && Nat.beq pc 18 then some ([((0, 4, 0), (-2147483648), 2147483647), ((0, 6, 0), 0, 6)], [], (1, true), [], [(11, 1, 1)], 76) else none)
set_option maxRecDepth 1000000 in
theorem nq247 : ncheck kt0 [nc242] nw247 3000 nc247 = true := by decide +kernel
-- LP$Tracks.originSet, steps 317
def nw248 : nOr := (ktX nc248.2.1, ngH, ngF, fun _ _ _ => none)
set_option maxRecDepth 1000000 in
theorem nq248 : ncheck kt0 [nc247] nw248 3000 nc248 = true := by decide +kernel
-- LP.origin, steps 431
def nw249 : nOr := (ktX nc249.2.1, ngH, ngF, fun y pc x => bif Nat.beq y 337 && Nat.beq pc 57 then some ([((0, 5, 0), (-2147483648), 2147483647), ((0, 6, 0), 0, 30), ((2, 186, 5), 0, 999)], [], (1, true), [], [(186, 0, 1), (186, 10, 39)], 130) else none)
set_option maxRecDepth 1000000 in
theorem nq249 : ncheck kt0 [nc128] nw249 3000 nc249 = true := by decide +kernel
-- LPModel.origin, steps 2193
def nw250 : nOr := (ktX nc250.2.1, ngH, ngF, fun y pc x => bif Nat.beq y 115 && Nat.beq pc 3 then some ([((0, 2, 0), 0, 120)], [], (0, false), [], [], 23) else none)
set_option maxRecDepth 1000000 in
theorem nq250 : ncheck kt0 [] nw250 3000 nc250 = true := by decide +kernel
-- LP$World.latestPrintOf, steps 19
def nw251 : nOr := (ktX nc251.2.1, ngH, ngF, fun y pc x => bif Nat.beq y 18 && Nat.beq pc 2 then some ([((0, 2, 0), 0, 5)], [], (0, true), [], [(10, 4, 5), (12, 1, 1), (32, 0, 3), (33, 1, 120), (67, 2, 4)], 47) else bif Nat.beq y 66 && Nat.beq pc 62 then some ([((0, 4, 0), 0, 9999), ((2, 12, 1), 0, 999)], [([(1, 2, 12, 1), (1, 0, 3, 0), ((-1), 0, 4, 0)], 999)], (0, true), [], [(10, 4, 5), (67, 2, 4)], 76) else none)
set_option maxRecDepth 1000000 in
theorem nq251 : ncheck kt0 [nc124, nc126] nw251 3000 nc251 = true := by decide +kernel
-- LP$Runner.buyAll, steps 484
def nw252 : nOr := (ktX nc252.2.1, ngH, ngF, fun y pc x => bif Nat.beq y 18 && Nat.beq pc 2 then some ([((0, 2, 0), 0, 5)], [], (0, true), [], [(12, 1, 1), (67, 2, 2)], 47) else bif Nat.beq y 67 && Nat.beq pc 31 then some ([((0, 3, 0), 0, 99), ((2, 12, 1), 0, 999)], [([(1, 2, 12, 1), (1, 0, 2, 0), ((-1), 0, 3, 0)], 999)], (0, true), [], [(67, 2, 2)], 44) else none)
set_option maxRecDepth 1000000 in
theorem nq252 : ncheck kt0 [nc124, nc126] nw252 3000 nc252 = true := by decide +kernel
-- LP$Runner.skipAll, steps 101
def nw253 : nOr := (ktX nc253.2.1, ngH, ngF, fun y pc x => bif Nat.beq y 62 && Nat.beq pc 46 then some ([((0, 4, 0), 0, 60), ((0, 5, 0), 0, 1000000)], [], (1, true), [], [(67, 5, 5)], 130) else none)
set_option maxRecDepth 1000000 in
theorem nq253 : ncheck kt0 [nc85, nc250, nc251, nc252] nw253 3000 nc253 = true := by decide +kernel
-- LP$Runner.run, steps 1565
