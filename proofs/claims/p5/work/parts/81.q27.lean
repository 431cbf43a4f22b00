def nw238 : nOr := (ktX nc238.2.1, ngH, ngF, fun y pc x => bif Nat.beq y 102 && Nat.beq pc 6 then some ([((0, 4, 0), (-2147483648), 2147483647), ((0, 5, 0), 0, 5)], [], (1, true), [], [], 82) else bif Nat.beq y 102 && Nat.beq pc 18 then some ([((0, 4, 0), (-2147483648), 2147483647), ((0, 6, 0), 0, 6)], [], (1, true), [], [(11, 1, 1)], 76) else none)
set_option maxRecDepth 1000000 in
theorem nq238 : ncheck kt0 [nc233] nw238 3000 nc238 = true := by decide +kernel
-- LP$Tracks.originSet, steps 317
def nw239 : nOr := (ktX nc239.2.1, ngH, ngF, fun _ _ _ => none)
set_option maxRecDepth 1000000 in
theorem nq239 : ncheck kt0 [nc238] nw239 3000 nc239 = true := by decide +kernel
-- LP.origin, steps 431
def nw240 : nOr := (ktX nc240.2.1, ngH, ngF, fun y pc x => bif Nat.beq y 337 && Nat.beq pc 57 then some ([((0, 5, 0), (-2147483648), 2147483647), ((0, 6, 0), 0, 30), ((2, 186, 5), 0, 999)], [], (1, true), [], [(186, 0, 1), (186, 10, 39)], 130) else none)
set_option maxRecDepth 1000000 in
theorem nq240 : ncheck kt0 [nc119] nw240 3000 nc240 = true := by decide +kernel
-- LPModel.origin, steps 2193
def nw241 : nOr := (ktX nc241.2.1, ngH, ngF, fun y pc x => bif Nat.beq y 115 && Nat.beq pc 3 then some ([((0, 2, 0), 0, 120)], [], (0, false), [], [], 23) else none)
set_option maxRecDepth 1000000 in
theorem nq241 : ncheck kt0 [] nw241 3000 nc241 = true := by decide +kernel
-- LP$World.latestPrintOf, steps 19
def nw242 : nOr := (ktX nc242.2.1, ngH, ngF, fun y pc x => bif Nat.beq y 18 && Nat.beq pc 2 then some ([((0, 2, 0), 0, 5)], [], (0, true), [], [(10, 4, 5), (12, 1, 1), (32, 0, 3), (33, 1, 120), (67, 2, 4)], 47) else bif Nat.beq y 66 && Nat.beq pc 62 then some ([((0, 4, 0), 0, 9999), ((2, 12, 1), 0, 999)], [([(1, 2, 12, 1), (1, 0, 3, 0), ((-1), 0, 4, 0)], 999)], (0, true), [], [(10, 4, 5), (67, 2, 4)], 76) else none)
set_option maxRecDepth 1000000 in
theorem nq242 : ncheck kt0 [nc115, nc117] nw242 3000 nc242 = true := by decide +kernel
-- LP$Runner.buyAll, steps 484
def nw243 : nOr := (ktX nc243.2.1, ngH, ngF, fun y pc x => bif Nat.beq y 18 && Nat.beq pc 2 then some ([((0, 2, 0), 0, 5)], [], (0, true), [], [(12, 1, 1), (67, 2, 2)], 47) else bif Nat.beq y 67 && Nat.beq pc 31 then some ([((0, 3, 0), 0, 99), ((2, 12, 1), 0, 999)], [([(1, 2, 12, 1), (1, 0, 2, 0), ((-1), 0, 3, 0)], 999)], (0, true), [], [(67, 2, 2)], 44) else none)
set_option maxRecDepth 1000000 in
theorem nq243 : ncheck kt0 [nc115, nc117] nw243 3000 nc243 = true := by decide +kernel
-- LP$Runner.skipAll, steps 101
def nw244 : nOr := (ktX nc244.2.1, ngH, ngF, fun y pc x => bif Nat.beq y 62 && Nat.beq pc 46 then some ([((0, 4, 0), 0, 60), ((0, 5, 0), 0, 1000000)], [], (1, true), [], [(67, 5, 5)], 130) else none)
set_option maxRecDepth 1000000 in
theorem nq244 : ncheck kt0 [nc76, nc241, nc242, nc243] nw244 3000 nc244 = true := by decide +kernel
-- LP$Runner.run, steps 1565
