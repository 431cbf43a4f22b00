def nw253 : nOr := (ktX nc253.2.1, ngH, ngF, fun y pc x => bif Nat.beq y 116 && Nat.beq pc 4 then some ([((0, 1, 0), (-2147483648), 2147483647), ((0, 2, 0), 0, 4)], [], (1, true), [], [], 24) else none)
set_option maxRecDepth 1000000 in
theorem nq253 : ncheck kt0 [] nw253 3000 nc253 = true := by decide +kernel
-- LP$World.allCoins, steps 21
def nw254 : nOr := (ktX nc254.2.1, ngH, ngF, fun y pc x => bif Nat.beq y 115 && Nat.beq pc 3 then some ([((0, 2, 0), 0, 120)], [], (0, false), [], [], 23) else none)
set_option maxRecDepth 1000000 in
theorem nq254 : ncheck kt0 [] nw254 3000 nc254 = true := by decide +kernel
-- LP$World.latestPrintOf, steps 19
def nw255 : nOr := (ktX nc255.2.1, ngH, ngF, fun y pc x => bif Nat.beq y 16 && Nat.beq pc 4 then some ([((0, 2, 0), (-2147483648), 2147483647), ((0, 3, 0), 0, 5)], [], (1, true), [], [], 31) else none)
set_option maxRecDepth 1000000 in
theorem nq255 : ncheck kt0 [] nw255 3000 nc255 = true := by decide +kernel
-- LP$Folk.setIn, steps 29
def nw256 : nOr := (ktX nc256.2.1, ngH, ngF, fun y pc x => bif Nat.beq y 14 && Nat.beq pc 17 then some ([((0, 3, 0), 0, 5)], [], (0, true), [], [], 50) else none)
set_option maxRecDepth 1000000 in
theorem nq256 : ncheck kt0 [] nw256 3000 nc256 = true := by decide +kernel
-- LP$Folk.isFree, steps 44
def nw257 : nOr := (ktX nc257.2.1, ngH, ngF, fun _ _ _ => none)
set_option maxRecDepth 1000000 in
theorem nq257 : ncheck kt0 [nc256] nw257 3000 nc257 = true := by decide +kernel
-- LP$Folk.enter, steps 91
def nw258 : nOr := (ktX nc258.2.1, ngH, ngF, fun _ _ _ => none)
set_option maxRecDepth 1000000 in
theorem nq258 : ncheck kt0 [] nw258 3000 nc258 = true := by decide +kernel
-- LP$Room.beside, steps 2331
def nw259 : nOr := (ktX nc259.2.1, ngH, ngF, fun _ _ _ => none)
set_option maxRecDepth 1000000 in
theorem nq259 : ncheck kt0 [nc256, nc258] nw259 3000 nc259 = true := by decide +kernel
-- LP$Folk.walk, steps 368
def nw260 : nOr := (ktX nc260.2.1, ngH, ngF, fun y pc x => bif Nat.beq y 18 && Nat.beq pc 2 then some ([((0, 2, 0), 0, 5)], [], (0, true), [], [(67, 2, 4), (68, 4, 5), (70, 1, 1), (90, 0, 3), (91, 1, 120)], 47) else bif Nat.beq y 66 && Nat.beq pc 62 then some ([((0, 4, 0), 0, 9999), ((2, 70, 1), 0, 999)], [([(1, 2, 70, 1), (1, 0, 3, 0), ((-1), 0, 4, 0)], 999)], (0, true), [], [(67, 2, 4), (68, 4, 5)], 76) else none)
set_option maxRecDepth 1000000 in
theorem nq260 : ncheck kt0 [nc257, nc259] nw260 3000 nc260 = true := by decide +kernel
-- LP$Runner.buyAll, steps 484
def nw261 : nOr := (ktX nc261.2.1, ngH, ngF, fun y pc x => bif Nat.beq y 18 && Nat.beq pc 2 then some ([((0, 2, 0), 0, 5)], [], (0, true), [], [(67, 2, 2), (70, 1, 1)], 47) else bif Nat.beq y 67 && Nat.beq pc 31 then some ([((0, 3, 0), 0, 99), ((2, 70, 1), 0, 999)], [([(1, 2, 70, 1), (1, 0, 2, 0), ((-1), 0, 3, 0)], 999)], (0, true), [], [(67, 2, 2)], 44) else none)
set_option maxRecDepth 1000000 in
theorem nq261 : ncheck kt0 [nc257, nc259] nw261 3000 nc261 = true := by decide +kernel
-- LP$Runner.skipAll, steps 101
def nw262 : nOr := (ktX nc262.2.1, ngH, ngF, fun y pc x => bif Nat.beq y 62 && Nat.beq pc 46 then some ([((0, 4, 0), 0, 60), ((0, 5, 0), 0, 1000000)], [], (1, true), [], [(67, 5, 5)], 130) else none)
set_option maxRecDepth 1000000 in
theorem nq262 : ncheck kt0 [nc254, nc255, nc260, nc261] nw262 3000 nc262 = true := by decide +kernel
-- LP$Runner.run, steps 1565
