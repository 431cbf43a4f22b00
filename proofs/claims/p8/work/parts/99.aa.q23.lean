def nw254 : nOr := (ktX nc254.2.1, ngH, ngF, fun _ _ _ => none)
set_option maxRecDepth 1000000 in
theorem nq254 : ncheck kt0 [nc253] nw254 3000 nc254 = true := by decide +kernel
-- LP.live, steps 126
def nw255 : nOr := (ktX nc255.2.1, ngH, ngF, fun y pc x => bif Nat.beq y 284 && Nat.beq pc 2 then some ([((0, 1, 0), 0, 5)], [], (0, true), [], [(186, 5, 7), (186, 127, 131)], 20) else bif Nat.beq y 339 && Nat.beq pc 39 then some ([((0, 4, 0), 0, 9999), ((2, 186, 5), 0, 999)], [], (0, true), [], [], 54) else none)
set_option maxRecDepth 1000000 in
theorem nq255 : ncheck kt0 [nc129, nc130, nc131, nc132, nc133, nc154] nw255 3000 nc255 = true := by decide +kernel
-- LPModel.buysBy, steps 1791
def nw256 : nOr := (ktX nc256.2.1, ngH, ngF, fun y pc x => bif Nat.beq y 341 && Nat.beq pc 3 then some ([((0, 3, 0), (-1), 119)], [], (0, false), [], [], 45) else none)
set_option maxRecDepth 1000000 in
theorem nq256 : ncheck kt0 [] nw256 3000 nc256 = true := by decide +kernel
-- LPModel.givesBy, steps 33
def nw258 : nOr := (ktX nc258.2.1, ngH, ngF, fun y pc x => bif Nat.beq y 284 && Nat.beq pc 2 then some ([((0, 1, 0), 0, 5)], [], (0, true), [], [(185, 30, 31), (186, 5, 5), (186, 8, 8), (186, 252, 607), (201, 0, 0)], 20) else bif Nat.beq y 285 && Nat.beq pc 2 then some ([((0, 2, 0), 0, 99), ((2, 186, 5), 0, 999)], [([(1, 2, 186, 5), ((-1), 0, 2, 0)], 999), ([(1, 2, 186, 5), (1, 0, 1, 0), ((-1), 0, 2, 0)], 999)], (0, true), [], [(185, 30, 31), (186, 8, 8), (186, 252, 607), (201, 0, 0)], 14) else bif Nat.beq y 345 && Nat.beq pc 12 then some ([((0, 2, 0), 0, 5), ((2, 186, 5), 0, 999)], [], (0, true), [], [(185, 30, 31)], 27) else bif Nat.beq y 345 && Nat.beq pc 32 then some ([((0, 2, 0), 0, 60), ((2, 185, 31), 0, 300), ((2, 186, 5), 0, 999)], [], (1, true), [], [], 182) else none)
set_option maxRecDepth 1000000 in
theorem nq258 : ncheck kt0 [nc90, nc93, nc129, nc130, nc131, nc132, nc133, nc255, nc256, nc257] nw258 3000 nc258 = true := by decide +kernel
-- LPModel.lives, steps 1421
def nw259 : nOr := (ktX nc259.2.1, ngH, ngF, fun y pc x => bif Nat.beq y 346 && Nat.beq pc 43 then some ([((0, 2, 0), 0, 5), ((2, 186, 5), 0, 999)], [], (0, true), [], [(186, 8, 8)], 63) else none)
set_option maxRecDepth 1000000 in
theorem nq259 : ncheck kt0 [nc258] nw259 3000 nc259 = true := by decide +kernel
-- LPModel.live, steps 201
def nw260 : nOr := (ktX nc260.2.1, ngH, ngF, fun _ _ _ => none)
set_option maxRecDepth 1000000 in
theorem nq260 : ncheck kt0 [] nw260 3000 nc260 = true := by decide +kernel
-- LP.lived, steps 63
def nw261 : nOr := (ktX nc261.2.1, ngH, ngF, fun _ _ _ => none)
set_option maxRecDepth 1000000 in
theorem nq261 : ncheck kt0 [] nw261 3000 nc261 = true := by decide +kernel
-- LPModel.lived, steps 50
def nw262 : nOr := (ktX nc262.2.1, ngH, ngF, fun y pc x => bif Nat.beq y 116 && Nat.beq pc 4 then some ([((0, 1, 0), (-2147483648), 2147483647), ((0, 2, 0), 0, 4)], [], (1, true), [], [], 24) else none)
set_option maxRecDepth 1000000 in
theorem nq262 : ncheck kt0 [] nw262 3000 nc262 = true := by decide +kernel
-- LP$World.allCoins, steps 21
def nw263 : nOr := (ktX nc263.2.1, ngH, ngF, fun y pc x => bif Nat.beq y 115 && Nat.beq pc 3 then some ([((0, 2, 0), 0, 120)], [], (0, false), [], [], 23) else none)
set_option maxRecDepth 1000000 in
theorem nq263 : ncheck kt0 [] nw263 3000 nc263 = true := by decide +kernel
-- LP$World.latestPrintOf, steps 19
def nw264 : nOr := (ktX nc264.2.1, ngH, ngF, fun y pc x => bif Nat.beq y 16 && Nat.beq pc 4 then some ([((0, 2, 0), (-2147483648), 2147483647), ((0, 3, 0), 0, 5)], [], (1, true), [], [], 31) else none)
set_option maxRecDepth 1000000 in
theorem nq264 : ncheck kt0 [] nw264 3000 nc264 = true := by decide +kernel
-- LP$Folk.setIn, steps 29
def nw265 : nOr := (ktX nc265.2.1, ngH, ngF, fun y pc x => bif Nat.beq y 14 && Nat.beq pc 17 then some ([((0, 3, 0), 0, 5)], [], (0, true), [], [], 50) else none)
set_option maxRecDepth 1000000 in
theorem nq265 : ncheck kt0 [] nw265 3000 nc265 = true := by decide +kernel
-- LP$Folk.isFree, steps 44
def nw266 : nOr := (ktX nc266.2.1, ngH, ngF, fun _ _ _ => none)
set_option maxRecDepth 1000000 in
theorem nq266 : ncheck kt0 [nc265] nw266 3000 nc266 = true := by decide +kernel
-- LP$Folk.enter, steps 91
def nw267 : nOr := (ktX nc267.2.1, ngH, ngF, fun _ _ _ => none)
set_option maxRecDepth 1000000 in
theorem nq267 : ncheck kt0 [] nw267 3000 nc267 = true := by decide +kernel
-- LP$Room.beside, steps 2331
