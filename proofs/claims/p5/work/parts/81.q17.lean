def nw203 : nOr := (ktX nc203.2.1, ngH, ngF, fun y pc x => bif Nat.beq y 102 && Nat.beq pc 6 then some ([((0, 4, 0), (-2147483648), 2147483647), ((0, 5, 0), 0, 5)], [], (1, true), [], [], 82) else bif Nat.beq y 102 && Nat.beq pc 18 then some ([((0, 4, 0), (-2147483648), 2147483647), ((0, 6, 0), 0, 6)], [], (1, true), [], [(11, 1, 1)], 76) else none)
set_option maxRecDepth 1000000 in
theorem nq203 : ncheck ktN [nc197] nw203 3000 nc203 = true := by decide +kernel
-- LP$Tracks.originSet, steps 317
def nw204 : nOr := (ktX nc204.2.1, ngH, ngF, fun _ _ _ => none)
set_option maxRecDepth 1000000 in
theorem nq204 : ncheck ktN [nc203] nw204 3000 nc204 = true := by decide +kernel
-- LP.origin, steps 431
def nw205 : nOr := (ktX nc205.2.1, ngH, ngF, fun y pc x => bif Nat.beq y 337 && Nat.beq pc 57 then some ([((0, 5, 0), (-2147483648), 2147483647), ((0, 6, 0), 0, 30), ((2, 186, 5), 0, 999)], [], (1, true), [], [(186, 0, 1), (186, 10, 39)], 130) else none)
set_option maxRecDepth 1000000 in
theorem nq205 : ncheck ktN [nc201] nw205 3000 nc205 = true := by decide +kernel
-- LPModel.origin, steps 2193
def nw206 : nOr := (ktX nc206.2.1, ngH, ngF, fun y pc x => bif Nat.beq y 115 && Nat.beq pc 3 then some ([((0, 2, 0), 0, 120)], [], (0, false), [], [], 23) else none)
set_option maxRecDepth 1000000 in
theorem nq206 : ncheck ktN [] nw206 3000 nc206 = true := by decide +kernel
-- LP$World.latestPrintOf, steps 19
def nw209 : nOr := (ktX nc209.2.1, ngH, ngF, fun y pc x => bif Nat.beq y 18 && Nat.beq pc 2 then some ([((0, 2, 0), 0, 5)], [], (0, true), [], [(12, 1, 1), (67, 2, 2)], 47) else bif Nat.beq y 67 && Nat.beq pc 31 then some ([((0, 3, 0), 0, 99), ((2, 12, 1), 0, 999)], [([(1, 2, 12, 1), (1, 0, 2, 0), ((-1), 0, 3, 0)], 999)], (0, true), [], [(67, 2, 2)], 44) else none)
set_option maxRecDepth 1000000 in
theorem nq209 : ncheck ktN [nc85, nc87] nw209 3000 nc209 = true := by decide +kernel
-- LP$Runner.skipAll, steps 101
def nw214 : nOr := (ktX nc214.2.1, ngH, ngF, fun y pc x => bif Nat.beq y 341 && Nat.beq pc 3 then some ([((0, 3, 0), (-1), 119)], [], (0, false), [], [], 45) else none)
set_option maxRecDepth 1000000 in
theorem nq214 : ncheck ktN [] nw214 3000 nc214 = true := by decide +kernel
-- LPModel.givesBy, steps 33
def nw219 : nOr := (ktX nc219.2.1, ngH, ngF, fun _ _ _ => none)
set_option maxRecDepth 1000000 in
theorem nq219 : ncheck ktN [] nw219 3000 nc219 = true := by decide +kernel
-- LP.lived, steps 63
def nw220 : nOr := (ktX nc220.2.1, ngH, ngF, fun _ _ _ => none)
set_option maxRecDepth 1000000 in
theorem nq220 : ncheck ktN [] nw220 3000 nc220 = true := by decide +kernel
-- LPModel.lived, steps 50
def nw221 : nOr := (ktX nc221.2.1, ngH, ngF, fun y pc x => bif Nat.beq y 116 && Nat.beq pc 4 then some ([((0, 1, 0), (-2147483648), 2147483647), ((0, 2, 0), 0, 4)], [], (1, true), [], [], 24) else none)
set_option maxRecDepth 1000000 in
theorem nq221 : ncheck ktN [] nw221 3000 nc221 = true := by decide +kernel
-- LP$World.allCoins, steps 21
def nw222 : nOr := (ktX nc222.2.1, ngH, ngF, fun y pc x => bif Nat.beq y 115 && Nat.beq pc 3 then some ([((0, 2, 0), 0, 120)], [], (0, false), [], [], 23) else none)
set_option maxRecDepth 1000000 in
theorem nq222 : ncheck ktN [] nw222 3000 nc222 = true := by decide +kernel
-- LP$World.latestPrintOf, steps 19
def nw225 : nOr := (ktX nc225.2.1, ngH, ngF, fun y pc x => bif Nat.beq y 14 && Nat.beq pc 17 then some ([((0, 3, 0), 0, 5)], [], (0, true), [], [], 50) else none)
set_option maxRecDepth 1000000 in
theorem nq225 : ncheck ktN [] nw225 3000 nc225 = true := by decide +kernel
-- LP$Folk.isFree, steps 44
def nw226 : nOr := (ktX nc226.2.1, ngH, ngF, fun _ _ _ => none)
set_option maxRecDepth 1000000 in
theorem nq226 : ncheck ktN [nc225] nw226 3000 nc226 = true := by decide +kernel
-- LP$Folk.enter, steps 91
def nw227 : nOr := (ktX nc227.2.1, ngH, ngF, fun _ _ _ => none)
set_option maxRecDepth 1000000 in
theorem nq227 : ncheck ktN [] nw227 3000 nc227 = true := by decide +kernel
-- LP$Room.beside, steps 2331
