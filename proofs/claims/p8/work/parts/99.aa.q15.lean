def nw191 : nOr := (ktX nc191.2.1, ngH, ngF, fun y pc x => bif Nat.beq y 284 && Nat.beq pc 2 then some ([((0, 1, 0), 0, 5)], [], (0, true), [], [(186, 2, 2), (186, 5, 5)], 20) else bif Nat.beq y 314 && Nat.beq pc 34 then some ([((0, 3, 0), (-2147483648), 2147483647), ((0, 4, 0), 0, 200), ((2, 186, 5), 0, 1199)], [([(1, 2, 186, 5), ((-1), 0, 4, 0)], 999)], (1, true), [], [(186, 2, 2)], 100) else none)
set_option maxRecDepth 1000000 in
theorem nq191 : ncheck kt0 [nc92, nc102, nc129, nc130, nc131, nc132, nc133, nc161, nc162] nw191 3000 nc191 = true := by decide +kernel
-- LPModel.stays, steps 591
def nw192 : nOr := (ktX nc192.2.1, ngH, ngF, fun y pc x => bif Nat.beq y 354 && Nat.beq pc 6 then some ([((0, 3, 0), 0, 64)], [], (0, true), [], [], 19) else none)
set_option maxRecDepth 1000000 in
theorem nq192 : ncheck kt0 [] nw192 3000 nc192 = true := by decide +kernel
-- Arrays.fill, steps 17
def nw193 : nOr := (ktX nc193.2.1, ngH, ngF, fun y pc x => bif Nat.beq y 6 && Nat.beq pc 4 then some ([((0, 4, 0), (-1), 63)], [], (0, false), [], [], 94) else none)
set_option maxRecDepth 1000000 in
theorem nq193 : ncheck kt0 [] nw193 3000 nc193 = true := by decide +kernel
-- LP$Ahead.addPrint, steps 264
def nw194 : nOr := (ktX nc194.2.1, ngH, ngF, fun y pc x => bif Nat.beq y 5 && Nat.beq pc 26 then some ([((0, 4, 0), 1, 13)], [], (0, true), [], [], 88) else none)
set_option maxRecDepth 1000000 in
theorem nq194 : ncheck kt0 [nc178, nc192, nc193] nw194 3000 nc194 = true := by decide +kernel
-- LP$Ahead.bestCover, steps 68
def nw195 : nOr := (ktX nc195.2.1, ngH, ngF, fun _ _ _ => none)
set_option maxRecDepth 1000000 in
theorem nq195 : ncheck kt0 [nc194] nw195 3000 nc195 = true := by decide +kernel
-- LP.cover, steps 935
def nw196 : nOr := (ktX nc196.2.1, ngH, ngF, fun y pc x => bif Nat.beq y 316 && Nat.beq pc 4 then some ([((0, 2, 0), (-2147483648), 2147483647), ((0, 3, 0), 0, 31)], [], (1, true), [], [], 43) else none)
set_option maxRecDepth 1000000 in
theorem nq196 : ncheck kt0 [] nw196 3000 nc196 = true := by decide +kernel
-- LPModel.costOfSet, steps 1809
def nw197 : nOr := (ktX nc197.2.1, ngH, ngF, fun y pc x => bif Nat.beq y 259 && Nat.beq pc 4 then some ([((0, 1, 0), (-2147483648), 2147483647), ((0, 2, 0), 0, 2147483647)], [], (1, false), [], [], 17) else none)
set_option maxRecDepth 1000000 in
theorem nq197 : ncheck kt0 [] nw197 3000 nc197 = true := by decide +kernel
-- LPModel.bits, steps 18
def nw198 : nOr := (ktX nc198.2.1, ngH, ngF, fun y pc x => bif Nat.beq y 317 && Nat.beq pc 10 then some ([((0, 3, 0), (-1), 2147483646), ((0, 4, 0), 0, 4096), ((2, 186, 5), 0, 999)], [], (1, true), [], [], 138) else bif Nat.beq y 317 && Nat.beq pc 24 then some ([((0, 5, 0), 0, 63), ((0, 6, 0), 0, 12), ((2, 186, 5), 0, 999)], [], (1, true), [], [], 62) else none)
set_option maxRecDepth 1000000 in
theorem nq198 : ncheck kt0 [nc173, nc196, nc197] nw198 3000 nc198 = true := by decide +kernel
-- LPModel.covering, steps 1489
