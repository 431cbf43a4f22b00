def nw195 : nOr := (ktX nc195.2.1, ngH, ngF, fun _ _ _ => none)
set_option maxRecDepth 1000000 in
theorem nq195 : ncheck kt0 [nc194] nw195 3000 nc195 = true := by decide +kernel
-- LP.cover, steps 935
def nw196 : nOr := (ktX nc196.2.1, ngH, ngF, fun y pc x => bif Nat.beq y 316 && Nat.beq pc 4 then some ([((0, 2, 0), (-2147483648), 2147483647), ((0, 3, 0), 0, 31)], [], (1, true), [], [], 43) else none)
set_option maxRecDepth 1000000 in
theorem nq196 : ncheck kt0 [] nw196 3000 nc196 = true := by decide +kernel
-- LPModel.costOfSet, steps 1809
def nw197 : nOr := (ktX nc197.2.1, ngH, ngF, fun y pc x => bif Nat.beq y 259 && Nat.beq pc 4 then some ([((0, 1, 0), (-2147483648), 2147483647), ((0, 2, 0), 0, 2147483647)], [], (1, false), [], [], 17) else none)
set_option maxRecDepth 1000000 in
theorem nq197 : ncheck kt0 [] nw197 3000 nc197 = true := by decide +kernel
-- LPModel.bits, steps 18
def nw198 : nOr := (ktX nc198.2.1, ngH, ngF, fun y pc x => bif Nat.beq y 317 && Nat.beq pc 10 then some ([((0, 3, 0), (-1), 2147483646), ((0, 4, 0), 0, 4096), ((2, 186, 5), 0, 999)], [], (1, true), [], [], 138) else bif Nat.beq y 317 && Nat.beq pc 24 then some ([((0, 5, 0), 0, 63), ((0, 6, 0), 0, 12), ((2, 186, 5), 0, 999)], [], (1, true), [], [], 62) else none)
set_option maxRecDepth 1000000 in
theorem nq198 : ncheck kt0 [nc173, nc196, nc197] nw198 3000 nc198 = true := by decide +kernel
-- LPModel.covering, steps 1489
