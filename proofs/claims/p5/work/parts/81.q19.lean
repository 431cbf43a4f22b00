def nw175 : nOr := (ktX nc175.2.1, ngH, ngF, fun y pc x => bif Nat.beq y 174 && Nat.beq pc 33 then some ([((0, 2, 0), 1, 201)], [], (0, false), [], [(12, 0, 0)], 56) else none)
set_option maxRecDepth 1000000 in
theorem nq175 : ncheck kt0 [nc174] nw175 3000 nc175 = true := by decide +kernel
-- LP.gone, steps 108
def nw176 : nOr := (ktX nc176.2.1, ngH, ngF, fun y pc x => bif Nat.beq y 284 && Nat.beq pc 2 then some ([((0, 1, 0), 0, 5)], [], (0, true), [], [(186, 2, 2), (186, 5, 5)], 20) else bif Nat.beq y 311 && Nat.beq pc 25 then some ([((0, 2, 0), 1, 201), ((0, 3, 0), 1, 201), ((2, 186, 5), 0, 1199)], [([(1, 2, 186, 5), ((-1), 0, 3, 0)], 998)], (1, true), [], [(186, 2, 2)], 51) else none)
set_option maxRecDepth 1000000 in
theorem nq176 : ncheck kt0 [nc83, nc120, nc121, nc122, nc123, nc124, nc152, nc153] nw176 3000 nc176 = true := by decide +kernel
-- LPModel.gone, steps 131
def nw177 : nOr := (ktX nc177.2.1, ngH, ngF, fun y pc x => bif Nat.beq y 17 && Nat.beq pc 2 then some ([((0, 2, 0), 0, 5)], [], (0, true), [], [], 43) else none)
set_option maxRecDepth 1000000 in
theorem nq177 : ncheck kt0 [] nw177 3000 nc177 = true := by decide +kernel
-- LP$Folk.isAs, steps 87
def nw178 : nOr := (ktX nc178.2.1, ngH, ngF, fun y pc x => bif Nat.beq y 18 && Nat.beq pc 2 then some ([((0, 2, 0), 0, 5)], [], (0, true), [], [(12, 0, 1), (95, 0, 1)], 47) else bif Nat.beq y 175 && Nat.beq pc 19 then some ([((0, 1, 0), 1, 201), ((2, 95, 1), 0, 1199)], [([(1, 2, 95, 1), ((-1), 0, 1, 0)], 998)], (0, true), [], [(12, 0, 1), (95, 0, 0)], 72) else none)
set_option maxRecDepth 1000000 in
theorem nq178 : ncheck kt0 [nc148, nc149, nc177] nw178 3000 nc178 = true := by decide +kernel
-- LP.again, steps 165
def nw179 : nOr := (ktX nc179.2.1, ngH, ngF, fun y pc x => bif Nat.beq y 312 && Nat.beq pc 2 then some ([((0, 2, 0), 0, 5)], [], (0, true), [], [], 72) else none)
set_option maxRecDepth 1000000 in
theorem nq179 : ncheck kt0 [nc83] nw179 3000 nc179 = true := by decide +kernel
-- LPModel.isAsIn, steps 252
def nw180 : nOr := (ktX nc180.2.1, ngH, ngF, fun y pc x => bif Nat.beq y 284 && Nat.beq pc 2 then some ([((0, 1, 0), 0, 5)], [], (0, true), [], [(186, 5, 5)], 20) else bif Nat.beq y 313 && Nat.beq pc 11 then some ([((0, 1, 0), (-1), 200), ((0, 2, 0), 1, 201), ((2, 186, 5), 0, 1199)], [([(1, 2, 186, 5), ((-1), 0, 2, 0)], 998)], (1, true), [], [], 42) else none)
set_option maxRecDepth 1000000 in
theorem nq180 : ncheck kt0 [nc120, nc121, nc122, nc123, nc124, nc152, nc153, nc179] nw180 3000 nc180 = true := by decide +kernel
-- LPModel.again, steps 117
def nw181 : nOr := (ktX nc181.2.1, ngH, ngF, fun y pc x => bif Nat.beq y 176 && Nat.beq pc 43 then some ([((0, 3, 0), (-2147483648), 2147483647), ((0, 4, 0), 1, 201)], [], (1, true), [], [(12, 0, 0)], 94) else none)
set_option maxRecDepth 1000000 in
theorem nq181 : ncheck kt0 [nc174] nw181 3000 nc181 = true := by decide +kernel
-- LP.stays, steps 141
def nw182 : nOr := (ktX nc182.2.1, ngH, ngF, fun y pc x => bif Nat.beq y 284 && Nat.beq pc 2 then some ([((0, 1, 0), 0, 5)], [], (0, true), [], [(186, 2, 2), (186, 5, 5)], 20) else bif Nat.beq y 314 && Nat.beq pc 34 then some ([((0, 3, 0), (-2147483648), 2147483647), ((0, 4, 0), 0, 200), ((2, 186, 5), 0, 1199)], [([(1, 2, 186, 5), ((-1), 0, 4, 0)], 999)], (1, true), [], [(186, 2, 2)], 100) else none)
set_option maxRecDepth 1000000 in
theorem nq182 : ncheck kt0 [nc83, nc93, nc120, nc121, nc122, nc123, nc124, nc152, nc153] nw182 3000 nc182 = true := by decide +kernel
-- LPModel.stays, steps 591
def nw183 : nOr := (ktX nc183.2.1, ngH, ngF, fun y pc x => bif Nat.beq y 354 && Nat.beq pc 6 then some ([((0, 3, 0), 0, 64)], [], (0, true), [], [], 19) else none)
set_option maxRecDepth 1000000 in
theorem nq183 : ncheck kt0 [] nw183 3000 nc183 = true := by decide +kernel
-- Arrays.fill, steps 17
def nw184 : nOr := (ktX nc184.2.1, ngH, ngF, fun y pc x => bif Nat.beq y 6 && Nat.beq pc 4 then some ([((0, 4, 0), (-1), 63)], [], (0, false), [], [], 94) else none)
set_option maxRecDepth 1000000 in
theorem nq184 : ncheck kt0 [] nw184 3000 nc184 = true := by decide +kernel
-- LP$Ahead.addPrint, steps 264
def nw185 : nOr := (ktX nc185.2.1, ngH, ngF, fun y pc x => bif Nat.beq y 5 && Nat.beq pc 26 then some ([((0, 4, 0), 1, 13)], [], (0, true), [], [], 88) else none)
set_option maxRecDepth 1000000 in
theorem nq185 : ncheck kt0 [nc169, nc183, nc184] nw185 3000 nc185 = true := by decide +kernel
-- LP$Ahead.bestCover, steps 68
def nw186 : nOr := (ktX nc186.2.1, ngH, ngF, fun _ _ _ => none)
set_option maxRecDepth 1000000 in
theorem nq186 : ncheck kt0 [nc185] nw186 3000 nc186 = true := by decide +kernel
-- LP.cover, steps 935
def nw187 : nOr := (ktX nc187.2.1, ngH, ngF, fun y pc x => bif Nat.beq y 316 && Nat.beq pc 4 then some ([((0, 2, 0), (-2147483648), 2147483647), ((0, 3, 0), 0, 31)], [], (1, true), [], [], 43) else none)
set_option maxRecDepth 1000000 in
theorem nq187 : ncheck kt0 [] nw187 3000 nc187 = true := by decide +kernel
-- LPModel.costOfSet, steps 1809
