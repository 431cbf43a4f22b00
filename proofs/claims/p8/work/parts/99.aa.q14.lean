def nw169 : nOr := (ktX nc169.2.1, ngH, ngF, fun _ _ _ => none)
set_option maxRecDepth 1000000 in
theorem nq169 : ncheck kt0 [nc159, nc168] nw169 3000 nc169 = true := by decide +kernel
-- LP.showsIn, steps 59
def nw170 : nOr := (ktX nc170.2.1, ngH, ngF, fun y pc x => bif Nat.beq y 284 && Nat.beq pc 2 then some ([((0, 1, 0), 0, 5)], [], (0, true), [], [(186, 5, 5)], 20) else bif Nat.beq y 285 && Nat.beq pc 2 then some ([((0, 2, 0), 0, 200), ((2, 186, 5), 0, 1199)], [([(1, 2, 186, 5), ((-1), 0, 2, 0)], 999)], (0, true), [], [], 14) else none)
set_option maxRecDepth 1000000 in
theorem nq170 : ncheck kt0 [nc94, nc129, nc130, nc131, nc132, nc133, nc161, nc162] nw170 3000 nc170 = true := by decide +kernel
-- LPModel.showsIn, steps 240
def nw171 : nOr := (ktX nc171.2.1, ngH, ngF, fun y pc x => bif Nat.beq y 4 && Nat.beq pc 13 then some ([((0, 3, 0), 1, 201), ((2, 95, 1), 0, 1199)], [([(1, 2, 95, 1), ((-1), 0, 3, 0)], 998)], (0, true), [], [(12, 0, 1), (95, 0, 0)], 51) else bif Nat.beq y 18 && Nat.beq pc 2 then some ([((0, 2, 0), 0, 5)], [], (0, true), [], [(12, 0, 1), (95, 0, 1)], 47) else none)
set_option maxRecDepth 1000000 in
theorem nq171 : ncheck kt0 [nc157, nc158, nc167] nw171 3000 nc171 = true := by decide +kernel
-- LP$Ahead.firstShowing, steps 312
def nw172 : nOr := (ktX nc172.2.1, ngH, ngF, fun _ _ _ => none)
set_option maxRecDepth 1000000 in
theorem nq172 : ncheck kt0 [nc171] nw172 3000 nc172 = true := by decide +kernel
-- LP.first, steps 83
def nw173 : nOr := (ktX nc173.2.1, ngH, ngF, fun y pc x => bif Nat.beq y 284 && Nat.beq pc 2 then some ([((0, 1, 0), 0, 5)], [], (0, true), [], [(186, 5, 5)], 20) else bif Nat.beq y 305 && Nat.beq pc 9 then some ([((0, 2, 0), 1, 201), ((2, 186, 5), 0, 1199)], [([(1, 2, 186, 5), ((-1), 0, 2, 0)], 998)], (0, true), [], [], 31) else none)
set_option maxRecDepth 1000000 in
theorem nq173 : ncheck kt0 [nc94, nc129, nc130, nc131, nc132, nc133, nc161, nc162] nw173 3000 nc173 = true := by decide +kernel
-- LPModel.laysShows, steps 64
def nw174 : nOr := (ktX nc174.2.1, ngH, ngF, fun y pc x => bif Nat.beq y 306 && Nat.beq pc 9 then some ([((0, 2, 0), 1, 201), ((2, 186, 5), 0, 999)], [], (0, true), [], [], 35) else none)
set_option maxRecDepth 1000000 in
theorem nq174 : ncheck kt0 [nc173] nw174 3000 nc174 = true := by decide +kernel
-- LPModel.firstOf, steps 37
def nw175 : nOr := (ktX nc175.2.1, ngH, ngF, fun _ _ _ => none)
set_option maxRecDepth 1000000 in
theorem nq175 : ncheck kt0 [nc174] nw175 3000 nc175 = true := by decide +kernel
-- LPModel.first, steps 70
def nw176 : nOr := (ktX nc176.2.1, ngH, ngF, fun _ _ _ => none)
set_option maxRecDepth 1000000 in
theorem nq176 : ncheck kt0 [nc171] nw176 3000 nc176 = true := by decide +kernel
-- LP.cost, steps 112
def nw177 : nOr := (ktX nc177.2.1, ngH, ngF, fun _ _ _ => none)
set_option maxRecDepth 1000000 in
theorem nq177 : ncheck kt0 [nc154, nc174] nw177 3000 nc177 = true := by decide +kernel
-- LPModel.cost, steps 67
def nw178 : nOr := (ktX nc178.2.1, ngH, ngF, fun y pc x => bif Nat.beq y 2 && Nat.beq pc 30 then some ([((0, 3, 0), 1, 201), ((2, 95, 1), 0, 1199)], [([(1, 2, 95, 1), ((-1), 0, 3, 0)], 998)], (0, true), [], [(12, 0, 1), (95, 0, 0), (104, 0, 0)], 73) else bif Nat.beq y 18 && Nat.beq pc 2 then some ([((0, 2, 0), 0, 5)], [], (0, true), [], [(12, 0, 1), (95, 0, 1), (104, 0, 0)], 47) else none)
set_option maxRecDepth 1000000 in
theorem nq178 : ncheck kt0 [nc157, nc158, nc168] nw178 3000 nc178 = true := by decide +kernel
-- LP$Ahead.lookAtSights, steps 157
def nw179 : nOr := (ktX nc179.2.1, ngH, ngF, fun y pc x => bif Nat.beq y 172 && Nat.beq pc 42 then some ([((0, 3, 0), (-2147483648), 2147483647), ((0, 4, 0), 1, 201)], [], (1, true), [], [(21, 0, 0)], 68) else none)
set_option maxRecDepth 1000000 in
theorem nq179 : ncheck kt0 [nc178] nw179 3000 nc179 = true := by decide +kernel
-- LP.often, steps 125
def nw180 : nOr := (ktX nc180.2.1, ngH, ngF, fun y pc x => bif Nat.beq y 309 && Nat.beq pc 32 then some ([((0, 3, 0), (-2147483648), 2147483647), ((0, 4, 0), 1, 201), ((2, 186, 5), 0, 999)], [], (1, true), [], [], 64) else none)
set_option maxRecDepth 1000000 in
theorem nq180 : ncheck kt0 [nc173] nw180 3000 nc180 = true := by decide +kernel
-- LPModel.often, steps 270
def nw181 : nOr := (ktX nc181.2.1, ngH, ngF, fun y pc x => bif Nat.beq y 173 && Nat.beq pc 45 then some ([((0, 3, 0), 0, 2147483647), ((0, 4, 0), (-2147483648), 2147483647), ((0, 5, 0), 1, 201)], [], (2, true), [], [(21, 0, 0)], 89) else none)
set_option maxRecDepth 1000000 in
theorem nq181 : ncheck kt0 [nc178] nw181 3000 nc181 = true := by decide +kernel
-- LP.longest, steps 144
def nw182 : nOr := (ktX nc182.2.1, ngH, ngF, fun y pc x => bif Nat.beq y 310 && Nat.beq pc 35 then some ([((0, 3, 0), 0, 2147483647), ((0, 4, 0), (-2147483648), 2147483647), ((0, 5, 0), 1, 201), ((2, 186, 5), 0, 999)], [], (2, true), [], [], 76) else none)
set_option maxRecDepth 1000000 in
theorem nq182 : ncheck kt0 [nc173] nw182 3000 nc182 = true := by decide +kernel
-- LPModel.longest, steps 297
def nw183 : nOr := (ktX nc183.2.1, ngH, ngF, fun y pc x => bif Nat.beq y 3 && Nat.beq pc 28 then some ([((0, 4, 0), 1, 201), ((2, 95, 1), 0, 1199)], [([(1, 2, 95, 1), ((-1), 0, 4, 0)], 998)], (0, true), [], [(12, 0, 1), (95, 0, 0), (105, 0, 0)], 71) else bif Nat.beq y 18 && Nat.beq pc 2 then some ([((0, 2, 0), 0, 5)], [], (0, true), [], [(12, 0, 1), (95, 0, 1), (105, 0, 0)], 47) else none)
set_option maxRecDepth 1000000 in
theorem nq183 : ncheck kt0 [nc157, nc158] nw183 3000 nc183 = true := by decide +kernel
-- LP$Ahead.lookAtPerson, steps 523
def nw184 : nOr := (ktX nc184.2.1, ngH, ngF, fun y pc x => bif Nat.beq y 174 && Nat.beq pc 33 then some ([((0, 2, 0), 1, 201)], [], (0, false), [], [(12, 0, 0)], 56) else none)
set_option maxRecDepth 1000000 in
theorem nq184 : ncheck kt0 [nc183] nw184 3000 nc184 = true := by decide +kernel
-- LP.gone, steps 108
def nw185 : nOr := (ktX nc185.2.1, ngH, ngF, fun y pc x => bif Nat.beq y 284 && Nat.beq pc 2 then some ([((0, 1, 0), 0, 5)], [], (0, true), [], [(186, 2, 2), (186, 5, 5)], 20) else bif Nat.beq y 311 && Nat.beq pc 25 then some ([((0, 2, 0), 1, 201), ((0, 3, 0), 1, 201), ((2, 186, 5), 0, 1199)], [([(1, 2, 186, 5), ((-1), 0, 3, 0)], 998)], (1, true), [], [(186, 2, 2)], 51) else none)
set_option maxRecDepth 1000000 in
theorem nq185 : ncheck kt0 [nc92, nc129, nc130, nc131, nc132, nc133, nc161, nc162] nw185 3000 nc185 = true := by decide +kernel
-- LPModel.gone, steps 131
def nw186 : nOr := (ktX nc186.2.1, ngH, ngF, fun y pc x => bif Nat.beq y 17 && Nat.beq pc 2 then some ([((0, 2, 0), 0, 5)], [], (0, true), [], [], 43) else none)
set_option maxRecDepth 1000000 in
theorem nq186 : ncheck kt0 [] nw186 3000 nc186 = true := by decide +kernel
-- LP$Folk.isAs, steps 87
def nw187 : nOr := (ktX nc187.2.1, ngH, ngF, fun y pc x => bif Nat.beq y 18 && Nat.beq pc 2 then some ([((0, 2, 0), 0, 5)], [], (0, true), [], [(12, 0, 1), (95, 0, 1)], 47) else bif Nat.beq y 175 && Nat.beq pc 19 then some ([((0, 1, 0), 1, 201), ((2, 95, 1), 0, 1199)], [([(1, 2, 95, 1), ((-1), 0, 1, 0)], 998)], (0, true), [], [(12, 0, 1), (95, 0, 0)], 72) else none)
set_option maxRecDepth 1000000 in
theorem nq187 : ncheck kt0 [nc157, nc158, nc186] nw187 3000 nc187 = true := by decide +kernel
-- LP.again, steps 165
def nw188 : nOr := (ktX nc188.2.1, ngH, ngF, fun y pc x => bif Nat.beq y 312 && Nat.beq pc 2 then some ([((0, 2, 0), 0, 5)], [], (0, true), [], [], 72) else none)
set_option maxRecDepth 1000000 in
theorem nq188 : ncheck kt0 [nc92] nw188 3000 nc188 = true := by decide +kernel
-- LPModel.isAsIn, steps 252
def nw189 : nOr := (ktX nc189.2.1, ngH, ngF, fun y pc x => bif Nat.beq y 284 && Nat.beq pc 2 then some ([((0, 1, 0), 0, 5)], [], (0, true), [], [(186, 5, 5)], 20) else bif Nat.beq y 313 && Nat.beq pc 11 then some ([((0, 1, 0), (-1), 200), ((0, 2, 0), 1, 201), ((2, 186, 5), 0, 1199)], [([(1, 2, 186, 5), ((-1), 0, 2, 0)], 998)], (1, true), [], [], 42) else none)
set_option maxRecDepth 1000000 in
theorem nq189 : ncheck kt0 [nc129, nc130, nc131, nc132, nc133, nc161, nc162, nc188] nw189 3000 nc189 = true := by decide +kernel
-- LPModel.again, steps 117
def nw190 : nOr := (ktX nc190.2.1, ngH, ngF, fun y pc x => bif Nat.beq y 176 && Nat.beq pc 43 then some ([((0, 3, 0), (-2147483648), 2147483647), ((0, 4, 0), 1, 201)], [], (1, true), [], [(12, 0, 0)], 94) else none)
set_option maxRecDepth 1000000 in
theorem nq190 : ncheck kt0 [nc183] nw190 3000 nc190 = true := by decide +kernel
-- LP.stays, steps 141
