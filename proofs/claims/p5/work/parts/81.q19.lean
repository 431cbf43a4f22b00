def nw183 : nOr := (ktX nc183.2.1, ngH, ngF, fun y pc x => bif Nat.beq y 3 && Nat.beq pc 28 then some ([((0, 4, 0), 1, 201), ((2, 95, 1), 0, 1199)], [([(1, 2, 95, 1), ((-1), 0, 4, 0)], 998)], (0, true), [], [(12, 0, 1), (95, 0, 0), (105, 0, 0)], 71) else bif Nat.beq y 18 && Nat.beq pc 2 then some ([((0, 2, 0), 0, 5)], [], (0, true), [], [(12, 0, 1), (95, 0, 1), (105, 0, 0)], 47) else none)
set_option maxRecDepth 1000000 in
theorem nq183 : ncheck kt0 [nc157, nc158] nw183 3000 nc183 = true := by decide +kernel
-- LP$Ahead.lookAtPerson, steps 523
def nw184 : nOr := (ktX nc184.2.1, ngH, ngF, fun y pc x => bif Nat.beq y 174 && Nat.beq pc 33 then some ([((0, 2, 0), 1, 201)], [], (0, false), [], [(12, 0, 0)], 56) else none)
set_option maxRecDepth 1000000 in
theorem nq184 : ncheck kt0 [nc183] nw184 3000 nc184 = true := by decide +kernel
-- LP.gone, steps 108
def nw185 : nOr := (ktX nc185.2.1, ngH, ngF, fun y pc x => bif Nat.beq y 284 && Nat.beq pc 2 then some ([((0, 1, 0), 0, 5)], [], (0, true), [], [(186, 2, 2), (186, 5, 5)], 20) else bif Nat.beq y 311 && Nat.beq pc 25 then some ([((0, 2, 0), 1, 201), ((0, 3, 0), 1, 201), ((2, 186, 5), 0, 1199)], [([(1, 2, 186, 5), ((-1), 0, 3, 0)], 998)], (1, true), [], [(186, 2, 2)], 51) else none)
set_option maxRecDepth 1000000 in
theorem nq185 : ncheck kt0 [nc92, nc129, nc130, nc131, nc132, nc133, nc161, nc162] nw185 3000 nc185 = true := by decide +kernel
-- LPModel.gone, steps 131
def nw186 : nOr := (ktX nc186.2.1, ngH, ngF, fun y pc x => bif Nat.beq y 17 && Nat.beq pc 2 then some ([((0, 2, 0), 0, 5)], [], (0, true), [], [], 43) else none)
set_option maxRecDepth 1000000 in
theorem nq186 : ncheck kt0 [] nw186 3000 nc186 = true := by decide +kernel
-- LP$Folk.isAs, steps 87
def nw187 : nOr := (ktX nc187.2.1, ngH, ngF, fun y pc x => bif Nat.beq y 18 && Nat.beq pc 2 then some ([((0, 2, 0), 0, 5)], [], (0, true), [], [(12, 0, 1), (95, 0, 1)], 47) else bif Nat.beq y 175 && Nat.beq pc 19 then some ([((0, 1, 0), 1, 201), ((2, 95, 1), 0, 1199)], [([(1, 2, 95, 1), ((-1), 0, 1, 0)], 998)], (0, true), [], [(12, 0, 1), (95, 0, 0)], 72) else none)
set_option maxRecDepth 1000000 in
theorem nq187 : ncheck kt0 [nc157, nc158, nc186] nw187 3000 nc187 = true := by decide +kernel
-- LP.again, steps 165
def nw188 : nOr := (ktX nc188.2.1, ngH, ngF, fun y pc x => bif Nat.beq y 312 && Nat.beq pc 2 then some ([((0, 2, 0), 0, 5)], [], (0, true), [], [], 72) else none)
set_option maxRecDepth 1000000 in
theorem nq188 : ncheck kt0 [nc92] nw188 3000 nc188 = true := by decide +kernel
-- LPModel.isAsIn, steps 252
def nw189 : nOr := (ktX nc189.2.1, ngH, ngF, fun y pc x => bif Nat.beq y 284 && Nat.beq pc 2 then some ([((0, 1, 0), 0, 5)], [], (0, true), [], [(186, 5, 5)], 20) else bif Nat.beq y 313 && Nat.beq pc 11 then some ([((0, 1, 0), (-1), 200), ((0, 2, 0), 1, 201), ((2, 186, 5), 0, 1199)], [([(1, 2, 186, 5), ((-1), 0, 2, 0)], 998)], (1, true), [], [], 42) else none)
set_option maxRecDepth 1000000 in
theorem nq189 : ncheck kt0 [nc129, nc130, nc131, nc132, nc133, nc161, nc162, nc188] nw189 3000 nc189 = true := by decide +kernel
-- LPModel.again, steps 117
def nw190 : nOr := (ktX nc190.2.1, ngH, ngF, fun y pc x => bif Nat.beq y 176 && Nat.beq pc 43 then some ([((0, 3, 0), (-2147483648), 2147483647), ((0, 4, 0), 1, 201)], [], (1, true), [], [(12, 0, 0)], 94) else none)
set_option maxRecDepth 1000000 in
theorem nq190 : ncheck kt0 [nc183] nw190 3000 nc190 = true := by decide +kernel
-- LP.stays, steps 141
def nw191 : nOr := (ktX nc191.2.1, ngH, ngF, fun y pc x => bif Nat.beq y 284 && Nat.beq pc 2 then some ([((0, 1, 0), 0, 5)], [], (0, true), [], [(186, 2, 2), (186, 5, 5)], 20) else bif Nat.beq y 314 && Nat.beq pc 34 then some ([((0, 3, 0), (-2147483648), 2147483647), ((0, 4, 0), 0, 200), ((2, 186, 5), 0, 1199)], [([(1, 2, 186, 5), ((-1), 0, 4, 0)], 999)], (1, true), [], [(186, 2, 2)], 100) else none)
set_option maxRecDepth 1000000 in
theorem nq191 : ncheck kt0 [nc92, nc102, nc129, nc130, nc131, nc132, nc133, nc161, nc162] nw191 3000 nc191 = true := by decide +kernel
-- LPModel.stays, steps 591
def nw192 : nOr := (ktX nc192.2.1, ngH, ngF, fun y pc x => bif Nat.beq y 354 && Nat.beq pc 6 then some ([((0, 3, 0), 0, 64)], [], (0, true), [], [], 19) else none)
set_option maxRecDepth 1000000 in
theorem nq192 : ncheck kt0 [] nw192 3000 nc192 = true := by decide +kernel
-- Arrays.fill, steps 17
def nw193 : nOr := (ktX nc193.2.1, ngH, ngF, fun y pc x => bif Nat.beq y 6 && Nat.beq pc 4 then some ([((0, 4, 0), (-1), 63)], [], (0, false), [], [], 94) else none)
set_option maxRecDepth 1000000 in
theorem nq193 : ncheck kt0 [] nw193 3000 nc193 = true := by decide +kernel
-- LP$Ahead.addPrint, steps 264
def nw194 : nOr := (ktX nc194.2.1, ngH, ngF, fun y pc x => bif Nat.beq y 5 && Nat.beq pc 26 then some ([((0, 4, 0), 1, 13)], [], (0, true), [], [], 88) else none)
set_option maxRecDepth 1000000 in
theorem nq194 : ncheck kt0 [nc178, nc192, nc193] nw194 3000 nc194 = true := by decide +kernel
-- LP$Ahead.bestCover, steps 68
