def nw150 : nOr := (ktX nc150.2.1, ngH, ngF, fun _ _ _ => none)
set_option maxRecDepth 1000000 in
theorem nq150 : ncheck kt0 [nc92, nc103] nw150 3000 nc150 = true := by decide +kernel
-- LPModel.place, steps 931
def nw151 : nOr := (ktX nc151.2.1, ngH, ngF, fun _ _ _ => none)
set_option maxRecDepth 1000000 in
theorem nq151 : ncheck kt0 [] nw151 3000 nc151 = true := by decide +kernel
-- LP.priceOf, steps 61
def nw152 : nOr := (ktX nc152.2.1, ngH, ngF, fun _ _ _ => none)
set_option maxRecDepth 1000000 in
theorem nq152 : ncheck kt0 [] nw152 3000 nc152 = true := by decide +kernel
-- LPModel.priceOf, steps 135
def nw153 : nOr := (ktX nc153.2.1, ngH, ngF, fun _ _ _ => none)
set_option maxRecDepth 1000000 in
theorem nq153 : ncheck kt0 [] nw153 3000 nc153 = true := by decide +kernel
-- LP.costOf, steps 82
def nw154 : nOr := (ktX nc154.2.1, ngH, ngF, fun y pc x => bif Nat.beq y 300 && Nat.beq pc 4 then some ([((0, 2, 0), (-2147483648), 2147483647), ((0, 3, 0), 1, 10000)], [], (1, true), [], [], 27) else none)
set_option maxRecDepth 1000000 in
theorem nq154 : ncheck kt0 [] nw154 3000 nc154 = true := by decide +kernel
-- LPModel.costBy, steps 38
def nw155 : nOr := (ktX nc155.2.1, ngH, ngF, fun _ _ _ => none)
set_option maxRecDepth 1000000 in
theorem nq155 : ncheck kt0 [nc154] nw155 3000 nc155 = true := by decide +kernel
-- LPModel.costOf, steps 102
def nw156 : nOr := (ktX nc156.2.1, ngH, ngF, fun y pc x => bif Nat.beq y 14 && Nat.beq pc 17 then some ([((0, 3, 0), 0, 5)], [], (0, true), [], [], 50) else none)
set_option maxRecDepth 1000000 in
theorem nq156 : ncheck kt0 [] nw156 3000 nc156 = true := by decide +kernel
-- LP$Folk.isFree, steps 44
def nw157 : nOr := (ktX nc157.2.1, ngH, ngF, fun _ _ _ => none)
set_option maxRecDepth 1000000 in
theorem nq157 : ncheck kt0 [nc156] nw157 3000 nc157 = true := by decide +kernel
-- LP$Folk.enter, steps 91
def nw158 : nOr := (ktX nc158.2.1, ngH, ngF, fun _ _ _ => none)
set_option maxRecDepth 1000000 in
theorem nq158 : ncheck kt0 [nc125, nc156] nw158 3000 nc158 = true := by decide +kernel
-- LP$Folk.walk, steps 368
def nw159 : nOr := (ktX nc159.2.1, ngH, ngF, fun y pc x => bif Nat.beq y 1 && Nat.beq pc 13 then some ([((0, 3, 0), 0, 200), ((2, 95, 1), 0, 1199)], [([(1, 2, 95, 1), ((-1), 0, 3, 0)], 999)], (0, true), [], [(12, 0, 1), (95, 0, 0)], 32) else bif Nat.beq y 18 && Nat.beq pc 2 then some ([((0, 2, 0), 0, 5)], [], (0, true), [], [(12, 0, 1), (95, 0, 1)], 47) else none)
set_option maxRecDepth 1000000 in
theorem nq159 : ncheck kt0 [nc157, nc158] nw159 3000 nc159 = true := by decide +kernel
-- LP$Ahead.goTo, steps 136
def nw160 : nOr := (ktX nc160.2.1, ngH, ngF, fun _ _ _ => none)
set_option maxRecDepth 1000000 in
theorem nq160 : ncheck kt0 [nc159] nw160 3000 nc160 = true := by decide +kernel
-- LP.placeIn, steps 142
def nw163 : nOr := (ktX nc163.2.1, ngH, ngF, fun y pc x => bif Nat.beq y 284 && Nat.beq pc 2 then some ([((0, 1, 0), 0, 5)], [], (0, true), [], [(186, 2, 2), (186, 5, 5)], 20) else bif Nat.beq y 285 && Nat.beq pc 2 then some ([((0, 2, 0), 0, 200), ((2, 186, 5), 0, 1199)], [([(1, 2, 186, 5), ((-1), 0, 2, 0)], 999)], (0, true), [], [(186, 2, 2)], 14) else none)
set_option maxRecDepth 1000000 in
theorem nq163 : ncheck kt0 [nc92, nc102, nc129, nc130, nc131, nc132, nc133, nc161, nc162] nw163 3000 nc163 = true := by decide +kernel
-- LPModel.placeIn, steps 420
def nw164 : nOr := (ktX nc164.2.1, ngH, ngF, fun y pc x => bif Nat.beq y 13 && Nat.beq pc 2 then some ([((0, 2, 0), 0, 5)], [], (0, true), [], [], 24) else none)
set_option maxRecDepth 1000000 in
theorem nq164 : ncheck kt0 [] nw164 3000 nc164 = true := by decide +kernel
-- LP$Folk.standing, steps 38
def nw165 : nOr := (ktX nc165.2.1, ngH, ngF, fun _ _ _ => none)
set_option maxRecDepth 1000000 in
theorem nq165 : ncheck kt0 [nc159, nc164] nw165 3000 nc165 = true := by decide +kernel
-- LP.whoIn, steps 269
def nw166 : nOr := (ktX nc166.2.1, ngH, ngF, fun y pc x => bif Nat.beq y 284 && Nat.beq pc 2 then some ([((0, 1, 0), 0, 5)], [], (0, true), [], [(186, 0, 1), (186, 5, 5)], 20) else bif Nat.beq y 285 && Nat.beq pc 2 then some ([((0, 2, 0), 0, 200), ((2, 186, 5), 0, 1199)], [([(1, 2, 186, 5), ((-1), 0, 2, 0)], 999)], (0, true), [], [(186, 0, 1)], 14) else none)
set_option maxRecDepth 1000000 in
theorem nq166 : ncheck kt0 [nc103, nc129, nc130, nc131, nc132, nc133, nc161, nc162] nw166 3000 nc166 = true := by decide +kernel
-- LPModel.whoIn, steps 789
def nw167 : nOr := (ktX nc167.2.1, ngH, ngF, fun y pc x => bif Nat.beq y 16 && Nat.beq pc 4 then some ([((0, 2, 0), (-2147483648), 2147483647), ((0, 3, 0), 0, 5)], [], (1, true), [], [], 31) else none)
set_option maxRecDepth 1000000 in
theorem nq167 : ncheck kt0 [] nw167 3000 nc167 = true := by decide +kernel
-- LP$Folk.setIn, steps 29
def nw168 : nOr := (ktX nc168.2.1, ngH, ngF, fun y pc x => bif Nat.beq y 92 && Nat.beq pc 4 then some ([((0, 2, 0), 0, 63), ((0, 3, 0), 0, 6)], [], (1, true), [], [], 30) else none)
set_option maxRecDepth 1000000 in
theorem nq168 : ncheck kt0 [nc167] nw168 3000 nc168 = true := by decide +kernel
-- LP$Sights.shownBy, steps 283
