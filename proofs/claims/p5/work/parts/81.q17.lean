def nw140 : nOr := (ktX nc140.2.1, ngH, ngF, fun _ _ _ => none)
set_option maxRecDepth 1000000 in
theorem nq140 : ncheck kt0 [nc114] nw140 3000 nc140 = true := by decide +kernel
-- LP.place, steps 470
def nw141 : nOr := (ktX nc141.2.1, ngH, ngF, fun _ _ _ => none)
set_option maxRecDepth 1000000 in
theorem nq141 : ncheck kt0 [nc83, nc94] nw141 3000 nc141 = true := by decide +kernel
-- LPModel.place, steps 931
def nw142 : nOr := (ktX nc142.2.1, ngH, ngF, fun _ _ _ => none)
set_option maxRecDepth 1000000 in
theorem nq142 : ncheck kt0 [] nw142 3000 nc142 = true := by decide +kernel
-- LP.priceOf, steps 61
def nw143 : nOr := (ktX nc143.2.1, ngH, ngF, fun _ _ _ => none)
set_option maxRecDepth 1000000 in
theorem nq143 : ncheck kt0 [] nw143 3000 nc143 = true := by decide +kernel
-- LPModel.priceOf, steps 135
def nw144 : nOr := (ktX nc144.2.1, ngH, ngF, fun _ _ _ => none)
set_option maxRecDepth 1000000 in
theorem nq144 : ncheck kt0 [] nw144 3000 nc144 = true := by decide +kernel
-- LP.costOf, steps 82
def nw145 : nOr := (ktX nc145.2.1, ngH, ngF, fun y pc x => bif Nat.beq y 300 && Nat.beq pc 4 then some ([((0, 2, 0), (-2147483648), 2147483647), ((0, 3, 0), 1, 10000)], [], (1, true), [], [], 27) else none)
set_option maxRecDepth 1000000 in
theorem nq145 : ncheck kt0 [] nw145 3000 nc145 = true := by decide +kernel
-- LPModel.costBy, steps 38
def nw146 : nOr := (ktX nc146.2.1, ngH, ngF, fun _ _ _ => none)
set_option maxRecDepth 1000000 in
theorem nq146 : ncheck kt0 [nc145] nw146 3000 nc146 = true := by decide +kernel
-- LPModel.costOf, steps 102
def nw147 : nOr := (ktX nc147.2.1, ngH, ngF, fun y pc x => bif Nat.beq y 14 && Nat.beq pc 17 then some ([((0, 3, 0), 0, 5)], [], (0, true), [], [], 50) else none)
set_option maxRecDepth 1000000 in
theorem nq147 : ncheck kt0 [] nw147 3000 nc147 = true := by decide +kernel
-- LP$Folk.isFree, steps 44
def nw148 : nOr := (ktX nc148.2.1, ngH, ngF, fun _ _ _ => none)
set_option maxRecDepth 1000000 in
theorem nq148 : ncheck kt0 [nc147] nw148 3000 nc148 = true := by decide +kernel
-- LP$Folk.enter, steps 91
def nw149 : nOr := (ktX nc149.2.1, ngH, ngF, fun _ _ _ => none)
set_option maxRecDepth 1000000 in
theorem nq149 : ncheck kt0 [nc116, nc147] nw149 3000 nc149 = true := by decide +kernel
-- LP$Folk.walk, steps 368
def nw150 : nOr := (ktX nc150.2.1, ngH, ngF, fun y pc x => bif Nat.beq y 1 && Nat.beq pc 13 then some ([((0, 3, 0), 0, 200), ((2, 95, 1), 0, 1199)], [([(1, 2, 95, 1), ((-1), 0, 3, 0)], 999)], (0, true), [], [(12, 0, 1), (95, 0, 0)], 32) else bif Nat.beq y 18 && Nat.beq pc 2 then some ([((0, 2, 0), 0, 5)], [], (0, true), [], [(12, 0, 1), (95, 0, 1)], 47) else none)
set_option maxRecDepth 1000000 in
theorem nq150 : ncheck kt0 [nc148, nc149] nw150 3000 nc150 = true := by decide +kernel
-- LP$Ahead.goTo, steps 136
def nw151 : nOr := (ktX nc151.2.1, ngH, ngF, fun _ _ _ => none)
set_option maxRecDepth 1000000 in
theorem nq151 : ncheck kt0 [nc150] nw151 3000 nc151 = true := by decide +kernel
-- LP.placeIn, steps 142
def nw154 : nOr := (ktX nc154.2.1, ngH, ngF, fun y pc x => bif Nat.beq y 284 && Nat.beq pc 2 then some ([((0, 1, 0), 0, 5)], [], (0, true), [], [(186, 2, 2), (186, 5, 5)], 20) else bif Nat.beq y 285 && Nat.beq pc 2 then some ([((0, 2, 0), 0, 200), ((2, 186, 5), 0, 1199)], [([(1, 2, 186, 5), ((-1), 0, 2, 0)], 999)], (0, true), [], [(186, 2, 2)], 14) else none)
set_option maxRecDepth 1000000 in
theorem nq154 : ncheck kt0 [nc83, nc93, nc120, nc121, nc122, nc123, nc124, nc152, nc153] nw154 3000 nc154 = true := by decide +kernel
-- LPModel.placeIn, steps 420
def nw155 : nOr := (ktX nc155.2.1, ngH, ngF, fun y pc x => bif Nat.beq y 13 && Nat.beq pc 2 then some ([((0, 2, 0), 0, 5)], [], (0, true), [], [], 24) else none)
set_option maxRecDepth 1000000 in
theorem nq155 : ncheck kt0 [] nw155 3000 nc155 = true := by decide +kernel
-- LP$Folk.standing, steps 38
def nw156 : nOr := (ktX nc156.2.1, ngH, ngF, fun _ _ _ => none)
set_option maxRecDepth 1000000 in
theorem nq156 : ncheck kt0 [nc150, nc155] nw156 3000 nc156 = true := by decide +kernel
-- LP.whoIn, steps 269
