def nw157 : nOr := (ktX nc157.2.1, ngH, ngF, fun y pc x => bif Nat.beq y 284 && Nat.beq pc 2 then some ([((0, 1, 0), 0, 5)], [], (0, true), [], [(186, 0, 1), (186, 5, 5)], 20) else bif Nat.beq y 285 && Nat.beq pc 2 then some ([((0, 2, 0), 0, 200), ((2, 186, 5), 0, 1199)], [([(1, 2, 186, 5), ((-1), 0, 2, 0)], 999)], (0, true), [], [(186, 0, 1)], 14) else none)
set_option maxRecDepth 1000000 in
theorem nq157 : ncheck kt0 [nc94, nc120, nc121, nc122, nc123, nc124, nc152, nc153] nw157 3000 nc157 = true := by decide +kernel
-- LPModel.whoIn, steps 789
def nw158 : nOr := (ktX nc158.2.1, ngH, ngF, fun y pc x => bif Nat.beq y 16 && Nat.beq pc 4 then some ([((0, 2, 0), (-2147483648), 2147483647), ((0, 3, 0), 0, 5)], [], (1, true), [], [], 31) else none)
set_option maxRecDepth 1000000 in
theorem nq158 : ncheck kt0 [] nw158 3000 nc158 = true := by decide +kernel
-- LP$Folk.setIn, steps 29
def nw159 : nOr := (ktX nc159.2.1, ngH, ngF, fun y pc x => bif Nat.beq y 92 && Nat.beq pc 4 then some ([((0, 2, 0), 0, 63), ((0, 3, 0), 0, 6)], [], (1, true), [], [], 30) else none)
set_option maxRecDepth 1000000 in
theorem nq159 : ncheck kt0 [nc158] nw159 3000 nc159 = true := by decide +kernel
-- LP$Sights.shownBy, steps 283
def nw160 : nOr := (ktX nc160.2.1, ngH, ngF, fun _ _ _ => none)
set_option maxRecDepth 1000000 in
theorem nq160 : ncheck kt0 [nc150, nc159] nw160 3000 nc160 = true := by decide +kernel
-- LP.showsIn, steps 59
def nw161 : nOr := (ktX nc161.2.1, ngH, ngF, fun y pc x => bif Nat.beq y 284 && Nat.beq pc 2 then some ([((0, 1, 0), 0, 5)], [], (0, true), [], [(186, 5, 5)], 20) else bif Nat.beq y 285 && Nat.beq pc 2 then some ([((0, 2, 0), 0, 200), ((2, 186, 5), 0, 1199)], [([(1, 2, 186, 5), ((-1), 0, 2, 0)], 999)], (0, true), [], [], 14) else none)
set_option maxRecDepth 1000000 in
theorem nq161 : ncheck kt0 [nc85, nc120, nc121, nc122, nc123, nc124, nc152, nc153] nw161 3000 nc161 = true := by decide +kernel
-- LPModel.showsIn, steps 240
def nw162 : nOr := (ktX nc162.2.1, ngH, ngF, fun y pc x => bif Nat.beq y 4 && Nat.beq pc 13 then some ([((0, 3, 0), 1, 201), ((2, 95, 1), 0, 1199)], [([(1, 2, 95, 1), ((-1), 0, 3, 0)], 998)], (0, true), [], [(12, 0, 1), (95, 0, 0)], 51) else bif Nat.beq y 18 && Nat.beq pc 2 then some ([((0, 2, 0), 0, 5)], [], (0, true), [], [(12, 0, 1), (95, 0, 1)], 47) else none)
set_option maxRecDepth 1000000 in
theorem nq162 : ncheck kt0 [nc148, nc149, nc158] nw162 3000 nc162 = true := by decide +kernel
-- LP$Ahead.firstShowing, steps 312
def nw163 : nOr := (ktX nc163.2.1, ngH, ngF, fun _ _ _ => none)
set_option maxRecDepth 1000000 in
theorem nq163 : ncheck kt0 [nc162] nw163 3000 nc163 = true := by decide +kernel
-- LP.first, steps 83
def nw164 : nOr := (ktX nc164.2.1, ngH, ngF, fun y pc x => bif Nat.beq y 284 && Nat.beq pc 2 then some ([((0, 1, 0), 0, 5)], [], (0, true), [], [(186, 5, 5)], 20) else bif Nat.beq y 305 && Nat.beq pc 9 then some ([((0, 2, 0), 1, 201), ((2, 186, 5), 0, 1199)], [([(1, 2, 186, 5), ((-1), 0, 2, 0)], 998)], (0, true), [], [], 31) else none)
set_option maxRecDepth 1000000 in
theorem nq164 : ncheck kt0 [nc85, nc120, nc121, nc122, nc123, nc124, nc152, nc153] nw164 3000 nc164 = true := by decide +kernel
-- LPModel.laysShows, steps 64
def nw165 : nOr := (ktX nc165.2.1, ngH, ngF, fun y pc x => bif Nat.beq y 306 && Nat.beq pc 9 then some ([((0, 2, 0), 1, 201), ((2, 186, 5), 0, 999)], [], (0, true), [], [], 35) else none)
set_option maxRecDepth 1000000 in
theorem nq165 : ncheck kt0 [nc164] nw165 3000 nc165 = true := by decide +kernel
-- LPModel.firstOf, steps 37
def nw166 : nOr := (ktX nc166.2.1, ngH, ngF, fun _ _ _ => none)
set_option maxRecDepth 1000000 in
theorem nq166 : ncheck kt0 [nc165] nw166 3000 nc166 = true := by decide +kernel
-- LPModel.first, steps 70
def nw167 : nOr := (ktX nc167.2.1, ngH, ngF, fun _ _ _ => none)
set_option maxRecDepth 1000000 in
theorem nq167 : ncheck kt0 [nc162] nw167 3000 nc167 = true := by decide +kernel
-- LP.cost, steps 112
def nw168 : nOr := (ktX nc168.2.1, ngH, ngF, fun _ _ _ => none)
set_option maxRecDepth 1000000 in
theorem nq168 : ncheck kt0 [nc145, nc165] nw168 3000 nc168 = true := by decide +kernel
-- LPModel.cost, steps 67
def nw169 : nOr := (ktX nc169.2.1, ngH, ngF, fun y pc x => bif Nat.beq y 2 && Nat.beq pc 30 then some ([((0, 3, 0), 1, 201), ((2, 95, 1), 0, 1199)], [([(1, 2, 95, 1), ((-1), 0, 3, 0)], 998)], (0, true), [], [(12, 0, 1), (95, 0, 0), (104, 0, 0)], 73) else bif Nat.beq y 18 && Nat.beq pc 2 then some ([((0, 2, 0), 0, 5)], [], (0, true), [], [(12, 0, 1), (95, 0, 1), (104, 0, 0)], 47) else none)
set_option maxRecDepth 1000000 in
theorem nq169 : ncheck kt0 [nc148, nc149, nc159] nw169 3000 nc169 = true := by decide +kernel
-- LP$Ahead.lookAtSights, steps 157
def nw170 : nOr := (ktX nc170.2.1, ngH, ngF, fun y pc x => bif Nat.beq y 172 && Nat.beq pc 42 then some ([((0, 3, 0), (-2147483648), 2147483647), ((0, 4, 0), 1, 201)], [], (1, true), [], [(21, 0, 0)], 68) else none)
set_option maxRecDepth 1000000 in
theorem nq170 : ncheck kt0 [nc169] nw170 3000 nc170 = true := by decide +kernel
-- LP.often, steps 125
def nw171 : nOr := (ktX nc171.2.1, ngH, ngF, fun y pc x => bif Nat.beq y 309 && Nat.beq pc 32 then some ([((0, 3, 0), (-2147483648), 2147483647), ((0, 4, 0), 1, 201), ((2, 186, 5), 0, 999)], [], (1, true), [], [], 64) else none)
set_option maxRecDepth 1000000 in
theorem nq171 : ncheck kt0 [nc164] nw171 3000 nc171 = true := by decide +kernel
-- LPModel.often, steps 270
def nw172 : nOr := (ktX nc172.2.1, ngH, ngF, fun y pc x => bif Nat.beq y 173 && Nat.beq pc 45 then some ([((0, 3, 0), 0, 2147483647), ((0, 4, 0), (-2147483648), 2147483647), ((0, 5, 0), 1, 201)], [], (2, true), [], [(21, 0, 0)], 89) else none)
set_option maxRecDepth 1000000 in
theorem nq172 : ncheck kt0 [nc169] nw172 3000 nc172 = true := by decide +kernel
-- LP.longest, steps 144
def nw173 : nOr := (ktX nc173.2.1, ngH, ngF, fun y pc x => bif Nat.beq y 310 && Nat.beq pc 35 then some ([((0, 3, 0), 0, 2147483647), ((0, 4, 0), (-2147483648), 2147483647), ((0, 5, 0), 1, 201), ((2, 186, 5), 0, 999)], [], (2, true), [], [], 76) else none)
set_option maxRecDepth 1000000 in
theorem nq173 : ncheck kt0 [nc164] nw173 3000 nc173 = true := by decide +kernel
-- LPModel.longest, steps 297
def nw174 : nOr := (ktX nc174.2.1, ngH, ngF, fun y pc x => bif Nat.beq y 3 && Nat.beq pc 28 then some ([((0, 4, 0), 1, 201), ((2, 95, 1), 0, 1199)], [([(1, 2, 95, 1), ((-1), 0, 4, 0)], 998)], (0, true), [], [(12, 0, 1), (95, 0, 0), (105, 0, 0)], 71) else bif Nat.beq y 18 && Nat.beq pc 2 then some ([((0, 2, 0), 0, 5)], [], (0, true), [], [(12, 0, 1), (95, 0, 1), (105, 0, 0)], 47) else none)
set_option maxRecDepth 1000000 in
theorem nq174 : ncheck kt0 [nc148, nc149] nw174 3000 nc174 = true := by decide +kernel
-- LP$Ahead.lookAtPerson, steps 523
