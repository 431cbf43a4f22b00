def nw128 : nOr := (ktX nc128.2.1, ngH, ngF, fun _ _ _ => none)
set_option maxRecDepth 1000000 in
theorem nq128 : ncheck kt0 [] nw128 3000 nc128 = true := by decide +kernel
-- LPModel.stepFrom, steps 398
def nw129 : nOr := (ktX nc129.2.1, ngH, ngF, fun _ _ _ => none)
set_option maxRecDepth 1000000 in
theorem nq129 : ncheck kt0 [nc103, nc128] nw129 3000 nc129 = true := by decide +kernel
-- LPModel.livesOn, steps 261
def nw130 : nOr := (ktX nc130.2.1, ngH, ngF, fun _ _ _ => none)
set_option maxRecDepth 1000000 in
theorem nq130 : ncheck kt0 [nc103, nc128] nw130 3000 nc130 = true := by decide +kernel
-- LPModel.livesOn, steps 261
def nw131 : nOr := (ktX nc131.2.1, ngH, ngF, fun _ _ _ => none)
set_option maxRecDepth 1000000 in
theorem nq131 : ncheck kt0 [nc103, nc128] nw131 3000 nc131 = true := by decide +kernel
-- LPModel.livesOn, steps 261
def nw132 : nOr := (ktX nc132.2.1, ngH, ngF, fun _ _ _ => none)
set_option maxRecDepth 1000000 in
theorem nq132 : ncheck kt0 [nc103, nc128] nw132 3000 nc132 = true := by decide +kernel
-- LPModel.livesOn, steps 261
def nw133 : nOr := (ktX nc133.2.1, ngH, ngF, fun _ _ _ => none)
set_option maxRecDepth 1000000 in
theorem nq133 : ncheck kt0 [nc103, nc128] nw133 3000 nc133 = true := by decide +kernel
-- LPModel.livesOn, steps 261
def nw134 : nOr := (ktX nc134.2.1, ngH, ngF, fun y pc x => bif Nat.beq y 284 && Nat.beq pc 2 then some ([((0, 1, 0), 0, 5)], [], (0, true), [], [(186, 4, 7), (186, 128, 131)], 20) else bif Nat.beq y 287 && Nat.beq pc 28 then some ([((0, 3, 0), 0, 99), ((2, 186, 5), 0, 999)], [], (0, true), [], [(186, 4, 4)], 44) else none)
set_option maxRecDepth 1000000 in
theorem nq134 : ncheck kt0 [nc129, nc130, nc131, nc132, nc133] nw134 3000 nc134 = true := by decide +kernel
-- LPModel.buy, steps 648
def nw135 : nOr := (ktX nc135.2.1, ngH, ngF, fun y pc x => bif Nat.beq y 18 && Nat.beq pc 2 then some ([((0, 2, 0), 0, 5)], [], (0, true), [], [(12, 1, 1)], 47) else bif Nat.beq y 157 && Nat.beq pc 35 then some ([((0, 2, 0), 0, 99), ((2, 12, 1), 0, 999)], [([(1, 2, 12, 1), (1, 0, 1, 0), ((-1), 0, 2, 0)], 999)], (0, true), [], [], 51) else none)
set_option maxRecDepth 1000000 in
theorem nq135 : ncheck kt0 [nc124, nc126] nw135 3000 nc135 = true := by decide +kernel
-- LP.skip, steps 148
def nw136 : nOr := (ktX nc136.2.1, ngH, ngF, fun y pc x => bif Nat.beq y 284 && Nat.beq pc 2 then some ([((0, 1, 0), 0, 5)], [], (0, true), [], [(186, 5, 5)], 20) else bif Nat.beq y 285 && Nat.beq pc 2 then some ([((0, 2, 0), 0, 99), ((2, 186, 5), 0, 999)], [([(1, 2, 186, 5), ((-1), 0, 2, 0)], 999), ([(1, 2, 186, 5), (1, 0, 1, 0), ((-1), 0, 2, 0)], 999)], (0, true), [], [], 14) else none)
set_option maxRecDepth 1000000 in
theorem nq136 : ncheck kt0 [nc129, nc130, nc131, nc132, nc133] nw136 3000 nc136 = true := by decide +kernel
-- LPModel.skip, steps 309
def nw137 : nOr := (ktX nc137.2.1, ngH, ngF, fun _ _ _ => none)
set_option maxRecDepth 1000000 in
theorem nq137 : ncheck kt0 [] nw137 3000 nc137 = true := by decide +kernel
-- LP.give, steps 196
def nw138 : nOr := (ktX nc138.2.1, ngH, ngF, fun _ _ _ => none)
set_option maxRecDepth 1000000 in
theorem nq138 : ncheck kt0 [] nw138 3000 nc138 = true := by decide +kernel
-- LPModel.give, steps 153
def nw139 : nOr := (ktX nc139.2.1, ngH, ngF, fun _ _ _ => none)
set_option maxRecDepth 1000000 in
theorem nq139 : ncheck kt0 [] nw139 3000 nc139 = true := by decide +kernel
-- LP.back, steps 215
def nw140 : nOr := (ktX nc140.2.1, ngH, ngF, fun _ _ _ => none)
set_option maxRecDepth 1000000 in
theorem nq140 : ncheck kt0 [] nw140 3000 nc140 = true := by decide +kernel
-- LPModel.back, steps 176
def nw141 : nOr := (ktX nc141.2.1, ngH, ngF, fun _ _ _ => none)
set_option maxRecDepth 1000000 in
theorem nq141 : ncheck kt0 [] nw141 3000 nc141 = true := by decide +kernel
-- LP.earn, steps 126
def nw142 : nOr := (ktX nc142.2.1, ngH, ngF, fun _ _ _ => none)
set_option maxRecDepth 1000000 in
theorem nq142 : ncheck kt0 [] nw142 3000 nc142 = true := by decide +kernel
-- LPModel.earn, steps 225
