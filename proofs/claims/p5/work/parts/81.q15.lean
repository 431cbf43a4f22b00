def nw119 : nOr := (ktX nc119.2.1, ngH, ngF, fun _ _ _ => none)
set_option maxRecDepth 1000000 in
theorem nq119 : ncheck kt0 [] nw119 3000 nc119 = true := by decide +kernel
-- LPModel.stepFrom, steps 398
def nw120 : nOr := (ktX nc120.2.1, ngH, ngF, fun _ _ _ => none)
set_option maxRecDepth 1000000 in
theorem nq120 : ncheck kt0 [nc94, nc119] nw120 3000 nc120 = true := by decide +kernel
-- LPModel.livesOn, steps 261
def nw121 : nOr := (ktX nc121.2.1, ngH, ngF, fun _ _ _ => none)
set_option maxRecDepth 1000000 in
theorem nq121 : ncheck kt0 [nc94, nc119] nw121 3000 nc121 = true := by decide +kernel
-- LPModel.livesOn, steps 261
def nw122 : nOr := (ktX nc122.2.1, ngH, ngF, fun _ _ _ => none)
set_option maxRecDepth 1000000 in
theorem nq122 : ncheck kt0 [nc94, nc119] nw122 3000 nc122 = true := by decide +kernel
-- LPModel.livesOn, steps 261
def nw123 : nOr := (ktX nc123.2.1, ngH, ngF, fun _ _ _ => none)
set_option maxRecDepth 1000000 in
theorem nq123 : ncheck kt0 [nc94, nc119] nw123 3000 nc123 = true := by decide +kernel
-- LPModel.livesOn, steps 261
def nw124 : nOr := (ktX nc124.2.1, ngH, ngF, fun _ _ _ => none)
set_option maxRecDepth 1000000 in
theorem nq124 : ncheck kt0 [nc94, nc119] nw124 3000 nc124 = true := by decide +kernel
-- LPModel.livesOn, steps 261
def nw125 : nOr := (ktX nc125.2.1, ngH, ngF, fun y pc x => bif Nat.beq y 284 && Nat.beq pc 2 then some ([((0, 1, 0), 0, 5)], [], (0, true), [], [(186, 4, 7), (186, 128, 131)], 20) else bif Nat.beq y 287 && Nat.beq pc 28 then some ([((0, 3, 0), 0, 99), ((2, 186, 5), 0, 999)], [], (0, true), [], [(186, 4, 4)], 44) else none)
set_option maxRecDepth 1000000 in
theorem nq125 : ncheck kt0 [nc120, nc121, nc122, nc123, nc124] nw125 3000 nc125 = true := by decide +kernel
-- LPModel.buy, steps 648
def nw126 : nOr := (ktX nc126.2.1, ngH, ngF, fun y pc x => bif Nat.beq y 18 && Nat.beq pc 2 then some ([((0, 2, 0), 0, 5)], [], (0, true), [], [(12, 1, 1)], 47) else bif Nat.beq y 157 && Nat.beq pc 35 then some ([((0, 2, 0), 0, 99), ((2, 12, 1), 0, 999)], [([(1, 2, 12, 1), (1, 0, 1, 0), ((-1), 0, 2, 0)], 999)], (0, true), [], [], 51) else none)
set_option maxRecDepth 1000000 in
theorem nq126 : ncheck kt0 [nc115, nc117] nw126 3000 nc126 = true := by decide +kernel
-- LP.skip, steps 148
def nw127 : nOr := (ktX nc127.2.1, ngH, ngF, fun y pc x => bif Nat.beq y 284 && Nat.beq pc 2 then some ([((0, 1, 0), 0, 5)], [], (0, true), [], [(186, 5, 5)], 20) else bif Nat.beq y 285 && Nat.beq pc 2 then some ([((0, 2, 0), 0, 99), ((2, 186, 5), 0, 999)], [([(1, 2, 186, 5), ((-1), 0, 2, 0)], 999), ([(1, 2, 186, 5), (1, 0, 1, 0), ((-1), 0, 2, 0)], 999)], (0, true), [], [], 14) else none)
set_option maxRecDepth 1000000 in
theorem nq127 : ncheck kt0 [nc120, nc121, nc122, nc123, nc124] nw127 3000 nc127 = true := by decide +kernel
-- LPModel.skip, steps 309
def nw128 : nOr := (ktX nc128.2.1, ngH, ngF, fun _ _ _ => none)
set_option maxRecDepth 1000000 in
theorem nq128 : ncheck kt0 [] nw128 3000 nc128 = true := by decide +kernel
-- LP.give, steps 196
def nw129 : nOr := (ktX nc129.2.1, ngH, ngF, fun _ _ _ => none)
set_option maxRecDepth 1000000 in
theorem nq129 : ncheck kt0 [] nw129 3000 nc129 = true := by decide +kernel
-- LPModel.give, steps 153
def nw130 : nOr := (ktX nc130.2.1, ngH, ngF, fun _ _ _ => none)
set_option maxRecDepth 1000000 in
theorem nq130 : ncheck kt0 [] nw130 3000 nc130 = true := by decide +kernel
-- LP.back, steps 215
def nw131 : nOr := (ktX nc131.2.1, ngH, ngF, fun _ _ _ => none)
set_option maxRecDepth 1000000 in
theorem nq131 : ncheck kt0 [] nw131 3000 nc131 = true := by decide +kernel
-- LPModel.back, steps 176
