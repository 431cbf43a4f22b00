def nw213 : nOr := (ktX nc213.2.1, ngH, ngF, fun y pc x => bif Nat.beq y 98 && Nat.beq pc 7 then some ([((0, 3, 0), 0, 2147483647), ((0, 4, 0), (-1), 3)], [], (1, false), [], [], 29) else none)
set_option maxRecDepth 1000000 in
theorem nq213 : ncheck kt0 [] nw213 3000 nc213 = true := by decide +kernel
-- LP$Tracks.writeRow, steps 24
def nw214 : nOr := (ktX nc214.2.1, ngH, ngF, fun _ _ _ => none)
set_option maxRecDepth 1000000 in
theorem nq214 : ncheck kt0 [nc116] nw214 3000 nc214 = true := by decide +kernel
-- LP$Room.goneAlone, steps 44
def nw215 : nOr := (ktX nc215.2.1, ngH, ngF, fun y pc x => bif Nat.beq y 99 && Nat.beq pc 13 then some ([((0, 3, 0), (-1), 49), ((0, 4, 0), 0, 3), ((0, 5, 0), 1, 20)], [], (2, true), [], [(110, 0, 0)], 80) else none)
set_option maxRecDepth 1000000 in
theorem nq215 : ncheck kt0 [nc214] nw215 3000 nc215 = true := by decide +kernel
-- LP$Tracks.leadsAlong, steps 74
def nw216 : nOr := (ktX nc216.2.1, ngH, ngF, fun y pc x => bif Nat.beq y 97 && Nat.beq pc 5 then some ([((0, 3, 0), (-2147483648), 2147483647), ((0, 4, 0), 0, 4)], [], (1, true), [], [], 18) else bif Nat.beq y 97 && Nat.beq pc 27 then some ([((0, 4, 0), (-2147483648), 2147483647), ((0, 5, 0), 0, 2147483647)], [], (1, true), [], [], 74) else none)
set_option maxRecDepth 1000000 in
theorem nq216 : ncheck kt0 [nc213, nc215] nw216 3000 nc216 = true := by decide +kernel
-- LP$Tracks.countRows, steps 55
def nw217 : nOr := (ktX nc217.2.1, ngH, ngF, fun _ _ _ => none)
set_option maxRecDepth 1000000 in
theorem nq217 : ncheck kt0 [nc209, nc210, nc211, nc212, nc216] nw217 3000 nc217 = true := by decide +kernel
-- LP.steps, steps 383
def nw218 : nOr := (ktX nc218.2.1, ngH, ngF, fun _ _ _ => none)
set_option maxRecDepth 1000000 in
theorem nq218 : ncheck kt0 [] nw218 3000 nc218 = true := by decide +kernel
-- LPModel.wrongCells, steps 39
def nw219 : nOr := (ktX nc219.2.1, ngH, ngF, fun y pc x => bif Nat.beq y 328 && Nat.beq pc 47 then some ([((0, 3, 0), 0, 20)], [], (0, true), [], [(189, 0, 3)], 161) else none)
set_option maxRecDepth 1000000 in
theorem nq219 : ncheck kt0 [] nw219 3000 nc219 = true := by decide +kernel
-- LPModel.wrongCells, steps 5571
