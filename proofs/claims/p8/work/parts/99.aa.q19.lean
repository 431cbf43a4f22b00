def nw221 : nOr := (ktX nc221.2.1, ngH, ngF, fun y pc x => bif Nat.beq y 96 && Nat.beq pc 13 then some ([((0, 4, 0), 0, 20)], [], (0, true), [], [(107, 3, 3)], 106) else none)
set_option maxRecDepth 1000000 in
theorem nq221 : ncheck kt0 [] nw221 3000 nc221 = true := by decide +kernel
-- LP$Tracks.load, steps 2864
def nw222 : nOr := (ktX nc222.2.1, ngH, ngF, fun y pc x => bif Nat.beq y 98 && Nat.beq pc 7 then some ([((0, 3, 0), 0, 2147483647), ((0, 4, 0), (-1), 3)], [], (1, false), [], [], 29) else none)
set_option maxRecDepth 1000000 in
theorem nq222 : ncheck kt0 [] nw222 3000 nc222 = true := by decide +kernel
-- LP$Tracks.writeRow, steps 24
def nw223 : nOr := (ktX nc223.2.1, ngH, ngF, fun _ _ _ => none)
set_option maxRecDepth 1000000 in
theorem nq223 : ncheck kt0 [nc125] nw223 3000 nc223 = true := by decide +kernel
-- LP$Room.goneAlone, steps 44
def nw224 : nOr := (ktX nc224.2.1, ngH, ngF, fun y pc x => bif Nat.beq y 99 && Nat.beq pc 13 then some ([((0, 3, 0), (-1), 49), ((0, 4, 0), 0, 3), ((0, 5, 0), 1, 20)], [], (2, true), [], [(110, 0, 0)], 80) else none)
set_option maxRecDepth 1000000 in
theorem nq224 : ncheck kt0 [nc223] nw224 3000 nc224 = true := by decide +kernel
-- LP$Tracks.leadsAlong, steps 74
def nw225 : nOr := (ktX nc225.2.1, ngH, ngF, fun y pc x => bif Nat.beq y 97 && Nat.beq pc 5 then some ([((0, 3, 0), (-2147483648), 2147483647), ((0, 4, 0), 0, 4)], [], (1, true), [], [], 18) else bif Nat.beq y 97 && Nat.beq pc 27 then some ([((0, 4, 0), (-2147483648), 2147483647), ((0, 5, 0), 0, 2147483647)], [], (1, true), [], [], 74) else none)
set_option maxRecDepth 1000000 in
theorem nq225 : ncheck kt0 [nc222, nc224] nw225 3000 nc225 = true := by decide +kernel
-- LP$Tracks.countRows, steps 55
def nw226 : nOr := (ktX nc226.2.1, ngH, ngF, fun _ _ _ => none)
set_option maxRecDepth 1000000 in
theorem nq226 : ncheck kt0 [nc218, nc219, nc220, nc221, nc225] nw226 3000 nc226 = true := by decide +kernel
-- LP.steps, steps 383
def nw227 : nOr := (ktX nc227.2.1, ngH, ngF, fun _ _ _ => none)
set_option maxRecDepth 1000000 in
theorem nq227 : ncheck kt0 [] nw227 3000 nc227 = true := by decide +kernel
-- LPModel.wrongCells, steps 39
def nw228 : nOr := (ktX nc228.2.1, ngH, ngF, fun y pc x => bif Nat.beq y 328 && Nat.beq pc 47 then some ([((0, 3, 0), 0, 20)], [], (0, true), [], [(189, 0, 3)], 161) else none)
set_option maxRecDepth 1000000 in
theorem nq228 : ncheck kt0 [] nw228 3000 nc228 = true := by decide +kernel
-- LPModel.wrongCells, steps 5571
