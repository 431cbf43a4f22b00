def nw177 : nOr := (ktX nc177.2.1, ngH, ngF, fun y pc x => bif Nat.beq y 98 && Nat.beq pc 7 then some ([((0, 3, 0), 0, 2147483647), ((0, 4, 0), (-1), 3)], [], (1, false), [], [], 29) else none)
set_option maxRecDepth 1000000 in
theorem nq177 : ncheck ktN [] nw177 3000 nc177 = true := by decide +kernel
-- LP$Tracks.writeRow, steps 24
def nw178 : nOr := (ktX nc178.2.1, ngH, ngF, fun _ _ _ => none)
set_option maxRecDepth 1000000 in
theorem nq178 : ncheck ktN [nc86] nw178 3000 nc178 = true := by decide +kernel
-- LP$Room.goneAlone, steps 44
def nw179 : nOr := (ktX nc179.2.1, ngH, ngF, fun y pc x => bif Nat.beq y 99 && Nat.beq pc 13 then some ([((0, 3, 0), (-1), 49), ((0, 4, 0), 0, 3), ((0, 5, 0), 1, 20)], [], (2, true), [], [(110, 0, 0)], 80) else none)
set_option maxRecDepth 1000000 in
theorem nq179 : ncheck ktN [nc178] nw179 3000 nc179 = true := by decide +kernel
-- LP$Tracks.leadsAlong, steps 74
def nw180 : nOr := (ktX nc180.2.1, ngH, ngF, fun y pc x => bif Nat.beq y 97 && Nat.beq pc 5 then some ([((0, 3, 0), (-2147483648), 2147483647), ((0, 4, 0), 0, 4)], [], (1, true), [], [], 18) else bif Nat.beq y 97 && Nat.beq pc 27 then some ([((0, 4, 0), (-2147483648), 2147483647), ((0, 5, 0), 0, 2147483647)], [], (1, true), [], [], 74) else none)
set_option maxRecDepth 1000000 in
theorem nq180 : ncheck ktN [nc177, nc179] nw180 3000 nc180 = true := by decide +kernel
-- LP$Tracks.countRows, steps 55
def nw181 : nOr := (ktX nc181.2.1, ngH, ngF, fun _ _ _ => none)
set_option maxRecDepth 1000000 in
theorem nq181 : ncheck ktN [nc173, nc174, nc175, nc176, nc180] nw181 3000 nc181 = true := by decide +kernel
-- LP.steps, steps 383
def nw182 : nOr := (ktX nc182.2.1, ngH, ngF, fun _ _ _ => none)
set_option maxRecDepth 1000000 in
theorem nq182 : ncheck ktN [] nw182 3000 nc182 = true := by decide +kernel
-- LPModel.wrongCells, steps 39
def nw184 : nOr := (ktX nc184.2.1, ngH, ngF, fun _ _ _ => none)
set_option maxRecDepth 1000000 in
theorem nq184 : ncheck ktN [] nw184 3000 nc184 = true := by decide +kernel
-- LPModel.wrongCells, steps 35
def nw185 : nOr := (ktX nc185.2.1, ngH, ngF, fun _ _ _ => none)
set_option maxRecDepth 1000000 in
theorem nq185 : ncheck ktN [] nw185 3000 nc185 = true := by decide +kernel
-- LPModel.stepFrom, steps 10816
