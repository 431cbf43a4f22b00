def nw175 : nOr := (ktX nc175.2.1, ngH, ngF, fun y pc x => bif Nat.beq y 96 && Nat.beq pc 13 then some ([((0, 4, 0), 0, 20)], [], (0, true), [], [(107, 3, 3)], 106) else none)
set_option maxRecDepth 1000000 in
theorem nq175 : ncheck ktN [] nw175 3000 nc175 = true := by decide +kernel
-- LP$Tracks.load, steps 2864
def nw176 : nOr := (ktX nc176.2.1, ngH, ngF, fun y pc x => bif Nat.beq y 96 && Nat.beq pc 13 then some ([((0, 4, 0), 0, 20)], [], (0, true), [], [(107, 3, 3)], 106) else none)
set_option maxRecDepth 1000000 in
theorem nq176 : ncheck ktN [] nw176 3000 nc176 = true := by decide +kernel
-- LP$Tracks.load, steps 2864
def nw177 : nOr := (ktX nc177.2.1, ngH, ngF, fun y pc x => bif Nat.beq y 98 && Nat.beq pc 7 then some ([((0, 3, 0), 0, 2147483647), ((0, 4, 0), (-1), 3)], [], (1, false), [], [], 29) else none)
set_option maxRecDepth 1000000 in
theorem nq177 : ncheck ktN [] nw177 3000 nc177 = true := by decide +kernel
-- LP$Tracks.writeRow, steps 24
def nw178 : nOr := (ktX nc178.2.1, ngH, ngF, fun _ _ _ => none)
set_option maxRecDepth 1000000 in
theorem nq178 : ncheck ktN [nc86] nw178 3000 nc178 = true := by decide +kernel
-- LP$Room.goneAlone, steps 44
def nw179 : nOr := (ktX nc179.2.1, ngH, ngF, fun y pc x => bif Nat.beq y 99 && Nat.beq pc 13 then some ([((0, 3, 0), (-1), 49), ((0, 4, 0), 0, 3), ((0, 5, 0), 1, 20)], [], (2, true), [], [(110, 0, 0)], 80) else none)
set_option maxRecDepth 1000000 in
theorem nq179 : ncheck ktN [nc178] nw179 3000 nc179 = true := by decide +kernel
-- LP$Tracks.leadsAlong, steps 74
