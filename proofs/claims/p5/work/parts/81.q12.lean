def nw175 : nOr := (ktX nc175.2.1, ngH, ngF, fun y pc x => bif Nat.beq y 96 && Nat.beq pc 13 then some ([((0, 4, 0), 0, 20)], [], (0, true), [], [(107, 3, 3)], 106) else none)
set_option maxRecDepth 1000000 in
theorem nq175 : ncheck ktN [] nw175 3000 nc175 = true := by decide +kernel
-- LP$Tracks.load, steps 2864
def nw176 : nOr := (ktX nc176.2.1, ngH, ngF, fun y pc x => bif Nat.beq y 96 && Nat.beq pc 13 then some ([((0, 4, 0), 0, 20)], [], (0, true), [], [(107, 3, 3)], 106) else none)
set_option maxRecDepth 1000000 in
theorem nq176 : ncheck ktN [] nw176 3000 nc176 = true := by decide +kernel
-- LP$Tracks.load, steps 2864
