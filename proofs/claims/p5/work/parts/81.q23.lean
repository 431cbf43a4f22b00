def nw211 : nOr := (ktX nc211.2.1, ngH, ngF, fun y pc x => bif Nat.beq y 96 && Nat.beq pc 13 then some ([((0, 4, 0), 0, 20)], [], (0, true), [], [(107, 3, 3)], 106) else none)
set_option maxRecDepth 1000000 in
theorem nq211 : ncheck kt0 [] nw211 3000 nc211 = true := by decide +kernel
-- LP$Tracks.load, steps 2864
def nw212 : nOr := (ktX nc212.2.1, ngH, ngF, fun y pc x => bif Nat.beq y 96 && Nat.beq pc 13 then some ([((0, 4, 0), 0, 20)], [], (0, true), [], [(107, 3, 3)], 106) else none)
set_option maxRecDepth 1000000 in
theorem nq212 : ncheck kt0 [] nw212 3000 nc212 = true := by decide +kernel
-- LP$Tracks.load, steps 2864
