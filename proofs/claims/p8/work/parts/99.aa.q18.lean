def nw219 : nOr := (ktX nc219.2.1, ngH, ngF, fun y pc x => bif Nat.beq y 96 && Nat.beq pc 13 then some ([((0, 4, 0), 0, 20)], [], (0, true), [], [(107, 3, 3)], 106) else none)
set_option maxRecDepth 1000000 in
theorem nq219 : ncheck kt0 [] nw219 3000 nc219 = true := by decide +kernel
-- LP$Tracks.load, steps 2864
def nw220 : nOr := (ktX nc220.2.1, ngH, ngF, fun y pc x => bif Nat.beq y 96 && Nat.beq pc 13 then some ([((0, 4, 0), 0, 20)], [], (0, true), [], [(107, 3, 3)], 106) else none)
set_option maxRecDepth 1000000 in
theorem nq220 : ncheck kt0 [] nw220 3000 nc220 = true := by decide +kernel
-- LP$Tracks.load, steps 2864
