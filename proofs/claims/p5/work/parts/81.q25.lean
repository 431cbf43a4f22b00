def nw221 : nOr := (ktX nc221.2.1, ngH, ngF, fun y pc x => bif Nat.beq y 96 && Nat.beq pc 13 then some ([((0, 4, 0), 0, 20)], [], (0, true), [], [(107, 3, 3)], 106) else none)
set_option maxRecDepth 1000000 in
theorem nq221 : ncheck kt0 [] nw221 3000 nc221 = true := by decide +kernel
-- LP$Tracks.load, steps 2864
def nw222 : nOr := (ktX nc222.2.1, ngH, ngF, fun y pc x => bif Nat.beq y 98 && Nat.beq pc 7 then some ([((0, 3, 0), 0, 2147483647), ((0, 4, 0), (-1), 3)], [], (1, false), [], [], 29) else none)
set_option maxRecDepth 1000000 in
theorem nq222 : ncheck kt0 [] nw222 3000 nc222 = true := by decide +kernel
-- LP$Tracks.writeRow, steps 24
def nw223 : nOr := (ktX nc223.2.1, ngH, ngF, fun _ _ _ => none)
set_option maxRecDepth 1000000 in
theorem nq223 : ncheck kt0 [nc125] nw223 3000 nc223 = true := by decide +kernel
-- LP$Room.goneAlone, steps 44
