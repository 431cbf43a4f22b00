def nw114 : nOr := (ktX nc114.2.1, ngH, ngF, fun y pc x => bif Nat.beq y 14 && Nat.beq pc 17 then some ([((0, 3, 0), 0, 5)], [], (0, true), [], [], 50) else none)
set_option maxRecDepth 1000000 in
theorem nq114 : ncheck kt0 [] nw114 3000 nc114 = true := by decide +kernel
-- LP$Folk.isFree, steps 44
def nw115 : nOr := (ktX nc115.2.1, ngH, ngF, fun _ _ _ => none)
set_option maxRecDepth 1000000 in
theorem nq115 : ncheck kt0 [nc114] nw115 3000 nc115 = true := by decide +kernel
-- LP$Folk.enter, steps 91
def nw116 : nOr := (ktX nc116.2.1, ngH, ngF, fun _ _ _ => none)
set_option maxRecDepth 1000000 in
theorem nq116 : ncheck kt0 [] nw116 3000 nc116 = true := by decide +kernel
-- LP$Room.beside, steps 2376
def nw117 : nOr := (ktX nc117.2.1, ngH, ngF, fun _ _ _ => none)
set_option maxRecDepth 1000000 in
theorem nq117 : ncheck kt0 [nc114, nc116] nw117 3000 nc117 = true := by decide +kernel
-- LP$Folk.walk, steps 368
def nw118 : nOr := (ktX nc118.2.1, ngH, ngF, fun y pc x => bif Nat.beq y 18 && Nat.beq pc 2 then some ([((0, 2, 0), 0, 5)], [], (0, true), [], [(10, 4, 6), (12, 1, 1), (32, 0, 3), (33, 1, 120)], 47) else bif Nat.beq y 156 && Nat.beq pc 26 then some ([((0, 3, 0), 0, 99)], [], (0, true), [], [(10, 6, 6)], 54) else none)
set_option maxRecDepth 1000000 in
theorem nq118 : ncheck kt0 [nc115, nc117] nw118 3000 nc118 = true := by decide +kernel
-- LP.buy, steps 4381
