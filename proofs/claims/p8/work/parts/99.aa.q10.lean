def nw126 : nOr := (ktX nc126.2.1, ngH, ngF, fun _ _ _ => none)
set_option maxRecDepth 1000000 in
theorem nq126 : ncheck kt0 [nc123, nc125] nw126 3000 nc126 = true := by decide +kernel
-- LP$Folk.walk, steps 368
def nw127 : nOr := (ktX nc127.2.1, ngH, ngF, fun y pc x => bif Nat.beq y 18 && Nat.beq pc 2 then some ([((0, 2, 0), 0, 5)], [], (0, true), [], [(10, 4, 6), (12, 1, 1), (32, 0, 3), (33, 1, 120)], 47) else bif Nat.beq y 156 && Nat.beq pc 26 then some ([((0, 3, 0), 0, 99)], [], (0, true), [], [(10, 6, 6)], 54) else none)
set_option maxRecDepth 1000000 in
theorem nq127 : ncheck kt0 [nc124, nc126] nw127 3000 nc127 = true := by decide +kernel
-- LP.buy, steps 4381
