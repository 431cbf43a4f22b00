def nw245 : nOr := (ktX nc245.2.1, ngH, ngF, fun _ _ _ => none)
set_option maxRecDepth 1000000 in
theorem nq245 : ncheck kt0 [nc244] nw245 3000 nc245 = true := by decide +kernel
-- LP.live, steps 126
def nw246 : nOr := (ktX nc246.2.1, ngH, ngF, fun y pc x => bif Nat.beq y 284 && Nat.beq pc 2 then some ([((0, 1, 0), 0, 5)], [], (0, true), [], [(186, 5, 7), (186, 127, 131)], 20) else bif Nat.beq y 339 && Nat.beq pc 39 then some ([((0, 4, 0), 0, 9999), ((2, 186, 5), 0, 999)], [], (0, true), [], [], 54) else none)
set_option maxRecDepth 1000000 in
theorem nq246 : ncheck kt0 [nc120, nc121, nc122, nc123, nc124, nc145] nw246 3000 nc246 = true := by decide +kernel
-- LPModel.buysBy, steps 1791
def nw247 : nOr := (ktX nc247.2.1, ngH, ngF, fun y pc x => bif Nat.beq y 341 && Nat.beq pc 3 then some ([((0, 3, 0), (-1), 119)], [], (0, false), [], [], 45) else none)
set_option maxRecDepth 1000000 in
theorem nq247 : ncheck kt0 [] nw247 3000 nc247 = true := by decide +kernel
-- LPModel.givesBy, steps 33
def nw249 : nOr := (ktX nc249.2.1, ngH, ngF, fun y pc x => bif Nat.beq y 284 && Nat.beq pc 2 then some ([((0, 1, 0), 0, 5)], [], (0, true), [], [(185, 30, 31), (186, 5, 5), (186, 8, 8), (186, 252, 607), (201, 0, 0)], 20) else bif Nat.beq y 285 && Nat.beq pc 2 then some ([((0, 2, 0), 0, 99), ((2, 186, 5), 0, 999)], [([(1, 2, 186, 5), ((-1), 0, 2, 0)], 999), ([(1, 2, 186, 5), (1, 0, 1, 0), ((-1), 0, 2, 0)], 999)], (0, true), [], [(185, 30, 31), (186, 8, 8), (186, 252, 607), (201, 0, 0)], 14) else bif Nat.beq y 345 && Nat.beq pc 12 then some ([((0, 2, 0), 0, 5), ((2, 186, 5), 0, 999)], [], (0, true), [], [(185, 30, 31)], 27) else bif Nat.beq y 345 && Nat.beq pc 32 then some ([((0, 2, 0), 0, 60), ((2, 185, 31), 0, 300), ((2, 186, 5), 0, 999)], [], (1, true), [], [], 182) else none)
set_option maxRecDepth 1000000 in
theorem nq249 : ncheck kt0 [nc81, nc84, nc120, nc121, nc122, nc123, nc124, nc246, nc247, nc248] nw249 3000 nc249 = true := by decide +kernel
-- LPModel.lives, steps 1421
def nw250 : nOr := (ktX nc250.2.1, ngH, ngF, fun y pc x => bif Nat.beq y 346 && Nat.beq pc 43 then some ([((0, 2, 0), 0, 5), ((2, 186, 5), 0, 999)], [], (0, true), [], [(186, 8, 8)], 63) else none)
set_option maxRecDepth 1000000 in
theorem nq250 : ncheck kt0 [nc249] nw250 3000 nc250 = true := by decide +kernel
-- LPModel.live, steps 201
def nw251 : nOr := (ktX nc251.2.1, ngH, ngF, fun _ _ _ => none)
set_option maxRecDepth 1000000 in
theorem nq251 : ncheck kt0 [] nw251 3000 nc251 = true := by decide +kernel
-- LP.lived, steps 63
def nw252 : nOr := (ktX nc252.2.1, ngH, ngF, fun _ _ _ => none)
set_option maxRecDepth 1000000 in
theorem nq252 : ncheck kt0 [] nw252 3000 nc252 = true := by decide +kernel
-- LPModel.lived, steps 50
