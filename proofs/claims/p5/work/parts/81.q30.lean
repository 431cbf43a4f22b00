def nw246 : nOr := (ktX nc246.2.1, ngH, ngF, fun y pc x => bif Nat.beq y 336 && Nat.beq pc 85 then some ([((0, 8, 0), 0, 30), ((2, 186, 5), 0, 999)], [], (0, true), [], [(186, 0, 1), (186, 10, 39)], 114) else bif Nat.beq y 336 && Nat.beq pc 120 then some ([((0, 8, 0), 0, 12), ((2, 186, 5), 0, 999)], [], (0, true), [], [(186, 0, 1), (186, 10, 39)], 250) else bif Nat.beq y 336 && Nat.beq pc 130 then some ([((0, 9, 0), 0, 30), ((2, 186, 5), 0, 999)], [], (0, true), [], [(186, 0, 1), (186, 10, 39)], 148) else bif Nat.beq y 336 && Nat.beq pc 154 then some ([((0, 9, 0), 0, 30), ((2, 186, 5), 0, 999)], [], (0, true), [], [(186, 0, 1), (186, 10, 39)], 214) else bif Nat.beq y 336 && Nat.beq pc 164 then some ([((0, 10, 0), 0, 5), ((2, 186, 5), 0, 999)], [], (0, true), [], [(186, 0, 1), (186, 10, 39)], 208) else bif Nat.beq y 336 && Nat.beq pc 220 then some ([((0, 9, 0), 0, 30), ((2, 186, 5), 0, 999)], [], (0, true), [], [(186, 0, 1), (186, 10, 39)], 244) else none)
set_option maxRecDepth 1000000 in
theorem nq246 : ncheck kt0 [nc128] nw246 3000 nc246 = true := by decide +kernel
-- LPModel.between, steps 715
def nw247 : nOr := (ktX nc247.2.1, ngH, ngF, fun y pc x => bif Nat.beq y 102 && Nat.beq pc 6 then some ([((0, 4, 0), (-2147483648), 2147483647), ((0, 5, 0), 0, 5)], [], (1, true), [], [], 82) else bif Nat.beq y 102 && Nat.beq pc 18 then some ([((0, 4, 0), (-2147483648), 2147483647), ((0, 6, 0), 0, 6)], [], (1, true), [], [(11, 1, 1)], 76) else none)
set_option maxRecDepth 1000000 in
theorem nq247 : ncheck kt0 [nc242] nw247 3000 nc247 = true := by decide +kernel
-- LP$Tracks.originSet, steps 317
def nw248 : nOr := (ktX nc248.2.1, ngH, ngF, fun _ _ _ => none)
set_option maxRecDepth 1000000 in
theorem nq248 : ncheck kt0 [nc247] nw248 3000 nc248 = true := by decide +kernel
-- LP.origin, steps 431
def nw249 : nOr := (ktX nc249.2.1, ngH, ngF, fun y pc x => bif Nat.beq y 337 && Nat.beq pc 57 then some ([((0, 5, 0), (-2147483648), 2147483647), ((0, 6, 0), 0, 30), ((2, 186, 5), 0, 999)], [], (1, true), [], [(186, 0, 1), (186, 10, 39)], 130) else none)
set_option maxRecDepth 1000000 in
theorem nq249 : ncheck kt0 [nc128] nw249 3000 nc249 = true := by decide +kernel
-- LPModel.origin, steps 2193
