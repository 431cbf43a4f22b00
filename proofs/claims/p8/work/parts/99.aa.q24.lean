def nw268 : nOr := (ktX nc268.2.1, ngH, ngF, fun _ _ _ => none)
set_option maxRecDepth 1000000 in
theorem nq268 : ncheck kt0 [nc265, nc267] nw268 3000 nc268 = true := by decide +kernel
-- LP$Folk.walk, steps 368
def nw269 : nOr := (ktX nc269.2.1, ngH, ngF, fun y pc x => bif Nat.beq y 18 && Nat.beq pc 2 then some ([((0, 2, 0), 0, 5)], [], (0, true), [], [(67, 2, 4), (68, 4, 5), (70, 1, 1), (90, 0, 3), (91, 1, 120)], 47) else bif Nat.beq y 66 && Nat.beq pc 62 then some ([((0, 4, 0), 0, 9999), ((2, 70, 1), 0, 999)], [([(1, 2, 70, 1), (1, 0, 3, 0), ((-1), 0, 4, 0)], 999)], (0, true), [], [(67, 2, 4), (68, 4, 5)], 76) else none)
set_option maxRecDepth 1000000 in
theorem nq269 : ncheck kt0 [nc266, nc268] nw269 3000 nc269 = true := by decide +kernel
-- LP$Runner.buyAll, steps 484
def nw270 : nOr := (ktX nc270.2.1, ngH, ngF, fun y pc x => bif Nat.beq y 18 && Nat.beq pc 2 then some ([((0, 2, 0), 0, 5)], [], (0, true), [], [(67, 2, 2), (70, 1, 1)], 47) else bif Nat.beq y 67 && Nat.beq pc 31 then some ([((0, 3, 0), 0, 99), ((2, 70, 1), 0, 999)], [([(1, 2, 70, 1), (1, 0, 2, 0), ((-1), 0, 3, 0)], 999)], (0, true), [], [(67, 2, 2)], 44) else none)
set_option maxRecDepth 1000000 in
theorem nq270 : ncheck kt0 [nc266, nc268] nw270 3000 nc270 = true := by decide +kernel
-- LP$Runner.skipAll, steps 101
def nw271 : nOr := (ktX nc271.2.1, ngH, ngF, fun y pc x => bif Nat.beq y 62 && Nat.beq pc 46 then some ([((0, 4, 0), 0, 60), ((0, 5, 0), 0, 1000000)], [], (1, true), [], [(67, 5, 5)], 130) else none)
set_option maxRecDepth 1000000 in
theorem nq271 : ncheck kt0 [nc263, nc264, nc269, nc270] nw271 3000 nc271 = true := by decide +kernel
-- LP$Runner.run, steps 1565
def nw274 : nOr := (ktX nc274.2.1, ngH, ngF, fun y pc x => bif Nat.beq y 196 && Nat.beq pc 56 then some ([((1, 3, 0), (-9223372036854775808), 9223372036854775807), ((0, 5, 0), 0, 20)], [], (1, true), [], [(26, 0, 0)], 111) else none)
set_option maxRecDepth 1000000 in
theorem nq274 : ncheck kt0 [nc208, nc262, nc271, nc272, nc273] nw274 3000 nc274 = true := by decide +kernel
-- LP.mean, steps 284
def nw277 : nOr := (ktX nc277.2.1, ngH, ngF, fun _ _ _ => none)
set_option maxRecDepth 1000000 in
theorem nq277 : ncheck kt0 [nc97, nc210, nc258, nc275, nc276] nw277 3000 nc277 = true := by decide +kernel
-- LPModel.mean, steps 2730
