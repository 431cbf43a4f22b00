def nw239 : nOr := (ktX nc239.2.1, ngH, ngF, fun y pc x => bif Nat.beq y 284 && Nat.beq pc 2 then some ([((0, 1, 0), 0, 5)], [], (0, true), [], [(186, 2, 2), (186, 5, 5), (188, 0, 3), (189, 0, 3)], 20) else bif Nat.beq y 335 && Nat.beq pc 75 then some ([((0, 4, 0), 0, 20), ((2, 186, 5), 0, 1199)], [([(1, 2, 186, 5), ((-1), 0, 4, 0)], 999)], (0, true), [], [(186, 2, 2), (189, 0, 3)], 133) else none)
set_option maxRecDepth 1000000 in
theorem nq239 : ncheck kt0 [nc92, nc102, nc129, nc130, nc131, nc132, nc133, nc161, nc162] nw239 3000 nc239 = true := by decide +kernel
-- LPModel.copyWay, steps 5771
