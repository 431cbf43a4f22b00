def nw265 : nOr := (ktX nc265.2.1, ngH, ngF, fun y pc x => bif Nat.beq y 196 && Nat.beq pc 56 then some ([((1, 3, 0), (-9223372036854775808), 9223372036854775807), ((0, 5, 0), 0, 20)], [], (1, true), [], [(26, 0, 0)], 111) else none)
set_option maxRecDepth 1000000 in
theorem nq265 : ncheck kt0 [nc199, nc253, nc262, nc263, nc264] nw265 3000 nc265 = true := by decide +kernel
-- LP.mean, steps 284
def nw268 : nOr := (ktX nc268.2.1, ngH, ngF, fun _ _ _ => none)
set_option maxRecDepth 1000000 in
theorem nq268 : ncheck kt0 [nc88, nc201, nc249, nc266, nc267] nw268 3000 nc268 = true := by decide +kernel
-- LPModel.mean, steps 2730
def nw275 : nOr := (ktX nc275.2.1, ngH, ngF, fun _ _ _ => none)
set_option maxRecDepth 1000000 in
theorem nq275 : ncheck kt0 [nc269, nc270, nc271, nc272, nc273, nc274] nw275 3000 nc275 = true := by decide +kernel
-- LP.mark, steps 504
def nw277 : nOr := (ktX nc277.2.1, ngH, ngF, fun _ _ _ => none)
set_option maxRecDepth 1000000 in
theorem nq277 : ncheck kt0 [nc276] nw277 3000 nc277 = true := by decide +kernel
-- LPModel.mark, steps 34
def nw284 : nOr := (ktX nc284.2.1, ngH, ngF, fun _ _ _ => none)
set_option maxRecDepth 1000000 in
theorem nq284 : ncheck kt0 [nc278, nc279, nc280, nc281, nc282, nc283] nw284 3000 nc284 = true := by decide +kernel
-- LP.undo, steps 488
