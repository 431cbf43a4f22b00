def nw284 : nOr := (ktX nc284.2.1, ngH, ngF, fun _ _ _ => none)
set_option maxRecDepth 1000000 in
theorem nq284 : ncheck kt0 [nc278, nc279, nc280, nc281, nc282, nc283] nw284 3000 nc284 = true := by decide +kernel
-- LP.mark, steps 504
def nw286 : nOr := (ktX nc286.2.1, ngH, ngF, fun _ _ _ => none)
set_option maxRecDepth 1000000 in
theorem nq286 : ncheck kt0 [nc285] nw286 3000 nc286 = true := by decide +kernel
-- LPModel.mark, steps 34
def nw293 : nOr := (ktX nc293.2.1, ngH, ngF, fun _ _ _ => none)
set_option maxRecDepth 1000000 in
theorem nq293 : ncheck kt0 [nc287, nc288, nc289, nc290, nc291, nc292] nw293 3000 nc293 = true := by decide +kernel
-- LP.undo, steps 488
def nw295 : nOr := (ktX nc295.2.1, ngH, ngF, fun _ _ _ => none)
set_option maxRecDepth 1000000 in
theorem nq295 : ncheck kt0 [nc294] nw295 3000 nc295 = true := by decide +kernel
-- LPModel.undo, steps 33
