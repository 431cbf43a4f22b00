def nw277 : nOr := (ktX nc277.2.1, ngH, ngF, fun _ _ _ => none)
set_option maxRecDepth 1000000 in
theorem nq277 : ncheck kt0 [nc97, nc210, nc258, nc275, nc276] nw277 3000 nc277 = true := by decide +kernel
-- LPModel.mean, steps 2730
def nw284 : nOr := (ktX nc284.2.1, ngH, ngF, fun _ _ _ => none)
set_option maxRecDepth 1000000 in
theorem nq284 : ncheck kt0 [nc278, nc279, nc280, nc281, nc282, nc283] nw284 3000 nc284 = true := by decide +kernel
-- LP.mark, steps 504
