def nw286 : nOr := (ktX nc286.2.1, ngH, ngF, fun _ _ _ => none)
set_option maxRecDepth 1000000 in
theorem nq286 : ncheck kt0 [nc285] nw286 3000 nc286 = true := by decide +kernel
-- LPModel.undo, steps 33
