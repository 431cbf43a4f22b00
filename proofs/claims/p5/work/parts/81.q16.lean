def nw147 : nOr := (ktX nc147.2.1, ngH, ngF, fun _ _ _ => none)
set_option maxRecDepth 1000000 in
theorem nq147 : ncheck kt0 [] nw147 3000 nc147 = true := by decide +kernel
-- LP.teach, steps 199
def nw148 : nOr := (ktX nc148.2.1, ngH, ngF, fun _ _ _ => none)
set_option maxRecDepth 1000000 in
theorem nq148 : ncheck kt0 [nc110] nw148 3000 nc148 = true := by decide +kernel
-- LPModel.teach, steps 1670
def nw149 : nOr := (ktX nc149.2.1, ngH, ngF, fun _ _ _ => none)
set_option maxRecDepth 1000000 in
theorem nq149 : ncheck kt0 [nc123] nw149 3000 nc149 = true := by decide +kernel
-- LP.place, steps 470
def nw150 : nOr := (ktX nc150.2.1, ngH, ngF, fun _ _ _ => none)
set_option maxRecDepth 1000000 in
theorem nq150 : ncheck kt0 [nc92, nc103] nw150 3000 nc150 = true := by decide +kernel
-- LPModel.place, steps 931
