def nw143 : nOr := (ktX nc143.2.1, ngH, ngF, fun _ _ _ => none)
set_option maxRecDepth 1000000 in
theorem nq143 : ncheck kt0 [] nw143 3000 nc143 = true := by decide +kernel
-- LP.price, steps 92
def nw144 : nOr := (ktX nc144.2.1, ngH, ngF, fun _ _ _ => none)
set_option maxRecDepth 1000000 in
theorem nq144 : ncheck kt0 [] nw144 3000 nc144 = true := by decide +kernel
-- LPModel.price, steps 442
def nw145 : nOr := (ktX nc145.2.1, ngH, ngF, fun _ _ _ => none)
set_option maxRecDepth 1000000 in
theorem nq145 : ncheck kt0 [nc100] nw145 3000 nc145 = true := by decide +kernel
-- LP.build, steps 891
def nw146 : nOr := (ktX nc146.2.1, ngH, ngF, fun _ _ _ => none)
set_option maxRecDepth 1000000 in
theorem nq146 : ncheck kt0 [nc103] nw146 3000 nc146 = true := by decide +kernel
-- LPModel.build, steps 603
def nw147 : nOr := (ktX nc147.2.1, ngH, ngF, fun _ _ _ => none)
set_option maxRecDepth 1000000 in
theorem nq147 : ncheck kt0 [] nw147 3000 nc147 = true := by decide +kernel
-- LP.teach, steps 199
def nw148 : nOr := (ktX nc148.2.1, ngH, ngF, fun _ _ _ => none)
set_option maxRecDepth 1000000 in
theorem nq148 : ncheck kt0 [nc110] nw148 3000 nc148 = true := by decide +kernel
-- LPModel.teach, steps 1670
def nw149 : nOr := (ktX nc149.2.1, ngH, ngF, fun _ _ _ => none)
set_option maxRecDepth 1000000 in
theorem nq149 : ncheck kt0 [nc123] nw149 3000 nc149 = true := by decide +kernel
-- LP.place, steps 470
